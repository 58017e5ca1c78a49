/-! ===== acts one after another ===== -/
theorem atS_W {σ : Int → Int} {k a b c : Int} (h : WF σ) (ho : actOK σ k a b c) (hR : atR σ k a b c = 0) : WF (atS σ k a b c) ∧ atS σ k a b c 0 = σ 0 := by
  have w0 := h.1
  unfold WF0 at w0
  rcases ho with ⟨hk, ha, hb⟩ | hk | ⟨hk, ha, hb⟩ | ⟨hk, ha⟩ | hk
  · unfold atR at hR
    rw [if_pos hk] at hR
    split at hR
    · exact absurd hR (by decide)
    · split at hR
      · exact absurd hR (by decide)
      · have e : atS σ k a b c = passN σ a b (c - b + 1).toNat := by unfold atS; rw [if_pos hk]
        rw [e]
        exact ⟨pass_WF h (by omega) (by omega) _ (by omega) (by omega), pass_lo (by omega) (by omega) (by omega) _ (by omega) (by omega)⟩
  · unfold atR at hR
    rw [if_neg (by omega), if_pos hk] at hR
    split at hR
    · exact absurd hR (by decide)
    · split at hR
      · exact absurd hR (by decide)
      · have hop : σ 4 < σ 1 := by omega
        have e : atS σ k a b c = btS σ := by unfold atS; rw [if_neg (by omega), if_pos hk]
        have hW := beat_WF h hop (by rw [emp_eq2 hop (by omega)]; omega) (σ 0).toNat (by omega)
        have l0 := beat_lo (σ := σ) (p := 0) (by omega) (by decide) (by decide) (σ 0).toNat
        have l1 := beat_lo (σ := σ) (p := 1) (by omega) (by decide) (by decide) (σ 0).toNat
        have l4 := beat_lo (σ := σ) (p := 4) (by omega) (by decide) (by decide) (σ 0).toNat
        rw [e]
        refine ⟨WF_fld hW 4 (σ 4 + 1) (.inr (.inr ⟨rfl, by omega⟩)) (fun _ x r c0 c1 r0 r1 => ?_), ?_⟩
        · rw [l0] at c1
          by_cases g : r = σ 4
          · rw [g]; exact beat_fu h hop x c0 c1
          · exact hW.2.2.2.2.1 x r c0 (by rw [l0]; exact c1) r0 (by rw [l4]; omega)
        · show up (beatN σ (σ 0).toNat) 4 (σ 4 + 1) 0 = σ 0
          rw [up_n (by decide)]
          exact l0
  · unfold atR at hR
    rw [if_neg (by omega), if_neg (by omega), if_pos hk] at hR
    split at hR
    · exact absurd hR (by decide)
    · split at hR
      · exact absurd hR (by decide)
      · rename_i g1 g2
        have hen : enoS σ (decide (b = 1)) a = true := by
          cases hz : enoS σ (decide (b = 1)) a
          · exact absurd hz g2
          · rfl
        have e : atS σ k a b c = weaveN σ (decide (b = 1)) a.toNat := by unfold atS; rw [if_neg (by omega), if_neg (by omega), if_pos hk]
        have hw := wea_all (b := decide (b = 1)) h a.toNat (by omega) (fun co c0 c1 => by rw [show ((a.toNat : Nat) : Int) = a by omega]; exact eno_he hen co c0 c1) a.toNat (Nat.le_refl _)
        rw [e]
        exact ⟨hw.1, hw.2.1 0 (by decide) (by decide) (by decide)⟩
  · unfold atR at hR
    rw [if_neg (by omega), if_neg (by omega), if_neg (by omega), if_pos hk] at hR
    split at hR
    · exact absurd hR (by decide)
    · have e : atS σ k a b c = uqS σ (σ 4 - a) := by unfold atS; rw [if_neg (by omega), if_neg (by omega), if_neg (by omega), if_pos hk]
      have hU := unp_WF h (lo := σ 4 - a) (i := 7) (by omega) (by omega)
      have h4 : unpS σ (σ 4 - a) 7 4 = σ 4 := by unfold unpS; rw [if_neg (by omega)]
      rw [e]
      refine ⟨(clr_WF hU (by rw [h4]; omega)).to (uq_eq h (by omega)), ?_⟩
      show up (usS σ (σ 4 - a) 7) 3 _ 0 = σ 0
      rw [up_n (by decide)]
      unfold usS
      rw [if_neg (by omega)]
      exact uc_lo (by decide) (by decide)
  · have e : atS σ k a b c = up σ 3 (σ 4) := by unfold atS; rw [if_neg (by omega), if_neg (by omega), if_neg (by omega), if_neg (by omega)]
    rw [e]
    exact ⟨WF_fld h 3 (σ 4) (.inr (.inl ⟨rfl, by omega⟩)) (fun z => absurd z (by decide)), up_n (by decide)⟩
theorem dS_W {σ : Int → Int} {k a b c : Int} (h : WF σ) (ho : actOK σ k a b c) : WF (dS σ k a b c) ∧ dS σ k a b c 0 = σ 0 := by
  unfold dS
  split
  · exact atS_W h ho (by assumption)
  · exact ⟨h, rfl⟩
/-- the lines L run one after another from the state s: n acts were done before -/
def runL {S : Type} (ok : S → Int → Bool) (st : S → Int → S) : List Int → Int → S → Int × S
  | [], n, s => (n, s)
  | p :: L, n, s => if n < 200 then (if ok s p = true then runL ok st L (n + 1) (st s p) else (n, st s p)) else (n, s)
theorem runL_s {S : Type} {ok : S → Int → Bool} {st : S → Int → S} {p n : Int} {L : List Int} {s : S} (hn : n < 200) (ho : ok s p = true) : runL ok st (p :: L) n s = runL ok st L (n + 1) (st s p) := by
  show (if n < 200 then (if ok s p = true then runL ok st L (n + 1) (st s p) else (n, st s p)) else (n, s)) = _
  rw [if_pos hn, if_pos ho]
theorem runL_f {S : Type} {ok : S → Int → Bool} {st : S → Int → S} {p n : Int} {L : List Int} {s : S} (hn : n < 200) (ho : ok s p = false) : runL ok st (p :: L) n s = (n, st s p) := by
  show (if n < 200 then (if ok s p = true then runL ok st L (n + 1) (st s p) else (n, st s p)) else (n, s)) = _
  rw [if_pos hn, if_neg (by rw [ho]; decide)]
theorem runL_e {S : Type} {ok : S → Int → Bool} {st : S → Int → S} {n : Int} {s : S} (hn : ¬ (n < 200)) : ∀ L : List Int, runL ok st L n s = (n, s)
  | [] => rfl
  | p :: L => by
    show (if n < 200 then (if ok s p = true then runL ok st L (n + 1) (st s p) else (n, st s p)) else (n, s)) = _
    rw [if_neg hn]
/-- the reference's state while it plays: v, the row, the rows kept, the refusals -/
def SR : Type := (Int → Int) × (Int → Int) × (Int → Int) × (Int → Int)
def okR (sc : Int → Int) (s : SR) (p : Int) : Bool := decide (0 ≤ atO s.2.1 (sc (4 * p)) (sc (4 * p + 1)) (sc (4 * p + 2)) (sc (4 * p + 3)))
def stR (sc : Int → Int) (s : SR) (p : Int) : SR := (dV s.1 s.2.1 (sc (4 * p)) (sc (4 * p + 1)) (sc (4 * p + 2)) (sc (4 * p + 3)), dS s.2.1 (sc (4 * p)) (sc (4 * p + 1)) (sc (4 * p + 2)) (sc (4 * p + 3)), dP (s.1 5) s.2.2.1 s.2.1 (sc (4 * p)) (sc (4 * p + 1)) (sc (4 * p + 2)) (sc (4 * p + 3)), dF s.2.2.2 s.2.1 (sc (4 * p)) (sc (4 * p + 1)) (sc (4 * p + 2)) (sc (4 * p + 3)))
def okP (sc : Int → Int) (wd p : Int) : Prop := (sc (4 * p) = 0 ∧ (0 ≤ sc (4 * p + 1) ∧ sc (4 * p + 1) ≤ 6) ∧ (0 ≤ sc (4 * p + 2) ∧ sc (4 * p + 2) ≤ sc (4 * p + 3) ∧ sc (4 * p + 3) < wd)) ∨ sc (4 * p) = 1 ∨ (sc (4 * p) = 2 ∧ (1 ≤ sc (4 * p + 1) ∧ sc (4 * p + 1) ≤ 30) ∧ (sc (4 * p + 2) = 0 ∨ sc (4 * p + 2) = 1)) ∨ (sc (4 * p) = 3 ∧ (0 ≤ sc (4 * p + 1) ∧ sc (4 * p + 1) ≤ 30)) ∨ sc (4 * p) = 4
/-- the reference's walk from the line i on ends after R rounds, and its acts are L -/
def Rem (sc : Int → Int) (ln wd : Int) : Nat → Int → Int → (Int → Int) → (Int → Int) → List Int → Prop
  | 0, i, _, _, _, L => ln ≤ i ∧ L = []
  | R + 1, i, dp, be, la, L => (0 ≤ i ∧ i < ln ∧ i < 60) ∧ ((sc (4 * i) = 5 ∧ (0 ≤ dp ∧ dp < 3) ∧ (1 ≤ sc (4 * i + 1) ∧ sc (4 * i + 1) ≤ 20) ∧ Rem sc ln wd R (i + 1) (dp + 1) (up be dp i) (up la dp (sc (4 * i + 1))) L) ∨ (sc (4 * i) = 6 ∧ (1 ≤ dp ∧ dp ≤ 3) ∧ (1 ≤ la (dp - 1) ∧ la (dp - 1) ≤ 20) ∧ (0 ≤ be (dp - 1) ∧ be (dp - 1) < 60) ∧ ((0 < la (dp - 1) - 1 → Rem sc ln wd R (be (dp - 1) + 1) dp be (up la (dp - 1) (la (dp - 1) - 1)) L) ∧ (¬ (0 < la (dp - 1) - 1) → Rem sc ln wd R (i + 1) (dp - 1) be (up la (dp - 1) (la (dp - 1) - 1)) L))) ∨ (okP sc wd i ∧ ∃ L2, L = i :: L2 ∧ Rem sc ln wd R (i + 1) dp be la L2))
theorem okP_A {sc σ : Int → Int} {wd p : Int} (h : okP sc wd p) (h0 : σ 0 = wd) : actOK σ (sc (4 * p)) (sc (4 * p + 1)) (sc (4 * p + 2)) (sc (4 * p + 3)) := by
  unfold actOK
  rw [h0]
  exact h
theorem okA_P {kd ar sc : Int → Int} {wd p : Int} (h : okA kd ar sc wd p) : okP sc wd p := by
  obtain ⟨_, h⟩ := h
  rcases h with h | h | h | h | h
  · exact .inl ⟨h.1, h.2.2.2.2.1, h.2.2.2.2.2⟩
  · exact .inr (.inl h)
  · exact .inr (.inr (.inl ⟨h.1, h.2.2.2.1, h.2.2.2.2⟩))
  · exact .inr (.inr (.inr (.inl ⟨h.1, h.2.2⟩)))
  · exact .inr (.inr (.inr (.inr h)))
