theorem misSeen_rr {σ : Int → Int} (h : WF σ) : 0 ≤ misSeen σ ∧ misSeen σ ≤ 1200 := by
  have w0 := h.1
  unfold WF0 at w0
  have h1 := sm_r (f := fun r => if seenS σ r then misRow σ r else 0) (lo := 0) (hi := σ 4) (M := 40) (by decide) (fun i _ _ => by
    have := misRow_r h i
    show 0 ≤ (if seenS σ i then misRow σ i else 0) ∧ (if seenS σ i then misRow σ i else 0) ≤ 40
    split <;> omega) (by omega)
  unfold misSeen
  omega
theorem atR_r (σ : Int → Int) (k a b c : Int) : 0 ≤ atR σ k a b c ∧ atR σ k a b c ≤ 3 := by
  unfold atR
  (repeat' split) <;> decide
theorem atO_r {σ : Int → Int} {k a b c : Int} (h : WF σ) (ho : actOK σ k a b c) : -100000 ≤ atO σ k a b c ∧ atO σ k a b c ≤ 100000 := by
  have w0 := h.1
  unfold WF0 at w0
  have hr := atR_r σ k a b c
  by_cases hR : atR σ k a b c = 0
  · rw [atO_0 hR]
    have hW := (atS_W h ho hR).1
    rcases ho with ⟨hk, ha, hb⟩ | hk | ⟨hk, ha, hb⟩ | ⟨hk, ha⟩ | hk
    · have e : atT σ k a b c = σ (6 + a) - (c - b + 1) := by unfold atT; rw [if_pos hk]
      have := h.2.1 a (by omega) (by omega)
      omega
    · have e : atT σ k a b c = misRow (btS σ) (σ 4) := by unfold atT; rw [if_neg (by omega), if_pos hk]
      have e2 : atS σ k a b c = btS σ := by unfold atS; rw [if_neg (by omega), if_pos hk]
      rw [e2] at hW
      have := misRow_r hW (σ 4)
      omega
    · have e : atT σ k a b c = misFrom (weaveN σ (decide (b = 1)) a.toNat) (σ 4) := by unfold atT; rw [if_neg (by omega), if_neg (by omega), if_pos hk]
      have e2 : atS σ k a b c = weaveN σ (decide (b = 1)) a.toNat := by unfold atS; rw [if_neg (by omega), if_neg (by omega), if_pos hk]
      rw [e2] at hW
      have h1 : σ 4 + a ≤ σ 1 := by
        unfold atR at hR
        rw [if_neg (by omega), if_neg (by omega), if_pos hk] at hR
        split at hR
        · exact absurd hR (by decide)
        · omega
      have hen : enoS σ (decide (b = 1)) a = true := by
        unfold atR at hR
        rw [if_neg (by omega), if_neg (by omega), if_pos hk, if_neg (by omega)] at hR
        cases hz : enoS σ (decide (b = 1)) a
        · rw [hz] at hR; exact absurd hR (by decide)
        · rfl
      have hw := wea_all (b := decide (b = 1)) h a.toNat (by omega) (fun co c0 c1 => by rw [show ((a.toNat : Nat) : Int) = a by omega]; exact eno_he hen co c0 c1) a.toNat (Nat.le_refl _)
      have h4 := hw.2.2.1
      have := misFrom_r hW (lo := σ 4) (by omega) (by omega)
      omega
    · have e : atT σ k a b c = sm (wvnS σ (σ 4 - a)) 0 7 := by unfold atT; rw [if_neg (by omega), if_neg (by omega), if_neg (by omega), if_pos hk]
      have h1 : a ≤ σ 4 := by
        unfold atR at hR
        rw [if_neg (by omega), if_neg (by omega), if_neg (by omega), if_pos hk] at hR
        split at hR
        · exact absurd hR (by decide)
        · omega
      have := sm_r (f := wvnS σ (σ 4 - a)) (lo := 0) (hi := 7) (M := 1200) (by decide) (fun i _ _ => wvn_r h.1 (by omega) i) (by decide)
      omega
    · have e : atT σ k a b c = misSeen (up σ 3 (σ 4)) - misSeen σ := by unfold atT; rw [if_neg (by omega), if_neg (by omega), if_neg (by omega), if_neg (by omega)]
      have e2 : atS σ k a b c = up σ 3 (σ 4) := by unfold atS; rw [if_neg (by omega), if_neg (by omega), if_neg (by omega), if_neg (by omega)]
      rw [e2] at hW
      have h1 := misSeen_rr hW
      have h2 := misSeen_rr h
      omega
  · rw [atO_n rfl hR]
    omega
theorem or_1 {P Q R : Prop} (h : P ∨ Q ∨ R) (hq : ¬ Q) (hr : ¬ R) : P := h.elim id (fun z => z.elim (fun x => absurd x hq) (fun x => absurd x hr))
theorem or_2 {P Q R : Prop} (h : P ∨ Q ∨ R) (hp : ¬ P) (hr : ¬ R) : Q := h.elim (fun x => absurd x hp) (fun z => z.elim id (fun x => absurd x hr))
theorem or_3 {P Q R : Prop} (h : P ∨ Q ∨ R) (hp : ¬ P) (hq : ¬ Q) : R := h.elim (fun x => absurd x hp) (fun z => z.elim (fun x => absurd x hq) id)
theorem okP_k {sc : Int → Int} {wd p : Int} (h : okP sc wd p) : 0 ≤ sc (4 * p) ∧ sc (4 * p) ≤ 4 := by
  rcases h with h | h | h | h | h
  · omega
  · omega
  · have := h.1; omega
  · omega
  · omega
theorem rem_e {sc be la : Int → Int} {ln wd i dp : Int} {L : List Int} : ∀ {R : Nat}, Rem sc ln wd R i dp be la L → ln ≤ i → L = []
  | 0, h, _ => h.2
  | R + 1, h, g => by
    have := h.1
    omega
theorem rem_p {sc be la : Int → Int} {ln wd i dp : Int} {L : List Int} : ∀ {R : Nat}, Rem sc ln wd R i dp be la L → i < ln → ∃ r : Nat, R = r + 1 ∧ (0 ≤ i ∧ i < ln ∧ i < 60) ∧ ((sc (4 * i) = 5 ∧ (0 ≤ dp ∧ dp < 3) ∧ (1 ≤ sc (4 * i + 1) ∧ sc (4 * i + 1) ≤ 20) ∧ Rem sc ln wd r (i + 1) (dp + 1) (up be dp i) (up la dp (sc (4 * i + 1))) L) ∨ (sc (4 * i) = 6 ∧ (1 ≤ dp ∧ dp ≤ 3) ∧ (1 ≤ la (dp - 1) ∧ la (dp - 1) ≤ 20) ∧ (0 ≤ be (dp - 1) ∧ be (dp - 1) < 60) ∧ ((0 < la (dp - 1) - 1 → Rem sc ln wd r (be (dp - 1) + 1) dp be (up la (dp - 1) (la (dp - 1) - 1)) L) ∧ (¬ (0 < la (dp - 1) - 1) → Rem sc ln wd r (i + 1) (dp - 1) be (up la (dp - 1) (la (dp - 1) - 1)) L))) ∨ (okP sc wd i ∧ ∃ L2, L = i :: L2 ∧ Rem sc ln wd r (i + 1) dp be la L2))
  | 0, h, g => by
    have := h.1
    omega
  | R + 1, h, g => ⟨R, rfl, h⟩
theorem rem_k {sc : Int → Int} {wd i : Int} {P Q R : Prop} (h : (sc (4 * i) = 5 ∧ P) ∨ (sc (4 * i) = 6 ∧ Q) ∨ (okP sc wd i ∧ R)) : 0 ≤ sc (4 * i) ∧ sc (4 * i) ≤ 6 := by
  rcases h with h | h | h
  · omega
  · omega
  · have := okP_k h.1
    omega
theorem dV_n {v σ : Int → Int} {k a b c p : Int} (hp : p ≠ 5 ∧ p ≠ 8 ∧ p ≠ 9) : dV v σ k a b c p = v p := by
  unfold dV
  split
  · rw [up_n hp.2.2, up_n hp.2.1, up_n hp.1]
  · rfl
theorem dV_5 {v σ : Int → Int} {k a b c : Int} (h : 0 ≤ v 5 ∧ v 5 ≤ 8) : 0 ≤ dV v σ k a b c 5 ∧ dV v σ k a b c 5 ≤ 8 := by
  unfold dV
  split
  · rw [up_n (by decide), up_n (by decide), up_s]
    omega
  · exact h
theorem sgG_I {f : Int → Int} {wd : Int} : ∀ (n : Nat) (v sc : Int → Int), sI f v → sI f (sgG f wd n v sc).1 ∧ ∀ k, (k < 14 ∨ 19 < k) → k ≠ 27 ∧ k ≠ 28 ∧ k ≠ 29 → (sgG f wd n v sc).1 k = v k
  | 0, v, sc, h => ⟨h, fun _ _ _ => rfl⟩
  | n + 1, v, sc, h => by
    by_cases g : v 18 = 0 ∧ v 16 ≠ 0
    · have e : sgG f wd (n + 1) v sc = sgG f wd n (csV f v wd) (csS f v sc wd) := if_pos g
      have ih := sgG_I (wd := wd) n (csV f v wd) (csS f v sc wd) (csV_I (wd := wd) h)
      rw [e]
      exact ⟨ih.1, fun k k1 k2 => (ih.2 k k1 k2).trans (csV_n h.1 k1 k2)⟩
    · rw [sgG_e g]
      exact ⟨h, fun _ _ _ => rfl⟩
theorem sgV_P {f v sc : Int → Int} {wd : Int} (h : vP f v) : vP f (sgV f v sc wd) := by
  have h1 := (sgG_I (wd := wd) 402 (sc0 v) sc (sc0_I h)).1.1
  unfold sgV
  split
  · exact h1.fa (by decide)
  · exact h1
theorem sgV_n {f v sc : Int → Int} {wd k : Int} (h : vP f v) (hk : k < 14 ∨ 19 < k) (h2 : k ≠ 27 ∧ k ≠ 28 ∧ k ≠ 29) : sgV f v sc wd k = v k := by
  have h1 := (sgG_I (wd := wd) 402 (sc0 v) sc (sc0_I h)).2 k hk h2
  have h3 : sc0 v k = v k := by
    unfold sc0
    rw [up_n h2.2.2, up_n h2.2.1, up_n h2.1]
  unfold sgV
  split
  · rw [fa_n (by omega) (by omega)]
    exact h1.trans h3
  · exact h1.trans h3
