/-! ===== rows woven ===== -/
theorem sm_mono {f : Int → Int} (hf : ∀ i, 0 ≤ f i) {lo i hi : Int} (h : lo ≤ i ∧ i ≤ hi) : sm f lo i ≤ sm f lo hi := by
  obtain ⟨d, hd⟩ : ∃ d : Nat, hi = i + d := ⟨(hi - i).toNat, by omega⟩
  subst hd
  induction d with
  | zero => simp
  | succ d ih =>
    have e := sm_s f (lo := lo) (i := i + d) (by omega)
    have := hf (i + d)
    have := ih (by omega)
    rw [show i + ((d + 1 : Nat) : Int) = i + d + 1 by omega]
    omega
def weaveN (σ : Int → Int) (b : Bool) : Nat → Int → Int
  | 0 => σ
  | k + 1 => up (fillN (weaveN σ b k) b (weaveN σ b k 4) (weaveN σ b k 0).toNat) 4 (weaveN σ b k 4 + 1)
theorem takeS_s {σ : Int → Int} {b : Bool} {co : Int} (k : Int) (h : 0 ≤ k) : takeS σ b co (k + 1) = takeS σ b co k + takeR σ b co (σ 4 + k) := by
  unfold takeS
  rw [← Int.add_assoc]
  exact sm_s _ (by omega)
theorem takeS_m {σ : Int → Int} {b : Bool} {co : Int} (h : WF σ) {i k : Int} (hk : 0 ≤ i ∧ i ≤ k) : takeS σ b co i ≤ takeS σ b co k := by
  unfold takeS
  exact sm_mono (fun r => (takeR_r h b co r).1) (by omega)
theorem takeS_0 {σ : Int → Int} {b : Bool} {co : Int} : takeS σ b co 0 = 0 := by
  unfold takeS
  rw [Int.add_zero]
  exact sm_0 _ _
/-- what holds after k rows -/
def weaO (σ : Int → Int) (b : Bool) (k : Nat) : Prop := WF (weaveN σ b k) ∧ (∀ p, p < 117 → (p < 6 ∨ 13 ≤ p) → p ≠ 4 → weaveN σ b k p = σ p) ∧ weaveN σ b k 4 = σ 4 + k ∧ (∀ co, 0 ≤ co → co < 7 → weaveN σ b k (6 + co) = σ (6 + co) - takeS σ b co k) ∧ (∀ c r, 0 ≤ c → c < 40 → 0 ≤ r → σ 4 + k ≤ r → cellS (weaveN σ b k) c r = cellS σ c r)
theorem wea_des {σ : Int → Int} {b : Bool} {k : Nat} (h : WF σ) (ho : weaO σ b k) (c r : Int) : desS (weaveN σ b k) c r = desS σ c r := by
  have h8 := h.cap8.1
  exact des_congr (ho.2.1 0 (by decide) (by decide) (by decide)) (ho.2.1 5 (by decide) (by decide) (by decide)) h.cap8 (fun k k0 k1 j j0 j1 => ho.2.1 _ (by omega) (by omega) (by omega))
theorem wea_tk {σ : Int → Int} {b : Bool} {k : Nat} (h : WF σ) (ho : weaO σ b k) (co : Int) : cnt (wanB (weaveN σ b k) b (weaveN σ b k 4) co) 0 (weaveN σ b k 0) = takeR σ b co (σ 4 + k) := by
  have w0 := h.1
  unfold WF0 at w0
  have e0 := ho.2.1 0 (by decide) (by decide) (by decide)
  rw [e0, ho.2.2.1]
  unfold takeR
  refine cnt_c (fun z z0 z1 => ?_)
  unfold wanB turnS
  rw [e0, wea_des h ho, ho.2.2.2.2 z (σ 4 + k) z0 (by omega) (by omega) (by omega)]
theorem wea_he {σ : Int → Int} {b : Bool} {k rows : Nat} (h : WF σ) (ho : weaO σ b k) (hk : k < rows) (he : ∀ co, 0 ≤ co → co < 7 → takeS σ b co rows ≤ σ (6 + co)) (co : Int) (c0 : 0 ≤ co) (c1 : co < 7) : cnt (wanB (weaveN σ b k) b (weaveN σ b k 4) co) 0 (weaveN σ b k 0) ≤ weaveN σ b k (6 + co) := by
  rw [wea_tk h ho, ho.2.2.2.1 co c0 c1]
  have e1 := takeS_s (σ := σ) (b := b) (co := co) (k : Int) (by omega)
  have e2 := takeS_m (b := b) (co := co) h (i := (k : Int) + 1) (k := rows) (by omega)
  have := he co c0 c1
  omega
theorem wea_all {σ : Int → Int} {b : Bool} (h : WF σ) (rows : Nat) (hr : σ 4 + rows ≤ σ 1) (he : ∀ co, 0 ≤ co → co < 7 → takeS σ b co rows ≤ σ (6 + co)) : ∀ k : Nat, k ≤ rows → weaO σ b k
  | 0, _ => ⟨h, fun _ _ _ _ => rfl, by show σ 4 = _; simp, fun co c0 c1 => by rw [show ((0 : Nat) : Int) = 0 from rfl, takeS_0]; show σ _ = _; omega, fun _ _ _ _ _ _ => rfl⟩
  | k + 1, hk => by
    have ho := wea_all h rows hr he k (by omega)
    have w0 := h.1
    unfold WF0 at w0
    have hh := wea_he h ho (by omega) he
    have e0 := ho.2.1 0 (by decide) (by decide) (by decide)
    have e1 := ho.2.1 1 (by decide) (by decide) (by decide)
    have e4 := ho.2.2.1
    have htk := fun co => wea_tk h ho co
    obtain ⟨o1, o2, o3, o4, o5⟩ := ho
    have hN : weaveN σ b (k + 1) = up (fillN (weaveN σ b k) b (weaveN σ b k 4) (weaveN σ b k 0).toNat) 4 (weaveN σ b k 4 + 1) := rfl
    obtain ⟨τ, hτ⟩ : ∃ τ, τ = weaveN σ b k := ⟨_, rfl⟩
    rw [← hτ] at hN hh e0 e1 e4 htk o1 o2 o3 o4 o5
    have hF := fill_WF (b := b) o1 (rn := τ 4) (by omega) hh (τ 0).toNat (by omega)
    have hlo := fun p (p1 : p < 117) (p2 : p < 6 ∨ 13 ≤ p) => fill_lo (b := b) (rn := τ 4) o1 (by omega) p1 p2 (τ 0).toNat
    have hce := fun c r (c0 : 0 ≤ c) (c1 : c < 40) (r0 : 0 ≤ r) => fill_cell (b := b) (rn := τ 4) (c := c) (r := r) o1 ⟨by omega, r0, c0, c1⟩ (τ 0).toNat (by omega)
    have hst := fun co (c0 : 0 ≤ co) (c1 : co < 7) => fill_st (b := b) (rn := τ 4) (co := co) o1 (by omega) ⟨c0, c1⟩ (τ 0).toNat (by omega)
    refine ⟨?_, fun p p1 p2 p3 => ?_, ?_, fun co c0 c1 => ?_, fun c r c0 c1 r0 r1 => ?_⟩
    · rw [hN]
      refine WF_fld hF 4 (τ 4 + 1) (by rw [hlo 1 (by decide) (by decide)]; omega) (fun _ c r c0 c1 r0 r1 => ?_)
      rw [hlo 0 (by decide) (by decide)] at c1
      have hd := desS_r o1 (if b then turnS τ c else c) r
      have hc := o1.2.2.2.1 c r c0 c1 r0 (by omega)
      have hc2 := o1.2.2.2.2.1 c r c0 c1 r0
      rw [hce c r c0 (by omega) r0]
      split
      · omega
      · rename_i g
        by_cases g2 : r = τ 4
        · have : cellS τ c r ≠ -1 := fun z => g ⟨g2, by omega, z⟩
          omega
        · exact hc2 (by omega)
    · rw [hN, up_n p3, hlo p p1 p2]; exact o2 p p1 p2 p3
    · rw [hN, up_s]; omega
    · rw [hN, up_n (by omega), hst co c0 c1, o4 co c0 c1]
      have e := htk co
      have e5 := takeS_s (σ := σ) (b := b) (co := co) (k : Int) (by omega)
      rw [show (((τ 0).toNat : Nat) : Int) = τ 0 by omega, e, show ((k + 1 : Nat) : Int) = (k : Int) + 1 by omega, e5]
      omega
    · rw [hN]
      have e : cellS (up (fillN τ b (τ 4) (τ 0).toNat) 4 (τ 4 + 1)) c r = cellS (fillN τ b (τ 4) (τ 0).toNat) c r := up_n (by omega)
      rw [e, hce c r c0 c1 r0, if_neg (by omega)]
      exact o5 c r c0 c1 r0 (by omega)
