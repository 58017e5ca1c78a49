/-! ===== rows woven one after another: their mistakes, their minutes ===== -/
theorem smN_sh4 {f : Int → Int} {lo : Int} : ∀ n : Nat, smN (fun z => f (lo + z)) 0 n = smN f lo n
  | 0 => rfl
  | n + 1 => by
    show smN (fun z => f (lo + z)) 0 n + f (lo + (0 + (n : Int))) = smN f lo n + f (lo + n)
    rw [smN_sh4 n, show lo + (0 + (n : Int)) = lo + n by omega]
theorem wea_m14 {σ : Int → Int} {b : Bool} (h : WF σ) {m : Nat} (ho : weaO σ b m) (ho2 : weaO σ b (m + 1)) {r : Int} (hr : 0 ≤ r ∧ r < σ 4 + m) : misRow (weaveN σ b (m + 1)) r = misRow (weaveN σ b m) r := by
  have wf := h.1
  unfold WF0 at wf
  have e0 := ho.2.1 0 (by decide) (by decide) (by decide)
  have e02 := ho2.2.1 0 (by decide) (by decide) (by decide)
  have e4 := ho.2.2.1
  have e42 := ho2.2.2.1
  unfold misRow
  rw [e0, e02]
  refine cnt_c (fun c c0 c1 => ?_)
  unfold misS
  rw [e4, e42, decide_eq_true (p := r < σ 4 + (m : Int)) (by omega), decide_eq_true (p := r < σ 4 + ((m + 1 : Nat) : Int)) (by omega), wea_des h ho, wea_des h ho2]
  have ec : cellS (weaveN σ b (m + 1)) c r = cellS (weaveN σ b m) c r := by
    show up (fillN (weaveN σ b m) b (weaveN σ b m 4) (weaveN σ b m 0).toNat) 4 (weaveN σ b m 4 + 1) (117 + 40 * r + c) = _
    rw [up_n (by omega)]
    show cellS (fillN (weaveN σ b m) b (weaveN σ b m 4) (weaveN σ b m 0).toNat) c r = _
    rw [fill_cell ho.1 ⟨by omega, hr.1, c0, by omega⟩ _ (by omega), if_neg (by omega)]
  rw [ec]
theorem wea_mr4 {σ : Int → Int} {b : Bool} (h : WF σ) {rows : Nat} (hw : ∀ k : Nat, k ≤ rows → weaO σ b k) {z : Nat} : ∀ m : Nat, z < m → m ≤ rows → misRow (weaveN σ b m) (σ 4 + z) = misRow (weaveN σ b (z + 1)) (σ 4 + z)
  | 0, hz, _ => absurd hz (by omega)
  | m + 1, hz, hm => by
    by_cases e : z = m
    · rw [e]
    · have wf := h.1
      unfold WF0 at wf
      rw [wea_m14 h (hw m (by omega)) (hw (m + 1) hm) ⟨by omega, by omega⟩]
      exact wea_mr4 h hw m (by omega) (by omega)
theorem wea_mf4 {σ : Int → Int} {b : Bool} (h : WF σ) {rows : Nat} (hw : ∀ k : Nat, k ≤ rows → weaO σ b k) : sm (fun z => misRow (weaveN σ b (z.toNat + 1)) (σ 4 + z)) 0 (rows : Int) = misFrom (weaveN σ b rows) (σ 4) := by
  have e4 := (hw rows (Nat.le_refl _)).2.2.1
  unfold misFrom
  rw [e4]
  unfold sm
  rw [show (σ 4 + (rows : Int) - σ 4).toNat = rows by omega, show ((rows : Int) - 0).toNat = rows by omega, ← smN_sh4 (f := misRow (weaveN σ b rows)) (lo := σ 4)]
  refine smN_c rows (fun i i0 i1 => ?_)
  have := wea_mr4 h hw (z := i.toNat) rows (by omega) (Nat.le_refl _)
  rw [show ((i.toNat : Nat) : Int) = i by omega] at this
  exact this.symm
theorem mac_s4 {σ : Int → Int} {b : Bool} (h : WF σ) {k : Nat} (ho : weaO σ b k) (ho2 : weaO σ b (k + 1)) (h1 : σ 4 + k < σ 1) : macN σ b (k + 1) = macN σ b k + (weaveN σ b k 0 + 7 * jcS (weaveN σ b (k + 1)) (weaveN σ b k 4)) / 4 := by
  have wf := h.1
  unfold WF0 at wf
  have e0 := ho.2.1 0 (by decide) (by decide) (by decide)
  have e1 := ho.2.1 1 (by decide) (by decide) (by decide)
  have e4 := ho.2.2.1
  have hj := jcS_r ho2.1.1 (weaveN σ b k 4)
  have ef0 : fillN (weaveN σ b k) b (weaveN σ b k 4) (weaveN σ b k 0).toNat 0 = weaveN σ b k 0 := fill_lo ho.1 (by omega) (by decide) (by decide) _
  have ej : jcS (weaveN σ b (k + 1)) (weaveN σ b k 4) = jcS (fillN (weaveN σ b k) b (weaveN σ b k 4) (weaveN σ b k 0).toNat) (weaveN σ b k 4) := jc_up4 (by omega)
  show macN σ b k + mnS _ _ = _
  unfold mnS
  rw [jo_jc (fun c c0 c1 => wea_fu ho.1 (by omega) c c0 (by rw [ef0] at c1; exact c1)), ef0, ← ej, min_e (by omega) hj]
theorem mac_r4 {σ : Int → Int} {b : Bool} (h : WF σ) {rows : Nat} (hw : ∀ k : Nat, k ≤ rows → weaO σ b k) (hr : σ 4 + rows ≤ σ 1) : ∀ k : Nat, k ≤ rows → 0 ≤ macN σ b k ∧ macN σ b k ≤ 80 * (k : Int)
  | 0, _ => ⟨Int.le_refl 0, by show (0 : Int) ≤ _; omega⟩
  | k + 1, hk => by
    have ih := mac_r4 h hw hr k (by omega)
    have wf := h.1
    unfold WF0 at wf
    have ho := hw k (by omega)
    have ho2 := hw (k + 1) hk
    have e0 := ho.2.1 0 (by decide) (by decide) (by decide)
    have hj := jcS_r ho2.1.1 (weaveN σ b k 4)
    rw [mac_s4 h ho ho2 (by omega)]
    omega
theorem mac_04 (af σ : Int → Int) (b : Bool) : up af 8 (af 8 + macN σ b 0) = af := by
  show up af 8 (af 8 + 0) = af
  rw [Int.add_zero, up_self]
