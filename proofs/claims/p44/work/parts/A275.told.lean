/-! ===== what a caption is told ===== -/
theorem tdS_r {σ : Int → Int} {k j : Int} (h : capOK σ k) (hj : 0 ≤ j ∧ j < cp σ k 0) : 1 ≤ tdS σ k j ∧ tdS σ k j ≤ 26 := by
  have := h.2.2.2.2.2 j hj.1 hj.2
  unfold tdS
  omega
theorem lq_0 {σ : Int → Int} {k j : Int} : letQ σ k j 0 = tdS σ k j := rfl
theorem lq_1 {σ : Int → Int} {k j : Int} : letQ σ k j 1 = if legS σ k = false then -1 else rdS σ k j false := by
  unfold letQ
  rw [if_neg (by decide : ¬ (1 : Int) = 0), if_neg (by decide : ¬ (1 : Int) = 3), if_neg (by decide : ¬ (1 : Int) = 2)]
theorem lq_2 {σ : Int → Int} {k j : Int} : letQ σ k j 2 = if legS σ k = false then -1 else rdS σ k j true := by
  unfold letQ
  rw [if_neg (by decide : ¬ (2 : Int) = 0), if_neg (by decide : ¬ (2 : Int) = 3), if_pos rfl]
theorem lq_3 {σ : Int → Int} {k j : Int} : letQ σ k j 3 = if legS σ k = false then -1 else picS σ k j false := rfl
/-- told and due agree where the row is there and the letter is right -/
theorem lq_b {σ : Int → Int} {k : Int} {T Y : Int} (h : 1 ≤ T) : ((if legS σ k = false then -1 else Y) = T) ↔ (legS σ k && decide (Y = T)) = true := by
  cases hl : legS σ k
  · rw [if_pos rfl]
    simp
    omega
  · rw [if_neg (by decide)]
    simp
theorem bz_s {p : Int → Bool} {lo i : Int} (h : lo ≤ i) : cnt p lo (i + 1) = cnt p lo i + bz (p i) := by
  cases hb : p i
  · rw [cnt_f h hb]
    show _ = _ + (0 : Int)
    omega
  · rw [cnt_t h hb]
    rfl
/-- five rows from the top or from the foot -/
theorem al_rev {p q : Int → Bool} (h : ∀ d, 0 ≤ d → d < 5 → p d = q (4 - d)) : al p 0 5 = al q 0 5 := by
  have key : ∀ (a b : Int → Bool), (∀ d, 0 ≤ d → d < 5 → a d = b (4 - d)) → al a 0 5 = true → al b 0 5 = true := fun a b hab ha => al_iff.mpr (fun i i0 i1 => by
    have := al_iff.mp ha (4 - i) (by omega) (by omega)
    rw [hab (4 - i) (by omega) (by omega), show 4 - (4 - i) = i by omega] at this
    exact this)
  cases hp : al p 0 5
  · cases hq : al q 0 5
    · rfl
    · have := key q p (fun d d0 d1 => by rw [h (4 - d) (by omega) (by omega), show 4 - (4 - d) = d by omega]) hq
      rw [hp] at this
      exact this.symm ▸ rfl
  · exact (key p q h hp).symm
theorem lq_r {σ : Int → Int} {k j z : Int} (h : capOK σ k) (hj : 0 ≤ j ∧ j < cp σ k 0) (hz : 0 ≤ z ∧ z < 4) : -1 ≤ letQ σ k j z ∧ letQ σ k j z < 32768 := by
  have h0 := tdS_r h hj
  have h1 := picS_r σ k j false
  have h2 := ltrS_r (picS σ k j false)
  have h3 := ltrS_r (revS (picS σ k j false))
  have e2 : rdS σ k j false = ltrS (picS σ k j false) := rfl
  have e3 : rdS σ k j true = ltrS (revS (picS σ k j false)) := rfl
  rcases (show z = 0 ∨ z = 1 ∨ z = 2 ∨ z = 3 by omega) with rfl | rfl | rfl | rfl
  · rw [lq_0]; omega
  · rw [lq_1, e2]; split <;> omega
  · rw [lq_2, e3]; split <;> omega
  · rw [lq_3]; split <;> omega
