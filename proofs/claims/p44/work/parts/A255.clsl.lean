/-! ===== the class beside the law's cloth ===== -/
theorem ap_up {W g : Int → Int} {n x : Int} (hg : g 0 = x) : ∀ j, j < n + 1 → apS W n g j = up W n x j := fun j hj => by
  unfold apS up
  by_cases h : j < n
  · rw [if_pos h, if_neg (by omega)]
  · rw [if_neg h, if_pos (by omega), show j - n = 0 by omega, hg]
theorem ap_up2 {W g g2 : Int → Int} {n x z : Int} (hg : g 0 = x) (hg2 : g2 0 = z) : ∀ j, j < n + 1 + 1 → apS (apS W n g) (n + 1) g2 j = up (up W n x) (n + 1) z j := fun j hj => by
  rw [ap_up hg2 j hj]
  by_cases h : j = n + 1
  · rw [h, up_s, up_s]
  · rw [up_n h, up_n h]
    exact ap_up hg j (by omega)
theorem dg1 {x : Int} (h : 0 ≤ x ∧ x < 10) : dlN x = 1 ∧ dgC x 0 = 48 + x := by
  unfold dlN dgC
  exact ⟨if_pos h.2, by rw [if_pos h.2]⟩
theorem ext.eqN {w w2 : Wo} {N : Nat → Prop} (g : ext w w2) (hN : ∀ q, N q → w q ≠ none) (q : Nat) (hq : N q) : w2 q = w q := by
  cases h2 : w q with
  | none => exact absurd h2 (hN q hq)
  | some e => exact g q e h2
