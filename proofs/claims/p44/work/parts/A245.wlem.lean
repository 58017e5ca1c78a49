theorem lw14 {j : Int} (h : 0 ≤ j ∧ j < 10) : 97 ≤ lw 14 j ∧ lw 14 j ≤ 122 := by
  obtain ⟨n, rfl⟩ : ∃ n : Nat, j = (n : Int) := ⟨j.toNat, by omega⟩
  have h9 : ∀ n : Nat, n < 10 → 97 ≤ lw 14 (n : Int) ∧ lw 14 (n : Int) ≤ 122 := by decide +kernel
  exact h9 n (by omega)
theorem apS_r {f g : Int → Int} {n m a b : Int} (h : ∀ j, 0 ≤ j → j < n → a ≤ f j ∧ f j ≤ b) (hg : ∀ j, 0 ≤ j → j < m → a ≤ g j ∧ g j ≤ b) : ∀ j, 0 ≤ j → j < n + m → a ≤ apS f n g j ∧ apS f n g j ≤ b := fun j j0 j1 => by
  unfold apS
  by_cases q : j < n
  · rw [if_pos q]; exact h j j0 q
  · rw [if_neg q]; exact hg _ (by omega) (by omega)
