/-- a row that is full: its joins as it is are those as it would be -/
theorem jo_full {σ : Int → Int} {r : Int} (h : ∀ c, 0 ≤ c → c < σ 0 → 0 ≤ cellS σ c r) : cnt (fun z => decide (cellS σ z r ≠ cellS σ (z + 1) r)) 0 (σ 0 - 1) = joS σ r := by
  unfold joS
  refine cnt_c (fun z z0 z1 => ?_)
  have h1 := h z z0 (by omega)
  have h2 := h (z + 1) (by omega) (by omega)
  unfold wvS
  rw [if_neg (by omega), if_neg (by omega)]
