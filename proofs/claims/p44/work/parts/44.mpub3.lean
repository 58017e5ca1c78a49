theorem slQ_r {σ : Int → Int} (h : WF σ) (L : Int) : 0 ≤ slQ σ L ∧ slQ σ L ≤ 2000 := by
  have hF := h.1
  unfold WF0 at hF
  have h2 := sm_r (f := slB σ L) (lo := 0) (hi := σ 0 - 1) (M := 31) (by decide) (fun i _ _ => by
    have := cnt_r (fun r => enB σ i r && decide (L ≤ rnS σ i r)) (lo := 0) (hi := σ 4 + 1) (by omega)
    unfold slB
    omega) (by omega)
  unfold slQ
  omega
def shN (σ : Int → Int) (co : Int) : Int := sm (fun y => if y < σ 4 then wovR σ co y else 0) 0 (σ 1)
theorem shN_r {σ : Int → Int} (h : WF σ) (co : Int) : 0 ≤ shN σ co ∧ shN σ co ≤ 1200 := by
  have hF := h.1
  unfold WF0 at hF
  have h2 := sm_r (f := fun y => if y < σ 4 then wovR σ co y else 0) (lo := 0) (hi := σ 1) (M := 40) (by decide) (fun i _ _ => by
    have := wovR_r h co i
    by_cases h9 : i < σ 4
    · simp only [if_pos h9]; exact this
    · simp only [if_neg h9]; omega) (by omega)
  unfold shN
  omega
theorem mul_r {σ : Int → Int} (h : WF0 σ) : 0 ≤ σ 0 * σ 4 ∧ σ 0 * σ 4 ≤ 1200 := by
  unfold WF0 at h
  have h1 : 0 ≤ σ 0 * σ 4 := Int.mul_nonneg (by omega) (by omega)
  have h2 : σ 0 * σ 4 ≤ 40 * 30 := Int.mul_le_mul (by omega) (by omega) (by omega) (by omega)
  omega
def shQ (σ : Int → Int) (co : Int) : UInt32 := if σ 0 * σ 4 = 0 then FP.fconst0 else FP.fdiv (FP.i2f (iI (shN σ co))) (FP.i2f (iI (σ 0 * σ 4)))
def jcS (σ : Int → Int) (r : Int) : Int := cnt (fun z => decide (cellS σ z r ≠ cellS σ (z + 1) r)) 0 (σ 0 - 1)
theorem jcS_r {σ : Int → Int} (h : WF0 σ) (r : Int) : 0 ≤ jcS σ r ∧ jcS σ r < 40 := by
  unfold WF0 at h
  have h2 := cnt_r (fun z => decide (cellS σ z r ≠ cellS σ (z + 1) r)) (lo := 0) (hi := σ 0 - 1) (by omega)
  unfold jcS
  omega
theorem jcN_r {σ : Int → Int} (h : WF σ) : 0 ≤ sm (jcS σ) 0 (σ 4) ∧ sm (jcS σ) 0 (σ 4) ≤ 1200 := by
  have hF := h.1
  unfold WF0 at hF
  have h2 := sm_r (f := jcS σ) (lo := 0) (hi := σ 4) (M := 40) (by decide) (fun i _ _ => by have := jcS_r h.1 i; omega) (by omega)
  omega
def mjQ (σ : Int → Int) : UInt64 := if σ 4 = 0 then FP.dconst0 else FP.ddiv (FP.i2d (iI (sm (jcS σ) 0 (σ 4)))) (FP.i2d (iI (σ 4)))
theorem up_up (f : Int → Int) (k x y : Int) : up (up f k x) k y = up f k y := by
  funext j
  unfold up
  split <;> rfl
theorem bz_inj {a b : Bool} (h : bz a = bz b) : a = b := by cases a <;> cases b <;> first | rfl | (revert h; decide)
theorem bz_ne {a b : Bool} (h : bz a ≠ bz b) : (a == b) = false := by cases a <;> cases b <;> first | rfl | exact absurd rfl h
