/-- the minutes of a row, as the machine works them out -/
def minZ (W j : Int) : Int := (FP.d2i (FP.dadd (FP.dmul (FP.i2d (iI W)) 4598175219545276416) (FP.dmul (FP.i2d (iI j)) 4610560118520545280))).toInt
theorem min_w : ∀ W : Nat, W < 41 → vf_n64 (FP.dmul (FP.i2d (iI (W : Int))) 4598175219545276416) := by unfold vf_n64; decide +kernel
theorem min_j : ∀ j : Nat, j < 40 → vf_n64 (FP.dmul (FP.i2d (iI (j : Int))) 4610560118520545280) := by unfold vf_n64; decide +kernel
theorem min_a : ∀ W : Nat, W < 41 → ∀ j : Nat, j < 40 → vf_n64 (FP.dadd (FP.dmul (FP.i2d (iI (W : Int))) 4598175219545276416) (FP.dmul (FP.i2d (iI (j : Int))) 4610560118520545280)) ∧ 0 ≤ minZ (W : Int) (j : Int) ∧ minZ (W : Int) (j : Int) ≤ 100 := by unfold vf_n64 minZ; decide +kernel
theorem min_ok {W j : Int} (hW : 0 ≤ W ∧ W ≤ 40) (hj : 0 ≤ j ∧ j < 40) : vf_n64 (FP.dmul (FP.i2d (iI W)) 4598175219545276416) ∧ vf_n64 (FP.dmul (FP.i2d (iI j)) 4610560118520545280) ∧ vf_n64 (FP.dadd (FP.dmul (FP.i2d (iI W)) 4598175219545276416) (FP.dmul (FP.i2d (iI j)) 4610560118520545280)) ∧ 0 ≤ minZ W j ∧ minZ W j ≤ 100 := by
  have h1 := min_w W.toNat (by omega)
  have h2 := min_j j.toNat (by omega)
  have h3 := min_a W.toNat (by omega) j.toNat (by omega)
  rw [show ((W.toNat : Nat) : Int) = W by omega] at h1 h3
  rw [show ((j.toNat : Nat) : Int) = j by omega] at h2 h3
  exact ⟨h1, h2, h3.1, h3.2.1, h3.2.2⟩
set_option maxHeartbeats 4000000 in
set_option maxRecDepth 100000 in
theorem c_X5_minutesFor (l : Launch) (X : Cx) (w : Wo) (a : Nat) (σ : Int → Int) (j : Int) (hA : lmA X w a σ) (hwf : WF σ) (hj : 0 ≤ j ∧ j < 40) : CM l X yX5_minutesFor cX5_minutesFor 2 (some (.int)) (rmk 0 0) [.ref a, .int (iI j)] w (some (.int (iI (minZ (σ 0) j)))) (fun w' => w' = w) := by
  refine CM.of (lv := [(0, .ref a), (1, .int (iI j))]) (by decide) (Nat.le_of_ble_eq_true rfl) rfl (fun p e s m below meth c ls F hr hlk hin hW hS hl => ?_)
  have hZ0 := hW.2.2
  have hB9 := hW.1.2
  clear hin
  have hO := hA.o
  have hg1 := hA.g1
  have hg3 := hA.g3
  have hF := hwf.1
  unfold WF0 at hF
  have hm := min_ok (W := σ 0) (j := j) (by omega) hj
  refine lv_aload_n F.1 F.2.1 dX5_minutesFor_0 rfl (lv_at hl 0 rfl) ?_
  refine gf_RX5_40 F hW hO rfl dX5_minutesFor_1 ?_
  refine lv_i2d F.1 F.2.1 dX5_minutesFor_4 ?_
  refine h_ldc2d F kk_RX5_218 dX5_minutesFor_5 ?_
  refine lv_dmul F.1 F.2.1 dX5_minutesFor_8 hm.1 ?_
  refine lv_iload_n F.1 F.2.1 dX5_minutesFor_9 rfl (lv_at hl 1 rfl) ?_
  refine lv_i2d F.1 F.2.1 dX5_minutesFor_10 ?_
  refine h_ldc2d F kk_RX5_220 dX5_minutesFor_11 ?_
  refine lv_dmul F.1 F.2.1 dX5_minutesFor_14 hm.2.1 ?_
  refine lv_dadd F.1 F.2.1 dX5_minutesFor_15 hm.2.2.1 ?_
  refine lv_d2i F.1 F.2.1 dX5_minutesFor_16 ?_
  refine h_topv (show (.int (FP.d2i (FP.dadd (FP.dmul (FP.i2d (iI (σ 0))) 4598175219545276416) (FP.dmul (FP.i2d (iI j)) 4610560118520545280))) : Value) = .int (iI (minZ (σ 0) j)) from congrArg Value.int (iI_of _)) ?_
  exact h_ireti F hr hlk hW hS rfl dX5_minutesFor_17
