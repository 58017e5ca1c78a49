set_option maxHeartbeats 4000000 in
set_option maxRecDepth 100000 in
theorem c_X9_isIn (l : Launch) (X : Cx) (w : Wo) (v lo hi : Int) (hv : (-9223372036854775808 ≤ v ∧ v < 9223372036854775808)) (hlo : (-9223372036854775808 ≤ lo ∧ lo < 9223372036854775808)) (hhi : (-9223372036854775808 ≤ hi ∧ hi < 9223372036854775808)) : CM l X yX9_isIn cX9_isIn 6 (some (.boolean)) (rmk 0 0) [.long (lI v), .long (lI lo), .long (lI hi)] w (some (.int (iI (bz (decide (lo ≤ v ∧ v ≤ hi)))))) (fun w' => w' = w) := by
  refine CM.of (lv := [(0, .long (lI v)), (2, .long (lI lo)), (4, .long (lI hi))]) (by decide) (Nat.le_of_ble_eq_true rfl) rfl (fun p e s m below meth c ls F hr hlk hin hW hS hl => ?_)
  have hZ0 := hW.2.2
  have hB9 := hW.1.2
  clear hin
  refine lv_lload_n F.1 F.2.1 dX9_isIn_0 rfl (lv_at hl 0 rfl) ?_
  refine lv_lload_n F.1 F.2.1 dX9_isIn_1 rfl (lv_at hl 1 rfl) ?_
  refine h_lclt (tgt := 17) F dX9_isIn_2 rfl dX9_isIn_3 (by omega) (by decide) (fun c1 => ?_) (fun c1 => ?_)
  · refine h_iconst F dX9_isIn_17 ?_
    refine h_top (show (0 : Int) = bz (decide (lo ≤ v ∧ v ≤ hi)) from bzf (by first | exact decide_eq_false (by omega) | (simp only [Bool.and_eq_false_iff, Bool.or_eq_false_iff, decide_eq_false_iff_not]; omega) | simp_all)) ?_
    exact h_iretz F hr hlk hW hS rfl dX9_isIn_18
  · refine lv_lload_n F.1 F.2.1 dX9_isIn_6 rfl (lv_at hl 0 rfl) ?_
    refine lv_lload F.1 F.2.1 dX9_isIn_7 (lv_at hl 2 rfl) ?_
    refine h_lcgt (tgt := 17) F dX9_isIn_9 rfl dX9_isIn_10 (by omega) (by decide) (fun c2 => ?_) (fun c2 => ?_)
    · refine h_iconst F dX9_isIn_17 ?_
      refine h_top (show (0 : Int) = bz (decide (lo ≤ v ∧ v ≤ hi)) from bzf (by first | exact decide_eq_false (by omega) | (simp only [Bool.and_eq_false_iff, Bool.or_eq_false_iff, decide_eq_false_iff_not]; omega) | simp_all)) ?_
      exact h_iretz F hr hlk hW hS rfl dX9_isIn_18
    · refine h_iconst F dX9_isIn_13 ?_
      refine h_goto (tgt := 18) F dX9_isIn_14 (by decide) ?_
      refine h_top (show (1 : Int) = bz (decide (lo ≤ v ∧ v ≤ hi)) from bzt (by first | exact decide_eq_true (by omega) | (simp only [Bool.and_eq_true, Bool.or_eq_true, decide_eq_true_eq]; omega) | simp_all)) ?_
      exact h_iretz F hr hlk hW hS rfl dX9_isIn_18
set_option maxHeartbeats 4000000 in
set_option maxRecDepth 100000 in
theorem c_X9_isColour (l : Launch) (X : Cx) (w : Wo) (co : Int) (hco : -2147483648 ≤ co ∧ co < 2147483648) : CM l X yX9_isColour cX9_isColour 1 (some (.boolean)) (rmk 1 25) [.int (iI co)] w (some (.int (iI (bz (decide (0 ≤ co ∧ co ≤ 6)))))) (fun w' => w' = w) := by
  refine CM.of (lv := [(0, .int (iI co))]) (by decide) (Nat.le_of_ble_eq_true rfl) rfl (fun p e s m below meth c ls F hr hlk hin hW hS hl => ?_)
  have hZ0 := hW.2.2
  have hB9 := hW.1.2
  clear hin
  refine lv_iload_n F.1 F.2.1 dX9_isColour_0 rfl (lv_at hl 0 rfl) ?_
  refine h_i2l F dX9_isColour_1 (by omega) ?_
  refine h_lconst (n := 0) (z := 0) F dX9_isColour_2 rfl ?_
  refine h_ldc2 (n := 6) F kk_RX9_90 dX9_isColour_3 ?_
  refine cl_RX9_82 (As := [.long (lI co), .long (lI 0), .long (lI 6)]) (rest := []) F hl (c_X9_isIn l X w co 0 6 (by omega) (by omega) (by omega)) hW hS rfl rfl ⟨Nat.le_of_ble_eq_true rfl, Nat.le_of_ble_eq_true rfl⟩ (Nat.le_of_ble_eq_true rfl) ⟨Nat.zero_le _, Nat.zero_le _⟩ dX9_isColour_6 (fun w1 H locs hp1 hW hS => ?_)
  rw [hp1] at hW; clear hp1; clear w1
  exact h_iretz F hr hlk hW hS rfl dX9_isColour_9
set_option maxHeartbeats 4000000 in
set_option maxRecDepth 100000 in
theorem c_X9_isSide (l : Launch) (X : Cx) (w : Wo) (sd : Int) (hsd : -2147483648 ≤ sd ∧ sd < 2147483648) : CM l X yX9_isSide cX9_isSide 1 (some (.boolean)) (rmk 1 25) [.int (iI sd)] w (some (.int (iI (bz (decide (0 ≤ sd ∧ sd ≤ 1)))))) (fun w' => w' = w) := by
  refine CM.of (lv := [(0, .int (iI sd))]) (by decide) (Nat.le_of_ble_eq_true rfl) rfl (fun p e s m below meth c ls F hr hlk hin hW hS hl => ?_)
  have hZ0 := hW.2.2
  have hB9 := hW.1.2
  clear hin
  refine lv_iload_n F.1 F.2.1 dX9_isSide_0 rfl (lv_at hl 0 rfl) ?_
  refine h_i2l F dX9_isSide_1 (by omega) ?_
  refine h_lconst (n := 0) (z := 0) F dX9_isSide_2 rfl ?_
  refine h_lconst (n := 1) (z := 1) F dX9_isSide_3 rfl ?_
  refine cl_RX9_82 (As := [.long (lI sd), .long (lI 0), .long (lI 1)]) (rest := []) F hl (c_X9_isIn l X w sd 0 1 (by omega) (by omega) (by omega)) hW hS rfl rfl ⟨Nat.le_of_ble_eq_true rfl, Nat.le_of_ble_eq_true rfl⟩ (Nat.le_of_ble_eq_true rfl) ⟨Nat.zero_le _, Nat.zero_le _⟩ dX9_isSide_4 (fun w1 H locs hp1 hW hS => ?_)
  rw [hp1] at hW; clear hp1; clear w1
  exact h_iretz F hr hlk hW hS rfl dX9_isSide_7
set_option maxHeartbeats 4000000 in
set_option maxRecDepth 100000 in
theorem c_X9_cap (l : Launch) (X : Cx) (w : Wo) (mo : Nat) (v σ : Int → Int) (k j : Int) (hM : w mo = some (.inr (9, mL mo v))) (hs : w (mo + 1) = some (aZ X 1317 σ)) (hwf : WF σ) (hk : 0 ≤ k ∧ k ≤ 8 ∧ 0 ≤ j ∧ j ≤ 12) : CM l X yX9_cap cX9_cap 3 (some (.int)) (rmk 0 0) [.ref mo, .int (iI k), .int (iI j)] w (some (.int (iI (cp σ k j)))) (fun w' => w' = w) := by
  refine CM.of (lv := [(0, .ref mo), (1, .int (iI k)), (2, .int (iI j))]) (by decide) (Nat.le_of_ble_eq_true rfl) rfl (fun p e s m below meth c ls F hr hlk hin hW hS hl => ?_)
  have hZ0 := hW.2.2
  have hB9 := hW.1.2
  clear hin
  have hF := hwf.1
  unfold WF0 at hF
  refine lv_aload_n F.1 F.2.1 dX9_cap_0 rfl (lv_at hl 0 rfl) ?_
  refine gf_RX9_7 F hW hM rfl dX9_cap_1 ?_
  refine h_bipush F dX9_cap_4 rfl ?_
  refine h_bipush F dX9_cap_6 rfl ?_
  refine lv_iload_n F.1 F.2.1 dX9_cap_8 rfl (lv_at hl 1 rfl) ?_
  refine h_imul (a := 13) (b := k) F dX9_cap_9 ?_
  refine h_iadd (a := 13) (b := 13 * k) F dX9_cap_10 ?_
  refine lv_iload_n F.1 F.2.1 dX9_cap_11 rfl (lv_at hl 2 rfl) ?_
  refine h_iadd (a := 13 + (13 * k)) (b := j) F dX9_cap_12 ?_
  refine h_iald F hW hs (by omega) (by omega) dX9_cap_13 ?_
  refine h_top (show (σ ((13 + (13 * k)) + j) : Int) = cp σ k j from by first | rfl | omega | (simp_all; done)) ?_
  exact h_ireti F hr hlk hW hS rfl dX9_cap_14
set_option maxHeartbeats 4000000 in
set_option maxRecDepth 100000 in
theorem c_X9_at (l : Launch) (X : Cx) (w : Wo) (cn rn : Int)  : CM l X yX9_at cX9_at 2 (some (.int)) (rmk 0 0) [.int (iI cn), .int (iI rn)] w (some (.int (iI (117 + 40 * rn + cn)))) (fun w' => w' = w) := by
  refine CM.of (lv := [(0, .int (iI cn)), (1, .int (iI rn))]) (by decide) (Nat.le_of_ble_eq_true rfl) rfl (fun p e s m below meth c ls F hr hlk hin hW hS hl => ?_)
  have hZ0 := hW.2.2
  have hB9 := hW.1.2
  clear hin
  refine h_bipush F dX9_at_0 rfl ?_
  refine h_bipush F dX9_at_2 rfl ?_
  refine lv_iload_n F.1 F.2.1 dX9_at_4 rfl (lv_at hl 1 rfl) ?_
  refine h_imul (a := 40) (b := rn) F dX9_at_5 ?_
  refine h_iadd (a := 117) (b := 40 * rn) F dX9_at_6 ?_
  refine lv_iload_n F.1 F.2.1 dX9_at_7 rfl (lv_at hl 0 rfl) ?_
  refine h_iadd (a := 117 + (40 * rn)) (b := cn) F dX9_at_8 ?_
  refine h_top (show ((117 + (40 * rn)) + cn : Int) = 117 + 40 * rn + cn from by first | rfl | omega | (simp_all; done)) ?_
  exact h_ireti F hr hlk hW hS rfl dX9_at_9
set_option maxHeartbeats 4000000 in
set_option maxRecDepth 100000 in
theorem c_X9_colourAt (l : Launch) (X : Cx) (w : Wo) (mo : Nat) (v σ : Int → Int) (cn rn : Int) (hM : w mo = some (.inr (9, mL mo v))) (hs : w (mo + 1) = some (aZ X 1317 σ)) (hwf : WF σ) (hc : 0 ≤ cn ∧ cn < 40 ∧ 0 ≤ rn ∧ rn < 30) : CM l X yX9_colourAt cX9_colourAt 3 (some (.int)) (rmk 1 21) [.ref mo, .int (iI cn), .int (iI rn)] w (some (.int (iI (cellS σ cn rn)))) (fun w' => w' = w) := by
  refine CM.of (lv := [(0, .ref mo), (1, .int (iI cn)), (2, .int (iI rn))]) (by decide) (Nat.le_of_ble_eq_true rfl) rfl (fun p e s m below meth c ls F hr hlk hin hW hS hl => ?_)
  have hZ0 := hW.2.2
  have hB9 := hW.1.2
  clear hin
  have hF := hwf.1
  unfold WF0 at hF
  refine lv_aload_n F.1 F.2.1 dX9_colourAt_0 rfl (lv_at hl 0 rfl) ?_
  refine gf_RX9_7 F hW hM rfl dX9_colourAt_1 ?_
  refine lv_iload_n F.1 F.2.1 dX9_colourAt_4 rfl (lv_at hl 1 rfl) ?_
  refine lv_iload_n F.1 F.2.1 dX9_colourAt_5 rfl (lv_at hl 2 rfl) ?_
  refine cl_RX9_86 (As := [.int (iI cn), .int (iI rn)]) (rest := [.ref (mo + 1)]) F hl (c_X9_at l X w cn rn ) hW hS rfl rfl ⟨Nat.le_of_ble_eq_true rfl, Nat.le_of_ble_eq_true rfl⟩ (Nat.le_of_ble_eq_true rfl) ⟨Nat.zero_le _, Nat.zero_le _⟩ dX9_colourAt_6 (fun w1 H locs hp1 hW hS => ?_)
  rw [hp1] at hW; clear hp1; clear w1
  refine h_iald F hW hs (by omega) (by omega) dX9_colourAt_9 ?_
  refine h_top (show (σ (117 + 40 * rn + cn) : Int) = cellS σ cn rn from by first | rfl | omega | (simp_all; done)) ?_
  exact h_ireti F hr hlk hW hS rfl dX9_colourAt_10
set_option maxHeartbeats 4000000 in
set_option maxRecDepth 100000 in
theorem c_X9_turned (l : Launch) (X : Cx) (w : Wo) (mo : Nat) (v σ : Int → Int) (cn : Int) (hM : w mo = some (.inr (9, mL mo v))) (hs : w (mo + 1) = some (aZ X 1317 σ)) (hwf : WF σ) : CM l X yX9_turned cX9_turned 2 (some (.int)) (rmk 0 0) [.ref mo, .int (iI cn)] w (some (.int (iI (turnS σ cn)))) (fun w' => w' = w) := by
  refine CM.of (lv := [(0, .ref mo), (1, .int (iI cn))]) (by decide) (Nat.le_of_ble_eq_true rfl) rfl (fun p e s m below meth c ls F hr hlk hin hW hS hl => ?_)
  have hZ0 := hW.2.2
  have hB9 := hW.1.2
  clear hin
  have hF := hwf.1
  unfold WF0 at hF
  refine lv_aload_n F.1 F.2.1 dX9_turned_0 rfl (lv_at hl 0 rfl) ?_
  refine gf_RX9_7 F hW hM rfl dX9_turned_1 ?_
  refine h_iconst F dX9_turned_4 ?_
  refine h_iald F hW hs (by omega) (by omega) dX9_turned_5 ?_
  refine h_iconst F dX9_turned_6 ?_
  refine h_isub (a := σ 0) (b := 1) F dX9_turned_7 ?_
  refine lv_iload_n F.1 F.2.1 dX9_turned_8 rfl (lv_at hl 1 rfl) ?_
  refine h_isub (a := (σ 0) - 1) (b := cn) F dX9_turned_9 ?_
  refine h_top (show (((σ 0) - 1) - cn : Int) = turnS σ cn from by first | rfl | omega | (simp_all; done)) ?_
  exact h_ireti F hr hlk hW hS rfl dX9_turned_10
set_option maxHeartbeats 4000000 in
set_option maxRecDepth 100000 in
theorem c_X9_isRow (l : Launch) (X : Cx) (w : Wo) (mo : Nat) (v σ : Int → Int) (rn : Int) (hM : w mo = some (.inr (9, mL mo v))) (hs : w (mo + 1) = some (aZ X 1317 σ)) (hwf : WF σ) (hrn : -2147483648 ≤ rn ∧ rn < 2147483648) : CM l X yX9_isRow cX9_isRow 2 (some (.boolean)) (rmk 1 25) [.ref mo, .int (iI rn)] w (some (.int (iI (bz (decide (0 ≤ rn ∧ rn ≤ σ 1 - 1)))))) (fun w' => w' = w) := by
  refine CM.of (lv := [(0, .ref mo), (1, .int (iI rn))]) (by decide) (Nat.le_of_ble_eq_true rfl) rfl (fun p e s m below meth c ls F hr hlk hin hW hS hl => ?_)
  have hZ0 := hW.2.2
  have hB9 := hW.1.2
  clear hin
  have hF := hwf.1
  unfold WF0 at hF
  refine lv_iload_n F.1 F.2.1 dX9_isRow_0 rfl (lv_at hl 1 rfl) ?_
  refine h_i2l F dX9_isRow_1 (by omega) ?_
  refine h_lconst (n := 0) (z := 0) F dX9_isRow_2 rfl ?_
  refine lv_aload_n F.1 F.2.1 dX9_isRow_3 rfl (lv_at hl 0 rfl) ?_
  refine gf_RX9_7 F hW hM rfl dX9_isRow_4 ?_
  refine h_iconst F dX9_isRow_7 ?_
  refine h_iald F hW hs (by omega) (by omega) dX9_isRow_8 ?_
  refine h_iconst F dX9_isRow_9 ?_
  refine h_isub (a := σ 1) (b := 1) F dX9_isRow_10 ?_
  refine h_i2l F dX9_isRow_11 (by omega) ?_
  refine cl_RX9_82 (As := [.long (lI rn), .long (lI 0), .long (lI ((σ 1) - 1))]) (rest := []) F hl (c_X9_isIn l X w rn 0 ((σ 1) - 1) (by omega) (by omega) (by omega)) hW hS rfl rfl ⟨Nat.le_of_ble_eq_true rfl, Nat.le_of_ble_eq_true rfl⟩ (Nat.le_of_ble_eq_true rfl) ⟨Nat.zero_le _, Nat.zero_le _⟩ dX9_isRow_12 (fun w1 H locs hp1 hW hS => ?_)
  rw [hp1] at hW; clear hp1; clear w1
  refine h_top (show (bz (decide (0 ≤ rn ∧ rn ≤ ((σ 1) - 1))) : Int) = bz (decide (0 ≤ rn ∧ rn ≤ σ 1 - 1)) from congrArg bz (by first | rfl | simp_all)) ?_
  exact h_iretz F hr hlk hW hS rfl dX9_isRow_15
set_option maxHeartbeats 4000000 in
set_option maxRecDepth 100000 in
theorem c_X9_isCaption (l : Launch) (X : Cx) (w : Wo) (mo : Nat) (v σ : Int → Int) (k : Int) (hM : w mo = some (.inr (9, mL mo v))) (hs : w (mo + 1) = some (aZ X 1317 σ)) (hwf : WF σ) (hk : -2147483648 ≤ k ∧ k < 2147483648) : CM l X yX9_isCaption cX9_isCaption 2 (some (.boolean)) (rmk 1 25) [.ref mo, .int (iI k)] w (some (.int (iI (bz (decide (0 ≤ k ∧ k ≤ σ 5 - 1)))))) (fun w' => w' = w) := by
  refine CM.of (lv := [(0, .ref mo), (1, .int (iI k))]) (by decide) (Nat.le_of_ble_eq_true rfl) rfl (fun p e s m below meth c ls F hr hlk hin hW hS hl => ?_)
  have hZ0 := hW.2.2
  have hB9 := hW.1.2
  clear hin
  have hF := hwf.1
  unfold WF0 at hF
  refine lv_iload_n F.1 F.2.1 dX9_isCaption_0 rfl (lv_at hl 1 rfl) ?_
  refine h_i2l F dX9_isCaption_1 (by omega) ?_
  refine h_lconst (n := 0) (z := 0) F dX9_isCaption_2 rfl ?_
  refine lv_aload_n F.1 F.2.1 dX9_isCaption_3 rfl (lv_at hl 0 rfl) ?_
  refine gf_RX9_7 F hW hM rfl dX9_isCaption_4 ?_
  refine h_iconst F dX9_isCaption_7 ?_
  refine h_iald F hW hs (by omega) (by omega) dX9_isCaption_8 ?_
  refine h_iconst F dX9_isCaption_9 ?_
  refine h_isub (a := σ 5) (b := 1) F dX9_isCaption_10 ?_
  refine h_i2l F dX9_isCaption_11 (by omega) ?_
  refine cl_RX9_82 (As := [.long (lI k), .long (lI 0), .long (lI ((σ 5) - 1))]) (rest := []) F hl (c_X9_isIn l X w k 0 ((σ 5) - 1) (by omega) (by omega) (by omega)) hW hS rfl rfl ⟨Nat.le_of_ble_eq_true rfl, Nat.le_of_ble_eq_true rfl⟩ (Nat.le_of_ble_eq_true rfl) ⟨Nat.zero_le _, Nat.zero_le _⟩ dX9_isCaption_12 (fun w1 H locs hp1 hW hS => ?_)
  rw [hp1] at hW; clear hp1; clear w1
  refine h_top (show (bz (decide (0 ≤ k ∧ k ≤ ((σ 5) - 1))) : Int) = bz (decide (0 ≤ k ∧ k ≤ σ 5 - 1)) from congrArg bz (by first | rfl | simp_all)) ?_
  exact h_iretz F hr hlk hW hS rfl dX9_isCaption_15
set_option maxHeartbeats 4000000 in
set_option maxRecDepth 100000 in
theorem c_X9_hasBit (l : Launch) (X : Cx) (w : Wo) (gy d o : Int) (hg : 0 ≤ gy ∧ gy < 2147483648) (hd : 0 ≤ 14 - 3 * d - o ∧ 14 - 3 * d - o < 31) : CM l X yX9_hasBit cX9_hasBit 3 (some (.boolean)) (rmk 0 0) [.int (iI gy), .int (iI d), .int (iI o)] w (some (.int (iI (bz (hasBitS gy d o))))) (fun w' => w' = w) := by
  refine CM.of (lv := [(0, .int (iI gy)), (1, .int (iI d)), (2, .int (iI o))]) (by decide) (Nat.le_of_ble_eq_true rfl) rfl (fun p e s m below meth c ls F hr hlk hin hW hS hl => ?_)
  have hZ0 := hW.2.2
  have hB9 := hW.1.2
  clear hin
  have hp := pow_r (14 - 3 * d - o).toNat hg
  refine lv_iload_n F.1 F.2.1 dX9_hasBit_0 rfl (lv_at hl 0 rfl) ?_
  refine h_bipush F dX9_hasBit_1 rfl ?_
  refine h_iconst F dX9_hasBit_3 ?_
  refine lv_iload_n F.1 F.2.1 dX9_hasBit_4 rfl (lv_at hl 1 rfl) ?_
  refine h_imul (a := 3) (b := d) F dX9_hasBit_5 ?_
  refine h_isub (a := 14) (b := 3 * d) F dX9_hasBit_6 ?_
  refine lv_iload_n F.1 F.2.1 dX9_hasBit_7 rfl (lv_at hl 2 rfl) ?_
  refine h_isub (a := 14 - (3 * d)) (b := o) F dX9_hasBit_8 ?_
  refine h_ishr (z := iI (gy / 2 ^ (14 - 3 * d - o).toNat)) F dX9_hasBit_9 (iI_shrv hg hd) ?_
  refine h_iconst F dX9_hasBit_10 ?_
  refine h_iand (z := iI (gy / 2 ^ (14 - 3 * d - o).toNat % 2)) F dX9_hasBit_11 (iI_and1 hp.1) ?_
  refine h_iconst F dX9_hasBit_12 ?_
  refine h_icne (tgt := 20) F dX9_hasBit_13 (by decide) (by omega) (fun c1 => ?_) (fun c1 => ?_)
  · refine h_iconst F dX9_hasBit_20 ?_
    refine h_top (show (0 : Int) = bz (hasBitS gy d o) from bzf (by first | exact decide_eq_false (by omega) | (simp only [Bool.and_eq_false_iff, Bool.or_eq_false_iff, decide_eq_false_iff_not]; omega) | simp_all)) ?_
    exact h_iretz F hr hlk hW hS rfl dX9_hasBit_21
  · refine h_iconst F dX9_hasBit_16 ?_
    refine h_goto (tgt := 21) F dX9_hasBit_17 (by decide) ?_
    refine h_top (show (1 : Int) = bz (hasBitS gy d o) from bzt (by first | exact decide_eq_true (by omega) | (simp only [Bool.and_eq_true, Bool.or_eq_true, decide_eq_true_eq]; omega) | simp_all)) ?_
    exact h_iretz F hr hlk hW hS rfl dX9_hasBit_21
set_option maxHeartbeats 4000000 in
set_option maxRecDepth 100000 in
theorem c_X9_isInk (l : Launch) (X : Cx) (w : Wo) (mo : Nat) (v σ : Int → Int) (k ov u : Int) (hM : w mo = some (.inr (9, mL mo v))) (hs : w (mo + 1) = some (aZ X 1317 σ)) (hwf : WF σ) (hk : 0 ≤ k ∧ k < σ 5) (hov : 0 ≤ ov ∧ ov ≤ 4 * cp σ k 0 - 2 ∧ 0 ≤ u ∧ u ≤ 4) : CM l X yX9_isInk cX9_isInk 4 (some (.boolean)) (rmk 1 22) [.ref mo, .int (iI k), .int (iI ov), .int (iI u)] w (some (.int (iI (bz (inkS σ k ov u))))) (fun w' => w' = w) := by
  refine CM.of (lv := [(0, .ref mo), (1, .int (iI k)), (2, .int (iI ov)), (3, .int (iI u))]) (by decide) (Nat.le_of_ble_eq_true rfl) rfl (fun p e s m below meth c ls F hr hlk hin hW hS hl => ?_)
  have hZ0 := hW.2.2
  have hB9 := hW.1.2
  clear hin
  have hF := hwf.1
  unfold WF0 at hF
  obtain ⟨m1, m2, m3, m4, m5, m6⟩ := hwf.2.2.1 k (by omega) (by omega)
  have hgl := gl_r (cp σ k (5 + ov / 4))
  refine lv_iload_n F.1 F.2.1 dX9_isInk_0 rfl (lv_at hl 2 rfl) ?_
  refine h_iconst F dX9_isInk_1 ?_
  refine h_irem F dX9_isInk_2 (by omega) ?_
  refine h_iconst F dX9_isInk_3 ?_
  refine h_icne (tgt := 9) F dX9_isInk_4 (by decide) (by omega) (fun c1 => ?_) (fun c1 => ?_)
  · refine h_gl9 F hZ0 hS kf_RX9_92 dX9_isInk_9 ?_
    refine lv_aload_n F.1 F.2.1 dX9_isInk_12 rfl (lv_at hl 0 rfl) ?_
    refine lv_iload_n F.1 F.2.1 dX9_isInk_13 rfl (lv_at hl 1 rfl) ?_
    refine h_iconst F dX9_isInk_14 ?_
    refine lv_iload_n F.1 F.2.1 dX9_isInk_15 rfl (lv_at hl 2 rfl) ?_
    refine h_iconst F dX9_isInk_16 ?_
    refine h_idiv F dX9_isInk_17 (by omega) ?_
    refine h_iadd (a := 5) (b := ov / 4) F dX9_isInk_18 ?_
    refine cl_RX9_95 (As := [.int (iI k), .int (iI (5 + (ov / 4)))]) (rest := [.ref (X.2.2 2)]) F hl (c_X9_cap l X w mo v σ k (5 + (ov / 4)) hM hs hwf (by omega)) hW hS hM rfl rfl ⟨Nat.le_of_ble_eq_true rfl, Nat.le_of_ble_eq_true rfl⟩ (Nat.le_of_ble_eq_true rfl) ⟨Nat.zero_le _, Nat.zero_le _⟩ dX9_isInk_19 (fun w1 H locs hp2 hW hS => ?_)
    rw [hp2] at hW; clear hp2; clear w1
    have m7 := m6 (ov / 4) (by omega) (by omega)
    refine h_gli9 F hZ0 hS (by omega) dX9_isInk_22 ?_
    refine h_iconst F dX9_isInk_23 ?_
    refine lv_iload_n F.1 F.2.1 dX9_isInk_24 rfl (lv_at hl 3 rfl) ?_
    refine h_isub (a := 4) (b := u) F dX9_isInk_25 ?_
    refine lv_iload_n F.1 F.2.1 dX9_isInk_26 rfl (lv_at hl 2 rfl) ?_
    refine h_iconst F dX9_isInk_27 ?_
    refine h_irem F dX9_isInk_28 (by omega) ?_
    refine cl_RX9_98 (As := [.int (iI (gl (cp σ k (5 + (ov / 4))))), .int (iI (4 - u)), .int (iI (ov % 4))]) (rest := []) F hl (c_X9_hasBit l X w (gl (cp σ k (5 + (ov / 4)))) (4 - u) (ov % 4) (by omega) (by omega)) hW hS rfl rfl ⟨Nat.le_of_ble_eq_true rfl, Nat.le_of_ble_eq_true rfl⟩ (Nat.le_of_ble_eq_true rfl) ⟨Nat.zero_le _, Nat.zero_le _⟩ dX9_isInk_29 (fun w1 H locs hp3 hW hS => ?_)
    rw [hp3] at hW; clear hp3; clear w1
    refine h_top (show (bz (hasBitS (gl (cp σ k (5 + (ov / 4)))) (4 - u) (ov % 4)) : Int) = bz (inkS σ k ov u) from congrArg bz (by unfold inkS; rw [if_neg (by omega)])) ?_
    exact h_iretz F hr hlk hW hS rfl dX9_isInk_32
  · refine h_iconst F dX9_isInk_7 ?_
    refine h_top (show (0 : Int) = bz (inkS σ k ov u) from bzf (by unfold inkS; rw [if_pos (by omega)])) ?_
    exact h_iretz F hr hlk hW hS rfl dX9_isInk_8
set_option maxHeartbeats 4000000 in
set_option maxRecDepth 100000 in
theorem c_X9_designOf (l : Launch) (X : Cx) (w : Wo) (mo : Nat) (v σ : Int → Int) (cn rn : Int) (hM : w mo = some (.inr (9, mL mo v))) (hs : w (mo + 1) = some (aZ X 1317 σ)) (hwf : WF σ) (hc : 0 ≤ cn ∧ cn < σ 0 ∧ 0 ≤ rn ∧ rn < σ 1) : CM l X yX9_designOf cX9_designOf 6 (some (.int)) (rmk 2 45) [.ref mo, .int (iI cn), .int (iI rn)] w (some (.int (iI (desS σ cn rn)))) (fun w' => w' = w) := by
  refine CM.of (lv := [(0, .ref mo), (1, .int (iI cn)), (2, .int (iI rn))]) (by decide) (Nat.le_of_ble_eq_true rfl) rfl (fun p e s m below meth c ls F hr hlk hin hW hS hl => ?_)
  have hZ0 := hW.2.2
  have hB9 := hW.1.2
  clear hin
  have hF := hwf.1
  unfold WF0 at hF
  refine h_iconst F dX9_designOf_0 ?_
  refine lv_istore_n (lv' := [(3, .int (iI 0)), (0, .ref mo), (1, .int (iI cn)), (2, .int (iI rn))]) F.1 F.2.1 dX9_designOf_1 rfl hl (by decide) rfl (fun ls hl => ?_)
  have loop2 : ∀ (n9 : Nat) (k : Int), (hrg : 0 ≤ k ∧ k ≤ σ 5) → (hms : σ 5 - k < (n9 : Int)) → (hno : ∀ j, 0 ≤ j → j < k → hitS σ cn rn j = false) → (H : Heap) → (locs : List Loc) → (ls : Array Slot) → Wd X w s H → va_S (cxA X) s.heap H locs → lv_has ls 6 [(3, .int (iI k)), (0, .ref mo), (1, .int (iI cn)), (2, .int (iI rn))] → W p l e (rmk 2 45) s m (List.toArray [.ref mo, .int (iI cn), .int (iI rn)]) below meth c H locs 0 0 (MX X below (List.toArray [.ref mo, .int (iI cn), .int (iI rn)]) s 0 0 (some (.int (iI (desS σ cn rn)))) (fun w' => w' = w)) (F0 m 2 ls []) := by
    intro n9
    induction n9 with
    | zero => intro k  hrg hms; exfalso; omega
    | succ n9 ih2 =>
      intro k  hrg hms  hno H locs ls hW hS hl
      refine lv_iload_n F.1 F.2.1 dX9_designOf_2 rfl (lv_at hl 0 rfl) ?_
      refine lv_aload_n F.1 F.2.1 dX9_designOf_3 rfl (lv_at hl 1 rfl) ?_
      refine gf_RX9_7 F hW hM rfl dX9_designOf_4 ?_
      refine h_iconst F dX9_designOf_7 ?_
      refine h_iald F hW hs (by omega) (by omega) dX9_designOf_8 ?_
      refine h_icge (tgt := 108) F dX9_designOf_9 (by decide) (by omega) (fun c1 => ?_) (fun c1 => ?_)
      · refine h_iconst F dX9_designOf_108 ?_
        refine h_top (show (0 : Int) = desS σ cn rn from by unfold desS; rw [fi_none (by omega) (fun j h1 h2 => hno j h1 (by omega)), if_neg (by omega)]) ?_
        exact h_ireti F hr hlk hW hS rfl dX9_designOf_109
      · obtain ⟨m1, m2, m3, m4, m5, m6⟩ := hwf.2.2.1 k (by omega) (by omega)
        have htu : 0 ≤ turnS σ cn ∧ turnS σ cn < σ 0 := by unfold turnS; omega
        refine lv_aload_n F.1 F.2.1 dX9_designOf_12 rfl (lv_at hl 1 rfl) ?_
        refine lv_iload_n F.1 F.2.1 dX9_designOf_13 rfl (lv_at hl 0 rfl) ?_
        refine h_iconst F dX9_designOf_14 ?_
        refine cl_RX9_95 (As := [.int (iI k), .int (iI 1)]) (rest := []) F hl (c_X9_cap l X w mo v σ k 1 hM hs hwf (by omega)) hW hS hM rfl rfl ⟨Nat.le_of_ble_eq_true rfl, Nat.le_of_ble_eq_true rfl⟩ (Nat.le_of_ble_eq_true rfl) ⟨Nat.zero_le _, Nat.zero_le _⟩ dX9_designOf_15 (fun w1 H locs hp2 hW hS => ?_)
        rw [hp2] at hW; clear hp2; clear w1
        refine h_ifne (tgt := 25) F dX9_designOf_18 (by decide) (by omega) (fun c3 => ?_) (fun c3 => ?_)
        · refine lv_aload_n F.1 F.2.1 dX9_designOf_25 rfl (lv_at hl 1 rfl) ?_
          refine lv_iload_n F.1 F.2.1 dX9_designOf_26 rfl (lv_at hl 2 rfl) ?_
          refine cl_RX9_102 (As := [.int (iI cn)]) (rest := []) F hl (c_X9_turned l X w mo v σ cn hM hs hwf) hW hS hM rfl rfl ⟨Nat.le_of_ble_eq_true rfl, Nat.le_of_ble_eq_true rfl⟩ (Nat.le_of_ble_eq_true rfl) ⟨Nat.zero_le _, Nat.zero_le _⟩ dX9_designOf_27 (fun w1 H locs hp4 hW hS => ?_)
          rw [hp4] at hW; clear hp4; clear w1
          refine lv_aload_n F.1 F.2.1 dX9_designOf_30 rfl (lv_at hl 1 rfl) ?_
          refine lv_iload_n F.1 F.2.1 dX9_designOf_31 rfl (lv_at hl 0 rfl) ?_
          refine h_iconst F dX9_designOf_32 ?_
          refine cl_RX9_95 (As := [.int (iI k), .int (iI 2)]) (rest := [.int (iI (turnS σ cn))]) F hl (c_X9_cap l X w mo v σ k 2 hM hs hwf (by omega)) hW hS hM rfl rfl ⟨Nat.le_of_ble_eq_true rfl, Nat.le_of_ble_eq_true rfl⟩ (Nat.le_of_ble_eq_true rfl) ⟨Nat.zero_le _, Nat.zero_le _⟩ dX9_designOf_33 (fun w1 H locs hp5 hW hS => ?_)
          rw [hp5] at hW; clear hp5; clear w1
          refine h_isub (a := turnS σ cn) (b := cp σ k 2) F dX9_designOf_36 ?_
          refine h_top (show ((turnS σ cn) - (cp σ k 2) : Int) = ovS σ cn k from by unfold ovS; split <;> first | rfl | omega) ?_
          refine lv_istore (lv' := [(4, .int (iI (ovS σ cn k))), (3, .int (iI k)), (0, .ref mo), (1, .int (iI cn)), (2, .int (iI rn))]) F.1 F.2.1 dX9_designOf_37 hl (by decide) rfl (fun ls hl => ?_)
          refine lv_iload_n F.1 F.2.1 dX9_designOf_39 rfl (lv_at hl 4 rfl) ?_
          refine lv_aload_n F.1 F.2.1 dX9_designOf_40 rfl (lv_at hl 2 rfl) ?_
          refine lv_iload_n F.1 F.2.1 dX9_designOf_41 rfl (lv_at hl 1 rfl) ?_
          refine h_iconst F dX9_designOf_42 ?_
          refine cl_RX9_95 (As := [.int (iI k), .int (iI 3)]) (rest := [.int (iI rn)]) F hl (c_X9_cap l X w mo v σ k 3 hM hs hwf (by omega)) hW hS hM rfl rfl ⟨Nat.le_of_ble_eq_true rfl, Nat.le_of_ble_eq_true rfl⟩ (Nat.le_of_ble_eq_true rfl) ⟨Nat.zero_le _, Nat.zero_le _⟩ dX9_designOf_43 (fun w1 H locs hp6 hW hS => ?_)
          rw [hp6] at hW; clear hp6; clear w1
          have hov : -80 ≤ ovS σ cn k ∧ ovS σ cn k ≤ 80 := by unfold ovS; split <;> omega
          refine h_isub (a := rn) (b := cp σ k 3) F dX9_designOf_46 ?_
          refine lv_istore (lv' := [(5, .int (iI (rn - (cp σ k 3)))), (4, .int (iI (ovS σ cn k))), (3, .int (iI k)), (0, .ref mo), (1, .int (iI cn)), (2, .int (iI rn))]) F.1 F.2.1 dX9_designOf_47 hl (by decide) rfl (fun ls hl => ?_)
          refine lv_iload F.1 F.2.1 dX9_designOf_49 (lv_at hl 1 rfl) ?_
          refine h_i2l F dX9_designOf_51 (by omega) ?_
          refine h_lconst (n := 0) (z := 0) F dX9_designOf_52 rfl ?_
          refine h_iconst F dX9_designOf_53 ?_
          refine lv_aload_n F.1 F.2.1 dX9_designOf_54 rfl (lv_at hl 3 rfl) ?_
          refine lv_iload_n F.1 F.2.1 dX9_designOf_55 rfl (lv_at hl 2 rfl) ?_
          refine h_iconst F dX9_designOf_56 ?_
          refine cl_RX9_95 (As := [.int (iI k), .int (iI 0)]) (rest := [.int (iI 4), .long (lI 0), .long (lI (ovS σ cn k))]) F hl (c_X9_cap l X w mo v σ k 0 hM hs hwf (by omega)) hW hS hM rfl rfl ⟨Nat.le_of_ble_eq_true rfl, Nat.le_of_ble_eq_true rfl⟩ (Nat.le_of_ble_eq_true rfl) ⟨Nat.zero_le _, Nat.zero_le _⟩ dX9_designOf_57 (fun w1 H locs hp7 hW hS => ?_)
          rw [hp7] at hW; clear hp7; clear w1
          refine h_imul (a := 4) (b := cp σ k 0) F dX9_designOf_60 ?_
          refine h_iconst F dX9_designOf_61 ?_
          refine h_isub (a := 4 * (cp σ k 0)) (b := 2) F dX9_designOf_62 ?_
          refine h_i2l F dX9_designOf_63 (by omega) ?_
          refine cl_RX9_82 (As := [.long (lI (ovS σ cn k)), .long (lI 0), .long (lI ((4 * (cp σ k 0)) - 2))]) (rest := []) F hl (c_X9_isIn l X w (ovS σ cn k) 0 ((4 * (cp σ k 0)) - 2) (by omega) (by omega) (by omega)) hW hS rfl rfl ⟨Nat.le_of_ble_eq_true rfl, Nat.le_of_ble_eq_true rfl⟩ (Nat.le_of_ble_eq_true rfl) ⟨Nat.zero_le _, Nat.zero_le _⟩ dX9_designOf_64 (fun w1 H locs hp8 hW hS => ?_)
          rw [hp8] at hW; clear hp8; clear w1
          refine h_ifeqb (tgt := 102) F dX9_designOf_67 (by decide) (fun c9 => ?_) (fun c9 => ?_)
          · have c9d := of_decide_eq_false c9
            refine h_iinc (k := 2) (a := k) (lv' := [(3, .int (iI (k + 1))), (5, .int (iI (rn - (cp σ k 3)))), (4, .int (iI (ovS σ cn k))), (0, .ref mo), (1, .int (iI cn)), (2, .int (iI rn))]) F dX9_designOf_102 hl rfl (by decide) rfl (fun ls hl => ?_)
            refine h_goto (tgt := 2) F dX9_designOf_105 (by decide) ?_
            have eq10 : ((k + 1) : Int) = k + 1 := by first | rfl | omega | simp
            exact ih2 (k + 1)  (by omega) (by omega)  (fun j h1 h2 => (by by_cases hj : j = k; (rw [hj]; unfold hitS; first | (rw [decide_eq_false (p := 0 ≤ ovS σ cn k ∧ ovS σ cn k ≤ 4 * cp σ k 0 - 2) (by omega)]; rfl) | (have e9 : decide (0 ≤ rn - cp σ k 3 ∧ rn - cp σ k 3 ≤ 4) = false := decide_eq_false (by omega); rw [e9, Bool.and_false, Bool.false_and]) | (rw [‹inkS σ k (ovS σ cn k) (rn - cp σ k 3) = false›]; simp)); exact hno j h1 (by omega))) _ _ ls hW hS (by rw [eq10]; exact lv_sub hl [0, 3, 4, 5] rfl)
          · have c9d := of_decide_eq_true c9
            refine lv_iload F.1 F.2.1 dX9_designOf_70 (lv_at hl 0 rfl) ?_
            refine h_i2l F dX9_designOf_72 (by omega) ?_
            refine h_lconst (n := 0) (z := 0) F dX9_designOf_73 rfl ?_
            refine h_ldc2 (n := 4) F kk_RX9_106 dX9_designOf_74 ?_
            refine cl_RX9_82 (As := [.long (lI (rn - (cp σ k 3))), .long (lI 0), .long (lI 4)]) (rest := []) F hl (c_X9_isIn l X w (rn - (cp σ k 3)) 0 4 (by omega) (by omega) (by omega)) hW hS rfl rfl ⟨Nat.le_of_ble_eq_true rfl, Nat.le_of_ble_eq_true rfl⟩ (Nat.le_of_ble_eq_true rfl) ⟨Nat.zero_le _, Nat.zero_le _⟩ dX9_designOf_77 (fun w1 H locs hp11 hW hS => ?_)
            rw [hp11] at hW; clear hp11; clear w1
            refine h_ifeqb (tgt := 102) F dX9_designOf_80 (by decide) (fun c12 => ?_) (fun c12 => ?_)
            · have c12d := of_decide_eq_false c12
              refine h_iinc (k := 2) (a := k) (lv' := [(3, .int (iI (k + 1))), (5, .int (iI (rn - (cp σ k 3)))), (4, .int (iI (ovS σ cn k))), (0, .ref mo), (1, .int (iI cn)), (2, .int (iI rn))]) F dX9_designOf_102 hl rfl (by decide) rfl (fun ls hl => ?_)
              refine h_goto (tgt := 2) F dX9_designOf_105 (by decide) ?_
              have eq13 : ((k + 1) : Int) = k + 1 := by first | rfl | omega | simp
              exact ih2 (k + 1)  (by omega) (by omega)  (fun j h1 h2 => (by by_cases hj : j = k; (rw [hj]; unfold hitS; first | (rw [decide_eq_false (p := 0 ≤ ovS σ cn k ∧ ovS σ cn k ≤ 4 * cp σ k 0 - 2) (by omega)]; rfl) | (have e9 : decide (0 ≤ rn - cp σ k 3 ∧ rn - cp σ k 3 ≤ 4) = false := decide_eq_false (by omega); rw [e9, Bool.and_false, Bool.false_and]) | (rw [‹inkS σ k (ovS σ cn k) (rn - cp σ k 3) = false›]; simp)); exact hno j h1 (by omega))) _ _ ls hW hS (by rw [eq13]; exact lv_sub hl [0, 3, 4, 5] rfl)
            · have c12d := of_decide_eq_true c12
              refine lv_aload_n F.1 F.2.1 dX9_designOf_83 rfl (lv_at hl 3 rfl) ?_
              refine lv_iload_n F.1 F.2.1 dX9_designOf_84 rfl (lv_at hl 2 rfl) ?_
              refine lv_iload F.1 F.2.1 dX9_designOf_85 (lv_at hl 1 rfl) ?_
              refine lv_iload F.1 F.2.1 dX9_designOf_87 (lv_at hl 0 rfl) ?_
              refine cl_RX9_108 (As := [.int (iI k), .int (iI (ovS σ cn k)), .int (iI (rn - (cp σ k 3)))]) (rest := []) F hl (c_X9_isInk l X w mo v σ k (ovS σ cn k) (rn - (cp σ k 3)) hM hs hwf (by omega) (by omega)) hW hS hM rfl rfl ⟨Nat.le_of_ble_eq_true rfl, Nat.le_of_ble_eq_true rfl⟩ (Nat.le_of_ble_eq_true rfl) ⟨Nat.zero_le _, Nat.zero_le _⟩ dX9_designOf_89 (fun w1 H locs hp14 hW hS => ?_)
              rw [hp14] at hW; clear hp14; clear w1
              refine h_ifeqb (tgt := 102) F dX9_designOf_92 (by decide) (fun c15 => ?_) (fun c15 => ?_)
              · refine h_iinc (k := 2) (a := k) (lv' := [(3, .int (iI (k + 1))), (5, .int (iI (rn - (cp σ k 3)))), (4, .int (iI (ovS σ cn k))), (0, .ref mo), (1, .int (iI cn)), (2, .int (iI rn))]) F dX9_designOf_102 hl rfl (by decide) rfl (fun ls hl => ?_)
                refine h_goto (tgt := 2) F dX9_designOf_105 (by decide) ?_
                have eq16 : ((k + 1) : Int) = k + 1 := by first | rfl | omega | simp
                exact ih2 (k + 1)  (by omega) (by omega)  (fun j h1 h2 => (by by_cases hj : j = k; (rw [hj]; unfold hitS; first | (rw [decide_eq_false (p := 0 ≤ ovS σ cn k ∧ ovS σ cn k ≤ 4 * cp σ k 0 - 2) (by omega)]; rfl) | (have e9 : decide (0 ≤ rn - cp σ k 3 ∧ rn - cp σ k 3 ≤ 4) = false := decide_eq_false (by omega); rw [e9, Bool.and_false, Bool.false_and]) | (rw [‹inkS σ k (ovS σ cn k) (rn - cp σ k 3) = false›]; simp)); exact hno j h1 (by omega))) _ _ ls hW hS (by rw [eq16]; exact lv_sub hl [0, 3, 4, 5] rfl)
              · refine lv_aload_n F.1 F.2.1 dX9_designOf_95 rfl (lv_at hl 3 rfl) ?_
                refine lv_iload_n F.1 F.2.1 dX9_designOf_96 rfl (lv_at hl 2 rfl) ?_
                refine h_iconst F dX9_designOf_97 ?_
                refine cl_RX9_95 (As := [.int (iI k), .int (iI 4)]) (rest := []) F hl (c_X9_cap l X w mo v σ k 4 hM hs hwf (by omega)) hW hS hM rfl rfl ⟨Nat.le_of_ble_eq_true rfl, Nat.le_of_ble_eq_true rfl⟩ (Nat.le_of_ble_eq_true rfl) ⟨Nat.zero_le _, Nat.zero_le _⟩ dX9_designOf_98 (fun w1 H locs hp17 hW hS => ?_)
                rw [hp17] at hW; clear hp17; clear w1
                refine h_top (show (cp σ k 4 : Int) = desS σ cn rn from by have hh : fi (hitS σ cn rn) 0 (σ 5) = k := fi_hit (by omega) (by omega) hno (by unfold hitS; rw [decide_eq_true (p := 0 ≤ ovS σ cn k ∧ ovS σ cn k ≤ 4 * cp σ k 0 - 2) (by omega), decide_eq_true (p := 0 ≤ rn - cp σ k 3 ∧ rn - cp σ k 3 ≤ 4) (by omega), ‹inkS σ k (ovS σ cn k) (rn - cp σ k 3) = true›]; rfl); unfold desS; rw [hh, if_pos (by omega)]) ?_
                exact h_ireti F hr hlk hW hS rfl dX9_designOf_101
        · refine lv_iload_n F.1 F.2.1 dX9_designOf_21 rfl (lv_at hl 2 rfl) ?_
          refine h_goto (tgt := 30) F dX9_designOf_22 (by decide) ?_
          refine lv_aload_n F.1 F.2.1 dX9_designOf_30 rfl (lv_at hl 1 rfl) ?_
          refine lv_iload_n F.1 F.2.1 dX9_designOf_31 rfl (lv_at hl 0 rfl) ?_
          refine h_iconst F dX9_designOf_32 ?_
          refine cl_RX9_95 (As := [.int (iI k), .int (iI 2)]) (rest := [.int (iI cn)]) F hl (c_X9_cap l X w mo v σ k 2 hM hs hwf (by omega)) hW hS hM rfl rfl ⟨Nat.le_of_ble_eq_true rfl, Nat.le_of_ble_eq_true rfl⟩ (Nat.le_of_ble_eq_true rfl) ⟨Nat.zero_le _, Nat.zero_le _⟩ dX9_designOf_33 (fun w1 H locs hp18 hW hS => ?_)
          rw [hp18] at hW; clear hp18; clear w1
          refine h_isub (a := cn) (b := cp σ k 2) F dX9_designOf_36 ?_
          refine h_top (show (cn - (cp σ k 2) : Int) = ovS σ cn k from by unfold ovS; split <;> first | rfl | omega) ?_
          refine lv_istore (lv' := [(4, .int (iI (ovS σ cn k))), (3, .int (iI k)), (0, .ref mo), (1, .int (iI cn)), (2, .int (iI rn))]) F.1 F.2.1 dX9_designOf_37 hl (by decide) rfl (fun ls hl => ?_)
          refine lv_iload_n F.1 F.2.1 dX9_designOf_39 rfl (lv_at hl 4 rfl) ?_
          refine lv_aload_n F.1 F.2.1 dX9_designOf_40 rfl (lv_at hl 2 rfl) ?_
          refine lv_iload_n F.1 F.2.1 dX9_designOf_41 rfl (lv_at hl 1 rfl) ?_
          refine h_iconst F dX9_designOf_42 ?_
          refine cl_RX9_95 (As := [.int (iI k), .int (iI 3)]) (rest := [.int (iI rn)]) F hl (c_X9_cap l X w mo v σ k 3 hM hs hwf (by omega)) hW hS hM rfl rfl ⟨Nat.le_of_ble_eq_true rfl, Nat.le_of_ble_eq_true rfl⟩ (Nat.le_of_ble_eq_true rfl) ⟨Nat.zero_le _, Nat.zero_le _⟩ dX9_designOf_43 (fun w1 H locs hp19 hW hS => ?_)
          rw [hp19] at hW; clear hp19; clear w1
          have hov : -80 ≤ ovS σ cn k ∧ ovS σ cn k ≤ 80 := by unfold ovS; split <;> omega
          refine h_isub (a := rn) (b := cp σ k 3) F dX9_designOf_46 ?_
          refine lv_istore (lv' := [(5, .int (iI (rn - (cp σ k 3)))), (4, .int (iI (ovS σ cn k))), (3, .int (iI k)), (0, .ref mo), (1, .int (iI cn)), (2, .int (iI rn))]) F.1 F.2.1 dX9_designOf_47 hl (by decide) rfl (fun ls hl => ?_)
          refine lv_iload F.1 F.2.1 dX9_designOf_49 (lv_at hl 1 rfl) ?_
          refine h_i2l F dX9_designOf_51 (by omega) ?_
          refine h_lconst (n := 0) (z := 0) F dX9_designOf_52 rfl ?_
          refine h_iconst F dX9_designOf_53 ?_
          refine lv_aload_n F.1 F.2.1 dX9_designOf_54 rfl (lv_at hl 3 rfl) ?_
          refine lv_iload_n F.1 F.2.1 dX9_designOf_55 rfl (lv_at hl 2 rfl) ?_
          refine h_iconst F dX9_designOf_56 ?_
          refine cl_RX9_95 (As := [.int (iI k), .int (iI 0)]) (rest := [.int (iI 4), .long (lI 0), .long (lI (ovS σ cn k))]) F hl (c_X9_cap l X w mo v σ k 0 hM hs hwf (by omega)) hW hS hM rfl rfl ⟨Nat.le_of_ble_eq_true rfl, Nat.le_of_ble_eq_true rfl⟩ (Nat.le_of_ble_eq_true rfl) ⟨Nat.zero_le _, Nat.zero_le _⟩ dX9_designOf_57 (fun w1 H locs hp20 hW hS => ?_)
          rw [hp20] at hW; clear hp20; clear w1
          refine h_imul (a := 4) (b := cp σ k 0) F dX9_designOf_60 ?_
          refine h_iconst F dX9_designOf_61 ?_
          refine h_isub (a := 4 * (cp σ k 0)) (b := 2) F dX9_designOf_62 ?_
          refine h_i2l F dX9_designOf_63 (by omega) ?_
          refine cl_RX9_82 (As := [.long (lI (ovS σ cn k)), .long (lI 0), .long (lI ((4 * (cp σ k 0)) - 2))]) (rest := []) F hl (c_X9_isIn l X w (ovS σ cn k) 0 ((4 * (cp σ k 0)) - 2) (by omega) (by omega) (by omega)) hW hS rfl rfl ⟨Nat.le_of_ble_eq_true rfl, Nat.le_of_ble_eq_true rfl⟩ (Nat.le_of_ble_eq_true rfl) ⟨Nat.zero_le _, Nat.zero_le _⟩ dX9_designOf_64 (fun w1 H locs hp21 hW hS => ?_)
          rw [hp21] at hW; clear hp21; clear w1
          refine h_ifeqb (tgt := 102) F dX9_designOf_67 (by decide) (fun c22 => ?_) (fun c22 => ?_)
          · have c22d := of_decide_eq_false c22
            refine h_iinc (k := 2) (a := k) (lv' := [(3, .int (iI (k + 1))), (5, .int (iI (rn - (cp σ k 3)))), (4, .int (iI (ovS σ cn k))), (0, .ref mo), (1, .int (iI cn)), (2, .int (iI rn))]) F dX9_designOf_102 hl rfl (by decide) rfl (fun ls hl => ?_)
            refine h_goto (tgt := 2) F dX9_designOf_105 (by decide) ?_
            have eq23 : ((k + 1) : Int) = k + 1 := by first | rfl | omega | simp
            exact ih2 (k + 1)  (by omega) (by omega)  (fun j h1 h2 => (by by_cases hj : j = k; (rw [hj]; unfold hitS; first | (rw [decide_eq_false (p := 0 ≤ ovS σ cn k ∧ ovS σ cn k ≤ 4 * cp σ k 0 - 2) (by omega)]; rfl) | (have e9 : decide (0 ≤ rn - cp σ k 3 ∧ rn - cp σ k 3 ≤ 4) = false := decide_eq_false (by omega); rw [e9, Bool.and_false, Bool.false_and]) | (rw [‹inkS σ k (ovS σ cn k) (rn - cp σ k 3) = false›]; simp)); exact hno j h1 (by omega))) _ _ ls hW hS (by rw [eq23]; exact lv_sub hl [0, 3, 4, 5] rfl)
          · have c22d := of_decide_eq_true c22
            refine lv_iload F.1 F.2.1 dX9_designOf_70 (lv_at hl 0 rfl) ?_
            refine h_i2l F dX9_designOf_72 (by omega) ?_
            refine h_lconst (n := 0) (z := 0) F dX9_designOf_73 rfl ?_
            refine h_ldc2 (n := 4) F kk_RX9_106 dX9_designOf_74 ?_
            refine cl_RX9_82 (As := [.long (lI (rn - (cp σ k 3))), .long (lI 0), .long (lI 4)]) (rest := []) F hl (c_X9_isIn l X w (rn - (cp σ k 3)) 0 4 (by omega) (by omega) (by omega)) hW hS rfl rfl ⟨Nat.le_of_ble_eq_true rfl, Nat.le_of_ble_eq_true rfl⟩ (Nat.le_of_ble_eq_true rfl) ⟨Nat.zero_le _, Nat.zero_le _⟩ dX9_designOf_77 (fun w1 H locs hp24 hW hS => ?_)
            rw [hp24] at hW; clear hp24; clear w1
            refine h_ifeqb (tgt := 102) F dX9_designOf_80 (by decide) (fun c25 => ?_) (fun c25 => ?_)
            · have c25d := of_decide_eq_false c25
              refine h_iinc (k := 2) (a := k) (lv' := [(3, .int (iI (k + 1))), (5, .int (iI (rn - (cp σ k 3)))), (4, .int (iI (ovS σ cn k))), (0, .ref mo), (1, .int (iI cn)), (2, .int (iI rn))]) F dX9_designOf_102 hl rfl (by decide) rfl (fun ls hl => ?_)
              refine h_goto (tgt := 2) F dX9_designOf_105 (by decide) ?_
              have eq26 : ((k + 1) : Int) = k + 1 := by first | rfl | omega | simp
              exact ih2 (k + 1)  (by omega) (by omega)  (fun j h1 h2 => (by by_cases hj : j = k; (rw [hj]; unfold hitS; first | (rw [decide_eq_false (p := 0 ≤ ovS σ cn k ∧ ovS σ cn k ≤ 4 * cp σ k 0 - 2) (by omega)]; rfl) | (have e9 : decide (0 ≤ rn - cp σ k 3 ∧ rn - cp σ k 3 ≤ 4) = false := decide_eq_false (by omega); rw [e9, Bool.and_false, Bool.false_and]) | (rw [‹inkS σ k (ovS σ cn k) (rn - cp σ k 3) = false›]; simp)); exact hno j h1 (by omega))) _ _ ls hW hS (by rw [eq26]; exact lv_sub hl [0, 3, 4, 5] rfl)
            · have c25d := of_decide_eq_true c25
              refine lv_aload_n F.1 F.2.1 dX9_designOf_83 rfl (lv_at hl 3 rfl) ?_
              refine lv_iload_n F.1 F.2.1 dX9_designOf_84 rfl (lv_at hl 2 rfl) ?_
              refine lv_iload F.1 F.2.1 dX9_designOf_85 (lv_at hl 1 rfl) ?_
              refine lv_iload F.1 F.2.1 dX9_designOf_87 (lv_at hl 0 rfl) ?_
              refine cl_RX9_108 (As := [.int (iI k), .int (iI (ovS σ cn k)), .int (iI (rn - (cp σ k 3)))]) (rest := []) F hl (c_X9_isInk l X w mo v σ k (ovS σ cn k) (rn - (cp σ k 3)) hM hs hwf (by omega) (by omega)) hW hS hM rfl rfl ⟨Nat.le_of_ble_eq_true rfl, Nat.le_of_ble_eq_true rfl⟩ (Nat.le_of_ble_eq_true rfl) ⟨Nat.zero_le _, Nat.zero_le _⟩ dX9_designOf_89 (fun w1 H locs hp27 hW hS => ?_)
              rw [hp27] at hW; clear hp27; clear w1
              refine h_ifeqb (tgt := 102) F dX9_designOf_92 (by decide) (fun c28 => ?_) (fun c28 => ?_)
              · refine h_iinc (k := 2) (a := k) (lv' := [(3, .int (iI (k + 1))), (5, .int (iI (rn - (cp σ k 3)))), (4, .int (iI (ovS σ cn k))), (0, .ref mo), (1, .int (iI cn)), (2, .int (iI rn))]) F dX9_designOf_102 hl rfl (by decide) rfl (fun ls hl => ?_)
                refine h_goto (tgt := 2) F dX9_designOf_105 (by decide) ?_
                have eq29 : ((k + 1) : Int) = k + 1 := by first | rfl | omega | simp
                exact ih2 (k + 1)  (by omega) (by omega)  (fun j h1 h2 => (by by_cases hj : j = k; (rw [hj]; unfold hitS; first | (rw [decide_eq_false (p := 0 ≤ ovS σ cn k ∧ ovS σ cn k ≤ 4 * cp σ k 0 - 2) (by omega)]; rfl) | (have e9 : decide (0 ≤ rn - cp σ k 3 ∧ rn - cp σ k 3 ≤ 4) = false := decide_eq_false (by omega); rw [e9, Bool.and_false, Bool.false_and]) | (rw [‹inkS σ k (ovS σ cn k) (rn - cp σ k 3) = false›]; simp)); exact hno j h1 (by omega))) _ _ ls hW hS (by rw [eq29]; exact lv_sub hl [0, 3, 4, 5] rfl)
              · refine lv_aload_n F.1 F.2.1 dX9_designOf_95 rfl (lv_at hl 3 rfl) ?_
                refine lv_iload_n F.1 F.2.1 dX9_designOf_96 rfl (lv_at hl 2 rfl) ?_
                refine h_iconst F dX9_designOf_97 ?_
                refine cl_RX9_95 (As := [.int (iI k), .int (iI 4)]) (rest := []) F hl (c_X9_cap l X w mo v σ k 4 hM hs hwf (by omega)) hW hS hM rfl rfl ⟨Nat.le_of_ble_eq_true rfl, Nat.le_of_ble_eq_true rfl⟩ (Nat.le_of_ble_eq_true rfl) ⟨Nat.zero_le _, Nat.zero_le _⟩ dX9_designOf_98 (fun w1 H locs hp30 hW hS => ?_)
                rw [hp30] at hW; clear hp30; clear w1
                refine h_top (show (cp σ k 4 : Int) = desS σ cn rn from by have hh : fi (hitS σ cn rn) 0 (σ 5) = k := fi_hit (by omega) (by omega) hno (by unfold hitS; rw [decide_eq_true (p := 0 ≤ ovS σ cn k ∧ ovS σ cn k ≤ 4 * cp σ k 0 - 2) (by omega), decide_eq_true (p := 0 ≤ rn - cp σ k 3 ∧ rn - cp σ k 3 ≤ 4) (by omega), ‹inkS σ k (ovS σ cn k) (rn - cp σ k 3) = true›]; rfl); unfold desS; rw [hh, if_pos (by omega)]) ?_
                exact h_ireti F hr hlk hW hS rfl dX9_designOf_101
  exact loop2 ((σ 5 - 0) + 1 : Int).toNat 0  (by omega) (by omega)  (fun j h1 h2 => by omega) _ _ ls hW hS (lv_sub hl [0, 1, 2, 3] rfl)
set_option maxHeartbeats 4000000 in
set_option maxRecDepth 100000 in
theorem c_X9_lies (l : Launch) (X : Cx) (w : Wo) (u : Nat) (σ : Int → Int) (n x y : Int) (hs : w u = some (aZ X 1317 σ)) (hwf : WF σ) (hn : 1 ≤ n ∧ n ≤ 8) (hx : -2147483648 ≤ x ∧ x < 2147483648) (hy : -2147483648 ≤ y ∧ y < 2147483648) : CM l X yX9_lies cX9_lies 6 (some (.boolean)) (rmk 0 0) [.ref u, .int (iI n), .long (lI x), .long (lI y)] w (some (.int (iI (bz (liesS σ n x y))))) (fun w' => w' = w) := by
  refine CM.of (lv := [(0, .ref u), (1, .int (iI n)), (2, .long (lI x)), (4, .long (lI y))]) (by decide) (Nat.le_of_ble_eq_true rfl) rfl (fun p e s m below meth c ls F hr hlk hin hW hS hl => ?_)
  have hZ0 := hW.2.2
  have hB9 := hW.1.2
  clear hin
  have hF := hwf.1
  unfold WF0 at hF
  refine lv_lload_n F.1 F.2.1 dX9_lies_0 rfl (lv_at hl 2 rfl) ?_
  refine h_lconst (n := 0) (z := 0) F dX9_lies_1 rfl ?_
  refine h_lclt (tgt := 49) F dX9_lies_2 rfl dX9_lies_3 (by omega) (by decide) (fun c1 => ?_) (fun c1 => ?_)
  · refine h_iconst F dX9_lies_49 ?_
    refine h_top (show (0 : Int) = bz (liesS σ n x y) from bzf (by first | exact decide_eq_false (by omega) | (simp only [Bool.and_eq_false_iff, Bool.or_eq_false_iff, decide_eq_false_iff_not]; omega) | simp_all)) ?_
    exact h_iretz F hr hlk hW hS rfl dX9_lies_50
  · refine lv_lload F.1 F.2.1 dX9_lies_6 (lv_at hl 3 rfl) ?_
    refine h_lconst (n := 0) (z := 0) F dX9_lies_8 rfl ?_
    refine h_lclt (tgt := 49) F dX9_lies_9 rfl dX9_lies_10 (by omega) (by decide) (fun c2 => ?_) (fun c2 => ?_)
    · refine h_iconst F dX9_lies_49 ?_
      refine h_top (show (0 : Int) = bz (liesS σ n x y) from bzf (by first | exact decide_eq_false (by omega) | (simp only [Bool.and_eq_false_iff, Bool.or_eq_false_iff, decide_eq_false_iff_not]; omega) | simp_all)) ?_
      exact h_iretz F hr hlk hW hS rfl dX9_lies_50
    · refine lv_lload_n F.1 F.2.1 dX9_lies_13 rfl (lv_at hl 2 rfl) ?_
      refine h_iconst F dX9_lies_14 ?_
      refine lv_iload_n F.1 F.2.1 dX9_lies_15 rfl (lv_at hl 1 rfl) ?_
      refine h_imul (a := 4) (b := n) F dX9_lies_16 ?_
      refine h_i2l F dX9_lies_17 (by omega) ?_
      refine h_ladd F dX9_lies_18 ?_
      refine h_ldc2 (n := 2) F kk_RX9_111 dX9_lies_19 ?_
      refine h_lsub F dX9_lies_22 ?_
      refine lv_aload_n F.1 F.2.1 dX9_lies_23 rfl (lv_at hl 0 rfl) ?_
      refine h_iconst F dX9_lies_24 ?_
      refine h_iald F hW hs (by omega) (by omega) dX9_lies_25 ?_
      refine h_i2l F dX9_lies_26 (by omega) ?_
      refine h_lcge (tgt := 49) F dX9_lies_27 rfl dX9_lies_28 (by omega) (by decide) (fun c3 => ?_) (fun c3 => ?_)
      · refine h_iconst F dX9_lies_49 ?_
        refine h_top (show (0 : Int) = bz (liesS σ n x y) from bzf (by first | exact decide_eq_false (by omega) | (simp only [Bool.and_eq_false_iff, Bool.or_eq_false_iff, decide_eq_false_iff_not]; omega) | simp_all)) ?_
        exact h_iretz F hr hlk hW hS rfl dX9_lies_50
      · refine lv_lload F.1 F.2.1 dX9_lies_31 (lv_at hl 3 rfl) ?_
        refine h_ldc2 (n := 4) F kk_RX9_106 dX9_lies_33 ?_
        refine h_ladd F dX9_lies_36 ?_
        refine lv_aload_n F.1 F.2.1 dX9_lies_37 rfl (lv_at hl 0 rfl) ?_
        refine h_iconst F dX9_lies_38 ?_
        refine h_iald F hW hs (by omega) (by omega) dX9_lies_39 ?_
        refine h_i2l F dX9_lies_40 (by omega) ?_
        refine h_lcge (tgt := 49) F dX9_lies_41 rfl dX9_lies_42 (by omega) (by decide) (fun c4 => ?_) (fun c4 => ?_)
        · refine h_iconst F dX9_lies_49 ?_
          refine h_top (show (0 : Int) = bz (liesS σ n x y) from bzf (by first | exact decide_eq_false (by omega) | (simp only [Bool.and_eq_false_iff, Bool.or_eq_false_iff, decide_eq_false_iff_not]; omega) | simp_all)) ?_
          exact h_iretz F hr hlk hW hS rfl dX9_lies_50
        · refine h_iconst F dX9_lies_45 ?_
          refine h_goto (tgt := 50) F dX9_lies_46 (by decide) ?_
          refine h_top (show (1 : Int) = bz (liesS σ n x y) from bzt (by first | exact decide_eq_true (by omega) | (simp only [Bool.and_eq_true, Bool.or_eq_true, decide_eq_true_eq]; omega) | simp_all)) ?_
          exact h_iretz F hr hlk hW hS rfl dX9_lies_50
set_option maxHeartbeats 4000000 in
set_option maxRecDepth 100000 in
theorem c_X9_meets (l : Launch) (X : Cx) (w : Wo) (u : Nat) (σ : Int → Int) (n sd x y bu : Int) (hs : w u = some (aZ X 1317 σ)) (hwf : WF σ) (hn : 1 ≤ n ∧ n ≤ 8) (hsd : sd = 0 ∨ sd = 1) (hx : 0 ≤ x ∧ x + 4 * n - 1 ≤ σ 0) (hy : 0 ≤ y ∧ y + 5 ≤ σ 1) (hb : -1 ≤ bu ∧ bu ≤ 8) : CM l X yX9_meets cX9_meets 13 (some (.boolean)) (rmk 0 0) [.ref u, .int (iI n), .int (iI sd), .int (iI x), .int (iI y), .int (iI bu)] w (some (.int (iI (bz (meetS σ n sd x y bu))))) (fun w' => w' = w) := by
  refine CM.of (lv := [(0, .ref u), (1, .int (iI n)), (2, .int (iI sd)), (3, .int (iI x)), (4, .int (iI y)), (5, .int (iI bu))]) (by decide) (Nat.le_of_ble_eq_true rfl) rfl (fun p e s m below meth c ls F hr hlk hin hW hS hl => ?_)
  have hZ0 := hW.2.2
  have hB9 := hW.1.2
  clear hin
  have hF := hwf.1
  unfold WF0 at hF
  have hlc : 0 ≤ lowC σ n sd x ∧ lowC σ n sd x + 4 * n - 1 ≤ σ 0 := by unfold lowC; split <;> omega
  have join19 : ∀ (H : Heap) (locs : List Loc) (ls : Array Slot), Wd X w s H → va_S (cxA X) s.heap H locs → lv_has ls 13 [(0, .ref u), (1, .int (iI n)), (2, .int (iI sd)), (3, .int (iI x)), (4, .int (iI y)), (5, .int (iI bu))] → W p l e (rmk 0 0) s m (List.toArray [.ref u, .int (iI n), .int (iI sd), .int (iI x), .int (iI y), .int (iI bu)]) below meth c H locs 0 0 (MX X below (List.toArray [.ref u, .int (iI n), .int (iI sd), .int (iI x), .int (iI y), .int (iI bu)]) s 0 0 (some (.int (iI (bz (meetS σ n sd x y bu))))) (fun w' => w' = w)) (F0 m 19 ls [.int (iI (lowC σ n sd x))]) := by
    intro  H locs ls  hW hS hl
    refine lv_istore (lv' := [(6, .int (iI (lowC σ n sd x))), (0, .ref u), (1, .int (iI n)), (2, .int (iI sd)), (3, .int (iI x)), (4, .int (iI y)), (5, .int (iI bu))]) F.1 F.2.1 dX9_meets_19 hl (by decide) rfl (fun ls hl => ?_)
    refine h_iconst F dX9_meets_21 ?_
    refine lv_istore (lv' := [(7, .int (iI 0)), (6, .int (iI (lowC σ n sd x))), (0, .ref u), (1, .int (iI n)), (2, .int (iI sd)), (3, .int (iI x)), (4, .int (iI y)), (5, .int (iI bu))]) F.1 F.2.1 dX9_meets_22 hl (by decide) rfl (fun ls hl => ?_)
    refine h_iconst F dX9_meets_24 ?_
    refine lv_istore (lv' := [(8, .int (iI 0)), (7, .int (iI 0)), (6, .int (iI (lowC σ n sd x))), (0, .ref u), (1, .int (iI n)), (2, .int (iI sd)), (3, .int (iI x)), (4, .int (iI y)), (5, .int (iI bu))]) F.1 F.2.1 dX9_meets_25 hl (by decide) rfl (fun ls hl => ?_)
    have loop27 : ∀ (n9 : Nat) (k : Int), (hrg : 0 ≤ k ∧ k ≤ σ 5) → (hms : σ 5 - k < (n9 : Int)) → (H : Heap) → (locs : List Loc) → (ls : Array Slot) → Wd X w s H → va_S (cxA X) s.heap H locs → lv_has ls 13 [(7, .int (iI (bz (ex (fun z => decide (z ≠ bu) && mtS σ n sd x y z) 0 k)))), (8, .int (iI k)), (6, .int (iI (lowC σ n sd x))), (0, .ref u), (1, .int (iI n)), (2, .int (iI sd)), (3, .int (iI x)), (4, .int (iI y)), (5, .int (iI bu))] → W p l e (rmk 0 0) s m (List.toArray [.ref u, .int (iI n), .int (iI sd), .int (iI x), .int (iI y), .int (iI bu)]) below meth c H locs 0 0 (MX X below (List.toArray [.ref u, .int (iI n), .int (iI sd), .int (iI x), .int (iI y), .int (iI bu)]) s 0 0 (some (.int (iI (bz (meetS σ n sd x y bu))))) (fun w' => w' = w)) (F0 m 27 ls []) := by
      intro n9
      induction n9 with
      | zero => intro k  hrg hms; exfalso; omega
      | succ n9 ih27 =>
        intro k  hrg hms   H locs ls hW hS hl
        refine lv_iload F.1 F.2.1 dX9_meets_27 (lv_at hl 1 rfl) ?_
        refine lv_aload_n F.1 F.2.1 dX9_meets_29 rfl (lv_at hl 3 rfl) ?_
        refine h_iconst F dX9_meets_30 ?_
        refine h_iald F hW hs (by omega) (by omega) dX9_meets_31 ?_
        refine h_icge (tgt := 192) F dX9_meets_32 (by decide) (by omega) (fun c1 => ?_) (fun c1 => ?_)
        · refine lv_iload F.1 F.2.1 dX9_meets_192 (lv_at hl 0 rfl) ?_
          refine h_top (show (bz (ex (fun z => decide (z ≠ bu) && mtS σ n sd x y z) 0 k) : Int) = bz (meetS σ n sd x y bu) from by rw [show k = σ 5 by omega]; rfl) ?_
          exact h_iretz F hr hlk hW hS rfl dX9_meets_194
        · obtain ⟨m1, m2, m3, m4, m5, m6⟩ := hwf.2.2.1 k (by omega) (by omega)
          have hlk : 0 ≤ lowC σ (cp σ k 0) (cp σ k 1) (cp σ k 2) ∧ lowC σ (cp σ k 0) (cp σ k 1) (cp σ k 2) + 4 * cp σ k 0 - 1 ≤ σ 0 := by unfold lowC; split <;> omega
          refine h_bipush F dX9_meets_35 rfl ?_
          refine h_bipush F dX9_meets_37 rfl ?_
          refine lv_iload F.1 F.2.1 dX9_meets_39 (lv_at hl 1 rfl) ?_
          refine h_imul (a := 13) (b := k) F dX9_meets_41 ?_
          refine h_iadd (a := 13) (b := 13 * k) F dX9_meets_42 ?_
          refine lv_istore (lv' := [(9, .int (iI (13 + (13 * k)))), (7, .int (iI (bz (ex (fun z => decide (z ≠ bu) && mtS σ n sd x y z) 0 k)))), (8, .int (iI k)), (6, .int (iI (lowC σ n sd x))), (0, .ref u), (1, .int (iI n)), (2, .int (iI sd)), (3, .int (iI x)), (4, .int (iI y)), (5, .int (iI bu))]) F.1 F.2.1 dX9_meets_43 hl (by decide) rfl (fun ls hl => ?_)
          have join84 : ∀ (H : Heap) (locs : List Loc) (ls : Array Slot), Wd X w s H → va_S (cxA X) s.heap H locs → lv_has ls 13 [(9, .int (iI (13 + (13 * k)))), (7, .int (iI (bz (ex (fun z => decide (z ≠ bu) && mtS σ n sd x y z) 0 k)))), (8, .int (iI k)), (6, .int (iI (lowC σ n sd x))), (0, .ref u), (1, .int (iI n)), (2, .int (iI sd)), (3, .int (iI x)), (4, .int (iI y)), (5, .int (iI bu))] → W p l e (rmk 0 0) s m (List.toArray [.ref u, .int (iI n), .int (iI sd), .int (iI x), .int (iI y), .int (iI bu)]) below meth c H locs 0 0 (MX X below (List.toArray [.ref u, .int (iI n), .int (iI sd), .int (iI x), .int (iI y), .int (iI bu)]) s 0 0 (some (.int (iI (bz (meetS σ n sd x y bu))))) (fun w' => w' = w)) (F0 m 84 ls [.int (iI (lowC σ (cp σ k 0) (cp σ k 1) (cp σ k 2)))]) := by
            intro  H locs ls  hW hS hl
            refine lv_istore (lv' := [(10, .int (iI (lowC σ (cp σ k 0) (cp σ k 1) (cp σ k 2)))), (9, .int (iI (13 + (13 * k)))), (7, .int (iI (bz (ex (fun z => decide (z ≠ bu) && mtS σ n sd x y z) 0 k)))), (8, .int (iI k)), (6, .int (iI (lowC σ n sd x))), (0, .ref u), (1, .int (iI n)), (2, .int (iI sd)), (3, .int (iI x)), (4, .int (iI y)), (5, .int (iI bu))]) F.1 F.2.1 dX9_meets_84 hl (by decide) rfl (fun ls hl => ?_)
            have join122 : ∀ (H : Heap) (locs : List Loc) (ls : Array Slot), Wd X w s H → va_S (cxA X) s.heap H locs → lv_has ls 13 [(10, .int (iI (lowC σ (cp σ k 0) (cp σ k 1) (cp σ k 2)))), (9, .int (iI (13 + (13 * k)))), (7, .int (iI (bz (ex (fun z => decide (z ≠ bu) && mtS σ n sd x y z) 0 k)))), (8, .int (iI k)), (6, .int (iI (lowC σ n sd x))), (0, .ref u), (1, .int (iI n)), (2, .int (iI sd)), (3, .int (iI x)), (4, .int (iI y)), (5, .int (iI bu))] → W p l e (rmk 0 0) s m (List.toArray [.ref u, .int (iI n), .int (iI sd), .int (iI x), .int (iI y), .int (iI bu)]) below meth c H locs 0 0 (MX X below (List.toArray [.ref u, .int (iI n), .int (iI sd), .int (iI x), .int (iI y), .int (iI bu)]) s 0 0 (some (.int (iI (bz (meetS σ n sd x y bu))))) (fun w' => w' = w)) (F0 m 122 ls [.int (iI (bz (decide (lowC σ n sd x ≤ lowC σ (cp σ k 0) (cp σ k 1) (cp σ k 2) + 4 * cp σ k 0 - 2) && decide (lowC σ (cp σ k 0) (cp σ k 1) (cp σ k 2) ≤ lowC σ n sd x + 4 * n - 2))))]) := by
              intro  H locs ls  hW hS hl
              refine lv_istore (lv' := [(11, .int (iI (bz (decide (lowC σ n sd x ≤ lowC σ (cp σ k 0) (cp σ k 1) (cp σ k 2) + 4 * cp σ k 0 - 2) && decide (lowC σ (cp σ k 0) (cp σ k 1) (cp σ k 2) ≤ lowC σ n sd x + 4 * n - 2))))), (10, .int (iI (lowC σ (cp σ k 0) (cp σ k 1) (cp σ k 2)))), (9, .int (iI (13 + (13 * k)))), (7, .int (iI (bz (ex (fun z => decide (z ≠ bu) && mtS σ n sd x y z) 0 k)))), (8, .int (iI k)), (6, .int (iI (lowC σ n sd x))), (0, .ref u), (1, .int (iI n)), (2, .int (iI sd)), (3, .int (iI x)), (4, .int (iI y)), (5, .int (iI bu))]) F.1 F.2.1 dX9_meets_122 hl (by decide) rfl (fun ls hl => ?_)
              have join155 : ∀ (H : Heap) (locs : List Loc) (ls : Array Slot), Wd X w s H → va_S (cxA X) s.heap H locs → lv_has ls 13 [(11, .int (iI (bz (decide (lowC σ n sd x ≤ lowC σ (cp σ k 0) (cp σ k 1) (cp σ k 2) + 4 * cp σ k 0 - 2) && decide (lowC σ (cp σ k 0) (cp σ k 1) (cp σ k 2) ≤ lowC σ n sd x + 4 * n - 2))))), (10, .int (iI (lowC σ (cp σ k 0) (cp σ k 1) (cp σ k 2)))), (9, .int (iI (13 + (13 * k)))), (7, .int (iI (bz (ex (fun z => decide (z ≠ bu) && mtS σ n sd x y z) 0 k)))), (8, .int (iI k)), (6, .int (iI (lowC σ n sd x))), (0, .ref u), (1, .int (iI n)), (2, .int (iI sd)), (3, .int (iI x)), (4, .int (iI y)), (5, .int (iI bu))] → W p l e (rmk 0 0) s m (List.toArray [.ref u, .int (iI n), .int (iI sd), .int (iI x), .int (iI y), .int (iI bu)]) below meth c H locs 0 0 (MX X below (List.toArray [.ref u, .int (iI n), .int (iI sd), .int (iI x), .int (iI y), .int (iI bu)]) s 0 0 (some (.int (iI (bz (meetS σ n sd x y bu))))) (fun w' => w' = w)) (F0 m 155 ls [.int (iI (bz (decide (y ≤ cp σ k 3 + 4) && decide (cp σ k 3 ≤ y + 4))))]) := by
                intro  H locs ls  hW hS hl
                refine lv_istore (lv' := [(12, .int (iI (bz (decide (y ≤ cp σ k 3 + 4) && decide (cp σ k 3 ≤ y + 4))))), (11, .int (iI (bz (decide (lowC σ n sd x ≤ lowC σ (cp σ k 0) (cp σ k 1) (cp σ k 2) + 4 * cp σ k 0 - 2) && decide (lowC σ (cp σ k 0) (cp σ k 1) (cp σ k 2) ≤ lowC σ n sd x + 4 * n - 2))))), (10, .int (iI (lowC σ (cp σ k 0) (cp σ k 1) (cp σ k 2)))), (9, .int (iI (13 + (13 * k)))), (7, .int (iI (bz (ex (fun z => decide (z ≠ bu) && mtS σ n sd x y z) 0 k)))), (8, .int (iI k)), (6, .int (iI (lowC σ n sd x))), (0, .ref u), (1, .int (iI n)), (2, .int (iI sd)), (3, .int (iI x)), (4, .int (iI y)), (5, .int (iI bu))]) F.1 F.2.1 dX9_meets_155 hl (by decide) rfl (fun ls hl => ?_)
                have join184 : ∀ (H : Heap) (locs : List Loc) (ls : Array Slot), Wd X w s H → va_S (cxA X) s.heap H locs → lv_has ls 13 [(12, .int (iI (bz (decide (y ≤ cp σ k 3 + 4) && decide (cp σ k 3 ≤ y + 4))))), (11, .int (iI (bz (decide (lowC σ n sd x ≤ lowC σ (cp σ k 0) (cp σ k 1) (cp σ k 2) + 4 * cp σ k 0 - 2) && decide (lowC σ (cp σ k 0) (cp σ k 1) (cp σ k 2) ≤ lowC σ n sd x + 4 * n - 2))))), (10, .int (iI (lowC σ (cp σ k 0) (cp σ k 1) (cp σ k 2)))), (9, .int (iI (13 + (13 * k)))), (7, .int (iI (bz (ex (fun z => decide (z ≠ bu) && mtS σ n sd x y z) 0 k)))), (8, .int (iI k)), (6, .int (iI (lowC σ n sd x))), (0, .ref u), (1, .int (iI n)), (2, .int (iI sd)), (3, .int (iI x)), (4, .int (iI y)), (5, .int (iI bu))] → W p l e (rmk 0 0) s m (List.toArray [.ref u, .int (iI n), .int (iI sd), .int (iI x), .int (iI y), .int (iI bu)]) below meth c H locs 0 0 (MX X below (List.toArray [.ref u, .int (iI n), .int (iI sd), .int (iI x), .int (iI y), .int (iI bu)]) s 0 0 (some (.int (iI (bz (meetS σ n sd x y bu))))) (fun w' => w' = w)) (F0 m 184 ls [.int (iI (bz ((ex (fun z => decide (z ≠ bu) && mtS σ n sd x y z) 0 k) || (decide (k ≠ bu) && ((decide (lowC σ n sd x ≤ lowC σ (cp σ k 0) (cp σ k 1) (cp σ k 2) + 4 * cp σ k 0 - 2) && decide (lowC σ (cp σ k 0) (cp σ k 1) (cp σ k 2) ≤ lowC σ n sd x + 4 * n - 2)) && (decide (y ≤ cp σ k 3 + 4) && decide (cp σ k 3 ≤ y + 4)))))))]) := by
                  intro  H locs ls  hW hS hl
                  refine lv_istore (lv' := [(7, .int (iI (bz ((ex (fun z => decide (z ≠ bu) && mtS σ n sd x y z) 0 k) || (decide (k ≠ bu) && ((decide (lowC σ n sd x ≤ lowC σ (cp σ k 0) (cp σ k 1) (cp σ k 2) + 4 * cp σ k 0 - 2) && decide (lowC σ (cp σ k 0) (cp σ k 1) (cp σ k 2) ≤ lowC σ n sd x + 4 * n - 2)) && (decide (y ≤ cp σ k 3 + 4) && decide (cp σ k 3 ≤ y + 4)))))))), (12, .int (iI (bz (decide (y ≤ cp σ k 3 + 4) && decide (cp σ k 3 ≤ y + 4))))), (11, .int (iI (bz (decide (lowC σ n sd x ≤ lowC σ (cp σ k 0) (cp σ k 1) (cp σ k 2) + 4 * cp σ k 0 - 2) && decide (lowC σ (cp σ k 0) (cp σ k 1) (cp σ k 2) ≤ lowC σ n sd x + 4 * n - 2))))), (10, .int (iI (lowC σ (cp σ k 0) (cp σ k 1) (cp σ k 2)))), (9, .int (iI (13 + (13 * k)))), (8, .int (iI k)), (6, .int (iI (lowC σ n sd x))), (0, .ref u), (1, .int (iI n)), (2, .int (iI sd)), (3, .int (iI x)), (4, .int (iI y)), (5, .int (iI bu))]) F.1 F.2.1 dX9_meets_184 hl (by decide) rfl (fun ls hl => ?_)
                  refine h_iinc (k := 5) (a := k) (lv' := [(8, .int (iI (k + 1))), (7, .int (iI (bz ((ex (fun z => decide (z ≠ bu) && mtS σ n sd x y z) 0 k) || (decide (k ≠ bu) && ((decide (lowC σ n sd x ≤ lowC σ (cp σ k 0) (cp σ k 1) (cp σ k 2) + 4 * cp σ k 0 - 2) && decide (lowC σ (cp σ k 0) (cp σ k 1) (cp σ k 2) ≤ lowC σ n sd x + 4 * n - 2)) && (decide (y ≤ cp σ k 3 + 4) && decide (cp σ k 3 ≤ y + 4)))))))), (12, .int (iI (bz (decide (y ≤ cp σ k 3 + 4) && decide (cp σ k 3 ≤ y + 4))))), (11, .int (iI (bz (decide (lowC σ n sd x ≤ lowC σ (cp σ k 0) (cp σ k 1) (cp σ k 2) + 4 * cp σ k 0 - 2) && decide (lowC σ (cp σ k 0) (cp σ k 1) (cp σ k 2) ≤ lowC σ n sd x + 4 * n - 2))))), (10, .int (iI (lowC σ (cp σ k 0) (cp σ k 1) (cp σ k 2)))), (9, .int (iI (13 + (13 * k)))), (6, .int (iI (lowC σ n sd x))), (0, .ref u), (1, .int (iI n)), (2, .int (iI sd)), (3, .int (iI x)), (4, .int (iI y)), (5, .int (iI bu))]) F dX9_meets_186 hl rfl (by decide) rfl (fun ls hl => ?_)
                  refine h_goto (tgt := 27) F dX9_meets_189 (by decide) ?_
                  have eq2 : (bz (ex (fun z => decide (z ≠ bu) && mtS σ n sd x y z) 0 (k + 1)) : Int) = bz ((ex (fun z => decide (z ≠ bu) && mtS σ n sd x y z) 0 k) || (decide (k ≠ bu) && ((decide (lowC σ n sd x ≤ lowC σ (cp σ k 0) (cp σ k 1) (cp σ k 2) + 4 * cp σ k 0 - 2) && decide (lowC σ (cp σ k 0) (cp σ k 1) (cp σ k 2) ≤ lowC σ n sd x + 4 * n - 2)) && (decide (y ≤ cp σ k 3 + 4) && decide (cp σ k 3 ≤ y + 4))))) := congrArg bz (ex_s _ (by omega))
                  have eq3 : ((k + 1) : Int) = k + 1 := by first | rfl | omega | simp
                  exact ih27 (k + 1)  (by omega) (by omega)   _ _ ls hW hS (by rw [eq2, eq3]; exact lv_sub hl [1, 0, 6, 7, 8, 9, 10, 11, 12] rfl)
                refine lv_iload F.1 F.2.1 dX9_meets_157 (lv_at hl 4 rfl) ?_
                refine h_ifneb (tgt := 179) F dX9_meets_159 (by decide) (fun c4 => ?_) (fun c4 => ?_)
                · refine h_iconst F dX9_meets_179 ?_
                  refine h_goto (tgt := 184) F dX9_meets_180 (by decide) ?_
                  refine h_top (show (1 : Int) = bz ((ex (fun z => decide (z ≠ bu) && mtS σ n sd x y z) 0 k) || (decide (k ≠ bu) && ((decide (lowC σ n sd x ≤ lowC σ (cp σ k 0) (cp σ k 1) (cp σ k 2) + 4 * cp σ k 0 - 2) && decide (lowC σ (cp σ k 0) (cp σ k 1) (cp σ k 2) ≤ lowC σ n sd x + 4 * n - 2)) && (decide (y ≤ cp σ k 3 + 4) && decide (cp σ k 3 ≤ y + 4))))) from by first | exact bzt (by rw [‹ex (fun z => decide (z ≠ bu) && mtS σ n sd x y z) 0 k = true›]; rfl) | exact bzt (by rw [‹ex (fun z => decide (z ≠ bu) && mtS σ n sd x y z) 0 k = false›, decide_eq_true (p := k ≠ bu) (by omega), ‹(decide (lowC σ n sd x ≤ lowC σ (cp σ k 0) (cp σ k 1) (cp σ k 2) + 4 * cp σ k 0 - 2) && decide (lowC σ (cp σ k 0) (cp σ k 1) (cp σ k 2) ≤ lowC σ n sd x + 4 * n - 2)) = true›, ‹(decide (y ≤ cp σ k 3 + 4) && decide (cp σ k 3 ≤ y + 4)) = true›]; rfl) | exact bzf (by rw [‹ex (fun z => decide (z ≠ bu) && mtS σ n sd x y z) 0 k = false›, decide_eq_false (p := k ≠ bu) (by omega)]; rfl) | exact bzf (by rw [‹ex (fun z => decide (z ≠ bu) && mtS σ n sd x y z) 0 k = false›, ‹(decide (lowC σ n sd x ≤ lowC σ (cp σ k 0) (cp σ k 1) (cp σ k 2) + 4 * cp σ k 0 - 2) && decide (lowC σ (cp σ k 0) (cp σ k 1) (cp σ k 2) ≤ lowC σ n sd x + 4 * n - 2)) = false›]; simp) | exact bzf (by rw [‹ex (fun z => decide (z ≠ bu) && mtS σ n sd x y z) 0 k = false›, ‹(decide (y ≤ cp σ k 3 + 4) && decide (cp σ k 3 ≤ y + 4)) = false›]; simp)) ?_
                  exact join184  _ _ ls  hW hS (lv_sub hl [0, 1, 2, 3, 4, 5, 6, 7, 8, 9, 10, 11, 12] rfl)
                · refine lv_iload F.1 F.2.1 dX9_meets_162 (lv_at hl 5 rfl) ?_
                  refine lv_iload F.1 F.2.1 dX9_meets_164 (lv_at hl 12 rfl) ?_
                  refine h_iceq (tgt := 183) F dX9_meets_166 (by decide) (by omega) (fun c5 => ?_) (fun c5 => ?_)
                  · refine h_iconst F dX9_meets_183 ?_
                    refine h_top (show (0 : Int) = bz ((ex (fun z => decide (z ≠ bu) && mtS σ n sd x y z) 0 k) || (decide (k ≠ bu) && ((decide (lowC σ n sd x ≤ lowC σ (cp σ k 0) (cp σ k 1) (cp σ k 2) + 4 * cp σ k 0 - 2) && decide (lowC σ (cp σ k 0) (cp σ k 1) (cp σ k 2) ≤ lowC σ n sd x + 4 * n - 2)) && (decide (y ≤ cp σ k 3 + 4) && decide (cp σ k 3 ≤ y + 4))))) from by first | exact bzt (by rw [‹ex (fun z => decide (z ≠ bu) && mtS σ n sd x y z) 0 k = true›]; rfl) | exact bzt (by rw [‹ex (fun z => decide (z ≠ bu) && mtS σ n sd x y z) 0 k = false›, decide_eq_true (p := k ≠ bu) (by omega), ‹(decide (lowC σ n sd x ≤ lowC σ (cp σ k 0) (cp σ k 1) (cp σ k 2) + 4 * cp σ k 0 - 2) && decide (lowC σ (cp σ k 0) (cp σ k 1) (cp σ k 2) ≤ lowC σ n sd x + 4 * n - 2)) = true›, ‹(decide (y ≤ cp σ k 3 + 4) && decide (cp σ k 3 ≤ y + 4)) = true›]; rfl) | exact bzf (by rw [‹ex (fun z => decide (z ≠ bu) && mtS σ n sd x y z) 0 k = false›, decide_eq_false (p := k ≠ bu) (by omega)]; rfl) | exact bzf (by rw [‹ex (fun z => decide (z ≠ bu) && mtS σ n sd x y z) 0 k = false›, ‹(decide (lowC σ n sd x ≤ lowC σ (cp σ k 0) (cp σ k 1) (cp σ k 2) + 4 * cp σ k 0 - 2) && decide (lowC σ (cp σ k 0) (cp σ k 1) (cp σ k 2) ≤ lowC σ n sd x + 4 * n - 2)) = false›]; simp) | exact bzf (by rw [‹ex (fun z => decide (z ≠ bu) && mtS σ n sd x y z) 0 k = false›, ‹(decide (y ≤ cp σ k 3 + 4) && decide (cp σ k 3 ≤ y + 4)) = false›]; simp)) ?_
                    exact join184  _ _ ls  hW hS (lv_sub hl [0, 1, 2, 3, 4, 5, 6, 7, 8, 9, 10, 11, 12] rfl)
                  · refine lv_iload F.1 F.2.1 dX9_meets_169 (lv_at hl 1 rfl) ?_
                    refine h_ifeqb (tgt := 183) F dX9_meets_171 (by decide) (fun c6 => ?_) (fun c6 => ?_)
                    · refine h_iconst F dX9_meets_183 ?_
                      refine h_top (show (0 : Int) = bz ((ex (fun z => decide (z ≠ bu) && mtS σ n sd x y z) 0 k) || (decide (k ≠ bu) && ((decide (lowC σ n sd x ≤ lowC σ (cp σ k 0) (cp σ k 1) (cp σ k 2) + 4 * cp σ k 0 - 2) && decide (lowC σ (cp σ k 0) (cp σ k 1) (cp σ k 2) ≤ lowC σ n sd x + 4 * n - 2)) && (decide (y ≤ cp σ k 3 + 4) && decide (cp σ k 3 ≤ y + 4))))) from by first | exact bzt (by rw [‹ex (fun z => decide (z ≠ bu) && mtS σ n sd x y z) 0 k = true›]; rfl) | exact bzt (by rw [‹ex (fun z => decide (z ≠ bu) && mtS σ n sd x y z) 0 k = false›, decide_eq_true (p := k ≠ bu) (by omega), ‹(decide (lowC σ n sd x ≤ lowC σ (cp σ k 0) (cp σ k 1) (cp σ k 2) + 4 * cp σ k 0 - 2) && decide (lowC σ (cp σ k 0) (cp σ k 1) (cp σ k 2) ≤ lowC σ n sd x + 4 * n - 2)) = true›, ‹(decide (y ≤ cp σ k 3 + 4) && decide (cp σ k 3 ≤ y + 4)) = true›]; rfl) | exact bzf (by rw [‹ex (fun z => decide (z ≠ bu) && mtS σ n sd x y z) 0 k = false›, decide_eq_false (p := k ≠ bu) (by omega)]; rfl) | exact bzf (by rw [‹ex (fun z => decide (z ≠ bu) && mtS σ n sd x y z) 0 k = false›, ‹(decide (lowC σ n sd x ≤ lowC σ (cp σ k 0) (cp σ k 1) (cp σ k 2) + 4 * cp σ k 0 - 2) && decide (lowC σ (cp σ k 0) (cp σ k 1) (cp σ k 2) ≤ lowC σ n sd x + 4 * n - 2)) = false›]; simp) | exact bzf (by rw [‹ex (fun z => decide (z ≠ bu) && mtS σ n sd x y z) 0 k = false›, ‹(decide (y ≤ cp σ k 3 + 4) && decide (cp σ k 3 ≤ y + 4)) = false›]; simp)) ?_
                      exact join184  _ _ ls  hW hS (lv_sub hl [0, 1, 2, 3, 4, 5, 6, 7, 8, 9, 10, 11, 12] rfl)
                    · refine lv_iload F.1 F.2.1 dX9_meets_174 (lv_at hl 0 rfl) ?_
                      refine h_ifeqb (tgt := 183) F dX9_meets_176 (by decide) (fun c7 => ?_) (fun c7 => ?_)
                      · refine h_iconst F dX9_meets_183 ?_
                        refine h_top (show (0 : Int) = bz ((ex (fun z => decide (z ≠ bu) && mtS σ n sd x y z) 0 k) || (decide (k ≠ bu) && ((decide (lowC σ n sd x ≤ lowC σ (cp σ k 0) (cp σ k 1) (cp σ k 2) + 4 * cp σ k 0 - 2) && decide (lowC σ (cp σ k 0) (cp σ k 1) (cp σ k 2) ≤ lowC σ n sd x + 4 * n - 2)) && (decide (y ≤ cp σ k 3 + 4) && decide (cp σ k 3 ≤ y + 4))))) from by first | exact bzt (by rw [‹ex (fun z => decide (z ≠ bu) && mtS σ n sd x y z) 0 k = true›]; rfl) | exact bzt (by rw [‹ex (fun z => decide (z ≠ bu) && mtS σ n sd x y z) 0 k = false›, decide_eq_true (p := k ≠ bu) (by omega), ‹(decide (lowC σ n sd x ≤ lowC σ (cp σ k 0) (cp σ k 1) (cp σ k 2) + 4 * cp σ k 0 - 2) && decide (lowC σ (cp σ k 0) (cp σ k 1) (cp σ k 2) ≤ lowC σ n sd x + 4 * n - 2)) = true›, ‹(decide (y ≤ cp σ k 3 + 4) && decide (cp σ k 3 ≤ y + 4)) = true›]; rfl) | exact bzf (by rw [‹ex (fun z => decide (z ≠ bu) && mtS σ n sd x y z) 0 k = false›, decide_eq_false (p := k ≠ bu) (by omega)]; rfl) | exact bzf (by rw [‹ex (fun z => decide (z ≠ bu) && mtS σ n sd x y z) 0 k = false›, ‹(decide (lowC σ n sd x ≤ lowC σ (cp σ k 0) (cp σ k 1) (cp σ k 2) + 4 * cp σ k 0 - 2) && decide (lowC σ (cp σ k 0) (cp σ k 1) (cp σ k 2) ≤ lowC σ n sd x + 4 * n - 2)) = false›]; simp) | exact bzf (by rw [‹ex (fun z => decide (z ≠ bu) && mtS σ n sd x y z) 0 k = false›, ‹(decide (y ≤ cp σ k 3 + 4) && decide (cp σ k 3 ≤ y + 4)) = false›]; simp)) ?_
                        exact join184  _ _ ls  hW hS (lv_sub hl [0, 1, 2, 3, 4, 5, 6, 7, 8, 9, 10, 11, 12] rfl)
                      · refine h_iconst F dX9_meets_179 ?_
                        refine h_goto (tgt := 184) F dX9_meets_180 (by decide) ?_
                        refine h_top (show (1 : Int) = bz ((ex (fun z => decide (z ≠ bu) && mtS σ n sd x y z) 0 k) || (decide (k ≠ bu) && ((decide (lowC σ n sd x ≤ lowC σ (cp σ k 0) (cp σ k 1) (cp σ k 2) + 4 * cp σ k 0 - 2) && decide (lowC σ (cp σ k 0) (cp σ k 1) (cp σ k 2) ≤ lowC σ n sd x + 4 * n - 2)) && (decide (y ≤ cp σ k 3 + 4) && decide (cp σ k 3 ≤ y + 4))))) from by first | exact bzt (by rw [‹ex (fun z => decide (z ≠ bu) && mtS σ n sd x y z) 0 k = true›]; rfl) | exact bzt (by rw [‹ex (fun z => decide (z ≠ bu) && mtS σ n sd x y z) 0 k = false›, decide_eq_true (p := k ≠ bu) (by omega), ‹(decide (lowC σ n sd x ≤ lowC σ (cp σ k 0) (cp σ k 1) (cp σ k 2) + 4 * cp σ k 0 - 2) && decide (lowC σ (cp σ k 0) (cp σ k 1) (cp σ k 2) ≤ lowC σ n sd x + 4 * n - 2)) = true›, ‹(decide (y ≤ cp σ k 3 + 4) && decide (cp σ k 3 ≤ y + 4)) = true›]; rfl) | exact bzf (by rw [‹ex (fun z => decide (z ≠ bu) && mtS σ n sd x y z) 0 k = false›, decide_eq_false (p := k ≠ bu) (by omega)]; rfl) | exact bzf (by rw [‹ex (fun z => decide (z ≠ bu) && mtS σ n sd x y z) 0 k = false›, ‹(decide (lowC σ n sd x ≤ lowC σ (cp σ k 0) (cp σ k 1) (cp σ k 2) + 4 * cp σ k 0 - 2) && decide (lowC σ (cp σ k 0) (cp σ k 1) (cp σ k 2) ≤ lowC σ n sd x + 4 * n - 2)) = false›]; simp) | exact bzf (by rw [‹ex (fun z => decide (z ≠ bu) && mtS σ n sd x y z) 0 k = false›, ‹(decide (y ≤ cp σ k 3 + 4) && decide (cp σ k 3 ≤ y + 4)) = false›]; simp)) ?_
                        exact join184  _ _ ls  hW hS (lv_sub hl [0, 1, 2, 3, 4, 5, 6, 7, 8, 9, 10, 11, 12] rfl)
              refine lv_iload F.1 F.2.1 dX9_meets_124 (lv_at hl 10 rfl) ?_
              refine lv_aload_n F.1 F.2.1 dX9_meets_126 rfl (lv_at hl 6 rfl) ?_
              refine lv_iload F.1 F.2.1 dX9_meets_127 (lv_at hl 2 rfl) ?_
              refine h_iconst F dX9_meets_129 ?_
              refine h_iadd (a := 13 + (13 * k)) (b := 3) F dX9_meets_130 ?_
              refine h_iald F hW hs (by omega) (by omega) dX9_meets_131 ?_
              refine h_top (show (σ ((13 + (13 * k)) + 3) : Int) = cp σ k 3 from rfl) ?_
              refine h_iconst F dX9_meets_132 ?_
              refine h_iadd (a := cp σ k 3) (b := 4) F dX9_meets_133 ?_
              refine h_icgt (tgt := 154) F dX9_meets_134 (by decide) (by omega) (fun c8 => ?_) (fun c8 => ?_)
              · refine h_iconst F dX9_meets_154 ?_
                refine h_top (show (0 : Int) = bz (decide (y ≤ cp σ k 3 + 4) && decide (cp σ k 3 ≤ y + 4)) from bzf (by first | exact decide_eq_false (by omega) | (simp only [Bool.and_eq_false_iff, Bool.or_eq_false_iff, decide_eq_false_iff_not]; omega) | simp_all)) ?_
                exact join155  _ _ ls  hW hS (lv_sub hl [0, 1, 2, 3, 4, 5, 6, 7, 8, 9, 10, 11] rfl)
              · refine lv_aload_n F.1 F.2.1 dX9_meets_137 rfl (lv_at hl 6 rfl) ?_
                refine lv_iload F.1 F.2.1 dX9_meets_138 (lv_at hl 2 rfl) ?_
                refine h_iconst F dX9_meets_140 ?_
                refine h_iadd (a := 13 + (13 * k)) (b := 3) F dX9_meets_141 ?_
                refine h_iald F hW hs (by omega) (by omega) dX9_meets_142 ?_
                refine h_top (show (σ ((13 + (13 * k)) + 3) : Int) = cp σ k 3 from rfl) ?_
                refine lv_iload F.1 F.2.1 dX9_meets_143 (lv_at hl 10 rfl) ?_
                refine h_iconst F dX9_meets_145 ?_
                refine h_iadd (a := y) (b := 4) F dX9_meets_146 ?_
                refine h_icgt (tgt := 154) F dX9_meets_147 (by decide) (by omega) (fun c9 => ?_) (fun c9 => ?_)
                · refine h_iconst F dX9_meets_154 ?_
                  refine h_top (show (0 : Int) = bz (decide (y ≤ cp σ k 3 + 4) && decide (cp σ k 3 ≤ y + 4)) from bzf (by first | exact decide_eq_false (by omega) | (simp only [Bool.and_eq_false_iff, Bool.or_eq_false_iff, decide_eq_false_iff_not]; omega) | simp_all)) ?_
                  exact join155  _ _ ls  hW hS (lv_sub hl [0, 1, 2, 3, 4, 5, 6, 7, 8, 9, 10, 11] rfl)
                · refine h_iconst F dX9_meets_150 ?_
                  refine h_goto (tgt := 155) F dX9_meets_151 (by decide) ?_
                  refine h_top (show (1 : Int) = bz (decide (y ≤ cp σ k 3 + 4) && decide (cp σ k 3 ≤ y + 4)) from bzt (by first | exact decide_eq_true (by omega) | (simp only [Bool.and_eq_true, Bool.or_eq_true, decide_eq_true_eq]; omega) | simp_all)) ?_
                  exact join155  _ _ ls  hW hS (lv_sub hl [0, 1, 2, 3, 4, 5, 6, 7, 8, 9, 10, 11] rfl)
            refine lv_iload F.1 F.2.1 dX9_meets_86 (lv_at hl 4 rfl) ?_
            refine lv_iload F.1 F.2.1 dX9_meets_88 (lv_at hl 0 rfl) ?_
            refine h_iconst F dX9_meets_90 ?_
            refine lv_aload_n F.1 F.2.1 dX9_meets_91 rfl (lv_at hl 5 rfl) ?_
            refine lv_iload F.1 F.2.1 dX9_meets_92 (lv_at hl 1 rfl) ?_
            refine h_iconst F dX9_meets_94 ?_
            refine h_iadd (a := 13 + (13 * k)) (b := 0) F dX9_meets_95 ?_
            refine h_iald F hW hs (by omega) (by omega) dX9_meets_96 ?_
            refine h_top (show (σ ((13 + (13 * k)) + 0) : Int) = cp σ k 0 from rfl) ?_
            refine h_imul (a := 4) (b := cp σ k 0) F dX9_meets_97 ?_
            refine h_iadd (a := lowC σ (cp σ k 0) (cp σ k 1) (cp σ k 2)) (b := 4 * (cp σ k 0)) F dX9_meets_98 ?_
            refine h_iconst F dX9_meets_99 ?_
            refine h_isub (a := (lowC σ (cp σ k 0) (cp σ k 1) (cp σ k 2)) + (4 * (cp σ k 0))) (b := 2) F dX9_meets_100 ?_
            refine h_icgt (tgt := 121) F dX9_meets_101 (by decide) (by omega) (fun c10 => ?_) (fun c10 => ?_)
            · refine h_iconst F dX9_meets_121 ?_
              refine h_top (show (0 : Int) = bz (decide (lowC σ n sd x ≤ lowC σ (cp σ k 0) (cp σ k 1) (cp σ k 2) + 4 * cp σ k 0 - 2) && decide (lowC σ (cp σ k 0) (cp σ k 1) (cp σ k 2) ≤ lowC σ n sd x + 4 * n - 2)) from bzf (by first | exact decide_eq_false (by omega) | (simp only [Bool.and_eq_false_iff, Bool.or_eq_false_iff, decide_eq_false_iff_not]; omega) | simp_all)) ?_
              exact join122  _ _ ls  hW hS (lv_sub hl [0, 1, 2, 3, 4, 5, 6, 7, 8, 9, 10] rfl)
            · refine lv_iload F.1 F.2.1 dX9_meets_104 (lv_at hl 0 rfl) ?_
              refine lv_iload F.1 F.2.1 dX9_meets_106 (lv_at hl 4 rfl) ?_
              refine h_iconst F dX9_meets_108 ?_
              refine lv_iload_n F.1 F.2.1 dX9_meets_109 rfl (lv_at hl 6 rfl) ?_
              refine h_imul (a := 4) (b := n) F dX9_meets_110 ?_
              refine h_iadd (a := lowC σ n sd x) (b := 4 * n) F dX9_meets_111 ?_
              refine h_iconst F dX9_meets_112 ?_
              refine h_isub (a := (lowC σ n sd x) + (4 * n)) (b := 2) F dX9_meets_113 ?_
              refine h_icgt (tgt := 121) F dX9_meets_114 (by decide) (by omega) (fun c11 => ?_) (fun c11 => ?_)
              · refine h_iconst F dX9_meets_121 ?_
                refine h_top (show (0 : Int) = bz (decide (lowC σ n sd x ≤ lowC σ (cp σ k 0) (cp σ k 1) (cp σ k 2) + 4 * cp σ k 0 - 2) && decide (lowC σ (cp σ k 0) (cp σ k 1) (cp σ k 2) ≤ lowC σ n sd x + 4 * n - 2)) from bzf (by first | exact decide_eq_false (by omega) | (simp only [Bool.and_eq_false_iff, Bool.or_eq_false_iff, decide_eq_false_iff_not]; omega) | simp_all)) ?_
                exact join122  _ _ ls  hW hS (lv_sub hl [0, 1, 2, 3, 4, 5, 6, 7, 8, 9, 10] rfl)
              · refine h_iconst F dX9_meets_117 ?_
                refine h_goto (tgt := 122) F dX9_meets_118 (by decide) ?_
                refine h_top (show (1 : Int) = bz (decide (lowC σ n sd x ≤ lowC σ (cp σ k 0) (cp σ k 1) (cp σ k 2) + 4 * cp σ k 0 - 2) && decide (lowC σ (cp σ k 0) (cp σ k 1) (cp σ k 2) ≤ lowC σ n sd x + 4 * n - 2)) from bzt (by first | exact decide_eq_true (by omega) | (simp only [Bool.and_eq_true, Bool.or_eq_true, decide_eq_true_eq]; omega) | simp_all)) ?_
                exact join122  _ _ ls  hW hS (lv_sub hl [0, 1, 2, 3, 4, 5, 6, 7, 8, 9, 10] rfl)
          refine lv_aload_n F.1 F.2.1 dX9_meets_45 rfl (lv_at hl 4 rfl) ?_
          refine lv_iload F.1 F.2.1 dX9_meets_46 (lv_at hl 0 rfl) ?_
          refine h_iconst F dX9_meets_48 ?_
          refine h_iadd (a := 13 + (13 * k)) (b := 1) F dX9_meets_49 ?_
          refine h_iald F hW hs (by omega) (by omega) dX9_meets_50 ?_
          refine h_top (show (σ ((13 + (13 * k)) + 1) : Int) = cp σ k 1 from rfl) ?_
          refine h_ifne (tgt := 63) F dX9_meets_51 (by decide) (by omega) (fun c12 => ?_) (fun c12 => ?_)
          · refine lv_aload_n F.1 F.2.1 dX9_meets_63 rfl (lv_at hl 4 rfl) ?_
            refine h_iconst F dX9_meets_64 ?_
            refine h_iald F hW hs (by omega) (by omega) dX9_meets_65 ?_
            refine h_iconst F dX9_meets_66 ?_
            refine h_iadd (a := σ 0) (b := 1) F dX9_meets_67 ?_
            refine lv_aload_n F.1 F.2.1 dX9_meets_68 rfl (lv_at hl 4 rfl) ?_
            refine lv_iload F.1 F.2.1 dX9_meets_69 (lv_at hl 0 rfl) ?_
            refine h_iconst F dX9_meets_71 ?_
            refine h_iadd (a := 13 + (13 * k)) (b := 2) F dX9_meets_72 ?_
            refine h_iald F hW hs (by omega) (by omega) dX9_meets_73 ?_
            refine h_top (show (σ ((13 + (13 * k)) + 2) : Int) = cp σ k 2 from rfl) ?_
            refine h_isub (a := (σ 0) + 1) (b := cp σ k 2) F dX9_meets_74 ?_
            refine h_iconst F dX9_meets_75 ?_
            refine lv_aload_n F.1 F.2.1 dX9_meets_76 rfl (lv_at hl 4 rfl) ?_
            refine lv_iload F.1 F.2.1 dX9_meets_77 (lv_at hl 0 rfl) ?_
            refine h_iconst F dX9_meets_79 ?_
            refine h_iadd (a := 13 + (13 * k)) (b := 0) F dX9_meets_80 ?_
            refine h_iald F hW hs (by omega) (by omega) dX9_meets_81 ?_
            refine h_top (show (σ ((13 + (13 * k)) + 0) : Int) = cp σ k 0 from rfl) ?_
            refine h_imul (a := 4) (b := cp σ k 0) F dX9_meets_82 ?_
            refine h_isub (a := ((σ 0) + 1) - (cp σ k 2)) (b := 4 * (cp σ k 0)) F dX9_meets_83 ?_
            refine h_top (show ((((σ 0) + 1) - (cp σ k 2)) - (4 * (cp σ k 0)) : Int) = lowC σ (cp σ k 0) (cp σ k 1) (cp σ k 2) from by unfold lowC; rw [if_neg (by omega)]) ?_
            exact join84  _ _ ls  hW hS (lv_sub hl [0, 1, 2, 3, 4, 5, 6, 7, 8, 9] rfl)
          · refine lv_aload_n F.1 F.2.1 dX9_meets_54 rfl (lv_at hl 4 rfl) ?_
            refine lv_iload F.1 F.2.1 dX9_meets_55 (lv_at hl 0 rfl) ?_
            refine h_iconst F dX9_meets_57 ?_
            refine h_iadd (a := 13 + (13 * k)) (b := 2) F dX9_meets_58 ?_
            refine h_iald F hW hs (by omega) (by omega) dX9_meets_59 ?_
            refine h_top (show (σ ((13 + (13 * k)) + 2) : Int) = lowC σ (cp σ k 0) (cp σ k 1) (cp σ k 2) from by unfold lowC; rw [if_pos (by assumption)]; rfl) ?_
            refine h_goto (tgt := 84) F dX9_meets_60 (by decide) ?_
            exact join84  _ _ ls  hW hS (lv_sub hl [0, 1, 2, 3, 4, 5, 6, 7, 8, 9] rfl)
    have eq13 : (bz (ex (fun z => decide (z ≠ bu) && mtS σ n sd x y z) 0 0) : Int) = 0 := by rw [ex_0]; rfl
    exact loop27 ((σ 5 - 0) + 1 : Int).toNat 0  (by omega) (by omega)   _ _ ls hW hS (by rw [eq13]; exact lv_sub hl [1, 0, 2, 3, 4, 5, 6, 7, 8] rfl)
  refine lv_iload_n F.1 F.2.1 dX9_meets_0 rfl (lv_at hl 2 rfl) ?_
  refine h_ifne (tgt := 8) F dX9_meets_1 (by decide) (by omega) (fun c14 => ?_) (fun c14 => ?_)
  · refine lv_aload_n F.1 F.2.1 dX9_meets_8 rfl (lv_at hl 0 rfl) ?_
    refine h_iconst F dX9_meets_9 ?_
    refine h_iald F hW hs (by omega) (by omega) dX9_meets_10 ?_
    refine h_iconst F dX9_meets_11 ?_
    refine h_iadd (a := σ 0) (b := 1) F dX9_meets_12 ?_
    refine lv_iload_n F.1 F.2.1 dX9_meets_13 rfl (lv_at hl 3 rfl) ?_
    refine h_isub (a := (σ 0) + 1) (b := x) F dX9_meets_14 ?_
    refine h_iconst F dX9_meets_15 ?_
    refine lv_iload_n F.1 F.2.1 dX9_meets_16 rfl (lv_at hl 1 rfl) ?_
    refine h_imul (a := 4) (b := n) F dX9_meets_17 ?_
    refine h_isub (a := ((σ 0) + 1) - x) (b := 4 * n) F dX9_meets_18 ?_
    refine h_top (show ((((σ 0) + 1) - x) - (4 * n) : Int) = lowC σ n sd x from by unfold lowC; rw [if_neg (by omega)]) ?_
    exact join19  _ _ ls  hW hS (lv_sub hl [0, 1, 2, 3, 4, 5] rfl)
  · refine lv_iload_n F.1 F.2.1 dX9_meets_4 rfl (lv_at hl 3 rfl) ?_
    refine h_goto (tgt := 19) F dX9_meets_5 (by decide) ?_
    refine h_top (show (x : Int) = lowC σ n sd x from by unfold lowC; split <;> first | rfl | omega) ?_
    exact join19  _ _ ls  hW hS (lv_sub hl [0, 1, 2, 3, 4, 5] rfl)
set_option maxHeartbeats 4000000 in
set_option maxRecDepth 100000 in
theorem c_X9_isMistake (l : Launch) (X : Cx) (w : Wo) (mo : Nat) (v σ : Int → Int) (cn rn : Int) (hM : w mo = some (.inr (9, mL mo v))) (hs : w (mo + 1) = some (aZ X 1317 σ)) (hwf : WF σ) (hc : 0 ≤ cn ∧ cn < σ 0 ∧ 0 ≤ rn ∧ rn < σ 1) : CM l X yX9_isMistake cX9_isMistake 3 (some (.boolean)) (rmk 3 70) [.ref mo, .int (iI cn), .int (iI rn)] w (some (.int (iI (bz (misS σ cn rn))))) (fun w' => w' = w) := by
  refine CM.of (lv := [(0, .ref mo), (1, .int (iI cn)), (2, .int (iI rn))]) (by decide) (Nat.le_of_ble_eq_true rfl) rfl (fun p e s m below meth c ls F hr hlk hin hW hS hl => ?_)
  have hZ0 := hW.2.2
  have hB9 := hW.1.2
  clear hin
  have hF := hwf.1
  unfold WF0 at hF
  have hce := hwf.2.2.2.1 cn rn (by omega) (by omega) (by omega) (by omega)
  have hde := desS_r hwf cn rn
  refine lv_iload_n F.1 F.2.1 dX9_isMistake_0 rfl (lv_at hl 2 rfl) ?_
  refine lv_aload_n F.1 F.2.1 dX9_isMistake_1 rfl (lv_at hl 0 rfl) ?_
  refine gf_RX9_7 F hW hM rfl dX9_isMistake_2 ?_
  refine h_iconst F dX9_isMistake_5 ?_
  refine h_iald F hW hs (by omega) (by omega) dX9_isMistake_6 ?_
  refine h_icge (tgt := 29) F dX9_isMistake_7 (by decide) (by omega) (fun c1 => ?_) (fun c1 => ?_)
  · refine h_iconst F dX9_isMistake_29 ?_
    refine h_top (show (0 : Int) = bz (misS σ cn rn) from by unfold misS; first | exact bzt (by rw [decide_eq_true (by omega), decide_eq_true (by omega)]; rfl) | exact bzf (by rw [decide_eq_false (p := _ < _) (by omega)]; rfl) | exact bzf (by rw [decide_eq_false (p := _ ≠ _) (by omega)]; simp)) ?_
    exact h_iretz F hr hlk hW hS rfl dX9_isMistake_30
  · refine lv_aload_n F.1 F.2.1 dX9_isMistake_10 rfl (lv_at hl 0 rfl) ?_
    refine lv_iload_n F.1 F.2.1 dX9_isMistake_11 rfl (lv_at hl 1 rfl) ?_
    refine lv_iload_n F.1 F.2.1 dX9_isMistake_12 rfl (lv_at hl 2 rfl) ?_
    refine cl_RX9_113 (As := [.int (iI cn), .int (iI rn)]) (rest := []) F hl (c_X9_colourAt l X w mo v σ cn rn hM hs hwf (by omega)) hW hS hM rfl rfl ⟨Nat.le_of_ble_eq_true rfl, Nat.le_of_ble_eq_true rfl⟩ (Nat.le_of_ble_eq_true rfl) ⟨Nat.zero_le _, Nat.zero_le _⟩ dX9_isMistake_13 (fun w1 H locs hp2 hW hS => ?_)
    rw [hp2] at hW; clear hp2; clear w1
    refine lv_aload_n F.1 F.2.1 dX9_isMistake_16 rfl (lv_at hl 0 rfl) ?_
    refine lv_iload_n F.1 F.2.1 dX9_isMistake_17 rfl (lv_at hl 1 rfl) ?_
    refine lv_iload_n F.1 F.2.1 dX9_isMistake_18 rfl (lv_at hl 2 rfl) ?_
    refine cl_RX9_116 (As := [.int (iI cn), .int (iI rn)]) (rest := [.int (iI (cellS σ cn rn))]) F hl (c_X9_designOf l X w mo v σ cn rn hM hs hwf (by omega)) hW hS hM rfl rfl ⟨Nat.le_of_ble_eq_true rfl, Nat.le_of_ble_eq_true rfl⟩ (Nat.le_of_ble_eq_true rfl) ⟨Nat.zero_le _, Nat.zero_le _⟩ dX9_isMistake_19 (fun w1 H locs hp3 hW hS => ?_)
    rw [hp3] at hW; clear hp3; clear w1
    refine h_iceq (tgt := 29) F dX9_isMistake_22 (by decide) (by omega) (fun c4 => ?_) (fun c4 => ?_)
    · refine h_iconst F dX9_isMistake_29 ?_
      refine h_top (show (0 : Int) = bz (misS σ cn rn) from by unfold misS; first | exact bzt (by rw [decide_eq_true (by omega), decide_eq_true (by omega)]; rfl) | exact bzf (by rw [decide_eq_false (p := _ < _) (by omega)]; rfl) | exact bzf (by rw [decide_eq_false (p := _ ≠ _) (by omega)]; simp)) ?_
      exact h_iretz F hr hlk hW hS rfl dX9_isMistake_30
    · refine h_iconst F dX9_isMistake_25 ?_
      refine h_goto (tgt := 30) F dX9_isMistake_26 (by decide) ?_
      refine h_top (show (1 : Int) = bz (misS σ cn rn) from by unfold misS; first | exact bzt (by rw [decide_eq_true (by omega), decide_eq_true (by omega)]; rfl) | exact bzf (by rw [decide_eq_false (p := _ < _) (by omega)]; rfl) | exact bzf (by rw [decide_eq_false (p := _ ≠ _) (by omega)]; simp)) ?_
      exact h_iretz F hr hlk hW hS rfl dX9_isMistake_30
set_option maxHeartbeats 4000000 in
set_option maxRecDepth 100000 in
theorem c_X9_mistakesIn (l : Launch) (X : Cx) (w : Wo) (mo : Nat) (v σ : Int → Int) (rn : Int) (hM : w mo = some (.inr (9, mL mo v))) (hs : w (mo + 1) = some (aZ X 1317 σ)) (hwf : WF σ) (hr : 0 ≤ rn ∧ rn < σ 1) : CM l X yX9_mistakesIn cX9_mistakesIn 4 (some (.int)) (rmk 4 92) [.ref mo, .int (iI rn)] w (some (.int (iI (misRow σ rn)))) (fun w' => w' = w) := by
  refine CM.of (lv := [(0, .ref mo), (1, .int (iI rn))]) (by decide) (Nat.le_of_ble_eq_true rfl) rfl (fun p e s m below meth c ls F hr hlk hin hW hS hl => ?_)
  have hZ0 := hW.2.2
  have hB9 := hW.1.2
  clear hin
  have hF := hwf.1
  unfold WF0 at hF
  refine h_iconst F dX9_mistakesIn_0 ?_
  refine lv_istore_n (lv' := [(2, .int (iI 0)), (0, .ref mo), (1, .int (iI rn))]) F.1 F.2.1 dX9_mistakesIn_1 rfl hl (by decide) rfl (fun ls hl => ?_)
  refine h_iconst F dX9_mistakesIn_2 ?_
  refine lv_istore_n (lv' := [(3, .int (iI 0)), (2, .int (iI 0)), (0, .ref mo), (1, .int (iI rn))]) F.1 F.2.1 dX9_mistakesIn_3 rfl hl (by decide) rfl (fun ls hl => ?_)
  have loop4 : ∀ (n9 : Nat) (i : Int), (hrg : 0 ≤ i ∧ i ≤ σ 0) → (hms : σ 0 - i < (n9 : Int)) → (H : Heap) → (locs : List Loc) → (ls : Array Slot) → Wd X w s H → va_S (cxA X) s.heap H locs → lv_has ls 4 [(2, .int (iI (cnt (fun z => misS σ z rn) 0 i))), (3, .int (iI i)), (0, .ref mo), (1, .int (iI rn))] → W p l e (rmk 4 92) s m (List.toArray [.ref mo, .int (iI rn)]) below meth c H locs 0 0 (MX X below (List.toArray [.ref mo, .int (iI rn)]) s 0 0 (some (.int (iI (misRow σ rn)))) (fun w' => w' = w)) (F0 m 4 ls []) := by
    intro n9
    induction n9 with
    | zero => intro i  hrg hms; exfalso; omega
    | succ n9 ih4 =>
      intro i  hrg hms   H locs ls hW hS hl
      refine lv_iload_n F.1 F.2.1 dX9_mistakesIn_4 rfl (lv_at hl 1 rfl) ?_
      refine lv_aload_n F.1 F.2.1 dX9_mistakesIn_5 rfl (lv_at hl 2 rfl) ?_
      refine gf_RX9_7 F hW hM rfl dX9_mistakesIn_6 ?_
      refine h_iconst F dX9_mistakesIn_9 ?_
      refine h_iald F hW hs (by omega) (by omega) dX9_mistakesIn_10 ?_
      refine h_icge (tgt := 37) F dX9_mistakesIn_11 (by decide) (by omega) (fun c1 => ?_) (fun c1 => ?_)
      · refine lv_iload_n F.1 F.2.1 dX9_mistakesIn_37 rfl (lv_at hl 0 rfl) ?_
        refine h_top (show (cnt (fun z => misS σ z rn) 0 i : Int) = misRow σ rn from by rw [show i = σ 0 by omega]; rfl) ?_
        exact h_ireti F hr hlk hW hS rfl dX9_mistakesIn_38
      · refine lv_iload_n F.1 F.2.1 dX9_mistakesIn_14 rfl (lv_at hl 0 rfl) ?_
        refine lv_aload_n F.1 F.2.1 dX9_mistakesIn_15 rfl (lv_at hl 2 rfl) ?_
        refine lv_iload_n F.1 F.2.1 dX9_mistakesIn_16 rfl (lv_at hl 1 rfl) ?_
        refine lv_iload_n F.1 F.2.1 dX9_mistakesIn_17 rfl (lv_at hl 3 rfl) ?_
        refine cl_RX9_119 (As := [.int (iI i), .int (iI rn)]) (rest := [.int (iI (cnt (fun z => misS σ z rn) 0 i))]) F hl (c_X9_isMistake l X w mo v σ i rn hM hs hwf (by omega)) hW hS hM rfl rfl ⟨Nat.le_of_ble_eq_true rfl, Nat.le_of_ble_eq_true rfl⟩ (Nat.le_of_ble_eq_true rfl) ⟨Nat.zero_le _, Nat.zero_le _⟩ dX9_mistakesIn_18 (fun w1 H locs hp2 hW hS => ?_)
        rw [hp2] at hW; clear hp2; clear w1
        refine h_ifeqb (tgt := 28) F dX9_mistakesIn_21 (by decide) (fun c3 => ?_) (fun c3 => ?_)
        · refine h_iconst F dX9_mistakesIn_28 ?_
          refine h_iadd (a := cnt (fun z => misS σ z rn) 0 i) (b := 0) F dX9_mistakesIn_29 ?_
          refine lv_istore_n (lv' := [(2, .int (iI ((cnt (fun z => misS σ z rn) 0 i) + 0))), (3, .int (iI i)), (0, .ref mo), (1, .int (iI rn))]) F.1 F.2.1 dX9_mistakesIn_30 rfl hl (by decide) rfl (fun ls hl => ?_)
          refine h_iinc (k := 1) (a := i) (lv' := [(3, .int (iI (i + 1))), (2, .int (iI ((cnt (fun z => misS σ z rn) 0 i) + 0))), (0, .ref mo), (1, .int (iI rn))]) F dX9_mistakesIn_31 hl rfl (by decide) rfl (fun ls hl => ?_)
          refine h_goto (tgt := 4) F dX9_mistakesIn_34 (by decide) ?_
          have eq4 : (cnt (fun z => misS σ z rn) 0 (i + 1) : Int) = (cnt (fun z => misS σ z rn) 0 i) + 0 := by first | exact cnt_t (by omega) ‹_› | (rw [cnt_f (by omega) ‹_›]; omega)
          have eq5 : ((i + 1) : Int) = i + 1 := by first | rfl | omega | simp
          exact ih4 (i + 1)  (by omega) (by omega)   _ _ ls hW hS (by rw [eq4, eq5]; exact lv_sub hl [1, 0, 2, 3] rfl)
        · refine h_iconst F dX9_mistakesIn_24 ?_
          refine h_goto (tgt := 29) F dX9_mistakesIn_25 (by decide) ?_
          refine h_iadd (a := cnt (fun z => misS σ z rn) 0 i) (b := 1) F dX9_mistakesIn_29 ?_
          refine lv_istore_n (lv' := [(2, .int (iI ((cnt (fun z => misS σ z rn) 0 i) + 1))), (3, .int (iI i)), (0, .ref mo), (1, .int (iI rn))]) F.1 F.2.1 dX9_mistakesIn_30 rfl hl (by decide) rfl (fun ls hl => ?_)
          refine h_iinc (k := 1) (a := i) (lv' := [(3, .int (iI (i + 1))), (2, .int (iI ((cnt (fun z => misS σ z rn) 0 i) + 1))), (0, .ref mo), (1, .int (iI rn))]) F dX9_mistakesIn_31 hl rfl (by decide) rfl (fun ls hl => ?_)
          refine h_goto (tgt := 4) F dX9_mistakesIn_34 (by decide) ?_
          have eq6 : (cnt (fun z => misS σ z rn) 0 (i + 1) : Int) = (cnt (fun z => misS σ z rn) 0 i) + 1 := by first | exact cnt_t (by omega) ‹_› | (rw [cnt_f (by omega) ‹_›]; omega)
          have eq7 : ((i + 1) : Int) = i + 1 := by first | rfl | omega | simp
          exact ih4 (i + 1)  (by omega) (by omega)   _ _ ls hW hS (by rw [eq6, eq7]; exact lv_sub hl [1, 0, 2, 3] rfl)
  have eq8 : (cnt (fun z => misS σ z rn) 0 0 : Int) = 0 := cnt_0 _ _
  exact loop4 ((σ 0 - 0) + 1 : Int).toNat 0  (by omega) (by omega)   _ _ ls hW hS (by rw [eq8]; exact lv_sub hl [1, 0, 2, 3] rfl)
set_option maxHeartbeats 4000000 in
set_option maxRecDepth 100000 in
theorem c_X9_isSeen (l : Launch) (X : Cx) (w : Wo) (mo : Nat) (v σ : Int → Int) (rn : Int) (hM : w mo = some (.inr (9, mL mo v))) (hs : w (mo + 1) = some (aZ X 1317 σ)) (hwf : WF σ) (hr : 0 ≤ rn ∧ rn < 30) : CM l X yX9_isSeen cX9_isSeen 2 (some (.boolean)) (rmk 0 0) [.ref mo, .int (iI rn)] w (some (.int (iI (bz (seenS σ rn))))) (fun w' => w' = w) := by
  refine CM.of (lv := [(0, .ref mo), (1, .int (iI rn))]) (by decide) (Nat.le_of_ble_eq_true rfl) rfl (fun p e s m below meth c ls F hr hlk hin hW hS hl => ?_)
  have hZ0 := hW.2.2
  have hB9 := hW.1.2
  clear hin
  have hF := hwf.1
  unfold WF0 at hF
  refine lv_iload_n F.1 F.2.1 dX9_isSeen_0 rfl (lv_at hl 1 rfl) ?_
  refine lv_aload_n F.1 F.2.1 dX9_isSeen_1 rfl (lv_at hl 0 rfl) ?_
  refine gf_RX9_7 F hW hM rfl dX9_isSeen_2 ?_
  refine h_iconst F dX9_isSeen_5 ?_
  refine h_iald F hW hs (by omega) (by omega) dX9_isSeen_6 ?_
  refine h_iclt (tgt := 29) F dX9_isSeen_7 (by decide) (by omega) (fun c1 => ?_) (fun c1 => ?_)
  · refine h_iconst F dX9_isSeen_29 ?_
    refine h_goto (tgt := 34) F dX9_isSeen_30 (by decide) ?_
    refine h_top (show (1 : Int) = bz (seenS σ rn) from by unfold seenS; first | exact bzf (by rw [decide_eq_false (p := _ < _) (by omega), decide_eq_false (by omega)]; rfl) | exact bzt (by rw [decide_eq_true (p := _ < _) (by omega)]; rfl) | exact bzt (by rw [decide_eq_true (p := _ ≤ _) (by omega)]; simp)) ?_
    exact h_iretz F hr hlk hW hS rfl dX9_isSeen_34
  · refine lv_aload_n F.1 F.2.1 dX9_isSeen_10 rfl (lv_at hl 0 rfl) ?_
    refine gf_RX9_7 F hW hM rfl dX9_isSeen_11 ?_
    refine h_iconst F dX9_isSeen_14 ?_
    refine h_iald F hW hs (by omega) (by omega) dX9_isSeen_15 ?_
    refine h_iconst F dX9_isSeen_16 ?_
    refine h_isub (a := σ 4) (b := 1) F dX9_isSeen_17 ?_
    refine lv_iload_n F.1 F.2.1 dX9_isSeen_18 rfl (lv_at hl 1 rfl) ?_
    refine h_isub (a := (σ 4) - 1) (b := rn) F dX9_isSeen_19 ?_
    refine lv_aload_n F.1 F.2.1 dX9_isSeen_20 rfl (lv_at hl 0 rfl) ?_
    refine gf_RX9_7 F hW hM rfl dX9_isSeen_21 ?_
    refine h_iconst F dX9_isSeen_24 ?_
    refine h_iald F hW hs (by omega) (by omega) dX9_isSeen_25 ?_
    refine h_iclt (tgt := 33) F dX9_isSeen_26 (by decide) (by omega) (fun c2 => ?_) (fun c2 => ?_)
    · refine h_iconst F dX9_isSeen_33 ?_
      refine h_top (show (0 : Int) = bz (seenS σ rn) from by unfold seenS; first | exact bzf (by rw [decide_eq_false (p := _ < _) (by omega), decide_eq_false (by omega)]; rfl) | exact bzt (by rw [decide_eq_true (p := _ < _) (by omega)]; rfl) | exact bzt (by rw [decide_eq_true (p := _ ≤ _) (by omega)]; simp)) ?_
      exact h_iretz F hr hlk hW hS rfl dX9_isSeen_34
    · refine h_iconst F dX9_isSeen_29 ?_
      refine h_goto (tgt := 34) F dX9_isSeen_30 (by decide) ?_
      refine h_top (show (1 : Int) = bz (seenS σ rn) from by unfold seenS; first | exact bzf (by rw [decide_eq_false (p := _ < _) (by omega), decide_eq_false (by omega)]; rfl) | exact bzt (by rw [decide_eq_true (p := _ < _) (by omega)]; rfl) | exact bzt (by rw [decide_eq_true (p := _ ≤ _) (by omega)]; simp)) ?_
      exact h_iretz F hr hlk hW hS rfl dX9_isSeen_34
set_option maxHeartbeats 4000000 in
set_option maxRecDepth 100000 in
theorem c_mall_t (l : Launch) (X : Cx) (w : Wo) (mo : Nat) (v σ : Int → Int) (hM : w mo = some (.inr (9, mL mo v))) (hs : w (mo + 1) = some (aZ X 1317 σ)) (hwf : WF σ) : CM l X yX9_mistakesAll cX9_mistakesAll 4 (some (.int)) (rmk 5 115) [.ref mo, .int (iI (bz true))] w (some (.int (iI (misSeen σ)))) (fun w' => w' = w) := by
  refine CM.of (lv := [(0, .ref mo), (1, .int (iI (bz true)))]) (by decide) (Nat.le_of_ble_eq_true rfl) rfl (fun p e s m below meth c ls F hr hlk hin hW hS hl => ?_)
  have hZ0 := hW.2.2
  have hB9 := hW.1.2
  clear hin
  have hF := hwf.1
  unfold WF0 at hF
  refine h_iconst F dX9_mistakesAll_0 ?_
  refine lv_istore_n (lv' := [(2, .int (iI 0)), (0, .ref mo), (1, .int (iI (bz true)))]) F.1 F.2.1 dX9_mistakesAll_1 rfl hl (by decide) rfl (fun ls hl => ?_)
  refine h_iconst F dX9_mistakesAll_2 ?_
  refine lv_istore_n (lv' := [(3, .int (iI 0)), (2, .int (iI 0)), (0, .ref mo), (1, .int (iI (bz true)))]) F.1 F.2.1 dX9_mistakesAll_3 rfl hl (by decide) rfl (fun ls hl => ?_)
  have loop4 : ∀ (n9 : Nat) (i : Int), (hrg : 0 ≤ i ∧ i ≤ σ 4) → (hms : σ 4 - i < (n9 : Int)) → (H : Heap) → (locs : List Loc) → (ls : Array Slot) → Wd X w s H → va_S (cxA X) s.heap H locs → lv_has ls 4 [(2, .int (iI (sm (fun z => if seenS σ z then misRow σ z else 0) 0 i))), (3, .int (iI i)), (0, .ref mo), (1, .int (iI (bz true)))] → W p l e (rmk 5 115) s m (List.toArray [.ref mo, .int (iI (bz true))]) below meth c H locs 0 0 (MX X below (List.toArray [.ref mo, .int (iI (bz true))]) s 0 0 (some (.int (iI (misSeen σ)))) (fun w' => w' = w)) (F0 m 4 ls []) := by
    intro n9
    induction n9 with
    | zero => intro i  hrg hms; exfalso; omega
    | succ n9 ih4 =>
      intro i  hrg hms   H locs ls hW hS hl
      refine lv_iload_n F.1 F.2.1 dX9_mistakesAll_4 rfl (lv_at hl 1 rfl) ?_
      refine lv_aload_n F.1 F.2.1 dX9_mistakesAll_5 rfl (lv_at hl 2 rfl) ?_
      refine gf_RX9_7 F hW hM rfl dX9_mistakesAll_6 ?_
      refine h_iconst F dX9_mistakesAll_9 ?_
      refine h_iald F hW hs (by omega) (by omega) dX9_mistakesAll_10 ?_
      refine h_icge (tgt := 44) F dX9_mistakesAll_11 (by decide) (by omega) (fun c1 => ?_) (fun c1 => ?_)
      · refine lv_iload_n F.1 F.2.1 dX9_mistakesAll_44 rfl (lv_at hl 0 rfl) ?_
        refine h_top (show (sm (fun z => if seenS σ z then misRow σ z else 0) 0 i : Int) = misSeen σ from by rw [show i = σ 4 by omega]; rfl) ?_
        exact h_ireti F hr hlk hW hS rfl dX9_mistakesAll_45
      · refine lv_iload_n F.1 F.2.1 dX9_mistakesAll_14 rfl (lv_at hl 0 rfl) ?_
        refine lv_iload_n F.1 F.2.1 dX9_mistakesAll_15 rfl (lv_at hl 3 rfl) ?_
        refine h_top (show (bz true : Int) = 1 from rfl) ?_
        refine h_ifeq (tgt := 27) F dX9_mistakesAll_16 (by decide) (by decide) (fun c9 => absurd c9 (by decide)) (fun _ => ?_)
        refine lv_aload_n F.1 F.2.1 dX9_mistakesAll_19 rfl (lv_at hl 2 rfl) ?_
        refine lv_iload_n F.1 F.2.1 dX9_mistakesAll_20 rfl (lv_at hl 1 rfl) ?_
        refine cl_RX9_123 (As := [.int (iI i)]) (rest := [.int (iI (sm (fun z => if seenS σ z then misRow σ z else 0) 0 i))]) F hl (c_X9_isSeen l X w mo v σ i hM hs hwf (by omega)) hW hS hM rfl rfl ⟨Nat.le_of_ble_eq_true rfl, Nat.le_of_ble_eq_true rfl⟩ (Nat.le_of_ble_eq_true rfl) ⟨Nat.zero_le _, Nat.zero_le _⟩ dX9_mistakesAll_21 (fun w1 H locs hp3 hW hS => ?_)
        rw [hp3] at hW; clear hp3; clear w1
        refine h_ifeqb (tgt := 35) F dX9_mistakesAll_24 (by decide) (fun c4 => ?_) (fun c4 => ?_)
        · refine h_iconst F dX9_mistakesAll_35 ?_
          refine h_iadd (a := sm (fun z => if seenS σ z then misRow σ z else 0) 0 i) (b := 0) F dX9_mistakesAll_36 ?_
          refine lv_istore_n (lv' := [(2, .int (iI ((sm (fun z => if seenS σ z then misRow σ z else 0) 0 i) + 0))), (3, .int (iI i)), (0, .ref mo), (1, .int (iI (bz true)))]) F.1 F.2.1 dX9_mistakesAll_37 rfl hl (by decide) rfl (fun ls hl => ?_)
          refine h_iinc (k := 1) (a := i) (lv' := [(3, .int (iI (i + 1))), (2, .int (iI ((sm (fun z => if seenS σ z then misRow σ z else 0) 0 i) + 0))), (0, .ref mo), (1, .int (iI (bz true)))]) F dX9_mistakesAll_38 hl rfl (by decide) rfl (fun ls hl => ?_)
          refine h_goto (tgt := 4) F dX9_mistakesAll_41 (by decide) ?_
          have eq5 : (sm (fun z => if seenS σ z then misRow σ z else 0) 0 (i + 1) : Int) = (sm (fun z => if seenS σ z then misRow σ z else 0) 0 i) + 0 := by rw [sm_s _ (by omega)]; first | rw [if_pos ‹seenS σ i = true›] | rw [if_neg (by rw [‹seenS σ i = false›]; decide)]
          have eq6 : ((i + 1) : Int) = i + 1 := by first | rfl | omega | simp
          exact ih4 (i + 1)  (by omega) (by omega)   _ _ ls hW hS (by rw [eq5, eq6]; exact lv_sub hl [1, 0, 2, 3] rfl)
        · refine lv_aload_n F.1 F.2.1 dX9_mistakesAll_27 rfl (lv_at hl 2 rfl) ?_
          refine lv_iload_n F.1 F.2.1 dX9_mistakesAll_28 rfl (lv_at hl 1 rfl) ?_
          refine cl_RX9_127 (As := [.int (iI i)]) (rest := [.int (iI (sm (fun z => if seenS σ z then misRow σ z else 0) 0 i))]) F hl (c_X9_mistakesIn l X w mo v σ i hM hs hwf (by omega)) hW hS hM rfl rfl ⟨Nat.le_of_ble_eq_true rfl, Nat.le_of_ble_eq_true rfl⟩ (Nat.le_of_ble_eq_true rfl) ⟨Nat.zero_le _, Nat.zero_le _⟩ dX9_mistakesAll_29 (fun w1 H locs hp7 hW hS => ?_)
          rw [hp7] at hW; clear hp7; clear w1
          refine h_goto (tgt := 36) F dX9_mistakesAll_32 (by decide) ?_
          refine h_iadd (a := sm (fun z => if seenS σ z then misRow σ z else 0) 0 i) (b := misRow σ i) F dX9_mistakesAll_36 ?_
          refine lv_istore_n (lv' := [(2, .int (iI ((sm (fun z => if seenS σ z then misRow σ z else 0) 0 i) + (misRow σ i)))), (3, .int (iI i)), (0, .ref mo), (1, .int (iI (bz true)))]) F.1 F.2.1 dX9_mistakesAll_37 rfl hl (by decide) rfl (fun ls hl => ?_)
          refine h_iinc (k := 1) (a := i) (lv' := [(3, .int (iI (i + 1))), (2, .int (iI ((sm (fun z => if seenS σ z then misRow σ z else 0) 0 i) + (misRow σ i)))), (0, .ref mo), (1, .int (iI (bz true)))]) F dX9_mistakesAll_38 hl rfl (by decide) rfl (fun ls hl => ?_)
          refine h_goto (tgt := 4) F dX9_mistakesAll_41 (by decide) ?_
          have eq8 : (sm (fun z => if seenS σ z then misRow σ z else 0) 0 (i + 1) : Int) = (sm (fun z => if seenS σ z then misRow σ z else 0) 0 i) + (misRow σ i) := by rw [sm_s _ (by omega)]; first | rw [if_pos ‹seenS σ i = true›] | rw [if_neg (by rw [‹seenS σ i = false›]; decide)]
          have eq9 : ((i + 1) : Int) = i + 1 := by first | rfl | omega | simp
          exact ih4 (i + 1)  (by omega) (by omega)   _ _ ls hW hS (by rw [eq8, eq9]; exact lv_sub hl [1, 0, 2, 3] rfl)
  have eq10 : (sm (fun z => if seenS σ z then misRow σ z else 0) 0 0 : Int) = 0 := sm_0 _ _
  exact loop4 ((σ 4 - 0) + 1 : Int).toNat 0  (by omega) (by omega)   _ _ ls hW hS (by rw [eq10]; exact lv_sub hl [1, 0, 2, 3] rfl)
set_option maxHeartbeats 4000000 in
set_option maxRecDepth 100000 in
theorem c_mall_f (l : Launch) (X : Cx) (w : Wo) (mo : Nat) (v σ : Int → Int) (hM : w mo = some (.inr (9, mL mo v))) (hs : w (mo + 1) = some (aZ X 1317 σ)) (hwf : WF σ) : CM l X yX9_mistakesAll cX9_mistakesAll 4 (some (.int)) (rmk 5 115) [.ref mo, .int (iI (bz false))] w (some (.int (iI (misFrom σ 0)))) (fun w' => w' = w) := by
  refine CM.of (lv := [(0, .ref mo), (1, .int (iI (bz false)))]) (by decide) (Nat.le_of_ble_eq_true rfl) rfl (fun p e s m below meth c ls F hr hlk hin hW hS hl => ?_)
  have hZ0 := hW.2.2
  have hB9 := hW.1.2
  clear hin
  have hF := hwf.1
  unfold WF0 at hF
  refine h_iconst F dX9_mistakesAll_0 ?_
  refine lv_istore_n (lv' := [(2, .int (iI 0)), (0, .ref mo), (1, .int (iI (bz false)))]) F.1 F.2.1 dX9_mistakesAll_1 rfl hl (by decide) rfl (fun ls hl => ?_)
  refine h_iconst F dX9_mistakesAll_2 ?_
  refine lv_istore_n (lv' := [(3, .int (iI 0)), (2, .int (iI 0)), (0, .ref mo), (1, .int (iI (bz false)))]) F.1 F.2.1 dX9_mistakesAll_3 rfl hl (by decide) rfl (fun ls hl => ?_)
  have loop4 : ∀ (n9 : Nat) (i : Int), (hrg : 0 ≤ i ∧ i ≤ σ 4) → (hms : σ 4 - i < (n9 : Int)) → (H : Heap) → (locs : List Loc) → (ls : Array Slot) → Wd X w s H → va_S (cxA X) s.heap H locs → lv_has ls 4 [(2, .int (iI (sm (misRow σ) 0 i))), (3, .int (iI i)), (0, .ref mo), (1, .int (iI (bz false)))] → W p l e (rmk 5 115) s m (List.toArray [.ref mo, .int (iI (bz false))]) below meth c H locs 0 0 (MX X below (List.toArray [.ref mo, .int (iI (bz false))]) s 0 0 (some (.int (iI (misFrom σ 0)))) (fun w' => w' = w)) (F0 m 4 ls []) := by
    intro n9
    induction n9 with
    | zero => intro i  hrg hms; exfalso; omega
    | succ n9 ih4 =>
      intro i  hrg hms   H locs ls hW hS hl
      refine lv_iload_n F.1 F.2.1 dX9_mistakesAll_4 rfl (lv_at hl 1 rfl) ?_
      refine lv_aload_n F.1 F.2.1 dX9_mistakesAll_5 rfl (lv_at hl 2 rfl) ?_
      refine gf_RX9_7 F hW hM rfl dX9_mistakesAll_6 ?_
      refine h_iconst F dX9_mistakesAll_9 ?_
      refine h_iald F hW hs (by omega) (by omega) dX9_mistakesAll_10 ?_
      refine h_icge (tgt := 44) F dX9_mistakesAll_11 (by decide) (by omega) (fun c1 => ?_) (fun c1 => ?_)
      · refine lv_iload_n F.1 F.2.1 dX9_mistakesAll_44 rfl (lv_at hl 0 rfl) ?_
        refine h_top (show (sm (misRow σ) 0 i : Int) = misFrom σ 0 from by rw [show i = σ 4 by omega]; rfl) ?_
        exact h_ireti F hr hlk hW hS rfl dX9_mistakesAll_45
      · refine lv_iload_n F.1 F.2.1 dX9_mistakesAll_14 rfl (lv_at hl 0 rfl) ?_
        refine lv_iload_n F.1 F.2.1 dX9_mistakesAll_15 rfl (lv_at hl 3 rfl) ?_
        refine h_top (show (bz false : Int) = 0 from rfl) ?_
        refine h_ifeq (tgt := 27) F dX9_mistakesAll_16 (by decide) (by decide) (fun _ => ?_) (fun c9 => absurd c9 (by decide))
        refine lv_aload_n F.1 F.2.1 dX9_mistakesAll_27 rfl (lv_at hl 2 rfl) ?_
        refine lv_iload_n F.1 F.2.1 dX9_mistakesAll_28 rfl (lv_at hl 1 rfl) ?_
        refine cl_RX9_127 (As := [.int (iI i)]) (rest := [.int (iI (sm (misRow σ) 0 i))]) F hl (c_X9_mistakesIn l X w mo v σ i hM hs hwf (by omega)) hW hS hM rfl rfl ⟨Nat.le_of_ble_eq_true rfl, Nat.le_of_ble_eq_true rfl⟩ (Nat.le_of_ble_eq_true rfl) ⟨Nat.zero_le _, Nat.zero_le _⟩ dX9_mistakesAll_29 (fun w1 H locs hp3 hW hS => ?_)
        rw [hp3] at hW; clear hp3; clear w1
        refine h_goto (tgt := 36) F dX9_mistakesAll_32 (by decide) ?_
        refine h_iadd (a := sm (misRow σ) 0 i) (b := misRow σ i) F dX9_mistakesAll_36 ?_
        refine lv_istore_n (lv' := [(2, .int (iI ((sm (misRow σ) 0 i) + (misRow σ i)))), (3, .int (iI i)), (0, .ref mo), (1, .int (iI (bz false)))]) F.1 F.2.1 dX9_mistakesAll_37 rfl hl (by decide) rfl (fun ls hl => ?_)
        refine h_iinc (k := 1) (a := i) (lv' := [(3, .int (iI (i + 1))), (2, .int (iI ((sm (misRow σ) 0 i) + (misRow σ i)))), (0, .ref mo), (1, .int (iI (bz false)))]) F dX9_mistakesAll_38 hl rfl (by decide) rfl (fun ls hl => ?_)
        refine h_goto (tgt := 4) F dX9_mistakesAll_41 (by decide) ?_
        have eq4 : (sm (misRow σ) 0 (i + 1) : Int) = (sm (misRow σ) 0 i) + (misRow σ i) := sm_s _ (by omega)
        have eq5 : ((i + 1) : Int) = i + 1 := by first | rfl | omega | simp
        exact ih4 (i + 1)  (by omega) (by omega)   _ _ ls hW hS (by rw [eq4, eq5]; exact lv_sub hl [1, 0, 2, 3] rfl)
  have eq6 : (sm (misRow σ) 0 0 : Int) = 0 := sm_0 _ _
  exact loop4 ((σ 4 - 0) + 1 : Int).toNat 0  (by omega) (by omega)   _ _ ls hW hS (by rw [eq6]; exact lv_sub hl [1, 0, 2, 3] rfl)
set_option maxHeartbeats 4000000 in
set_option maxRecDepth 100000 in
theorem c_X9_lowestWrong (l : Launch) (X : Cx) (w : Wo) (mo : Nat) (v σ : Int → Int) (b : Bool) (hM : w mo = some (.inr (9, mL mo v))) (hs : w (mo + 1) = some (aZ X 1317 σ)) (hwf : WF σ) : CM l X yX9_lowestWrong cX9_lowestWrong 3 (some (.int)) (rmk 5 115) [.ref mo, .int (iI (bz b))] w (some (.int (iI (lowS σ b)))) (fun w' => w' = w) := by
  refine CM.of (lv := [(0, .ref mo), (1, .int (iI (bz b)))]) (by decide) (Nat.le_of_ble_eq_true rfl) rfl (fun p e s m below meth c ls F hr hlk hin hW hS hl => ?_)
  have hZ0 := hW.2.2
  have hB9 := hW.1.2
  clear hin
  have hF := hwf.1
  unfold WF0 at hF
  refine h_iconst F dX9_lowestWrong_0 ?_
  refine lv_istore_n (lv' := [(2, .int (iI 0)), (0, .ref mo), (1, .int (iI (bz b)))]) F.1 F.2.1 dX9_lowestWrong_1 rfl hl (by decide) rfl (fun ls hl => ?_)
  have loop2 : ∀ (n9 : Nat) (i : Int), (hrg : 0 ≤ i ∧ i ≤ σ 4) → (hms : σ 4 - i < (n9 : Int)) → (hno : ∀ r, 0 ≤ r → r < i → lowP σ b r = false) → (H : Heap) → (locs : List Loc) → (ls : Array Slot) → Wd X w s H → va_S (cxA X) s.heap H locs → lv_has ls 3 [(2, .int (iI i)), (0, .ref mo), (1, .int (iI (bz b)))] → W p l e (rmk 5 115) s m (List.toArray [.ref mo, .int (iI (bz b))]) below meth c H locs 0 0 (MX X below (List.toArray [.ref mo, .int (iI (bz b))]) s 0 0 (some (.int (iI (lowS σ b)))) (fun w' => w' = w)) (F0 m 2 ls []) := by
    intro n9
    induction n9 with
    | zero => intro i  hrg hms; exfalso; omega
    | succ n9 ih2 =>
      intro i  hrg hms  hno H locs ls hW hS hl
      refine lv_iload_n F.1 F.2.1 dX9_lowestWrong_2 rfl (lv_at hl 0 rfl) ?_
      refine lv_aload_n F.1 F.2.1 dX9_lowestWrong_3 rfl (lv_at hl 1 rfl) ?_
      refine gf_RX9_7 F hW hM rfl dX9_lowestWrong_4 ?_
      refine h_iconst F dX9_lowestWrong_7 ?_
      refine h_iald F hW hs (by omega) (by omega) dX9_lowestWrong_8 ?_
      refine h_icge (tgt := 40) F dX9_lowestWrong_9 (by decide) (by omega) (fun c1 => ?_) (fun c1 => ?_)
      · refine h_iconst F dX9_lowestWrong_40 ?_
        refine h_top (show ((-1) : Int) = lowS σ b from by unfold lowS; rw [fi_none (by omega) (fun r h1 h2 => hno r h1 (by omega)), if_neg (by omega)]) ?_
        exact h_ireti F hr hlk hW hS rfl dX9_lowestWrong_41
      · refine lv_iload_n F.1 F.2.1 dX9_lowestWrong_12 rfl (lv_at hl 2 rfl) ?_
        refine h_ifeqb (tgt := 24) F dX9_lowestWrong_13 (by decide) (fun c2 => ?_) (fun c2 => ?_)
        · refine lv_aload_n F.1 F.2.1 dX9_lowestWrong_24 rfl (lv_at hl 1 rfl) ?_
          refine lv_iload_n F.1 F.2.1 dX9_lowestWrong_25 rfl (lv_at hl 0 rfl) ?_
          refine cl_RX9_127 (As := [.int (iI i)]) (rest := []) F hl (c_X9_mistakesIn l X w mo v σ i hM hs hwf (by omega)) hW hS hM rfl rfl ⟨Nat.le_of_ble_eq_true rfl, Nat.le_of_ble_eq_true rfl⟩ (Nat.le_of_ble_eq_true rfl) ⟨Nat.zero_le _, Nat.zero_le _⟩ dX9_lowestWrong_26 (fun w1 H locs hp3 hW hS => ?_)
          rw [hp3] at hW; clear hp3; clear w1
          have hm := misRow_r hwf i
          refine h_ifle (tgt := 34) F dX9_lowestWrong_29 (by decide) (by omega) (fun c4 => ?_) (fun c4 => ?_)
          · refine h_iinc (k := 0) (a := i) (lv' := [(2, .int (iI (i + 1))), (0, .ref mo), (1, .int (iI (bz b)))]) F dX9_lowestWrong_34 hl rfl (by decide) rfl (fun ls hl => ?_)
            refine h_goto (tgt := 2) F dX9_lowestWrong_37 (by decide) ?_
            have eq5 : ((i + 1) : Int) = i + 1 := by first | rfl | omega | simp
            exact ih2 (i + 1)  (by omega) (by omega)  (fun r h1 h2 => (by by_cases hj : r = i; (rw [hj]; unfold lowP; first | (rw [‹seenS σ i = false›, ‹b = true›]; rfl) | (rw [decide_eq_false (by omega)]; simp)); exact hno r h1 (by omega))) _ _ ls hW hS (by rw [eq5]; exact lv_sub hl [0, 1, 2] rfl)
          · refine lv_iload_n F.1 F.2.1 dX9_lowestWrong_32 rfl (lv_at hl 0 rfl) ?_
            refine h_top (show (i : Int) = lowS σ b from by unfold lowS; rw [fi_hit (i := i) (by omega) (by omega) hno (by unfold lowP; rw [decide_eq_true (by omega)]; first | (rw [‹b = false›]; rfl) | (rw [‹seenS σ i = true›]; simp))]; rw [if_pos (by omega)]) ?_
            exact h_ireti F hr hlk hW hS rfl dX9_lowestWrong_33
        · refine lv_aload_n F.1 F.2.1 dX9_lowestWrong_16 rfl (lv_at hl 1 rfl) ?_
          refine lv_iload_n F.1 F.2.1 dX9_lowestWrong_17 rfl (lv_at hl 0 rfl) ?_
          refine cl_RX9_123 (As := [.int (iI i)]) (rest := []) F hl (c_X9_isSeen l X w mo v σ i hM hs hwf (by omega)) hW hS hM rfl rfl ⟨Nat.le_of_ble_eq_true rfl, Nat.le_of_ble_eq_true rfl⟩ (Nat.le_of_ble_eq_true rfl) ⟨Nat.zero_le _, Nat.zero_le _⟩ dX9_lowestWrong_18 (fun w1 H locs hp6 hW hS => ?_)
          rw [hp6] at hW; clear hp6; clear w1
          refine h_ifeqb (tgt := 34) F dX9_lowestWrong_21 (by decide) (fun c7 => ?_) (fun c7 => ?_)
          · refine h_iinc (k := 0) (a := i) (lv' := [(2, .int (iI (i + 1))), (0, .ref mo), (1, .int (iI (bz b)))]) F dX9_lowestWrong_34 hl rfl (by decide) rfl (fun ls hl => ?_)
            refine h_goto (tgt := 2) F dX9_lowestWrong_37 (by decide) ?_
            have eq8 : ((i + 1) : Int) = i + 1 := by first | rfl | omega | simp
            exact ih2 (i + 1)  (by omega) (by omega)  (fun r h1 h2 => (by by_cases hj : r = i; (rw [hj]; unfold lowP; first | (rw [‹seenS σ i = false›, ‹b = true›]; rfl) | (rw [decide_eq_false (by omega)]; simp)); exact hno r h1 (by omega))) _ _ ls hW hS (by rw [eq8]; exact lv_sub hl [0, 1, 2] rfl)
          · refine lv_aload_n F.1 F.2.1 dX9_lowestWrong_24 rfl (lv_at hl 1 rfl) ?_
            refine lv_iload_n F.1 F.2.1 dX9_lowestWrong_25 rfl (lv_at hl 0 rfl) ?_
            refine cl_RX9_127 (As := [.int (iI i)]) (rest := []) F hl (c_X9_mistakesIn l X w mo v σ i hM hs hwf (by omega)) hW hS hM rfl rfl ⟨Nat.le_of_ble_eq_true rfl, Nat.le_of_ble_eq_true rfl⟩ (Nat.le_of_ble_eq_true rfl) ⟨Nat.zero_le _, Nat.zero_le _⟩ dX9_lowestWrong_26 (fun w1 H locs hp9 hW hS => ?_)
            rw [hp9] at hW; clear hp9; clear w1
            have hm := misRow_r hwf i
            refine h_ifle (tgt := 34) F dX9_lowestWrong_29 (by decide) (by omega) (fun c10 => ?_) (fun c10 => ?_)
            · refine h_iinc (k := 0) (a := i) (lv' := [(2, .int (iI (i + 1))), (0, .ref mo), (1, .int (iI (bz b)))]) F dX9_lowestWrong_34 hl rfl (by decide) rfl (fun ls hl => ?_)
              refine h_goto (tgt := 2) F dX9_lowestWrong_37 (by decide) ?_
              have eq11 : ((i + 1) : Int) = i + 1 := by first | rfl | omega | simp
              exact ih2 (i + 1)  (by omega) (by omega)  (fun r h1 h2 => (by by_cases hj : r = i; (rw [hj]; unfold lowP; first | (rw [‹seenS σ i = false›, ‹b = true›]; rfl) | (rw [decide_eq_false (by omega)]; simp)); exact hno r h1 (by omega))) _ _ ls hW hS (by rw [eq11]; exact lv_sub hl [0, 1, 2] rfl)
            · refine lv_iload_n F.1 F.2.1 dX9_lowestWrong_32 rfl (lv_at hl 0 rfl) ?_
              refine h_top (show (i : Int) = lowS σ b from by unfold lowS; rw [fi_hit (i := i) (by omega) (by omega) hno (by unfold lowP; rw [decide_eq_true (by omega)]; first | (rw [‹b = false›]; rfl) | (rw [‹seenS σ i = true›]; simp))]; rw [if_pos (by omega)]) ?_
              exact h_ireti F hr hlk hW hS rfl dX9_lowestWrong_33
  exact loop2 ((σ 4 - 0) + 1 : Int).toNat 0  (by omega) (by omega)  (fun k h1 h2 => by omega) _ _ ls hW hS (lv_sub hl [0, 1, 2] rfl)
set_option maxHeartbeats 4000000 in
set_option maxRecDepth 100000 in
theorem c_X9_isLegible (l : Launch) (X : Cx) (w : Wo) (mo : Nat) (v σ : Int → Int) (k : Int) (hM : w mo = some (.inr (9, mL mo v))) (hs : w (mo + 1) = some (aZ X 1317 σ)) (hwf : WF σ) (hk : 0 ≤ k ∧ k < σ 5) : CM l X yX9_isLegible cX9_isLegible 2 (some (.boolean)) (rmk 1 22) [.ref mo, .int (iI k)] w (some (.int (iI (bz (legS σ k))))) (fun w' => w' = w) := by
  refine CM.of (lv := [(0, .ref mo), (1, .int (iI k))]) (by decide) (Nat.le_of_ble_eq_true rfl) rfl (fun p e s m below meth c ls F hr hlk hin hW hS hl => ?_)
  have hZ0 := hW.2.2
  have hB9 := hW.1.2
  clear hin
  have hF := hwf.1
  unfold WF0 at hF
  obtain ⟨m1, m2, m3, m4, m5, m6⟩ := hwf.2.2.1 k (by omega) (by omega)
  refine lv_aload_n F.1 F.2.1 dX9_isLegible_0 rfl (lv_at hl 0 rfl) ?_
  refine lv_iload_n F.1 F.2.1 dX9_isLegible_1 rfl (lv_at hl 1 rfl) ?_
  refine h_iconst F dX9_isLegible_2 ?_
  refine cl_RX9_95 (As := [.int (iI k), .int (iI 3)]) (rest := []) F hl (c_X9_cap l X w mo v σ k 3 hM hs hwf (by omega)) hW hS hM rfl rfl ⟨Nat.le_of_ble_eq_true rfl, Nat.le_of_ble_eq_true rfl⟩ (Nat.le_of_ble_eq_true rfl) ⟨Nat.zero_le _, Nat.zero_le _⟩ dX9_isLegible_3 (fun w1 H locs hp1 hW hS => ?_)
  rw [hp1] at hW; clear hp1; clear w1
  refine h_iconst F dX9_isLegible_6 ?_
  refine h_iadd (a := cp σ k 3) (b := 4) F dX9_isLegible_7 ?_
  refine lv_aload_n F.1 F.2.1 dX9_isLegible_8 rfl (lv_at hl 0 rfl) ?_
  refine gf_RX9_7 F hW hM rfl dX9_isLegible_9 ?_
  refine h_iconst F dX9_isLegible_12 ?_
  refine h_iald F hW hs (by omega) (by omega) dX9_isLegible_13 ?_
  refine h_icge (tgt := 21) F dX9_isLegible_14 (by decide) (by omega) (fun c2 => ?_) (fun c2 => ?_)
  · refine h_iconst F dX9_isLegible_21 ?_
    refine h_top (show (0 : Int) = bz (legS σ k) from by unfold legS; first | exact bzt (decide_eq_true (by omega)) | exact bzf (decide_eq_false (by omega))) ?_
    exact h_iretz F hr hlk hW hS rfl dX9_isLegible_22
  · refine h_iconst F dX9_isLegible_17 ?_
    refine h_goto (tgt := 22) F dX9_isLegible_18 (by decide) ?_
    refine h_top (show (1 : Int) = bz (legS σ k) from by unfold legS; first | exact bzt (decide_eq_true (by omega)) | exact bzf (decide_eq_false (by omega))) ?_
    exact h_iretz F hr hlk hW hS rfl dX9_isLegible_22
set_option maxHeartbeats 4000000 in
set_option maxRecDepth 100000 in
theorem c_pic_f (l : Launch) (X : Cx) (w : Wo) (mo : Nat) (v σ : Int → Int) (k j : Int) (hM : w mo = some (.inr (9, mL mo v))) (hs : w (mo + 1) = some (aZ X 1317 σ)) (hwf : WF σ) (hk : 0 ≤ k ∧ k < σ 5) (hj : 0 ≤ j ∧ j < cp σ k 0) (hlg : legS σ k = true) : CM l X yX9_pictureOf cX9_pictureOf 11 (some (.int)) (rmk 2 43) [.ref mo, .int (iI k), .int (iI j), .int (iI (bz false))] w (some (.int (iI (picS σ k j false)))) (fun w' => w' = w) := by
  refine CM.of (lv := [(0, .ref mo), (1, .int (iI k)), (2, .int (iI j)), (3, .int (iI (bz false)))]) (by decide) (Nat.le_of_ble_eq_true rfl) rfl (fun p e s m below meth c ls F hr hlk hin hW hS hl => ?_)
  have hZ0 := hW.2.2
  have hB9 := hW.1.2
  clear hin
  have hF := hwf.1
  unfold WF0 at hF
  obtain ⟨m1, m2, m3, m4, m5, m6⟩ := hwf.2.2.1 k (by omega) (by omega)
  unfold legS at hlg
  have hlg2 := of_decide_eq_true hlg
  refine h_iconst F dX9_pictureOf_0 ?_
  refine lv_istore (lv' := [(4, .int (iI 0)), (0, .ref mo), (1, .int (iI k)), (2, .int (iI j)), (3, .int (iI (bz false)))]) F.1 F.2.1 dX9_pictureOf_1 hl (by decide) rfl (fun ls hl => ?_)
  refine h_iconst F dX9_pictureOf_3 ?_
  refine lv_istore (lv' := [(5, .int (iI 0)), (4, .int (iI 0)), (0, .ref mo), (1, .int (iI k)), (2, .int (iI j)), (3, .int (iI (bz false)))]) F.1 F.2.1 dX9_pictureOf_4 hl (by decide) rfl (fun ls hl => ?_)
  have loop6 : ∀ (n9 : Nat) (d : Int), (hrg : 0 ≤ d ∧ d ≤ 5) → (hms : 5 - d < (n9 : Int)) → (H : Heap) → (locs : List Loc) → (ls : Array Slot) → Wd X w s H → va_S (cxA X) s.heap H locs → lv_has ls 11 [(4, .int (iI (bs (picB σ k j false) (3 * d)))), (5, .int (iI d)), (0, .ref mo), (1, .int (iI k)), (2, .int (iI j)), (3, .int (iI (bz false)))] → W p l e (rmk 2 43) s m (List.toArray [.ref mo, .int (iI k), .int (iI j), .int (iI (bz false))]) below meth c H locs 0 0 (MX X below (List.toArray [.ref mo, .int (iI k), .int (iI j), .int (iI (bz false))]) s 0 0 (some (.int (iI (picS σ k j false)))) (fun w' => w' = w)) (F0 m 6 ls []) := by
    intro n9
    induction n9 with
    | zero => intro d  hrg hms; exfalso; omega
    | succ n9 ih6 =>
      intro d  hrg hms   H locs ls hW hS hl
      refine lv_iload F.1 F.2.1 dX9_pictureOf_6 (lv_at hl 1 rfl) ?_
      refine h_iconst F dX9_pictureOf_8 ?_
      refine h_icge (tgt := 133) F dX9_pictureOf_9 (by decide) (by omega) (fun c1 => ?_) (fun c1 => ?_)
      · refine lv_iload F.1 F.2.1 dX9_pictureOf_133 (lv_at hl 0 rfl) ?_
        refine h_top (show (bs (picB σ k j false) (3 * d) : Int) = picS σ k j false from by rw [show d = 5 by omega]; rfl) ?_
        exact h_ireti F hr hlk hW hS rfl dX9_pictureOf_135
      · refine h_iconst F dX9_pictureOf_12 ?_
        refine lv_istore (lv' := [(6, .int (iI 0)), (4, .int (iI (bs (picB σ k j false) (3 * d)))), (5, .int (iI d)), (0, .ref mo), (1, .int (iI k)), (2, .int (iI j)), (3, .int (iI (bz false)))]) F.1 F.2.1 dX9_pictureOf_13 hl (by decide) rfl (fun ls hl => ?_)
        have loop15 : ∀ (n9 : Nat) (ov : Int), (hrg : 0 ≤ ov ∧ ov ≤ 3) → (hms : 3 - ov < (n9 : Int)) → (H : Heap) → (locs : List Loc) → (ls : Array Slot) → Wd X w s H → va_S (cxA X) s.heap H locs → lv_has ls 11 [(4, .int (iI (bs (picB σ k j false) (3 * d + ov)))), (6, .int (iI ov)), (5, .int (iI d)), (0, .ref mo), (1, .int (iI k)), (2, .int (iI j)), (3, .int (iI (bz false)))] → W p l e (rmk 2 43) s m (List.toArray [.ref mo, .int (iI k), .int (iI j), .int (iI (bz false))]) below meth c H locs 0 0 (MX X below (List.toArray [.ref mo, .int (iI k), .int (iI j), .int (iI (bz false))]) s 0 0 (some (.int (iI (picS σ k j false)))) (fun w' => w' = w)) (F0 m 15 ls []) := by
          intro n9
          induction n9 with
          | zero => intro ov  hrg hms; exfalso; omega
          | succ n9 ih15 =>
            intro ov  hrg hms   H locs ls hW hS hl
            refine lv_iload F.1 F.2.1 dX9_pictureOf_15 (lv_at hl 1 rfl) ?_
            refine h_iconst F dX9_pictureOf_17 ?_
            refine h_icge (tgt := 127) F dX9_pictureOf_18 (by decide) (by omega) (fun c2 => ?_) (fun c2 => ?_)
            · refine h_iinc (k := 2) (a := d) (lv' := [(5, .int (iI (d + 1))), (4, .int (iI (bs (picB σ k j false) (3 * d + ov)))), (6, .int (iI ov)), (0, .ref mo), (1, .int (iI k)), (2, .int (iI j)), (3, .int (iI (bz false)))]) F dX9_pictureOf_127 hl rfl (by decide) rfl (fun ls hl => ?_)
              refine h_goto (tgt := 6) F dX9_pictureOf_130 (by decide) ?_
              have eq3 : (bs (picB σ k j false) (3 * (d + 1)) : Int) = bs (picB σ k j false) (3 * d + ov) := by rw [show 3 * (d + 1) = 3 * d + ov by omega]
              have eq4 : ((d + 1) : Int) = d + 1 := by first | rfl | omega | simp
              exact ih6 (d + 1)  (by omega) (by omega)   _ _ ls hW hS (by rw [eq3, eq4]; exact lv_sub hl [1, 0, 3, 4, 5, 6] rfl)
            · refine lv_aload_n F.1 F.2.1 dX9_pictureOf_21 rfl (lv_at hl 3 rfl) ?_
              refine lv_iload_n F.1 F.2.1 dX9_pictureOf_22 rfl (lv_at hl 4 rfl) ?_
              refine h_iconst F dX9_pictureOf_23 ?_
              refine cl_RX9_95 (As := [.int (iI k), .int (iI 2)]) (rest := []) F hl (c_X9_cap l X w mo v σ k 2 hM hs hwf (by omega)) hW hS hM rfl rfl ⟨Nat.le_of_ble_eq_true rfl, Nat.le_of_ble_eq_true rfl⟩ (Nat.le_of_ble_eq_true rfl) ⟨Nat.zero_le _, Nat.zero_le _⟩ dX9_pictureOf_24 (fun w1 H locs hp5 hW hS => ?_)
              rw [hp5] at hW; clear hp5; clear w1
              refine h_iconst F dX9_pictureOf_27 ?_
              refine lv_iload_n F.1 F.2.1 dX9_pictureOf_28 rfl (lv_at hl 5 rfl) ?_
              refine h_imul (a := 4) (b := j) F dX9_pictureOf_29 ?_
              refine h_iadd (a := cp σ k 2) (b := 4 * j) F dX9_pictureOf_30 ?_
              refine lv_iload F.1 F.2.1 dX9_pictureOf_31 (lv_at hl 1 rfl) ?_
              refine h_iadd (a := (cp σ k 2) + (4 * j)) (b := ov) F dX9_pictureOf_33 ?_
              refine lv_istore (lv' := [(7, .int (iI (((cp σ k 2) + (4 * j)) + ov))), (4, .int (iI (bs (picB σ k j false) (3 * d + ov)))), (6, .int (iI ov)), (5, .int (iI d)), (0, .ref mo), (1, .int (iI k)), (2, .int (iI j)), (3, .int (iI (bz false)))]) F.1 F.2.1 dX9_pictureOf_34 hl (by decide) rfl (fun ls hl => ?_)
              have join69 : ∀ (H : Heap) (locs : List Loc) (ls : Array Slot), Wd X w s H → va_S (cxA X) s.heap H locs → lv_has ls 11 [(7, .int (iI (((cp σ k 2) + (4 * j)) + ov))), (4, .int (iI (bs (picB σ k j false) (3 * d + ov)))), (6, .int (iI ov)), (5, .int (iI d)), (0, .ref mo), (1, .int (iI k)), (2, .int (iI j)), (3, .int (iI (bz false)))] → W p l e (rmk 2 43) s m (List.toArray [.ref mo, .int (iI k), .int (iI j), .int (iI (bz false))]) below meth c H locs 0 0 (MX X below (List.toArray [.ref mo, .int (iI k), .int (iI j), .int (iI (bz false))]) s 0 0 (some (.int (iI (picS σ k j false)))) (fun w' => w' = w)) (F0 m 69 ls [.int (iI (capCol σ k (cp σ k 2 + 4 * j + ov)))]) := by
                intro  H locs ls  hW hS hl
                refine lv_istore (lv' := [(9, .int (iI (capCol σ k (cp σ k 2 + 4 * j + ov)))), (7, .int (iI (((cp σ k 2) + (4 * j)) + ov))), (4, .int (iI (bs (picB σ k j false) (3 * d + ov)))), (6, .int (iI ov)), (5, .int (iI d)), (0, .ref mo), (1, .int (iI k)), (2, .int (iI j)), (3, .int (iI (bz false)))]) F.1 F.2.1 dX9_pictureOf_69 hl (by decide) rfl (fun ls hl => ?_)
                have hcc := capCol_r (j := j) (o := ov) hwf (hwf.2.2.1 k (by omega) (by omega)) (by omega) (by omega)
                have htt : 0 ≤ capCol σ k (cp σ k 2 + 4 * j + ov) ∧ capCol σ k (cp σ k 2 + 4 * j + ov) < σ 0 := by omega
                refine lv_aload_n F.1 F.2.1 dX9_pictureOf_71 rfl (lv_at hl 5 rfl) ?_
                refine lv_iload F.1 F.2.1 dX9_pictureOf_72 (lv_at hl 0 rfl) ?_
                refine lv_aload_n F.1 F.2.1 dX9_pictureOf_74 rfl (lv_at hl 5 rfl) ?_
                refine lv_iload_n F.1 F.2.1 dX9_pictureOf_75 rfl (lv_at hl 6 rfl) ?_
                refine h_iconst F dX9_pictureOf_76 ?_
                refine cl_RX9_95 (As := [.int (iI k), .int (iI 3)]) (rest := [.int (iI (capCol σ k (cp σ k 2 + 4 * j + ov))), .ref mo]) F hl (c_X9_cap l X w mo v σ k 3 hM hs hwf (by omega)) hW hS hM rfl rfl ⟨Nat.le_of_ble_eq_true rfl, Nat.le_of_ble_eq_true rfl⟩ (Nat.le_of_ble_eq_true rfl) ⟨Nat.zero_le _, Nat.zero_le _⟩ dX9_pictureOf_77 (fun w1 H locs hp6 hW hS => ?_)
                rw [hp6] at hW; clear hp6; clear w1
                refine h_iconst F dX9_pictureOf_80 ?_
                refine h_iadd (a := cp σ k 3) (b := 4) F dX9_pictureOf_81 ?_
                refine lv_iload F.1 F.2.1 dX9_pictureOf_82 (lv_at hl 4 rfl) ?_
                refine h_isub (a := (cp σ k 3) + 4) (b := d) F dX9_pictureOf_84 ?_
                have hce := hwf.2.2.2.1 (capCol σ k (cp σ k 2 + 4 * j + ov)) (cp σ k 3 + 4 - d) (by omega) (by omega) (by omega) (by omega)
                refine cl_RX9_113 (As := [.int (iI (capCol σ k (cp σ k 2 + 4 * j + ov))), .int (iI (((cp σ k 3) + 4) - d))]) (rest := []) F hl (c_X9_colourAt l X w mo v σ (capCol σ k (cp σ k 2 + 4 * j + ov)) (((cp σ k 3) + 4) - d) hM hs hwf (by omega)) hW hS hM rfl rfl ⟨Nat.le_of_ble_eq_true rfl, Nat.le_of_ble_eq_true rfl⟩ (Nat.le_of_ble_eq_true rfl) ⟨Nat.zero_le _, Nat.zero_le _⟩ dX9_pictureOf_85 (fun w1 H locs hp7 hW hS => ?_)
                rw [hp7] at hW; clear hp7; clear w1
                refine lv_aload_n F.1 F.2.1 dX9_pictureOf_88 rfl (lv_at hl 5 rfl) ?_
                refine lv_iload_n F.1 F.2.1 dX9_pictureOf_89 rfl (lv_at hl 6 rfl) ?_
                refine h_iconst F dX9_pictureOf_90 ?_
                refine cl_RX9_95 (As := [.int (iI k), .int (iI 4)]) (rest := [.int (iI (cellS σ (capCol σ k (cp σ k 2 + 4 * j + ov)) (((cp σ k 3) + 4) - d)))]) F hl (c_X9_cap l X w mo v σ k 4 hM hs hwf (by omega)) hW hS hM rfl rfl ⟨Nat.le_of_ble_eq_true rfl, Nat.le_of_ble_eq_true rfl⟩ (Nat.le_of_ble_eq_true rfl) ⟨Nat.zero_le _, Nat.zero_le _⟩ dX9_pictureOf_91 (fun w1 H locs hp8 hW hS => ?_)
                rw [hp8] at hW; clear hp8; clear w1
                refine h_icne (tgt := 101) F dX9_pictureOf_94 (by decide) (by omega) (fun c9 => ?_) (fun c9 => ?_)
                · refine h_iconst F dX9_pictureOf_101 ?_
                  refine lv_istore (lv' := [(10, .int (iI 0)), (9, .int (iI (capCol σ k (cp σ k 2 + 4 * j + ov)))), (7, .int (iI (((cp σ k 2) + (4 * j)) + ov))), (4, .int (iI (bs (picB σ k j false) (3 * d + ov)))), (6, .int (iI ov)), (5, .int (iI d)), (0, .ref mo), (1, .int (iI k)), (2, .int (iI j)), (3, .int (iI (bz false)))]) F.1 F.2.1 dX9_pictureOf_102 hl (by decide) rfl (fun ls hl => ?_)
                  refine h_iconst F dX9_pictureOf_104 ?_
                  refine lv_iload F.1 F.2.1 dX9_pictureOf_105 (lv_at hl 3 rfl) ?_
                  refine h_imul (a := 2) (b := bs (picB σ k j false) (3 * d + ov)) F dX9_pictureOf_107 ?_
                  refine lv_iload F.1 F.2.1 dX9_pictureOf_108 (lv_at hl 0 rfl) ?_
                  refine h_ifeq (tgt := 117) F dX9_pictureOf_110 (by decide) (by decide) (fun _ => ?_) (fun c9 => absurd c9 (by decide))
                  refine h_iconst F dX9_pictureOf_117 ?_
                  refine h_iadd (a := 2 * (bs (picB σ k j false) (3 * d + ov))) (b := 0) F dX9_pictureOf_118 ?_
                  refine lv_istore (lv' := [(4, .int (iI ((2 * (bs (picB σ k j false) (3 * d + ov))) + 0))), (10, .int (iI 0)), (9, .int (iI (capCol σ k (cp σ k 2 + 4 * j + ov)))), (7, .int (iI (((cp σ k 2) + (4 * j)) + ov))), (6, .int (iI ov)), (5, .int (iI d)), (0, .ref mo), (1, .int (iI k)), (2, .int (iI j)), (3, .int (iI (bz false)))]) F.1 F.2.1 dX9_pictureOf_119 hl (by decide) rfl (fun ls hl => ?_)
                  refine h_iinc (k := 4) (a := ov) (lv' := [(6, .int (iI (ov + 1))), (4, .int (iI ((2 * (bs (picB σ k j false) (3 * d + ov))) + 0))), (10, .int (iI 0)), (9, .int (iI (capCol σ k (cp σ k 2 + 4 * j + ov)))), (7, .int (iI (((cp σ k 2) + (4 * j)) + ov))), (5, .int (iI d)), (0, .ref mo), (1, .int (iI k)), (2, .int (iI j)), (3, .int (iI (bz false)))]) F dX9_pictureOf_121 hl rfl (by decide) rfl (fun ls hl => ?_)
                  refine h_goto (tgt := 15) F dX9_pictureOf_124 (by decide) ?_
                  have eq11 : (bs (picB σ k j false) (3 * d + (ov + 1)) : Int) = (2 * (bs (picB σ k j false) (3 * d + ov))) + 0 := by rw [show 3 * d + (ov + 1) = 3 * d + ov + 1 by omega, bs_s _ (by omega)]; have hb : picB σ k j false (3 * d + ov) = decide (cellS σ (capCol σ k (cp σ k 2 + 4 * j + ov)) (cp σ k 3 + 4 - d) = cp σ k 4) := (by unfold picB; rw [show (3 * d + ov) % 3 = ov by omega, show cp σ k 3 + (4 - (3 * d + ov) / 3) = cp σ k 3 + 4 - d by omega]; rfl); first | (rw [hb, decide_eq_true (by assumption)]; rfl) | (rw [hb, decide_eq_false (by assumption)]; rfl)
                  have eq12 : ((ov + 1) : Int) = ov + 1 := by first | rfl | omega | simp
                  exact ih15 (ov + 1)  (by omega) (by omega)   _ _ ls hW hS (by rw [eq11, eq12]; exact lv_sub hl [1, 0, 5, 6, 7, 8, 9] rfl)
                · refine h_iconst F dX9_pictureOf_97 ?_
                  refine h_goto (tgt := 102) F dX9_pictureOf_98 (by decide) ?_
                  refine lv_istore (lv' := [(10, .int (iI 1)), (9, .int (iI (capCol σ k (cp σ k 2 + 4 * j + ov)))), (7, .int (iI (((cp σ k 2) + (4 * j)) + ov))), (4, .int (iI (bs (picB σ k j false) (3 * d + ov)))), (6, .int (iI ov)), (5, .int (iI d)), (0, .ref mo), (1, .int (iI k)), (2, .int (iI j)), (3, .int (iI (bz false)))]) F.1 F.2.1 dX9_pictureOf_102 hl (by decide) rfl (fun ls hl => ?_)
                  refine h_iconst F dX9_pictureOf_104 ?_
                  refine lv_iload F.1 F.2.1 dX9_pictureOf_105 (lv_at hl 3 rfl) ?_
                  refine h_imul (a := 2) (b := bs (picB σ k j false) (3 * d + ov)) F dX9_pictureOf_107 ?_
                  refine lv_iload F.1 F.2.1 dX9_pictureOf_108 (lv_at hl 0 rfl) ?_
                  refine h_ifeq (tgt := 117) F dX9_pictureOf_110 (by decide) (by decide) (fun c9 => absurd c9 (by decide)) (fun _ => ?_)
                  refine h_iconst F dX9_pictureOf_113 ?_
                  refine h_goto (tgt := 118) F dX9_pictureOf_114 (by decide) ?_
                  refine h_iadd (a := 2 * (bs (picB σ k j false) (3 * d + ov))) (b := 1) F dX9_pictureOf_118 ?_
                  refine lv_istore (lv' := [(4, .int (iI ((2 * (bs (picB σ k j false) (3 * d + ov))) + 1))), (10, .int (iI 1)), (9, .int (iI (capCol σ k (cp σ k 2 + 4 * j + ov)))), (7, .int (iI (((cp σ k 2) + (4 * j)) + ov))), (6, .int (iI ov)), (5, .int (iI d)), (0, .ref mo), (1, .int (iI k)), (2, .int (iI j)), (3, .int (iI (bz false)))]) F.1 F.2.1 dX9_pictureOf_119 hl (by decide) rfl (fun ls hl => ?_)
                  refine h_iinc (k := 4) (a := ov) (lv' := [(6, .int (iI (ov + 1))), (4, .int (iI ((2 * (bs (picB σ k j false) (3 * d + ov))) + 1))), (10, .int (iI 1)), (9, .int (iI (capCol σ k (cp σ k 2 + 4 * j + ov)))), (7, .int (iI (((cp σ k 2) + (4 * j)) + ov))), (5, .int (iI d)), (0, .ref mo), (1, .int (iI k)), (2, .int (iI j)), (3, .int (iI (bz false)))]) F dX9_pictureOf_121 hl rfl (by decide) rfl (fun ls hl => ?_)
                  refine h_goto (tgt := 15) F dX9_pictureOf_124 (by decide) ?_
                  have eq14 : (bs (picB σ k j false) (3 * d + (ov + 1)) : Int) = (2 * (bs (picB σ k j false) (3 * d + ov))) + 1 := by rw [show 3 * d + (ov + 1) = 3 * d + ov + 1 by omega, bs_s _ (by omega)]; have hb : picB σ k j false (3 * d + ov) = decide (cellS σ (capCol σ k (cp σ k 2 + 4 * j + ov)) (cp σ k 3 + 4 - d) = cp σ k 4) := (by unfold picB; rw [show (3 * d + ov) % 3 = ov by omega, show cp σ k 3 + (4 - (3 * d + ov) / 3) = cp σ k 3 + 4 - d by omega]; rfl); first | (rw [hb, decide_eq_true (by assumption)]; rfl) | (rw [hb, decide_eq_false (by assumption)]; rfl)
                  have eq15 : ((ov + 1) : Int) = ov + 1 := by first | rfl | omega | simp
                  exact ih15 (ov + 1)  (by omega) (by omega)   _ _ ls hW hS (by rw [eq14, eq15]; exact lv_sub hl [1, 0, 5, 6, 7, 8, 9] rfl)
              refine lv_aload_n F.1 F.2.1 dX9_pictureOf_36 rfl (lv_at hl 4 rfl) ?_
              refine lv_iload_n F.1 F.2.1 dX9_pictureOf_37 rfl (lv_at hl 5 rfl) ?_
              refine h_iconst F dX9_pictureOf_38 ?_
              refine cl_RX9_95 (As := [.int (iI k), .int (iI 1)]) (rest := []) F hl (c_X9_cap l X w mo v σ k 1 hM hs hwf (by omega)) hW hS hM rfl rfl ⟨Nat.le_of_ble_eq_true rfl, Nat.le_of_ble_eq_true rfl⟩ (Nat.le_of_ble_eq_true rfl) ⟨Nat.zero_le _, Nat.zero_le _⟩ dX9_pictureOf_39 (fun w1 H locs hp16 hW hS => ?_)
              rw [hp16] at hW; clear hp16; clear w1
              refine h_ifne (tgt := 49) F dX9_pictureOf_42 (by decide) (by omega) (fun c17 => ?_) (fun c17 => ?_)
              · refine h_iconst F dX9_pictureOf_49 ?_
                refine lv_istore (lv' := [(8, .int (iI 0)), (7, .int (iI (((cp σ k 2) + (4 * j)) + ov))), (4, .int (iI (bs (picB σ k j false) (3 * d + ov)))), (6, .int (iI ov)), (5, .int (iI d)), (0, .ref mo), (1, .int (iI k)), (2, .int (iI j)), (3, .int (iI (bz false)))]) F.1 F.2.1 dX9_pictureOf_50 hl (by decide) rfl (fun ls hl => ?_)
                refine lv_iload F.1 F.2.1 dX9_pictureOf_52 (lv_at hl 0 rfl) ?_
                refine lv_iload_n F.1 F.2.1 dX9_pictureOf_54 rfl (lv_at hl 8 rfl) ?_
                refine h_top (show (bz false : Int) = 0 from rfl) ?_
                refine h_icne (tgt := 67) F dX9_pictureOf_55 (by decide) (by decide) (fun c9 => absurd c9 (by decide)) (fun _ => ?_)
                refine lv_aload_n F.1 F.2.1 dX9_pictureOf_58 rfl (lv_at hl 5 rfl) ?_
                refine lv_iload F.1 F.2.1 dX9_pictureOf_59 (lv_at hl 1 rfl) ?_
                refine cl_RX9_102 (As := [.int (iI (((cp σ k 2) + (4 * j)) + ov))]) (rest := []) F hl (c_X9_turned l X w mo v σ (((cp σ k 2) + (4 * j)) + ov) hM hs hwf) hW hS hM rfl rfl ⟨Nat.le_of_ble_eq_true rfl, Nat.le_of_ble_eq_true rfl⟩ (Nat.le_of_ble_eq_true rfl) ⟨Nat.zero_le _, Nat.zero_le _⟩ dX9_pictureOf_61 (fun w1 H locs hp19 hW hS => ?_)
                rw [hp19] at hW; clear hp19; clear w1
                refine h_goto (tgt := 69) F dX9_pictureOf_64 (by decide) ?_
                refine h_top (show (turnS σ (((cp σ k 2) + (4 * j)) + ov) : Int) = capCol σ k (cp σ k 2 + 4 * j + ov) from by first | (unfold capCol; split <;> first | rfl | omega) | (congr 1; unfold capCol; split <;> first | rfl | omega) | (unfold capCol turnS; split <;> omega)) ?_
                exact join69  _ _ ls  hW hS (lv_sub hl [1, 2, 3, 4, 5, 6, 7, 8] rfl)
              · refine h_iconst F dX9_pictureOf_45 ?_
                refine h_goto (tgt := 50) F dX9_pictureOf_46 (by decide) ?_
                refine lv_istore (lv' := [(8, .int (iI 1)), (7, .int (iI (((cp σ k 2) + (4 * j)) + ov))), (4, .int (iI (bs (picB σ k j false) (3 * d + ov)))), (6, .int (iI ov)), (5, .int (iI d)), (0, .ref mo), (1, .int (iI k)), (2, .int (iI j)), (3, .int (iI (bz false)))]) F.1 F.2.1 dX9_pictureOf_50 hl (by decide) rfl (fun ls hl => ?_)
                refine lv_iload F.1 F.2.1 dX9_pictureOf_52 (lv_at hl 0 rfl) ?_
                refine lv_iload_n F.1 F.2.1 dX9_pictureOf_54 rfl (lv_at hl 8 rfl) ?_
                refine h_top (show (bz false : Int) = 0 from rfl) ?_
                refine h_icne (tgt := 67) F dX9_pictureOf_55 (by decide) (by decide) (fun _ => ?_) (fun c9 => absurd c9 (by decide))
                refine lv_iload F.1 F.2.1 dX9_pictureOf_67 (lv_at hl 1 rfl) ?_
                refine h_top (show (((cp σ k 2) + (4 * j)) + ov : Int) = capCol σ k (cp σ k 2 + 4 * j + ov) from by first | (unfold capCol; split <;> first | rfl | omega) | (congr 1; unfold capCol; split <;> first | rfl | omega) | (unfold capCol turnS; split <;> omega)) ?_
                exact join69  _ _ ls  hW hS (lv_sub hl [1, 2, 3, 4, 5, 6, 7, 8] rfl)
        have eq21 : (bs (picB σ k j false) (3 * d + 0) : Int) = bs (picB σ k j false) (3 * d) := by rw [Int.add_zero]
        exact loop15 ((3 - 0) + 1 : Int).toNat 0  (by omega) (by omega)   _ _ ls hW hS (by rw [eq21]; exact lv_sub hl [1, 0, 2, 3, 4, 5, 6] rfl)
  have eq22 : (bs (picB σ k j false) (3 * 0) : Int) = 0 := rfl
  exact loop6 ((5 - 0) + 1 : Int).toNat 0  (by omega) (by omega)   _ _ ls hW hS (by rw [eq22]; exact lv_sub hl [1, 0, 2, 3, 4, 5] rfl)
set_option maxHeartbeats 4000000 in
set_option maxRecDepth 100000 in
theorem c_pic_t (l : Launch) (X : Cx) (w : Wo) (mo : Nat) (v σ : Int → Int) (k j : Int) (hM : w mo = some (.inr (9, mL mo v))) (hs : w (mo + 1) = some (aZ X 1317 σ)) (hwf : WF σ) (hk : 0 ≤ k ∧ k < σ 5) (hj : 0 ≤ j ∧ j < cp σ k 0) (hlg : legS σ k = true) : CM l X yX9_pictureOf cX9_pictureOf 11 (some (.int)) (rmk 2 43) [.ref mo, .int (iI k), .int (iI j), .int (iI (bz true))] w (some (.int (iI (picS σ k j true)))) (fun w' => w' = w) := by
  refine CM.of (lv := [(0, .ref mo), (1, .int (iI k)), (2, .int (iI j)), (3, .int (iI (bz true)))]) (by decide) (Nat.le_of_ble_eq_true rfl) rfl (fun p e s m below meth c ls F hr hlk hin hW hS hl => ?_)
  have hZ0 := hW.2.2
  have hB9 := hW.1.2
  clear hin
  have hF := hwf.1
  unfold WF0 at hF
  obtain ⟨m1, m2, m3, m4, m5, m6⟩ := hwf.2.2.1 k (by omega) (by omega)
  unfold legS at hlg
  have hlg2 := of_decide_eq_true hlg
  refine h_iconst F dX9_pictureOf_0 ?_
  refine lv_istore (lv' := [(4, .int (iI 0)), (0, .ref mo), (1, .int (iI k)), (2, .int (iI j)), (3, .int (iI (bz true)))]) F.1 F.2.1 dX9_pictureOf_1 hl (by decide) rfl (fun ls hl => ?_)
  refine h_iconst F dX9_pictureOf_3 ?_
  refine lv_istore (lv' := [(5, .int (iI 0)), (4, .int (iI 0)), (0, .ref mo), (1, .int (iI k)), (2, .int (iI j)), (3, .int (iI (bz true)))]) F.1 F.2.1 dX9_pictureOf_4 hl (by decide) rfl (fun ls hl => ?_)
  have loop6 : ∀ (n9 : Nat) (d : Int), (hrg : 0 ≤ d ∧ d ≤ 5) → (hms : 5 - d < (n9 : Int)) → (H : Heap) → (locs : List Loc) → (ls : Array Slot) → Wd X w s H → va_S (cxA X) s.heap H locs → lv_has ls 11 [(4, .int (iI (bs (picB σ k j true) (3 * d)))), (5, .int (iI d)), (0, .ref mo), (1, .int (iI k)), (2, .int (iI j)), (3, .int (iI (bz true)))] → W p l e (rmk 2 43) s m (List.toArray [.ref mo, .int (iI k), .int (iI j), .int (iI (bz true))]) below meth c H locs 0 0 (MX X below (List.toArray [.ref mo, .int (iI k), .int (iI j), .int (iI (bz true))]) s 0 0 (some (.int (iI (picS σ k j true)))) (fun w' => w' = w)) (F0 m 6 ls []) := by
    intro n9
    induction n9 with
    | zero => intro d  hrg hms; exfalso; omega
    | succ n9 ih6 =>
      intro d  hrg hms   H locs ls hW hS hl
      refine lv_iload F.1 F.2.1 dX9_pictureOf_6 (lv_at hl 1 rfl) ?_
      refine h_iconst F dX9_pictureOf_8 ?_
      refine h_icge (tgt := 133) F dX9_pictureOf_9 (by decide) (by omega) (fun c1 => ?_) (fun c1 => ?_)
      · refine lv_iload F.1 F.2.1 dX9_pictureOf_133 (lv_at hl 0 rfl) ?_
        refine h_top (show (bs (picB σ k j true) (3 * d) : Int) = picS σ k j true from by rw [show d = 5 by omega]; rfl) ?_
        exact h_ireti F hr hlk hW hS rfl dX9_pictureOf_135
      · refine h_iconst F dX9_pictureOf_12 ?_
        refine lv_istore (lv' := [(6, .int (iI 0)), (4, .int (iI (bs (picB σ k j true) (3 * d)))), (5, .int (iI d)), (0, .ref mo), (1, .int (iI k)), (2, .int (iI j)), (3, .int (iI (bz true)))]) F.1 F.2.1 dX9_pictureOf_13 hl (by decide) rfl (fun ls hl => ?_)
        have loop15 : ∀ (n9 : Nat) (ov : Int), (hrg : 0 ≤ ov ∧ ov ≤ 3) → (hms : 3 - ov < (n9 : Int)) → (H : Heap) → (locs : List Loc) → (ls : Array Slot) → Wd X w s H → va_S (cxA X) s.heap H locs → lv_has ls 11 [(4, .int (iI (bs (picB σ k j true) (3 * d + ov)))), (6, .int (iI ov)), (5, .int (iI d)), (0, .ref mo), (1, .int (iI k)), (2, .int (iI j)), (3, .int (iI (bz true)))] → W p l e (rmk 2 43) s m (List.toArray [.ref mo, .int (iI k), .int (iI j), .int (iI (bz true))]) below meth c H locs 0 0 (MX X below (List.toArray [.ref mo, .int (iI k), .int (iI j), .int (iI (bz true))]) s 0 0 (some (.int (iI (picS σ k j true)))) (fun w' => w' = w)) (F0 m 15 ls []) := by
          intro n9
          induction n9 with
          | zero => intro ov  hrg hms; exfalso; omega
          | succ n9 ih15 =>
            intro ov  hrg hms   H locs ls hW hS hl
            refine lv_iload F.1 F.2.1 dX9_pictureOf_15 (lv_at hl 1 rfl) ?_
            refine h_iconst F dX9_pictureOf_17 ?_
            refine h_icge (tgt := 127) F dX9_pictureOf_18 (by decide) (by omega) (fun c2 => ?_) (fun c2 => ?_)
            · refine h_iinc (k := 2) (a := d) (lv' := [(5, .int (iI (d + 1))), (4, .int (iI (bs (picB σ k j true) (3 * d + ov)))), (6, .int (iI ov)), (0, .ref mo), (1, .int (iI k)), (2, .int (iI j)), (3, .int (iI (bz true)))]) F dX9_pictureOf_127 hl rfl (by decide) rfl (fun ls hl => ?_)
              refine h_goto (tgt := 6) F dX9_pictureOf_130 (by decide) ?_
              have eq3 : (bs (picB σ k j true) (3 * (d + 1)) : Int) = bs (picB σ k j true) (3 * d + ov) := by rw [show 3 * (d + 1) = 3 * d + ov by omega]
              have eq4 : ((d + 1) : Int) = d + 1 := by first | rfl | omega | simp
              exact ih6 (d + 1)  (by omega) (by omega)   _ _ ls hW hS (by rw [eq3, eq4]; exact lv_sub hl [1, 0, 3, 4, 5, 6] rfl)
            · refine lv_aload_n F.1 F.2.1 dX9_pictureOf_21 rfl (lv_at hl 3 rfl) ?_
              refine lv_iload_n F.1 F.2.1 dX9_pictureOf_22 rfl (lv_at hl 4 rfl) ?_
              refine h_iconst F dX9_pictureOf_23 ?_
              refine cl_RX9_95 (As := [.int (iI k), .int (iI 2)]) (rest := []) F hl (c_X9_cap l X w mo v σ k 2 hM hs hwf (by omega)) hW hS hM rfl rfl ⟨Nat.le_of_ble_eq_true rfl, Nat.le_of_ble_eq_true rfl⟩ (Nat.le_of_ble_eq_true rfl) ⟨Nat.zero_le _, Nat.zero_le _⟩ dX9_pictureOf_24 (fun w1 H locs hp5 hW hS => ?_)
              rw [hp5] at hW; clear hp5; clear w1
              refine h_iconst F dX9_pictureOf_27 ?_
              refine lv_iload_n F.1 F.2.1 dX9_pictureOf_28 rfl (lv_at hl 5 rfl) ?_
              refine h_imul (a := 4) (b := j) F dX9_pictureOf_29 ?_
              refine h_iadd (a := cp σ k 2) (b := 4 * j) F dX9_pictureOf_30 ?_
              refine lv_iload F.1 F.2.1 dX9_pictureOf_31 (lv_at hl 1 rfl) ?_
              refine h_iadd (a := (cp σ k 2) + (4 * j)) (b := ov) F dX9_pictureOf_33 ?_
              refine lv_istore (lv' := [(7, .int (iI (((cp σ k 2) + (4 * j)) + ov))), (4, .int (iI (bs (picB σ k j true) (3 * d + ov)))), (6, .int (iI ov)), (5, .int (iI d)), (0, .ref mo), (1, .int (iI k)), (2, .int (iI j)), (3, .int (iI (bz true)))]) F.1 F.2.1 dX9_pictureOf_34 hl (by decide) rfl (fun ls hl => ?_)
              have join69 : ∀ (H : Heap) (locs : List Loc) (ls : Array Slot), Wd X w s H → va_S (cxA X) s.heap H locs → lv_has ls 11 [(7, .int (iI (((cp σ k 2) + (4 * j)) + ov))), (4, .int (iI (bs (picB σ k j true) (3 * d + ov)))), (6, .int (iI ov)), (5, .int (iI d)), (0, .ref mo), (1, .int (iI k)), (2, .int (iI j)), (3, .int (iI (bz true)))] → W p l e (rmk 2 43) s m (List.toArray [.ref mo, .int (iI k), .int (iI j), .int (iI (bz true))]) below meth c H locs 0 0 (MX X below (List.toArray [.ref mo, .int (iI k), .int (iI j), .int (iI (bz true))]) s 0 0 (some (.int (iI (picS σ k j true)))) (fun w' => w' = w)) (F0 m 69 ls [.int (iI (turnS σ (capCol σ k (cp σ k 2 + 4 * j + ov))))]) := by
                intro  H locs ls  hW hS hl
                refine lv_istore (lv' := [(9, .int (iI (turnS σ (capCol σ k (cp σ k 2 + 4 * j + ov))))), (7, .int (iI (((cp σ k 2) + (4 * j)) + ov))), (4, .int (iI (bs (picB σ k j true) (3 * d + ov)))), (6, .int (iI ov)), (5, .int (iI d)), (0, .ref mo), (1, .int (iI k)), (2, .int (iI j)), (3, .int (iI (bz true)))]) F.1 F.2.1 dX9_pictureOf_69 hl (by decide) rfl (fun ls hl => ?_)
                have hcc := capCol_r (j := j) (o := ov) hwf (hwf.2.2.1 k (by omega) (by omega)) (by omega) (by omega)
                have htt : 0 ≤ turnS σ (capCol σ k (cp σ k 2 + 4 * j + ov)) ∧ turnS σ (capCol σ k (cp σ k 2 + 4 * j + ov)) < σ 0 := by unfold turnS; omega
                refine lv_aload_n F.1 F.2.1 dX9_pictureOf_71 rfl (lv_at hl 5 rfl) ?_
                refine lv_iload F.1 F.2.1 dX9_pictureOf_72 (lv_at hl 0 rfl) ?_
                refine lv_aload_n F.1 F.2.1 dX9_pictureOf_74 rfl (lv_at hl 5 rfl) ?_
                refine lv_iload_n F.1 F.2.1 dX9_pictureOf_75 rfl (lv_at hl 6 rfl) ?_
                refine h_iconst F dX9_pictureOf_76 ?_
                refine cl_RX9_95 (As := [.int (iI k), .int (iI 3)]) (rest := [.int (iI (turnS σ (capCol σ k (cp σ k 2 + 4 * j + ov)))), .ref mo]) F hl (c_X9_cap l X w mo v σ k 3 hM hs hwf (by omega)) hW hS hM rfl rfl ⟨Nat.le_of_ble_eq_true rfl, Nat.le_of_ble_eq_true rfl⟩ (Nat.le_of_ble_eq_true rfl) ⟨Nat.zero_le _, Nat.zero_le _⟩ dX9_pictureOf_77 (fun w1 H locs hp6 hW hS => ?_)
                rw [hp6] at hW; clear hp6; clear w1
                refine h_iconst F dX9_pictureOf_80 ?_
                refine h_iadd (a := cp σ k 3) (b := 4) F dX9_pictureOf_81 ?_
                refine lv_iload F.1 F.2.1 dX9_pictureOf_82 (lv_at hl 4 rfl) ?_
                refine h_isub (a := (cp σ k 3) + 4) (b := d) F dX9_pictureOf_84 ?_
                have hce := hwf.2.2.2.1 (turnS σ (capCol σ k (cp σ k 2 + 4 * j + ov))) (cp σ k 3 + 4 - d) (by omega) (by omega) (by omega) (by omega)
                refine cl_RX9_113 (As := [.int (iI (turnS σ (capCol σ k (cp σ k 2 + 4 * j + ov)))), .int (iI (((cp σ k 3) + 4) - d))]) (rest := []) F hl (c_X9_colourAt l X w mo v σ (turnS σ (capCol σ k (cp σ k 2 + 4 * j + ov))) (((cp σ k 3) + 4) - d) hM hs hwf (by omega)) hW hS hM rfl rfl ⟨Nat.le_of_ble_eq_true rfl, Nat.le_of_ble_eq_true rfl⟩ (Nat.le_of_ble_eq_true rfl) ⟨Nat.zero_le _, Nat.zero_le _⟩ dX9_pictureOf_85 (fun w1 H locs hp7 hW hS => ?_)
                rw [hp7] at hW; clear hp7; clear w1
                refine lv_aload_n F.1 F.2.1 dX9_pictureOf_88 rfl (lv_at hl 5 rfl) ?_
                refine lv_iload_n F.1 F.2.1 dX9_pictureOf_89 rfl (lv_at hl 6 rfl) ?_
                refine h_iconst F dX9_pictureOf_90 ?_
                refine cl_RX9_95 (As := [.int (iI k), .int (iI 4)]) (rest := [.int (iI (cellS σ (turnS σ (capCol σ k (cp σ k 2 + 4 * j + ov))) (((cp σ k 3) + 4) - d)))]) F hl (c_X9_cap l X w mo v σ k 4 hM hs hwf (by omega)) hW hS hM rfl rfl ⟨Nat.le_of_ble_eq_true rfl, Nat.le_of_ble_eq_true rfl⟩ (Nat.le_of_ble_eq_true rfl) ⟨Nat.zero_le _, Nat.zero_le _⟩ dX9_pictureOf_91 (fun w1 H locs hp8 hW hS => ?_)
                rw [hp8] at hW; clear hp8; clear w1
                refine h_icne (tgt := 101) F dX9_pictureOf_94 (by decide) (by omega) (fun c9 => ?_) (fun c9 => ?_)
                · refine h_iconst F dX9_pictureOf_101 ?_
                  refine lv_istore (lv' := [(10, .int (iI 0)), (9, .int (iI (turnS σ (capCol σ k (cp σ k 2 + 4 * j + ov))))), (7, .int (iI (((cp σ k 2) + (4 * j)) + ov))), (4, .int (iI (bs (picB σ k j true) (3 * d + ov)))), (6, .int (iI ov)), (5, .int (iI d)), (0, .ref mo), (1, .int (iI k)), (2, .int (iI j)), (3, .int (iI (bz true)))]) F.1 F.2.1 dX9_pictureOf_102 hl (by decide) rfl (fun ls hl => ?_)
                  refine h_iconst F dX9_pictureOf_104 ?_
                  refine lv_iload F.1 F.2.1 dX9_pictureOf_105 (lv_at hl 3 rfl) ?_
                  refine h_imul (a := 2) (b := bs (picB σ k j true) (3 * d + ov)) F dX9_pictureOf_107 ?_
                  refine lv_iload F.1 F.2.1 dX9_pictureOf_108 (lv_at hl 0 rfl) ?_
                  refine h_ifeq (tgt := 117) F dX9_pictureOf_110 (by decide) (by decide) (fun _ => ?_) (fun c9 => absurd c9 (by decide))
                  refine h_iconst F dX9_pictureOf_117 ?_
                  refine h_iadd (a := 2 * (bs (picB σ k j true) (3 * d + ov))) (b := 0) F dX9_pictureOf_118 ?_
                  refine lv_istore (lv' := [(4, .int (iI ((2 * (bs (picB σ k j true) (3 * d + ov))) + 0))), (10, .int (iI 0)), (9, .int (iI (turnS σ (capCol σ k (cp σ k 2 + 4 * j + ov))))), (7, .int (iI (((cp σ k 2) + (4 * j)) + ov))), (6, .int (iI ov)), (5, .int (iI d)), (0, .ref mo), (1, .int (iI k)), (2, .int (iI j)), (3, .int (iI (bz true)))]) F.1 F.2.1 dX9_pictureOf_119 hl (by decide) rfl (fun ls hl => ?_)
                  refine h_iinc (k := 4) (a := ov) (lv' := [(6, .int (iI (ov + 1))), (4, .int (iI ((2 * (bs (picB σ k j true) (3 * d + ov))) + 0))), (10, .int (iI 0)), (9, .int (iI (turnS σ (capCol σ k (cp σ k 2 + 4 * j + ov))))), (7, .int (iI (((cp σ k 2) + (4 * j)) + ov))), (5, .int (iI d)), (0, .ref mo), (1, .int (iI k)), (2, .int (iI j)), (3, .int (iI (bz true)))]) F dX9_pictureOf_121 hl rfl (by decide) rfl (fun ls hl => ?_)
                  refine h_goto (tgt := 15) F dX9_pictureOf_124 (by decide) ?_
                  have eq11 : (bs (picB σ k j true) (3 * d + (ov + 1)) : Int) = (2 * (bs (picB σ k j true) (3 * d + ov))) + 0 := by rw [show 3 * d + (ov + 1) = 3 * d + ov + 1 by omega, bs_s _ (by omega)]; have hb : picB σ k j true (3 * d + ov) = decide (cellS σ (turnS σ (capCol σ k (cp σ k 2 + 4 * j + ov))) (cp σ k 3 + 4 - d) = cp σ k 4) := (by unfold picB; rw [show (3 * d + ov) % 3 = ov by omega, show cp σ k 3 + (4 - (3 * d + ov) / 3) = cp σ k 3 + 4 - d by omega]; rfl); first | (rw [hb, decide_eq_true (by assumption)]; rfl) | (rw [hb, decide_eq_false (by assumption)]; rfl)
                  have eq12 : ((ov + 1) : Int) = ov + 1 := by first | rfl | omega | simp
                  exact ih15 (ov + 1)  (by omega) (by omega)   _ _ ls hW hS (by rw [eq11, eq12]; exact lv_sub hl [1, 0, 5, 6, 7, 8, 9] rfl)
                · refine h_iconst F dX9_pictureOf_97 ?_
                  refine h_goto (tgt := 102) F dX9_pictureOf_98 (by decide) ?_
                  refine lv_istore (lv' := [(10, .int (iI 1)), (9, .int (iI (turnS σ (capCol σ k (cp σ k 2 + 4 * j + ov))))), (7, .int (iI (((cp σ k 2) + (4 * j)) + ov))), (4, .int (iI (bs (picB σ k j true) (3 * d + ov)))), (6, .int (iI ov)), (5, .int (iI d)), (0, .ref mo), (1, .int (iI k)), (2, .int (iI j)), (3, .int (iI (bz true)))]) F.1 F.2.1 dX9_pictureOf_102 hl (by decide) rfl (fun ls hl => ?_)
                  refine h_iconst F dX9_pictureOf_104 ?_
                  refine lv_iload F.1 F.2.1 dX9_pictureOf_105 (lv_at hl 3 rfl) ?_
                  refine h_imul (a := 2) (b := bs (picB σ k j true) (3 * d + ov)) F dX9_pictureOf_107 ?_
                  refine lv_iload F.1 F.2.1 dX9_pictureOf_108 (lv_at hl 0 rfl) ?_
                  refine h_ifeq (tgt := 117) F dX9_pictureOf_110 (by decide) (by decide) (fun c9 => absurd c9 (by decide)) (fun _ => ?_)
                  refine h_iconst F dX9_pictureOf_113 ?_
                  refine h_goto (tgt := 118) F dX9_pictureOf_114 (by decide) ?_
                  refine h_iadd (a := 2 * (bs (picB σ k j true) (3 * d + ov))) (b := 1) F dX9_pictureOf_118 ?_
                  refine lv_istore (lv' := [(4, .int (iI ((2 * (bs (picB σ k j true) (3 * d + ov))) + 1))), (10, .int (iI 1)), (9, .int (iI (turnS σ (capCol σ k (cp σ k 2 + 4 * j + ov))))), (7, .int (iI (((cp σ k 2) + (4 * j)) + ov))), (6, .int (iI ov)), (5, .int (iI d)), (0, .ref mo), (1, .int (iI k)), (2, .int (iI j)), (3, .int (iI (bz true)))]) F.1 F.2.1 dX9_pictureOf_119 hl (by decide) rfl (fun ls hl => ?_)
                  refine h_iinc (k := 4) (a := ov) (lv' := [(6, .int (iI (ov + 1))), (4, .int (iI ((2 * (bs (picB σ k j true) (3 * d + ov))) + 1))), (10, .int (iI 1)), (9, .int (iI (turnS σ (capCol σ k (cp σ k 2 + 4 * j + ov))))), (7, .int (iI (((cp σ k 2) + (4 * j)) + ov))), (5, .int (iI d)), (0, .ref mo), (1, .int (iI k)), (2, .int (iI j)), (3, .int (iI (bz true)))]) F dX9_pictureOf_121 hl rfl (by decide) rfl (fun ls hl => ?_)
                  refine h_goto (tgt := 15) F dX9_pictureOf_124 (by decide) ?_
                  have eq14 : (bs (picB σ k j true) (3 * d + (ov + 1)) : Int) = (2 * (bs (picB σ k j true) (3 * d + ov))) + 1 := by rw [show 3 * d + (ov + 1) = 3 * d + ov + 1 by omega, bs_s _ (by omega)]; have hb : picB σ k j true (3 * d + ov) = decide (cellS σ (turnS σ (capCol σ k (cp σ k 2 + 4 * j + ov))) (cp σ k 3 + 4 - d) = cp σ k 4) := (by unfold picB; rw [show (3 * d + ov) % 3 = ov by omega, show cp σ k 3 + (4 - (3 * d + ov) / 3) = cp σ k 3 + 4 - d by omega]; rfl); first | (rw [hb, decide_eq_true (by assumption)]; rfl) | (rw [hb, decide_eq_false (by assumption)]; rfl)
                  have eq15 : ((ov + 1) : Int) = ov + 1 := by first | rfl | omega | simp
                  exact ih15 (ov + 1)  (by omega) (by omega)   _ _ ls hW hS (by rw [eq14, eq15]; exact lv_sub hl [1, 0, 5, 6, 7, 8, 9] rfl)
              refine lv_aload_n F.1 F.2.1 dX9_pictureOf_36 rfl (lv_at hl 4 rfl) ?_
              refine lv_iload_n F.1 F.2.1 dX9_pictureOf_37 rfl (lv_at hl 5 rfl) ?_
              refine h_iconst F dX9_pictureOf_38 ?_
              refine cl_RX9_95 (As := [.int (iI k), .int (iI 1)]) (rest := []) F hl (c_X9_cap l X w mo v σ k 1 hM hs hwf (by omega)) hW hS hM rfl rfl ⟨Nat.le_of_ble_eq_true rfl, Nat.le_of_ble_eq_true rfl⟩ (Nat.le_of_ble_eq_true rfl) ⟨Nat.zero_le _, Nat.zero_le _⟩ dX9_pictureOf_39 (fun w1 H locs hp16 hW hS => ?_)
              rw [hp16] at hW; clear hp16; clear w1
              refine h_ifne (tgt := 49) F dX9_pictureOf_42 (by decide) (by omega) (fun c17 => ?_) (fun c17 => ?_)
              · refine h_iconst F dX9_pictureOf_49 ?_
                refine lv_istore (lv' := [(8, .int (iI 0)), (7, .int (iI (((cp σ k 2) + (4 * j)) + ov))), (4, .int (iI (bs (picB σ k j true) (3 * d + ov)))), (6, .int (iI ov)), (5, .int (iI d)), (0, .ref mo), (1, .int (iI k)), (2, .int (iI j)), (3, .int (iI (bz true)))]) F.1 F.2.1 dX9_pictureOf_50 hl (by decide) rfl (fun ls hl => ?_)
                refine lv_iload F.1 F.2.1 dX9_pictureOf_52 (lv_at hl 0 rfl) ?_
                refine lv_iload_n F.1 F.2.1 dX9_pictureOf_54 rfl (lv_at hl 8 rfl) ?_
                refine h_top (show (bz true : Int) = 1 from rfl) ?_
                refine h_icne (tgt := 67) F dX9_pictureOf_55 (by decide) (by decide) (fun _ => ?_) (fun c9 => absurd c9 (by decide))
                refine lv_iload F.1 F.2.1 dX9_pictureOf_67 (lv_at hl 1 rfl) ?_
                refine h_top (show (((cp σ k 2) + (4 * j)) + ov : Int) = turnS σ (capCol σ k (cp σ k 2 + 4 * j + ov)) from by first | (unfold capCol; split <;> first | rfl | omega) | (congr 1; unfold capCol; split <;> first | rfl | omega) | (unfold capCol turnS; split <;> omega)) ?_
                exact join69  _ _ ls  hW hS (lv_sub hl [1, 2, 3, 4, 5, 6, 7, 8] rfl)
              · refine h_iconst F dX9_pictureOf_45 ?_
                refine h_goto (tgt := 50) F dX9_pictureOf_46 (by decide) ?_
                refine lv_istore (lv' := [(8, .int (iI 1)), (7, .int (iI (((cp σ k 2) + (4 * j)) + ov))), (4, .int (iI (bs (picB σ k j true) (3 * d + ov)))), (6, .int (iI ov)), (5, .int (iI d)), (0, .ref mo), (1, .int (iI k)), (2, .int (iI j)), (3, .int (iI (bz true)))]) F.1 F.2.1 dX9_pictureOf_50 hl (by decide) rfl (fun ls hl => ?_)
                refine lv_iload F.1 F.2.1 dX9_pictureOf_52 (lv_at hl 0 rfl) ?_
                refine lv_iload_n F.1 F.2.1 dX9_pictureOf_54 rfl (lv_at hl 8 rfl) ?_
                refine h_top (show (bz true : Int) = 1 from rfl) ?_
                refine h_icne (tgt := 67) F dX9_pictureOf_55 (by decide) (by decide) (fun c9 => absurd c9 (by decide)) (fun _ => ?_)
                refine lv_aload_n F.1 F.2.1 dX9_pictureOf_58 rfl (lv_at hl 5 rfl) ?_
                refine lv_iload F.1 F.2.1 dX9_pictureOf_59 (lv_at hl 1 rfl) ?_
                refine cl_RX9_102 (As := [.int (iI (((cp σ k 2) + (4 * j)) + ov))]) (rest := []) F hl (c_X9_turned l X w mo v σ (((cp σ k 2) + (4 * j)) + ov) hM hs hwf) hW hS hM rfl rfl ⟨Nat.le_of_ble_eq_true rfl, Nat.le_of_ble_eq_true rfl⟩ (Nat.le_of_ble_eq_true rfl) ⟨Nat.zero_le _, Nat.zero_le _⟩ dX9_pictureOf_61 (fun w1 H locs hp20 hW hS => ?_)
                rw [hp20] at hW; clear hp20; clear w1
                refine h_goto (tgt := 69) F dX9_pictureOf_64 (by decide) ?_
                refine h_top (show (turnS σ (((cp σ k 2) + (4 * j)) + ov) : Int) = turnS σ (capCol σ k (cp σ k 2 + 4 * j + ov)) from by first | (unfold capCol; split <;> first | rfl | omega) | (congr 1; unfold capCol; split <;> first | rfl | omega) | (unfold capCol turnS; split <;> omega)) ?_
                exact join69  _ _ ls  hW hS (lv_sub hl [1, 2, 3, 4, 5, 6, 7, 8] rfl)
        have eq21 : (bs (picB σ k j true) (3 * d + 0) : Int) = bs (picB σ k j true) (3 * d) := by rw [Int.add_zero]
        exact loop15 ((3 - 0) + 1 : Int).toNat 0  (by omega) (by omega)   _ _ ls hW hS (by rw [eq21]; exact lv_sub hl [1, 0, 2, 3, 4, 5, 6] rfl)
  have eq22 : (bs (picB σ k j true) (3 * 0) : Int) = 0 := rfl
  exact loop6 ((5 - 0) + 1 : Int).toNat 0  (by omega) (by omega)   _ _ ls hW hS (by rw [eq22]; exact lv_sub hl [1, 0, 2, 3, 4, 5] rfl)
set_option maxHeartbeats 4000000 in
set_option maxRecDepth 100000 in
theorem c_X9_letterOf (l : Launch) (X : Cx) (w : Wo) (x : Int) (hx : -2147483648 ≤ x ∧ x < 2147483648) : CM l X yX9_letterOf cX9_letterOf 2 (some (.int)) (rmk 0 0) [.int (iI x)] w (some (.int (iI (ltrS x)))) (fun w' => w' = w) := by
  refine CM.of (lv := [(0, .int (iI x))]) (by decide) (Nat.le_of_ble_eq_true rfl) rfl (fun p e s m below meth c ls F hr hlk hin hW hS hl => ?_)
  have hZ0 := hW.2.2
  have hB9 := hW.1.2
  clear hin
  refine h_iconst F dX9_letterOf_0 ?_
  refine lv_istore_n (lv' := [(1, .int (iI 0)), (0, .int (iI x))]) F.1 F.2.1 dX9_letterOf_1 rfl hl (by decide) rfl (fun ls hl => ?_)
  have loop2 : ∀ (n9 : Nat) (i : Int), (hrg : 0 ≤ i ∧ i ≤ 26) → (hms : 26 - i < (n9 : Int)) → (hno : ∀ j, 0 ≤ j → j < i → decide (gl j = x) = false) → (H : Heap) → (locs : List Loc) → (ls : Array Slot) → Wd X w s H → va_S (cxA X) s.heap H locs → lv_has ls 2 [(1, .int (iI i)), (0, .int (iI x))] → W p l e (rmk 0 0) s m (List.toArray [.int (iI x)]) below meth c H locs 0 0 (MX X below (List.toArray [.int (iI x)]) s 0 0 (some (.int (iI (ltrS x)))) (fun w' => w' = w)) (F0 m 2 ls []) := by
    intro n9
    induction n9 with
    | zero => intro i  hrg hms; exfalso; omega
    | succ n9 ih2 =>
      intro i  hrg hms  hno H locs ls hW hS hl
      refine lv_iload_n F.1 F.2.1 dX9_letterOf_2 rfl (lv_at hl 0 rfl) ?_
      refine h_bipush F dX9_letterOf_3 rfl ?_
      refine h_icge (tgt := 27) F dX9_letterOf_5 (by decide) (by omega) (fun c1 => ?_) (fun c1 => ?_)
      · refine h_iconst F dX9_letterOf_27 ?_
        refine h_top (show (0 : Int) = ltrS x from by unfold ltrS; rw [fi_none (by decide) (fun j h1 h2 => hno j h1 (by omega))]; rfl) ?_
        exact h_ireti F hr hlk hW hS rfl dX9_letterOf_28
      · refine h_gl9 F hZ0 hS kf_RX9_92 dX9_letterOf_8 ?_
        refine lv_iload_n F.1 F.2.1 dX9_letterOf_11 rfl (lv_at hl 0 rfl) ?_
        refine h_gli9 F hZ0 hS (by omega) dX9_letterOf_12 ?_
        refine lv_iload_n F.1 F.2.1 dX9_letterOf_13 rfl (lv_at hl 1 rfl) ?_
        refine h_icne (tgt := 21) F dX9_letterOf_14 (by decide) (by have := gl_r i; omega) (fun c2 => ?_) (fun c2 => ?_)
        · refine h_iinc (k := 0) (a := i) (lv' := [(1, .int (iI (i + 1))), (0, .int (iI x))]) F dX9_letterOf_21 hl rfl (by decide) rfl (fun ls hl => ?_)
          refine h_goto (tgt := 2) F dX9_letterOf_24 (by decide) ?_
          have eq3 : ((i + 1) : Int) = i + 1 := by first | rfl | omega | simp
          exact ih2 (i + 1)  (by omega) (by omega)  (fun j h1 h2 => (by by_cases hj : j = i; (rw [hj]; exact decide_eq_false (by omega)); exact hno j h1 (by omega))) _ _ ls hW hS (by rw [eq3]; exact lv_sub hl [0, 1] rfl)
        · refine lv_iload_n F.1 F.2.1 dX9_letterOf_17 rfl (lv_at hl 0 rfl) ?_
          refine h_iconst F dX9_letterOf_18 ?_
          refine h_iadd (a := i) (b := 1) F dX9_letterOf_19 ?_
          refine h_top (show (i + 1 : Int) = ltrS x from by unfold ltrS; rw [fi_hit (i := i) (by omega) (by omega) hno (decide_eq_true (by omega))]; rw [if_pos (by omega)]) ?_
          exact h_ireti F hr hlk hW hS rfl dX9_letterOf_20
  exact loop2 ((26 - 0) + 1 : Int).toNat 0  (by omega) (by omega)  (fun j h1 h2 => by omega) _ _ ls hW hS (lv_sub hl [0, 1] rfl)
set_option maxHeartbeats 4000000 in
set_option maxRecDepth 100000 in
theorem c_X9_reversed (l : Launch) (X : Cx) (w : Wo) (x : Int) (hx : 0 ≤ x ∧ x < 2147483648) : CM l X yX9_reversed cX9_reversed 4 (some (.int)) (rmk 1 22) [.int (iI x)] w (some (.int (iI (revS x)))) (fun w' => w' = w) := by
  refine CM.of (lv := [(0, .int (iI x))]) (by decide) (Nat.le_of_ble_eq_true rfl) rfl (fun p e s m below meth c ls F hr hlk hin hW hS hl => ?_)
  have hZ0 := hW.2.2
  have hB9 := hW.1.2
  clear hin
  refine h_iconst F dX9_reversed_0 ?_
  refine lv_istore_n (lv' := [(1, .int (iI 0)), (0, .int (iI x))]) F.1 F.2.1 dX9_reversed_1 rfl hl (by decide) rfl (fun ls hl => ?_)
  refine h_iconst F dX9_reversed_2 ?_
  refine lv_istore_n (lv' := [(2, .int (iI 0)), (1, .int (iI 0)), (0, .int (iI x))]) F.1 F.2.1 dX9_reversed_3 rfl hl (by decide) rfl (fun ls hl => ?_)
  have loop4 : ∀ (n9 : Nat) (d : Int), (hrg : 0 ≤ d ∧ d ≤ 5) → (hms : 5 - d < (n9 : Int)) → (H : Heap) → (locs : List Loc) → (ls : Array Slot) → Wd X w s H → va_S (cxA X) s.heap H locs → lv_has ls 4 [(1, .int (iI (bs (revB x) (3 * d)))), (2, .int (iI d)), (0, .int (iI x))] → W p l e (rmk 1 22) s m (List.toArray [.int (iI x)]) below meth c H locs 0 0 (MX X below (List.toArray [.int (iI x)]) s 0 0 (some (.int (iI (revS x)))) (fun w' => w' = w)) (F0 m 4 ls []) := by
    intro n9
    induction n9 with
    | zero => intro d  hrg hms; exfalso; omega
    | succ n9 ih4 =>
      intro d  hrg hms   H locs ls hW hS hl
      refine lv_iload_n F.1 F.2.1 dX9_reversed_4 rfl (lv_at hl 1 rfl) ?_
      refine h_iconst F dX9_reversed_5 ?_
      refine h_icge (tgt := 46) F dX9_reversed_6 (by decide) (by omega) (fun c1 => ?_) (fun c1 => ?_)
      · refine lv_iload_n F.1 F.2.1 dX9_reversed_46 rfl (lv_at hl 0 rfl) ?_
        refine h_top (show (bs (revB x) (3 * d) : Int) = revS x from by rw [show d = 5 by omega]; rfl) ?_
        exact h_ireti F hr hlk hW hS rfl dX9_reversed_47
      · refine h_iconst F dX9_reversed_9 ?_
        refine lv_istore_n (lv' := [(3, .int (iI 2)), (1, .int (iI (bs (revB x) (3 * d)))), (2, .int (iI d)), (0, .int (iI x))]) F.1 F.2.1 dX9_reversed_10 rfl hl (by decide) rfl (fun ls hl => ?_)
        have loop11 : ∀ (n9 : Nat) (ov : Int), (hrg : 0 ≤ ov ∧ ov ≤ 3) → (hms : 3 - ov < (n9 : Int)) → (H : Heap) → (locs : List Loc) → (ls : Array Slot) → Wd X w s H → va_S (cxA X) s.heap H locs → lv_has ls 4 [(1, .int (iI (bs (revB x) (3 * d + ov)))), (3, .int (iI (2 - ov))), (2, .int (iI d)), (0, .int (iI x))] → W p l e (rmk 1 22) s m (List.toArray [.int (iI x)]) below meth c H locs 0 0 (MX X below (List.toArray [.int (iI x)]) s 0 0 (some (.int (iI (revS x)))) (fun w' => w' = w)) (F0 m 11 ls []) := by
          intro n9
          induction n9 with
          | zero => intro ov  hrg hms; exfalso; omega
          | succ n9 ih11 =>
            intro ov  hrg hms   H locs ls hW hS hl
            refine lv_iload_n F.1 F.2.1 dX9_reversed_11 rfl (lv_at hl 1 rfl) ?_
            refine h_iflt (tgt := 40) F dX9_reversed_12 (by decide) (by omega) (fun c2 => ?_) (fun c2 => ?_)
            · refine h_iinc (k := 2) (a := d) (lv' := [(2, .int (iI (d + 1))), (1, .int (iI (bs (revB x) (3 * d + ov)))), (3, .int (iI (2 - ov))), (0, .int (iI x))]) F dX9_reversed_40 hl rfl (by decide) rfl (fun ls hl => ?_)
              refine h_goto (tgt := 4) F dX9_reversed_43 (by decide) ?_
              have eq3 : (bs (revB x) (3 * (d + 1)) : Int) = bs (revB x) (3 * d + ov) := by rw [show 3 * (d + 1) = 3 * d + ov by omega]
              have eq4 : ((d + 1) : Int) = d + 1 := by first | rfl | omega | simp
              exact ih4 (d + 1)  (by omega) (by omega)   _ _ ls hW hS (by rw [eq3, eq4]; exact lv_sub hl [1, 0, 3] rfl)
            · refine h_iconst F dX9_reversed_15 ?_
              refine lv_iload_n F.1 F.2.1 dX9_reversed_16 rfl (lv_at hl 0 rfl) ?_
              refine h_imul (a := 2) (b := bs (revB x) (3 * d + ov)) F dX9_reversed_17 ?_
              refine lv_iload_n F.1 F.2.1 dX9_reversed_18 rfl (lv_at hl 3 rfl) ?_
              refine lv_iload_n F.1 F.2.1 dX9_reversed_19 rfl (lv_at hl 2 rfl) ?_
              refine lv_iload_n F.1 F.2.1 dX9_reversed_20 rfl (lv_at hl 1 rfl) ?_
              refine cl_RX9_98 (As := [.int (iI x), .int (iI d), .int (iI (2 - ov))]) (rest := [.int (iI (2 * (bs (revB x) (3 * d + ov))))]) F hl (c_X9_hasBit l X w x d (2 - ov) (by omega) (by omega)) hW hS rfl rfl ⟨Nat.le_of_ble_eq_true rfl, Nat.le_of_ble_eq_true rfl⟩ (Nat.le_of_ble_eq_true rfl) ⟨Nat.zero_le _, Nat.zero_le _⟩ dX9_reversed_21 (fun w1 H locs hp5 hW hS => ?_)
              rw [hp5] at hW; clear hp5; clear w1
              refine h_ifeqb (tgt := 31) F dX9_reversed_24 (by decide) (fun c6 => ?_) (fun c6 => ?_)
              · refine h_iconst F dX9_reversed_31 ?_
                refine h_iadd (a := 2 * (bs (revB x) (3 * d + ov))) (b := 0) F dX9_reversed_32 ?_
                refine lv_istore_n (lv' := [(1, .int (iI ((2 * (bs (revB x) (3 * d + ov))) + 0))), (3, .int (iI (2 - ov))), (2, .int (iI d)), (0, .int (iI x))]) F.1 F.2.1 dX9_reversed_33 rfl hl (by decide) rfl (fun ls hl => ?_)
                refine h_iinc (k := 1) (a := 2 - ov) (lv' := [(3, .int (iI ((2 - ov) + (-1)))), (1, .int (iI ((2 * (bs (revB x) (3 * d + ov))) + 0))), (2, .int (iI d)), (0, .int (iI x))]) F dX9_reversed_34 hl rfl (by decide) rfl (fun ls hl => ?_)
                refine h_goto (tgt := 11) F dX9_reversed_37 (by decide) ?_
                have eq7 : (bs (revB x) (3 * d + (ov + 1)) : Int) = (2 * (bs (revB x) (3 * d + ov))) + 0 := by rw [show 3 * d + (ov + 1) = 3 * d + ov + 1 by omega, bs_s _ (by omega)]; have hb : revB x (3 * d + ov) = hasBitS x d (2 - ov) := (by unfold revB; rw [show (3 * d + ov) / 3 = d by omega, show 2 - (3 * d + ov) % 3 = 2 - ov by omega]); rw [hb]; first | (rw [‹hasBitS x d (2 - ov) = true›]; rfl) | (rw [‹hasBitS x d (2 - ov) = false›]; rfl)
                have eq8 : (2 - (ov + 1) : Int) = (2 - ov) + (-1) := by first | rfl | omega | simp
                exact ih11 (ov + 1)  (by omega) (by omega)   _ _ ls hW hS (by rw [eq7, eq8]; exact lv_sub hl [1, 0, 2, 3] rfl)
              · refine h_iconst F dX9_reversed_27 ?_
                refine h_goto (tgt := 32) F dX9_reversed_28 (by decide) ?_
                refine h_iadd (a := 2 * (bs (revB x) (3 * d + ov))) (b := 1) F dX9_reversed_32 ?_
                refine lv_istore_n (lv' := [(1, .int (iI ((2 * (bs (revB x) (3 * d + ov))) + 1))), (3, .int (iI (2 - ov))), (2, .int (iI d)), (0, .int (iI x))]) F.1 F.2.1 dX9_reversed_33 rfl hl (by decide) rfl (fun ls hl => ?_)
                refine h_iinc (k := 1) (a := 2 - ov) (lv' := [(3, .int (iI ((2 - ov) + (-1)))), (1, .int (iI ((2 * (bs (revB x) (3 * d + ov))) + 1))), (2, .int (iI d)), (0, .int (iI x))]) F dX9_reversed_34 hl rfl (by decide) rfl (fun ls hl => ?_)
                refine h_goto (tgt := 11) F dX9_reversed_37 (by decide) ?_
                have eq9 : (bs (revB x) (3 * d + (ov + 1)) : Int) = (2 * (bs (revB x) (3 * d + ov))) + 1 := by rw [show 3 * d + (ov + 1) = 3 * d + ov + 1 by omega, bs_s _ (by omega)]; have hb : revB x (3 * d + ov) = hasBitS x d (2 - ov) := (by unfold revB; rw [show (3 * d + ov) / 3 = d by omega, show 2 - (3 * d + ov) % 3 = 2 - ov by omega]); rw [hb]; first | (rw [‹hasBitS x d (2 - ov) = true›]; rfl) | (rw [‹hasBitS x d (2 - ov) = false›]; rfl)
                have eq10 : (2 - (ov + 1) : Int) = (2 - ov) + (-1) := by first | rfl | omega | simp
                exact ih11 (ov + 1)  (by omega) (by omega)   _ _ ls hW hS (by rw [eq9, eq10]; exact lv_sub hl [1, 0, 2, 3] rfl)
        have eq11 : (bs (revB x) (3 * d + 0) : Int) = bs (revB x) (3 * d) := by rw [Int.add_zero]
        have eq12 : (2 - 0 : Int) = 2 := rfl
        exact loop11 ((3 - 0) + 1 : Int).toNat 0  (by omega) (by omega)   _ _ ls hW hS (by rw [eq11, eq12]; exact lv_sub hl [1, 0, 2, 3] rfl)
  have eq13 : (bs (revB x) (3 * 0) : Int) = 0 := rfl
  exact loop4 ((5 - 0) + 1 : Int).toNat 0  (by omega) (by omega)   _ _ ls hW hS (by rw [eq13]; exact lv_sub hl [1, 0, 2] rfl)
set_option maxHeartbeats 4000000 in
set_option maxRecDepth 100000 in
theorem c_rd_f (l : Launch) (X : Cx) (w : Wo) (mo : Nat) (v σ : Int → Int) (k j : Int) (hM : w mo = some (.inr (9, mL mo v))) (hs : w (mo + 1) = some (aZ X 1317 σ)) (hwf : WF σ) (hk : 0 ≤ k ∧ k < σ 5) (hj : 0 ≤ j ∧ j < cp σ k 0) (hlg : legS σ k = true) : CM l X yX9_readOf cX9_readOf 5 (some (.int)) (rmk 3 73) [.ref mo, .int (iI k), .int (iI j), .int (iI (bz false))] w (some (.int (iI (rdS σ k j false)))) (fun w' => w' = w) := by
  refine CM.of (lv := [(0, .ref mo), (1, .int (iI k)), (2, .int (iI j)), (3, .int (iI (bz false)))]) (by decide) (Nat.le_of_ble_eq_true rfl) rfl (fun p e s m below meth c ls F hr hlk hin hW hS hl => ?_)
  have hZ0 := hW.2.2
  have hB9 := hW.1.2
  clear hin
  have hF := hwf.1
  unfold WF0 at hF
  have hpr := picS_r σ k j false
  have hrr := revS_r (picS σ k j false)
  refine lv_aload_n F.1 F.2.1 dX9_readOf_0 rfl (lv_at hl 0 rfl) ?_
  refine lv_iload_n F.1 F.2.1 dX9_readOf_1 rfl (lv_at hl 1 rfl) ?_
  refine lv_iload_n F.1 F.2.1 dX9_readOf_2 rfl (lv_at hl 2 rfl) ?_
  refine h_iconst F dX9_readOf_3 ?_
  refine cl_RX9_139 (As := [.int (iI k), .int (iI j), .int (iI 0)]) (rest := []) F hl (c_pic_f l X w mo v σ k j hM hs hwf (by omega) (by omega) (by assumption)) hW hS hM rfl rfl ⟨Nat.le_of_ble_eq_true rfl, Nat.le_of_ble_eq_true rfl⟩ (Nat.le_of_ble_eq_true rfl) ⟨Nat.zero_le _, Nat.zero_le _⟩ dX9_readOf_4 (fun w1 H locs hp1 hW hS => ?_)
  rw [hp1] at hW; clear hp1; clear w1
  refine lv_istore (lv' := [(4, .int (iI (picS σ k j false))), (0, .ref mo), (1, .int (iI k)), (2, .int (iI j)), (3, .int (iI (bz false)))]) F.1 F.2.1 dX9_readOf_7 hl (by decide) rfl (fun ls hl => ?_)
  refine lv_iload_n F.1 F.2.1 dX9_readOf_9 rfl (lv_at hl 4 rfl) ?_
  refine h_top (show (bz false : Int) = 0 from rfl) ?_
  refine h_ifeq (tgt := 21) F dX9_readOf_10 (by decide) (by decide) (fun _ => ?_) (fun c9 => absurd c9 (by decide))
  refine lv_iload F.1 F.2.1 dX9_readOf_21 (lv_at hl 0 rfl) ?_
  refine cl_RX9_146 (As := [.int (iI (picS σ k j false))]) (rest := []) F hl (c_X9_letterOf l X w (picS σ k j false) (by omega)) hW hS rfl rfl ⟨Nat.le_of_ble_eq_true rfl, Nat.le_of_ble_eq_true rfl⟩ (Nat.le_of_ble_eq_true rfl) ⟨Nat.zero_le _, Nat.zero_le _⟩ dX9_readOf_23 (fun w1 H locs hp3 hW hS => ?_)
  rw [hp3] at hW; clear hp3; clear w1
  refine h_top (show (ltrS (picS σ k j false) : Int) = rdS σ k j false from rfl) ?_
  exact h_ireti F hr hlk hW hS rfl dX9_readOf_26
set_option maxHeartbeats 4000000 in
set_option maxRecDepth 100000 in
theorem c_rd_t (l : Launch) (X : Cx) (w : Wo) (mo : Nat) (v σ : Int → Int) (k j : Int) (hM : w mo = some (.inr (9, mL mo v))) (hs : w (mo + 1) = some (aZ X 1317 σ)) (hwf : WF σ) (hk : 0 ≤ k ∧ k < σ 5) (hj : 0 ≤ j ∧ j < cp σ k 0) (hlg : legS σ k = true) : CM l X yX9_readOf cX9_readOf 5 (some (.int)) (rmk 3 73) [.ref mo, .int (iI k), .int (iI j), .int (iI (bz true))] w (some (.int (iI (rdS σ k j true)))) (fun w' => w' = w) := by
  refine CM.of (lv := [(0, .ref mo), (1, .int (iI k)), (2, .int (iI j)), (3, .int (iI (bz true)))]) (by decide) (Nat.le_of_ble_eq_true rfl) rfl (fun p e s m below meth c ls F hr hlk hin hW hS hl => ?_)
  have hZ0 := hW.2.2
  have hB9 := hW.1.2
  clear hin
  have hF := hwf.1
  unfold WF0 at hF
  have hpr := picS_r σ k j false
  have hrr := revS_r (picS σ k j false)
  refine lv_aload_n F.1 F.2.1 dX9_readOf_0 rfl (lv_at hl 0 rfl) ?_
  refine lv_iload_n F.1 F.2.1 dX9_readOf_1 rfl (lv_at hl 1 rfl) ?_
  refine lv_iload_n F.1 F.2.1 dX9_readOf_2 rfl (lv_at hl 2 rfl) ?_
  refine h_iconst F dX9_readOf_3 ?_
  refine cl_RX9_139 (As := [.int (iI k), .int (iI j), .int (iI 0)]) (rest := []) F hl (c_pic_f l X w mo v σ k j hM hs hwf (by omega) (by omega) (by assumption)) hW hS hM rfl rfl ⟨Nat.le_of_ble_eq_true rfl, Nat.le_of_ble_eq_true rfl⟩ (Nat.le_of_ble_eq_true rfl) ⟨Nat.zero_le _, Nat.zero_le _⟩ dX9_readOf_4 (fun w1 H locs hp1 hW hS => ?_)
  rw [hp1] at hW; clear hp1; clear w1
  refine lv_istore (lv' := [(4, .int (iI (picS σ k j false))), (0, .ref mo), (1, .int (iI k)), (2, .int (iI j)), (3, .int (iI (bz true)))]) F.1 F.2.1 dX9_readOf_7 hl (by decide) rfl (fun ls hl => ?_)
  refine lv_iload_n F.1 F.2.1 dX9_readOf_9 rfl (lv_at hl 4 rfl) ?_
  refine h_top (show (bz true : Int) = 1 from rfl) ?_
  refine h_ifeq (tgt := 21) F dX9_readOf_10 (by decide) (by decide) (fun c9 => absurd c9 (by decide)) (fun _ => ?_)
  refine lv_iload F.1 F.2.1 dX9_readOf_13 (lv_at hl 0 rfl) ?_
  refine cl_RX9_143 (As := [.int (iI (picS σ k j false))]) (rest := []) F hl (c_X9_reversed l X w (picS σ k j false) (by omega)) hW hS rfl rfl ⟨Nat.le_of_ble_eq_true rfl, Nat.le_of_ble_eq_true rfl⟩ (Nat.le_of_ble_eq_true rfl) ⟨Nat.zero_le _, Nat.zero_le _⟩ dX9_readOf_15 (fun w1 H locs hp3 hW hS => ?_)
  rw [hp3] at hW; clear hp3; clear w1
  refine h_goto (tgt := 23) F dX9_readOf_18 (by decide) ?_
  refine cl_RX9_146 (As := [.int (iI (revS (picS σ k j false)))]) (rest := []) F hl (c_X9_letterOf l X w (revS (picS σ k j false)) (by omega)) hW hS rfl rfl ⟨Nat.le_of_ble_eq_true rfl, Nat.le_of_ble_eq_true rfl⟩ (Nat.le_of_ble_eq_true rfl) ⟨Nat.zero_le _, Nat.zero_le _⟩ dX9_readOf_23 (fun w1 H locs hp4 hW hS => ?_)
  rw [hp4] at hW; clear hp4; clear w1
  refine h_top (show (ltrS (revS (picS σ k j false)) : Int) = rdS σ k j true from rfl) ?_
  exact h_ireti F hr hlk hW hS rfl dX9_readOf_26
set_option maxHeartbeats 4000000 in
set_option maxRecDepth 100000 in
theorem c_X9_told (l : Launch) (X : Cx) (w : Wo) (mo : Nat) (v σ : Int → Int) (k j : Int) (hM : w mo = some (.inr (9, mL mo v))) (hs : w (mo + 1) = some (aZ X 1317 σ)) (hwf : WF σ) (hk : 0 ≤ k ∧ k < σ 5) (hj : 0 ≤ j ∧ j < cp σ k 0) : CM l X yX9_told cX9_told 3 (some (.int)) (rmk 1 22) [.ref mo, .int (iI k), .int (iI j)] w (some (.int (iI (tdS σ k j)))) (fun w' => w' = w) := by
  refine CM.of (lv := [(0, .ref mo), (1, .int (iI k)), (2, .int (iI j))]) (by decide) (Nat.le_of_ble_eq_true rfl) rfl (fun p e s m below meth c ls F hr hlk hin hW hS hl => ?_)
  have hZ0 := hW.2.2
  have hB9 := hW.1.2
  clear hin
  have hF := hwf.1
  unfold WF0 at hF
  obtain ⟨m1, m2, m3, m4, m5, m6⟩ := hwf.2.2.1 k (by omega) (by omega)
  refine lv_aload_n F.1 F.2.1 dX9_told_0 rfl (lv_at hl 0 rfl) ?_
  refine lv_iload_n F.1 F.2.1 dX9_told_1 rfl (lv_at hl 1 rfl) ?_
  refine h_iconst F dX9_told_2 ?_
  refine lv_iload_n F.1 F.2.1 dX9_told_3 rfl (lv_at hl 2 rfl) ?_
  refine h_iadd (a := 5) (b := j) F dX9_told_4 ?_
  refine cl_RX9_95 (As := [.int (iI k), .int (iI (5 + j))]) (rest := []) F hl (c_X9_cap l X w mo v σ k (5 + j) hM hs hwf (by omega)) hW hS hM rfl rfl ⟨Nat.le_of_ble_eq_true rfl, Nat.le_of_ble_eq_true rfl⟩ (Nat.le_of_ble_eq_true rfl) ⟨Nat.zero_le _, Nat.zero_le _⟩ dX9_told_5 (fun w1 H locs hp1 hW hS => ?_)
  rw [hp1] at hW; clear hp1; clear w1
  refine h_iconst F dX9_told_8 ?_
  refine h_iadd (a := cp σ k (5 + j)) (b := 1) F dX9_told_9 ?_
  refine h_top (show ((cp σ k (5 + j)) + 1 : Int) = tdS σ k j from by first | rfl | omega | (simp_all; done)) ?_
  exact h_ireti F hr hlk hW hS rfl dX9_told_10
set_option maxHeartbeats 4000000 in
set_option maxRecDepth 100000 in
theorem c_that_r (l : Launch) (X : Cx) (w : Wo) (mo : Nat) (v σ : Int → Int) (k : Int) (hM : w mo = some (.inr (9, mL mo v))) (hs : w (mo + 1) = some (aZ X 1317 σ)) (hwf : WF σ) (hk : 0 ≤ k ∧ k < σ 5) : CM l X yX9_lettersThat cX9_lettersThat 6 (some (.int)) (rmk 4 97) [.ref mo, .int (iI k), .int (iI 0)] w (some (.int (iI (cnt (fun z => legS σ k && decide (rdS σ k z false = tdS σ k z)) 0 (cp σ k 0))))) (fun w' => w' = w) := by
  refine CM.of (lv := [(0, .ref mo), (1, .int (iI k)), (2, .int (iI 0))]) (by decide) (Nat.le_of_ble_eq_true rfl) rfl (fun p e s m below meth c ls F hr hlk hin hW hS hl => ?_)
  have hZ0 := hW.2.2
  have hB9 := hW.1.2
  clear hin
  have hF := hwf.1
  unfold WF0 at hF
  obtain ⟨m1, m2, m3, m4, m5, m6⟩ := hwf.2.2.1 k (by omega) (by omega)
  refine h_iconst F dX9_lettersThat_0 ?_
  refine lv_istore_n (lv' := [(3, .int (iI 0)), (0, .ref mo), (1, .int (iI k)), (2, .int (iI 0))]) F.1 F.2.1 dX9_lettersThat_1 rfl hl (by decide) rfl (fun ls hl => ?_)
  refine h_iconst F dX9_lettersThat_2 ?_
  refine lv_istore (lv' := [(4, .int (iI 0)), (3, .int (iI 0)), (0, .ref mo), (1, .int (iI k)), (2, .int (iI 0))]) F.1 F.2.1 dX9_lettersThat_3 hl (by decide) rfl (fun ls hl => ?_)
  have loop5 : ∀ (n9 : Nat) (j : Int), (hrg : 0 ≤ j ∧ j ≤ cp σ k 0) → (hms : cp σ k 0 - j < (n9 : Int)) → (H : Heap) → (locs : List Loc) → (ls : Array Slot) → Wd X w s H → va_S (cxA X) s.heap H locs → lv_has ls 6 [(3, .int (iI (cnt (fun z => legS σ k && decide (rdS σ k z false = tdS σ k z)) 0 j))), (4, .int (iI j)), (0, .ref mo), (1, .int (iI k)), (2, .int (iI 0))] → W p l e (rmk 4 97) s m (List.toArray [.ref mo, .int (iI k), .int (iI 0)]) below meth c H locs 0 0 (MX X below (List.toArray [.ref mo, .int (iI k), .int (iI 0)]) s 0 0 (some (.int (iI (cnt (fun z => legS σ k && decide (rdS σ k z false = tdS σ k z)) 0 (cp σ k 0))))) (fun w' => w' = w)) (F0 m 5 ls []) := by
    intro n9
    induction n9 with
    | zero => intro j  hrg hms; exfalso; omega
    | succ n9 ih5 =>
      intro j  hrg hms   H locs ls hW hS hl
      refine lv_iload F.1 F.2.1 dX9_lettersThat_5 (lv_at hl 1 rfl) ?_
      refine lv_aload_n F.1 F.2.1 dX9_lettersThat_7 rfl (lv_at hl 2 rfl) ?_
      refine lv_iload_n F.1 F.2.1 dX9_lettersThat_8 rfl (lv_at hl 3 rfl) ?_
      refine h_iconst F dX9_lettersThat_9 ?_
      refine cl_RX9_95 (As := [.int (iI k), .int (iI 0)]) (rest := [.int (iI j)]) F hl (c_X9_cap l X w mo v σ k 0 hM hs hwf (by omega)) hW hS hM rfl rfl ⟨Nat.le_of_ble_eq_true rfl, Nat.le_of_ble_eq_true rfl⟩ (Nat.le_of_ble_eq_true rfl) ⟨Nat.zero_le _, Nat.zero_le _⟩ dX9_lettersThat_10 (fun w1 H locs hp1 hW hS => ?_)
      rw [hp1] at hW; clear hp1; clear w1
      refine h_icge (tgt := 88) F dX9_lettersThat_13 (by decide) (by omega) (fun c2 => ?_) (fun c2 => ?_)
      · refine lv_iload_n F.1 F.2.1 dX9_lettersThat_88 rfl (lv_at hl 0 rfl) ?_
        refine h_top (show (cnt (fun z => legS σ k && decide (rdS σ k z false = tdS σ k z)) 0 j : Int) = cnt (fun z => legS σ k && decide (rdS σ k z false = tdS σ k z)) 0 (cp σ k 0) from by first | rw [show j = cp σ k 0 by omega] | (rw [‹legS σ k = false›]; simp only [Bool.false_and, cnt_n])) ?_
        exact h_ireti F hr hlk hW hS rfl dX9_lettersThat_89
      · refine lv_aload_n F.1 F.2.1 dX9_lettersThat_16 rfl (lv_at hl 2 rfl) ?_
        refine lv_iload_n F.1 F.2.1 dX9_lettersThat_17 rfl (lv_at hl 3 rfl) ?_
        refine cl_RX9_149 (As := [.int (iI k)]) (rest := []) F hl (c_X9_isLegible l X w mo v σ k hM hs hwf (by omega)) hW hS hM rfl rfl ⟨Nat.le_of_ble_eq_true rfl, Nat.le_of_ble_eq_true rfl⟩ (Nat.le_of_ble_eq_true rfl) ⟨Nat.zero_le _, Nat.zero_le _⟩ dX9_lettersThat_18 (fun w1 H locs hp3 hW hS => ?_)
        rw [hp3] at hW; clear hp3; clear w1
        refine h_ifeqb (tgt := 88) F dX9_lettersThat_21 (by decide) (fun c4 => ?_) (fun c4 => ?_)
        · refine lv_iload_n F.1 F.2.1 dX9_lettersThat_88 rfl (lv_at hl 0 rfl) ?_
          refine h_top (show (cnt (fun z => legS σ k && decide (rdS σ k z false = tdS σ k z)) 0 j : Int) = cnt (fun z => legS σ k && decide (rdS σ k z false = tdS σ k z)) 0 (cp σ k 0) from by first | rw [show j = cp σ k 0 by omega] | (rw [‹legS σ k = false›]; simp only [Bool.false_and, cnt_n])) ?_
          exact h_ireti F hr hlk hW hS rfl dX9_lettersThat_89
        · refine lv_iload_n F.1 F.2.1 dX9_lettersThat_24 rfl (lv_at hl 4 rfl) ?_
          refine h_iconst F dX9_lettersThat_25 ?_
          refine h_icne (tgt := 43) F dX9_lettersThat_26 (by decide) (by decide) (fun _ => ?_) (fun c9 => absurd c9 (by decide))
          refine lv_aload_n F.1 F.2.1 dX9_lettersThat_43 rfl (lv_at hl 2 rfl) ?_
          refine lv_iload_n F.1 F.2.1 dX9_lettersThat_44 rfl (lv_at hl 3 rfl) ?_
          refine lv_iload F.1 F.2.1 dX9_lettersThat_45 (lv_at hl 1 rfl) ?_
          refine lv_iload_n F.1 F.2.1 dX9_lettersThat_47 rfl (lv_at hl 4 rfl) ?_
          refine h_iconst F dX9_lettersThat_48 ?_
          refine h_icne (tgt := 56) F dX9_lettersThat_49 (by decide) (by decide) (fun _ => ?_) (fun c9 => absurd c9 (by decide))
          refine h_iconst F dX9_lettersThat_56 ?_
          refine cl_RX9_152 (As := [.int (iI k), .int (iI j), .int (iI 0)]) (rest := []) F hl (c_rd_f l X w mo v σ k j hM hs hwf (by omega) (by omega) (by assumption)) hW hS hM rfl rfl ⟨Nat.le_of_ble_eq_true rfl, Nat.le_of_ble_eq_true rfl⟩ (Nat.le_of_ble_eq_true rfl) ⟨Nat.zero_le _, Nat.zero_le _⟩ dX9_lettersThat_57 (fun w1 H locs hp7 hW hS => ?_)
          rw [hp7] at hW; clear hp7; clear w1
          refine lv_istore (lv' := [(5, .int (iI (rdS σ k j false))), (3, .int (iI (cnt (fun z => legS σ k && decide (rdS σ k z false = tdS σ k z)) 0 j))), (4, .int (iI j)), (0, .ref mo), (1, .int (iI k)), (2, .int (iI 0))]) F.1 F.2.1 dX9_lettersThat_60 hl (by decide) rfl (fun ls hl => ?_)
          refine lv_iload_n F.1 F.2.1 dX9_lettersThat_62 rfl (lv_at hl 1 rfl) ?_
          have ht1 : 1 ≤ tdS σ k j ∧ tdS σ k j ≤ 26 := by have := m6 j (by omega) (by omega); unfold tdS; omega
          have hr1 := ltrS_r (picS σ k j true)
          have hr2 := ltrS_r (picS σ k j false)
          have hr3 := ltrS_r (revS (picS σ k j false))
          have hr4 : 0 ≤ rdS σ k j false ∧ rdS σ k j false ≤ 26 := ltrS_r _
          have hr5 : 0 ≤ rdS σ k j true ∧ rdS σ k j true ≤ 26 := ltrS_r _
          refine lv_iload F.1 F.2.1 dX9_lettersThat_63 (lv_at hl 0 rfl) ?_
          refine lv_aload_n F.1 F.2.1 dX9_lettersThat_65 rfl (lv_at hl 3 rfl) ?_
          refine lv_iload_n F.1 F.2.1 dX9_lettersThat_66 rfl (lv_at hl 4 rfl) ?_
          refine lv_iload F.1 F.2.1 dX9_lettersThat_67 (lv_at hl 2 rfl) ?_
          refine cl_RX9_155 (As := [.int (iI k), .int (iI j)]) (rest := [.int (iI (rdS σ k j false)), .int (iI (cnt (fun z => legS σ k && decide (rdS σ k z false = tdS σ k z)) 0 j))]) F hl (c_X9_told l X w mo v σ k j hM hs hwf (by omega) (by omega)) hW hS hM rfl rfl ⟨Nat.le_of_ble_eq_true rfl, Nat.le_of_ble_eq_true rfl⟩ (Nat.le_of_ble_eq_true rfl) ⟨Nat.zero_le _, Nat.zero_le _⟩ dX9_lettersThat_69 (fun w1 H locs hp8 hW hS => ?_)
          rw [hp8] at hW; clear hp8; clear w1
          refine h_icne (tgt := 79) F dX9_lettersThat_72 (by decide) (by omega) (fun c9 => ?_) (fun c9 => ?_)
          · refine h_iconst F dX9_lettersThat_79 ?_
            refine h_iadd (a := cnt (fun z => legS σ k && decide (rdS σ k z false = tdS σ k z)) 0 j) (b := 0) F dX9_lettersThat_80 ?_
            refine lv_istore_n (lv' := [(3, .int (iI ((cnt (fun z => legS σ k && decide (rdS σ k z false = tdS σ k z)) 0 j) + 0))), (5, .int (iI (rdS σ k j false))), (4, .int (iI j)), (0, .ref mo), (1, .int (iI k)), (2, .int (iI 0))]) F.1 F.2.1 dX9_lettersThat_81 rfl hl (by decide) rfl (fun ls hl => ?_)
            refine h_iinc (k := 2) (a := j) (lv' := [(4, .int (iI (j + 1))), (3, .int (iI ((cnt (fun z => legS σ k && decide (rdS σ k z false = tdS σ k z)) 0 j) + 0))), (5, .int (iI (rdS σ k j false))), (0, .ref mo), (1, .int (iI k)), (2, .int (iI 0))]) F dX9_lettersThat_82 hl rfl (by decide) rfl (fun ls hl => ?_)
            refine h_goto (tgt := 5) F dX9_lettersThat_85 (by decide) ?_
            have eq10 : (cnt (fun z => legS σ k && decide (rdS σ k z false = tdS σ k z)) 0 (j + 1) : Int) = (cnt (fun z => legS σ k && decide (rdS σ k z false = tdS σ k z)) 0 j) + 0 := by first | exact cnt_t (by omega) (by rw [‹legS σ k = true›, decide_eq_true (by assumption)]; rfl) | (rw [cnt_f (by omega) (by rw [decide_eq_false (by assumption)]; simp)]; omega)
            have eq11 : ((j + 1) : Int) = j + 1 := by first | rfl | omega | simp
            exact ih5 (j + 1)  (by omega) (by omega)   _ _ ls hW hS (by rw [eq10, eq11]; exact lv_sub hl [1, 0, 3, 4, 5] rfl)
          · refine h_iconst F dX9_lettersThat_75 ?_
            refine h_goto (tgt := 80) F dX9_lettersThat_76 (by decide) ?_
            refine h_iadd (a := cnt (fun z => legS σ k && decide (rdS σ k z false = tdS σ k z)) 0 j) (b := 1) F dX9_lettersThat_80 ?_
            refine lv_istore_n (lv' := [(3, .int (iI ((cnt (fun z => legS σ k && decide (rdS σ k z false = tdS σ k z)) 0 j) + 1))), (5, .int (iI (rdS σ k j false))), (4, .int (iI j)), (0, .ref mo), (1, .int (iI k)), (2, .int (iI 0))]) F.1 F.2.1 dX9_lettersThat_81 rfl hl (by decide) rfl (fun ls hl => ?_)
            refine h_iinc (k := 2) (a := j) (lv' := [(4, .int (iI (j + 1))), (3, .int (iI ((cnt (fun z => legS σ k && decide (rdS σ k z false = tdS σ k z)) 0 j) + 1))), (5, .int (iI (rdS σ k j false))), (0, .ref mo), (1, .int (iI k)), (2, .int (iI 0))]) F dX9_lettersThat_82 hl rfl (by decide) rfl (fun ls hl => ?_)
            refine h_goto (tgt := 5) F dX9_lettersThat_85 (by decide) ?_
            have eq12 : (cnt (fun z => legS σ k && decide (rdS σ k z false = tdS σ k z)) 0 (j + 1) : Int) = (cnt (fun z => legS σ k && decide (rdS σ k z false = tdS σ k z)) 0 j) + 1 := by first | exact cnt_t (by omega) (by rw [‹legS σ k = true›, decide_eq_true (by assumption)]; rfl) | (rw [cnt_f (by omega) (by rw [decide_eq_false (by assumption)]; simp)]; omega)
            have eq13 : ((j + 1) : Int) = j + 1 := by first | rfl | omega | simp
            exact ih5 (j + 1)  (by omega) (by omega)   _ _ ls hW hS (by rw [eq12, eq13]; exact lv_sub hl [1, 0, 3, 4, 5] rfl)
  have eq14 : (cnt (fun z => legS σ k && decide (rdS σ k z false = tdS σ k z)) 0 0 : Int) = 0 := cnt_0 _ _
  exact loop5 ((cp σ k 0 - 0) + 1 : Int).toNat 0  (by omega) (by omega)   _ _ ls hW hS (by rw [eq14]; exact lv_sub hl [1, 0, 2, 3, 4] rfl)
set_option maxHeartbeats 4000000 in
set_option maxRecDepth 100000 in
theorem c_that_t (l : Launch) (X : Cx) (w : Wo) (mo : Nat) (v σ : Int → Int) (k : Int) (hM : w mo = some (.inr (9, mL mo v))) (hs : w (mo + 1) = some (aZ X 1317 σ)) (hwf : WF σ) (hk : 0 ≤ k ∧ k < σ 5) : CM l X yX9_lettersThat cX9_lettersThat 6 (some (.int)) (rmk 4 97) [.ref mo, .int (iI k), .int (iI 1)] w (some (.int (iI (cnt (fun z => legS σ k && decide (rdS σ k z true = tdS σ k z)) 0 (cp σ k 0))))) (fun w' => w' = w) := by
  refine CM.of (lv := [(0, .ref mo), (1, .int (iI k)), (2, .int (iI 1))]) (by decide) (Nat.le_of_ble_eq_true rfl) rfl (fun p e s m below meth c ls F hr hlk hin hW hS hl => ?_)
  have hZ0 := hW.2.2
  have hB9 := hW.1.2
  clear hin
  have hF := hwf.1
  unfold WF0 at hF
  obtain ⟨m1, m2, m3, m4, m5, m6⟩ := hwf.2.2.1 k (by omega) (by omega)
  refine h_iconst F dX9_lettersThat_0 ?_
  refine lv_istore_n (lv' := [(3, .int (iI 0)), (0, .ref mo), (1, .int (iI k)), (2, .int (iI 1))]) F.1 F.2.1 dX9_lettersThat_1 rfl hl (by decide) rfl (fun ls hl => ?_)
  refine h_iconst F dX9_lettersThat_2 ?_
  refine lv_istore (lv' := [(4, .int (iI 0)), (3, .int (iI 0)), (0, .ref mo), (1, .int (iI k)), (2, .int (iI 1))]) F.1 F.2.1 dX9_lettersThat_3 hl (by decide) rfl (fun ls hl => ?_)
  have loop5 : ∀ (n9 : Nat) (j : Int), (hrg : 0 ≤ j ∧ j ≤ cp σ k 0) → (hms : cp σ k 0 - j < (n9 : Int)) → (H : Heap) → (locs : List Loc) → (ls : Array Slot) → Wd X w s H → va_S (cxA X) s.heap H locs → lv_has ls 6 [(3, .int (iI (cnt (fun z => legS σ k && decide (rdS σ k z true = tdS σ k z)) 0 j))), (4, .int (iI j)), (0, .ref mo), (1, .int (iI k)), (2, .int (iI 1))] → W p l e (rmk 4 97) s m (List.toArray [.ref mo, .int (iI k), .int (iI 1)]) below meth c H locs 0 0 (MX X below (List.toArray [.ref mo, .int (iI k), .int (iI 1)]) s 0 0 (some (.int (iI (cnt (fun z => legS σ k && decide (rdS σ k z true = tdS σ k z)) 0 (cp σ k 0))))) (fun w' => w' = w)) (F0 m 5 ls []) := by
    intro n9
    induction n9 with
    | zero => intro j  hrg hms; exfalso; omega
    | succ n9 ih5 =>
      intro j  hrg hms   H locs ls hW hS hl
      refine lv_iload F.1 F.2.1 dX9_lettersThat_5 (lv_at hl 1 rfl) ?_
      refine lv_aload_n F.1 F.2.1 dX9_lettersThat_7 rfl (lv_at hl 2 rfl) ?_
      refine lv_iload_n F.1 F.2.1 dX9_lettersThat_8 rfl (lv_at hl 3 rfl) ?_
      refine h_iconst F dX9_lettersThat_9 ?_
      refine cl_RX9_95 (As := [.int (iI k), .int (iI 0)]) (rest := [.int (iI j)]) F hl (c_X9_cap l X w mo v σ k 0 hM hs hwf (by omega)) hW hS hM rfl rfl ⟨Nat.le_of_ble_eq_true rfl, Nat.le_of_ble_eq_true rfl⟩ (Nat.le_of_ble_eq_true rfl) ⟨Nat.zero_le _, Nat.zero_le _⟩ dX9_lettersThat_10 (fun w1 H locs hp1 hW hS => ?_)
      rw [hp1] at hW; clear hp1; clear w1
      refine h_icge (tgt := 88) F dX9_lettersThat_13 (by decide) (by omega) (fun c2 => ?_) (fun c2 => ?_)
      · refine lv_iload_n F.1 F.2.1 dX9_lettersThat_88 rfl (lv_at hl 0 rfl) ?_
        refine h_top (show (cnt (fun z => legS σ k && decide (rdS σ k z true = tdS σ k z)) 0 j : Int) = cnt (fun z => legS σ k && decide (rdS σ k z true = tdS σ k z)) 0 (cp σ k 0) from by first | rw [show j = cp σ k 0 by omega] | (rw [‹legS σ k = false›]; simp only [Bool.false_and, cnt_n])) ?_
        exact h_ireti F hr hlk hW hS rfl dX9_lettersThat_89
      · refine lv_aload_n F.1 F.2.1 dX9_lettersThat_16 rfl (lv_at hl 2 rfl) ?_
        refine lv_iload_n F.1 F.2.1 dX9_lettersThat_17 rfl (lv_at hl 3 rfl) ?_
        refine cl_RX9_149 (As := [.int (iI k)]) (rest := []) F hl (c_X9_isLegible l X w mo v σ k hM hs hwf (by omega)) hW hS hM rfl rfl ⟨Nat.le_of_ble_eq_true rfl, Nat.le_of_ble_eq_true rfl⟩ (Nat.le_of_ble_eq_true rfl) ⟨Nat.zero_le _, Nat.zero_le _⟩ dX9_lettersThat_18 (fun w1 H locs hp3 hW hS => ?_)
        rw [hp3] at hW; clear hp3; clear w1
        refine h_ifeqb (tgt := 88) F dX9_lettersThat_21 (by decide) (fun c4 => ?_) (fun c4 => ?_)
        · refine lv_iload_n F.1 F.2.1 dX9_lettersThat_88 rfl (lv_at hl 0 rfl) ?_
          refine h_top (show (cnt (fun z => legS σ k && decide (rdS σ k z true = tdS σ k z)) 0 j : Int) = cnt (fun z => legS σ k && decide (rdS σ k z true = tdS σ k z)) 0 (cp σ k 0) from by first | rw [show j = cp σ k 0 by omega] | (rw [‹legS σ k = false›]; simp only [Bool.false_and, cnt_n])) ?_
          exact h_ireti F hr hlk hW hS rfl dX9_lettersThat_89
        · refine lv_iload_n F.1 F.2.1 dX9_lettersThat_24 rfl (lv_at hl 4 rfl) ?_
          refine h_iconst F dX9_lettersThat_25 ?_
          refine h_icne (tgt := 43) F dX9_lettersThat_26 (by decide) (by decide) (fun _ => ?_) (fun c9 => absurd c9 (by decide))
          refine lv_aload_n F.1 F.2.1 dX9_lettersThat_43 rfl (lv_at hl 2 rfl) ?_
          refine lv_iload_n F.1 F.2.1 dX9_lettersThat_44 rfl (lv_at hl 3 rfl) ?_
          refine lv_iload F.1 F.2.1 dX9_lettersThat_45 (lv_at hl 1 rfl) ?_
          refine lv_iload_n F.1 F.2.1 dX9_lettersThat_47 rfl (lv_at hl 4 rfl) ?_
          refine h_iconst F dX9_lettersThat_48 ?_
          refine h_icne (tgt := 56) F dX9_lettersThat_49 (by decide) (by decide) (fun c9 => absurd c9 (by decide)) (fun _ => ?_)
          refine h_iconst F dX9_lettersThat_52 ?_
          refine h_goto (tgt := 57) F dX9_lettersThat_53 (by decide) ?_
          refine cl_RX9_152 (As := [.int (iI k), .int (iI j), .int (iI 1)]) (rest := []) F hl (c_rd_t l X w mo v σ k j hM hs hwf (by omega) (by omega) (by assumption)) hW hS hM rfl rfl ⟨Nat.le_of_ble_eq_true rfl, Nat.le_of_ble_eq_true rfl⟩ (Nat.le_of_ble_eq_true rfl) ⟨Nat.zero_le _, Nat.zero_le _⟩ dX9_lettersThat_57 (fun w1 H locs hp7 hW hS => ?_)
          rw [hp7] at hW; clear hp7; clear w1
          refine lv_istore (lv' := [(5, .int (iI (rdS σ k j true))), (3, .int (iI (cnt (fun z => legS σ k && decide (rdS σ k z true = tdS σ k z)) 0 j))), (4, .int (iI j)), (0, .ref mo), (1, .int (iI k)), (2, .int (iI 1))]) F.1 F.2.1 dX9_lettersThat_60 hl (by decide) rfl (fun ls hl => ?_)
          refine lv_iload_n F.1 F.2.1 dX9_lettersThat_62 rfl (lv_at hl 1 rfl) ?_
          have ht1 : 1 ≤ tdS σ k j ∧ tdS σ k j ≤ 26 := by have := m6 j (by omega) (by omega); unfold tdS; omega
          have hr1 := ltrS_r (picS σ k j true)
          have hr2 := ltrS_r (picS σ k j false)
          have hr3 := ltrS_r (revS (picS σ k j false))
          have hr4 : 0 ≤ rdS σ k j false ∧ rdS σ k j false ≤ 26 := ltrS_r _
          have hr5 : 0 ≤ rdS σ k j true ∧ rdS σ k j true ≤ 26 := ltrS_r _
          refine lv_iload F.1 F.2.1 dX9_lettersThat_63 (lv_at hl 0 rfl) ?_
          refine lv_aload_n F.1 F.2.1 dX9_lettersThat_65 rfl (lv_at hl 3 rfl) ?_
          refine lv_iload_n F.1 F.2.1 dX9_lettersThat_66 rfl (lv_at hl 4 rfl) ?_
          refine lv_iload F.1 F.2.1 dX9_lettersThat_67 (lv_at hl 2 rfl) ?_
          refine cl_RX9_155 (As := [.int (iI k), .int (iI j)]) (rest := [.int (iI (rdS σ k j true)), .int (iI (cnt (fun z => legS σ k && decide (rdS σ k z true = tdS σ k z)) 0 j))]) F hl (c_X9_told l X w mo v σ k j hM hs hwf (by omega) (by omega)) hW hS hM rfl rfl ⟨Nat.le_of_ble_eq_true rfl, Nat.le_of_ble_eq_true rfl⟩ (Nat.le_of_ble_eq_true rfl) ⟨Nat.zero_le _, Nat.zero_le _⟩ dX9_lettersThat_69 (fun w1 H locs hp8 hW hS => ?_)
          rw [hp8] at hW; clear hp8; clear w1
          refine h_icne (tgt := 79) F dX9_lettersThat_72 (by decide) (by omega) (fun c9 => ?_) (fun c9 => ?_)
          · refine h_iconst F dX9_lettersThat_79 ?_
            refine h_iadd (a := cnt (fun z => legS σ k && decide (rdS σ k z true = tdS σ k z)) 0 j) (b := 0) F dX9_lettersThat_80 ?_
            refine lv_istore_n (lv' := [(3, .int (iI ((cnt (fun z => legS σ k && decide (rdS σ k z true = tdS σ k z)) 0 j) + 0))), (5, .int (iI (rdS σ k j true))), (4, .int (iI j)), (0, .ref mo), (1, .int (iI k)), (2, .int (iI 1))]) F.1 F.2.1 dX9_lettersThat_81 rfl hl (by decide) rfl (fun ls hl => ?_)
            refine h_iinc (k := 2) (a := j) (lv' := [(4, .int (iI (j + 1))), (3, .int (iI ((cnt (fun z => legS σ k && decide (rdS σ k z true = tdS σ k z)) 0 j) + 0))), (5, .int (iI (rdS σ k j true))), (0, .ref mo), (1, .int (iI k)), (2, .int (iI 1))]) F dX9_lettersThat_82 hl rfl (by decide) rfl (fun ls hl => ?_)
            refine h_goto (tgt := 5) F dX9_lettersThat_85 (by decide) ?_
            have eq10 : (cnt (fun z => legS σ k && decide (rdS σ k z true = tdS σ k z)) 0 (j + 1) : Int) = (cnt (fun z => legS σ k && decide (rdS σ k z true = tdS σ k z)) 0 j) + 0 := by first | exact cnt_t (by omega) (by rw [‹legS σ k = true›, decide_eq_true (by assumption)]; rfl) | (rw [cnt_f (by omega) (by rw [decide_eq_false (by assumption)]; simp)]; omega)
            have eq11 : ((j + 1) : Int) = j + 1 := by first | rfl | omega | simp
            exact ih5 (j + 1)  (by omega) (by omega)   _ _ ls hW hS (by rw [eq10, eq11]; exact lv_sub hl [1, 0, 3, 4, 5] rfl)
          · refine h_iconst F dX9_lettersThat_75 ?_
            refine h_goto (tgt := 80) F dX9_lettersThat_76 (by decide) ?_
            refine h_iadd (a := cnt (fun z => legS σ k && decide (rdS σ k z true = tdS σ k z)) 0 j) (b := 1) F dX9_lettersThat_80 ?_
            refine lv_istore_n (lv' := [(3, .int (iI ((cnt (fun z => legS σ k && decide (rdS σ k z true = tdS σ k z)) 0 j) + 1))), (5, .int (iI (rdS σ k j true))), (4, .int (iI j)), (0, .ref mo), (1, .int (iI k)), (2, .int (iI 1))]) F.1 F.2.1 dX9_lettersThat_81 rfl hl (by decide) rfl (fun ls hl => ?_)
            refine h_iinc (k := 2) (a := j) (lv' := [(4, .int (iI (j + 1))), (3, .int (iI ((cnt (fun z => legS σ k && decide (rdS σ k z true = tdS σ k z)) 0 j) + 1))), (5, .int (iI (rdS σ k j true))), (0, .ref mo), (1, .int (iI k)), (2, .int (iI 1))]) F dX9_lettersThat_82 hl rfl (by decide) rfl (fun ls hl => ?_)
            refine h_goto (tgt := 5) F dX9_lettersThat_85 (by decide) ?_
            have eq12 : (cnt (fun z => legS σ k && decide (rdS σ k z true = tdS σ k z)) 0 (j + 1) : Int) = (cnt (fun z => legS σ k && decide (rdS σ k z true = tdS σ k z)) 0 j) + 1 := by first | exact cnt_t (by omega) (by rw [‹legS σ k = true›, decide_eq_true (by assumption)]; rfl) | (rw [cnt_f (by omega) (by rw [decide_eq_false (by assumption)]; simp)]; omega)
            have eq13 : ((j + 1) : Int) = j + 1 := by first | rfl | omega | simp
            exact ih5 (j + 1)  (by omega) (by omega)   _ _ ls hW hS (by rw [eq12, eq13]; exact lv_sub hl [1, 0, 3, 4, 5] rfl)
  have eq14 : (cnt (fun z => legS σ k && decide (rdS σ k z true = tdS σ k z)) 0 0 : Int) = 0 := cnt_0 _ _
  exact loop5 ((cp σ k 0 - 0) + 1 : Int).toNat 0  (by omega) (by omega)   _ _ ls hW hS (by rw [eq14]; exact lv_sub hl [1, 0, 2, 3, 4] rfl)
set_option maxHeartbeats 4000000 in
set_option maxRecDepth 100000 in
theorem c_that_g (l : Launch) (X : Cx) (w : Wo) (mo : Nat) (v σ : Int → Int) (k : Int) (hM : w mo = some (.inr (9, mL mo v))) (hs : w (mo + 1) = some (aZ X 1317 σ)) (hwf : WF σ) (hk : 0 ≤ k ∧ k < σ 5) : CM l X yX9_lettersThat cX9_lettersThat 6 (some (.int)) (rmk 4 97) [.ref mo, .int (iI k), .int (iI 2)] w (some (.int (iI (cnt (fun z => legS σ k && decide (ltrS (picS σ k z true) = tdS σ k z)) 0 (cp σ k 0))))) (fun w' => w' = w) := by
  refine CM.of (lv := [(0, .ref mo), (1, .int (iI k)), (2, .int (iI 2))]) (by decide) (Nat.le_of_ble_eq_true rfl) rfl (fun p e s m below meth c ls F hr hlk hin hW hS hl => ?_)
  have hZ0 := hW.2.2
  have hB9 := hW.1.2
  clear hin
  have hF := hwf.1
  unfold WF0 at hF
  obtain ⟨m1, m2, m3, m4, m5, m6⟩ := hwf.2.2.1 k (by omega) (by omega)
  refine h_iconst F dX9_lettersThat_0 ?_
  refine lv_istore_n (lv' := [(3, .int (iI 0)), (0, .ref mo), (1, .int (iI k)), (2, .int (iI 2))]) F.1 F.2.1 dX9_lettersThat_1 rfl hl (by decide) rfl (fun ls hl => ?_)
  refine h_iconst F dX9_lettersThat_2 ?_
  refine lv_istore (lv' := [(4, .int (iI 0)), (3, .int (iI 0)), (0, .ref mo), (1, .int (iI k)), (2, .int (iI 2))]) F.1 F.2.1 dX9_lettersThat_3 hl (by decide) rfl (fun ls hl => ?_)
  have loop5 : ∀ (n9 : Nat) (j : Int), (hrg : 0 ≤ j ∧ j ≤ cp σ k 0) → (hms : cp σ k 0 - j < (n9 : Int)) → (H : Heap) → (locs : List Loc) → (ls : Array Slot) → Wd X w s H → va_S (cxA X) s.heap H locs → lv_has ls 6 [(3, .int (iI (cnt (fun z => legS σ k && decide (ltrS (picS σ k z true) = tdS σ k z)) 0 j))), (4, .int (iI j)), (0, .ref mo), (1, .int (iI k)), (2, .int (iI 2))] → W p l e (rmk 4 97) s m (List.toArray [.ref mo, .int (iI k), .int (iI 2)]) below meth c H locs 0 0 (MX X below (List.toArray [.ref mo, .int (iI k), .int (iI 2)]) s 0 0 (some (.int (iI (cnt (fun z => legS σ k && decide (ltrS (picS σ k z true) = tdS σ k z)) 0 (cp σ k 0))))) (fun w' => w' = w)) (F0 m 5 ls []) := by
    intro n9
    induction n9 with
    | zero => intro j  hrg hms; exfalso; omega
    | succ n9 ih5 =>
      intro j  hrg hms   H locs ls hW hS hl
      refine lv_iload F.1 F.2.1 dX9_lettersThat_5 (lv_at hl 1 rfl) ?_
      refine lv_aload_n F.1 F.2.1 dX9_lettersThat_7 rfl (lv_at hl 2 rfl) ?_
      refine lv_iload_n F.1 F.2.1 dX9_lettersThat_8 rfl (lv_at hl 3 rfl) ?_
      refine h_iconst F dX9_lettersThat_9 ?_
      refine cl_RX9_95 (As := [.int (iI k), .int (iI 0)]) (rest := [.int (iI j)]) F hl (c_X9_cap l X w mo v σ k 0 hM hs hwf (by omega)) hW hS hM rfl rfl ⟨Nat.le_of_ble_eq_true rfl, Nat.le_of_ble_eq_true rfl⟩ (Nat.le_of_ble_eq_true rfl) ⟨Nat.zero_le _, Nat.zero_le _⟩ dX9_lettersThat_10 (fun w1 H locs hp1 hW hS => ?_)
      rw [hp1] at hW; clear hp1; clear w1
      refine h_icge (tgt := 88) F dX9_lettersThat_13 (by decide) (by omega) (fun c2 => ?_) (fun c2 => ?_)
      · refine lv_iload_n F.1 F.2.1 dX9_lettersThat_88 rfl (lv_at hl 0 rfl) ?_
        refine h_top (show (cnt (fun z => legS σ k && decide (ltrS (picS σ k z true) = tdS σ k z)) 0 j : Int) = cnt (fun z => legS σ k && decide (ltrS (picS σ k z true) = tdS σ k z)) 0 (cp σ k 0) from by first | rw [show j = cp σ k 0 by omega] | (rw [‹legS σ k = false›]; simp only [Bool.false_and, cnt_n])) ?_
        exact h_ireti F hr hlk hW hS rfl dX9_lettersThat_89
      · refine lv_aload_n F.1 F.2.1 dX9_lettersThat_16 rfl (lv_at hl 2 rfl) ?_
        refine lv_iload_n F.1 F.2.1 dX9_lettersThat_17 rfl (lv_at hl 3 rfl) ?_
        refine cl_RX9_149 (As := [.int (iI k)]) (rest := []) F hl (c_X9_isLegible l X w mo v σ k hM hs hwf (by omega)) hW hS hM rfl rfl ⟨Nat.le_of_ble_eq_true rfl, Nat.le_of_ble_eq_true rfl⟩ (Nat.le_of_ble_eq_true rfl) ⟨Nat.zero_le _, Nat.zero_le _⟩ dX9_lettersThat_18 (fun w1 H locs hp3 hW hS => ?_)
        rw [hp3] at hW; clear hp3; clear w1
        refine h_ifeqb (tgt := 88) F dX9_lettersThat_21 (by decide) (fun c4 => ?_) (fun c4 => ?_)
        · refine lv_iload_n F.1 F.2.1 dX9_lettersThat_88 rfl (lv_at hl 0 rfl) ?_
          refine h_top (show (cnt (fun z => legS σ k && decide (ltrS (picS σ k z true) = tdS σ k z)) 0 j : Int) = cnt (fun z => legS σ k && decide (ltrS (picS σ k z true) = tdS σ k z)) 0 (cp σ k 0) from by first | rw [show j = cp σ k 0 by omega] | (rw [‹legS σ k = false›]; simp only [Bool.false_and, cnt_n])) ?_
          exact h_ireti F hr hlk hW hS rfl dX9_lettersThat_89
        · refine lv_iload_n F.1 F.2.1 dX9_lettersThat_24 rfl (lv_at hl 4 rfl) ?_
          refine h_iconst F dX9_lettersThat_25 ?_
          refine h_icne (tgt := 43) F dX9_lettersThat_26 (by decide) (by decide) (fun c9 => absurd c9 (by decide)) (fun _ => ?_)
          refine lv_aload_n F.1 F.2.1 dX9_lettersThat_29 rfl (lv_at hl 2 rfl) ?_
          refine lv_iload_n F.1 F.2.1 dX9_lettersThat_30 rfl (lv_at hl 3 rfl) ?_
          refine lv_iload F.1 F.2.1 dX9_lettersThat_31 (lv_at hl 1 rfl) ?_
          refine h_iconst F dX9_lettersThat_33 ?_
          refine cl_RX9_139 (As := [.int (iI k), .int (iI j), .int (iI 1)]) (rest := []) F hl (c_pic_t l X w mo v σ k j hM hs hwf (by omega) (by omega) (by assumption)) hW hS hM rfl rfl ⟨Nat.le_of_ble_eq_true rfl, Nat.le_of_ble_eq_true rfl⟩ (Nat.le_of_ble_eq_true rfl) ⟨Nat.zero_le _, Nat.zero_le _⟩ dX9_lettersThat_34 (fun w1 H locs hp6 hW hS => ?_)
          rw [hp6] at hW; clear hp6; clear w1
          have hpg := picS_r σ k j true
          refine cl_RX9_146 (As := [.int (iI (picS σ k j true))]) (rest := []) F hl (c_X9_letterOf l X w (picS σ k j true) (by omega)) hW hS rfl rfl ⟨Nat.le_of_ble_eq_true rfl, Nat.le_of_ble_eq_true rfl⟩ (Nat.le_of_ble_eq_true rfl) ⟨Nat.zero_le _, Nat.zero_le _⟩ dX9_lettersThat_37 (fun w1 H locs hp7 hW hS => ?_)
          rw [hp7] at hW; clear hp7; clear w1
          refine h_goto (tgt := 60) F dX9_lettersThat_40 (by decide) ?_
          refine lv_istore (lv' := [(5, .int (iI (ltrS (picS σ k j true)))), (3, .int (iI (cnt (fun z => legS σ k && decide (ltrS (picS σ k z true) = tdS σ k z)) 0 j))), (4, .int (iI j)), (0, .ref mo), (1, .int (iI k)), (2, .int (iI 2))]) F.1 F.2.1 dX9_lettersThat_60 hl (by decide) rfl (fun ls hl => ?_)
          refine lv_iload_n F.1 F.2.1 dX9_lettersThat_62 rfl (lv_at hl 1 rfl) ?_
          have ht1 : 1 ≤ tdS σ k j ∧ tdS σ k j ≤ 26 := by have := m6 j (by omega) (by omega); unfold tdS; omega
          have hr1 := ltrS_r (picS σ k j true)
          have hr2 := ltrS_r (picS σ k j false)
          have hr3 := ltrS_r (revS (picS σ k j false))
          have hr4 : 0 ≤ rdS σ k j false ∧ rdS σ k j false ≤ 26 := ltrS_r _
          have hr5 : 0 ≤ rdS σ k j true ∧ rdS σ k j true ≤ 26 := ltrS_r _
          refine lv_iload F.1 F.2.1 dX9_lettersThat_63 (lv_at hl 0 rfl) ?_
          refine lv_aload_n F.1 F.2.1 dX9_lettersThat_65 rfl (lv_at hl 3 rfl) ?_
          refine lv_iload_n F.1 F.2.1 dX9_lettersThat_66 rfl (lv_at hl 4 rfl) ?_
          refine lv_iload F.1 F.2.1 dX9_lettersThat_67 (lv_at hl 2 rfl) ?_
          refine cl_RX9_155 (As := [.int (iI k), .int (iI j)]) (rest := [.int (iI (ltrS (picS σ k j true))), .int (iI (cnt (fun z => legS σ k && decide (ltrS (picS σ k z true) = tdS σ k z)) 0 j))]) F hl (c_X9_told l X w mo v σ k j hM hs hwf (by omega) (by omega)) hW hS hM rfl rfl ⟨Nat.le_of_ble_eq_true rfl, Nat.le_of_ble_eq_true rfl⟩ (Nat.le_of_ble_eq_true rfl) ⟨Nat.zero_le _, Nat.zero_le _⟩ dX9_lettersThat_69 (fun w1 H locs hp8 hW hS => ?_)
          rw [hp8] at hW; clear hp8; clear w1
          refine h_icne (tgt := 79) F dX9_lettersThat_72 (by decide) (by omega) (fun c9 => ?_) (fun c9 => ?_)
          · refine h_iconst F dX9_lettersThat_79 ?_
            refine h_iadd (a := cnt (fun z => legS σ k && decide (ltrS (picS σ k z true) = tdS σ k z)) 0 j) (b := 0) F dX9_lettersThat_80 ?_
            refine lv_istore_n (lv' := [(3, .int (iI ((cnt (fun z => legS σ k && decide (ltrS (picS σ k z true) = tdS σ k z)) 0 j) + 0))), (5, .int (iI (ltrS (picS σ k j true)))), (4, .int (iI j)), (0, .ref mo), (1, .int (iI k)), (2, .int (iI 2))]) F.1 F.2.1 dX9_lettersThat_81 rfl hl (by decide) rfl (fun ls hl => ?_)
            refine h_iinc (k := 2) (a := j) (lv' := [(4, .int (iI (j + 1))), (3, .int (iI ((cnt (fun z => legS σ k && decide (ltrS (picS σ k z true) = tdS σ k z)) 0 j) + 0))), (5, .int (iI (ltrS (picS σ k j true)))), (0, .ref mo), (1, .int (iI k)), (2, .int (iI 2))]) F dX9_lettersThat_82 hl rfl (by decide) rfl (fun ls hl => ?_)
            refine h_goto (tgt := 5) F dX9_lettersThat_85 (by decide) ?_
            have eq10 : (cnt (fun z => legS σ k && decide (ltrS (picS σ k z true) = tdS σ k z)) 0 (j + 1) : Int) = (cnt (fun z => legS σ k && decide (ltrS (picS σ k z true) = tdS σ k z)) 0 j) + 0 := by first | exact cnt_t (by omega) (by rw [‹legS σ k = true›, decide_eq_true (by assumption)]; rfl) | (rw [cnt_f (by omega) (by rw [decide_eq_false (by assumption)]; simp)]; omega)
            have eq11 : ((j + 1) : Int) = j + 1 := by first | rfl | omega | simp
            exact ih5 (j + 1)  (by omega) (by omega)   _ _ ls hW hS (by rw [eq10, eq11]; exact lv_sub hl [1, 0, 3, 4, 5] rfl)
          · refine h_iconst F dX9_lettersThat_75 ?_
            refine h_goto (tgt := 80) F dX9_lettersThat_76 (by decide) ?_
            refine h_iadd (a := cnt (fun z => legS σ k && decide (ltrS (picS σ k z true) = tdS σ k z)) 0 j) (b := 1) F dX9_lettersThat_80 ?_
            refine lv_istore_n (lv' := [(3, .int (iI ((cnt (fun z => legS σ k && decide (ltrS (picS σ k z true) = tdS σ k z)) 0 j) + 1))), (5, .int (iI (ltrS (picS σ k j true)))), (4, .int (iI j)), (0, .ref mo), (1, .int (iI k)), (2, .int (iI 2))]) F.1 F.2.1 dX9_lettersThat_81 rfl hl (by decide) rfl (fun ls hl => ?_)
            refine h_iinc (k := 2) (a := j) (lv' := [(4, .int (iI (j + 1))), (3, .int (iI ((cnt (fun z => legS σ k && decide (ltrS (picS σ k z true) = tdS σ k z)) 0 j) + 1))), (5, .int (iI (ltrS (picS σ k j true)))), (0, .ref mo), (1, .int (iI k)), (2, .int (iI 2))]) F dX9_lettersThat_82 hl rfl (by decide) rfl (fun ls hl => ?_)
            refine h_goto (tgt := 5) F dX9_lettersThat_85 (by decide) ?_
            have eq12 : (cnt (fun z => legS σ k && decide (ltrS (picS σ k z true) = tdS σ k z)) 0 (j + 1) : Int) = (cnt (fun z => legS σ k && decide (ltrS (picS σ k z true) = tdS σ k z)) 0 j) + 1 := by first | exact cnt_t (by omega) (by rw [‹legS σ k = true›, decide_eq_true (by assumption)]; rfl) | (rw [cnt_f (by omega) (by rw [decide_eq_false (by assumption)]; simp)]; omega)
            have eq13 : ((j + 1) : Int) = j + 1 := by first | rfl | omega | simp
            exact ih5 (j + 1)  (by omega) (by omega)   _ _ ls hW hS (by rw [eq12, eq13]; exact lv_sub hl [1, 0, 3, 4, 5] rfl)
  have eq14 : (cnt (fun z => legS σ k && decide (ltrS (picS σ k z true) = tdS σ k z)) 0 0 : Int) = 0 := cnt_0 _ _
  exact loop5 ((cp σ k 0 - 0) + 1 : Int).toNat 0  (by omega) (by omega)   _ _ ls hW hS (by rw [eq14]; exact lv_sub hl [1, 0, 2, 3, 4] rfl)
set_option maxHeartbeats 4000000 in
set_option maxRecDepth 100000 in
theorem c_X9_mistakesOf (l : Launch) (X : Cx) (w : Wo) (mo : Nat) (v σ : Int → Int) (k : Int) (hM : w mo = some (.inr (9, mL mo v))) (hs : w (mo + 1) = some (aZ X 1317 σ)) (hwf : WF σ) (hk : 0 ≤ k ∧ k < σ 5) : CM l X yX9_mistakesOf cX9_mistakesOf 6 (some (.int)) (rmk 4 92) [.ref mo, .int (iI k)] w (some (.int (iI (sm (fun z => cnt (fun y => misS σ (capCol σ k (cp σ k 2 + z)) (cp σ k 3 + y)) 0 5) 0 (4 * cp σ k 0 - 1))))) (fun w' => w' = w) := by
  refine CM.of (lv := [(0, .ref mo), (1, .int (iI k))]) (by decide) (Nat.le_of_ble_eq_true rfl) rfl (fun p e s m below meth c ls F hr hlk hin hW hS hl => ?_)
  have hZ0 := hW.2.2
  have hB9 := hW.1.2
  clear hin
  have hF := hwf.1
  unfold WF0 at hF
  obtain ⟨m1, m2, m3, m4, m5, m6⟩ := hwf.2.2.1 k (by omega) (by omega)
  refine h_iconst F dX9_mistakesOf_0 ?_
  refine lv_istore_n (lv' := [(2, .int (iI 0)), (0, .ref mo), (1, .int (iI k))]) F.1 F.2.1 dX9_mistakesOf_1 rfl hl (by decide) rfl (fun ls hl => ?_)
  refine h_iconst F dX9_mistakesOf_2 ?_
  refine lv_istore_n (lv' := [(3, .int (iI 0)), (2, .int (iI 0)), (0, .ref mo), (1, .int (iI k))]) F.1 F.2.1 dX9_mistakesOf_3 rfl hl (by decide) rfl (fun ls hl => ?_)
  have loop4 : ∀ (n9 : Nat) (ov : Int), (hrg : 0 ≤ ov ∧ ov ≤ 4 * cp σ k 0 - 1) → (hms : 4 * cp σ k 0 - 1 - ov < (n9 : Int)) → (H : Heap) → (locs : List Loc) → (ls : Array Slot) → Wd X w s H → va_S (cxA X) s.heap H locs → lv_has ls 6 [(2, .int (iI (sm (fun z => cnt (fun y => misS σ (capCol σ k (cp σ k 2 + z)) (cp σ k 3 + y)) 0 5) 0 ov))), (3, .int (iI ov)), (0, .ref mo), (1, .int (iI k))] → W p l e (rmk 4 92) s m (List.toArray [.ref mo, .int (iI k)]) below meth c H locs 0 0 (MX X below (List.toArray [.ref mo, .int (iI k)]) s 0 0 (some (.int (iI (sm (fun z => cnt (fun y => misS σ (capCol σ k (cp σ k 2 + z)) (cp σ k 3 + y)) 0 5) 0 (4 * cp σ k 0 - 1))))) (fun w' => w' = w)) (F0 m 4 ls []) := by
    intro n9
    induction n9 with
    | zero => intro ov  hrg hms; exfalso; omega
    | succ n9 ih4 =>
      intro ov  hrg hms   H locs ls hW hS hl
      refine lv_iload_n F.1 F.2.1 dX9_mistakesOf_4 rfl (lv_at hl 1 rfl) ?_
      refine h_iconst F dX9_mistakesOf_5 ?_
      refine lv_aload_n F.1 F.2.1 dX9_mistakesOf_6 rfl (lv_at hl 2 rfl) ?_
      refine lv_iload_n F.1 F.2.1 dX9_mistakesOf_7 rfl (lv_at hl 3 rfl) ?_
      refine h_iconst F dX9_mistakesOf_8 ?_
      refine cl_RX9_95 (As := [.int (iI k), .int (iI 0)]) (rest := [.int (iI 4), .int (iI ov)]) F hl (c_X9_cap l X w mo v σ k 0 hM hs hwf (by omega)) hW hS hM rfl rfl ⟨Nat.le_of_ble_eq_true rfl, Nat.le_of_ble_eq_true rfl⟩ (Nat.le_of_ble_eq_true rfl) ⟨Nat.zero_le _, Nat.zero_le _⟩ dX9_mistakesOf_9 (fun w1 H locs hp1 hW hS => ?_)
      rw [hp1] at hW; clear hp1; clear w1
      refine h_imul (a := 4) (b := cp σ k 0) F dX9_mistakesOf_12 ?_
      refine h_iconst F dX9_mistakesOf_13 ?_
      refine h_isub (a := 4 * (cp σ k 0)) (b := 2) F dX9_mistakesOf_14 ?_
      refine h_icgt (tgt := 93) F dX9_mistakesOf_15 (by decide) (by omega) (fun c2 => ?_) (fun c2 => ?_)
      · refine lv_iload_n F.1 F.2.1 dX9_mistakesOf_93 rfl (lv_at hl 0 rfl) ?_
        refine h_top (show (sm (fun z => cnt (fun y => misS σ (capCol σ k (cp σ k 2 + z)) (cp σ k 3 + y)) 0 5) 0 ov : Int) = sm (fun z => cnt (fun y => misS σ (capCol σ k (cp σ k 2 + z)) (cp σ k 3 + y)) 0 5) 0 (4 * cp σ k 0 - 1) from by rw [show ov = 4 * cp σ k 0 - 1 by omega]) ?_
        exact h_ireti F hr hlk hW hS rfl dX9_mistakesOf_94
      · refine lv_aload_n F.1 F.2.1 dX9_mistakesOf_18 rfl (lv_at hl 2 rfl) ?_
        refine lv_iload_n F.1 F.2.1 dX9_mistakesOf_19 rfl (lv_at hl 3 rfl) ?_
        refine h_iconst F dX9_mistakesOf_20 ?_
        refine cl_RX9_95 (As := [.int (iI k), .int (iI 2)]) (rest := []) F hl (c_X9_cap l X w mo v σ k 2 hM hs hwf (by omega)) hW hS hM rfl rfl ⟨Nat.le_of_ble_eq_true rfl, Nat.le_of_ble_eq_true rfl⟩ (Nat.le_of_ble_eq_true rfl) ⟨Nat.zero_le _, Nat.zero_le _⟩ dX9_mistakesOf_21 (fun w1 H locs hp3 hW hS => ?_)
        rw [hp3] at hW; clear hp3; clear w1
        refine lv_iload_n F.1 F.2.1 dX9_mistakesOf_24 rfl (lv_at hl 1 rfl) ?_
        refine h_iadd (a := cp σ k 2) (b := ov) F dX9_mistakesOf_25 ?_
        refine lv_istore (lv' := [(4, .int (iI ((cp σ k 2) + ov))), (2, .int (iI (sm (fun z => cnt (fun y => misS σ (capCol σ k (cp σ k 2 + z)) (cp σ k 3 + y)) 0 5) 0 ov))), (3, .int (iI ov)), (0, .ref mo), (1, .int (iI k))]) F.1 F.2.1 dX9_mistakesOf_26 hl (by decide) rfl (fun ls hl => ?_)
        refine h_iconst F dX9_mistakesOf_28 ?_
        refine lv_istore (lv' := [(5, .int (iI 0)), (4, .int (iI ((cp σ k 2) + ov))), (2, .int (iI (sm (fun z => cnt (fun y => misS σ (capCol σ k (cp σ k 2 + z)) (cp σ k 3 + y)) 0 5) 0 ov))), (3, .int (iI ov)), (0, .ref mo), (1, .int (iI k))]) F.1 F.2.1 dX9_mistakesOf_29 hl (by decide) rfl (fun ls hl => ?_)
        have loop31 : ∀ (n9 : Nat) (u : Int), (hrg : 0 ≤ u ∧ u ≤ 5) → (hms : 5 - u < (n9 : Int)) → (H : Heap) → (locs : List Loc) → (ls : Array Slot) → Wd X w s H → va_S (cxA X) s.heap H locs → lv_has ls 6 [(2, .int (iI (sm (fun z => cnt (fun y => misS σ (capCol σ k (cp σ k 2 + z)) (cp σ k 3 + y)) 0 5) 0 ov + cnt (fun y => misS σ (capCol σ k (cp σ k 2 + ov)) (cp σ k 3 + y)) 0 u))), (5, .int (iI u)), (4, .int (iI ((cp σ k 2) + ov))), (3, .int (iI ov)), (0, .ref mo), (1, .int (iI k))] → W p l e (rmk 4 92) s m (List.toArray [.ref mo, .int (iI k)]) below meth c H locs 0 0 (MX X below (List.toArray [.ref mo, .int (iI k)]) s 0 0 (some (.int (iI (sm (fun z => cnt (fun y => misS σ (capCol σ k (cp σ k 2 + z)) (cp σ k 3 + y)) 0 5) 0 (4 * cp σ k 0 - 1))))) (fun w' => w' = w)) (F0 m 31 ls []) := by
          intro n9
          induction n9 with
          | zero => intro u  hrg hms; exfalso; omega
          | succ n9 ih31 =>
            intro u  hrg hms   H locs ls hW hS hl
            refine lv_iload F.1 F.2.1 dX9_mistakesOf_31 (lv_at hl 1 rfl) ?_
            refine h_iconst F dX9_mistakesOf_33 ?_
            refine h_icge (tgt := 87) F dX9_mistakesOf_34 (by decide) (by omega) (fun c4 => ?_) (fun c4 => ?_)
            · refine h_iinc (k := 3) (a := ov) (lv' := [(3, .int (iI (ov + 1))), (2, .int (iI (sm (fun z => cnt (fun y => misS σ (capCol σ k (cp σ k 2 + z)) (cp σ k 3 + y)) 0 5) 0 ov + cnt (fun y => misS σ (capCol σ k (cp σ k 2 + ov)) (cp σ k 3 + y)) 0 u))), (5, .int (iI u)), (4, .int (iI ((cp σ k 2) + ov))), (0, .ref mo), (1, .int (iI k))]) F dX9_mistakesOf_87 hl rfl (by decide) rfl (fun ls hl => ?_)
              refine h_goto (tgt := 4) F dX9_mistakesOf_90 (by decide) ?_
              have eq5 : (sm (fun z => cnt (fun y => misS σ (capCol σ k (cp σ k 2 + z)) (cp σ k 3 + y)) 0 5) 0 (ov + 1) : Int) = sm (fun z => cnt (fun y => misS σ (capCol σ k (cp σ k 2 + z)) (cp σ k 3 + y)) 0 5) 0 ov + cnt (fun y => misS σ (capCol σ k (cp σ k 2 + ov)) (cp σ k 3 + y)) 0 u := by rw [sm_s _ (by omega), show u = 5 by omega]
              have eq6 : ((ov + 1) : Int) = ov + 1 := by first | rfl | omega | simp
              exact ih4 (ov + 1)  (by omega) (by omega)   _ _ ls hW hS (by rw [eq5, eq6]; exact lv_sub hl [1, 0, 4, 5] rfl)
            · refine lv_iload_n F.1 F.2.1 dX9_mistakesOf_37 rfl (lv_at hl 0 rfl) ?_
              refine lv_aload_n F.1 F.2.1 dX9_mistakesOf_38 rfl (lv_at hl 4 rfl) ?_
              have join59 : ∀ (H : Heap) (locs : List Loc) (ls : Array Slot), Wd X w s H → va_S (cxA X) s.heap H locs → lv_has ls 6 [(2, .int (iI (sm (fun z => cnt (fun y => misS σ (capCol σ k (cp σ k 2 + z)) (cp σ k 3 + y)) 0 5) 0 ov + cnt (fun y => misS σ (capCol σ k (cp σ k 2 + ov)) (cp σ k 3 + y)) 0 u))), (5, .int (iI u)), (4, .int (iI ((cp σ k 2) + ov))), (3, .int (iI ov)), (0, .ref mo), (1, .int (iI k))] → W p l e (rmk 4 92) s m (List.toArray [.ref mo, .int (iI k)]) below meth c H locs 0 0 (MX X below (List.toArray [.ref mo, .int (iI k)]) s 0 0 (some (.int (iI (sm (fun z => cnt (fun y => misS σ (capCol σ k (cp σ k 2 + z)) (cp σ k 3 + y)) 0 5) 0 (4 * cp σ k 0 - 1))))) (fun w' => w' = w)) (F0 m 59 ls [.int (iI (capCol σ k (cp σ k 2 + ov))), .ref mo, .int (iI (sm (fun z => cnt (fun y => misS σ (capCol σ k (cp σ k 2 + z)) (cp σ k 3 + y)) 0 5) 0 ov + cnt (fun y => misS σ (capCol σ k (cp σ k 2 + ov)) (cp σ k 3 + y)) 0 u))]) := by
                intro  H locs ls  hW hS hl
                have hcc : 0 ≤ capCol σ k (cp σ k 2 + ov) ∧ capCol σ k (cp σ k 2 + ov) < σ 0 := by unfold capCol turnS; split <;> omega
                refine lv_aload_n F.1 F.2.1 dX9_mistakesOf_59 rfl (lv_at hl 4 rfl) ?_
                refine lv_iload_n F.1 F.2.1 dX9_mistakesOf_60 rfl (lv_at hl 5 rfl) ?_
                refine h_iconst F dX9_mistakesOf_61 ?_
                refine cl_RX9_95 (As := [.int (iI k), .int (iI 3)]) (rest := [.int (iI (capCol σ k (cp σ k 2 + ov))), .ref mo, .int (iI (sm (fun z => cnt (fun y => misS σ (capCol σ k (cp σ k 2 + z)) (cp σ k 3 + y)) 0 5) 0 ov + cnt (fun y => misS σ (capCol σ k (cp σ k 2 + ov)) (cp σ k 3 + y)) 0 u))]) F hl (c_X9_cap l X w mo v σ k 3 hM hs hwf (by omega)) hW hS hM rfl rfl ⟨Nat.le_of_ble_eq_true rfl, Nat.le_of_ble_eq_true rfl⟩ (Nat.le_of_ble_eq_true rfl) ⟨Nat.zero_le _, Nat.zero_le _⟩ dX9_mistakesOf_62 (fun w1 H locs hp7 hW hS => ?_)
                rw [hp7] at hW; clear hp7; clear w1
                refine lv_iload F.1 F.2.1 dX9_mistakesOf_65 (lv_at hl 1 rfl) ?_
                refine h_iadd (a := cp σ k 3) (b := u) F dX9_mistakesOf_67 ?_
                refine cl_RX9_119 (As := [.int (iI (capCol σ k (cp σ k 2 + ov))), .int (iI ((cp σ k 3) + u))]) (rest := [.int (iI (sm (fun z => cnt (fun y => misS σ (capCol σ k (cp σ k 2 + z)) (cp σ k 3 + y)) 0 5) 0 ov + cnt (fun y => misS σ (capCol σ k (cp σ k 2 + ov)) (cp σ k 3 + y)) 0 u))]) F hl (c_X9_isMistake l X w mo v σ (capCol σ k (cp σ k 2 + ov)) ((cp σ k 3) + u) hM hs hwf (by omega)) hW hS hM rfl rfl ⟨Nat.le_of_ble_eq_true rfl, Nat.le_of_ble_eq_true rfl⟩ (Nat.le_of_ble_eq_true rfl) ⟨Nat.zero_le _, Nat.zero_le _⟩ dX9_mistakesOf_68 (fun w1 H locs hp8 hW hS => ?_)
                rw [hp8] at hW; clear hp8; clear w1
                refine h_ifeqb (tgt := 78) F dX9_mistakesOf_71 (by decide) (fun c9 => ?_) (fun c9 => ?_)
                · refine h_iconst F dX9_mistakesOf_78 ?_
                  refine h_iadd (a := sm (fun z => cnt (fun y => misS σ (capCol σ k (cp σ k 2 + z)) (cp σ k 3 + y)) 0 5) 0 ov + cnt (fun y => misS σ (capCol σ k (cp σ k 2 + ov)) (cp σ k 3 + y)) 0 u) (b := 0) F dX9_mistakesOf_79 ?_
                  refine lv_istore_n (lv' := [(2, .int (iI ((sm (fun z => cnt (fun y => misS σ (capCol σ k (cp σ k 2 + z)) (cp σ k 3 + y)) 0 5) 0 ov + cnt (fun y => misS σ (capCol σ k (cp σ k 2 + ov)) (cp σ k 3 + y)) 0 u) + 0))), (5, .int (iI u)), (4, .int (iI ((cp σ k 2) + ov))), (3, .int (iI ov)), (0, .ref mo), (1, .int (iI k))]) F.1 F.2.1 dX9_mistakesOf_80 rfl hl (by decide) rfl (fun ls hl => ?_)
                  refine h_iinc (k := 1) (a := u) (lv' := [(5, .int (iI (u + 1))), (2, .int (iI ((sm (fun z => cnt (fun y => misS σ (capCol σ k (cp σ k 2 + z)) (cp σ k 3 + y)) 0 5) 0 ov + cnt (fun y => misS σ (capCol σ k (cp σ k 2 + ov)) (cp σ k 3 + y)) 0 u) + 0))), (4, .int (iI ((cp σ k 2) + ov))), (3, .int (iI ov)), (0, .ref mo), (1, .int (iI k))]) F dX9_mistakesOf_81 hl rfl (by decide) rfl (fun ls hl => ?_)
                  refine h_goto (tgt := 31) F dX9_mistakesOf_84 (by decide) ?_
                  have eq10 : (sm (fun z => cnt (fun y => misS σ (capCol σ k (cp σ k 2 + z)) (cp σ k 3 + y)) 0 5) 0 ov + cnt (fun y => misS σ (capCol σ k (cp σ k 2 + ov)) (cp σ k 3 + y)) 0 (u + 1) : Int) = (sm (fun z => cnt (fun y => misS σ (capCol σ k (cp σ k 2 + z)) (cp σ k 3 + y)) 0 5) 0 ov + cnt (fun y => misS σ (capCol σ k (cp σ k 2 + ov)) (cp σ k 3 + y)) 0 u) + 0 := by first | (rw [cnt_t (by omega) (by assumption)]; omega) | (rw [cnt_f (by omega) (by assumption)]; omega)
                  have eq11 : ((u + 1) : Int) = u + 1 := by first | rfl | omega | simp
                  exact ih31 (u + 1)  (by omega) (by omega)   _ _ ls hW hS (by rw [eq10, eq11]; exact lv_sub hl [1, 0, 2, 3, 4, 5] rfl)
                · refine h_iconst F dX9_mistakesOf_74 ?_
                  refine h_goto (tgt := 79) F dX9_mistakesOf_75 (by decide) ?_
                  refine h_iadd (a := sm (fun z => cnt (fun y => misS σ (capCol σ k (cp σ k 2 + z)) (cp σ k 3 + y)) 0 5) 0 ov + cnt (fun y => misS σ (capCol σ k (cp σ k 2 + ov)) (cp σ k 3 + y)) 0 u) (b := 1) F dX9_mistakesOf_79 ?_
                  refine lv_istore_n (lv' := [(2, .int (iI ((sm (fun z => cnt (fun y => misS σ (capCol σ k (cp σ k 2 + z)) (cp σ k 3 + y)) 0 5) 0 ov + cnt (fun y => misS σ (capCol σ k (cp σ k 2 + ov)) (cp σ k 3 + y)) 0 u) + 1))), (5, .int (iI u)), (4, .int (iI ((cp σ k 2) + ov))), (3, .int (iI ov)), (0, .ref mo), (1, .int (iI k))]) F.1 F.2.1 dX9_mistakesOf_80 rfl hl (by decide) rfl (fun ls hl => ?_)
                  refine h_iinc (k := 1) (a := u) (lv' := [(5, .int (iI (u + 1))), (2, .int (iI ((sm (fun z => cnt (fun y => misS σ (capCol σ k (cp σ k 2 + z)) (cp σ k 3 + y)) 0 5) 0 ov + cnt (fun y => misS σ (capCol σ k (cp σ k 2 + ov)) (cp σ k 3 + y)) 0 u) + 1))), (4, .int (iI ((cp σ k 2) + ov))), (3, .int (iI ov)), (0, .ref mo), (1, .int (iI k))]) F dX9_mistakesOf_81 hl rfl (by decide) rfl (fun ls hl => ?_)
                  refine h_goto (tgt := 31) F dX9_mistakesOf_84 (by decide) ?_
                  have eq12 : (sm (fun z => cnt (fun y => misS σ (capCol σ k (cp σ k 2 + z)) (cp σ k 3 + y)) 0 5) 0 ov + cnt (fun y => misS σ (capCol σ k (cp σ k 2 + ov)) (cp σ k 3 + y)) 0 (u + 1) : Int) = (sm (fun z => cnt (fun y => misS σ (capCol σ k (cp σ k 2 + z)) (cp σ k 3 + y)) 0 5) 0 ov + cnt (fun y => misS σ (capCol σ k (cp σ k 2 + ov)) (cp σ k 3 + y)) 0 u) + 1 := by first | (rw [cnt_t (by omega) (by assumption)]; omega) | (rw [cnt_f (by omega) (by assumption)]; omega)
                  have eq13 : ((u + 1) : Int) = u + 1 := by first | rfl | omega | simp
                  exact ih31 (u + 1)  (by omega) (by omega)   _ _ ls hW hS (by rw [eq12, eq13]; exact lv_sub hl [1, 0, 2, 3, 4, 5] rfl)
              refine lv_aload_n F.1 F.2.1 dX9_mistakesOf_39 rfl (lv_at hl 4 rfl) ?_
              refine lv_iload_n F.1 F.2.1 dX9_mistakesOf_40 rfl (lv_at hl 5 rfl) ?_
              refine h_iconst F dX9_mistakesOf_41 ?_
              refine cl_RX9_95 (As := [.int (iI k), .int (iI 1)]) (rest := [.ref mo, .int (iI (sm (fun z => cnt (fun y => misS σ (capCol σ k (cp σ k 2 + z)) (cp σ k 3 + y)) 0 5) 0 ov + cnt (fun y => misS σ (capCol σ k (cp σ k 2 + ov)) (cp σ k 3 + y)) 0 u))]) F hl (c_X9_cap l X w mo v σ k 1 hM hs hwf (by omega)) hW hS hM rfl rfl ⟨Nat.le_of_ble_eq_true rfl, Nat.le_of_ble_eq_true rfl⟩ (Nat.le_of_ble_eq_true rfl) ⟨Nat.zero_le _, Nat.zero_le _⟩ dX9_mistakesOf_42 (fun w1 H locs hp14 hW hS => ?_)
              rw [hp14] at hW; clear hp14; clear w1
              refine h_ifne (tgt := 53) F dX9_mistakesOf_45 (by decide) (by omega) (fun c15 => ?_) (fun c15 => ?_)
              · refine lv_aload_n F.1 F.2.1 dX9_mistakesOf_53 rfl (lv_at hl 4 rfl) ?_
                refine lv_iload F.1 F.2.1 dX9_mistakesOf_54 (lv_at hl 2 rfl) ?_
                refine cl_RX9_102 (As := [.int (iI ((cp σ k 2) + ov))]) (rest := [.ref mo, .int (iI (sm (fun z => cnt (fun y => misS σ (capCol σ k (cp σ k 2 + z)) (cp σ k 3 + y)) 0 5) 0 ov + cnt (fun y => misS σ (capCol σ k (cp σ k 2 + ov)) (cp σ k 3 + y)) 0 u))]) F hl (c_X9_turned l X w mo v σ ((cp σ k 2) + ov) hM hs hwf) hW hS hM rfl rfl ⟨Nat.le_of_ble_eq_true rfl, Nat.le_of_ble_eq_true rfl⟩ (Nat.le_of_ble_eq_true rfl) ⟨Nat.zero_le _, Nat.zero_le _⟩ dX9_mistakesOf_56 (fun w1 H locs hp16 hW hS => ?_)
                rw [hp16] at hW; clear hp16; clear w1
                refine h_top (show (turnS σ ((cp σ k 2) + ov) : Int) = capCol σ k (cp σ k 2 + ov) from by unfold capCol; split <;> first | rfl | omega) ?_
                exact join59  _ _ ls  hW hS (lv_sub hl [0, 1, 2, 3, 4, 5] rfl)
              · refine lv_iload F.1 F.2.1 dX9_mistakesOf_48 (lv_at hl 2 rfl) ?_
                refine h_goto (tgt := 59) F dX9_mistakesOf_50 (by decide) ?_
                refine h_top (show ((cp σ k 2) + ov : Int) = capCol σ k (cp σ k 2 + ov) from by unfold capCol; split <;> first | rfl | omega) ?_
                exact join59  _ _ ls  hW hS (lv_sub hl [0, 1, 2, 3, 4, 5] rfl)
        have eq17 : (sm (fun z => cnt (fun y => misS σ (capCol σ k (cp σ k 2 + z)) (cp σ k 3 + y)) 0 5) 0 ov + cnt (fun y => misS σ (capCol σ k (cp σ k 2 + ov)) (cp σ k 3 + y)) 0 0 : Int) = sm (fun z => cnt (fun y => misS σ (capCol σ k (cp σ k 2 + z)) (cp σ k 3 + y)) 0 5) 0 ov := by rw [cnt_0]; omega
        exact loop31 ((5 - 0) + 1 : Int).toNat 0  (by omega) (by omega)   _ _ ls hW hS (by rw [eq17]; exact lv_sub hl [2, 0, 1, 3, 4, 5] rfl)
  have eq18 : (sm (fun z => cnt (fun y => misS σ (capCol σ k (cp σ k 2 + z)) (cp σ k 3 + y)) 0 5) 0 0 : Int) = 0 := sm_0 _ _
  exact loop4 ((4 * cp σ k 0 - 1 - 0) + 1 : Int).toNat 0  (by omega) (by omega)   _ _ ls hW hS (by rw [eq18]; exact lv_sub hl [1, 0, 2, 3] rfl)
set_option maxHeartbeats 4000000 in
set_option maxRecDepth 100000 in
theorem c_X9_cellsOpen (l : Launch) (X : Cx) (w : Wo) (mo : Nat) (v σ : Int → Int) (hM : w mo = some (.inr (9, mL mo v))) (hs : w (mo + 1) = some (aZ X 1317 σ)) (hwf : WF σ) : CM l X yX9_cellsOpen cX9_cellsOpen 3 (some (.int)) (rmk 2 43) [.ref mo] w (some (.int (iI (opnS σ)))) (fun w' => w' = w) := by
  refine CM.of (lv := [(0, .ref mo)]) (by decide) (Nat.le_of_ble_eq_true rfl) rfl (fun p e s m below meth c ls F hr hlk hin hW hS hl => ?_)
  have hZ0 := hW.2.2
  have hB9 := hW.1.2
  clear hin
  have hF := hwf.1
  unfold WF0 at hF
  refine h_iconst F dX9_cellsOpen_0 ?_
  refine lv_istore_n (lv' := [(1, .int (iI 0)), (0, .ref mo)]) F.1 F.2.1 dX9_cellsOpen_1 rfl hl (by decide) rfl (fun ls hl => ?_)
  refine h_iconst F dX9_cellsOpen_2 ?_
  refine lv_istore_n (lv' := [(2, .int (iI 0)), (1, .int (iI 0)), (0, .ref mo)]) F.1 F.2.1 dX9_cellsOpen_3 rfl hl (by decide) rfl (fun ls hl => ?_)
  have loop4 : ∀ (n9 : Nat) (i : Int), (hrg : 0 ≤ i ∧ i ≤ σ 0) → (hms : σ 0 - i < (n9 : Int)) → (H : Heap) → (locs : List Loc) → (ls : Array Slot) → Wd X w s H → va_S (cxA X) s.heap H locs → lv_has ls 3 [(1, .int (iI (cnt (opnB σ) 0 i))), (2, .int (iI i)), (0, .ref mo)] → W p l e (rmk 2 43) s m (List.toArray [.ref mo]) below meth c H locs 0 0 (MX X below (List.toArray [.ref mo]) s 0 0 (some (.int (iI (opnS σ)))) (fun w' => w' = w)) (F0 m 4 ls []) := by
    intro n9
    induction n9 with
    | zero => intro i  hrg hms; exfalso; omega
    | succ n9 ih4 =>
      intro i  hrg hms   H locs ls hW hS hl
      refine lv_iload_n F.1 F.2.1 dX9_cellsOpen_4 rfl (lv_at hl 1 rfl) ?_
      refine lv_aload_n F.1 F.2.1 dX9_cellsOpen_5 rfl (lv_at hl 2 rfl) ?_
      refine gf_RX9_7 F hW hM rfl dX9_cellsOpen_6 ?_
      refine h_iconst F dX9_cellsOpen_9 ?_
      refine h_iald F hW hs (by omega) (by omega) dX9_cellsOpen_10 ?_
      refine h_icge (tgt := 58) F dX9_cellsOpen_11 (by decide) (by omega) (fun c1 => ?_) (fun c1 => ?_)
      · refine lv_iload_n F.1 F.2.1 dX9_cellsOpen_58 rfl (lv_at hl 0 rfl) ?_
        refine h_top (show (cnt (opnB σ) 0 i : Int) = opnS σ from by unfold opnS; first | rw [show i = σ 0 by omega] | (have e9 : ∀ z, opnB σ z = false := fun z => (by unfold opnB; rw [decide_eq_false (p := σ 4 < σ 1) (by omega)]; rfl); simp only [e9, funext e9, cnt_n])) ?_
        exact h_ireti F hr hlk hW hS rfl dX9_cellsOpen_59
      · refine lv_aload_n F.1 F.2.1 dX9_cellsOpen_14 rfl (lv_at hl 2 rfl) ?_
        refine gf_RX9_7 F hW hM rfl dX9_cellsOpen_15 ?_
        refine h_iconst F dX9_cellsOpen_18 ?_
        refine h_iald F hW hs (by omega) (by omega) dX9_cellsOpen_19 ?_
        refine lv_aload_n F.1 F.2.1 dX9_cellsOpen_20 rfl (lv_at hl 2 rfl) ?_
        refine gf_RX9_7 F hW hM rfl dX9_cellsOpen_21 ?_
        refine h_iconst F dX9_cellsOpen_24 ?_
        refine h_iald F hW hs (by omega) (by omega) dX9_cellsOpen_25 ?_
        refine h_icge (tgt := 58) F dX9_cellsOpen_26 (by decide) (by omega) (fun c2 => ?_) (fun c2 => ?_)
        · refine lv_iload_n F.1 F.2.1 dX9_cellsOpen_58 rfl (lv_at hl 0 rfl) ?_
          refine h_top (show (cnt (opnB σ) 0 i : Int) = opnS σ from by unfold opnS; first | rw [show i = σ 0 by omega] | (have e9 : ∀ z, opnB σ z = false := fun z => (by unfold opnB; rw [decide_eq_false (p := σ 4 < σ 1) (by omega)]; rfl); simp only [e9, funext e9, cnt_n])) ?_
          exact h_ireti F hr hlk hW hS rfl dX9_cellsOpen_59
        · refine lv_iload_n F.1 F.2.1 dX9_cellsOpen_29 rfl (lv_at hl 0 rfl) ?_
          refine lv_aload_n F.1 F.2.1 dX9_cellsOpen_30 rfl (lv_at hl 2 rfl) ?_
          refine lv_iload_n F.1 F.2.1 dX9_cellsOpen_31 rfl (lv_at hl 1 rfl) ?_
          refine lv_aload_n F.1 F.2.1 dX9_cellsOpen_32 rfl (lv_at hl 2 rfl) ?_
          refine gf_RX9_7 F hW hM rfl dX9_cellsOpen_33 ?_
          refine h_iconst F dX9_cellsOpen_36 ?_
          refine h_iald F hW hs (by omega) (by omega) dX9_cellsOpen_37 ?_
          refine cl_RX9_113 (As := [.int (iI i), .int (iI (σ 4))]) (rest := [.int (iI (cnt (opnB σ) 0 i))]) F hl (c_X9_colourAt l X w mo v σ i (σ 4) hM hs hwf (by omega)) hW hS hM rfl rfl ⟨Nat.le_of_ble_eq_true rfl, Nat.le_of_ble_eq_true rfl⟩ (Nat.le_of_ble_eq_true rfl) ⟨Nat.zero_le _, Nat.zero_le _⟩ dX9_cellsOpen_38 (fun w1 H locs hp3 hW hS => ?_)
          rw [hp3] at hW; clear hp3; clear w1
          refine h_iconst F dX9_cellsOpen_41 ?_
          have hce := hwf.2.2.2.1 i (σ 4) (by omega) (by omega) (by omega) (by omega)
          refine h_icne (tgt := 49) F dX9_cellsOpen_42 (by decide) (by omega) (fun c4 => ?_) (fun c4 => ?_)
          · refine h_iconst F dX9_cellsOpen_49 ?_
            refine h_iadd (a := cnt (opnB σ) 0 i) (b := 1) F dX9_cellsOpen_50 ?_
            refine lv_istore_n (lv' := [(1, .int (iI ((cnt (opnB σ) 0 i) + 1))), (2, .int (iI i)), (0, .ref mo)]) F.1 F.2.1 dX9_cellsOpen_51 rfl hl (by decide) rfl (fun ls hl => ?_)
            refine h_iinc (k := 1) (a := i) (lv' := [(2, .int (iI (i + 1))), (1, .int (iI ((cnt (opnB σ) 0 i) + 1))), (0, .ref mo)]) F dX9_cellsOpen_52 hl rfl (by decide) rfl (fun ls hl => ?_)
            refine h_goto (tgt := 4) F dX9_cellsOpen_55 (by decide) ?_
            have eq5 : (cnt (opnB σ) 0 (i + 1) : Int) = (cnt (opnB σ) 0 i) + 1 := by first | (rw [cnt_t (by omega) (by unfold opnB; rw [decide_eq_true (by omega), decide_eq_true (by omega)]; rfl)]) | (rw [cnt_f (by omega) (by unfold opnB; rw [decide_eq_false (p := _ ≠ _) (by omega)]; simp)]; omega)
            have eq6 : ((i + 1) : Int) = i + 1 := by first | rfl | omega | simp
            exact ih4 (i + 1)  (by omega) (by omega)   _ _ ls hW hS (by rw [eq5, eq6]; exact lv_sub hl [1, 0, 2] rfl)
          · refine h_iconst F dX9_cellsOpen_45 ?_
            refine h_goto (tgt := 50) F dX9_cellsOpen_46 (by decide) ?_
            refine h_iadd (a := cnt (opnB σ) 0 i) (b := 0) F dX9_cellsOpen_50 ?_
            refine lv_istore_n (lv' := [(1, .int (iI ((cnt (opnB σ) 0 i) + 0))), (2, .int (iI i)), (0, .ref mo)]) F.1 F.2.1 dX9_cellsOpen_51 rfl hl (by decide) rfl (fun ls hl => ?_)
            refine h_iinc (k := 1) (a := i) (lv' := [(2, .int (iI (i + 1))), (1, .int (iI ((cnt (opnB σ) 0 i) + 0))), (0, .ref mo)]) F dX9_cellsOpen_52 hl rfl (by decide) rfl (fun ls hl => ?_)
            refine h_goto (tgt := 4) F dX9_cellsOpen_55 (by decide) ?_
            have eq7 : (cnt (opnB σ) 0 (i + 1) : Int) = (cnt (opnB σ) 0 i) + 0 := by first | (rw [cnt_t (by omega) (by unfold opnB; rw [decide_eq_true (by omega), decide_eq_true (by omega)]; rfl)]) | (rw [cnt_f (by omega) (by unfold opnB; rw [decide_eq_false (p := _ ≠ _) (by omega)]; simp)]; omega)
            have eq8 : ((i + 1) : Int) = i + 1 := by first | rfl | omega | simp
            exact ih4 (i + 1)  (by omega) (by omega)   _ _ ls hW hS (by rw [eq7, eq8]; exact lv_sub hl [1, 0, 2] rfl)
  have eq9 : (cnt (opnB σ) 0 0 : Int) = 0 := cnt_0 _ _
  exact loop4 ((σ 0 - 0) + 1 : Int).toNat 0  (by omega) (by omega)   _ _ ls hW hS (by rw [eq9]; exact lv_sub hl [1, 0, 2] rfl)
set_option maxHeartbeats 4000000 in
set_option maxRecDepth 100000 in
theorem c_cells_1 (l : Launch) (X : Cx) (w : Wo) (mo : Nat) (v σ : Int → Int) (co : Int) (hM : w mo = some (.inr (9, mL mo v))) (hs : w (mo + 1) = some (aZ X 1317 σ)) (hwf : WF σ) (hco : 0 ≤ co ∧ co < 7) : CM l X yX9_cellsOf cX9_cellsOf 7 (some (.int)) (rmk 3 70) [.ref mo, .int (iI co), .int (iI 1)] w (some (.int (iI (sm (fun y => if y < σ 4 then wovR σ co y else 0) 0 (σ 1))))) (fun w' => w' = w) := by
  refine CM.of (lv := [(0, .ref mo), (1, .int (iI co)), (2, .int (iI 1))]) (by decide) (Nat.le_of_ble_eq_true rfl) rfl (fun p e s m below meth c ls F hr hlk hin hW hS hl => ?_)
  have hZ0 := hW.2.2
  have hB9 := hW.1.2
  clear hin
  have hF := hwf.1
  unfold WF0 at hF
  refine h_iconst F dX9_cellsOf_0 ?_
  refine lv_istore_n (lv' := [(3, .int (iI 0)), (0, .ref mo), (1, .int (iI co)), (2, .int (iI 1))]) F.1 F.2.1 dX9_cellsOf_1 rfl hl (by decide) rfl (fun ls hl => ?_)
  refine h_iconst F dX9_cellsOf_2 ?_
  refine lv_istore (lv' := [(4, .int (iI 0)), (3, .int (iI 0)), (0, .ref mo), (1, .int (iI co)), (2, .int (iI 1))]) F.1 F.2.1 dX9_cellsOf_3 hl (by decide) rfl (fun ls hl => ?_)
  have loop5 : ∀ (n9 : Nat) (r : Int), (hrg : 0 ≤ r ∧ r ≤ σ 1) → (hms : σ 1 - r < (n9 : Int)) → (H : Heap) → (locs : List Loc) → (ls : Array Slot) → Wd X w s H → va_S (cxA X) s.heap H locs → lv_has ls 7 [(3, .int (iI (sm (fun y => if y < σ 4 then wovR σ co y else 0) 0 r))), (4, .int (iI r)), (0, .ref mo), (1, .int (iI co)), (2, .int (iI 1))] → W p l e (rmk 3 70) s m (List.toArray [.ref mo, .int (iI co), .int (iI 1)]) below meth c H locs 0 0 (MX X below (List.toArray [.ref mo, .int (iI co), .int (iI 1)]) s 0 0 (some (.int (iI (sm (fun y => if y < σ 4 then wovR σ co y else 0) 0 (σ 1))))) (fun w' => w' = w)) (F0 m 5 ls []) := by
    intro n9
    induction n9 with
    | zero => intro r  hrg hms; exfalso; omega
    | succ n9 ih5 =>
      intro r  hrg hms   H locs ls hW hS hl
      refine lv_iload F.1 F.2.1 dX9_cellsOf_5 (lv_at hl 1 rfl) ?_
      refine lv_aload_n F.1 F.2.1 dX9_cellsOf_7 rfl (lv_at hl 2 rfl) ?_
      refine gf_RX9_7 F hW hM rfl dX9_cellsOf_8 ?_
      refine h_iconst F dX9_cellsOf_11 ?_
      refine h_iald F hW hs (by omega) (by omega) dX9_cellsOf_12 ?_
      refine h_icge (tgt := 156) F dX9_cellsOf_13 (by decide) (by omega) (fun c1 => ?_) (fun c1 => ?_)
      · refine lv_iload_n F.1 F.2.1 dX9_cellsOf_156 rfl (lv_at hl 0 rfl) ?_
        refine h_top (show (sm (fun y => if y < σ 4 then wovR σ co y else 0) 0 r : Int) = sm (fun y => if y < σ 4 then wovR σ co y else 0) 0 (σ 1) from by rw [show r = σ 1 by omega]) ?_
        exact h_ireti F hr hlk hW hS rfl dX9_cellsOf_157
      · refine h_iconst F dX9_cellsOf_16 ?_
        refine lv_istore (lv' := [(5, .int (iI 0)), (3, .int (iI (sm (fun y => if y < σ 4 then wovR σ co y else 0) 0 r))), (4, .int (iI r)), (0, .ref mo), (1, .int (iI co)), (2, .int (iI 1))]) F.1 F.2.1 dX9_cellsOf_17 hl (by decide) rfl (fun ls hl => ?_)
        have loop19 : ∀ (n9 : Nat) (i : Int), (hrg : 0 ≤ i ∧ i ≤ σ 0) → (hms : σ 0 - i < (n9 : Int)) → (H : Heap) → (locs : List Loc) → (ls : Array Slot) → Wd X w s H → va_S (cxA X) s.heap H locs → lv_has ls 7 [(3, .int (iI (sm (fun y => if y < σ 4 then wovR σ co y else 0) 0 r + cnt (fun z => decide (r < σ 4) && decide (cellS σ z r = co)) 0 i))), (5, .int (iI i)), (4, .int (iI r)), (0, .ref mo), (1, .int (iI co)), (2, .int (iI 1))] → W p l e (rmk 3 70) s m (List.toArray [.ref mo, .int (iI co), .int (iI 1)]) below meth c H locs 0 0 (MX X below (List.toArray [.ref mo, .int (iI co), .int (iI 1)]) s 0 0 (some (.int (iI (sm (fun y => if y < σ 4 then wovR σ co y else 0) 0 (σ 1))))) (fun w' => w' = w)) (F0 m 19 ls []) := by
          intro n9
          induction n9 with
          | zero => intro i  hrg hms; exfalso; omega
          | succ n9 ih19 =>
            intro i  hrg hms   H locs ls hW hS hl
            refine lv_iload F.1 F.2.1 dX9_cellsOf_19 (lv_at hl 1 rfl) ?_
            refine lv_aload_n F.1 F.2.1 dX9_cellsOf_21 rfl (lv_at hl 3 rfl) ?_
            refine gf_RX9_7 F hW hM rfl dX9_cellsOf_22 ?_
            refine h_iconst F dX9_cellsOf_25 ?_
            refine h_iald F hW hs (by omega) (by omega) dX9_cellsOf_26 ?_
            refine h_icge (tgt := 150) F dX9_cellsOf_27 (by decide) (by omega) (fun c2 => ?_) (fun c2 => ?_)
            · refine h_iinc (k := 2) (a := r) (lv' := [(4, .int (iI (r + 1))), (3, .int (iI (sm (fun y => if y < σ 4 then wovR σ co y else 0) 0 r + cnt (fun z => decide (r < σ 4) && decide (cellS σ z r = co)) 0 i))), (5, .int (iI i)), (0, .ref mo), (1, .int (iI co)), (2, .int (iI 1))]) F dX9_cellsOf_150 hl rfl (by decide) rfl (fun ls hl => ?_)
              refine h_goto (tgt := 5) F dX9_cellsOf_153 (by decide) ?_
              have eq3 : (sm (fun y => if y < σ 4 then wovR σ co y else 0) 0 (r + 1) : Int) = sm (fun y => if y < σ 4 then wovR σ co y else 0) 0 r + cnt (fun z => decide (r < σ 4) && decide (cellS σ z r = co)) 0 i := by rw [sm_s _ (by omega), show i = σ 0 by omega]; first | rfl | (congr 1; split; (rw [show (fun z => decide (r < σ 4) && decide (cellS σ z r = co)) = (fun z => decide (cellS σ z r = co)) from funext (fun z => by rw [decide_eq_true (p := r < σ 4) (by omega)]; rfl)]; rfl); (rw [show (fun z => decide (r < σ 4) && decide (cellS σ z r = co)) = (fun _ => false) from funext (fun z => by rw [decide_eq_false (p := r < σ 4) (by omega)]; rfl), cnt_n]))
              have eq4 : ((r + 1) : Int) = r + 1 := by first | rfl | omega | simp
              exact ih5 (r + 1)  (by omega) (by omega)   _ _ ls hW hS (by rw [eq3, eq4]; exact lv_sub hl [1, 0, 3, 4, 5] rfl)
            · have join131 : ∀ (H : Heap) (locs : List Loc) (ls : Array Slot), Wd X w s H → va_S (cxA X) s.heap H locs → lv_has ls 7 [(6, .int (iI (bz (decide (r < σ 4) && decide (cellS σ i r = co))))), (3, .int (iI (sm (fun y => if y < σ 4 then wovR σ co y else 0) 0 r + cnt (fun z => decide (r < σ 4) && decide (cellS σ z r = co)) 0 i))), (5, .int (iI i)), (4, .int (iI r)), (0, .ref mo), (1, .int (iI co)), (2, .int (iI 1))] → W p l e (rmk 3 70) s m (List.toArray [.ref mo, .int (iI co), .int (iI 1)]) below meth c H locs 0 0 (MX X below (List.toArray [.ref mo, .int (iI co), .int (iI 1)]) s 0 0 (some (.int (iI (sm (fun y => if y < σ 4 then wovR σ co y else 0) 0 (σ 1))))) (fun w' => w' = w)) (F0 m 131 ls []) := by
                intro  H locs ls  hW hS hl
                refine lv_iload_n F.1 F.2.1 dX9_cellsOf_131 rfl (lv_at hl 1 rfl) ?_
                refine lv_iload F.1 F.2.1 dX9_cellsOf_132 (lv_at hl 0 rfl) ?_
                refine h_ifeqb (tgt := 141) F dX9_cellsOf_134 (by decide) (fun c5 => ?_) (fun c5 => ?_)
                · refine h_iconst F dX9_cellsOf_141 ?_
                  refine h_iadd (a := sm (fun y => if y < σ 4 then wovR σ co y else 0) 0 r + cnt (fun z => decide (r < σ 4) && decide (cellS σ z r = co)) 0 i) (b := 0) F dX9_cellsOf_142 ?_
                  refine lv_istore_n (lv' := [(3, .int (iI ((sm (fun y => if y < σ 4 then wovR σ co y else 0) 0 r + cnt (fun z => decide (r < σ 4) && decide (cellS σ z r = co)) 0 i) + 0))), (6, .int (iI (bz (decide (r < σ 4) && decide (cellS σ i r = co))))), (5, .int (iI i)), (4, .int (iI r)), (0, .ref mo), (1, .int (iI co)), (2, .int (iI 1))]) F.1 F.2.1 dX9_cellsOf_143 rfl hl (by decide) rfl (fun ls hl => ?_)
                  refine h_iinc (k := 2) (a := i) (lv' := [(5, .int (iI (i + 1))), (3, .int (iI ((sm (fun y => if y < σ 4 then wovR σ co y else 0) 0 r + cnt (fun z => decide (r < σ 4) && decide (cellS σ z r = co)) 0 i) + 0))), (6, .int (iI (bz (decide (r < σ 4) && decide (cellS σ i r = co))))), (4, .int (iI r)), (0, .ref mo), (1, .int (iI co)), (2, .int (iI 1))]) F dX9_cellsOf_144 hl rfl (by decide) rfl (fun ls hl => ?_)
                  refine h_goto (tgt := 19) F dX9_cellsOf_147 (by decide) ?_
                  have eq6 : (sm (fun y => if y < σ 4 then wovR σ co y else 0) 0 r + cnt (fun z => decide (r < σ 4) && decide (cellS σ z r = co)) 0 (i + 1) : Int) = (sm (fun y => if y < σ 4 then wovR σ co y else 0) 0 r + cnt (fun z => decide (r < σ 4) && decide (cellS σ z r = co)) 0 i) + 0 := by first | (rw [cnt_t (by omega) (by assumption)]; omega) | (rw [cnt_f (by omega) (by assumption)]; omega)
                  have eq7 : ((i + 1) : Int) = i + 1 := by first | rfl | omega | simp
                  exact ih19 (i + 1)  (by omega) (by omega)   _ _ ls hW hS (by rw [eq6, eq7]; exact lv_sub hl [1, 0, 3, 4, 5, 6] rfl)
                · refine h_iconst F dX9_cellsOf_137 ?_
                  refine h_goto (tgt := 142) F dX9_cellsOf_138 (by decide) ?_
                  refine h_iadd (a := sm (fun y => if y < σ 4 then wovR σ co y else 0) 0 r + cnt (fun z => decide (r < σ 4) && decide (cellS σ z r = co)) 0 i) (b := 1) F dX9_cellsOf_142 ?_
                  refine lv_istore_n (lv' := [(3, .int (iI ((sm (fun y => if y < σ 4 then wovR σ co y else 0) 0 r + cnt (fun z => decide (r < σ 4) && decide (cellS σ z r = co)) 0 i) + 1))), (6, .int (iI (bz (decide (r < σ 4) && decide (cellS σ i r = co))))), (5, .int (iI i)), (4, .int (iI r)), (0, .ref mo), (1, .int (iI co)), (2, .int (iI 1))]) F.1 F.2.1 dX9_cellsOf_143 rfl hl (by decide) rfl (fun ls hl => ?_)
                  refine h_iinc (k := 2) (a := i) (lv' := [(5, .int (iI (i + 1))), (3, .int (iI ((sm (fun y => if y < σ 4 then wovR σ co y else 0) 0 r + cnt (fun z => decide (r < σ 4) && decide (cellS σ z r = co)) 0 i) + 1))), (6, .int (iI (bz (decide (r < σ 4) && decide (cellS σ i r = co))))), (4, .int (iI r)), (0, .ref mo), (1, .int (iI co)), (2, .int (iI 1))]) F dX9_cellsOf_144 hl rfl (by decide) rfl (fun ls hl => ?_)
                  refine h_goto (tgt := 19) F dX9_cellsOf_147 (by decide) ?_
                  have eq8 : (sm (fun y => if y < σ 4 then wovR σ co y else 0) 0 r + cnt (fun z => decide (r < σ 4) && decide (cellS σ z r = co)) 0 (i + 1) : Int) = (sm (fun y => if y < σ 4 then wovR σ co y else 0) 0 r + cnt (fun z => decide (r < σ 4) && decide (cellS σ z r = co)) 0 i) + 1 := by first | (rw [cnt_t (by omega) (by assumption)]; omega) | (rw [cnt_f (by omega) (by assumption)]; omega)
                  have eq9 : ((i + 1) : Int) = i + 1 := by first | rfl | omega | simp
                  exact ih19 (i + 1)  (by omega) (by omega)   _ _ ls hW hS (by rw [eq8, eq9]; exact lv_sub hl [1, 0, 3, 4, 5, 6] rfl)
              have hce := hwf.2.2.2.1 i r (by omega) (by omega) (by omega) (by omega)
              have hde := desS_r hwf i r
              refine lv_iload_n F.1 F.2.1 dX9_cellsOf_30 rfl (lv_at hl 5 rfl) ?_
              refine h_iconst F dX9_cellsOf_31 ?_
              refine h_icne (tgt := 68) F dX9_cellsOf_32 (by decide) (by decide) (fun c9 => absurd c9 (by decide)) (fun _ => ?_)
              refine lv_iload F.1 F.2.1 dX9_cellsOf_35 (lv_at hl 2 rfl) ?_
              refine lv_aload_n F.1 F.2.1 dX9_cellsOf_37 rfl (lv_at hl 3 rfl) ?_
              refine gf_RX9_7 F hW hM rfl dX9_cellsOf_38 ?_
              refine h_iconst F dX9_cellsOf_41 ?_
              refine h_iald F hW hs (by omega) (by omega) dX9_cellsOf_42 ?_
              refine h_icge (tgt := 62) F dX9_cellsOf_43 (by decide) (by omega) (fun c11 => ?_) (fun c11 => ?_)
              · refine h_iconst F dX9_cellsOf_62 ?_
                refine lv_istore (lv' := [(6, .int (iI 0)), (3, .int (iI (sm (fun y => if y < σ 4 then wovR σ co y else 0) 0 r + cnt (fun z => decide (r < σ 4) && decide (cellS σ z r = co)) 0 i))), (5, .int (iI i)), (4, .int (iI r)), (0, .ref mo), (1, .int (iI co)), (2, .int (iI 1))]) F.1 F.2.1 dX9_cellsOf_63 hl (by decide) rfl (fun ls hl => ?_)
                refine h_goto (tgt := 131) F dX9_cellsOf_65 (by decide) ?_
                have eq12 : (bz (decide (r < σ 4) && decide (cellS σ i r = co)) : Int) = 0 := by first | exact (bzt (by simp only [Bool.and_eq_true, decide_eq_true_eq]; omega)).symm | exact (bzf (by simp only [Bool.and_eq_false_iff, decide_eq_false_iff_not]; omega)).symm
                exact join131  _ _ ls  hW hS (by rw [eq12]; exact lv_sub hl [0, 1, 2, 3, 4, 5, 6] rfl)
              · refine lv_aload_n F.1 F.2.1 dX9_cellsOf_46 rfl (lv_at hl 3 rfl) ?_
                refine lv_iload F.1 F.2.1 dX9_cellsOf_47 (lv_at hl 1 rfl) ?_
                refine lv_iload F.1 F.2.1 dX9_cellsOf_49 (lv_at hl 2 rfl) ?_
                refine cl_RX9_113 (As := [.int (iI i), .int (iI r)]) (rest := []) F hl (c_X9_colourAt l X w mo v σ i r hM hs hwf (by omega)) hW hS hM rfl rfl ⟨Nat.le_of_ble_eq_true rfl, Nat.le_of_ble_eq_true rfl⟩ (Nat.le_of_ble_eq_true rfl) ⟨Nat.zero_le _, Nat.zero_le _⟩ dX9_cellsOf_51 (fun w1 H locs hp13 hW hS => ?_)
                rw [hp13] at hW; clear hp13; clear w1
                refine lv_iload_n F.1 F.2.1 dX9_cellsOf_54 rfl (lv_at hl 4 rfl) ?_
                refine h_icne (tgt := 62) F dX9_cellsOf_55 (by decide) (by omega) (fun c14 => ?_) (fun c14 => ?_)
                · refine h_iconst F dX9_cellsOf_62 ?_
                  refine lv_istore (lv' := [(6, .int (iI 0)), (3, .int (iI (sm (fun y => if y < σ 4 then wovR σ co y else 0) 0 r + cnt (fun z => decide (r < σ 4) && decide (cellS σ z r = co)) 0 i))), (5, .int (iI i)), (4, .int (iI r)), (0, .ref mo), (1, .int (iI co)), (2, .int (iI 1))]) F.1 F.2.1 dX9_cellsOf_63 hl (by decide) rfl (fun ls hl => ?_)
                  refine h_goto (tgt := 131) F dX9_cellsOf_65 (by decide) ?_
                  have eq15 : (bz (decide (r < σ 4) && decide (cellS σ i r = co)) : Int) = 0 := by first | exact (bzt (by simp only [Bool.and_eq_true, decide_eq_true_eq]; omega)).symm | exact (bzf (by simp only [Bool.and_eq_false_iff, decide_eq_false_iff_not]; omega)).symm
                  exact join131  _ _ ls  hW hS (by rw [eq15]; exact lv_sub hl [0, 1, 2, 3, 4, 5, 6] rfl)
                · refine h_iconst F dX9_cellsOf_58 ?_
                  refine h_goto (tgt := 63) F dX9_cellsOf_59 (by decide) ?_
                  refine lv_istore (lv' := [(6, .int (iI 1)), (3, .int (iI (sm (fun y => if y < σ 4 then wovR σ co y else 0) 0 r + cnt (fun z => decide (r < σ 4) && decide (cellS σ z r = co)) 0 i))), (5, .int (iI i)), (4, .int (iI r)), (0, .ref mo), (1, .int (iI co)), (2, .int (iI 1))]) F.1 F.2.1 dX9_cellsOf_63 hl (by decide) rfl (fun ls hl => ?_)
                  refine h_goto (tgt := 131) F dX9_cellsOf_65 (by decide) ?_
                  have eq16 : (bz (decide (r < σ 4) && decide (cellS σ i r = co)) : Int) = 1 := by first | exact (bzt (by simp only [Bool.and_eq_true, decide_eq_true_eq]; omega)).symm | exact (bzf (by simp only [Bool.and_eq_false_iff, decide_eq_false_iff_not]; omega)).symm
                  exact join131  _ _ ls  hW hS (by rw [eq16]; exact lv_sub hl [0, 1, 2, 3, 4, 5, 6] rfl)
        have eq17 : (sm (fun y => if y < σ 4 then wovR σ co y else 0) 0 r + cnt (fun z => decide (r < σ 4) && decide (cellS σ z r = co)) 0 0 : Int) = sm (fun y => if y < σ 4 then wovR σ co y else 0) 0 r := by rw [cnt_0]; omega
        exact loop19 ((σ 0 - 0) + 1 : Int).toNat 0  (by omega) (by omega)   _ _ ls hW hS (by rw [eq17]; exact lv_sub hl [1, 0, 2, 3, 4, 5] rfl)
  have eq18 : (sm (fun y => if y < σ 4 then wovR σ co y else 0) 0 0 : Int) = 0 := sm_0 _ _
  exact loop5 ((σ 1 - 0) + 1 : Int).toNat 0  (by omega) (by omega)   _ _ ls hW hS (by rw [eq18]; exact lv_sub hl [1, 0, 2, 3, 4] rfl)
set_option maxHeartbeats 4000000 in
set_option maxRecDepth 100000 in
theorem c_cells_4 (l : Launch) (X : Cx) (w : Wo) (mo : Nat) (v σ : Int → Int) (co : Int) (hM : w mo = some (.inr (9, mL mo v))) (hs : w (mo + 1) = some (aZ X 1317 σ)) (hwf : WF σ) (hco : 0 ≤ co ∧ co < 7) : CM l X yX9_cellsOf cX9_cellsOf 7 (some (.int)) (rmk 3 70) [.ref mo, .int (iI co), .int (iI 4)] w (some (.int (iI (sm (wovR σ co) 0 (σ 1))))) (fun w' => w' = w) := by
  refine CM.of (lv := [(0, .ref mo), (1, .int (iI co)), (2, .int (iI 4))]) (by decide) (Nat.le_of_ble_eq_true rfl) rfl (fun p e s m below meth c ls F hr hlk hin hW hS hl => ?_)
  have hZ0 := hW.2.2
  have hB9 := hW.1.2
  clear hin
  have hF := hwf.1
  unfold WF0 at hF
  refine h_iconst F dX9_cellsOf_0 ?_
  refine lv_istore_n (lv' := [(3, .int (iI 0)), (0, .ref mo), (1, .int (iI co)), (2, .int (iI 4))]) F.1 F.2.1 dX9_cellsOf_1 rfl hl (by decide) rfl (fun ls hl => ?_)
  refine h_iconst F dX9_cellsOf_2 ?_
  refine lv_istore (lv' := [(4, .int (iI 0)), (3, .int (iI 0)), (0, .ref mo), (1, .int (iI co)), (2, .int (iI 4))]) F.1 F.2.1 dX9_cellsOf_3 hl (by decide) rfl (fun ls hl => ?_)
  have loop5 : ∀ (n9 : Nat) (r : Int), (hrg : 0 ≤ r ∧ r ≤ σ 1) → (hms : σ 1 - r < (n9 : Int)) → (H : Heap) → (locs : List Loc) → (ls : Array Slot) → Wd X w s H → va_S (cxA X) s.heap H locs → lv_has ls 7 [(3, .int (iI (sm (wovR σ co) 0 r))), (4, .int (iI r)), (0, .ref mo), (1, .int (iI co)), (2, .int (iI 4))] → W p l e (rmk 3 70) s m (List.toArray [.ref mo, .int (iI co), .int (iI 4)]) below meth c H locs 0 0 (MX X below (List.toArray [.ref mo, .int (iI co), .int (iI 4)]) s 0 0 (some (.int (iI (sm (wovR σ co) 0 (σ 1))))) (fun w' => w' = w)) (F0 m 5 ls []) := by
    intro n9
    induction n9 with
    | zero => intro r  hrg hms; exfalso; omega
    | succ n9 ih5 =>
      intro r  hrg hms   H locs ls hW hS hl
      refine lv_iload F.1 F.2.1 dX9_cellsOf_5 (lv_at hl 1 rfl) ?_
      refine lv_aload_n F.1 F.2.1 dX9_cellsOf_7 rfl (lv_at hl 2 rfl) ?_
      refine gf_RX9_7 F hW hM rfl dX9_cellsOf_8 ?_
      refine h_iconst F dX9_cellsOf_11 ?_
      refine h_iald F hW hs (by omega) (by omega) dX9_cellsOf_12 ?_
      refine h_icge (tgt := 156) F dX9_cellsOf_13 (by decide) (by omega) (fun c1 => ?_) (fun c1 => ?_)
      · refine lv_iload_n F.1 F.2.1 dX9_cellsOf_156 rfl (lv_at hl 0 rfl) ?_
        refine h_top (show (sm (wovR σ co) 0 r : Int) = sm (wovR σ co) 0 (σ 1) from by rw [show r = σ 1 by omega]) ?_
        exact h_ireti F hr hlk hW hS rfl dX9_cellsOf_157
      · refine h_iconst F dX9_cellsOf_16 ?_
        refine lv_istore (lv' := [(5, .int (iI 0)), (3, .int (iI (sm (wovR σ co) 0 r))), (4, .int (iI r)), (0, .ref mo), (1, .int (iI co)), (2, .int (iI 4))]) F.1 F.2.1 dX9_cellsOf_17 hl (by decide) rfl (fun ls hl => ?_)
        have loop19 : ∀ (n9 : Nat) (i : Int), (hrg : 0 ≤ i ∧ i ≤ σ 0) → (hms : σ 0 - i < (n9 : Int)) → (H : Heap) → (locs : List Loc) → (ls : Array Slot) → Wd X w s H → va_S (cxA X) s.heap H locs → lv_has ls 7 [(3, .int (iI (sm (wovR σ co) 0 r + cnt (fun z => decide (cellS σ z r = co)) 0 i))), (5, .int (iI i)), (4, .int (iI r)), (0, .ref mo), (1, .int (iI co)), (2, .int (iI 4))] → W p l e (rmk 3 70) s m (List.toArray [.ref mo, .int (iI co), .int (iI 4)]) below meth c H locs 0 0 (MX X below (List.toArray [.ref mo, .int (iI co), .int (iI 4)]) s 0 0 (some (.int (iI (sm (wovR σ co) 0 (σ 1))))) (fun w' => w' = w)) (F0 m 19 ls []) := by
          intro n9
          induction n9 with
          | zero => intro i  hrg hms; exfalso; omega
          | succ n9 ih19 =>
            intro i  hrg hms   H locs ls hW hS hl
            refine lv_iload F.1 F.2.1 dX9_cellsOf_19 (lv_at hl 1 rfl) ?_
            refine lv_aload_n F.1 F.2.1 dX9_cellsOf_21 rfl (lv_at hl 3 rfl) ?_
            refine gf_RX9_7 F hW hM rfl dX9_cellsOf_22 ?_
            refine h_iconst F dX9_cellsOf_25 ?_
            refine h_iald F hW hs (by omega) (by omega) dX9_cellsOf_26 ?_
            refine h_icge (tgt := 150) F dX9_cellsOf_27 (by decide) (by omega) (fun c2 => ?_) (fun c2 => ?_)
            · refine h_iinc (k := 2) (a := r) (lv' := [(4, .int (iI (r + 1))), (3, .int (iI (sm (wovR σ co) 0 r + cnt (fun z => decide (cellS σ z r = co)) 0 i))), (5, .int (iI i)), (0, .ref mo), (1, .int (iI co)), (2, .int (iI 4))]) F dX9_cellsOf_150 hl rfl (by decide) rfl (fun ls hl => ?_)
              refine h_goto (tgt := 5) F dX9_cellsOf_153 (by decide) ?_
              have eq3 : (sm (wovR σ co) 0 (r + 1) : Int) = sm (wovR σ co) 0 r + cnt (fun z => decide (cellS σ z r = co)) 0 i := by rw [sm_s _ (by omega), show i = σ 0 by omega]; first | rfl | (congr 1; split; (rw [show (fun z => decide (r < σ 4) && decide (cellS σ z r = co)) = (fun z => decide (cellS σ z r = co)) from funext (fun z => by rw [decide_eq_true (p := r < σ 4) (by omega)]; rfl)]; rfl); (rw [show (fun z => decide (r < σ 4) && decide (cellS σ z r = co)) = (fun _ => false) from funext (fun z => by rw [decide_eq_false (p := r < σ 4) (by omega)]; rfl), cnt_n]))
              have eq4 : ((r + 1) : Int) = r + 1 := by first | rfl | omega | simp
              exact ih5 (r + 1)  (by omega) (by omega)   _ _ ls hW hS (by rw [eq3, eq4]; exact lv_sub hl [1, 0, 3, 4, 5] rfl)
            · have join131 : ∀ (H : Heap) (locs : List Loc) (ls : Array Slot), Wd X w s H → va_S (cxA X) s.heap H locs → lv_has ls 7 [(6, .int (iI (bz (decide (cellS σ i r = co))))), (3, .int (iI (sm (wovR σ co) 0 r + cnt (fun z => decide (cellS σ z r = co)) 0 i))), (5, .int (iI i)), (4, .int (iI r)), (0, .ref mo), (1, .int (iI co)), (2, .int (iI 4))] → W p l e (rmk 3 70) s m (List.toArray [.ref mo, .int (iI co), .int (iI 4)]) below meth c H locs 0 0 (MX X below (List.toArray [.ref mo, .int (iI co), .int (iI 4)]) s 0 0 (some (.int (iI (sm (wovR σ co) 0 (σ 1))))) (fun w' => w' = w)) (F0 m 131 ls []) := by
                intro  H locs ls  hW hS hl
                refine lv_iload_n F.1 F.2.1 dX9_cellsOf_131 rfl (lv_at hl 1 rfl) ?_
                refine lv_iload F.1 F.2.1 dX9_cellsOf_132 (lv_at hl 0 rfl) ?_
                refine h_ifeqb (tgt := 141) F dX9_cellsOf_134 (by decide) (fun c5 => ?_) (fun c5 => ?_)
                · have c5d := of_decide_eq_false c5
                  refine h_iconst F dX9_cellsOf_141 ?_
                  refine h_iadd (a := sm (wovR σ co) 0 r + cnt (fun z => decide (cellS σ z r = co)) 0 i) (b := 0) F dX9_cellsOf_142 ?_
                  refine lv_istore_n (lv' := [(3, .int (iI ((sm (wovR σ co) 0 r + cnt (fun z => decide (cellS σ z r = co)) 0 i) + 0))), (6, .int (iI (bz (decide (cellS σ i r = co))))), (5, .int (iI i)), (4, .int (iI r)), (0, .ref mo), (1, .int (iI co)), (2, .int (iI 4))]) F.1 F.2.1 dX9_cellsOf_143 rfl hl (by decide) rfl (fun ls hl => ?_)
                  refine h_iinc (k := 2) (a := i) (lv' := [(5, .int (iI (i + 1))), (3, .int (iI ((sm (wovR σ co) 0 r + cnt (fun z => decide (cellS σ z r = co)) 0 i) + 0))), (6, .int (iI (bz (decide (cellS σ i r = co))))), (4, .int (iI r)), (0, .ref mo), (1, .int (iI co)), (2, .int (iI 4))]) F dX9_cellsOf_144 hl rfl (by decide) rfl (fun ls hl => ?_)
                  refine h_goto (tgt := 19) F dX9_cellsOf_147 (by decide) ?_
                  have eq6 : (sm (wovR σ co) 0 r + cnt (fun z => decide (cellS σ z r = co)) 0 (i + 1) : Int) = (sm (wovR σ co) 0 r + cnt (fun z => decide (cellS σ z r = co)) 0 i) + 0 := by first | (rw [cnt_t (by omega) (by assumption)]; omega) | (rw [cnt_f (by omega) (by assumption)]; omega)
                  have eq7 : ((i + 1) : Int) = i + 1 := by first | rfl | omega | simp
                  exact ih19 (i + 1)  (by omega) (by omega)   _ _ ls hW hS (by rw [eq6, eq7]; exact lv_sub hl [1, 0, 3, 4, 5, 6] rfl)
                · have c5d := of_decide_eq_true c5
                  refine h_iconst F dX9_cellsOf_137 ?_
                  refine h_goto (tgt := 142) F dX9_cellsOf_138 (by decide) ?_
                  refine h_iadd (a := sm (wovR σ co) 0 r + cnt (fun z => decide (cellS σ z r = co)) 0 i) (b := 1) F dX9_cellsOf_142 ?_
                  refine lv_istore_n (lv' := [(3, .int (iI ((sm (wovR σ co) 0 r + cnt (fun z => decide (cellS σ z r = co)) 0 i) + 1))), (6, .int (iI (bz (decide (cellS σ i r = co))))), (5, .int (iI i)), (4, .int (iI r)), (0, .ref mo), (1, .int (iI co)), (2, .int (iI 4))]) F.1 F.2.1 dX9_cellsOf_143 rfl hl (by decide) rfl (fun ls hl => ?_)
                  refine h_iinc (k := 2) (a := i) (lv' := [(5, .int (iI (i + 1))), (3, .int (iI ((sm (wovR σ co) 0 r + cnt (fun z => decide (cellS σ z r = co)) 0 i) + 1))), (6, .int (iI (bz (decide (cellS σ i r = co))))), (4, .int (iI r)), (0, .ref mo), (1, .int (iI co)), (2, .int (iI 4))]) F dX9_cellsOf_144 hl rfl (by decide) rfl (fun ls hl => ?_)
                  refine h_goto (tgt := 19) F dX9_cellsOf_147 (by decide) ?_
                  have eq8 : (sm (wovR σ co) 0 r + cnt (fun z => decide (cellS σ z r = co)) 0 (i + 1) : Int) = (sm (wovR σ co) 0 r + cnt (fun z => decide (cellS σ z r = co)) 0 i) + 1 := by first | (rw [cnt_t (by omega) (by assumption)]; omega) | (rw [cnt_f (by omega) (by assumption)]; omega)
                  have eq9 : ((i + 1) : Int) = i + 1 := by first | rfl | omega | simp
                  exact ih19 (i + 1)  (by omega) (by omega)   _ _ ls hW hS (by rw [eq8, eq9]; exact lv_sub hl [1, 0, 3, 4, 5, 6] rfl)
              have hce := hwf.2.2.2.1 i r (by omega) (by omega) (by omega) (by omega)
              have hde := desS_r hwf i r
              refine lv_iload_n F.1 F.2.1 dX9_cellsOf_30 rfl (lv_at hl 5 rfl) ?_
              refine h_iconst F dX9_cellsOf_31 ?_
              refine h_icne (tgt := 68) F dX9_cellsOf_32 (by decide) (by decide) (fun _ => ?_) (fun c9 => absurd c9 (by decide))
              refine lv_iload_n F.1 F.2.1 dX9_cellsOf_68 rfl (lv_at hl 5 rfl) ?_
              refine h_iconst F dX9_cellsOf_69 ?_
              refine h_icne (tgt := 95) F dX9_cellsOf_70 (by decide) (by decide) (fun c9 => absurd c9 (by decide)) (fun _ => ?_)
              refine lv_aload_n F.1 F.2.1 dX9_cellsOf_73 rfl (lv_at hl 3 rfl) ?_
              refine lv_iload F.1 F.2.1 dX9_cellsOf_74 (lv_at hl 1 rfl) ?_
              refine lv_iload F.1 F.2.1 dX9_cellsOf_76 (lv_at hl 2 rfl) ?_
              refine cl_RX9_113 (As := [.int (iI i), .int (iI r)]) (rest := []) F hl (c_X9_colourAt l X w mo v σ i r hM hs hwf (by omega)) hW hS hM rfl rfl ⟨Nat.le_of_ble_eq_true rfl, Nat.le_of_ble_eq_true rfl⟩ (Nat.le_of_ble_eq_true rfl) ⟨Nat.zero_le _, Nat.zero_le _⟩ dX9_cellsOf_78 (fun w1 H locs hp12 hW hS => ?_)
              rw [hp12] at hW; clear hp12; clear w1
              refine lv_iload_n F.1 F.2.1 dX9_cellsOf_81 rfl (lv_at hl 4 rfl) ?_
              refine h_icne (tgt := 89) F dX9_cellsOf_82 (by decide) (by omega) (fun c13 => ?_) (fun c13 => ?_)
              · refine h_iconst F dX9_cellsOf_89 ?_
                refine lv_istore (lv' := [(6, .int (iI 0)), (3, .int (iI (sm (wovR σ co) 0 r + cnt (fun z => decide (cellS σ z r = co)) 0 i))), (5, .int (iI i)), (4, .int (iI r)), (0, .ref mo), (1, .int (iI co)), (2, .int (iI 4))]) F.1 F.2.1 dX9_cellsOf_90 hl (by decide) rfl (fun ls hl => ?_)
                refine h_goto (tgt := 131) F dX9_cellsOf_92 (by decide) ?_
                have eq14 : (bz (decide (cellS σ i r = co)) : Int) = 0 := by first | exact (bzt (by simp only [Bool.and_eq_true, decide_eq_true_eq]; omega)).symm | exact (bzf (by simp only [Bool.and_eq_false_iff, decide_eq_false_iff_not]; omega)).symm
                exact join131  _ _ ls  hW hS (by rw [eq14]; exact lv_sub hl [0, 1, 2, 3, 4, 5, 6] rfl)
              · refine h_iconst F dX9_cellsOf_85 ?_
                refine h_goto (tgt := 90) F dX9_cellsOf_86 (by decide) ?_
                refine lv_istore (lv' := [(6, .int (iI 1)), (3, .int (iI (sm (wovR σ co) 0 r + cnt (fun z => decide (cellS σ z r = co)) 0 i))), (5, .int (iI i)), (4, .int (iI r)), (0, .ref mo), (1, .int (iI co)), (2, .int (iI 4))]) F.1 F.2.1 dX9_cellsOf_90 hl (by decide) rfl (fun ls hl => ?_)
                refine h_goto (tgt := 131) F dX9_cellsOf_92 (by decide) ?_
                have eq15 : (bz (decide (cellS σ i r = co)) : Int) = 1 := by first | exact (bzt (by simp only [Bool.and_eq_true, decide_eq_true_eq]; omega)).symm | exact (bzf (by simp only [Bool.and_eq_false_iff, decide_eq_false_iff_not]; omega)).symm
                exact join131  _ _ ls  hW hS (by rw [eq15]; exact lv_sub hl [0, 1, 2, 3, 4, 5, 6] rfl)
        have eq16 : (sm (wovR σ co) 0 r + cnt (fun z => decide (cellS σ z r = co)) 0 0 : Int) = sm (wovR σ co) 0 r := by rw [cnt_0]; omega
        exact loop19 ((σ 0 - 0) + 1 : Int).toNat 0  (by omega) (by omega)   _ _ ls hW hS (by rw [eq16]; exact lv_sub hl [1, 0, 2, 3, 4, 5] rfl)
  have eq17 : (sm (wovR σ co) 0 0 : Int) = 0 := sm_0 _ _
  exact loop5 ((σ 1 - 0) + 1 : Int).toNat 0  (by omega) (by omega)   _ _ ls hW hS (by rw [eq17]; exact lv_sub hl [1, 0, 2, 3, 4] rfl)
set_option maxHeartbeats 4000000 in
set_option maxRecDepth 100000 in
theorem c_cells_2 (l : Launch) (X : Cx) (w : Wo) (mo : Nat) (v σ : Int → Int) (co : Int) (hM : w mo = some (.inr (9, mL mo v))) (hs : w (mo + 1) = some (aZ X 1317 σ)) (hwf : WF σ) (hco : 0 ≤ co ∧ co < 7) : CM l X yX9_cellsOf cX9_cellsOf 7 (some (.int)) (rmk 3 70) [.ref mo, .int (iI co), .int (iI 2)] w (some (.int (iI (sm (plnR σ co) 0 (σ 1))))) (fun w' => w' = w) := by
  refine CM.of (lv := [(0, .ref mo), (1, .int (iI co)), (2, .int (iI 2))]) (by decide) (Nat.le_of_ble_eq_true rfl) rfl (fun p e s m below meth c ls F hr hlk hin hW hS hl => ?_)
  have hZ0 := hW.2.2
  have hB9 := hW.1.2
  clear hin
  have hF := hwf.1
  unfold WF0 at hF
  refine h_iconst F dX9_cellsOf_0 ?_
  refine lv_istore_n (lv' := [(3, .int (iI 0)), (0, .ref mo), (1, .int (iI co)), (2, .int (iI 2))]) F.1 F.2.1 dX9_cellsOf_1 rfl hl (by decide) rfl (fun ls hl => ?_)
  refine h_iconst F dX9_cellsOf_2 ?_
  refine lv_istore (lv' := [(4, .int (iI 0)), (3, .int (iI 0)), (0, .ref mo), (1, .int (iI co)), (2, .int (iI 2))]) F.1 F.2.1 dX9_cellsOf_3 hl (by decide) rfl (fun ls hl => ?_)
  have loop5 : ∀ (n9 : Nat) (r : Int), (hrg : 0 ≤ r ∧ r ≤ σ 1) → (hms : σ 1 - r < (n9 : Int)) → (H : Heap) → (locs : List Loc) → (ls : Array Slot) → Wd X w s H → va_S (cxA X) s.heap H locs → lv_has ls 7 [(3, .int (iI (sm (plnR σ co) 0 r))), (4, .int (iI r)), (0, .ref mo), (1, .int (iI co)), (2, .int (iI 2))] → W p l e (rmk 3 70) s m (List.toArray [.ref mo, .int (iI co), .int (iI 2)]) below meth c H locs 0 0 (MX X below (List.toArray [.ref mo, .int (iI co), .int (iI 2)]) s 0 0 (some (.int (iI (sm (plnR σ co) 0 (σ 1))))) (fun w' => w' = w)) (F0 m 5 ls []) := by
    intro n9
    induction n9 with
    | zero => intro r  hrg hms; exfalso; omega
    | succ n9 ih5 =>
      intro r  hrg hms   H locs ls hW hS hl
      refine lv_iload F.1 F.2.1 dX9_cellsOf_5 (lv_at hl 1 rfl) ?_
      refine lv_aload_n F.1 F.2.1 dX9_cellsOf_7 rfl (lv_at hl 2 rfl) ?_
      refine gf_RX9_7 F hW hM rfl dX9_cellsOf_8 ?_
      refine h_iconst F dX9_cellsOf_11 ?_
      refine h_iald F hW hs (by omega) (by omega) dX9_cellsOf_12 ?_
      refine h_icge (tgt := 156) F dX9_cellsOf_13 (by decide) (by omega) (fun c1 => ?_) (fun c1 => ?_)
      · refine lv_iload_n F.1 F.2.1 dX9_cellsOf_156 rfl (lv_at hl 0 rfl) ?_
        refine h_top (show (sm (plnR σ co) 0 r : Int) = sm (plnR σ co) 0 (σ 1) from by rw [show r = σ 1 by omega]) ?_
        exact h_ireti F hr hlk hW hS rfl dX9_cellsOf_157
      · refine h_iconst F dX9_cellsOf_16 ?_
        refine lv_istore (lv' := [(5, .int (iI 0)), (3, .int (iI (sm (plnR σ co) 0 r))), (4, .int (iI r)), (0, .ref mo), (1, .int (iI co)), (2, .int (iI 2))]) F.1 F.2.1 dX9_cellsOf_17 hl (by decide) rfl (fun ls hl => ?_)
        have loop19 : ∀ (n9 : Nat) (i : Int), (hrg : 0 ≤ i ∧ i ≤ σ 0) → (hms : σ 0 - i < (n9 : Int)) → (H : Heap) → (locs : List Loc) → (ls : Array Slot) → Wd X w s H → va_S (cxA X) s.heap H locs → lv_has ls 7 [(3, .int (iI (sm (plnR σ co) 0 r + cnt (fun z => decide (desS σ z r = co)) 0 i))), (5, .int (iI i)), (4, .int (iI r)), (0, .ref mo), (1, .int (iI co)), (2, .int (iI 2))] → W p l e (rmk 3 70) s m (List.toArray [.ref mo, .int (iI co), .int (iI 2)]) below meth c H locs 0 0 (MX X below (List.toArray [.ref mo, .int (iI co), .int (iI 2)]) s 0 0 (some (.int (iI (sm (plnR σ co) 0 (σ 1))))) (fun w' => w' = w)) (F0 m 19 ls []) := by
          intro n9
          induction n9 with
          | zero => intro i  hrg hms; exfalso; omega
          | succ n9 ih19 =>
            intro i  hrg hms   H locs ls hW hS hl
            refine lv_iload F.1 F.2.1 dX9_cellsOf_19 (lv_at hl 1 rfl) ?_
            refine lv_aload_n F.1 F.2.1 dX9_cellsOf_21 rfl (lv_at hl 3 rfl) ?_
            refine gf_RX9_7 F hW hM rfl dX9_cellsOf_22 ?_
            refine h_iconst F dX9_cellsOf_25 ?_
            refine h_iald F hW hs (by omega) (by omega) dX9_cellsOf_26 ?_
            refine h_icge (tgt := 150) F dX9_cellsOf_27 (by decide) (by omega) (fun c2 => ?_) (fun c2 => ?_)
            · refine h_iinc (k := 2) (a := r) (lv' := [(4, .int (iI (r + 1))), (3, .int (iI (sm (plnR σ co) 0 r + cnt (fun z => decide (desS σ z r = co)) 0 i))), (5, .int (iI i)), (0, .ref mo), (1, .int (iI co)), (2, .int (iI 2))]) F dX9_cellsOf_150 hl rfl (by decide) rfl (fun ls hl => ?_)
              refine h_goto (tgt := 5) F dX9_cellsOf_153 (by decide) ?_
              have eq3 : (sm (plnR σ co) 0 (r + 1) : Int) = sm (plnR σ co) 0 r + cnt (fun z => decide (desS σ z r = co)) 0 i := by rw [sm_s _ (by omega), show i = σ 0 by omega]; first | rfl | (congr 1; split; (rw [show (fun z => decide (r < σ 4) && decide (cellS σ z r = co)) = (fun z => decide (cellS σ z r = co)) from funext (fun z => by rw [decide_eq_true (p := r < σ 4) (by omega)]; rfl)]; rfl); (rw [show (fun z => decide (r < σ 4) && decide (cellS σ z r = co)) = (fun _ => false) from funext (fun z => by rw [decide_eq_false (p := r < σ 4) (by omega)]; rfl), cnt_n]))
              have eq4 : ((r + 1) : Int) = r + 1 := by first | rfl | omega | simp
              exact ih5 (r + 1)  (by omega) (by omega)   _ _ ls hW hS (by rw [eq3, eq4]; exact lv_sub hl [1, 0, 3, 4, 5] rfl)
            · have join131 : ∀ (H : Heap) (locs : List Loc) (ls : Array Slot), Wd X w s H → va_S (cxA X) s.heap H locs → lv_has ls 7 [(6, .int (iI (bz (decide (desS σ i r = co))))), (3, .int (iI (sm (plnR σ co) 0 r + cnt (fun z => decide (desS σ z r = co)) 0 i))), (5, .int (iI i)), (4, .int (iI r)), (0, .ref mo), (1, .int (iI co)), (2, .int (iI 2))] → W p l e (rmk 3 70) s m (List.toArray [.ref mo, .int (iI co), .int (iI 2)]) below meth c H locs 0 0 (MX X below (List.toArray [.ref mo, .int (iI co), .int (iI 2)]) s 0 0 (some (.int (iI (sm (plnR σ co) 0 (σ 1))))) (fun w' => w' = w)) (F0 m 131 ls []) := by
                intro  H locs ls  hW hS hl
                refine lv_iload_n F.1 F.2.1 dX9_cellsOf_131 rfl (lv_at hl 1 rfl) ?_
                refine lv_iload F.1 F.2.1 dX9_cellsOf_132 (lv_at hl 0 rfl) ?_
                refine h_ifeqb (tgt := 141) F dX9_cellsOf_134 (by decide) (fun c5 => ?_) (fun c5 => ?_)
                · have c5d := of_decide_eq_false c5
                  refine h_iconst F dX9_cellsOf_141 ?_
                  refine h_iadd (a := sm (plnR σ co) 0 r + cnt (fun z => decide (desS σ z r = co)) 0 i) (b := 0) F dX9_cellsOf_142 ?_
                  refine lv_istore_n (lv' := [(3, .int (iI ((sm (plnR σ co) 0 r + cnt (fun z => decide (desS σ z r = co)) 0 i) + 0))), (6, .int (iI (bz (decide (desS σ i r = co))))), (5, .int (iI i)), (4, .int (iI r)), (0, .ref mo), (1, .int (iI co)), (2, .int (iI 2))]) F.1 F.2.1 dX9_cellsOf_143 rfl hl (by decide) rfl (fun ls hl => ?_)
                  refine h_iinc (k := 2) (a := i) (lv' := [(5, .int (iI (i + 1))), (3, .int (iI ((sm (plnR σ co) 0 r + cnt (fun z => decide (desS σ z r = co)) 0 i) + 0))), (6, .int (iI (bz (decide (desS σ i r = co))))), (4, .int (iI r)), (0, .ref mo), (1, .int (iI co)), (2, .int (iI 2))]) F dX9_cellsOf_144 hl rfl (by decide) rfl (fun ls hl => ?_)
                  refine h_goto (tgt := 19) F dX9_cellsOf_147 (by decide) ?_
                  have eq6 : (sm (plnR σ co) 0 r + cnt (fun z => decide (desS σ z r = co)) 0 (i + 1) : Int) = (sm (plnR σ co) 0 r + cnt (fun z => decide (desS σ z r = co)) 0 i) + 0 := by first | (rw [cnt_t (by omega) (by assumption)]; omega) | (rw [cnt_f (by omega) (by assumption)]; omega)
                  have eq7 : ((i + 1) : Int) = i + 1 := by first | rfl | omega | simp
                  exact ih19 (i + 1)  (by omega) (by omega)   _ _ ls hW hS (by rw [eq6, eq7]; exact lv_sub hl [1, 0, 3, 4, 5, 6] rfl)
                · have c5d := of_decide_eq_true c5
                  refine h_iconst F dX9_cellsOf_137 ?_
                  refine h_goto (tgt := 142) F dX9_cellsOf_138 (by decide) ?_
                  refine h_iadd (a := sm (plnR σ co) 0 r + cnt (fun z => decide (desS σ z r = co)) 0 i) (b := 1) F dX9_cellsOf_142 ?_
                  refine lv_istore_n (lv' := [(3, .int (iI ((sm (plnR σ co) 0 r + cnt (fun z => decide (desS σ z r = co)) 0 i) + 1))), (6, .int (iI (bz (decide (desS σ i r = co))))), (5, .int (iI i)), (4, .int (iI r)), (0, .ref mo), (1, .int (iI co)), (2, .int (iI 2))]) F.1 F.2.1 dX9_cellsOf_143 rfl hl (by decide) rfl (fun ls hl => ?_)
                  refine h_iinc (k := 2) (a := i) (lv' := [(5, .int (iI (i + 1))), (3, .int (iI ((sm (plnR σ co) 0 r + cnt (fun z => decide (desS σ z r = co)) 0 i) + 1))), (6, .int (iI (bz (decide (desS σ i r = co))))), (4, .int (iI r)), (0, .ref mo), (1, .int (iI co)), (2, .int (iI 2))]) F dX9_cellsOf_144 hl rfl (by decide) rfl (fun ls hl => ?_)
                  refine h_goto (tgt := 19) F dX9_cellsOf_147 (by decide) ?_
                  have eq8 : (sm (plnR σ co) 0 r + cnt (fun z => decide (desS σ z r = co)) 0 (i + 1) : Int) = (sm (plnR σ co) 0 r + cnt (fun z => decide (desS σ z r = co)) 0 i) + 1 := by first | (rw [cnt_t (by omega) (by assumption)]; omega) | (rw [cnt_f (by omega) (by assumption)]; omega)
                  have eq9 : ((i + 1) : Int) = i + 1 := by first | rfl | omega | simp
                  exact ih19 (i + 1)  (by omega) (by omega)   _ _ ls hW hS (by rw [eq8, eq9]; exact lv_sub hl [1, 0, 3, 4, 5, 6] rfl)
              have hce := hwf.2.2.2.1 i r (by omega) (by omega) (by omega) (by omega)
              have hde := desS_r hwf i r
              refine lv_iload_n F.1 F.2.1 dX9_cellsOf_30 rfl (lv_at hl 5 rfl) ?_
              refine h_iconst F dX9_cellsOf_31 ?_
              refine h_icne (tgt := 68) F dX9_cellsOf_32 (by decide) (by decide) (fun _ => ?_) (fun c9 => absurd c9 (by decide))
              refine lv_iload_n F.1 F.2.1 dX9_cellsOf_68 rfl (lv_at hl 5 rfl) ?_
              refine h_iconst F dX9_cellsOf_69 ?_
              refine h_icne (tgt := 95) F dX9_cellsOf_70 (by decide) (by decide) (fun _ => ?_) (fun c9 => absurd c9 (by decide))
              refine lv_iload_n F.1 F.2.1 dX9_cellsOf_95 rfl (lv_at hl 5 rfl) ?_
              refine h_iconst F dX9_cellsOf_96 ?_
              refine h_iceq (tgt := 112) F dX9_cellsOf_97 (by decide) (by decide) (fun _ => ?_) (fun c9 => absurd c9 (by decide))
              refine lv_aload_n F.1 F.2.1 dX9_cellsOf_112 rfl (lv_at hl 3 rfl) ?_
              refine lv_iload F.1 F.2.1 dX9_cellsOf_113 (lv_at hl 1 rfl) ?_
              refine lv_iload F.1 F.2.1 dX9_cellsOf_115 (lv_at hl 2 rfl) ?_
              refine cl_RX9_116 (As := [.int (iI i), .int (iI r)]) (rest := []) F hl (c_X9_designOf l X w mo v σ i r hM hs hwf (by omega)) hW hS hM rfl rfl ⟨Nat.le_of_ble_eq_true rfl, Nat.le_of_ble_eq_true rfl⟩ (Nat.le_of_ble_eq_true rfl) ⟨Nat.zero_le _, Nat.zero_le _⟩ dX9_cellsOf_117 (fun w1 H locs hp13 hW hS => ?_)
              rw [hp13] at hW; clear hp13; clear w1
              refine lv_iload_n F.1 F.2.1 dX9_cellsOf_120 rfl (lv_at hl 4 rfl) ?_
              refine h_icne (tgt := 128) F dX9_cellsOf_121 (by decide) (by omega) (fun c14 => ?_) (fun c14 => ?_)
              · refine h_iconst F dX9_cellsOf_128 ?_
                refine lv_istore (lv' := [(6, .int (iI 0)), (3, .int (iI (sm (plnR σ co) 0 r + cnt (fun z => decide (desS σ z r = co)) 0 i))), (5, .int (iI i)), (4, .int (iI r)), (0, .ref mo), (1, .int (iI co)), (2, .int (iI 2))]) F.1 F.2.1 dX9_cellsOf_129 hl (by decide) rfl (fun ls hl => ?_)
                have eq15 : (bz (decide (desS σ i r = co)) : Int) = 0 := by first | exact (bzt (by simp only [Bool.and_eq_true, decide_eq_true_eq]; omega)).symm | exact (bzf (by simp only [Bool.and_eq_false_iff, decide_eq_false_iff_not]; omega)).symm
                exact join131  _ _ ls  hW hS (by rw [eq15]; exact lv_sub hl [0, 1, 2, 3, 4, 5, 6] rfl)
              · refine h_iconst F dX9_cellsOf_124 ?_
                refine h_goto (tgt := 129) F dX9_cellsOf_125 (by decide) ?_
                refine lv_istore (lv' := [(6, .int (iI 1)), (3, .int (iI (sm (plnR σ co) 0 r + cnt (fun z => decide (desS σ z r = co)) 0 i))), (5, .int (iI i)), (4, .int (iI r)), (0, .ref mo), (1, .int (iI co)), (2, .int (iI 2))]) F.1 F.2.1 dX9_cellsOf_129 hl (by decide) rfl (fun ls hl => ?_)
                have eq16 : (bz (decide (desS σ i r = co)) : Int) = 1 := by first | exact (bzt (by simp only [Bool.and_eq_true, decide_eq_true_eq]; omega)).symm | exact (bzf (by simp only [Bool.and_eq_false_iff, decide_eq_false_iff_not]; omega)).symm
                exact join131  _ _ ls  hW hS (by rw [eq16]; exact lv_sub hl [0, 1, 2, 3, 4, 5, 6] rfl)
        have eq17 : (sm (plnR σ co) 0 r + cnt (fun z => decide (desS σ z r = co)) 0 0 : Int) = sm (plnR σ co) 0 r := by rw [cnt_0]; omega
        exact loop19 ((σ 0 - 0) + 1 : Int).toNat 0  (by omega) (by omega)   _ _ ls hW hS (by rw [eq17]; exact lv_sub hl [1, 0, 2, 3, 4, 5] rfl)
  have eq18 : (sm (plnR σ co) 0 0 : Int) = 0 := sm_0 _ _
  exact loop5 ((σ 1 - 0) + 1 : Int).toNat 0  (by omega) (by omega)   _ _ ls hW hS (by rw [eq18]; exact lv_sub hl [1, 0, 2, 3, 4] rfl)
set_option maxHeartbeats 4000000 in
set_option maxRecDepth 100000 in
theorem c_cells_3 (l : Launch) (X : Cx) (w : Wo) (mo : Nat) (v σ : Int → Int) (co : Int) (hM : w mo = some (.inr (9, mL mo v))) (hs : w (mo + 1) = some (aZ X 1317 σ)) (hwf : WF σ) (hco : 0 ≤ co ∧ co < 7) : CM l X yX9_cellsOf cX9_cellsOf 7 (some (.int)) (rmk 3 70) [.ref mo, .int (iI co), .int (iI 3)] w (some (.int (iI (sm (towR σ co) 0 (σ 1))))) (fun w' => w' = w) := by
  refine CM.of (lv := [(0, .ref mo), (1, .int (iI co)), (2, .int (iI 3))]) (by decide) (Nat.le_of_ble_eq_true rfl) rfl (fun p e s m below meth c ls F hr hlk hin hW hS hl => ?_)
  have hZ0 := hW.2.2
  have hB9 := hW.1.2
  clear hin
  have hF := hwf.1
  unfold WF0 at hF
  refine h_iconst F dX9_cellsOf_0 ?_
  refine lv_istore_n (lv' := [(3, .int (iI 0)), (0, .ref mo), (1, .int (iI co)), (2, .int (iI 3))]) F.1 F.2.1 dX9_cellsOf_1 rfl hl (by decide) rfl (fun ls hl => ?_)
  refine h_iconst F dX9_cellsOf_2 ?_
  refine lv_istore (lv' := [(4, .int (iI 0)), (3, .int (iI 0)), (0, .ref mo), (1, .int (iI co)), (2, .int (iI 3))]) F.1 F.2.1 dX9_cellsOf_3 hl (by decide) rfl (fun ls hl => ?_)
  have loop5 : ∀ (n9 : Nat) (r : Int), (hrg : 0 ≤ r ∧ r ≤ σ 1) → (hms : σ 1 - r < (n9 : Int)) → (H : Heap) → (locs : List Loc) → (ls : Array Slot) → Wd X w s H → va_S (cxA X) s.heap H locs → lv_has ls 7 [(3, .int (iI (sm (towR σ co) 0 r))), (4, .int (iI r)), (0, .ref mo), (1, .int (iI co)), (2, .int (iI 3))] → W p l e (rmk 3 70) s m (List.toArray [.ref mo, .int (iI co), .int (iI 3)]) below meth c H locs 0 0 (MX X below (List.toArray [.ref mo, .int (iI co), .int (iI 3)]) s 0 0 (some (.int (iI (sm (towR σ co) 0 (σ 1))))) (fun w' => w' = w)) (F0 m 5 ls []) := by
    intro n9
    induction n9 with
    | zero => intro r  hrg hms; exfalso; omega
    | succ n9 ih5 =>
      intro r  hrg hms   H locs ls hW hS hl
      refine lv_iload F.1 F.2.1 dX9_cellsOf_5 (lv_at hl 1 rfl) ?_
      refine lv_aload_n F.1 F.2.1 dX9_cellsOf_7 rfl (lv_at hl 2 rfl) ?_
      refine gf_RX9_7 F hW hM rfl dX9_cellsOf_8 ?_
      refine h_iconst F dX9_cellsOf_11 ?_
      refine h_iald F hW hs (by omega) (by omega) dX9_cellsOf_12 ?_
      refine h_icge (tgt := 156) F dX9_cellsOf_13 (by decide) (by omega) (fun c1 => ?_) (fun c1 => ?_)
      · refine lv_iload_n F.1 F.2.1 dX9_cellsOf_156 rfl (lv_at hl 0 rfl) ?_
        refine h_top (show (sm (towR σ co) 0 r : Int) = sm (towR σ co) 0 (σ 1) from by rw [show r = σ 1 by omega]) ?_
        exact h_ireti F hr hlk hW hS rfl dX9_cellsOf_157
      · refine h_iconst F dX9_cellsOf_16 ?_
        refine lv_istore (lv' := [(5, .int (iI 0)), (3, .int (iI (sm (towR σ co) 0 r))), (4, .int (iI r)), (0, .ref mo), (1, .int (iI co)), (2, .int (iI 3))]) F.1 F.2.1 dX9_cellsOf_17 hl (by decide) rfl (fun ls hl => ?_)
        have loop19 : ∀ (n9 : Nat) (i : Int), (hrg : 0 ≤ i ∧ i ≤ σ 0) → (hms : σ 0 - i < (n9 : Int)) → (H : Heap) → (locs : List Loc) → (ls : Array Slot) → Wd X w s H → va_S (cxA X) s.heap H locs → lv_has ls 7 [(3, .int (iI (sm (towR σ co) 0 r + cnt (fun z => decide (cellS σ z r = -1) && decide (desS σ z r = co)) 0 i))), (5, .int (iI i)), (4, .int (iI r)), (0, .ref mo), (1, .int (iI co)), (2, .int (iI 3))] → W p l e (rmk 3 70) s m (List.toArray [.ref mo, .int (iI co), .int (iI 3)]) below meth c H locs 0 0 (MX X below (List.toArray [.ref mo, .int (iI co), .int (iI 3)]) s 0 0 (some (.int (iI (sm (towR σ co) 0 (σ 1))))) (fun w' => w' = w)) (F0 m 19 ls []) := by
          intro n9
          induction n9 with
          | zero => intro i  hrg hms; exfalso; omega
          | succ n9 ih19 =>
            intro i  hrg hms   H locs ls hW hS hl
            refine lv_iload F.1 F.2.1 dX9_cellsOf_19 (lv_at hl 1 rfl) ?_
            refine lv_aload_n F.1 F.2.1 dX9_cellsOf_21 rfl (lv_at hl 3 rfl) ?_
            refine gf_RX9_7 F hW hM rfl dX9_cellsOf_22 ?_
            refine h_iconst F dX9_cellsOf_25 ?_
            refine h_iald F hW hs (by omega) (by omega) dX9_cellsOf_26 ?_
            refine h_icge (tgt := 150) F dX9_cellsOf_27 (by decide) (by omega) (fun c2 => ?_) (fun c2 => ?_)
            · refine h_iinc (k := 2) (a := r) (lv' := [(4, .int (iI (r + 1))), (3, .int (iI (sm (towR σ co) 0 r + cnt (fun z => decide (cellS σ z r = -1) && decide (desS σ z r = co)) 0 i))), (5, .int (iI i)), (0, .ref mo), (1, .int (iI co)), (2, .int (iI 3))]) F dX9_cellsOf_150 hl rfl (by decide) rfl (fun ls hl => ?_)
              refine h_goto (tgt := 5) F dX9_cellsOf_153 (by decide) ?_
              have eq3 : (sm (towR σ co) 0 (r + 1) : Int) = sm (towR σ co) 0 r + cnt (fun z => decide (cellS σ z r = -1) && decide (desS σ z r = co)) 0 i := by rw [sm_s _ (by omega), show i = σ 0 by omega]; first | rfl | (congr 1; split; (rw [show (fun z => decide (r < σ 4) && decide (cellS σ z r = co)) = (fun z => decide (cellS σ z r = co)) from funext (fun z => by rw [decide_eq_true (p := r < σ 4) (by omega)]; rfl)]; rfl); (rw [show (fun z => decide (r < σ 4) && decide (cellS σ z r = co)) = (fun _ => false) from funext (fun z => by rw [decide_eq_false (p := r < σ 4) (by omega)]; rfl), cnt_n]))
              have eq4 : ((r + 1) : Int) = r + 1 := by first | rfl | omega | simp
              exact ih5 (r + 1)  (by omega) (by omega)   _ _ ls hW hS (by rw [eq3, eq4]; exact lv_sub hl [1, 0, 3, 4, 5] rfl)
            · have join131 : ∀ (H : Heap) (locs : List Loc) (ls : Array Slot), Wd X w s H → va_S (cxA X) s.heap H locs → lv_has ls 7 [(6, .int (iI (bz (decide (cellS σ i r = -1) && decide (desS σ i r = co))))), (3, .int (iI (sm (towR σ co) 0 r + cnt (fun z => decide (cellS σ z r = -1) && decide (desS σ z r = co)) 0 i))), (5, .int (iI i)), (4, .int (iI r)), (0, .ref mo), (1, .int (iI co)), (2, .int (iI 3))] → W p l e (rmk 3 70) s m (List.toArray [.ref mo, .int (iI co), .int (iI 3)]) below meth c H locs 0 0 (MX X below (List.toArray [.ref mo, .int (iI co), .int (iI 3)]) s 0 0 (some (.int (iI (sm (towR σ co) 0 (σ 1))))) (fun w' => w' = w)) (F0 m 131 ls []) := by
                intro  H locs ls  hW hS hl
                refine lv_iload_n F.1 F.2.1 dX9_cellsOf_131 rfl (lv_at hl 1 rfl) ?_
                refine lv_iload F.1 F.2.1 dX9_cellsOf_132 (lv_at hl 0 rfl) ?_
                refine h_ifeqb (tgt := 141) F dX9_cellsOf_134 (by decide) (fun c5 => ?_) (fun c5 => ?_)
                · refine h_iconst F dX9_cellsOf_141 ?_
                  refine h_iadd (a := sm (towR σ co) 0 r + cnt (fun z => decide (cellS σ z r = -1) && decide (desS σ z r = co)) 0 i) (b := 0) F dX9_cellsOf_142 ?_
                  refine lv_istore_n (lv' := [(3, .int (iI ((sm (towR σ co) 0 r + cnt (fun z => decide (cellS σ z r = -1) && decide (desS σ z r = co)) 0 i) + 0))), (6, .int (iI (bz (decide (cellS σ i r = -1) && decide (desS σ i r = co))))), (5, .int (iI i)), (4, .int (iI r)), (0, .ref mo), (1, .int (iI co)), (2, .int (iI 3))]) F.1 F.2.1 dX9_cellsOf_143 rfl hl (by decide) rfl (fun ls hl => ?_)
                  refine h_iinc (k := 2) (a := i) (lv' := [(5, .int (iI (i + 1))), (3, .int (iI ((sm (towR σ co) 0 r + cnt (fun z => decide (cellS σ z r = -1) && decide (desS σ z r = co)) 0 i) + 0))), (6, .int (iI (bz (decide (cellS σ i r = -1) && decide (desS σ i r = co))))), (4, .int (iI r)), (0, .ref mo), (1, .int (iI co)), (2, .int (iI 3))]) F dX9_cellsOf_144 hl rfl (by decide) rfl (fun ls hl => ?_)
                  refine h_goto (tgt := 19) F dX9_cellsOf_147 (by decide) ?_
                  have eq6 : (sm (towR σ co) 0 r + cnt (fun z => decide (cellS σ z r = -1) && decide (desS σ z r = co)) 0 (i + 1) : Int) = (sm (towR σ co) 0 r + cnt (fun z => decide (cellS σ z r = -1) && decide (desS σ z r = co)) 0 i) + 0 := by first | (rw [cnt_t (by omega) (by assumption)]; omega) | (rw [cnt_f (by omega) (by assumption)]; omega)
                  have eq7 : ((i + 1) : Int) = i + 1 := by first | rfl | omega | simp
                  exact ih19 (i + 1)  (by omega) (by omega)   _ _ ls hW hS (by rw [eq6, eq7]; exact lv_sub hl [1, 0, 3, 4, 5, 6] rfl)
                · refine h_iconst F dX9_cellsOf_137 ?_
                  refine h_goto (tgt := 142) F dX9_cellsOf_138 (by decide) ?_
                  refine h_iadd (a := sm (towR σ co) 0 r + cnt (fun z => decide (cellS σ z r = -1) && decide (desS σ z r = co)) 0 i) (b := 1) F dX9_cellsOf_142 ?_
                  refine lv_istore_n (lv' := [(3, .int (iI ((sm (towR σ co) 0 r + cnt (fun z => decide (cellS σ z r = -1) && decide (desS σ z r = co)) 0 i) + 1))), (6, .int (iI (bz (decide (cellS σ i r = -1) && decide (desS σ i r = co))))), (5, .int (iI i)), (4, .int (iI r)), (0, .ref mo), (1, .int (iI co)), (2, .int (iI 3))]) F.1 F.2.1 dX9_cellsOf_143 rfl hl (by decide) rfl (fun ls hl => ?_)
                  refine h_iinc (k := 2) (a := i) (lv' := [(5, .int (iI (i + 1))), (3, .int (iI ((sm (towR σ co) 0 r + cnt (fun z => decide (cellS σ z r = -1) && decide (desS σ z r = co)) 0 i) + 1))), (6, .int (iI (bz (decide (cellS σ i r = -1) && decide (desS σ i r = co))))), (4, .int (iI r)), (0, .ref mo), (1, .int (iI co)), (2, .int (iI 3))]) F dX9_cellsOf_144 hl rfl (by decide) rfl (fun ls hl => ?_)
                  refine h_goto (tgt := 19) F dX9_cellsOf_147 (by decide) ?_
                  have eq8 : (sm (towR σ co) 0 r + cnt (fun z => decide (cellS σ z r = -1) && decide (desS σ z r = co)) 0 (i + 1) : Int) = (sm (towR σ co) 0 r + cnt (fun z => decide (cellS σ z r = -1) && decide (desS σ z r = co)) 0 i) + 1 := by first | (rw [cnt_t (by omega) (by assumption)]; omega) | (rw [cnt_f (by omega) (by assumption)]; omega)
                  have eq9 : ((i + 1) : Int) = i + 1 := by first | rfl | omega | simp
                  exact ih19 (i + 1)  (by omega) (by omega)   _ _ ls hW hS (by rw [eq8, eq9]; exact lv_sub hl [1, 0, 3, 4, 5, 6] rfl)
              have hce := hwf.2.2.2.1 i r (by omega) (by omega) (by omega) (by omega)
              have hde := desS_r hwf i r
              refine lv_iload_n F.1 F.2.1 dX9_cellsOf_30 rfl (lv_at hl 5 rfl) ?_
              refine h_iconst F dX9_cellsOf_31 ?_
              refine h_icne (tgt := 68) F dX9_cellsOf_32 (by decide) (by decide) (fun _ => ?_) (fun c9 => absurd c9 (by decide))
              refine lv_iload_n F.1 F.2.1 dX9_cellsOf_68 rfl (lv_at hl 5 rfl) ?_
              refine h_iconst F dX9_cellsOf_69 ?_
              refine h_icne (tgt := 95) F dX9_cellsOf_70 (by decide) (by decide) (fun _ => ?_) (fun c9 => absurd c9 (by decide))
              refine lv_iload_n F.1 F.2.1 dX9_cellsOf_95 rfl (lv_at hl 5 rfl) ?_
              refine h_iconst F dX9_cellsOf_96 ?_
              refine h_iceq (tgt := 112) F dX9_cellsOf_97 (by decide) (by decide) (fun c9 => absurd c9 (by decide)) (fun _ => ?_)
              refine lv_aload_n F.1 F.2.1 dX9_cellsOf_100 rfl (lv_at hl 3 rfl) ?_
              refine lv_iload F.1 F.2.1 dX9_cellsOf_101 (lv_at hl 1 rfl) ?_
              refine lv_iload F.1 F.2.1 dX9_cellsOf_103 (lv_at hl 2 rfl) ?_
              refine cl_RX9_113 (As := [.int (iI i), .int (iI r)]) (rest := []) F hl (c_X9_colourAt l X w mo v σ i r hM hs hwf (by omega)) hW hS hM rfl rfl ⟨Nat.le_of_ble_eq_true rfl, Nat.le_of_ble_eq_true rfl⟩ (Nat.le_of_ble_eq_true rfl) ⟨Nat.zero_le _, Nat.zero_le _⟩ dX9_cellsOf_105 (fun w1 H locs hp13 hW hS => ?_)
              rw [hp13] at hW; clear hp13; clear w1
              refine h_iconst F dX9_cellsOf_108 ?_
              refine h_icne (tgt := 128) F dX9_cellsOf_109 (by decide) (by omega) (fun c14 => ?_) (fun c14 => ?_)
              · refine h_iconst F dX9_cellsOf_128 ?_
                refine lv_istore (lv' := [(6, .int (iI 0)), (3, .int (iI (sm (towR σ co) 0 r + cnt (fun z => decide (cellS σ z r = -1) && decide (desS σ z r = co)) 0 i))), (5, .int (iI i)), (4, .int (iI r)), (0, .ref mo), (1, .int (iI co)), (2, .int (iI 3))]) F.1 F.2.1 dX9_cellsOf_129 hl (by decide) rfl (fun ls hl => ?_)
                have eq15 : (bz (decide (cellS σ i r = -1) && decide (desS σ i r = co)) : Int) = 0 := by first | exact (bzt (by simp only [Bool.and_eq_true, decide_eq_true_eq]; omega)).symm | exact (bzf (by simp only [Bool.and_eq_false_iff, decide_eq_false_iff_not]; omega)).symm
                exact join131  _ _ ls  hW hS (by rw [eq15]; exact lv_sub hl [0, 1, 2, 3, 4, 5, 6] rfl)
              · refine lv_aload_n F.1 F.2.1 dX9_cellsOf_112 rfl (lv_at hl 3 rfl) ?_
                refine lv_iload F.1 F.2.1 dX9_cellsOf_113 (lv_at hl 1 rfl) ?_
                refine lv_iload F.1 F.2.1 dX9_cellsOf_115 (lv_at hl 2 rfl) ?_
                refine cl_RX9_116 (As := [.int (iI i), .int (iI r)]) (rest := []) F hl (c_X9_designOf l X w mo v σ i r hM hs hwf (by omega)) hW hS hM rfl rfl ⟨Nat.le_of_ble_eq_true rfl, Nat.le_of_ble_eq_true rfl⟩ (Nat.le_of_ble_eq_true rfl) ⟨Nat.zero_le _, Nat.zero_le _⟩ dX9_cellsOf_117 (fun w1 H locs hp16 hW hS => ?_)
                rw [hp16] at hW; clear hp16; clear w1
                refine lv_iload_n F.1 F.2.1 dX9_cellsOf_120 rfl (lv_at hl 4 rfl) ?_
                refine h_icne (tgt := 128) F dX9_cellsOf_121 (by decide) (by omega) (fun c17 => ?_) (fun c17 => ?_)
                · refine h_iconst F dX9_cellsOf_128 ?_
                  refine lv_istore (lv' := [(6, .int (iI 0)), (3, .int (iI (sm (towR σ co) 0 r + cnt (fun z => decide (cellS σ z r = -1) && decide (desS σ z r = co)) 0 i))), (5, .int (iI i)), (4, .int (iI r)), (0, .ref mo), (1, .int (iI co)), (2, .int (iI 3))]) F.1 F.2.1 dX9_cellsOf_129 hl (by decide) rfl (fun ls hl => ?_)
                  have eq18 : (bz (decide (cellS σ i r = -1) && decide (desS σ i r = co)) : Int) = 0 := by first | exact (bzt (by simp only [Bool.and_eq_true, decide_eq_true_eq]; omega)).symm | exact (bzf (by simp only [Bool.and_eq_false_iff, decide_eq_false_iff_not]; omega)).symm
                  exact join131  _ _ ls  hW hS (by rw [eq18]; exact lv_sub hl [0, 1, 2, 3, 4, 5, 6] rfl)
                · refine h_iconst F dX9_cellsOf_124 ?_
                  refine h_goto (tgt := 129) F dX9_cellsOf_125 (by decide) ?_
                  refine lv_istore (lv' := [(6, .int (iI 1)), (3, .int (iI (sm (towR σ co) 0 r + cnt (fun z => decide (cellS σ z r = -1) && decide (desS σ z r = co)) 0 i))), (5, .int (iI i)), (4, .int (iI r)), (0, .ref mo), (1, .int (iI co)), (2, .int (iI 3))]) F.1 F.2.1 dX9_cellsOf_129 hl (by decide) rfl (fun ls hl => ?_)
                  have eq19 : (bz (decide (cellS σ i r = -1) && decide (desS σ i r = co)) : Int) = 1 := by first | exact (bzt (by simp only [Bool.and_eq_true, decide_eq_true_eq]; omega)).symm | exact (bzf (by simp only [Bool.and_eq_false_iff, decide_eq_false_iff_not]; omega)).symm
                  exact join131  _ _ ls  hW hS (by rw [eq19]; exact lv_sub hl [0, 1, 2, 3, 4, 5, 6] rfl)
        have eq20 : (sm (towR σ co) 0 r + cnt (fun z => decide (cellS σ z r = -1) && decide (desS σ z r = co)) 0 0 : Int) = sm (towR σ co) 0 r := by rw [cnt_0]; omega
        exact loop19 ((σ 0 - 0) + 1 : Int).toNat 0  (by omega) (by omega)   _ _ ls hW hS (by rw [eq20]; exact lv_sub hl [1, 0, 2, 3, 4, 5] rfl)
  have eq21 : (sm (towR σ co) 0 0 : Int) = 0 := sm_0 _ _
  exact loop5 ((σ 1 - 0) + 1 : Int).toNat 0  (by omega) (by omega)   _ _ ls hW hS (by rw [eq21]; exact lv_sub hl [1, 0, 2, 3, 4] rfl)
set_option maxHeartbeats 4000000 in
set_option maxRecDepth 100000 in
theorem c_X9_joinsOf (l : Launch) (X : Cx) (w : Wo) (mo : Nat) (v σ : Int → Int) (rn : Int) (hM : w mo = some (.inr (9, mL mo v))) (hs : w (mo + 1) = some (aZ X 1317 σ)) (hwf : WF σ) (hr : 0 ≤ rn ∧ rn < σ 1) : CM l X yX9_joinsOf cX9_joinsOf 4 (some (.int)) (rmk 2 43) [.ref mo, .int (iI rn)] w (some (.int (iI (cnt (fun z => decide (cellS σ z rn ≠ cellS σ (z + 1) rn)) 0 (σ 0 - 1))))) (fun w' => w' = w) := by
  refine CM.of (lv := [(0, .ref mo), (1, .int (iI rn))]) (by decide) (Nat.le_of_ble_eq_true rfl) rfl (fun p e s m below meth c ls F hr hlk hin hW hS hl => ?_)
  have hZ0 := hW.2.2
  have hB9 := hW.1.2
  clear hin
  have hF := hwf.1
  unfold WF0 at hF
  refine h_iconst F dX9_joinsOf_0 ?_
  refine lv_istore_n (lv' := [(2, .int (iI 0)), (0, .ref mo), (1, .int (iI rn))]) F.1 F.2.1 dX9_joinsOf_1 rfl hl (by decide) rfl (fun ls hl => ?_)
  refine h_iconst F dX9_joinsOf_2 ?_
  refine lv_istore_n (lv' := [(3, .int (iI 0)), (2, .int (iI 0)), (0, .ref mo), (1, .int (iI rn))]) F.1 F.2.1 dX9_joinsOf_3 rfl hl (by decide) rfl (fun ls hl => ?_)
  have loop4 : ∀ (n9 : Nat) (i : Int), (hrg : 0 ≤ i ∧ i ≤ σ 0 - 1) → (hms : σ 0 - 1 - i < (n9 : Int)) → (H : Heap) → (locs : List Loc) → (ls : Array Slot) → Wd X w s H → va_S (cxA X) s.heap H locs → lv_has ls 4 [(2, .int (iI (cnt (fun z => decide (cellS σ z rn ≠ cellS σ (z + 1) rn)) 0 i))), (3, .int (iI i)), (0, .ref mo), (1, .int (iI rn))] → W p l e (rmk 2 43) s m (List.toArray [.ref mo, .int (iI rn)]) below meth c H locs 0 0 (MX X below (List.toArray [.ref mo, .int (iI rn)]) s 0 0 (some (.int (iI (cnt (fun z => decide (cellS σ z rn ≠ cellS σ (z + 1) rn)) 0 (σ 0 - 1))))) (fun w' => w' = w)) (F0 m 4 ls []) := by
    intro n9
    induction n9 with
    | zero => intro i  hrg hms; exfalso; omega
    | succ n9 ih4 =>
      intro i  hrg hms   H locs ls hW hS hl
      refine lv_iload_n F.1 F.2.1 dX9_joinsOf_4 rfl (lv_at hl 1 rfl) ?_
      refine h_iconst F dX9_joinsOf_5 ?_
      refine h_iadd (a := i) (b := 1) F dX9_joinsOf_6 ?_
      refine lv_aload_n F.1 F.2.1 dX9_joinsOf_7 rfl (lv_at hl 2 rfl) ?_
      refine gf_RX9_7 F hW hM rfl dX9_joinsOf_8 ?_
      refine h_iconst F dX9_joinsOf_11 ?_
      refine h_iald F hW hs (by omega) (by omega) dX9_joinsOf_12 ?_
      refine h_icge (tgt := 47) F dX9_joinsOf_13 (by decide) (by omega) (fun c1 => ?_) (fun c1 => ?_)
      · refine lv_iload_n F.1 F.2.1 dX9_joinsOf_47 rfl (lv_at hl 0 rfl) ?_
        refine h_top (show (cnt (fun z => decide (cellS σ z rn ≠ cellS σ (z + 1) rn)) 0 i : Int) = cnt (fun z => decide (cellS σ z rn ≠ cellS σ (z + 1) rn)) 0 (σ 0 - 1) from by rw [show i = σ 0 - 1 by omega]) ?_
        exact h_ireti F hr hlk hW hS rfl dX9_joinsOf_48
      · refine lv_iload_n F.1 F.2.1 dX9_joinsOf_16 rfl (lv_at hl 0 rfl) ?_
        refine lv_aload_n F.1 F.2.1 dX9_joinsOf_17 rfl (lv_at hl 2 rfl) ?_
        refine lv_iload_n F.1 F.2.1 dX9_joinsOf_18 rfl (lv_at hl 1 rfl) ?_
        refine lv_iload_n F.1 F.2.1 dX9_joinsOf_19 rfl (lv_at hl 3 rfl) ?_
        refine cl_RX9_113 (As := [.int (iI i), .int (iI rn)]) (rest := [.int (iI (cnt (fun z => decide (cellS σ z rn ≠ cellS σ (z + 1) rn)) 0 i))]) F hl (c_X9_colourAt l X w mo v σ i rn hM hs hwf (by omega)) hW hS hM rfl rfl ⟨Nat.le_of_ble_eq_true rfl, Nat.le_of_ble_eq_true rfl⟩ (Nat.le_of_ble_eq_true rfl) ⟨Nat.zero_le _, Nat.zero_le _⟩ dX9_joinsOf_20 (fun w1 H locs hp2 hW hS => ?_)
        rw [hp2] at hW; clear hp2; clear w1
        refine lv_aload_n F.1 F.2.1 dX9_joinsOf_23 rfl (lv_at hl 2 rfl) ?_
        refine lv_iload_n F.1 F.2.1 dX9_joinsOf_24 rfl (lv_at hl 1 rfl) ?_
        refine h_iconst F dX9_joinsOf_25 ?_
        refine h_iadd (a := i) (b := 1) F dX9_joinsOf_26 ?_
        refine lv_iload_n F.1 F.2.1 dX9_joinsOf_27 rfl (lv_at hl 3 rfl) ?_
        refine cl_RX9_113 (As := [.int (iI (i + 1)), .int (iI rn)]) (rest := [.int (iI (cellS σ i rn)), .int (iI (cnt (fun z => decide (cellS σ z rn ≠ cellS σ (z + 1) rn)) 0 i))]) F hl (c_X9_colourAt l X w mo v σ (i + 1) rn hM hs hwf (by omega)) hW hS hM rfl rfl ⟨Nat.le_of_ble_eq_true rfl, Nat.le_of_ble_eq_true rfl⟩ (Nat.le_of_ble_eq_true rfl) ⟨Nat.zero_le _, Nat.zero_le _⟩ dX9_joinsOf_28 (fun w1 H locs hp3 hW hS => ?_)
        rw [hp3] at hW; clear hp3; clear w1
        have hj1 := hwf.2.2.2.1 i rn (by omega) (by omega) (by omega) (by omega)
        have hj2 := hwf.2.2.2.1 (i + 1) rn (by omega) (by omega) (by omega) (by omega)
        refine h_icne (tgt := 38) F dX9_joinsOf_31 (by decide) (by omega) (fun c4 => ?_) (fun c4 => ?_)
        · refine h_iconst F dX9_joinsOf_38 ?_
          refine h_iadd (a := cnt (fun z => decide (cellS σ z rn ≠ cellS σ (z + 1) rn)) 0 i) (b := 1) F dX9_joinsOf_39 ?_
          refine lv_istore_n (lv' := [(2, .int (iI ((cnt (fun z => decide (cellS σ z rn ≠ cellS σ (z + 1) rn)) 0 i) + 1))), (3, .int (iI i)), (0, .ref mo), (1, .int (iI rn))]) F.1 F.2.1 dX9_joinsOf_40 rfl hl (by decide) rfl (fun ls hl => ?_)
          refine h_iinc (k := 1) (a := i) (lv' := [(3, .int (iI (i + 1))), (2, .int (iI ((cnt (fun z => decide (cellS σ z rn ≠ cellS σ (z + 1) rn)) 0 i) + 1))), (0, .ref mo), (1, .int (iI rn))]) F dX9_joinsOf_41 hl rfl (by decide) rfl (fun ls hl => ?_)
          refine h_goto (tgt := 4) F dX9_joinsOf_44 (by decide) ?_
          have eq5 : (cnt (fun z => decide (cellS σ z rn ≠ cellS σ (z + 1) rn)) 0 (i + 1) : Int) = (cnt (fun z => decide (cellS σ z rn ≠ cellS σ (z + 1) rn)) 0 i) + 1 := by first | rw [cnt_t (by omega) (decide_eq_true (by omega))] | (rw [cnt_f (by omega) (decide_eq_false (by omega))]; omega)
          have eq6 : ((i + 1) : Int) = i + 1 := by first | rfl | omega | simp
          exact ih4 (i + 1)  (by omega) (by omega)   _ _ ls hW hS (by rw [eq5, eq6]; exact lv_sub hl [1, 0, 2, 3] rfl)
        · refine h_iconst F dX9_joinsOf_34 ?_
          refine h_goto (tgt := 39) F dX9_joinsOf_35 (by decide) ?_
          refine h_iadd (a := cnt (fun z => decide (cellS σ z rn ≠ cellS σ (z + 1) rn)) 0 i) (b := 0) F dX9_joinsOf_39 ?_
          refine lv_istore_n (lv' := [(2, .int (iI ((cnt (fun z => decide (cellS σ z rn ≠ cellS σ (z + 1) rn)) 0 i) + 0))), (3, .int (iI i)), (0, .ref mo), (1, .int (iI rn))]) F.1 F.2.1 dX9_joinsOf_40 rfl hl (by decide) rfl (fun ls hl => ?_)
          refine h_iinc (k := 1) (a := i) (lv' := [(3, .int (iI (i + 1))), (2, .int (iI ((cnt (fun z => decide (cellS σ z rn ≠ cellS σ (z + 1) rn)) 0 i) + 0))), (0, .ref mo), (1, .int (iI rn))]) F dX9_joinsOf_41 hl rfl (by decide) rfl (fun ls hl => ?_)
          refine h_goto (tgt := 4) F dX9_joinsOf_44 (by decide) ?_
          have eq7 : (cnt (fun z => decide (cellS σ z rn ≠ cellS σ (z + 1) rn)) 0 (i + 1) : Int) = (cnt (fun z => decide (cellS σ z rn ≠ cellS σ (z + 1) rn)) 0 i) + 0 := by first | rw [cnt_t (by omega) (decide_eq_true (by omega))] | (rw [cnt_f (by omega) (decide_eq_false (by omega))]; omega)
          have eq8 : ((i + 1) : Int) = i + 1 := by first | rfl | omega | simp
          exact ih4 (i + 1)  (by omega) (by omega)   _ _ ls hW hS (by rw [eq7, eq8]; exact lv_sub hl [1, 0, 2, 3] rfl)
  have eq9 : (cnt (fun z => decide (cellS σ z rn ≠ cellS σ (z + 1) rn)) 0 0 : Int) = 0 := cnt_0 _ _
  exact loop4 ((σ 0 - 1 - 0) + 1 : Int).toNat 0  (by omega) (by omega)   _ _ ls hW hS (by rw [eq9]; exact lv_sub hl [1, 0, 2, 3] rfl)
set_option maxHeartbeats 4000000 in
set_option maxRecDepth 100000 in
theorem c_X9_wovenAt (l : Launch) (X : Cx) (w : Wo) (mo : Nat) (v σ : Int → Int) (cn rn : Int) (b : Bool) (hM : w mo = some (.inr (9, mL mo v))) (hs : w (mo + 1) = some (aZ X 1317 σ)) (hwf : WF σ) (hc : 0 ≤ cn ∧ cn < σ 0 ∧ 0 ≤ rn ∧ rn < σ 1) : CM l X yX9_wovenAt cX9_wovenAt 5 (some (.int)) (rmk 3 70) [.ref mo, .int (iI cn), .int (iI rn), .int (iI (bz b))] w (some (.int (iI (if cellS σ cn rn = -1 then desS σ (if b then turnS σ cn else cn) rn else cellS σ cn rn)))) (fun w' => w' = w) := by
  refine CM.of (lv := [(0, .ref mo), (1, .int (iI cn)), (2, .int (iI rn)), (3, .int (iI (bz b)))]) (by decide) (Nat.le_of_ble_eq_true rfl) rfl (fun p e s m below meth c ls F hr hlk hin hW hS hl => ?_)
  have hZ0 := hW.2.2
  have hB9 := hW.1.2
  clear hin
  have hF := hwf.1
  unfold WF0 at hF
  have hce := hwf.2.2.2.1 cn rn (by omega) (by omega) (by omega) (by omega)
  have htt : 0 ≤ turnS σ cn ∧ turnS σ cn < σ 0 := by unfold turnS; omega
  refine lv_aload_n F.1 F.2.1 dX9_wovenAt_0 rfl (lv_at hl 0 rfl) ?_
  refine lv_iload_n F.1 F.2.1 dX9_wovenAt_1 rfl (lv_at hl 1 rfl) ?_
  refine lv_iload_n F.1 F.2.1 dX9_wovenAt_2 rfl (lv_at hl 2 rfl) ?_
  refine cl_RX9_113 (As := [.int (iI cn), .int (iI rn)]) (rest := []) F hl (c_X9_colourAt l X w mo v σ cn rn hM hs hwf (by omega)) hW hS hM rfl rfl ⟨Nat.le_of_ble_eq_true rfl, Nat.le_of_ble_eq_true rfl⟩ (Nat.le_of_ble_eq_true rfl) ⟨Nat.zero_le _, Nat.zero_le _⟩ dX9_wovenAt_3 (fun w1 H locs hp1 hW hS => ?_)
  rw [hp1] at hW; clear hp1; clear w1
  refine lv_istore (lv' := [(4, .int (iI (cellS σ cn rn))), (0, .ref mo), (1, .int (iI cn)), (2, .int (iI rn)), (3, .int (iI (bz b)))]) F.1 F.2.1 dX9_wovenAt_6 hl (by decide) rfl (fun ls hl => ?_)
  refine lv_iload F.1 F.2.1 dX9_wovenAt_8 (lv_at hl 0 rfl) ?_
  refine h_iconst F dX9_wovenAt_10 ?_
  refine h_iceq (tgt := 19) F dX9_wovenAt_11 (by decide) (by omega) (fun c2 => ?_) (fun c2 => ?_)
  · refine lv_aload_n F.1 F.2.1 dX9_wovenAt_19 rfl (lv_at hl 1 rfl) ?_
    refine lv_iload_n F.1 F.2.1 dX9_wovenAt_20 rfl (lv_at hl 4 rfl) ?_
    refine h_ifeqb (tgt := 32) F dX9_wovenAt_21 (by decide) (fun c3 => ?_) (fun c3 => ?_)
    · refine lv_iload_n F.1 F.2.1 dX9_wovenAt_32 rfl (lv_at hl 2 rfl) ?_
      refine lv_iload_n F.1 F.2.1 dX9_wovenAt_33 rfl (lv_at hl 3 rfl) ?_
      refine cl_RX9_116 (As := [.int (iI cn), .int (iI rn)]) (rest := []) F hl (c_X9_designOf l X w mo v σ cn rn hM hs hwf (by omega)) hW hS hM rfl rfl ⟨Nat.le_of_ble_eq_true rfl, Nat.le_of_ble_eq_true rfl⟩ (Nat.le_of_ble_eq_true rfl) ⟨Nat.zero_le _, Nat.zero_le _⟩ dX9_wovenAt_34 (fun w1 H locs hp4 hW hS => ?_)
      rw [hp4] at hW; clear hp4; clear w1
      refine h_top (show (desS σ cn rn : Int) = (if cellS σ cn rn = -1 then desS σ (if b then turnS σ cn else cn) rn else cellS σ cn rn) from by split <;> first | rfl | omega | (rw [‹b = true›]; rfl) | (rw [‹b = false›]; rfl)) ?_
      exact h_ireti F hr hlk hW hS rfl dX9_wovenAt_37
    · refine lv_aload_n F.1 F.2.1 dX9_wovenAt_24 rfl (lv_at hl 1 rfl) ?_
      refine lv_iload_n F.1 F.2.1 dX9_wovenAt_25 rfl (lv_at hl 2 rfl) ?_
      refine cl_RX9_102 (As := [.int (iI cn)]) (rest := [.ref mo]) F hl (c_X9_turned l X w mo v σ cn hM hs hwf) hW hS hM rfl rfl ⟨Nat.le_of_ble_eq_true rfl, Nat.le_of_ble_eq_true rfl⟩ (Nat.le_of_ble_eq_true rfl) ⟨Nat.zero_le _, Nat.zero_le _⟩ dX9_wovenAt_26 (fun w1 H locs hp5 hW hS => ?_)
      rw [hp5] at hW; clear hp5; clear w1
      refine h_goto (tgt := 33) F dX9_wovenAt_29 (by decide) ?_
      refine lv_iload_n F.1 F.2.1 dX9_wovenAt_33 rfl (lv_at hl 3 rfl) ?_
      refine cl_RX9_116 (As := [.int (iI (turnS σ cn)), .int (iI rn)]) (rest := []) F hl (c_X9_designOf l X w mo v σ (turnS σ cn) rn hM hs hwf (by omega)) hW hS hM rfl rfl ⟨Nat.le_of_ble_eq_true rfl, Nat.le_of_ble_eq_true rfl⟩ (Nat.le_of_ble_eq_true rfl) ⟨Nat.zero_le _, Nat.zero_le _⟩ dX9_wovenAt_34 (fun w1 H locs hp6 hW hS => ?_)
      rw [hp6] at hW; clear hp6; clear w1
      refine h_top (show (desS σ (turnS σ cn) rn : Int) = (if cellS σ cn rn = -1 then desS σ (if b then turnS σ cn else cn) rn else cellS σ cn rn) from by split <;> first | rfl | omega | (rw [‹b = true›]; rfl) | (rw [‹b = false›]; rfl)) ?_
      exact h_ireti F hr hlk hW hS rfl dX9_wovenAt_37
  · refine lv_iload F.1 F.2.1 dX9_wovenAt_14 (lv_at hl 0 rfl) ?_
    refine h_goto (tgt := 37) F dX9_wovenAt_16 (by decide) ?_
    refine h_top (show (cellS σ cn rn : Int) = (if cellS σ cn rn = -1 then desS σ (if b then turnS σ cn else cn) rn else cellS σ cn rn) from by split <;> first | rfl | omega | (rw [‹b = true›]; rfl) | (rw [‹b = false›]; rfl)) ?_
    exact h_ireti F hr hlk hW hS rfl dX9_wovenAt_37
set_option maxHeartbeats 4000000 in
set_option maxRecDepth 100000 in
theorem c_X9_takes (l : Launch) (X : Cx) (w : Wo) (mo : Nat) (v σ : Int → Int) (co rows : Int) (b : Bool) (hM : w mo = some (.inr (9, mL mo v))) (hs : w (mo + 1) = some (aZ X 1317 σ)) (hwf : WF σ) (hco : 0 ≤ co ∧ co < 7) (hro : 0 ≤ rows ∧ σ 4 + rows ≤ σ 1) : CM l X yX9_takes cX9_takes 7 (some (.int)) (rmk 4 94) [.ref mo, .int (iI co), .int (iI rows), .int (iI (bz b))] w (some (.int (iI (takeS σ b co rows)))) (fun w' => w' = w) := by
  refine CM.of (lv := [(0, .ref mo), (1, .int (iI co)), (2, .int (iI rows)), (3, .int (iI (bz b)))]) (by decide) (Nat.le_of_ble_eq_true rfl) rfl (fun p e s m below meth c ls F hr hlk hin hW hS hl => ?_)
  have hZ0 := hW.2.2
  have hB9 := hW.1.2
  clear hin
  have hF := hwf.1
  unfold WF0 at hF
  refine h_iconst F dX9_takes_0 ?_
  refine lv_istore (lv' := [(4, .int (iI 0)), (0, .ref mo), (1, .int (iI co)), (2, .int (iI rows)), (3, .int (iI (bz b)))]) F.1 F.2.1 dX9_takes_1 hl (by decide) rfl (fun ls hl => ?_)
  refine lv_aload_n F.1 F.2.1 dX9_takes_3 rfl (lv_at hl 1 rfl) ?_
  refine gf_RX9_7 F hW hM rfl dX9_takes_4 ?_
  refine h_iconst F dX9_takes_7 ?_
  refine h_iald F hW hs (by omega) (by omega) dX9_takes_8 ?_
  refine lv_istore (lv' := [(5, .int (iI (σ 4))), (4, .int (iI 0)), (0, .ref mo), (1, .int (iI co)), (2, .int (iI rows)), (3, .int (iI (bz b)))]) F.1 F.2.1 dX9_takes_9 hl (by decide) rfl (fun ls hl => ?_)
  have loop11 : ∀ (n9 : Nat) (r : Int), (hrg : σ 4 ≤ r ∧ r ≤ σ 4 + rows) → (hms : σ 4 + rows - r < (n9 : Int)) → (H : Heap) → (locs : List Loc) → (ls : Array Slot) → Wd X w s H → va_S (cxA X) s.heap H locs → lv_has ls 7 [(4, .int (iI (sm (takeR σ b co) (σ 4) r))), (5, .int (iI r)), (0, .ref mo), (1, .int (iI co)), (2, .int (iI rows)), (3, .int (iI (bz b)))] → W p l e (rmk 4 94) s m (List.toArray [.ref mo, .int (iI co), .int (iI rows), .int (iI (bz b))]) below meth c H locs 0 0 (MX X below (List.toArray [.ref mo, .int (iI co), .int (iI rows), .int (iI (bz b))]) s 0 0 (some (.int (iI (takeS σ b co rows)))) (fun w' => w' = w)) (F0 m 11 ls []) := by
    intro n9
    induction n9 with
    | zero => intro r  hrg hms; exfalso; omega
    | succ n9 ih11 =>
      intro r  hrg hms   H locs ls hW hS hl
      refine lv_iload F.1 F.2.1 dX9_takes_11 (lv_at hl 1 rfl) ?_
      refine lv_aload_n F.1 F.2.1 dX9_takes_13 rfl (lv_at hl 2 rfl) ?_
      refine gf_RX9_7 F hW hM rfl dX9_takes_14 ?_
      refine h_iconst F dX9_takes_17 ?_
      refine h_iald F hW hs (by omega) (by omega) dX9_takes_18 ?_
      refine lv_iload_n F.1 F.2.1 dX9_takes_19 rfl (lv_at hl 4 rfl) ?_
      refine h_iadd (a := σ 4) (b := rows) F dX9_takes_20 ?_
      refine h_icge (tgt := 85) F dX9_takes_21 (by decide) (by omega) (fun c1 => ?_) (fun c1 => ?_)
      · refine lv_iload F.1 F.2.1 dX9_takes_85 (lv_at hl 0 rfl) ?_
        refine h_top (show (sm (takeR σ b co) (σ 4) r : Int) = takeS σ b co rows from by rw [show r = σ 4 + rows by omega]; rfl) ?_
        exact h_ireti F hr hlk hW hS rfl dX9_takes_87
      · refine h_iconst F dX9_takes_24 ?_
        refine lv_istore (lv' := [(6, .int (iI 0)), (4, .int (iI (sm (takeR σ b co) (σ 4) r))), (5, .int (iI r)), (0, .ref mo), (1, .int (iI co)), (2, .int (iI rows)), (3, .int (iI (bz b)))]) F.1 F.2.1 dX9_takes_25 hl (by decide) rfl (fun ls hl => ?_)
        have loop27 : ∀ (n9 : Nat) (i : Int), (hrg : 0 ≤ i ∧ i ≤ σ 0) → (hms : σ 0 - i < (n9 : Int)) → (H : Heap) → (locs : List Loc) → (ls : Array Slot) → Wd X w s H → va_S (cxA X) s.heap H locs → lv_has ls 7 [(4, .int (iI (sm (takeR σ b co) (σ 4) r + cnt (fun z => decide (cellS σ z r = -1) && decide (desS σ (if b then turnS σ z else z) r = co)) 0 i))), (6, .int (iI i)), (5, .int (iI r)), (0, .ref mo), (1, .int (iI co)), (2, .int (iI rows)), (3, .int (iI (bz b)))] → W p l e (rmk 4 94) s m (List.toArray [.ref mo, .int (iI co), .int (iI rows), .int (iI (bz b))]) below meth c H locs 0 0 (MX X below (List.toArray [.ref mo, .int (iI co), .int (iI rows), .int (iI (bz b))]) s 0 0 (some (.int (iI (takeS σ b co rows)))) (fun w' => w' = w)) (F0 m 27 ls []) := by
          intro n9
          induction n9 with
          | zero => intro i  hrg hms; exfalso; omega
          | succ n9 ih27 =>
            intro i  hrg hms   H locs ls hW hS hl
            refine lv_iload F.1 F.2.1 dX9_takes_27 (lv_at hl 1 rfl) ?_
            refine lv_aload_n F.1 F.2.1 dX9_takes_29 rfl (lv_at hl 3 rfl) ?_
            refine gf_RX9_7 F hW hM rfl dX9_takes_30 ?_
            refine h_iconst F dX9_takes_33 ?_
            refine h_iald F hW hs (by omega) (by omega) dX9_takes_34 ?_
            refine h_icge (tgt := 79) F dX9_takes_35 (by decide) (by omega) (fun c2 => ?_) (fun c2 => ?_)
            · refine h_iinc (k := 2) (a := r) (lv' := [(5, .int (iI (r + 1))), (4, .int (iI (sm (takeR σ b co) (σ 4) r + cnt (fun z => decide (cellS σ z r = -1) && decide (desS σ (if b then turnS σ z else z) r = co)) 0 i))), (6, .int (iI i)), (0, .ref mo), (1, .int (iI co)), (2, .int (iI rows)), (3, .int (iI (bz b)))]) F dX9_takes_79 hl rfl (by decide) rfl (fun ls hl => ?_)
              refine h_goto (tgt := 11) F dX9_takes_82 (by decide) ?_
              have eq3 : (sm (takeR σ b co) (σ 4) (r + 1) : Int) = sm (takeR σ b co) (σ 4) r + cnt (fun z => decide (cellS σ z r = -1) && decide (desS σ (if b then turnS σ z else z) r = co)) 0 i := by rw [sm_s _ (by omega), show i = σ 0 by omega]; rfl
              have eq4 : ((r + 1) : Int) = r + 1 := by first | rfl | omega | simp
              exact ih11 (r + 1)  (by omega) (by omega)   _ _ ls hW hS (by rw [eq3, eq4]; exact lv_sub hl [1, 0, 3, 4, 5, 6] rfl)
            · refine lv_iload F.1 F.2.1 dX9_takes_38 (lv_at hl 0 rfl) ?_
              refine lv_aload_n F.1 F.2.1 dX9_takes_40 rfl (lv_at hl 3 rfl) ?_
              refine lv_iload F.1 F.2.1 dX9_takes_41 (lv_at hl 1 rfl) ?_
              refine lv_iload F.1 F.2.1 dX9_takes_43 (lv_at hl 2 rfl) ?_
              have hce := hwf.2.2.2.1 i r (by omega) (by omega) (by omega) (by omega)
              have hde := desS_r hwf (if b then turnS σ i else i) r
              refine cl_RX9_113 (As := [.int (iI i), .int (iI r)]) (rest := [.int (iI (sm (takeR σ b co) (σ 4) r + cnt (fun z => decide (cellS σ z r = -1) && decide (desS σ (if b then turnS σ z else z) r = co)) 0 i))]) F hl (c_X9_colourAt l X w mo v σ i r hM hs hwf (by omega)) hW hS hM rfl rfl ⟨Nat.le_of_ble_eq_true rfl, Nat.le_of_ble_eq_true rfl⟩ (Nat.le_of_ble_eq_true rfl) ⟨Nat.zero_le _, Nat.zero_le _⟩ dX9_takes_45 (fun w1 H locs hp5 hW hS => ?_)
              rw [hp5] at hW; clear hp5; clear w1
              refine h_iconst F dX9_takes_48 ?_
              refine h_icne (tgt := 69) F dX9_takes_49 (by decide) (by omega) (fun c6 => ?_) (fun c6 => ?_)
              · refine h_iconst F dX9_takes_69 ?_
                refine h_iadd (a := sm (takeR σ b co) (σ 4) r + cnt (fun z => decide (cellS σ z r = -1) && decide (desS σ (if b then turnS σ z else z) r = co)) 0 i) (b := 0) F dX9_takes_70 ?_
                refine lv_istore (lv' := [(4, .int (iI ((sm (takeR σ b co) (σ 4) r + cnt (fun z => decide (cellS σ z r = -1) && decide (desS σ (if b then turnS σ z else z) r = co)) 0 i) + 0))), (6, .int (iI i)), (5, .int (iI r)), (0, .ref mo), (1, .int (iI co)), (2, .int (iI rows)), (3, .int (iI (bz b)))]) F.1 F.2.1 dX9_takes_71 hl (by decide) rfl (fun ls hl => ?_)
                refine h_iinc (k := 1) (a := i) (lv' := [(6, .int (iI (i + 1))), (4, .int (iI ((sm (takeR σ b co) (σ 4) r + cnt (fun z => decide (cellS σ z r = -1) && decide (desS σ (if b then turnS σ z else z) r = co)) 0 i) + 0))), (5, .int (iI r)), (0, .ref mo), (1, .int (iI co)), (2, .int (iI rows)), (3, .int (iI (bz b)))]) F dX9_takes_73 hl rfl (by decide) rfl (fun ls hl => ?_)
                refine h_goto (tgt := 27) F dX9_takes_76 (by decide) ?_
                have eq7 : (sm (takeR σ b co) (σ 4) r + cnt (fun z => decide (cellS σ z r = -1) && decide (desS σ (if b then turnS σ z else z) r = co)) 0 (i + 1) : Int) = (sm (takeR σ b co) (σ 4) r + cnt (fun z => decide (cellS σ z r = -1) && decide (desS σ (if b then turnS σ z else z) r = co)) 0 i) + 0 := by first | (rw [cnt_t (by omega) (by rw [decide_eq_true (by assumption), decide_eq_true (by assumption)]; rfl)]; omega) | (rw [cnt_f (by omega) (by rw [decide_eq_false (p := cellS σ i r = -1) (by assumption)]; rfl)]; omega) | (rw [cnt_f (by omega) (by rw [decide_eq_false (p := _ = co) (by assumption)]; simp)]; omega)
                have eq8 : ((i + 1) : Int) = i + 1 := by first | rfl | omega | simp
                exact ih27 (i + 1)  (by omega) (by omega)   _ _ ls hW hS (by rw [eq7, eq8]; exact lv_sub hl [1, 0, 2, 3, 4, 5, 6] rfl)
              · refine lv_aload_n F.1 F.2.1 dX9_takes_52 rfl (lv_at hl 3 rfl) ?_
                refine lv_iload F.1 F.2.1 dX9_takes_53 (lv_at hl 1 rfl) ?_
                refine lv_iload F.1 F.2.1 dX9_takes_55 (lv_at hl 2 rfl) ?_
                refine lv_iload_n F.1 F.2.1 dX9_takes_57 rfl (lv_at hl 6 rfl) ?_
                refine cl_RX9_219 (As := [.int (iI i), .int (iI r), .int (iI (bz b))]) (rest := [.int (iI (sm (takeR σ b co) (σ 4) r + cnt (fun z => decide (cellS σ z r = -1) && decide (desS σ (if b then turnS σ z else z) r = co)) 0 i))]) F hl (c_X9_wovenAt l X w mo v σ i r b hM hs hwf (by omega)) hW hS hM rfl rfl ⟨Nat.le_of_ble_eq_true rfl, Nat.le_of_ble_eq_true rfl⟩ (Nat.le_of_ble_eq_true rfl) ⟨Nat.zero_le _, Nat.zero_le _⟩ dX9_takes_58 (fun w1 H locs hp9 hW hS => ?_)
                rw [hp9] at hW; clear hp9; clear w1
                refine h_top (show ((if cellS σ i r = -1 then desS σ (if b then turnS σ i else i) r else cellS σ i r) : Int) = desS σ (if b then turnS σ i else i) r from if_pos (by assumption)) ?_
                refine lv_iload_n F.1 F.2.1 dX9_takes_61 rfl (lv_at hl 4 rfl) ?_
                refine h_icne (tgt := 69) F dX9_takes_62 (by decide) (by omega) (fun c10 => ?_) (fun c10 => ?_)
                · refine h_iconst F dX9_takes_69 ?_
                  refine h_iadd (a := sm (takeR σ b co) (σ 4) r + cnt (fun z => decide (cellS σ z r = -1) && decide (desS σ (if b then turnS σ z else z) r = co)) 0 i) (b := 0) F dX9_takes_70 ?_
                  refine lv_istore (lv' := [(4, .int (iI ((sm (takeR σ b co) (σ 4) r + cnt (fun z => decide (cellS σ z r = -1) && decide (desS σ (if b then turnS σ z else z) r = co)) 0 i) + 0))), (6, .int (iI i)), (5, .int (iI r)), (0, .ref mo), (1, .int (iI co)), (2, .int (iI rows)), (3, .int (iI (bz b)))]) F.1 F.2.1 dX9_takes_71 hl (by decide) rfl (fun ls hl => ?_)
                  refine h_iinc (k := 1) (a := i) (lv' := [(6, .int (iI (i + 1))), (4, .int (iI ((sm (takeR σ b co) (σ 4) r + cnt (fun z => decide (cellS σ z r = -1) && decide (desS σ (if b then turnS σ z else z) r = co)) 0 i) + 0))), (5, .int (iI r)), (0, .ref mo), (1, .int (iI co)), (2, .int (iI rows)), (3, .int (iI (bz b)))]) F dX9_takes_73 hl rfl (by decide) rfl (fun ls hl => ?_)
                  refine h_goto (tgt := 27) F dX9_takes_76 (by decide) ?_
                  have eq11 : (sm (takeR σ b co) (σ 4) r + cnt (fun z => decide (cellS σ z r = -1) && decide (desS σ (if b then turnS σ z else z) r = co)) 0 (i + 1) : Int) = (sm (takeR σ b co) (σ 4) r + cnt (fun z => decide (cellS σ z r = -1) && decide (desS σ (if b then turnS σ z else z) r = co)) 0 i) + 0 := by first | (rw [cnt_t (by omega) (by rw [decide_eq_true (by assumption), decide_eq_true (by assumption)]; rfl)]; omega) | (rw [cnt_f (by omega) (by rw [decide_eq_false (p := cellS σ i r = -1) (by assumption)]; rfl)]; omega) | (rw [cnt_f (by omega) (by rw [decide_eq_false (p := _ = co) (by assumption)]; simp)]; omega)
                  have eq12 : ((i + 1) : Int) = i + 1 := by first | rfl | omega | simp
                  exact ih27 (i + 1)  (by omega) (by omega)   _ _ ls hW hS (by rw [eq11, eq12]; exact lv_sub hl [1, 0, 2, 3, 4, 5, 6] rfl)
                · refine h_iconst F dX9_takes_65 ?_
                  refine h_goto (tgt := 70) F dX9_takes_66 (by decide) ?_
                  refine h_iadd (a := sm (takeR σ b co) (σ 4) r + cnt (fun z => decide (cellS σ z r = -1) && decide (desS σ (if b then turnS σ z else z) r = co)) 0 i) (b := 1) F dX9_takes_70 ?_
                  refine lv_istore (lv' := [(4, .int (iI ((sm (takeR σ b co) (σ 4) r + cnt (fun z => decide (cellS σ z r = -1) && decide (desS σ (if b then turnS σ z else z) r = co)) 0 i) + 1))), (6, .int (iI i)), (5, .int (iI r)), (0, .ref mo), (1, .int (iI co)), (2, .int (iI rows)), (3, .int (iI (bz b)))]) F.1 F.2.1 dX9_takes_71 hl (by decide) rfl (fun ls hl => ?_)
                  refine h_iinc (k := 1) (a := i) (lv' := [(6, .int (iI (i + 1))), (4, .int (iI ((sm (takeR σ b co) (σ 4) r + cnt (fun z => decide (cellS σ z r = -1) && decide (desS σ (if b then turnS σ z else z) r = co)) 0 i) + 1))), (5, .int (iI r)), (0, .ref mo), (1, .int (iI co)), (2, .int (iI rows)), (3, .int (iI (bz b)))]) F dX9_takes_73 hl rfl (by decide) rfl (fun ls hl => ?_)
                  refine h_goto (tgt := 27) F dX9_takes_76 (by decide) ?_
                  have eq13 : (sm (takeR σ b co) (σ 4) r + cnt (fun z => decide (cellS σ z r = -1) && decide (desS σ (if b then turnS σ z else z) r = co)) 0 (i + 1) : Int) = (sm (takeR σ b co) (σ 4) r + cnt (fun z => decide (cellS σ z r = -1) && decide (desS σ (if b then turnS σ z else z) r = co)) 0 i) + 1 := by first | (rw [cnt_t (by omega) (by rw [decide_eq_true (by assumption), decide_eq_true (by assumption)]; rfl)]; omega) | (rw [cnt_f (by omega) (by rw [decide_eq_false (p := cellS σ i r = -1) (by assumption)]; rfl)]; omega) | (rw [cnt_f (by omega) (by rw [decide_eq_false (p := _ = co) (by assumption)]; simp)]; omega)
                  have eq14 : ((i + 1) : Int) = i + 1 := by first | rfl | omega | simp
                  exact ih27 (i + 1)  (by omega) (by omega)   _ _ ls hW hS (by rw [eq13, eq14]; exact lv_sub hl [1, 0, 2, 3, 4, 5, 6] rfl)
        have eq15 : (sm (takeR σ b co) (σ 4) r + cnt (fun z => decide (cellS σ z r = -1) && decide (desS σ (if b then turnS σ z else z) r = co)) 0 0 : Int) = sm (takeR σ b co) (σ 4) r := by rw [cnt_0]; omega
        exact loop27 ((σ 0 - 0) + 1 : Int).toNat 0  (by omega) (by omega)   _ _ ls hW hS (by rw [eq15]; exact lv_sub hl [1, 0, 2, 3, 4, 5, 6] rfl)
  have eq16 : (sm (takeR σ b co) (σ 4) (σ 4) : Int) = 0 := sm_0 _ _
  have eq17 : ((σ 4) : Int) = σ 4 := by first | rfl | omega | simp
  exact loop11 ((σ 4 + rows - (σ 4)) + 1 : Int).toNat (σ 4)  (by omega) (by omega)   _ _ ls hW hS (by rw [eq16, eq17]; exact lv_sub hl [1, 0, 2, 3, 4, 5] rfl)
set_option maxHeartbeats 4000000 in
set_option maxRecDepth 100000 in
theorem c_X9_isEnough (l : Launch) (X : Cx) (w : Wo) (mo : Nat) (v σ : Int → Int) (rows : Int) (b : Bool) (hM : w mo = some (.inr (9, mL mo v))) (hs : w (mo + 1) = some (aZ X 1317 σ)) (hwf : WF σ) (hro : 0 ≤ rows ∧ σ 4 + rows ≤ σ 1) : CM l X yX9_isEnough cX9_isEnough 5 (some (.boolean)) (rmk 5 120) [.ref mo, .int (iI rows), .int (iI (bz b))] w (some (.int (iI (bz (enoS σ b rows))))) (fun w' => w' = w) := by
  refine CM.of (lv := [(0, .ref mo), (1, .int (iI rows)), (2, .int (iI (bz b)))]) (by decide) (Nat.le_of_ble_eq_true rfl) rfl (fun p e s m below meth c ls F hr hlk hin hW hS hl => ?_)
  have hZ0 := hW.2.2
  have hB9 := hW.1.2
  clear hin
  have hF := hwf.1
  unfold WF0 at hF
  refine h_iconst F dX9_isEnough_0 ?_
  refine lv_istore_n (lv' := [(3, .int (iI 1)), (0, .ref mo), (1, .int (iI rows)), (2, .int (iI (bz b)))]) F.1 F.2.1 dX9_isEnough_1 rfl hl (by decide) rfl (fun ls hl => ?_)
  refine h_iconst F dX9_isEnough_2 ?_
  refine lv_istore (lv' := [(4, .int (iI 0)), (3, .int (iI 1)), (0, .ref mo), (1, .int (iI rows)), (2, .int (iI (bz b)))]) F.1 F.2.1 dX9_isEnough_3 hl (by decide) rfl (fun ls hl => ?_)
  have loop5 : ∀ (n9 : Nat) (i : Int), (hrg : 0 ≤ i ∧ i ≤ 7) → (hms : 7 - i < (n9 : Int)) → (H : Heap) → (locs : List Loc) → (ls : Array Slot) → Wd X w s H → va_S (cxA X) s.heap H locs → lv_has ls 5 [(3, .int (iI (bz (al (fun z => decide (takeS σ b z rows ≤ σ (6 + z))) 0 i)))), (4, .int (iI i)), (0, .ref mo), (1, .int (iI rows)), (2, .int (iI (bz b)))] → W p l e (rmk 5 120) s m (List.toArray [.ref mo, .int (iI rows), .int (iI (bz b))]) below meth c H locs 0 0 (MX X below (List.toArray [.ref mo, .int (iI rows), .int (iI (bz b))]) s 0 0 (some (.int (iI (bz (enoS σ b rows))))) (fun w' => w' = w)) (F0 m 5 ls []) := by
    intro n9
    induction n9 with
    | zero => intro i  hrg hms; exfalso; omega
    | succ n9 ih5 =>
      intro i  hrg hms   H locs ls hW hS hl
      refine lv_iload F.1 F.2.1 dX9_isEnough_5 (lv_at hl 1 rfl) ?_
      refine h_bipush F dX9_isEnough_7 rfl ?_
      refine h_icge (tgt := 49) F dX9_isEnough_9 (by decide) (by omega) (fun c1 => ?_) (fun c1 => ?_)
      · refine lv_iload_n F.1 F.2.1 dX9_isEnough_49 rfl (lv_at hl 0 rfl) ?_
        refine h_top (show (bz (al (fun z => decide (takeS σ b z rows ≤ σ (6 + z))) 0 i) : Int) = bz (enoS σ b rows) from by rw [show i = 7 by omega]; rfl) ?_
        exact h_iretz F hr hlk hW hS rfl dX9_isEnough_50
      · refine lv_iload_n F.1 F.2.1 dX9_isEnough_12 rfl (lv_at hl 0 rfl) ?_
        refine h_ifeqb (tgt := 41) F dX9_isEnough_13 (by decide) (fun c2 => ?_) (fun c2 => ?_)
        · refine h_iconst F dX9_isEnough_41 ?_
          refine lv_istore_n (lv' := [(3, .int (iI 0)), (4, .int (iI i)), (0, .ref mo), (1, .int (iI rows)), (2, .int (iI (bz b)))]) F.1 F.2.1 dX9_isEnough_42 rfl hl (by decide) rfl (fun ls hl => ?_)
          refine h_iinc (k := 1) (a := i) (lv' := [(4, .int (iI (i + 1))), (3, .int (iI 0)), (0, .ref mo), (1, .int (iI rows)), (2, .int (iI (bz b)))]) F dX9_isEnough_43 hl rfl (by decide) rfl (fun ls hl => ?_)
          refine h_goto (tgt := 5) F dX9_isEnough_46 (by decide) ?_
          have eq3 : (bz (al (fun z => decide (takeS σ b z rows ≤ σ (6 + z))) 0 (i + 1)) : Int) = 0 := by rw [al_s _ (by omega)]; first | exact (bzt (by rw [‹al (fun z => decide (takeS σ b z rows ≤ σ (6 + z))) 0 i = true›, decide_eq_true (by assumption)]; rfl)).symm | exact (bzf (by rw [‹al (fun z => decide (takeS σ b z rows ≤ σ (6 + z))) 0 i = false›]; rfl)).symm | exact (bzf (by rw [decide_eq_false (by omega)]; simp)).symm
          have eq4 : ((i + 1) : Int) = i + 1 := by first | rfl | omega | simp
          exact ih5 (i + 1)  (by omega) (by omega)   _ _ ls hW hS (by rw [eq3, eq4]; exact lv_sub hl [1, 0, 2, 3, 4] rfl)
        · refine lv_aload_n F.1 F.2.1 dX9_isEnough_16 rfl (lv_at hl 2 rfl) ?_
          refine lv_iload F.1 F.2.1 dX9_isEnough_17 (lv_at hl 1 rfl) ?_
          refine lv_iload_n F.1 F.2.1 dX9_isEnough_19 rfl (lv_at hl 3 rfl) ?_
          refine lv_iload_n F.1 F.2.1 dX9_isEnough_20 rfl (lv_at hl 4 rfl) ?_
          refine cl_RX9_222 (As := [.int (iI i), .int (iI rows), .int (iI (bz b))]) (rest := []) F hl (c_X9_takes l X w mo v σ i rows b hM hs hwf (by omega) (by omega)) hW hS hM rfl rfl ⟨Nat.le_of_ble_eq_true rfl, Nat.le_of_ble_eq_true rfl⟩ (Nat.le_of_ble_eq_true rfl) ⟨Nat.zero_le _, Nat.zero_le _⟩ dX9_isEnough_21 (fun w1 H locs hp5 hW hS => ?_)
          rw [hp5] at hW; clear hp5; clear w1
          have hts := takeS_r hwf b i rows (by omega)
          have hst := hwf.2.1 i (by omega) (by omega)
          refine lv_aload_n F.1 F.2.1 dX9_isEnough_24 rfl (lv_at hl 2 rfl) ?_
          refine gf_RX9_7 F hW hM rfl dX9_isEnough_25 ?_
          refine h_bipush F dX9_isEnough_28 rfl ?_
          refine lv_iload F.1 F.2.1 dX9_isEnough_30 (lv_at hl 1 rfl) ?_
          refine h_iadd (a := 6) (b := i) F dX9_isEnough_32 ?_
          refine h_iald F hW hs (by omega) (by omega) dX9_isEnough_33 ?_
          refine h_icgt (tgt := 41) F dX9_isEnough_34 (by decide) (by omega) (fun c6 => ?_) (fun c6 => ?_)
          · refine h_iconst F dX9_isEnough_41 ?_
            refine lv_istore_n (lv' := [(3, .int (iI 0)), (4, .int (iI i)), (0, .ref mo), (1, .int (iI rows)), (2, .int (iI (bz b)))]) F.1 F.2.1 dX9_isEnough_42 rfl hl (by decide) rfl (fun ls hl => ?_)
            refine h_iinc (k := 1) (a := i) (lv' := [(4, .int (iI (i + 1))), (3, .int (iI 0)), (0, .ref mo), (1, .int (iI rows)), (2, .int (iI (bz b)))]) F dX9_isEnough_43 hl rfl (by decide) rfl (fun ls hl => ?_)
            refine h_goto (tgt := 5) F dX9_isEnough_46 (by decide) ?_
            have eq7 : (bz (al (fun z => decide (takeS σ b z rows ≤ σ (6 + z))) 0 (i + 1)) : Int) = 0 := by rw [al_s _ (by omega)]; first | exact (bzt (by rw [‹al (fun z => decide (takeS σ b z rows ≤ σ (6 + z))) 0 i = true›, decide_eq_true (by assumption)]; rfl)).symm | exact (bzf (by rw [‹al (fun z => decide (takeS σ b z rows ≤ σ (6 + z))) 0 i = false›]; rfl)).symm | exact (bzf (by rw [decide_eq_false (by omega)]; simp)).symm
            have eq8 : ((i + 1) : Int) = i + 1 := by first | rfl | omega | simp
            exact ih5 (i + 1)  (by omega) (by omega)   _ _ ls hW hS (by rw [eq7, eq8]; exact lv_sub hl [1, 0, 2, 3, 4] rfl)
          · refine h_iconst F dX9_isEnough_37 ?_
            refine h_goto (tgt := 42) F dX9_isEnough_38 (by decide) ?_
            refine lv_istore_n (lv' := [(3, .int (iI 1)), (4, .int (iI i)), (0, .ref mo), (1, .int (iI rows)), (2, .int (iI (bz b)))]) F.1 F.2.1 dX9_isEnough_42 rfl hl (by decide) rfl (fun ls hl => ?_)
            refine h_iinc (k := 1) (a := i) (lv' := [(4, .int (iI (i + 1))), (3, .int (iI 1)), (0, .ref mo), (1, .int (iI rows)), (2, .int (iI (bz b)))]) F dX9_isEnough_43 hl rfl (by decide) rfl (fun ls hl => ?_)
            refine h_goto (tgt := 5) F dX9_isEnough_46 (by decide) ?_
            have eq9 : (bz (al (fun z => decide (takeS σ b z rows ≤ σ (6 + z))) 0 (i + 1)) : Int) = 1 := by rw [al_s _ (by omega)]; first | exact (bzt (by rw [‹al (fun z => decide (takeS σ b z rows ≤ σ (6 + z))) 0 i = true›, decide_eq_true (by assumption)]; rfl)).symm | exact (bzf (by rw [‹al (fun z => decide (takeS σ b z rows ≤ σ (6 + z))) 0 i = false›]; rfl)).symm | exact (bzf (by rw [decide_eq_false (by omega)]; simp)).symm
            have eq10 : ((i + 1) : Int) = i + 1 := by first | rfl | omega | simp
            exact ih5 (i + 1)  (by omega) (by omega)   _ _ ls hW hS (by rw [eq9, eq10]; exact lv_sub hl [1, 0, 2, 3, 4] rfl)
  have eq11 : (bz (al (fun z => decide (takeS σ b z rows ≤ σ (6 + z))) 0 0) : Int) = 1 := by rw [al_0]; rfl
  exact loop5 ((7 - 0) + 1 : Int).toNat 0  (by omega) (by omega)   _ _ ls hW hS (by rw [eq11]; exact lv_sub hl [1, 0, 2, 3, 4] rfl)
set_option maxHeartbeats 4000000 in
set_option maxRecDepth 100000 in
theorem c_X9_whyNot (l : Launch) (X : Cx) (w : Wo) (mo : Nat) (v σ : Int → Int) (n sd x y bu : Int) (hM : w mo = some (.inr (9, mL mo v))) (hs : w (mo + 1) = some (aZ X 1317 σ)) (hwf : WF σ) (hn : 1 ≤ n ∧ n ≤ 8) (hsd : sd = 0 ∨ sd = 1) (hx : -2147483648 ≤ x ∧ x < 2147483648) (hy : -2147483648 ≤ y ∧ y < 2147483648) (hb : -1 ≤ bu ∧ bu ≤ 8) : CM l X yX9_whyNot cX9_whyNot 6 (some (.int)) (rmk 1 32) [.ref mo, .int (iI n), .int (iI sd), .int (iI x), .int (iI y), .int (iI bu)] w (some (.int (iI (whyS σ n sd x y bu)))) (fun w' => w' = w) := by
  refine CM.of (lv := [(0, .ref mo), (1, .int (iI n)), (2, .int (iI sd)), (3, .int (iI x)), (4, .int (iI y)), (5, .int (iI bu))]) (by decide) (Nat.le_of_ble_eq_true rfl) rfl (fun p e s m below meth c ls F hr hlk hin hW hS hl => ?_)
  have hZ0 := hW.2.2
  have hB9 := hW.1.2
  clear hin
  have hF := hwf.1
  unfold WF0 at hF
  refine lv_aload_n F.1 F.2.1 dX9_whyNot_0 rfl (lv_at hl 0 rfl) ?_
  refine gf_RX9_7 F hW hM rfl dX9_whyNot_1 ?_
  refine lv_iload_n F.1 F.2.1 dX9_whyNot_4 rfl (lv_at hl 1 rfl) ?_
  refine lv_iload_n F.1 F.2.1 dX9_whyNot_5 rfl (lv_at hl 3 rfl) ?_
  refine h_i2l F dX9_whyNot_6 (by omega) ?_
  refine lv_iload F.1 F.2.1 dX9_whyNot_7 (lv_at hl 4 rfl) ?_
  refine h_i2l F dX9_whyNot_9 (by omega) ?_
  refine cl_RX9_235 (As := [.ref (mo + 1), .int (iI n), .long (lI x), .long (lI y)]) (rest := []) F hl (c_X9_lies l X w (mo + 1) σ n x y hs hwf (by omega) (by omega) (by omega)) hW hS rfl rfl ⟨Nat.le_of_ble_eq_true rfl, Nat.le_of_ble_eq_true rfl⟩ (Nat.le_of_ble_eq_true rfl) ⟨Nat.zero_le _, Nat.zero_le _⟩ dX9_whyNot_10 (fun w1 H locs hp1 hW hS => ?_)
  rw [hp1] at hW; clear hp1; clear w1
  refine h_ifneb (tgt := 18) F dX9_whyNot_13 (by decide) (fun c2 => ?_) (fun c2 => ?_)
  · have hl9 : 0 ≤ x ∧ 0 ≤ y ∧ x + 4 * n - 2 < σ 0 ∧ y + 4 < σ 1 := of_decide_eq_true c2
    refine lv_aload_n F.1 F.2.1 dX9_whyNot_18 rfl (lv_at hl 0 rfl) ?_
    refine gf_RX9_7 F hW hM rfl dX9_whyNot_19 ?_
    refine lv_iload_n F.1 F.2.1 dX9_whyNot_22 rfl (lv_at hl 1 rfl) ?_
    refine lv_iload_n F.1 F.2.1 dX9_whyNot_23 rfl (lv_at hl 2 rfl) ?_
    refine lv_iload_n F.1 F.2.1 dX9_whyNot_24 rfl (lv_at hl 3 rfl) ?_
    refine lv_iload F.1 F.2.1 dX9_whyNot_25 (lv_at hl 4 rfl) ?_
    refine lv_iload F.1 F.2.1 dX9_whyNot_27 (lv_at hl 5 rfl) ?_
    refine cl_RX9_239 (As := [.ref (mo + 1), .int (iI n), .int (iI sd), .int (iI x), .int (iI y), .int (iI bu)]) (rest := []) F hl (c_X9_meets l X w (mo + 1) σ n sd x y bu hs hwf (by omega) (by omega) (by omega) (by omega) (by omega)) hW hS rfl rfl ⟨Nat.le_of_ble_eq_true rfl, Nat.le_of_ble_eq_true rfl⟩ (Nat.le_of_ble_eq_true rfl) ⟨Nat.zero_le _, Nat.zero_le _⟩ dX9_whyNot_29 (fun w1 H locs hp3 hW hS => ?_)
    rw [hp3] at hW; clear hp3; clear w1
    refine h_ifeqb (tgt := 40) F dX9_whyNot_32 (by decide) (fun c4 => ?_) (fun c4 => ?_)
    · refine h_iconst F dX9_whyNot_40 ?_
      refine h_top (show (0 : Int) = whyS σ n sd x y bu from by unfold whyS; first | (rw [‹liesS σ n x y = false›]; rfl) | (rw [‹liesS σ n x y = true›, ‹meetS σ n sd x y bu = true›]; rfl) | (rw [‹liesS σ n x y = true›, ‹meetS σ n sd x y bu = false›]; rfl)) ?_
      exact h_ireti F hr hlk hW hS rfl dX9_whyNot_41
    · refine h_bipush F dX9_whyNot_35 rfl ?_
      refine h_goto (tgt := 41) F dX9_whyNot_37 (by decide) ?_
      refine h_top (show (6 : Int) = whyS σ n sd x y bu from by unfold whyS; first | (rw [‹liesS σ n x y = false›]; rfl) | (rw [‹liesS σ n x y = true›, ‹meetS σ n sd x y bu = true›]; rfl) | (rw [‹liesS σ n x y = true›, ‹meetS σ n sd x y bu = false›]; rfl)) ?_
      exact h_ireti F hr hlk hW hS rfl dX9_whyNot_41
  · refine h_iconst F dX9_whyNot_16 ?_
    refine h_top (show (5 : Int) = whyS σ n sd x y bu from by unfold whyS; first | (rw [‹liesS σ n x y = false›]; rfl) | (rw [‹liesS σ n x y = true›, ‹meetS σ n sd x y bu = true›]; rfl) | (rw [‹liesS σ n x y = true›, ‹meetS σ n sd x y bu = false›]; rfl)) ?_
    exact h_ireti F hr hlk hW hS rfl dX9_whyNot_17
