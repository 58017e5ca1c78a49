theorem gcode_ne {v : Int} (h : v ≠ -1) : gcode v = v := if_neg h
theorem gcode_7 {v : Int} (h : gcode v = 7) (h2 : -1 ≤ v ∧ v ≤ 6) : v = -1 := by
  unfold gcode at h
  split at h
  · assumption
  · omega
theorem lI_to {a : Int} (h : 0 ≤ a ∧ a < 2147483648) : (lI a).toInt32 = iI a := by
  rw [← lI_i (a := a) (by omega)]
  exact Int32.toInt32_toInt64 _
theorem gl_r : ∀ i : Int, 0 ≤ gl i ∧ gl i < 32768 := by
  intro i
  unfold gl
  have h : ∀ n : Nat, n < 26 → 0 ≤ glL.getD n 0 ∧ glL.getD n 0 < 32768 := by decide +kernel
  by_cases hn : i.toNat < 26
  · exact h _ hn
  · rw [List.getD_eq_getElem?_getD, List.getElem?_eq_none (by show 26 ≤ i.toNat; omega)]
    decide
set_option maxHeartbeats 4000000 in
set_option maxRecDepth 100000 in
theorem c_X3_get (l : Launch) (X : Cx) (w : Wo) (a : Nat) (gr : Int → Int → Int) (cn rn : Int) (hg : gridAt X w a gr) (hc : 0 ≤ cn ∧ cn < 40 ∧ 0 ≤ rn ∧ rn < 30) : CM l X yX3_get cX3_get 6 (some (.int)) (rmk 1 21) [.ref a, .int (iI cn), .int (iI rn)] w (some (.int (iI (gr cn rn)))) (fun w' => w' = w) := by
  refine CM.of (lv := [(0, .ref a), (1, .int (iI cn)), (2, .int (iI rn))]) (by decide) (Nat.le_of_ble_eq_true rfl) rfl (fun p e s m below meth c ls F hr hlk hin hW hS hl => ?_)
  have hZ0 := hW.2.2
  have hB9 := hW.1.2
  clear hin
  obtain ⟨hg0, g, hg1, hgo⟩ := hg
  obtain ⟨hd1, hd2⟩ := hgo cn rn (by omega) (by omega) (by omega) (by omega)
  have hgr : ((g (2 * rn + cn / 20).toNat).toUInt64 >>> ((iI (3 * (cn % 20))).toInt64.toUInt64 &&& Int64.toUInt64 63)).toInt64 &&& lI 7 = lI (gcode (gr cn rn)) := by rw [← hd1]; have e9 := gd_get (g (2 * rn + cn / 20).toNat) (k := (cn % 20).toNat) (by omega); rw [show (((cn % 20).toNat : Nat) : Int) = cn % 20 by omega] at e9; exact e9
  have hgc : 0 ≤ gcode (gr cn rn) ∧ gcode (gr cn rn) ≤ 7 := by unfold gcode; split <;> omega
  refine h_iconst F dX3_get_0 ?_
  refine lv_iload_n F.1 F.2.1 dX3_get_1 rfl (lv_at hl 2 rfl) ?_
  refine h_imul (a := 2) (b := rn) F dX3_get_2 ?_
  refine lv_iload_n F.1 F.2.1 dX3_get_3 rfl (lv_at hl 1 rfl) ?_
  refine h_bipush F dX3_get_4 rfl ?_
  refine h_idiv F dX3_get_6 (by omega) ?_
  refine h_iadd (a := 2 * rn) (b := cn / 20) F dX3_get_7 ?_
  refine lv_istore_n (lv' := [(3, .int (iI ((2 * rn) + (cn / 20)))), (0, .ref a), (1, .int (iI cn)), (2, .int (iI rn))]) F.1 F.2.1 dX3_get_8 rfl hl (by decide) rfl (fun ls hl => ?_)
  refine lv_iload_n F.1 F.2.1 dX3_get_9 rfl (lv_at hl 2 rfl) ?_
  refine lv_iload_n F.1 F.2.1 dX3_get_10 rfl (lv_at hl 3 rfl) ?_
  refine cl_RX3_21 (As := [.int (iI cn), .int (iI rn)]) (rest := []) F hl (c_X3_isCell l X w cn rn (by omega) (by omega)) hW hS rfl rfl ⟨Nat.le_of_ble_eq_true rfl, Nat.le_of_ble_eq_true rfl⟩ (Nat.le_of_ble_eq_true rfl) ⟨Nat.zero_le _, Nat.zero_le _⟩ dX3_get_11 (fun w1 H locs hp1 hW hS => ?_)
  rw [hp1] at hW; clear hp1; clear w1
  refine h_ifeqb (tgt := 30) F dX3_get_14 (by decide) (fun c2 => ?_) (fun c2 => ?_)
  · have c2d := of_decide_eq_false c2
    exfalso; have := of_decide_eq_false c2; omega
  · have c2d := of_decide_eq_true c2
    refine lv_iload_n F.1 F.2.1 dX3_get_17 rfl (lv_at hl 0 rfl) ?_
    refine h_iflt (tgt := 30) F dX3_get_18 (by decide) (by omega) (fun c3 => ?_) (fun c3 => ?_)
    · exfalso; omega
    · refine lv_iload_n F.1 F.2.1 dX3_get_21 rfl (lv_at hl 0 rfl) ?_
      refine lv_aload_n F.1 F.2.1 dX3_get_22 rfl (lv_at hl 1 rfl) ?_
      refine gf_RX3_11 F hW hg0 rfl dX3_get_23 ?_
      refine h_alen (k := 1) (n := 60) F hW rfl hg1 dX3_get_26 ?_
      refine h_iclt (tgt := 32) F dX3_get_27 (by decide) (by omega) (fun c4 => ?_) (fun c4 => ?_)
      · refine lv_aload_n F.1 F.2.1 dX3_get_32 rfl (lv_at hl 1 rfl) ?_
        refine gf_RX3_11 F hW hg0 rfl dX3_get_33 ?_
        refine lv_iload_n F.1 F.2.1 dX3_get_36 rfl (lv_at hl 0 rfl) ?_
        refine h_lald F hW hg1 (by omega) (by omega) dX3_get_37 ?_
        refine lv_iload_n F.1 F.2.1 dX3_get_38 rfl (lv_at hl 2 rfl) ?_
        refine cl_RX3_25 (As := [.int (iI cn)]) (rest := [.long (g ((2 * rn) + (cn / 20)).toNat)]) F hl (c_X3_shiftOf l X w cn (by omega)) hW hS rfl rfl ⟨Nat.le_of_ble_eq_true rfl, Nat.le_of_ble_eq_true rfl⟩ (Nat.le_of_ble_eq_true rfl) ⟨Nat.zero_le _, Nat.zero_le _⟩ dX3_get_39 (fun w1 H locs hp5 hW hS => ?_)
        rw [hp5] at hW; clear hp5; clear w1
        refine lv_lushr F.1 F.2.1 dX3_get_42 (v := ((g ((2 * rn) + (cn / 20)).toNat).toUInt64 >>> ((iI (3 * (cn % 20))).toInt64.toUInt64 &&& Int64.toUInt64 63)).toInt64) rfl ?_
        refine h_ldc2 (n := 7) F kk_RX3_29 dX3_get_43 ?_
        refine lv_land F.1 F.2.1 dX3_get_46 ?_
        refine h_topv (show (.long (((g ((2 * rn) + (cn / 20)).toNat).toUInt64 >>> ((iI (3 * (cn % 20))).toInt64.toUInt64 &&& Int64.toUInt64 63)).toInt64 &&& lI 7) : Value) = .long (lI (gcode (gr cn rn))) from by rw [hgr]) ?_
        refine lv_lstore (lv' := [(4, .long (lI (gcode (gr cn rn)))), (3, .int (iI ((2 * rn) + (cn / 20)))), (0, .ref a), (1, .int (iI cn)), (2, .int (iI rn))]) F.1 F.2.1 dX3_get_47 hl (by decide) rfl (fun ls hl => ?_)
        refine lv_lload F.1 F.2.1 dX3_get_49 (lv_at hl 0 rfl) ?_
        refine h_ldc2 (n := 7) F kk_RX3_29 dX3_get_51 ?_
        refine h_lcne (tgt := 62) F dX3_get_54 rfl dX3_get_55 (by omega) (by decide) (fun c6 => ?_) (fun c6 => ?_)
        · have hne : gr cn rn ≠ -1 := fun z => by rw [z] at c6; exact c6 rfl
          refine lv_lload F.1 F.2.1 dX3_get_62 (lv_at hl 0 rfl) ?_
          refine lv_l2i F.1 F.2.1 dX3_get_64 (v := iI (gr cn rn)) (by rw [gcode_ne hne]; exact lI_to (by omega)) ?_
          exact h_ireti F hr hlk hW hS rfl dX3_get_65
        · have hne : gr cn rn = -1 := gcode_7 c6 hd2
          refine h_iconst F dX3_get_58 ?_
          refine h_goto (tgt := 65) F dX3_get_59 (by decide) ?_
          refine h_top (show ((-1) : Int) = gr cn rn from hne.symm) ?_
          exact h_ireti F hr hlk hW hS rfl dX3_get_65
      · exfalso; omega
set_option maxHeartbeats 4000000 in
set_option maxRecDepth 100000 in
theorem c_X1_boxWidth (l : Launch) (X : Cx) (w : Wo) (q : Nat) (n sd x y co : Int) (f : Int → Int) (hv : capV X w q n sd x y co f) : CM l X yX1_boxWidth cX1_boxWidth 1 (some (.int)) (rmk 0 0) [.ref q] w (some (.int (iI (4 * n - 1)))) (fun w' => w' = w) := by
  refine CM.of (lv := [(0, .ref q)]) (by decide) (Nat.le_of_ble_eq_true rfl) rfl (fun p e s m below meth c ls F hr hlk hin hW hS hl => ?_)
  have hZ0 := hW.2.2
  have hB9 := hW.1.2
  clear hin
  refine h_iconst F dX1_boxWidth_0 ?_
  refine lv_aload_n F.1 F.2.1 dX1_boxWidth_1 rfl (lv_at hl 0 rfl) ?_
  refine gf_RX1_21 F hW hv.1 rfl dX1_boxWidth_2 ?_
  refine h_imul (a := 4) (b := n) F dX1_boxWidth_5 ?_
  refine h_iconst F dX1_boxWidth_6 ?_
  refine h_isub (a := 4 * n) (b := 1) F dX1_boxWidth_7 ?_
  refine h_top (show ((4 * n) - 1 : Int) = 4 * n - 1 from by first | rfl | omega | (simp_all; done)) ?_
  exact h_ireti F hr hlk hW hS rfl dX1_boxWidth_8
set_option maxHeartbeats 4000000 in
set_option maxRecDepth 100000 in
theorem c_X1_leftColumn (l : Launch) (X : Cx) (w : Wo) (q : Nat) (σ : Int → Int) (k : Int) (W9 : Int) (hq : capAt X w q σ k) (hok : capOK σ k) (hwf : WF0 σ) (hw9 : W9 = σ 0) : CM l X yX1_leftColumn cX1_leftColumn 2 (some (.int)) (rmk 1 20) [.ref q, .int (iI W9)] w (some (.int (iI (if cp σ k 1 = 0 then cp σ k 2 else W9 - cp σ k 2 - (4 * cp σ k 0 - 1))))) (fun w' => w' = w) := by
  refine CM.of (lv := [(0, .ref q), (1, .int (iI W9))]) (by decide) (Nat.le_of_ble_eq_true rfl) rfl (fun p e s m below meth c ls F hr hlk hin hW hS hl => ?_)
  have hZ0 := hW.2.2
  have hB9 := hW.1.2
  clear hin
  have hqo := hq.o
  obtain ⟨f, hqv, hqf⟩ := hq
  obtain ⟨k1, k2, k3, k4, k5, k6⟩ := hok
  have hF := hwf
  unfold WF0 at hF
  refine lv_aload_n F.1 F.2.1 dX1_leftColumn_0 rfl (lv_at hl 0 rfl) ?_
  refine gf_RX1_25 F hW hqo rfl dX1_leftColumn_1 ?_
  refine h_ifne (tgt := 14) F dX1_leftColumn_4 (by decide) (by omega) (fun c1 => ?_) (fun c1 => ?_)
  · refine lv_iload_n F.1 F.2.1 dX1_leftColumn_14 rfl (lv_at hl 1 rfl) ?_
    refine lv_aload_n F.1 F.2.1 dX1_leftColumn_15 rfl (lv_at hl 0 rfl) ?_
    refine gf_RX1_28 F hW hqo rfl dX1_leftColumn_16 ?_
    refine h_isub (a := W9) (b := cp σ k 2) F dX1_leftColumn_19 ?_
    refine lv_aload_n F.1 F.2.1 dX1_leftColumn_20 rfl (lv_at hl 0 rfl) ?_
    refine cl_RX1_63 (As := []) (rest := [.int (iI (W9 - (cp σ k 2)))]) F hl (c_X1_boxWidth l X w q (cp σ k 0) (cp σ k 1) (cp σ k 2) (cp σ k 3) (cp σ k 4) f hqv) hW hS hqo rfl rfl ⟨Nat.le_of_ble_eq_true rfl, Nat.le_of_ble_eq_true rfl⟩ (Nat.le_of_ble_eq_true rfl) ⟨Nat.zero_le _, Nat.zero_le _⟩ dX1_leftColumn_21 (fun w1 H locs hp2 hW hS => ?_)
    rw [hp2] at hW; clear hp2; clear w1
    refine h_isub (a := W9 - (cp σ k 2)) (b := 4 * (cp σ k 0) - 1) F dX1_leftColumn_24 ?_
    refine h_top (show ((W9 - (cp σ k 2)) - (4 * (cp σ k 0) - 1) : Int) = (if cp σ k 1 = 0 then cp σ k 2 else W9 - cp σ k 2 - (4 * cp σ k 0 - 1)) from by split <;> first | rfl | omega) ?_
    exact h_ireti F hr hlk hW hS rfl dX1_leftColumn_25
  · refine lv_aload_n F.1 F.2.1 dX1_leftColumn_7 rfl (lv_at hl 0 rfl) ?_
    refine gf_RX1_28 F hW hqo rfl dX1_leftColumn_8 ?_
    refine h_goto (tgt := 25) F dX1_leftColumn_11 (by decide) ?_
    refine h_top (show (cp σ k 2 : Int) = (if cp σ k 1 = 0 then cp σ k 2 else W9 - cp σ k 2 - (4 * cp σ k 0 - 1)) from by split <;> first | rfl | omega) ?_
    exact h_ireti F hr hlk hW hS rfl dX1_leftColumn_25
set_option maxHeartbeats 4000000 in
set_option maxRecDepth 100000 in
theorem c_X1_meets (l : Launch) (X : Cx) (w : Wo) (q z : Nat) (n sd x y co : Int) (f : Int → Int) (n2 sd2 x2 y2 co2 : Int) (f2 : Int → Int) (W9 : Int) (hv : capV X w q n sd x y co f) (hv2 : capV X w z n2 sd2 x2 y2 co2 f2) (hr : (1 ≤ n ∧ n ≤ 8) ∧ (-2000 ≤ x ∧ x ≤ 2000) ∧ (-2000 ≤ y ∧ y ≤ 2000) ∧ (1 ≤ n2 ∧ n2 ≤ 8) ∧ (-2000 ≤ x2 ∧ x2 ≤ 2000) ∧ (-2000 ≤ y2 ∧ y2 ≤ 2000) ∧ (8 ≤ W9 ∧ W9 ≤ 40) ∧ (0 ≤ sd ∧ sd ≤ 1) ∧ (0 ≤ sd2 ∧ sd2 ≤ 1)) : CM l X yX1_meets cX1_meets 4 (some (.boolean)) (rmk 1 20) [.ref q, .ref z, .int (iI W9)] w (some (.int (iI (bz (decide (x < (if sd = sd2 then x2 else W9 - x2 - (4 * n2 - 1)) + (4 * n2 - 1) ∧ (if sd = sd2 then x2 else W9 - x2 - (4 * n2 - 1)) < x + (4 * n - 1) ∧ y < y2 + 5 ∧ y2 < y + 5)))))) (fun w' => w' = w) := by
  refine CM.of (lv := [(0, .ref q), (1, .ref z), (2, .int (iI W9))]) (by decide) (Nat.le_of_ble_eq_true rfl) rfl (fun p e s m below meth c ls F hr hlk hin hW hS hl => ?_)
  have hZ0 := hW.2.2
  have hB9 := hW.1.2
  clear hin
  refine lv_aload_n F.1 F.2.1 dX1_meets_0 rfl (lv_at hl 0 rfl) ?_
  refine gf_RX1_25 F hW hv.1 rfl dX1_meets_1 ?_
  refine lv_aload_n F.1 F.2.1 dX1_meets_4 rfl (lv_at hl 1 rfl) ?_
  refine gf_RX1_25 F hW hv2.1 rfl dX1_meets_5 ?_
  refine h_icne (tgt := 18) F dX1_meets_8 (by decide) (by omega) (fun c1 => ?_) (fun c1 => ?_)
  · refine lv_iload_n F.1 F.2.1 dX1_meets_18 rfl (lv_at hl 2 rfl) ?_
    refine lv_aload_n F.1 F.2.1 dX1_meets_19 rfl (lv_at hl 1 rfl) ?_
    refine gf_RX1_28 F hW hv2.1 rfl dX1_meets_20 ?_
    refine h_isub (a := W9) (b := x2) F dX1_meets_23 ?_
    refine lv_aload_n F.1 F.2.1 dX1_meets_24 rfl (lv_at hl 1 rfl) ?_
    refine cl_RX1_63 (As := []) (rest := [.int (iI (W9 - x2))]) F hl (c_X1_boxWidth l X w z n2 sd2 x2 y2 co2 f2 hv2) hW hS hv2.1 rfl rfl ⟨Nat.le_of_ble_eq_true rfl, Nat.le_of_ble_eq_true rfl⟩ (Nat.le_of_ble_eq_true rfl) ⟨Nat.zero_le _, Nat.zero_le _⟩ dX1_meets_25 (fun w1 H locs hp2 hW hS => ?_)
    rw [hp2] at hW; clear hp2; clear w1
    refine h_isub (a := W9 - x2) (b := 4 * n2 - 1) F dX1_meets_28 ?_
    refine lv_istore_n (lv' := [(3, .int (iI ((W9 - x2) - (4 * n2 - 1)))), (0, .ref q), (1, .ref z), (2, .int (iI W9))]) F.1 F.2.1 dX1_meets_29 rfl hl (by decide) rfl (fun ls hl => ?_)
    refine lv_aload_n F.1 F.2.1 dX1_meets_30 rfl (lv_at hl 1 rfl) ?_
    refine gf_RX1_28 F hW hv.1 rfl dX1_meets_31 ?_
    refine lv_iload_n F.1 F.2.1 dX1_meets_34 rfl (lv_at hl 0 rfl) ?_
    refine lv_aload_n F.1 F.2.1 dX1_meets_35 rfl (lv_at hl 2 rfl) ?_
    refine cl_RX1_63 (As := []) (rest := [.int (iI ((W9 - x2) - (4 * n2 - 1))), .int (iI x)]) F hl (c_X1_boxWidth l X w z n2 sd2 x2 y2 co2 f2 hv2) hW hS hv2.1 rfl rfl ⟨Nat.le_of_ble_eq_true rfl, Nat.le_of_ble_eq_true rfl⟩ (Nat.le_of_ble_eq_true rfl) ⟨Nat.zero_le _, Nat.zero_le _⟩ dX1_meets_36 (fun w1 H locs hp3 hW hS => ?_)
    rw [hp3] at hW; clear hp3; clear w1
    refine h_iadd (a := (W9 - x2) - (4 * n2 - 1)) (b := 4 * n2 - 1) F dX1_meets_39 ?_
    refine h_icge (tgt := 86) F dX1_meets_40 (by decide) (by omega) (fun c4 => ?_) (fun c4 => ?_)
    · refine h_iconst F dX1_meets_86 ?_
      refine h_top (show (0 : Int) = bz (decide (x < (if sd = sd2 then x2 else W9 - x2 - (4 * n2 - 1)) + (4 * n2 - 1) ∧ (if sd = sd2 then x2 else W9 - x2 - (4 * n2 - 1)) < x + (4 * n - 1) ∧ y < y2 + 5 ∧ y2 < y + 5)) from by first | exact bzt (decide_eq_true (by split <;> omega)) | exact bzf (decide_eq_false (by split <;> omega))) ?_
      exact h_iretz F hr hlk hW hS rfl dX1_meets_87
    · refine lv_iload_n F.1 F.2.1 dX1_meets_43 rfl (lv_at hl 0 rfl) ?_
      refine lv_aload_n F.1 F.2.1 dX1_meets_44 rfl (lv_at hl 1 rfl) ?_
      refine gf_RX1_28 F hW hv.1 rfl dX1_meets_45 ?_
      refine lv_aload_n F.1 F.2.1 dX1_meets_48 rfl (lv_at hl 1 rfl) ?_
      refine cl_RX1_63 (As := []) (rest := [.int (iI x), .int (iI ((W9 - x2) - (4 * n2 - 1)))]) F hl (c_X1_boxWidth l X w q n sd x y co f hv) hW hS hv.1 rfl rfl ⟨Nat.le_of_ble_eq_true rfl, Nat.le_of_ble_eq_true rfl⟩ (Nat.le_of_ble_eq_true rfl) ⟨Nat.zero_le _, Nat.zero_le _⟩ dX1_meets_49 (fun w1 H locs hp5 hW hS => ?_)
      rw [hp5] at hW; clear hp5; clear w1
      refine h_iadd (a := x) (b := 4 * n - 1) F dX1_meets_52 ?_
      refine h_icge (tgt := 86) F dX1_meets_53 (by decide) (by omega) (fun c6 => ?_) (fun c6 => ?_)
      · refine h_iconst F dX1_meets_86 ?_
        refine h_top (show (0 : Int) = bz (decide (x < (if sd = sd2 then x2 else W9 - x2 - (4 * n2 - 1)) + (4 * n2 - 1) ∧ (if sd = sd2 then x2 else W9 - x2 - (4 * n2 - 1)) < x + (4 * n - 1) ∧ y < y2 + 5 ∧ y2 < y + 5)) from by first | exact bzt (decide_eq_true (by split <;> omega)) | exact bzf (decide_eq_false (by split <;> omega))) ?_
        exact h_iretz F hr hlk hW hS rfl dX1_meets_87
      · refine lv_aload_n F.1 F.2.1 dX1_meets_56 rfl (lv_at hl 1 rfl) ?_
        refine gf_RX1_31 F hW hv.1 rfl dX1_meets_57 ?_
        refine lv_aload_n F.1 F.2.1 dX1_meets_60 rfl (lv_at hl 2 rfl) ?_
        refine gf_RX1_31 F hW hv2.1 rfl dX1_meets_61 ?_
        refine h_iconst F dX1_meets_64 ?_
        refine h_iadd (a := y2) (b := 5) F dX1_meets_65 ?_
        refine h_icge (tgt := 86) F dX1_meets_66 (by decide) (by omega) (fun c7 => ?_) (fun c7 => ?_)
        · refine h_iconst F dX1_meets_86 ?_
          refine h_top (show (0 : Int) = bz (decide (x < (if sd = sd2 then x2 else W9 - x2 - (4 * n2 - 1)) + (4 * n2 - 1) ∧ (if sd = sd2 then x2 else W9 - x2 - (4 * n2 - 1)) < x + (4 * n - 1) ∧ y < y2 + 5 ∧ y2 < y + 5)) from by first | exact bzt (decide_eq_true (by split <;> omega)) | exact bzf (decide_eq_false (by split <;> omega))) ?_
          exact h_iretz F hr hlk hW hS rfl dX1_meets_87
        · refine lv_aload_n F.1 F.2.1 dX1_meets_69 rfl (lv_at hl 2 rfl) ?_
          refine gf_RX1_31 F hW hv2.1 rfl dX1_meets_70 ?_
          refine lv_aload_n F.1 F.2.1 dX1_meets_73 rfl (lv_at hl 1 rfl) ?_
          refine gf_RX1_31 F hW hv.1 rfl dX1_meets_74 ?_
          refine h_iconst F dX1_meets_77 ?_
          refine h_iadd (a := y) (b := 5) F dX1_meets_78 ?_
          refine h_icge (tgt := 86) F dX1_meets_79 (by decide) (by omega) (fun c8 => ?_) (fun c8 => ?_)
          · refine h_iconst F dX1_meets_86 ?_
            refine h_top (show (0 : Int) = bz (decide (x < (if sd = sd2 then x2 else W9 - x2 - (4 * n2 - 1)) + (4 * n2 - 1) ∧ (if sd = sd2 then x2 else W9 - x2 - (4 * n2 - 1)) < x + (4 * n - 1) ∧ y < y2 + 5 ∧ y2 < y + 5)) from by first | exact bzt (decide_eq_true (by split <;> omega)) | exact bzf (decide_eq_false (by split <;> omega))) ?_
            exact h_iretz F hr hlk hW hS rfl dX1_meets_87
          · refine h_iconst F dX1_meets_82 ?_
            refine h_goto (tgt := 87) F dX1_meets_83 (by decide) ?_
            refine h_top (show (1 : Int) = bz (decide (x < (if sd = sd2 then x2 else W9 - x2 - (4 * n2 - 1)) + (4 * n2 - 1) ∧ (if sd = sd2 then x2 else W9 - x2 - (4 * n2 - 1)) < x + (4 * n - 1) ∧ y < y2 + 5 ∧ y2 < y + 5)) from by first | exact bzt (decide_eq_true (by split <;> omega)) | exact bzf (decide_eq_false (by split <;> omega))) ?_
            exact h_iretz F hr hlk hW hS rfl dX1_meets_87
  · refine lv_aload_n F.1 F.2.1 dX1_meets_11 rfl (lv_at hl 1 rfl) ?_
    refine gf_RX1_28 F hW hv2.1 rfl dX1_meets_12 ?_
    refine h_goto (tgt := 29) F dX1_meets_15 (by decide) ?_
    refine lv_istore_n (lv' := [(3, .int (iI x2)), (0, .ref q), (1, .ref z), (2, .int (iI W9))]) F.1 F.2.1 dX1_meets_29 rfl hl (by decide) rfl (fun ls hl => ?_)
    refine lv_aload_n F.1 F.2.1 dX1_meets_30 rfl (lv_at hl 1 rfl) ?_
    refine gf_RX1_28 F hW hv.1 rfl dX1_meets_31 ?_
    refine lv_iload_n F.1 F.2.1 dX1_meets_34 rfl (lv_at hl 0 rfl) ?_
    refine lv_aload_n F.1 F.2.1 dX1_meets_35 rfl (lv_at hl 2 rfl) ?_
    refine cl_RX1_63 (As := []) (rest := [.int (iI x2), .int (iI x)]) F hl (c_X1_boxWidth l X w z n2 sd2 x2 y2 co2 f2 hv2) hW hS hv2.1 rfl rfl ⟨Nat.le_of_ble_eq_true rfl, Nat.le_of_ble_eq_true rfl⟩ (Nat.le_of_ble_eq_true rfl) ⟨Nat.zero_le _, Nat.zero_le _⟩ dX1_meets_36 (fun w1 H locs hp9 hW hS => ?_)
    rw [hp9] at hW; clear hp9; clear w1
    refine h_iadd (a := x2) (b := 4 * n2 - 1) F dX1_meets_39 ?_
    refine h_icge (tgt := 86) F dX1_meets_40 (by decide) (by omega) (fun c10 => ?_) (fun c10 => ?_)
    · refine h_iconst F dX1_meets_86 ?_
      refine h_top (show (0 : Int) = bz (decide (x < (if sd = sd2 then x2 else W9 - x2 - (4 * n2 - 1)) + (4 * n2 - 1) ∧ (if sd = sd2 then x2 else W9 - x2 - (4 * n2 - 1)) < x + (4 * n - 1) ∧ y < y2 + 5 ∧ y2 < y + 5)) from by first | exact bzt (decide_eq_true (by split <;> omega)) | exact bzf (decide_eq_false (by split <;> omega))) ?_
      exact h_iretz F hr hlk hW hS rfl dX1_meets_87
    · refine lv_iload_n F.1 F.2.1 dX1_meets_43 rfl (lv_at hl 0 rfl) ?_
      refine lv_aload_n F.1 F.2.1 dX1_meets_44 rfl (lv_at hl 1 rfl) ?_
      refine gf_RX1_28 F hW hv.1 rfl dX1_meets_45 ?_
      refine lv_aload_n F.1 F.2.1 dX1_meets_48 rfl (lv_at hl 1 rfl) ?_
      refine cl_RX1_63 (As := []) (rest := [.int (iI x), .int (iI x2)]) F hl (c_X1_boxWidth l X w q n sd x y co f hv) hW hS hv.1 rfl rfl ⟨Nat.le_of_ble_eq_true rfl, Nat.le_of_ble_eq_true rfl⟩ (Nat.le_of_ble_eq_true rfl) ⟨Nat.zero_le _, Nat.zero_le _⟩ dX1_meets_49 (fun w1 H locs hp11 hW hS => ?_)
      rw [hp11] at hW; clear hp11; clear w1
      refine h_iadd (a := x) (b := 4 * n - 1) F dX1_meets_52 ?_
      refine h_icge (tgt := 86) F dX1_meets_53 (by decide) (by omega) (fun c12 => ?_) (fun c12 => ?_)
      · refine h_iconst F dX1_meets_86 ?_
        refine h_top (show (0 : Int) = bz (decide (x < (if sd = sd2 then x2 else W9 - x2 - (4 * n2 - 1)) + (4 * n2 - 1) ∧ (if sd = sd2 then x2 else W9 - x2 - (4 * n2 - 1)) < x + (4 * n - 1) ∧ y < y2 + 5 ∧ y2 < y + 5)) from by first | exact bzt (decide_eq_true (by split <;> omega)) | exact bzf (decide_eq_false (by split <;> omega))) ?_
        exact h_iretz F hr hlk hW hS rfl dX1_meets_87
      · refine lv_aload_n F.1 F.2.1 dX1_meets_56 rfl (lv_at hl 1 rfl) ?_
        refine gf_RX1_31 F hW hv.1 rfl dX1_meets_57 ?_
        refine lv_aload_n F.1 F.2.1 dX1_meets_60 rfl (lv_at hl 2 rfl) ?_
        refine gf_RX1_31 F hW hv2.1 rfl dX1_meets_61 ?_
        refine h_iconst F dX1_meets_64 ?_
        refine h_iadd (a := y2) (b := 5) F dX1_meets_65 ?_
        refine h_icge (tgt := 86) F dX1_meets_66 (by decide) (by omega) (fun c13 => ?_) (fun c13 => ?_)
        · refine h_iconst F dX1_meets_86 ?_
          refine h_top (show (0 : Int) = bz (decide (x < (if sd = sd2 then x2 else W9 - x2 - (4 * n2 - 1)) + (4 * n2 - 1) ∧ (if sd = sd2 then x2 else W9 - x2 - (4 * n2 - 1)) < x + (4 * n - 1) ∧ y < y2 + 5 ∧ y2 < y + 5)) from by first | exact bzt (decide_eq_true (by split <;> omega)) | exact bzf (decide_eq_false (by split <;> omega))) ?_
          exact h_iretz F hr hlk hW hS rfl dX1_meets_87
        · refine lv_aload_n F.1 F.2.1 dX1_meets_69 rfl (lv_at hl 2 rfl) ?_
          refine gf_RX1_31 F hW hv2.1 rfl dX1_meets_70 ?_
          refine lv_aload_n F.1 F.2.1 dX1_meets_73 rfl (lv_at hl 1 rfl) ?_
          refine gf_RX1_31 F hW hv.1 rfl dX1_meets_74 ?_
          refine h_iconst F dX1_meets_77 ?_
          refine h_iadd (a := y) (b := 5) F dX1_meets_78 ?_
          refine h_icge (tgt := 86) F dX1_meets_79 (by decide) (by omega) (fun c14 => ?_) (fun c14 => ?_)
          · refine h_iconst F dX1_meets_86 ?_
            refine h_top (show (0 : Int) = bz (decide (x < (if sd = sd2 then x2 else W9 - x2 - (4 * n2 - 1)) + (4 * n2 - 1) ∧ (if sd = sd2 then x2 else W9 - x2 - (4 * n2 - 1)) < x + (4 * n - 1) ∧ y < y2 + 5 ∧ y2 < y + 5)) from by first | exact bzt (decide_eq_true (by split <;> omega)) | exact bzf (decide_eq_false (by split <;> omega))) ?_
            exact h_iretz F hr hlk hW hS rfl dX1_meets_87
          · refine h_iconst F dX1_meets_82 ?_
            refine h_goto (tgt := 87) F dX1_meets_83 (by decide) ?_
            refine h_top (show (1 : Int) = bz (decide (x < (if sd = sd2 then x2 else W9 - x2 - (4 * n2 - 1)) + (4 * n2 - 1) ∧ (if sd = sd2 then x2 else W9 - x2 - (4 * n2 - 1)) < x + (4 * n - 1) ∧ y < y2 + 5 ∧ y2 < y + 5)) from by first | exact bzt (decide_eq_true (by split <;> omega)) | exact bzf (decide_eq_false (by split <;> omega))) ?_
            exact h_iretz F hr hlk hW hS rfl dX1_meets_87
set_option maxHeartbeats 4000000 in
set_option maxRecDepth 100000 in
theorem c_X8_at_gl (l : Launch) (X : Cx) (w : Wo) (i : Int) (hi : 0 ≤ i ∧ i < 26) : CM l X yX8_at cX8_at 2 (some (.int)) (rmk 0 0) [.ref (X.2.2 1), .int (iI i)] w (some (.int (iI (gl i)))) (fun w' => w' = w) := by
  refine CM.of (lv := [(0, .ref (X.2.2 1)), (1, .int (iI i))]) (by decide) (Nat.le_of_ble_eq_true rfl) rfl (fun p e s m below meth c ls F hr hlk hin hW hS hl => ?_)
  have hZ0 := hW.2.2
  have hB9 := hW.1.2
  clear hin
  refine lv_iload_n F.1 F.2.1 dX8_at_0 rfl (lv_at hl 1 rfl) ?_
  refine h_iflt (tgt := 16) F dX8_at_1 (by decide) (by omega) (fun c1 => ?_) (fun c1 => ?_)
  · exfalso; omega
  · refine lv_iload_n F.1 F.2.1 dX8_at_4 rfl (lv_at hl 1 rfl) ?_
    refine lv_aload_n F.1 F.2.1 dX8_at_5 rfl (lv_at hl 0 rfl) ?_
    refine h_gllen8 F hZ0 hS dX8_at_6 ?_
    refine h_icge (tgt := 16) F dX8_at_7 (by decide) (by omega) (fun c2 => ?_) (fun c2 => ?_)
    · exfalso; omega
    · refine lv_aload_n F.1 F.2.1 dX8_at_10 rfl (lv_at hl 0 rfl) ?_
      refine lv_iload_n F.1 F.2.1 dX8_at_11 rfl (lv_at hl 1 rfl) ?_
      refine h_gli8 F hZ0 hS (by omega) dX8_at_12 ?_
      refine h_goto (tgt := 17) F dX8_at_13 (by decide) ?_
      exact h_ireti F hr hlk hW hS rfl dX8_at_17
set_option maxHeartbeats 4000000 in
set_option maxRecDepth 100000 in
theorem c_X1_letterAt (l : Launch) (X : Cx) (w : Wo) (q : Nat) (σ : Int → Int) (k : Int) (j : Int) (hq : capAt X w q σ k) (hok : capOK σ k) (hwf : WF0 σ) (hj : 0 ≤ j ∧ j < cp σ k 0) : CM l X yX1_letterAt cX1_letterAt 2 (some (.int)) (rmk 1 21) [.ref q, .int (iI j)] w (some (.int (iI (tdS σ k j)))) (fun w' => w' = w) := by
  refine CM.of (lv := [(0, .ref q), (1, .int (iI j))]) (by decide) (Nat.le_of_ble_eq_true rfl) rfl (fun p e s m below meth c ls F hr hlk hin hW hS hl => ?_)
  have hZ0 := hW.2.2
  have hB9 := hW.1.2
  clear hin
  have hqo := hq.o
  obtain ⟨f, hqv, hqf⟩ := hq
  obtain ⟨k1, k2, k3, k4, k5, k6⟩ := hok
  have hF := hwf
  unfold WF0 at hF
  refine lv_aload_n F.1 F.2.1 dX1_letterAt_0 rfl (lv_at hl 0 rfl) ?_
  refine gf_RX1_9 F hW hqo rfl dX1_letterAt_1 ?_
  refine lv_iload_n F.1 F.2.1 dX1_letterAt_4 rfl (lv_at hl 1 rfl) ?_
  refine cl_RX1_53 (As := [.ref (q + 1), .int (iI j)]) (rest := []) F hl (c_X8_at l X w (q + 1) 8 f j hqv.2 (by omega) (by omega)) hW hS rfl rfl ⟨Nat.le_of_ble_eq_true rfl, Nat.le_of_ble_eq_true rfl⟩ (Nat.le_of_ble_eq_true rfl) ⟨Nat.zero_le _, Nat.zero_le _⟩ dX1_letterAt_5 (fun w1 H locs hp1 hW hS => ?_)
  rw [hp1] at hW; clear hp1; clear w1
  refine h_top (show (f j : Int) = tdS σ k j from hqf j (by omega) (by omega)) ?_
  exact h_ireti F hr hlk hW hS rfl dX1_letterAt_8
set_option maxHeartbeats 4000000 in
set_option maxRecDepth 100000 in
theorem c_X1_glyphAt (l : Launch) (X : Cx) (w : Wo) (q : Nat) (σ : Int → Int) (k : Int) (j : Int) (hq : capAt X w q σ k) (hok : capOK σ k) (hwf : WF0 σ) (hj : 0 ≤ j ∧ j < cp σ k 0) : CM l X yX1_glyphAt cX1_glyphAt 2 (some (.int)) (rmk 2 42) [.ref q, .int (iI j)] w (some (.int (iI (gl (cp σ k (5 + j)))))) (fun w' => w' = w) := by
  refine CM.of (lv := [(0, .ref q), (1, .int (iI j))]) (by decide) (Nat.le_of_ble_eq_true rfl) rfl (fun p e s m below meth c ls F hr hlk hin hW hS hl => ?_)
  have hZ0 := hW.2.2
  have hB9 := hW.1.2
  clear hin
  have hok0 := hok
  have hq0 := hq
  have hqo := hq.o
  obtain ⟨f, hqv, hqf⟩ := hq
  obtain ⟨k1, k2, k3, k4, k5, k6⟩ := hok
  have hF := hwf
  unfold WF0 at hF
  have kj := k6 j (by omega) (by omega)
  refine h_gl1 F hW hZ0 hS rfl dX1_glyphAt_0 ?_
  refine lv_aload_n F.1 F.2.1 dX1_glyphAt_3 rfl (lv_at hl 0 rfl) ?_
  refine lv_iload_n F.1 F.2.1 dX1_glyphAt_4 rfl (lv_at hl 1 rfl) ?_
  refine cl_RX1_60 (As := [.int (iI j)]) (rest := [.ref (X.2.2 1)]) F hl (c_X1_letterAt l X w q σ k j hq0 hok0 hwf (by omega)) hW hS hqo rfl rfl ⟨Nat.le_of_ble_eq_true rfl, Nat.le_of_ble_eq_true rfl⟩ (Nat.le_of_ble_eq_true rfl) ⟨Nat.zero_le _, Nat.zero_le _⟩ dX1_glyphAt_5 (fun w1 H locs hp1 hW hS => ?_)
  rw [hp1] at hW; clear hp1; clear w1
  refine h_iconst F dX1_glyphAt_8 ?_
  refine h_isub (a := tdS σ k j) (b := 1) F dX1_glyphAt_9 ?_
  refine h_top (show ((tdS σ k j) - 1 : Int) = cp σ k (5 + j) from by unfold tdS; omega) ?_
  refine cl_RX1_53 (As := [.ref (X.2.2 1), .int (iI (cp σ k (5 + j)))]) (rest := []) F hl (c_X8_at_gl l X w (cp σ k (5 + j)) (by omega)) hW hS rfl rfl ⟨Nat.le_of_ble_eq_true rfl, Nat.le_of_ble_eq_true rfl⟩ (Nat.le_of_ble_eq_true rfl) ⟨Nat.zero_le _, Nat.zero_le _⟩ dX1_glyphAt_10 (fun w1 H locs hp2 hW hS => ?_)
  rw [hp2] at hW; clear hp2; clear w1
  exact h_ireti F hr hlk hW hS rfl dX1_glyphAt_13
set_option maxHeartbeats 4000000 in
set_option maxRecDepth 100000 in
theorem c_X8_letterFor (l : Launch) (X : Cx) (w : Wo) (x : Int) (hx : -2147483648 ≤ x ∧ x < 2147483648) : CM l X yX8_letterFor cX8_letterFor 2 (some (.int)) (rmk 0 0) [.int (iI x)] w (some (.int (iI (ltrS x)))) (fun w' => w' = w) := by
  refine CM.of (lv := [(0, .int (iI x))]) (by decide) (Nat.le_of_ble_eq_true rfl) rfl (fun p e s m below meth c ls F hr hlk hin hW hS hl => ?_)
  have hZ0 := hW.2.2
  have hB9 := hW.1.2
  clear hin
  have hgr := gl_r
  refine h_iconst F dX8_letterFor_0 ?_
  refine lv_istore_n (lv' := [(1, .int (iI 0)), (0, .int (iI x))]) F.1 F.2.1 dX8_letterFor_1 rfl hl (by decide) rfl (fun ls hl => ?_)
  have loop2 : ∀ (n9 : Nat) (i : Int), (hrg : 0 ≤ i ∧ i ≤ 26) → (hms : 26 - i < (n9 : Int)) → (hno : ∀ j, 0 ≤ j → j < i → decide (gl j = x) = false) → (H : Heap) → (locs : List Loc) → (ls : Array Slot) → Wd X w s H → va_S (cxA X) s.heap H locs → lv_has ls 2 [(1, .int (iI i)), (0, .int (iI x))] → W p l e (rmk 0 0) s m (List.toArray [.int (iI x)]) below meth c H locs 0 0 (MX X below (List.toArray [.int (iI x)]) s 0 0 (some (.int (iI (ltrS x)))) (fun w' => w' = w)) (F0 m 2 ls []) := by
    intro n9
    induction n9 with
    | zero => intro i  hrg hms; exfalso; omega
    | succ n9 ih2 =>
      intro i  hrg hms  hno H locs ls hW hS hl
      refine lv_iload_n F.1 F.2.1 dX8_letterFor_2 rfl (lv_at hl 0 rfl) ?_
      refine h_gl8 F hZ0 hS kf_RX8_438 dX8_letterFor_3 ?_
      refine h_gllen8 F hZ0 hS dX8_letterFor_6 ?_
      refine h_icge (tgt := 29) F dX8_letterFor_7 (by decide) (by omega) (fun c1 => ?_) (fun c1 => ?_)
      · refine h_iconst F dX8_letterFor_29 ?_
        refine h_top (show (0 : Int) = ltrS x from by unfold ltrS; rw [fi_none (by decide) (fun j h1 h2 => hno j h1 (by omega))]; rfl) ?_
        exact h_ireti F hr hlk hW hS rfl dX8_letterFor_30
      · refine h_gl8 F hZ0 hS kf_RX8_438 dX8_letterFor_10 ?_
        refine lv_iload_n F.1 F.2.1 dX8_letterFor_13 rfl (lv_at hl 0 rfl) ?_
        refine h_gli8 F hZ0 hS (by omega) dX8_letterFor_14 ?_
        refine lv_iload_n F.1 F.2.1 dX8_letterFor_15 rfl (lv_at hl 1 rfl) ?_
        refine h_icne (tgt := 23) F dX8_letterFor_16 (by decide) (by have := gl_r i; omega) (fun c2 => ?_) (fun c2 => ?_)
        · refine h_iinc (k := 0) (a := i) (lv' := [(1, .int (iI (i + 1))), (0, .int (iI x))]) F dX8_letterFor_23 hl rfl (by decide) rfl (fun ls hl => ?_)
          refine h_goto (tgt := 2) F dX8_letterFor_26 (by decide) ?_
          have eq3 : ((i + 1) : Int) = i + 1 := by first | rfl | omega | simp
          exact ih2 (i + 1)  (by omega) (by omega)  (fun j h1 h2 => (by by_cases hj : j = i; (rw [hj]; exact decide_eq_false (by omega)); exact hno j h1 (by omega))) _ _ ls hW hS (by rw [eq3]; exact lv_sub hl [0, 1] rfl)
        · refine lv_iload_n F.1 F.2.1 dX8_letterFor_19 rfl (lv_at hl 0 rfl) ?_
          refine h_iconst F dX8_letterFor_20 ?_
          refine h_iadd (a := i) (b := 1) F dX8_letterFor_21 ?_
          refine h_top (show (i + 1 : Int) = ltrS x from by unfold ltrS; rw [fi_hit (i := i) (by omega) (by omega) hno (decide_eq_true (by omega))]; rw [if_pos (by omega)]) ?_
          exact h_ireti F hr hlk hW hS rfl dX8_letterFor_22
  exact loop2 ((26 - 0) + 1 : Int).toNat 0  (by omega) (by omega)  (fun j h1 h2 => by omega) _ _ ls hW hS (lv_sub hl [0, 1] rfl)
set_option maxHeartbeats 4000000 in
set_option maxRecDepth 100000 in
theorem c_mirN (l : Launch) (X : Cx) (w : Wo) (N : Nat) (hP9 : N < 32768) : CM l X yX8_mirrored cX8_mirrored 4 (some (.int)) (rmk 0 0) [.int (iI (N : Int))] w (some (.int (iI (revS (N : Int))))) (fun w' => w' = w) := by
  refine CM.of (lv := [(0, .int (iI (N : Int)))]) (by decide) (Nat.le_of_ble_eq_true rfl) rfl (fun p e s m below meth c ls F hr hlk hin hW hS hl => ?_)
  have hZ0 := hW.2.2
  have hB9 := hW.1.2
  clear hin
  have b1 : N &&& 4681 ≤ N := Nat.and_le_left
  have b2 : N &&& 9362 ≤ N := Nat.and_le_left
  have b3 : (N / 4) &&& 4681 ≤ N / 4 := Nat.and_le_left
  refine lv_iload_n F.1 F.2.1 dX8_mirrored_0 rfl (lv_at hl 0 rfl) ?_
  refine h_sipush F dX8_mirrored_1 rfl ?_
  refine h_iand (z := iI ((N &&& 4681 : Nat) : Int)) F dX8_mirrored_4 ((iI_and (a := (N : Int)) (b := 4681) (by omega) (by decide))) ?_
  refine lv_istore_n (lv' := [(1, .int (iI ((N &&& 4681 : Nat) : Int))), (0, .int (iI (N : Int)))]) F.1 F.2.1 dX8_mirrored_5 rfl hl (by decide) rfl (fun ls hl => ?_)
  refine lv_iload_n F.1 F.2.1 dX8_mirrored_6 rfl (lv_at hl 1 rfl) ?_
  refine h_sipush F dX8_mirrored_7 rfl ?_
  refine h_iand (z := iI ((N &&& 9362 : Nat) : Int)) F dX8_mirrored_10 ((iI_and (a := (N : Int)) (b := 9362) (by omega) (by decide))) ?_
  refine lv_istore_n (lv' := [(2, .int (iI ((N &&& 9362 : Nat) : Int))), (1, .int (iI ((N &&& 4681 : Nat) : Int))), (0, .int (iI (N : Int)))]) F.1 F.2.1 dX8_mirrored_11 rfl hl (by decide) rfl (fun ls hl => ?_)
  refine lv_iload_n F.1 F.2.1 dX8_mirrored_12 rfl (lv_at hl 2 rfl) ?_
  refine h_iconst F dX8_mirrored_13 ?_
  refine h_ishr (z := iI ((N / 4 : Nat) : Int)) F dX8_mirrored_14 ((by rw [iI_shr 2 rfl (by omega) (by omega)]; congr 1)) ?_
  refine h_sipush F dX8_mirrored_15 rfl ?_
  refine h_iand (z := iI ((N / 4 &&& 4681 : Nat) : Int)) F dX8_mirrored_18 ((iI_and (a := ((N / 4 : Nat) : Int)) (b := 4681) (by omega) (by decide))) ?_
  refine lv_istore_n (lv' := [(3, .int (iI ((N / 4 &&& 4681 : Nat) : Int))), (2, .int (iI ((N &&& 9362 : Nat) : Int))), (1, .int (iI ((N &&& 4681 : Nat) : Int))), (0, .int (iI (N : Int)))]) F.1 F.2.1 dX8_mirrored_19 rfl hl (by decide) rfl (fun ls hl => ?_)
  refine lv_iload_n F.1 F.2.1 dX8_mirrored_20 rfl (lv_at hl 2 rfl) ?_
  refine h_iconst F dX8_mirrored_21 ?_
  refine h_ishl (z := iI (((N &&& 4681) * 4 : Nat) : Int)) F dX8_mirrored_22 ((by rw [iI_shl 2 rfl (by omega) (by omega)]; congr 1)) ?_
  refine lv_iload_n F.1 F.2.1 dX8_mirrored_23 rfl (lv_at hl 1 rfl) ?_
  refine h_ior (z := iI (((N &&& 4681) * 4 ||| (N &&& 9362) : Nat) : Int)) F dX8_mirrored_24 ((iI_or (a := (((N &&& 4681) * 4 : Nat) : Int)) (b := ((N &&& 9362 : Nat) : Int)) (by omega) (by omega))) ?_
  refine lv_iload_n F.1 F.2.1 dX8_mirrored_25 rfl (lv_at hl 0 rfl) ?_
  refine h_ior (z := iI (((N &&& 4681) * 4 ||| (N &&& 9362) ||| (N / 4 &&& 4681) : Nat) : Int)) F dX8_mirrored_26 ((iI_or (a := (((N &&& 4681) * 4 ||| (N &&& 9362) : Nat) : Int)) (b := ((N / 4 &&& 4681 : Nat) : Int)) (by omega) (by omega))) ?_
  refine h_top (show ((((N &&& 4681) * 4 ||| (N &&& 9362) ||| (N / 4 &&& 4681) : Nat) : Int) : Int) = revS (N : Int) from mir_eq (by omega)) ?_
  exact h_ireti F hr hlk hW hS rfl dX8_mirrored_27
theorem c_X8_mirrored (l : Launch) (X : Cx) (w : Wo) (P9 : Int) (hP9 : 0 ≤ P9 ∧ P9 < 32768) : CM l X yX8_mirrored cX8_mirrored 4 (some (.int)) (rmk 0 0) [.int (iI P9)] w (some (.int (iI (revS P9)))) (fun w' => w' = w) := by
  have h := c_mirN l X w P9.toNat (by omega)
  rw [show ((P9.toNat : Nat) : Int) = P9 by omega] at h
  exact h
set_option maxHeartbeats 4000000 in
set_option maxRecDepth 100000 in
theorem c_X1_isMirrored (l : Launch) (X : Cx) (w : Wo) (q : Nat) (σ : Int → Int) (k : Int) (hq : capAt X w q σ k) (hok : capOK σ k) (hwf : WF0 σ) : CM l X yX1_isMirrored cX1_isMirrored 2 (some (.boolean)) (rmk 3 63) [.ref q] w (some (.int (iI (bz (al (fun z => decide (gl (cp σ k (5 + (cp σ k 0 - 1 - z))) = revS (gl (cp σ k (5 + z))))) 0 (cp σ k 0)))))) (fun w' => w' = w) := by
  refine CM.of (lv := [(0, .ref q)]) (by decide) (Nat.le_of_ble_eq_true rfl) rfl (fun p e s m below meth c ls F hr hlk hin hW hS hl => ?_)
  have hZ0 := hW.2.2
  have hB9 := hW.1.2
  clear hin
  have hok0 := hok
  have hq0 := hq
  have hqo := hq.o
  obtain ⟨f, hqv, hqf⟩ := hq
  obtain ⟨k1, k2, k3, k4, k5, k6⟩ := hok
  have hF := hwf
  unfold WF0 at hF
  refine h_iconst F dX1_isMirrored_0 ?_
  refine lv_istore_n (lv' := [(1, .int (iI 0)), (0, .ref q)]) F.1 F.2.1 dX1_isMirrored_1 rfl hl (by decide) rfl (fun ls hl => ?_)
  have loop2 : ∀ (n9 : Nat) (j : Int), (hrg : 0 ≤ j ∧ j ≤ cp σ k 0) → (hms : cp σ k 0 - j < (n9 : Int)) → (hno : ∀ i, 0 ≤ i → i < j → gl (cp σ k (5 + (cp σ k 0 - 1 - i))) = revS (gl (cp σ k (5 + i)))) → (H : Heap) → (locs : List Loc) → (ls : Array Slot) → Wd X w s H → va_S (cxA X) s.heap H locs → lv_has ls 2 [(1, .int (iI j)), (0, .ref q)] → W p l e (rmk 3 63) s m (List.toArray [.ref q]) below meth c H locs 0 0 (MX X below (List.toArray [.ref q]) s 0 0 (some (.int (iI (bz (al (fun z => decide (gl (cp σ k (5 + (cp σ k 0 - 1 - z))) = revS (gl (cp σ k (5 + z))))) 0 (cp σ k 0)))))) (fun w' => w' = w)) (F0 m 2 ls []) := by
    intro n9
    induction n9 with
    | zero => intro j  hrg hms; exfalso; omega
    | succ n9 ih2 =>
      intro j  hrg hms  hno H locs ls hW hS hl
      refine lv_iload_n F.1 F.2.1 dX1_isMirrored_2 rfl (lv_at hl 0 rfl) ?_
      refine lv_aload_n F.1 F.2.1 dX1_isMirrored_3 rfl (lv_at hl 1 rfl) ?_
      refine gf_RX1_21 F hW hqo rfl dX1_isMirrored_4 ?_
      refine h_icge (tgt := 41) F dX1_isMirrored_7 (by decide) (by omega) (fun c1 => ?_) (fun c1 => ?_)
      · refine h_iconst F dX1_isMirrored_41 ?_
        refine h_top (show (1 : Int) = bz (al (fun z => decide (gl (cp σ k (5 + (cp σ k 0 - 1 - z))) = revS (gl (cp σ k (5 + z))))) 0 (cp σ k 0)) from bzt (al_iff.mpr (fun c h1 h2 => decide_eq_true (hno c h1 (by omega))))) ?_
        exact h_iretz F hr hlk hW hS rfl dX1_isMirrored_42
      · refine lv_aload_n F.1 F.2.1 dX1_isMirrored_10 rfl (lv_at hl 1 rfl) ?_
        refine lv_aload_n F.1 F.2.1 dX1_isMirrored_11 rfl (lv_at hl 1 rfl) ?_
        refine gf_RX1_21 F hW hqo rfl dX1_isMirrored_12 ?_
        refine h_iconst F dX1_isMirrored_15 ?_
        refine h_isub (a := cp σ k 0) (b := 1) F dX1_isMirrored_16 ?_
        refine lv_iload_n F.1 F.2.1 dX1_isMirrored_17 rfl (lv_at hl 0 rfl) ?_
        refine h_isub (a := (cp σ k 0) - 1) (b := j) F dX1_isMirrored_18 ?_
        refine cl_RX1_67 (As := [.int (iI (((cp σ k 0) - 1) - j))]) (rest := []) F hl (c_X1_glyphAt l X w q σ k (((cp σ k 0) - 1) - j) hq0 hok0 hwf (by omega)) hW hS hqo rfl rfl ⟨Nat.le_of_ble_eq_true rfl, Nat.le_of_ble_eq_true rfl⟩ (Nat.le_of_ble_eq_true rfl) ⟨Nat.zero_le _, Nat.zero_le _⟩ dX1_isMirrored_19 (fun w1 H locs hp2 hW hS => ?_)
        rw [hp2] at hW; clear hp2; clear w1
        refine lv_aload_n F.1 F.2.1 dX1_isMirrored_22 rfl (lv_at hl 1 rfl) ?_
        refine lv_iload_n F.1 F.2.1 dX1_isMirrored_23 rfl (lv_at hl 0 rfl) ?_
        refine cl_RX1_67 (As := [.int (iI j)]) (rest := [.int (iI (gl (cp σ k (5 + (((cp σ k 0) - 1) - j)))))]) F hl (c_X1_glyphAt l X w q σ k j hq0 hok0 hwf (by omega)) hW hS hqo rfl rfl ⟨Nat.le_of_ble_eq_true rfl, Nat.le_of_ble_eq_true rfl⟩ (Nat.le_of_ble_eq_true rfl) ⟨Nat.zero_le _, Nat.zero_le _⟩ dX1_isMirrored_24 (fun w1 H locs hp3 hW hS => ?_)
        rw [hp3] at hW; clear hp3; clear w1
        have hg1 := gl_r (cp σ k (5 + (cp σ k 0 - 1 - j)))
        have hg2 := gl_r (cp σ k (5 + j))
        have hg3 := revS_r (gl (cp σ k (5 + j)))
        refine cl_RX1_70 (As := [.int (iI (gl (cp σ k (5 + j))))]) (rest := [.int (iI (gl (cp σ k (5 + (((cp σ k 0) - 1) - j)))))]) F hl (c_X8_mirrored l X w (gl (cp σ k (5 + j))) (by omega)) hW hS rfl rfl ⟨Nat.le_of_ble_eq_true rfl, Nat.le_of_ble_eq_true rfl⟩ (Nat.le_of_ble_eq_true rfl) ⟨Nat.zero_le _, Nat.zero_le _⟩ dX1_isMirrored_27 (fun w1 H locs hp4 hW hS => ?_)
        rw [hp4] at hW; clear hp4; clear w1
        refine h_iceq (tgt := 35) F dX1_isMirrored_30 (by decide) (by omega) (fun c5 => ?_) (fun c5 => ?_)
        · refine h_iinc (k := 0) (a := j) (lv' := [(1, .int (iI (j + 1))), (0, .ref q)]) F dX1_isMirrored_35 hl rfl (by decide) rfl (fun ls hl => ?_)
          refine h_goto (tgt := 2) F dX1_isMirrored_38 (by decide) ?_
          have eq6 : ((j + 1) : Int) = j + 1 := by first | rfl | omega | simp
          exact ih2 (j + 1)  (by omega) (by omega)  (fun c h1 h2 => (by by_cases hj : c = j; (rw [hj]; assumption); exact hno c h1 (by omega))) _ _ ls hW hS (by rw [eq6]; exact lv_sub hl [0, 1] rfl)
        · refine h_iconst F dX1_isMirrored_33 ?_
          refine h_top (show (0 : Int) = bz (al (fun z => decide (gl (cp σ k (5 + (cp σ k 0 - 1 - z))) = revS (gl (cp σ k (5 + z))))) 0 (cp σ k 0)) from bzf (by rw [← Bool.not_eq_true, al_iff]; intro g; exact absurd (of_decide_eq_true (g j (by omega) (by omega))) ‹_›)) ?_
          exact h_iretz F hr hlk hW hS rfl dX1_isMirrored_34
  exact loop2 ((cp σ k 0 - 0) + 1 : Int).toNat 0  (by omega) (by omega)  (fun c h1 h2 => by omega) _ _ ls hW hS (lv_sub hl [0, 1] rfl)
