theorem c_get_cl (l : Launch) (X : Cx) (w : Wo) (a : Nat) (σ : Int → Int) (cn rn : Int) (hA : lmA X w a σ) (hwf : WF σ) (hc : 0 ≤ cn ∧ cn < σ 0 ∧ 0 ≤ rn ∧ rn < σ 1) : CM l X yX3_get cX3_get 6 (some (.int)) (rmk 1 21) [.ref (a + 1), .int (iI cn), .int (iI rn)] w (some (.int (iI (cellS σ cn rn)))) (fun w' => w' = w) := by
  obtain ⟨gr, hg, he⟩ := hA.2.1
  have hF := hwf.1
  unfold WF0 at hF
  have h := c_X3_get l X w (a + 1) gr cn rn hg (by omega)
  rw [he cn rn (by omega) (by omega) (by omega) (by omega)] at h
  exact h
theorem c_get_pl (l : Launch) (X : Cx) (w : Wo) (a : Nat) (σ : Int → Int) (cn rn : Int) (hL : loomAt X w a σ) (hc : 0 ≤ cn ∧ cn < σ 0 ∧ 0 ≤ rn ∧ rn < σ 1) : CM l X yX3_get cX3_get 6 (some (.int)) (rmk 1 21) [.ref (a + 3), .int (iI cn), .int (iI rn)] w (some (.int (iI (desS σ cn rn)))) (fun w' => w' = w) := by
  obtain ⟨gr, hg, he⟩ := hL.2.1
  have hF := hL.2.2.1
  unfold WF0 at hF
  have h := c_X3_get l X w (a + 3) gr cn rn hg (by omega)
  rw [he cn rn (by omega) (by omega) (by omega) (by omega)] at h
  exact h
set_option maxHeartbeats 4000000 in
set_option maxRecDepth 100000 in
theorem c_X5_hasColumn (l : Launch) (X : Cx) (w : Wo) (a : Nat) (σ : Int → Int) (cn : Int) (hA : lmA X w a σ) (hwf : WF σ) (hcn : -2147483648 ≤ cn ∧ cn < 2147483648) : CM l X yX5_hasColumn cX5_hasColumn 2 (some (.boolean)) (rmk 0 0) [.ref a, .int (iI cn)] w (some (.int (iI (bz (decide (0 ≤ cn ∧ cn < σ 0)))))) (fun w' => w' = w) := by
  refine CM.of (lv := [(0, .ref a), (1, .int (iI cn))]) (by decide) (Nat.le_of_ble_eq_true rfl) rfl (fun p e s m below meth c ls F hr hlk hin hW hS hl => ?_)
  have hZ0 := hW.2.2
  have hB9 := hW.1.2
  clear hin
  have hO := hA.o
  have hg1 := hA.g1
  have hg3 := hA.g3
  have hF := hwf.1
  unfold WF0 at hF
  refine lv_iload_n F.1 F.2.1 dX5_hasColumn_0 rfl (lv_at hl 1 rfl) ?_
  refine h_iflt (tgt := 16) F dX5_hasColumn_1 (by decide) (by omega) (fun c1 => ?_) (fun c1 => ?_)
  · refine h_iconst F dX5_hasColumn_16 ?_
    refine h_top (show (0 : Int) = bz (decide (0 ≤ cn ∧ cn < σ 0)) from bzf (by first | exact decide_eq_false (by omega) | (simp only [Bool.and_eq_false_iff, Bool.or_eq_false_iff, decide_eq_false_iff_not]; omega) | simp_all)) ?_
    exact h_iretz F hr hlk hW hS rfl dX5_hasColumn_17
  · refine lv_iload_n F.1 F.2.1 dX5_hasColumn_4 rfl (lv_at hl 1 rfl) ?_
    refine lv_aload_n F.1 F.2.1 dX5_hasColumn_5 rfl (lv_at hl 0 rfl) ?_
    refine gf_RX5_40 F hW hO rfl dX5_hasColumn_6 ?_
    refine h_icge (tgt := 16) F dX5_hasColumn_9 (by decide) (by omega) (fun c2 => ?_) (fun c2 => ?_)
    · refine h_iconst F dX5_hasColumn_16 ?_
      refine h_top (show (0 : Int) = bz (decide (0 ≤ cn ∧ cn < σ 0)) from bzf (by first | exact decide_eq_false (by omega) | (simp only [Bool.and_eq_false_iff, Bool.or_eq_false_iff, decide_eq_false_iff_not]; omega) | simp_all)) ?_
      exact h_iretz F hr hlk hW hS rfl dX5_hasColumn_17
    · refine h_iconst F dX5_hasColumn_12 ?_
      refine h_goto (tgt := 17) F dX5_hasColumn_13 (by decide) ?_
      refine h_top (show (1 : Int) = bz (decide (0 ≤ cn ∧ cn < σ 0)) from bzt (by first | exact decide_eq_true (by omega) | (simp only [Bool.and_eq_true, Bool.or_eq_true, decide_eq_true_eq]; omega) | simp_all)) ?_
      exact h_iretz F hr hlk hW hS rfl dX5_hasColumn_17
set_option maxHeartbeats 4000000 in
set_option maxRecDepth 100000 in
theorem c_X5_hasRow (l : Launch) (X : Cx) (w : Wo) (a : Nat) (σ : Int → Int) (rn : Int) (hA : lmA X w a σ) (hwf : WF σ) (hrn : -2147483648 ≤ rn ∧ rn < 2147483648) : CM l X yX5_hasRow cX5_hasRow 2 (some (.boolean)) (rmk 0 0) [.ref a, .int (iI rn)] w (some (.int (iI (bz (decide (0 ≤ rn ∧ rn < σ 1)))))) (fun w' => w' = w) := by
  refine CM.of (lv := [(0, .ref a), (1, .int (iI rn))]) (by decide) (Nat.le_of_ble_eq_true rfl) rfl (fun p e s m below meth c ls F hr hlk hin hW hS hl => ?_)
  have hZ0 := hW.2.2
  have hB9 := hW.1.2
  clear hin
  have hO := hA.o
  have hg1 := hA.g1
  have hg3 := hA.g3
  have hF := hwf.1
  unfold WF0 at hF
  refine lv_iload_n F.1 F.2.1 dX5_hasRow_0 rfl (lv_at hl 1 rfl) ?_
  refine h_iflt (tgt := 16) F dX5_hasRow_1 (by decide) (by omega) (fun c1 => ?_) (fun c1 => ?_)
  · refine h_iconst F dX5_hasRow_16 ?_
    refine h_top (show (0 : Int) = bz (decide (0 ≤ rn ∧ rn < σ 1)) from bzf (by first | exact decide_eq_false (by omega) | (simp only [Bool.and_eq_false_iff, Bool.or_eq_false_iff, decide_eq_false_iff_not]; omega) | simp_all)) ?_
    exact h_iretz F hr hlk hW hS rfl dX5_hasRow_17
  · refine lv_iload_n F.1 F.2.1 dX5_hasRow_4 rfl (lv_at hl 1 rfl) ?_
    refine lv_aload_n F.1 F.2.1 dX5_hasRow_5 rfl (lv_at hl 0 rfl) ?_
    refine gf_RX5_44 F hW hO rfl dX5_hasRow_6 ?_
    refine h_icge (tgt := 16) F dX5_hasRow_9 (by decide) (by omega) (fun c2 => ?_) (fun c2 => ?_)
    · refine h_iconst F dX5_hasRow_16 ?_
      refine h_top (show (0 : Int) = bz (decide (0 ≤ rn ∧ rn < σ 1)) from bzf (by first | exact decide_eq_false (by omega) | (simp only [Bool.and_eq_false_iff, Bool.or_eq_false_iff, decide_eq_false_iff_not]; omega) | simp_all)) ?_
      exact h_iretz F hr hlk hW hS rfl dX5_hasRow_17
    · refine h_iconst F dX5_hasRow_12 ?_
      refine h_goto (tgt := 17) F dX5_hasRow_13 (by decide) ?_
      refine h_top (show (1 : Int) = bz (decide (0 ≤ rn ∧ rn < σ 1)) from bzt (by first | exact decide_eq_true (by omega) | (simp only [Bool.and_eq_true, Bool.or_eq_true, decide_eq_true_eq]; omega) | simp_all)) ?_
      exact h_iretz F hr hlk hW hS rfl dX5_hasRow_17
set_option maxHeartbeats 4000000 in
set_option maxRecDepth 100000 in
theorem c_X5_isOpen (l : Launch) (X : Cx) (w : Wo) (a : Nat) (σ : Int → Int) (hA : lmA X w a σ) (hwf : WF σ) : CM l X yX5_isOpen cX5_isOpen 1 (some (.boolean)) (rmk 0 0) [.ref a] w (some (.int (iI (bz (decide (σ 4 < σ 1)))))) (fun w' => w' = w) := by
  refine CM.of (lv := [(0, .ref a)]) (by decide) (Nat.le_of_ble_eq_true rfl) rfl (fun p e s m below meth c ls F hr hlk hin hW hS hl => ?_)
  have hZ0 := hW.2.2
  have hB9 := hW.1.2
  clear hin
  have hO := hA.o
  have hg1 := hA.g1
  have hg3 := hA.g3
  have hF := hwf.1
  unfold WF0 at hF
  refine lv_aload_n F.1 F.2.1 dX5_isOpen_0 rfl (lv_at hl 0 rfl) ?_
  refine gf_RX5_47 F hW hO rfl dX5_isOpen_1 ?_
  refine lv_aload_n F.1 F.2.1 dX5_isOpen_4 rfl (lv_at hl 0 rfl) ?_
  refine gf_RX5_44 F hW hO rfl dX5_isOpen_5 ?_
  refine h_icge (tgt := 15) F dX5_isOpen_8 (by decide) (by omega) (fun c1 => ?_) (fun c1 => ?_)
  · refine h_iconst F dX5_isOpen_15 ?_
    refine h_top (show (0 : Int) = bz (decide (σ 4 < σ 1)) from bzf (by first | exact decide_eq_false (by omega) | (simp only [Bool.and_eq_false_iff, Bool.or_eq_false_iff, decide_eq_false_iff_not]; omega) | simp_all)) ?_
    exact h_iretz F hr hlk hW hS rfl dX5_isOpen_16
  · refine h_iconst F dX5_isOpen_11 ?_
    refine h_goto (tgt := 16) F dX5_isOpen_12 (by decide) ?_
    refine h_top (show (1 : Int) = bz (decide (σ 4 < σ 1)) from bzt (by first | exact decide_eq_true (by omega) | (simp only [Bool.and_eq_true, Bool.or_eq_true, decide_eq_true_eq]; omega) | simp_all)) ?_
    exact h_iretz F hr hlk hW hS rfl dX5_isOpen_16
set_option maxHeartbeats 4000000 in
set_option maxRecDepth 100000 in
theorem c_X5_turned (l : Launch) (X : Cx) (w : Wo) (a : Nat) (σ : Int → Int) (cn : Int) (hA : lmA X w a σ) (hwf : WF σ) : CM l X yX5_turned cX5_turned 2 (some (.int)) (rmk 0 0) [.ref a, .int (iI cn)] w (some (.int (iI (turnS σ cn)))) (fun w' => w' = w) := by
  refine CM.of (lv := [(0, .ref a), (1, .int (iI cn))]) (by decide) (Nat.le_of_ble_eq_true rfl) rfl (fun p e s m below meth c ls F hr hlk hin hW hS hl => ?_)
  have hZ0 := hW.2.2
  have hB9 := hW.1.2
  clear hin
  have hO := hA.o
  have hg1 := hA.g1
  have hg3 := hA.g3
  have hF := hwf.1
  unfold WF0 at hF
  refine lv_aload_n F.1 F.2.1 dX5_turned_0 rfl (lv_at hl 0 rfl) ?_
  refine gf_RX5_40 F hW hO rfl dX5_turned_1 ?_
  refine h_iconst F dX5_turned_4 ?_
  refine h_isub (a := σ 0) (b := 1) F dX5_turned_5 ?_
  refine lv_iload_n F.1 F.2.1 dX5_turned_6 rfl (lv_at hl 1 rfl) ?_
  refine h_isub (a := (σ 0) - 1) (b := cn) F dX5_turned_7 ?_
  refine h_top (show (((σ 0) - 1) - cn : Int) = turnS σ cn from rfl) ?_
  exact h_ireti F hr hlk hW hS rfl dX5_turned_8
set_option maxHeartbeats 4000000 in
set_option maxRecDepth 100000 in
theorem c_X5_stockOf (l : Launch) (X : Cx) (w : Wo) (a : Nat) (σ : Int → Int) (co : Int) (hA : lmA X w a σ) (hwf : WF σ) (hco : 0 ≤ co ∧ co < 7) : CM l X yX5_stockOf cX5_stockOf 2 (some (.int)) (rmk 1 21) [.ref a, .int (iI co)] w (some (.int (iI (σ (6 + co))))) (fun w' => w' = w) := by
  refine CM.of (lv := [(0, .ref a), (1, .int (iI co))]) (by decide) (Nat.le_of_ble_eq_true rfl) rfl (fun p e s m below meth c ls F hr hlk hin hW hS hl => ?_)
  have hZ0 := hW.2.2
  have hB9 := hW.1.2
  clear hin
  have hO := hA.o
  have hg1 := hA.g1
  have hg3 := hA.g3
  have hF := hwf.1
  unfold WF0 at hF
  obtain ⟨t, ht, hte⟩ := hA.2.2.2.1
  refine lv_aload_n F.1 F.2.1 dX5_stockOf_0 rfl (lv_at hl 0 rfl) ?_
  refine gf_RX5_21 F hW hO rfl dX5_stockOf_1 ?_
  refine lv_iload_n F.1 F.2.1 dX5_stockOf_4 rfl (lv_at hl 1 rfl) ?_
  refine cl_RX5_89 (As := [.ref (a + 5), .int (iI co)]) (rest := []) F hl (c_X8_at l X w (a + 5) 7 t co ht (by omega) (by omega)) hW hS rfl rfl ⟨Nat.le_of_ble_eq_true rfl, Nat.le_of_ble_eq_true rfl⟩ (Nat.le_of_ble_eq_true rfl) ⟨Nat.zero_le _, Nat.zero_le _⟩ dX5_stockOf_5 (fun w1 H locs hp1 hW hS => ?_)
  rw [hp1] at hW; clear hp1; clear w1
  refine h_top (show (t co : Int) = σ (6 + co) from hte _ (by omega) (by omega)) ?_
  exact h_ireti F hr hlk hW hS rfl dX5_stockOf_8
set_option maxHeartbeats 4000000 in
set_option maxRecDepth 100000 in
theorem c_X5_captionAt (l : Launch) (X : Cx) (w : Wo) (a : Nat) (σ : Int → Int) (i : Int) (hA : lmA X w a σ) (hwf : WF σ) (hi : 0 ≤ i ∧ i < 8) : CM l X yX5_captionAt cX5_captionAt 2 (some (.object "CaptionLoom$Caption")) (rmk 0 0) [.ref a, .int (iI i)] w (some (.ref (a + 9 + 2 * i.toNat))) (fun w' => w' = w) := by
  refine CM.of (lv := [(0, .ref a), (1, .int (iI i))]) (by decide) (Nat.le_of_ble_eq_true rfl) rfl (fun p e s m below meth c ls F hr hlk hin hW hS hl => ?_)
  have hZ0 := hW.2.2
  have hB9 := hW.1.2
  clear hin
  have hO := hA.o
  have hg1 := hA.g1
  have hg3 := hA.g3
  have hF := hwf.1
  unfold WF0 at hF
  refine lv_iload_n F.1 F.2.1 dX5_captionAt_0 rfl (lv_at hl 1 rfl) ?_
  refine h_iflt (tgt := 22) F dX5_captionAt_1 (by decide) (by omega) (fun c1 => ?_) (fun c1 => ?_)
  · exfalso; omega
  · refine lv_iload_n F.1 F.2.1 dX5_captionAt_4 rfl (lv_at hl 1 rfl) ?_
    refine lv_aload_n F.1 F.2.1 dX5_captionAt_5 rfl (lv_at hl 0 rfl) ?_
    refine gf_RX5_27 F hW hO rfl dX5_captionAt_6 ?_
    refine h_alen (k := 3) (n := 8) F hW rfl hA.2.2.2.2.1 dX5_captionAt_9 ?_
    refine h_icge (tgt := 22) F dX5_captionAt_10 (by decide) (by omega) (fun c2 => ?_) (fun c2 => ?_)
    · exfalso; omega
    · refine lv_aload_n F.1 F.2.1 dX5_captionAt_13 rfl (lv_at hl 0 rfl) ?_
      refine gf_RX5_27 F hW hO rfl dX5_captionAt_14 ?_
      refine lv_iload_n F.1 F.2.1 dX5_captionAt_17 rfl (lv_at hl 1 rfl) ?_
      refine h_aald (k := 3) F hW rfl hA.2.2.2.2.1 (by omega) (by omega) (if_pos (by omega)) dX5_captionAt_18 ?_
      refine h_goto (tgt := 26) F dX5_captionAt_19 (by decide) ?_
      exact h_aret F hr hlk hW hS rfl dX5_captionAt_26
set_option maxHeartbeats 4000000 in
set_option maxRecDepth 100000 in
theorem c_X5_allLetters (l : Launch) (X : Cx) (w : Wo) (a : Nat) (σ : Int → Int) (hA : lmA X w a σ) (hwf : WF σ) : CM l X yX5_allLetters cX5_allLetters 3 (some (.int)) (rmk 1 21) [.ref a] w (some (.int (iI (sm (fun z => cp σ z 0) 0 (σ 5))))) (fun w' => w' = w) := by
  refine CM.of (lv := [(0, .ref a)]) (by decide) (Nat.le_of_ble_eq_true rfl) rfl (fun p e s m below meth c ls F hr hlk hin hW hS hl => ?_)
  have hZ0 := hW.2.2
  have hB9 := hW.1.2
  clear hin
  have hO := hA.o
  have hg1 := hA.g1
  have hg3 := hA.g3
  have hF := hwf.1
  unfold WF0 at hF
  refine h_iconst F dX5_allLetters_0 ?_
  refine lv_istore_n (lv' := [(1, .int (iI 0)), (0, .ref a)]) F.1 F.2.1 dX5_allLetters_1 rfl hl (by decide) rfl (fun ls hl => ?_)
  refine h_iconst F dX5_allLetters_2 ?_
  refine lv_istore_n (lv' := [(2, .int (iI 0)), (1, .int (iI 0)), (0, .ref a)]) F.1 F.2.1 dX5_allLetters_3 rfl hl (by decide) rfl (fun ls hl => ?_)
  have loop4 : ∀ (n9 : Nat) (i : Int), (hrg : 0 ≤ i ∧ i ≤ σ 5) → (hms : σ 5 - i < (n9 : Int)) → (H : Heap) → (locs : List Loc) → (ls : Array Slot) → Wd X w s H → va_S (cxA X) s.heap H locs → lv_has ls 3 [(1, .int (iI (sm (fun z => cp σ z 0) 0 i))), (2, .int (iI i)), (0, .ref a)] → W p l e (rmk 1 21) s m (List.toArray [.ref a]) below meth c H locs 0 0 (MX X below (List.toArray [.ref a]) s 0 0 (some (.int (iI (sm (fun z => cp σ z 0) 0 (σ 5))))) (fun w' => w' = w)) (F0 m 4 ls []) := by
    intro n9
    induction n9 with
    | zero => intro i  hrg hms; exfalso; omega
    | succ n9 ih4 =>
      intro i  hrg hms   H locs ls hW hS hl
      refine lv_iload_n F.1 F.2.1 dX5_allLetters_4 rfl (lv_at hl 1 rfl) ?_
      refine lv_aload_n F.1 F.2.1 dX5_allLetters_5 rfl (lv_at hl 2 rfl) ?_
      refine gf_RX5_56 F hW hO rfl dX5_allLetters_6 ?_
      refine h_icge (tgt := 29) F dX5_allLetters_9 (by decide) (by omega) (fun c1 => ?_) (fun c1 => ?_)
      · refine lv_iload_n F.1 F.2.1 dX5_allLetters_29 rfl (lv_at hl 0 rfl) ?_
        refine h_top (show (sm (fun z => cp σ z 0) 0 i : Int) = sm (fun z => cp σ z 0) 0 (σ 5) from by rw [show i = σ 5 by omega]) ?_
        exact h_ireti F hr hlk hW hS rfl dX5_allLetters_30
      · refine lv_iload_n F.1 F.2.1 dX5_allLetters_12 rfl (lv_at hl 0 rfl) ?_
        refine lv_aload_n F.1 F.2.1 dX5_allLetters_13 rfl (lv_at hl 2 rfl) ?_
        refine lv_iload_n F.1 F.2.1 dX5_allLetters_14 rfl (lv_at hl 1 rfl) ?_
        refine cl_RX5_78 (As := [.int (iI i)]) (rest := [.int (iI (sm (fun z => cp σ z 0) 0 i))]) F hl (c_X5_captionAt l X w a σ i hA hwf (by omega)) hW hS hO rfl rfl ⟨Nat.le_of_ble_eq_true rfl, Nat.le_of_ble_eq_true rfl⟩ (Nat.le_of_ble_eq_true rfl) ⟨Nat.zero_le _, Nat.zero_le _⟩ dX5_allLetters_15 (fun w1 H locs hp2 hW hS => ?_)
        rw [hp2] at hW; clear hp2; clear w1
        have hqk3 := hA.cap i (by omega) (by omega)
        have hqok3 := hqk3.o
        have hokk3 := hwf.2.2.1 i (by omega) (by omega)
        refine gf_RX5_93 F hW hqok3 rfl dX5_allLetters_18 ?_
        refine h_iadd (a := sm (fun z => cp σ z 0) 0 i) (b := cp σ i 0) F dX5_allLetters_21 ?_
        refine lv_istore_n (lv' := [(1, .int (iI ((sm (fun z => cp σ z 0) 0 i) + (cp σ i 0)))), (2, .int (iI i)), (0, .ref a)]) F.1 F.2.1 dX5_allLetters_22 rfl hl (by decide) rfl (fun ls hl => ?_)
        refine h_iinc (k := 1) (a := i) (lv' := [(2, .int (iI (i + 1))), (1, .int (iI ((sm (fun z => cp σ z 0) 0 i) + (cp σ i 0)))), (0, .ref a)]) F dX5_allLetters_23 hl rfl (by decide) rfl (fun ls hl => ?_)
        refine h_goto (tgt := 4) F dX5_allLetters_26 (by decide) ?_
        have eq4 : (sm (fun z => cp σ z 0) 0 (i + 1) : Int) = (sm (fun z => cp σ z 0) 0 i) + (cp σ i 0) := sm_s _ (by omega)
        have eq5 : ((i + 1) : Int) = i + 1 := by first | rfl | omega | simp
        exact ih4 (i + 1)  (by omega) (by omega)   _ _ ls hW hS (by rw [eq4, eq5]; exact lv_sub hl [1, 0, 2] rfl)
  have eq6 : (sm (fun z => cp σ z 0) 0 0 : Int) = 0 := (sm_0 _ _)
  exact loop4 ((σ 5 - 0) + 1 : Int).toNat 0  (by omega) (by omega)   _ _ ls hW hS (by rw [eq6]; exact lv_sub hl [1, 0, 2] rfl)
set_option maxHeartbeats 4000000 in
set_option maxRecDepth 100000 in
theorem c_X5_holds (l : Launch) (X : Cx) (w : Wo) (a : Nat) (σ : Int → Int) (q : Nat) (n sd x y co : Int) (f : Int → Int) (hA : lmA X w a σ) (hwf : WF σ) (hv : capV X w q n sd x y co f) (hn : 1 ≤ n ∧ n ≤ 8) (hx : -2147483648 ≤ x ∧ x < 2147483648) (hy : -2147483648 ≤ y ∧ y < 2147483648) : CM l X yX5_holds cX5_holds 2 (some (.boolean)) (rmk 1 20) [.ref a, .ref q] w (some (.int (iI (bz (liesS σ n x y))))) (fun w' => w' = w) := by
  refine CM.of (lv := [(0, .ref a), (1, .ref q)]) (by decide) (Nat.le_of_ble_eq_true rfl) rfl (fun p e s m below meth c ls F hr hlk hin hW hS hl => ?_)
  have hZ0 := hW.2.2
  have hB9 := hW.1.2
  clear hin
  have hO := hA.o
  have hg1 := hA.g1
  have hg3 := hA.g3
  have hF := hwf.1
  unfold WF0 at hF
  refine lv_aload_n F.1 F.2.1 dX5_holds_0 rfl (lv_at hl 1 rfl) ?_
  refine gf_RX5_96 F hW hv.1 rfl dX5_holds_1 ?_
  refine h_iflt (tgt := 47) F dX5_holds_4 (by decide) (by omega) (fun c1 => ?_) (fun c1 => ?_)
  · refine h_iconst F dX5_holds_47 ?_
    refine h_top (show (0 : Int) = bz (liesS σ n x y) from by first | exact bzt (decide_eq_true (by omega)) | exact bzf (decide_eq_false (by omega))) ?_
    exact h_iretz F hr hlk hW hS rfl dX5_holds_48
  · refine lv_aload_n F.1 F.2.1 dX5_holds_7 rfl (lv_at hl 1 rfl) ?_
    refine gf_RX5_96 F hW hv.1 rfl dX5_holds_8 ?_
    refine lv_aload_n F.1 F.2.1 dX5_holds_11 rfl (lv_at hl 0 rfl) ?_
    refine gf_RX5_40 F hW hO rfl dX5_holds_12 ?_
    refine lv_aload_n F.1 F.2.1 dX5_holds_15 rfl (lv_at hl 1 rfl) ?_
    refine cl_RX5_99 (As := []) (rest := [.int (iI (σ 0)), .int (iI x)]) F hl (c_X1_boxWidth l X w q n sd x y co f hv) hW hS hv.1 rfl rfl ⟨Nat.le_of_ble_eq_true rfl, Nat.le_of_ble_eq_true rfl⟩ (Nat.le_of_ble_eq_true rfl) ⟨Nat.zero_le _, Nat.zero_le _⟩ dX5_holds_16 (fun w1 H locs hp2 hW hS => ?_)
    rw [hp2] at hW; clear hp2; clear w1
    refine h_isub (a := σ 0) (b := 4 * n - 1) F dX5_holds_19 ?_
    refine h_icgt (tgt := 47) F dX5_holds_20 (by decide) (by omega) (fun c3 => ?_) (fun c3 => ?_)
    · refine h_iconst F dX5_holds_47 ?_
      refine h_top (show (0 : Int) = bz (liesS σ n x y) from by first | exact bzt (decide_eq_true (by omega)) | exact bzf (decide_eq_false (by omega))) ?_
      exact h_iretz F hr hlk hW hS rfl dX5_holds_48
    · refine lv_aload_n F.1 F.2.1 dX5_holds_23 rfl (lv_at hl 1 rfl) ?_
      refine gf_RX5_103 F hW hv.1 rfl dX5_holds_24 ?_
      refine h_iflt (tgt := 47) F dX5_holds_27 (by decide) (by omega) (fun c4 => ?_) (fun c4 => ?_)
      · refine h_iconst F dX5_holds_47 ?_
        refine h_top (show (0 : Int) = bz (liesS σ n x y) from by first | exact bzt (decide_eq_true (by omega)) | exact bzf (decide_eq_false (by omega))) ?_
        exact h_iretz F hr hlk hW hS rfl dX5_holds_48
      · refine lv_aload_n F.1 F.2.1 dX5_holds_30 rfl (lv_at hl 1 rfl) ?_
        refine gf_RX5_103 F hW hv.1 rfl dX5_holds_31 ?_
        refine lv_aload_n F.1 F.2.1 dX5_holds_34 rfl (lv_at hl 0 rfl) ?_
        refine gf_RX5_44 F hW hO rfl dX5_holds_35 ?_
        refine h_iconst F dX5_holds_38 ?_
        refine h_isub (a := σ 1) (b := 5) F dX5_holds_39 ?_
        refine h_icgt (tgt := 47) F dX5_holds_40 (by decide) (by omega) (fun c5 => ?_) (fun c5 => ?_)
        · refine h_iconst F dX5_holds_47 ?_
          refine h_top (show (0 : Int) = bz (liesS σ n x y) from by first | exact bzt (decide_eq_true (by omega)) | exact bzf (decide_eq_false (by omega))) ?_
          exact h_iretz F hr hlk hW hS rfl dX5_holds_48
        · refine h_iconst F dX5_holds_43 ?_
          refine h_goto (tgt := 48) F dX5_holds_44 (by decide) ?_
          refine h_top (show (1 : Int) = bz (liesS σ n x y) from by first | exact bzt (decide_eq_true (by omega)) | exact bzf (decide_eq_false (by omega))) ?_
          exact h_iretz F hr hlk hW hS rfl dX5_holds_48
set_option maxHeartbeats 4000000 in
set_option maxRecDepth 100000 in
theorem c_X5_isFree (l : Launch) (X : Cx) (w : Wo) (a : Nat) (σ : Int → Int) (q : Nat) (n sd x y co : Int) (f : Int → Int) (bu : Int) (hA : lmA X w a σ) (hwf : WF σ) (hv : capV X w q n sd x y co f) (hn : 1 ≤ n ∧ n ≤ 8) (hsd : sd = 0 ∨ sd = 1) (hx : 0 ≤ x ∧ x + 4 * n - 1 ≤ σ 0) (hy : 0 ≤ y ∧ y + 5 ≤ σ 1) (hb : -1 ≤ bu ∧ bu ≤ 8) : CM l X yX5_isFree cX5_isFree 4 (some (.boolean)) (rmk 2 43) [.ref a, .ref q, .int (iI bu)] w (some (.int (iI (bz (!(meetS σ n sd x y bu)))))) (fun w' => w' = w) := by
  refine CM.of (lv := [(0, .ref a), (1, .ref q), (2, .int (iI bu))]) (by decide) (Nat.le_of_ble_eq_true rfl) rfl (fun p e s m below meth c ls F hr hlk hin hW hS hl => ?_)
  have hZ0 := hW.2.2
  have hB9 := hW.1.2
  clear hin
  have hO := hA.o
  have hg1 := hA.g1
  have hg3 := hA.g3
  have hF := hwf.1
  unfold WF0 at hF
  refine h_iconst F dX5_isFree_0 ?_
  refine lv_istore_n (lv' := [(3, .int (iI 0)), (0, .ref a), (1, .ref q), (2, .int (iI bu))]) F.1 F.2.1 dX5_isFree_1 rfl hl (by decide) rfl (fun ls hl => ?_)
  have loop2 : ∀ (n9 : Nat) (i : Int), (hrg : 0 ≤ i ∧ i ≤ σ 5) → (hms : σ 5 - i < (n9 : Int)) → (hno : ∀ k, 0 ≤ k → k < i → (decide (k ≠ bu) && mtS σ n sd x y k) = false) → (H : Heap) → (locs : List Loc) → (ls : Array Slot) → Wd X w s H → va_S (cxA X) s.heap H locs → lv_has ls 4 [(3, .int (iI i)), (0, .ref a), (1, .ref q), (2, .int (iI bu))] → W p l e (rmk 2 43) s m (List.toArray [.ref a, .ref q, .int (iI bu)]) below meth c H locs 0 0 (MX X below (List.toArray [.ref a, .ref q, .int (iI bu)]) s 0 0 (some (.int (iI (bz (!(meetS σ n sd x y bu)))))) (fun w' => w' = w)) (F0 m 2 ls []) := by
    intro n9
    induction n9 with
    | zero => intro i  hrg hms; exfalso; omega
    | succ n9 ih2 =>
      intro i  hrg hms  hno H locs ls hW hS hl
      refine lv_iload_n F.1 F.2.1 dX5_isFree_2 rfl (lv_at hl 0 rfl) ?_
      refine lv_aload_n F.1 F.2.1 dX5_isFree_3 rfl (lv_at hl 1 rfl) ?_
      refine gf_RX5_56 F hW hO rfl dX5_isFree_4 ?_
      refine h_icge (tgt := 39) F dX5_isFree_7 (by decide) (by omega) (fun c1 => ?_) (fun c1 => ?_)
      · refine h_iconst F dX5_isFree_39 ?_
        refine h_top (show (1 : Int) = bz (!(meetS σ n sd x y bu)) from bzt (by unfold meetS; rw [Bool.not_eq_true']; exact ex_f.mpr (fun k h1 h2 => hno k h1 (by omega)))) ?_
        exact h_iretz F hr hlk hW hS rfl dX5_isFree_40
      · refine lv_iload_n F.1 F.2.1 dX5_isFree_10 rfl (lv_at hl 0 rfl) ?_
        refine lv_iload_n F.1 F.2.1 dX5_isFree_11 rfl (lv_at hl 3 rfl) ?_
        refine h_iceq (tgt := 33) F dX5_isFree_12 (by decide) (by omega) (fun c2 => ?_) (fun c2 => ?_)
        · refine h_iinc (k := 0) (a := i) (lv' := [(3, .int (iI (i + 1))), (0, .ref a), (1, .ref q), (2, .int (iI bu))]) F dX5_isFree_33 hl rfl (by decide) rfl (fun ls hl => ?_)
          refine h_goto (tgt := 2) F dX5_isFree_36 (by decide) ?_
          have eq3 : ((i + 1) : Int) = i + 1 := by first | rfl | omega | simp
          exact ih2 (i + 1)  (by omega) (by omega)  (fun k h1 h2 => (by by_cases hj : k = i; (rw [hj]; first | (rw [decide_eq_false (by omega)]; rfl) | (rw [‹mtS σ n sd x y i = false›]; simp)); exact hno k h1 (by omega))) _ _ ls hW hS (by rw [eq3]; exact lv_sub hl [0, 1, 2, 3] rfl)
        · refine lv_aload_n F.1 F.2.1 dX5_isFree_15 rfl (lv_at hl 2 rfl) ?_
          refine lv_aload_n F.1 F.2.1 dX5_isFree_16 rfl (lv_at hl 1 rfl) ?_
          refine lv_iload_n F.1 F.2.1 dX5_isFree_17 rfl (lv_at hl 0 rfl) ?_
          refine cl_RX5_78 (As := [.int (iI i)]) (rest := [.ref q]) F hl (c_X5_captionAt l X w a σ i hA hwf (by omega)) hW hS hO rfl rfl ⟨Nat.le_of_ble_eq_true rfl, Nat.le_of_ble_eq_true rfl⟩ (Nat.le_of_ble_eq_true rfl) ⟨Nat.zero_le _, Nat.zero_le _⟩ dX5_isFree_18 (fun w1 H locs hp4 hW hS => ?_)
          rw [hp4] at hW; clear hp4; clear w1
          have hqk5 := hA.cap i (by omega) (by omega)
          have hqok5 := hqk5.o
          have hokk5 := hwf.2.2.1 i (by omega) (by omega)
          refine lv_aload_n F.1 F.2.1 dX5_isFree_21 rfl (lv_at hl 1 rfl) ?_
          refine gf_RX5_40 F hW hO rfl dX5_isFree_22 ?_
          obtain ⟨fk, hvk, hfk⟩ := hA.cap i (by omega) (by omega)
          obtain ⟨m1, m2, m3, m4, m5, m6⟩ := hwf.2.2.1 i (by omega) (by omega)
          refine cl_RX5_106 (As := [.ref (a + 9 + 2 * i.toNat), .int (iI (σ 0))]) (rest := []) F hl (c_X1_meets l X w q (a + 9 + 2 * i.toNat) n sd x y co f (cp σ i 0) (cp σ i 1) (cp σ i 2) (cp σ i 3) (cp σ i 4) fk (σ 0) hv hvk (by omega)) hW hS hv.1 rfl rfl ⟨Nat.le_of_ble_eq_true rfl, Nat.le_of_ble_eq_true rfl⟩ (Nat.le_of_ble_eq_true rfl) ⟨Nat.zero_le _, Nat.zero_le _⟩ dX5_isFree_25 (fun w1 H locs hp6 hW hS => ?_)
          rw [hp6] at hW; clear hp6; clear w1
          refine h_top (show (bz (decide (x < (if sd = (cp σ i 1) then (cp σ i 2) else (σ 0) - (cp σ i 2) - (4 * (cp σ i 0) - 1)) + (4 * (cp σ i 0) - 1) ∧ (if sd = (cp σ i 1) then (cp σ i 2) else (σ 0) - (cp σ i 2) - (4 * (cp σ i 0) - 1)) < x + (4 * n - 1) ∧ y < (cp σ i 3) + 5 ∧ (cp σ i 3) < y + 5)) : Int) = bz (mtS σ n sd x y i) from congrArg bz (mt_eq hn hsd m2)) ?_
          refine h_ifeqb (tgt := 33) F dX5_isFree_28 (by decide) (fun c7 => ?_) (fun c7 => ?_)
          · refine h_iinc (k := 0) (a := i) (lv' := [(3, .int (iI (i + 1))), (0, .ref a), (1, .ref q), (2, .int (iI bu))]) F dX5_isFree_33 hl rfl (by decide) rfl (fun ls hl => ?_)
            refine h_goto (tgt := 2) F dX5_isFree_36 (by decide) ?_
            have eq8 : ((i + 1) : Int) = i + 1 := by first | rfl | omega | simp
            exact ih2 (i + 1)  (by omega) (by omega)  (fun k h1 h2 => (by by_cases hj : k = i; (rw [hj]; first | (rw [decide_eq_false (by omega)]; rfl) | (rw [‹mtS σ n sd x y i = false›]; simp)); exact hno k h1 (by omega))) _ _ ls hW hS (by rw [eq8]; exact lv_sub hl [0, 1, 2, 3] rfl)
          · refine h_iconst F dX5_isFree_31 ?_
            refine h_top (show (0 : Int) = bz (!(meetS σ n sd x y bu)) from bzf (by unfold meetS; rw [Bool.not_eq_false']; exact ex_t (i := i) (by omega) (by omega) (by rw [decide_eq_true (by omega)]; simpa using ‹mtS σ n sd x y i = true›))) ?_
            exact h_iretz F hr hlk hW hS rfl dX5_isFree_32
  exact loop2 ((σ 5 - 0) + 1 : Int).toNat 0  (by omega) (by omega)  (fun k h1 h2 => by omega) _ _ ls hW hS (lv_sub hl [0, 1, 2, 3] rfl)
set_option maxHeartbeats 4000000 in
set_option maxRecDepth 100000 in
theorem c_X5_columnOfBit (l : Launch) (X : Cx) (w : Wo) (a : Nat) (σ : Int → Int) (q : Nat) (k j : Int) (bt : Int) (hA : lmA X w a σ) (hwf : WF σ) (hq : capAt X w q σ k) (hok : capOK σ k) (hj : 0 ≤ j ∧ j < cp σ k 0) (hbt : 0 ≤ bt ∧ bt ≤ 14) : CM l X yX5_columnOfBit cX5_columnOfBit 5 (some (.int)) (rmk 1 21) [.ref a, .ref q, .int (iI j), .int (iI bt)] w (some (.int (iI (capCol σ k (cp σ k 2 + 4 * j + (14 - bt) % 3))))) (fun w' => w' = w) := by
  refine CM.of (lv := [(0, .ref a), (1, .ref q), (2, .int (iI j)), (3, .int (iI bt))]) (by decide) (Nat.le_of_ble_eq_true rfl) rfl (fun p e s m below meth c ls F hr hlk hin hW hS hl => ?_)
  have hZ0 := hW.2.2
  have hB9 := hW.1.2
  clear hin
  have hO := hA.o
  have hg1 := hA.g1
  have hg3 := hA.g3
  have hF := hwf.1
  unfold WF0 at hF
  have hqo := hq.o
  have hok0 := hok
  obtain ⟨m1, m2, m3, m4, m5, m6⟩ := hok0
  have hwf0 := hwf.1
  refine lv_aload_n F.1 F.2.1 dX5_columnOfBit_0 rfl (lv_at hl 1 rfl) ?_
  refine gf_RX5_96 F hW hqo rfl dX5_columnOfBit_1 ?_
  refine h_iconst F dX5_columnOfBit_4 ?_
  refine lv_iload_n F.1 F.2.1 dX5_columnOfBit_5 rfl (lv_at hl 2 rfl) ?_
  refine h_imul (a := 4) (b := j) F dX5_columnOfBit_6 ?_
  refine h_iadd (a := cp σ k 2) (b := 4 * j) F dX5_columnOfBit_7 ?_
  refine h_bipush F dX5_columnOfBit_8 rfl ?_
  refine lv_iload_n F.1 F.2.1 dX5_columnOfBit_10 rfl (lv_at hl 3 rfl) ?_
  refine h_isub (a := 14) (b := bt) F dX5_columnOfBit_11 ?_
  refine h_iconst F dX5_columnOfBit_12 ?_
  refine h_irem F dX5_columnOfBit_13 (by omega) ?_
  refine h_iadd (a := (cp σ k 2) + (4 * j)) (b := (14 - bt) % 3) F dX5_columnOfBit_14 ?_
  refine lv_istore (lv' := [(4, .int (iI (((cp σ k 2) + (4 * j)) + ((14 - bt) % 3)))), (0, .ref a), (1, .ref q), (2, .int (iI j)), (3, .int (iI bt))]) F.1 F.2.1 dX5_columnOfBit_15 hl (by decide) rfl (fun ls hl => ?_)
  refine lv_aload_n F.1 F.2.1 dX5_columnOfBit_17 rfl (lv_at hl 2 rfl) ?_
  refine gf_RX5_133 F hW hqo rfl dX5_columnOfBit_18 ?_
  refine h_ifne (tgt := 29) F dX5_columnOfBit_21 (by decide) (by omega) (fun c1 => ?_) (fun c1 => ?_)
  · refine lv_aload_n F.1 F.2.1 dX5_columnOfBit_29 rfl (lv_at hl 1 rfl) ?_
    refine lv_iload F.1 F.2.1 dX5_columnOfBit_30 (lv_at hl 0 rfl) ?_
    refine cl_RX5_136 (As := [.int (iI (((cp σ k 2) + (4 * j)) + ((14 - bt) % 3)))]) (rest := []) F hl (c_X5_turned l X w a σ (((cp σ k 2) + (4 * j)) + ((14 - bt) % 3)) hA hwf) hW hS hO rfl rfl ⟨Nat.le_of_ble_eq_true rfl, Nat.le_of_ble_eq_true rfl⟩ (Nat.le_of_ble_eq_true rfl) ⟨Nat.zero_le _, Nat.zero_le _⟩ dX5_columnOfBit_32 (fun w1 H locs hp2 hW hS => ?_)
    rw [hp2] at hW; clear hp2; clear w1
    refine h_top (show (turnS σ (((cp σ k 2) + (4 * j)) + ((14 - bt) % 3)) : Int) = capCol σ k (cp σ k 2 + 4 * j + (14 - bt) % 3) from by unfold capCol; split <;> first | rfl | omega) ?_
    exact h_ireti F hr hlk hW hS rfl dX5_columnOfBit_35
  · refine lv_iload F.1 F.2.1 dX5_columnOfBit_24 (lv_at hl 0 rfl) ?_
    refine h_goto (tgt := 35) F dX5_columnOfBit_26 (by decide) ?_
    refine h_top (show (((cp σ k 2) + (4 * j)) + ((14 - bt) % 3) : Int) = capCol σ k (cp σ k 2 + 4 * j + (14 - bt) % 3) from by unfold capCol; split <;> first | rfl | omega) ?_
    exact h_ireti F hr hlk hW hS rfl dX5_columnOfBit_35
set_option maxHeartbeats 4000000 in
set_option maxRecDepth 100000 in
theorem c_X5_rowOfBit (l : Launch) (X : Cx) (w : Wo) (a : Nat) (σ : Int → Int) (q : Nat) (k : Int) (bt : Int) (hA : lmA X w a σ) (hwf : WF σ) (hq : capAt X w q σ k) (hok : capOK σ k) (hbt : 0 ≤ bt ∧ bt ≤ 14) : CM l X yX5_rowOfBit cX5_rowOfBit 3 (some (.int)) (rmk 0 0) [.ref a, .ref q, .int (iI bt)] w (some (.int (iI (cp σ k 3 + bt / 3)))) (fun w' => w' = w) := by
  refine CM.of (lv := [(0, .ref a), (1, .ref q), (2, .int (iI bt))]) (by decide) (Nat.le_of_ble_eq_true rfl) rfl (fun p e s m below meth c ls F hr hlk hin hW hS hl => ?_)
  have hZ0 := hW.2.2
  have hB9 := hW.1.2
  clear hin
  have hO := hA.o
  have hg1 := hA.g1
  have hg3 := hA.g3
  have hF := hwf.1
  unfold WF0 at hF
  have hqo := hq.o
  have hok0 := hok
  obtain ⟨m1, m2, m3, m4, m5, m6⟩ := hok0
  have hwf0 := hwf.1
  refine lv_aload_n F.1 F.2.1 dX5_rowOfBit_0 rfl (lv_at hl 1 rfl) ?_
  refine gf_RX5_103 F hW hqo rfl dX5_rowOfBit_1 ?_
  refine lv_iload_n F.1 F.2.1 dX5_rowOfBit_4 rfl (lv_at hl 2 rfl) ?_
  refine h_iconst F dX5_rowOfBit_5 ?_
  refine h_idiv F dX5_rowOfBit_6 (by omega) ?_
  refine h_iadd (a := cp σ k 3) (b := bt / 3) F dX5_rowOfBit_7 ?_
  refine h_top (show ((cp σ k 3) + (bt / 3) : Int) = cp σ k 3 + bt / 3 from by first | rfl | omega | (simp_all; done)) ?_
  exact h_ireti F hr hlk hW hS rfl dX5_rowOfBit_8
set_option maxHeartbeats 4000000 in
set_option maxRecDepth 100000 in
theorem c_X5_picture (l : Launch) (X : Cx) (w : Wo) (a : Nat) (σ : Int → Int) (q : Nat) (k j : Int) (hL : loomAt X w a σ) (hq : capAt X w q σ k) (hok : capOK σ k) (hj : 0 ≤ j ∧ j < cp σ k 0) : CM l X yX5_picture cX5_picture 6 (some (.int)) (rmk 2 46) [.ref a, .ref q, .int (iI j)] w (some (.int (iI (picS σ k j false)))) (fun w' => w' = w) := by
  refine CM.of (lv := [(0, .ref a), (1, .ref q), (2, .int (iI j))]) (by decide) (Nat.le_of_ble_eq_true rfl) rfl (fun p e s m below meth c ls F hr hlk hin hW hS hl => ?_)
  have hZ0 := hW.2.2
  have hB9 := hW.1.2
  clear hin
  have hA := hL.1
  have hwf := hL.2.2
  have hO := hA.o
  have hg1 := hA.g1
  have hg3 := hA.g3
  have hF := hwf.1
  unfold WF0 at hF
  have hqo := hq.o
  have hok0 := hok
  obtain ⟨m1, m2, m3, m4, m5, m6⟩ := hok0
  have hwf0 := hwf.1
  refine h_iconst F dX5_picture_0 ?_
  refine lv_istore_n (lv' := [(3, .int (iI 0)), (0, .ref a), (1, .ref q), (2, .int (iI j))]) F.1 F.2.1 dX5_picture_1 rfl hl (by decide) rfl (fun ls hl => ?_)
  refine h_bipush F dX5_picture_2 rfl ?_
  refine lv_istore (lv' := [(4, .int (iI 14)), (3, .int (iI 0)), (0, .ref a), (1, .ref q), (2, .int (iI j))]) F.1 F.2.1 dX5_picture_4 hl (by decide) rfl (fun ls hl => ?_)
  have loop6 : ∀ (n9 : Nat) (i : Int), (hrg : 0 ≤ i ∧ i ≤ 15) → (hms : 15 - i < (n9 : Int)) → (H : Heap) → (locs : List Loc) → (ls : Array Slot) → Wd X w s H → va_S (cxA X) s.heap H locs → lv_has ls 6 [(3, .int (iI (bs (picB σ k j false) i))), (4, .int (iI (14 - i))), (0, .ref a), (1, .ref q), (2, .int (iI j))] → W p l e (rmk 2 46) s m (List.toArray [.ref a, .ref q, .int (iI j)]) below meth c H locs 0 0 (MX X below (List.toArray [.ref a, .ref q, .int (iI j)]) s 0 0 (some (.int (iI (picS σ k j false)))) (fun w' => w' = w)) (F0 m 6 ls []) := by
    intro n9
    induction n9 with
    | zero => intro i  hrg hms; exfalso; omega
    | succ n9 ih6 =>
      intro i  hrg hms   H locs ls hW hS hl
      refine lv_iload F.1 F.2.1 dX5_picture_6 (lv_at hl 1 rfl) ?_
      refine h_iflt (tgt := 60) F dX5_picture_8 (by decide) (by omega) (fun c1 => ?_) (fun c1 => ?_)
      · refine lv_iload_n F.1 F.2.1 dX5_picture_60 rfl (lv_at hl 0 rfl) ?_
        refine h_top (show (bs (picB σ k j false) i : Int) = picS σ k j false from by rw [show i = 15 by omega]; rfl) ?_
        exact h_ireti F hr hlk hW hS rfl dX5_picture_61
      · refine lv_aload_n F.1 F.2.1 dX5_picture_11 rfl (lv_at hl 2 rfl) ?_
        refine gf_RX5_12 F hW hO rfl dX5_picture_12 ?_
        refine lv_aload_n F.1 F.2.1 dX5_picture_15 rfl (lv_at hl 2 rfl) ?_
        refine lv_aload_n F.1 F.2.1 dX5_picture_16 rfl (lv_at hl 3 rfl) ?_
        refine lv_iload_n F.1 F.2.1 dX5_picture_17 rfl (lv_at hl 4 rfl) ?_
        refine lv_iload F.1 F.2.1 dX5_picture_18 (lv_at hl 1 rfl) ?_
        refine cl_RX5_118 (As := [.ref q, .int (iI j), .int (iI (14 - i))]) (rest := [.ref (a + 1)]) F hl (c_X5_columnOfBit l X w a σ q k j (14 - i) hA hwf hq hok (by omega) (by omega)) hW hS hO rfl rfl ⟨Nat.le_of_ble_eq_true rfl, Nat.le_of_ble_eq_true rfl⟩ (Nat.le_of_ble_eq_true rfl) ⟨Nat.zero_le _, Nat.zero_le _⟩ dX5_picture_20 (fun w1 H locs hp2 hW hS => ?_)
        rw [hp2] at hW; clear hp2; clear w1
        refine h_top (show (capCol σ k (cp σ k 2 + 4 * j + (14 - (14 - i)) % 3) : Int) = capCol σ k (cp σ k 2 + 4 * j + i % 3) from by rw [show 14 - (14 - i) = i by omega]) ?_
        refine lv_aload_n F.1 F.2.1 dX5_picture_23 rfl (lv_at hl 2 rfl) ?_
        refine lv_aload_n F.1 F.2.1 dX5_picture_24 rfl (lv_at hl 3 rfl) ?_
        refine lv_iload F.1 F.2.1 dX5_picture_25 (lv_at hl 1 rfl) ?_
        refine cl_RX5_122 (As := [.ref q, .int (iI (14 - i))]) (rest := [.int (iI (capCol σ k (cp σ k 2 + 4 * j + i % 3))), .ref (a + 1)]) F hl (c_X5_rowOfBit l X w a σ q k (14 - i) hA hwf hq hok (by omega)) hW hS hO rfl rfl ⟨Nat.le_of_ble_eq_true rfl, Nat.le_of_ble_eq_true rfl⟩ (Nat.le_of_ble_eq_true rfl) ⟨Nat.zero_le _, Nat.zero_le _⟩ dX5_picture_27 (fun w1 H locs hp3 hW hS => ?_)
        rw [hp3] at hW; clear hp3; clear w1
        refine h_top (show (cp σ k 3 + (14 - i) / 3 : Int) = cp σ k 3 + (4 - i / 3) from by omega) ?_
        have hcc := capCol_r (j := j) (o := i % 3) hwf hok (by omega) (by omega)
        have hce := hwf.2.2.2.1 (capCol σ k (cp σ k 2 + 4 * j + i % 3)) (cp σ k 3 + (4 - i / 3)) (by omega) (by omega) (by omega) (by omega)
        refine cl_RX5_139 (As := [.int (iI (capCol σ k (cp σ k 2 + 4 * j + i % 3))), .int (iI (cp σ k 3 + (4 - i / 3)))]) (rest := []) F hl (c_get_cl l X w a σ (capCol σ k (cp σ k 2 + 4 * j + i % 3)) (cp σ k 3 + (4 - i / 3)) hA hwf (by omega)) hW hS hg1 rfl rfl ⟨Nat.le_of_ble_eq_true rfl, Nat.le_of_ble_eq_true rfl⟩ (Nat.le_of_ble_eq_true rfl) ⟨Nat.zero_le _, Nat.zero_le _⟩ dX5_picture_30 (fun w1 H locs hp4 hW hS => ?_)
        rw [hp4] at hW; clear hp4; clear w1
        refine lv_istore (lv' := [(5, .int (iI (cellS σ (capCol σ k (cp σ k 2 + 4 * j + i % 3)) (cp σ k 3 + (4 - i / 3))))), (3, .int (iI (bs (picB σ k j false) i))), (4, .int (iI (14 - i))), (0, .ref a), (1, .ref q), (2, .int (iI j))]) F.1 F.2.1 dX5_picture_33 hl (by decide) rfl (fun ls hl => ?_)
        refine h_iconst F dX5_picture_35 ?_
        refine lv_iload_n F.1 F.2.1 dX5_picture_36 rfl (lv_at hl 1 rfl) ?_
        refine h_imul (a := 2) (b := bs (picB σ k j false) i) F dX5_picture_37 ?_
        refine lv_iload F.1 F.2.1 dX5_picture_38 (lv_at hl 0 rfl) ?_
        refine lv_aload_n F.1 F.2.1 dX5_picture_40 rfl (lv_at hl 4 rfl) ?_
        refine gf_RX5_126 F hW hqo rfl dX5_picture_41 ?_
        refine h_icne (tgt := 51) F dX5_picture_44 (by decide) (by omega) (fun c5 => ?_) (fun c5 => ?_)
        · refine h_iconst F dX5_picture_51 ?_
          refine h_iadd (a := 2 * (bs (picB σ k j false) i)) (b := 0) F dX5_picture_52 ?_
          refine lv_istore_n (lv' := [(3, .int (iI ((2 * (bs (picB σ k j false) i)) + 0))), (5, .int (iI (cellS σ (capCol σ k (cp σ k 2 + 4 * j + i % 3)) (cp σ k 3 + (4 - i / 3))))), (4, .int (iI (14 - i))), (0, .ref a), (1, .ref q), (2, .int (iI j))]) F.1 F.2.1 dX5_picture_53 rfl hl (by decide) rfl (fun ls hl => ?_)
          refine h_iinc (k := 2) (a := 14 - i) (lv' := [(4, .int (iI ((14 - i) + (-1)))), (3, .int (iI ((2 * (bs (picB σ k j false) i)) + 0))), (5, .int (iI (cellS σ (capCol σ k (cp σ k 2 + 4 * j + i % 3)) (cp σ k 3 + (4 - i / 3))))), (0, .ref a), (1, .ref q), (2, .int (iI j))]) F dX5_picture_54 hl rfl (by decide) rfl (fun ls hl => ?_)
          refine h_goto (tgt := 6) F dX5_picture_57 (by decide) ?_
          have eq6 : (bs (picB σ k j false) (i + 1) : Int) = (2 * (bs (picB σ k j false) i)) + 0 := by rw [bs_s _ (by omega)]; have hb : picB σ k j false i = decide (_ = _) := rfl; first | (rw [hb, decide_eq_true ‹_›]; rfl) | (rw [hb, decide_eq_false ‹_›]; rfl)
          have eq7 : (14 - (i + 1) : Int) = (14 - i) + (-1) := by first | rfl | omega | simp
          exact ih6 (i + 1)  (by omega) (by omega)   _ _ ls hW hS (by rw [eq6, eq7]; exact lv_sub hl [1, 0, 3, 4, 5] rfl)
        · refine h_iconst F dX5_picture_47 ?_
          refine h_goto (tgt := 52) F dX5_picture_48 (by decide) ?_
          refine h_iadd (a := 2 * (bs (picB σ k j false) i)) (b := 1) F dX5_picture_52 ?_
          refine lv_istore_n (lv' := [(3, .int (iI ((2 * (bs (picB σ k j false) i)) + 1))), (5, .int (iI (cellS σ (capCol σ k (cp σ k 2 + 4 * j + i % 3)) (cp σ k 3 + (4 - i / 3))))), (4, .int (iI (14 - i))), (0, .ref a), (1, .ref q), (2, .int (iI j))]) F.1 F.2.1 dX5_picture_53 rfl hl (by decide) rfl (fun ls hl => ?_)
          refine h_iinc (k := 2) (a := 14 - i) (lv' := [(4, .int (iI ((14 - i) + (-1)))), (3, .int (iI ((2 * (bs (picB σ k j false) i)) + 1))), (5, .int (iI (cellS σ (capCol σ k (cp σ k 2 + 4 * j + i % 3)) (cp σ k 3 + (4 - i / 3))))), (0, .ref a), (1, .ref q), (2, .int (iI j))]) F dX5_picture_54 hl rfl (by decide) rfl (fun ls hl => ?_)
          refine h_goto (tgt := 6) F dX5_picture_57 (by decide) ?_
          have eq8 : (bs (picB σ k j false) (i + 1) : Int) = (2 * (bs (picB σ k j false) i)) + 1 := by rw [bs_s _ (by omega)]; have hb : picB σ k j false i = decide (_ = _) := rfl; first | (rw [hb, decide_eq_true ‹_›]; rfl) | (rw [hb, decide_eq_false ‹_›]; rfl)
          have eq9 : (14 - (i + 1) : Int) = (14 - i) + (-1) := by first | rfl | omega | simp
          exact ih6 (i + 1)  (by omega) (by omega)   _ _ ls hW hS (by rw [eq8, eq9]; exact lv_sub hl [1, 0, 3, 4, 5] rfl)
  have eq10 : (bs (picB σ k j false) 0 : Int) = 0 := rfl
  have eq11 : (14 - 0 : Int) = 14 := by omega
  exact loop6 ((15 - 0) + 1 : Int).toNat 0  (by omega) (by omega)   _ _ ls hW hS (by rw [eq10, eq11]; exact lv_sub hl [1, 0, 2, 3, 4] rfl)
set_option maxHeartbeats 4000000 in
set_option maxRecDepth 100000 in
theorem c_X5_ghost (l : Launch) (X : Cx) (w : Wo) (a : Nat) (σ : Int → Int) (q : Nat) (k j : Int) (hL : loomAt X w a σ) (hq : capAt X w q σ k) (hok : capOK σ k) (hj : 0 ≤ j ∧ j < cp σ k 0) : CM l X yX5_ghost cX5_ghost 6 (some (.int)) (rmk 2 46) [.ref a, .ref q, .int (iI j)] w (some (.int (iI (picS σ k j true)))) (fun w' => w' = w) := by
  refine CM.of (lv := [(0, .ref a), (1, .ref q), (2, .int (iI j))]) (by decide) (Nat.le_of_ble_eq_true rfl) rfl (fun p e s m below meth c ls F hr hlk hin hW hS hl => ?_)
  have hZ0 := hW.2.2
  have hB9 := hW.1.2
  clear hin
  have hA := hL.1
  have hwf := hL.2.2
  have hO := hA.o
  have hg1 := hA.g1
  have hg3 := hA.g3
  have hF := hwf.1
  unfold WF0 at hF
  have hqo := hq.o
  have hok0 := hok
  obtain ⟨m1, m2, m3, m4, m5, m6⟩ := hok0
  have hwf0 := hwf.1
  refine h_iconst F dX5_ghost_0 ?_
  refine lv_istore_n (lv' := [(3, .int (iI 0)), (0, .ref a), (1, .ref q), (2, .int (iI j))]) F.1 F.2.1 dX5_ghost_1 rfl hl (by decide) rfl (fun ls hl => ?_)
  refine h_bipush F dX5_ghost_2 rfl ?_
  refine lv_istore (lv' := [(4, .int (iI 14)), (3, .int (iI 0)), (0, .ref a), (1, .ref q), (2, .int (iI j))]) F.1 F.2.1 dX5_ghost_4 hl (by decide) rfl (fun ls hl => ?_)
  have loop6 : ∀ (n9 : Nat) (i : Int), (hrg : 0 ≤ i ∧ i ≤ 15) → (hms : 15 - i < (n9 : Int)) → (H : Heap) → (locs : List Loc) → (ls : Array Slot) → Wd X w s H → va_S (cxA X) s.heap H locs → lv_has ls 6 [(3, .int (iI (bs (picB σ k j true) i))), (4, .int (iI (14 - i))), (0, .ref a), (1, .ref q), (2, .int (iI j))] → W p l e (rmk 2 46) s m (List.toArray [.ref a, .ref q, .int (iI j)]) below meth c H locs 0 0 (MX X below (List.toArray [.ref a, .ref q, .int (iI j)]) s 0 0 (some (.int (iI (picS σ k j true)))) (fun w' => w' = w)) (F0 m 6 ls []) := by
    intro n9
    induction n9 with
    | zero => intro i  hrg hms; exfalso; omega
    | succ n9 ih6 =>
      intro i  hrg hms   H locs ls hW hS hl
      refine lv_iload F.1 F.2.1 dX5_ghost_6 (lv_at hl 1 rfl) ?_
      refine h_iflt (tgt := 64) F dX5_ghost_8 (by decide) (by omega) (fun c1 => ?_) (fun c1 => ?_)
      · refine lv_iload_n F.1 F.2.1 dX5_ghost_64 rfl (lv_at hl 0 rfl) ?_
        refine h_top (show (bs (picB σ k j true) i : Int) = picS σ k j true from by rw [show i = 15 by omega]; rfl) ?_
        exact h_ireti F hr hlk hW hS rfl dX5_ghost_65
      · refine lv_aload_n F.1 F.2.1 dX5_ghost_11 rfl (lv_at hl 2 rfl) ?_
        refine gf_RX5_12 F hW hO rfl dX5_ghost_12 ?_
        refine lv_aload_n F.1 F.2.1 dX5_ghost_15 rfl (lv_at hl 2 rfl) ?_
        refine lv_aload_n F.1 F.2.1 dX5_ghost_16 rfl (lv_at hl 2 rfl) ?_
        refine lv_aload_n F.1 F.2.1 dX5_ghost_17 rfl (lv_at hl 3 rfl) ?_
        refine lv_iload_n F.1 F.2.1 dX5_ghost_18 rfl (lv_at hl 4 rfl) ?_
        refine lv_iload F.1 F.2.1 dX5_ghost_19 (lv_at hl 1 rfl) ?_
        refine cl_RX5_118 (As := [.ref q, .int (iI j), .int (iI (14 - i))]) (rest := [.ref a, .ref (a + 1)]) F hl (c_X5_columnOfBit l X w a σ q k j (14 - i) hA hwf hq hok (by omega) (by omega)) hW hS hO rfl rfl ⟨Nat.le_of_ble_eq_true rfl, Nat.le_of_ble_eq_true rfl⟩ (Nat.le_of_ble_eq_true rfl) ⟨Nat.zero_le _, Nat.zero_le _⟩ dX5_ghost_21 (fun w1 H locs hp2 hW hS => ?_)
        rw [hp2] at hW; clear hp2; clear w1
        refine h_top (show (capCol σ k (cp σ k 2 + 4 * j + (14 - (14 - i)) % 3) : Int) = capCol σ k (cp σ k 2 + 4 * j + i % 3) from by rw [show 14 - (14 - i) = i by omega]) ?_
        refine cl_RX5_136 (As := [.int (iI (capCol σ k (cp σ k 2 + 4 * j + i % 3)))]) (rest := [.ref (a + 1)]) F hl (c_X5_turned l X w a σ (capCol σ k (cp σ k 2 + 4 * j + i % 3)) hA hwf) hW hS hO rfl rfl ⟨Nat.le_of_ble_eq_true rfl, Nat.le_of_ble_eq_true rfl⟩ (Nat.le_of_ble_eq_true rfl) ⟨Nat.zero_le _, Nat.zero_le _⟩ dX5_ghost_24 (fun w1 H locs hp3 hW hS => ?_)
        rw [hp3] at hW; clear hp3; clear w1
        refine lv_aload_n F.1 F.2.1 dX5_ghost_27 rfl (lv_at hl 2 rfl) ?_
        refine lv_aload_n F.1 F.2.1 dX5_ghost_28 rfl (lv_at hl 3 rfl) ?_
        refine lv_iload F.1 F.2.1 dX5_ghost_29 (lv_at hl 1 rfl) ?_
        refine cl_RX5_122 (As := [.ref q, .int (iI (14 - i))]) (rest := [.int (iI (turnS σ (capCol σ k (cp σ k 2 + 4 * j + i % 3)))), .ref (a + 1)]) F hl (c_X5_rowOfBit l X w a σ q k (14 - i) hA hwf hq hok (by omega)) hW hS hO rfl rfl ⟨Nat.le_of_ble_eq_true rfl, Nat.le_of_ble_eq_true rfl⟩ (Nat.le_of_ble_eq_true rfl) ⟨Nat.zero_le _, Nat.zero_le _⟩ dX5_ghost_31 (fun w1 H locs hp4 hW hS => ?_)
        rw [hp4] at hW; clear hp4; clear w1
        refine h_top (show (cp σ k 3 + (14 - i) / 3 : Int) = cp σ k 3 + (4 - i / 3) from by omega) ?_
        have hcc := capCol_r (j := j) (o := i % 3) hwf hok (by omega) (by omega)
        have htt : 0 ≤ turnS σ (capCol σ k (cp σ k 2 + 4 * j + i % 3)) ∧ turnS σ (capCol σ k (cp σ k 2 + 4 * j + i % 3)) < σ 0 := by unfold turnS; omega
        have hce := hwf.2.2.2.1 (turnS σ (capCol σ k (cp σ k 2 + 4 * j + i % 3))) (cp σ k 3 + (4 - i / 3)) (by omega) (by omega) (by omega) (by omega)
        refine cl_RX5_139 (As := [.int (iI (turnS σ (capCol σ k (cp σ k 2 + 4 * j + i % 3)))), .int (iI (cp σ k 3 + (4 - i / 3)))]) (rest := []) F hl (c_get_cl l X w a σ (turnS σ (capCol σ k (cp σ k 2 + 4 * j + i % 3))) (cp σ k 3 + (4 - i / 3)) hA hwf (by omega)) hW hS hg1 rfl rfl ⟨Nat.le_of_ble_eq_true rfl, Nat.le_of_ble_eq_true rfl⟩ (Nat.le_of_ble_eq_true rfl) ⟨Nat.zero_le _, Nat.zero_le _⟩ dX5_ghost_34 (fun w1 H locs hp5 hW hS => ?_)
        rw [hp5] at hW; clear hp5; clear w1
        refine lv_istore (lv' := [(5, .int (iI (cellS σ (turnS σ (capCol σ k (cp σ k 2 + 4 * j + i % 3))) (cp σ k 3 + (4 - i / 3))))), (3, .int (iI (bs (picB σ k j true) i))), (4, .int (iI (14 - i))), (0, .ref a), (1, .ref q), (2, .int (iI j))]) F.1 F.2.1 dX5_ghost_37 hl (by decide) rfl (fun ls hl => ?_)
        refine h_iconst F dX5_ghost_39 ?_
        refine lv_iload_n F.1 F.2.1 dX5_ghost_40 rfl (lv_at hl 1 rfl) ?_
        refine h_imul (a := 2) (b := bs (picB σ k j true) i) F dX5_ghost_41 ?_
        refine lv_iload F.1 F.2.1 dX5_ghost_42 (lv_at hl 0 rfl) ?_
        refine lv_aload_n F.1 F.2.1 dX5_ghost_44 rfl (lv_at hl 4 rfl) ?_
        refine gf_RX5_126 F hW hqo rfl dX5_ghost_45 ?_
        refine h_icne (tgt := 55) F dX5_ghost_48 (by decide) (by omega) (fun c6 => ?_) (fun c6 => ?_)
        · refine h_iconst F dX5_ghost_55 ?_
          refine h_iadd (a := 2 * (bs (picB σ k j true) i)) (b := 0) F dX5_ghost_56 ?_
          refine lv_istore_n (lv' := [(3, .int (iI ((2 * (bs (picB σ k j true) i)) + 0))), (5, .int (iI (cellS σ (turnS σ (capCol σ k (cp σ k 2 + 4 * j + i % 3))) (cp σ k 3 + (4 - i / 3))))), (4, .int (iI (14 - i))), (0, .ref a), (1, .ref q), (2, .int (iI j))]) F.1 F.2.1 dX5_ghost_57 rfl hl (by decide) rfl (fun ls hl => ?_)
          refine h_iinc (k := 2) (a := 14 - i) (lv' := [(4, .int (iI ((14 - i) + (-1)))), (3, .int (iI ((2 * (bs (picB σ k j true) i)) + 0))), (5, .int (iI (cellS σ (turnS σ (capCol σ k (cp σ k 2 + 4 * j + i % 3))) (cp σ k 3 + (4 - i / 3))))), (0, .ref a), (1, .ref q), (2, .int (iI j))]) F dX5_ghost_58 hl rfl (by decide) rfl (fun ls hl => ?_)
          refine h_goto (tgt := 6) F dX5_ghost_61 (by decide) ?_
          have eq7 : (bs (picB σ k j true) (i + 1) : Int) = (2 * (bs (picB σ k j true) i)) + 0 := by rw [bs_s _ (by omega)]; have hb : picB σ k j true i = decide (_ = _) := rfl; first | (rw [hb, decide_eq_true ‹_›]; rfl) | (rw [hb, decide_eq_false ‹_›]; rfl)
          have eq8 : (14 - (i + 1) : Int) = (14 - i) + (-1) := by first | rfl | omega | simp
          exact ih6 (i + 1)  (by omega) (by omega)   _ _ ls hW hS (by rw [eq7, eq8]; exact lv_sub hl [1, 0, 3, 4, 5] rfl)
        · refine h_iconst F dX5_ghost_51 ?_
          refine h_goto (tgt := 56) F dX5_ghost_52 (by decide) ?_
          refine h_iadd (a := 2 * (bs (picB σ k j true) i)) (b := 1) F dX5_ghost_56 ?_
          refine lv_istore_n (lv' := [(3, .int (iI ((2 * (bs (picB σ k j true) i)) + 1))), (5, .int (iI (cellS σ (turnS σ (capCol σ k (cp σ k 2 + 4 * j + i % 3))) (cp σ k 3 + (4 - i / 3))))), (4, .int (iI (14 - i))), (0, .ref a), (1, .ref q), (2, .int (iI j))]) F.1 F.2.1 dX5_ghost_57 rfl hl (by decide) rfl (fun ls hl => ?_)
          refine h_iinc (k := 2) (a := 14 - i) (lv' := [(4, .int (iI ((14 - i) + (-1)))), (3, .int (iI ((2 * (bs (picB σ k j true) i)) + 1))), (5, .int (iI (cellS σ (turnS σ (capCol σ k (cp σ k 2 + 4 * j + i % 3))) (cp σ k 3 + (4 - i / 3))))), (0, .ref a), (1, .ref q), (2, .int (iI j))]) F dX5_ghost_58 hl rfl (by decide) rfl (fun ls hl => ?_)
          refine h_goto (tgt := 6) F dX5_ghost_61 (by decide) ?_
          have eq9 : (bs (picB σ k j true) (i + 1) : Int) = (2 * (bs (picB σ k j true) i)) + 1 := by rw [bs_s _ (by omega)]; have hb : picB σ k j true i = decide (_ = _) := rfl; first | (rw [hb, decide_eq_true ‹_›]; rfl) | (rw [hb, decide_eq_false ‹_›]; rfl)
          have eq10 : (14 - (i + 1) : Int) = (14 - i) + (-1) := by first | rfl | omega | simp
          exact ih6 (i + 1)  (by omega) (by omega)   _ _ ls hW hS (by rw [eq9, eq10]; exact lv_sub hl [1, 0, 3, 4, 5] rfl)
  have eq11 : (bs (picB σ k j true) 0 : Int) = 0 := rfl
  have eq12 : (14 - 0 : Int) = 14 := by omega
  exact loop6 ((15 - 0) + 1 : Int).toNat 0  (by omega) (by omega)   _ _ ls hW hS (by rw [eq11, eq12]; exact lv_sub hl [1, 0, 2, 3, 4] rfl)
set_option maxHeartbeats 4000000 in
set_option maxRecDepth 100000 in
theorem c_X5_finishedRowsOf (l : Launch) (X : Cx) (w : Wo) (a : Nat) (σ : Int → Int) (q : Nat) (k : Int) (hA : lmA X w a σ) (hwf : WF σ) (hq : capAt X w q σ k) (hok : capOK σ k) : CM l X yX5_finishedRowsOf cX5_finishedRowsOf 2 (some (.int)) (rmk 1 24) [.ref a, .ref q] w (some (.int (iI (max 0 (min 5 (σ 4 - cp σ k 3)))))) (fun w' => w' = w) := by
  refine CM.of (lv := [(0, .ref a), (1, .ref q)]) (by decide) (Nat.le_of_ble_eq_true rfl) rfl (fun p e s m below meth c ls F hr hlk hin hW hS hl => ?_)
  have hZ0 := hW.2.2
  have hB9 := hW.1.2
  clear hin
  have hO := hA.o
  have hg1 := hA.g1
  have hg3 := hA.g3
  have hF := hwf.1
  unfold WF0 at hF
  have hqo := hq.o
  have hok0 := hok
  obtain ⟨m1, m2, m3, m4, m5, m6⟩ := hok0
  have hwf0 := hwf.1
  refine h_iconst F dX5_finishedRowsOf_0 ?_
  refine h_iconst F dX5_finishedRowsOf_1 ?_
  refine lv_aload_n F.1 F.2.1 dX5_finishedRowsOf_2 rfl (lv_at hl 0 rfl) ?_
  refine gf_RX5_47 F hW hO rfl dX5_finishedRowsOf_3 ?_
  refine lv_aload_n F.1 F.2.1 dX5_finishedRowsOf_6 rfl (lv_at hl 1 rfl) ?_
  refine gf_RX5_103 F hW hqo rfl dX5_finishedRowsOf_7 ?_
  refine h_isub (a := σ 4) (b := cp σ k 3) F dX5_finishedRowsOf_10 ?_
  refine h_mmin (index := 143) (a := 5) (b := (σ 4) - (cp σ k 3)) F hl km_RX5_143 (Nat.le_of_ble_eq_true rfl) (Nat.le_of_ble_eq_true rfl) (Nat.zero_le _) (Nat.zero_le _) (by omega) dX5_finishedRowsOf_11 ?_
  refine h_mmax (index := 148) (a := 0) (b := min 5 ((σ 4) - (cp σ k 3))) F hl km_RX5_148 (Nat.le_of_ble_eq_true rfl) (Nat.le_of_ble_eq_true rfl) (Nat.zero_le _) (Nat.zero_le _) (by omega) dX5_finishedRowsOf_14 ?_
  refine h_top (show (max 0 (min 5 ((σ 4) - (cp σ k 3))) : Int) = max 0 (min 5 (σ 4 - cp σ k 3)) from by first | rfl | omega | (simp_all; done)) ?_
  exact h_ireti F hr hlk hW hS rfl dX5_finishedRowsOf_17
set_option maxHeartbeats 4000000 in
set_option maxRecDepth 100000 in
theorem c_X5_isReadable (l : Launch) (X : Cx) (w : Wo) (a : Nat) (σ : Int → Int) (q : Nat) (k : Int) (hA : lmA X w a σ) (hwf : WF σ) (hq : capAt X w q σ k) (hok : capOK σ k) : CM l X yX5_isReadable cX5_isReadable 2 (some (.boolean)) (rmk 2 45) [.ref a, .ref q] w (some (.int (iI (bz (legS σ k))))) (fun w' => w' = w) := by
  refine CM.of (lv := [(0, .ref a), (1, .ref q)]) (by decide) (Nat.le_of_ble_eq_true rfl) rfl (fun p e s m below meth c ls F hr hlk hin hW hS hl => ?_)
  have hZ0 := hW.2.2
  have hB9 := hW.1.2
  clear hin
  have hO := hA.o
  have hg1 := hA.g1
  have hg3 := hA.g3
  have hF := hwf.1
  unfold WF0 at hF
  have hqo := hq.o
  have hok0 := hok
  obtain ⟨m1, m2, m3, m4, m5, m6⟩ := hok0
  have hwf0 := hwf.1
  refine lv_aload_n F.1 F.2.1 dX5_isReadable_0 rfl (lv_at hl 0 rfl) ?_
  refine lv_aload_n F.1 F.2.1 dX5_isReadable_1 rfl (lv_at hl 1 rfl) ?_
  refine cl_RX5_151 (As := [.ref q]) (rest := []) F hl (c_X5_finishedRowsOf l X w a σ q k hA hwf hq hok) hW hS hO rfl rfl ⟨Nat.le_of_ble_eq_true rfl, Nat.le_of_ble_eq_true rfl⟩ (Nat.le_of_ble_eq_true rfl) ⟨Nat.zero_le _, Nat.zero_le _⟩ dX5_isReadable_2 (fun w1 H locs hp1 hW hS => ?_)
  rw [hp1] at hW; clear hp1; clear w1
  refine h_iconst F dX5_isReadable_5 ?_
  refine h_icne (tgt := 13) F dX5_isReadable_6 (by decide) (by omega) (fun c2 => ?_) (fun c2 => ?_)
  · refine h_iconst F dX5_isReadable_13 ?_
    refine h_top (show (0 : Int) = bz (legS σ k) from by unfold legS; first | exact bzt (decide_eq_true (by omega)) | exact bzf (decide_eq_false (by omega))) ?_
    exact h_iretz F hr hlk hW hS rfl dX5_isReadable_14
  · refine h_iconst F dX5_isReadable_9 ?_
    refine h_goto (tgt := 14) F dX5_isReadable_10 (by decide) ?_
    refine h_top (show (1 : Int) = bz (legS σ k) from by unfold legS; first | exact bzt (decide_eq_true (by omega)) | exact bzf (decide_eq_false (by omega))) ?_
    exact h_iretz F hr hlk hW hS rfl dX5_isReadable_14
set_option maxHeartbeats 4000000 in
set_option maxRecDepth 100000 in
theorem c_X5_read (l : Launch) (X : Cx) (w : Wo) (a : Nat) (σ : Int → Int) (q : Nat) (k j : Int) (hL : loomAt X w a σ) (hq : capAt X w q σ k) (hok : capOK σ k) (hj : 0 ≤ j ∧ j < cp σ k 0) : CM l X yX5_read cX5_read 3 (some (.int)) (rmk 3 71) [.ref a, .ref q, .int (iI j)] w (some (.int (iI (rdN σ k j false)))) (fun w' => w' = w) := by
  refine CM.of (lv := [(0, .ref a), (1, .ref q), (2, .int (iI j))]) (by decide) (Nat.le_of_ble_eq_true rfl) rfl (fun p e s m below meth c ls F hr hlk hin hW hS hl => ?_)
  have hZ0 := hW.2.2
  have hB9 := hW.1.2
  clear hin
  have hA := hL.1
  have hwf := hL.2.2
  have hO := hA.o
  have hg1 := hA.g1
  have hg3 := hA.g3
  have hF := hwf.1
  unfold WF0 at hF
  have hqo := hq.o
  have hok0 := hok
  obtain ⟨m1, m2, m3, m4, m5, m6⟩ := hok0
  have hwf0 := hwf.1
  have hpr := picS_r σ k j false
  have hrr := revS_r (picS σ k j false)
  refine lv_aload_n F.1 F.2.1 dX5_read_0 rfl (lv_at hl 0 rfl) ?_
  refine lv_aload_n F.1 F.2.1 dX5_read_1 rfl (lv_at hl 1 rfl) ?_
  refine cl_RX5_155 (As := [.ref q]) (rest := []) F hl (c_X5_isReadable l X w a σ q k hA hwf hq hok) hW hS hO rfl rfl ⟨Nat.le_of_ble_eq_true rfl, Nat.le_of_ble_eq_true rfl⟩ (Nat.le_of_ble_eq_true rfl) ⟨Nat.zero_le _, Nat.zero_le _⟩ dX5_read_2 (fun w1 H locs hp1 hW hS => ?_)
  rw [hp1] at hW; clear hp1; clear w1
  refine h_ifeqb (tgt := 20) F dX5_read_5 (by decide) (fun c2 => ?_) (fun c2 => ?_)
  · refine h_iconst F dX5_read_20 ?_
    refine h_top (show ((-1) : Int) = rdN σ k j false from by unfold rdN; first | (rw [‹legS σ k = true›]; rfl) | (rw [‹legS σ k = false›]; rfl)) ?_
    exact h_ireti F hr hlk hW hS rfl dX5_read_21
  · refine lv_aload_n F.1 F.2.1 dX5_read_8 rfl (lv_at hl 0 rfl) ?_
    refine lv_aload_n F.1 F.2.1 dX5_read_9 rfl (lv_at hl 1 rfl) ?_
    refine lv_iload_n F.1 F.2.1 dX5_read_10 rfl (lv_at hl 2 rfl) ?_
    refine cl_RX5_159 (As := [.ref q, .int (iI j)]) (rest := []) F hl (c_X5_picture l X w a σ q k j hL hq hok (by omega)) hW hS hO rfl rfl ⟨Nat.le_of_ble_eq_true rfl, Nat.le_of_ble_eq_true rfl⟩ (Nat.le_of_ble_eq_true rfl) ⟨Nat.zero_le _, Nat.zero_le _⟩ dX5_read_11 (fun w1 H locs hp3 hW hS => ?_)
    rw [hp3] at hW; clear hp3; clear w1
    refine cl_RX5_162 (As := [.int (iI (picS σ k j false))]) (rest := []) F hl (c_X8_letterFor l X w (picS σ k j false) (by omega)) hW hS rfl rfl ⟨Nat.le_of_ble_eq_true rfl, Nat.le_of_ble_eq_true rfl⟩ (Nat.le_of_ble_eq_true rfl) ⟨Nat.zero_le _, Nat.zero_le _⟩ dX5_read_14 (fun w1 H locs hp4 hW hS => ?_)
    rw [hp4] at hW; clear hp4; clear w1
    refine h_goto (tgt := 21) F dX5_read_17 (by decide) ?_
    refine h_top (show (ltrS (picS σ k j false) : Int) = rdN σ k j false from by unfold rdN; first | (rw [‹legS σ k = true›]; rfl) | (rw [‹legS σ k = false›]; rfl)) ?_
    exact h_ireti F hr hlk hW hS rfl dX5_read_21
set_option maxHeartbeats 4000000 in
set_option maxRecDepth 100000 in
theorem c_X5_readTurned (l : Launch) (X : Cx) (w : Wo) (a : Nat) (σ : Int → Int) (q : Nat) (k j : Int) (hL : loomAt X w a σ) (hq : capAt X w q σ k) (hok : capOK σ k) (hj : 0 ≤ j ∧ j < cp σ k 0) : CM l X yX5_readTurned cX5_readTurned 3 (some (.int)) (rmk 3 71) [.ref a, .ref q, .int (iI j)] w (some (.int (iI (rdN σ k j true)))) (fun w' => w' = w) := by
  refine CM.of (lv := [(0, .ref a), (1, .ref q), (2, .int (iI j))]) (by decide) (Nat.le_of_ble_eq_true rfl) rfl (fun p e s m below meth c ls F hr hlk hin hW hS hl => ?_)
  have hZ0 := hW.2.2
  have hB9 := hW.1.2
  clear hin
  have hA := hL.1
  have hwf := hL.2.2
  have hO := hA.o
  have hg1 := hA.g1
  have hg3 := hA.g3
  have hF := hwf.1
  unfold WF0 at hF
  have hqo := hq.o
  have hok0 := hok
  obtain ⟨m1, m2, m3, m4, m5, m6⟩ := hok0
  have hwf0 := hwf.1
  have hpr := picS_r σ k j false
  have hrr := revS_r (picS σ k j false)
  refine lv_aload_n F.1 F.2.1 dX5_readTurned_0 rfl (lv_at hl 0 rfl) ?_
  refine lv_aload_n F.1 F.2.1 dX5_readTurned_1 rfl (lv_at hl 1 rfl) ?_
  refine cl_RX5_155 (As := [.ref q]) (rest := []) F hl (c_X5_isReadable l X w a σ q k hA hwf hq hok) hW hS hO rfl rfl ⟨Nat.le_of_ble_eq_true rfl, Nat.le_of_ble_eq_true rfl⟩ (Nat.le_of_ble_eq_true rfl) ⟨Nat.zero_le _, Nat.zero_le _⟩ dX5_readTurned_2 (fun w1 H locs hp1 hW hS => ?_)
  rw [hp1] at hW; clear hp1; clear w1
  refine h_ifeqb (tgt := 23) F dX5_readTurned_5 (by decide) (fun c2 => ?_) (fun c2 => ?_)
  · refine h_iconst F dX5_readTurned_23 ?_
    refine h_top (show ((-1) : Int) = rdN σ k j true from by unfold rdN; first | (rw [‹legS σ k = true›]; rfl) | (rw [‹legS σ k = false›]; rfl)) ?_
    exact h_ireti F hr hlk hW hS rfl dX5_readTurned_24
  · refine lv_aload_n F.1 F.2.1 dX5_readTurned_8 rfl (lv_at hl 0 rfl) ?_
    refine lv_aload_n F.1 F.2.1 dX5_readTurned_9 rfl (lv_at hl 1 rfl) ?_
    refine lv_iload_n F.1 F.2.1 dX5_readTurned_10 rfl (lv_at hl 2 rfl) ?_
    refine cl_RX5_159 (As := [.ref q, .int (iI j)]) (rest := []) F hl (c_X5_picture l X w a σ q k j hL hq hok (by omega)) hW hS hO rfl rfl ⟨Nat.le_of_ble_eq_true rfl, Nat.le_of_ble_eq_true rfl⟩ (Nat.le_of_ble_eq_true rfl) ⟨Nat.zero_le _, Nat.zero_le _⟩ dX5_readTurned_11 (fun w1 H locs hp3 hW hS => ?_)
    rw [hp3] at hW; clear hp3; clear w1
    refine cl_RX5_165 (As := [.int (iI (picS σ k j false))]) (rest := []) F hl (c_X8_mirrored l X w (picS σ k j false) (by omega)) hW hS rfl rfl ⟨Nat.le_of_ble_eq_true rfl, Nat.le_of_ble_eq_true rfl⟩ (Nat.le_of_ble_eq_true rfl) ⟨Nat.zero_le _, Nat.zero_le _⟩ dX5_readTurned_14 (fun w1 H locs hp4 hW hS => ?_)
    rw [hp4] at hW; clear hp4; clear w1
    refine cl_RX5_162 (As := [.int (iI (revS (picS σ k j false)))]) (rest := []) F hl (c_X8_letterFor l X w (revS (picS σ k j false)) (by omega)) hW hS rfl rfl ⟨Nat.le_of_ble_eq_true rfl, Nat.le_of_ble_eq_true rfl⟩ (Nat.le_of_ble_eq_true rfl) ⟨Nat.zero_le _, Nat.zero_le _⟩ dX5_readTurned_17 (fun w1 H locs hp5 hW hS => ?_)
    rw [hp5] at hW; clear hp5; clear w1
    refine h_goto (tgt := 24) F dX5_readTurned_20 (by decide) ?_
    refine h_top (show (ltrS (revS (picS σ k j false)) : Int) = rdN σ k j true from by unfold rdN; first | (rw [‹legS σ k = true›]; rfl) | (rw [‹legS σ k = false›]; rfl)) ?_
    exact h_ireti F hr hlk hW hS rfl dX5_readTurned_24
set_option maxHeartbeats 4000000 in
set_option maxRecDepth 100000 in
theorem c_X5_lettersRead (l : Launch) (X : Cx) (w : Wo) (a : Nat) (σ : Int → Int) (q : Nat) (k : Int) (hL : loomAt X w a σ) (hq : capAt X w q σ k) (hok : capOK σ k) : CM l X yX5_lettersRead cX5_lettersRead 4 (some (.int)) (rmk 4 93) [.ref a, .ref q] w (some (.int (iI (cnt (fun z => decide (rdN σ k z false = tdS σ k z)) 0 (cp σ k 0))))) (fun w' => w' = w) := by
  refine CM.of (lv := [(0, .ref a), (1, .ref q)]) (by decide) (Nat.le_of_ble_eq_true rfl) rfl (fun p e s m below meth c ls F hr hlk hin hW hS hl => ?_)
  have hZ0 := hW.2.2
  have hB9 := hW.1.2
  clear hin
  have hA := hL.1
  have hwf := hL.2.2
  have hO := hA.o
  have hg1 := hA.g1
  have hg3 := hA.g3
  have hF := hwf.1
  unfold WF0 at hF
  have hqo := hq.o
  have hok0 := hok
  obtain ⟨m1, m2, m3, m4, m5, m6⟩ := hok0
  have hwf0 := hwf.1
  refine h_iconst F dX5_lettersRead_0 ?_
  refine lv_istore_n (lv' := [(2, .int (iI 0)), (0, .ref a), (1, .ref q)]) F.1 F.2.1 dX5_lettersRead_1 rfl hl (by decide) rfl (fun ls hl => ?_)
  refine h_iconst F dX5_lettersRead_2 ?_
  refine lv_istore_n (lv' := [(3, .int (iI 0)), (2, .int (iI 0)), (0, .ref a), (1, .ref q)]) F.1 F.2.1 dX5_lettersRead_3 rfl hl (by decide) rfl (fun ls hl => ?_)
  have loop4 : ∀ (n9 : Nat) (j : Int), (hrg : 0 ≤ j ∧ j ≤ cp σ k 0) → (hms : cp σ k 0 - j < (n9 : Int)) → (H : Heap) → (locs : List Loc) → (ls : Array Slot) → Wd X w s H → va_S (cxA X) s.heap H locs → lv_has ls 4 [(2, .int (iI (cnt (fun z => decide (rdN σ k z false = tdS σ k z)) 0 j))), (3, .int (iI j)), (0, .ref a), (1, .ref q)] → W p l e (rmk 4 93) s m (List.toArray [.ref a, .ref q]) below meth c H locs 0 0 (MX X below (List.toArray [.ref a, .ref q]) s 0 0 (some (.int (iI (cnt (fun z => decide (rdN σ k z false = tdS σ k z)) 0 (cp σ k 0))))) (fun w' => w' = w)) (F0 m 4 ls []) := by
    intro n9
    induction n9 with
    | zero => intro j  hrg hms; exfalso; omega
    | succ n9 ih4 =>
      intro j  hrg hms   H locs ls hW hS hl
      refine lv_iload_n F.1 F.2.1 dX5_lettersRead_4 rfl (lv_at hl 1 rfl) ?_
      refine lv_aload_n F.1 F.2.1 dX5_lettersRead_5 rfl (lv_at hl 3 rfl) ?_
      refine gf_RX5_93 F hW hqo rfl dX5_lettersRead_6 ?_
      refine h_icge (tgt := 35) F dX5_lettersRead_9 (by decide) (by omega) (fun c1 => ?_) (fun c1 => ?_)
      · refine lv_iload_n F.1 F.2.1 dX5_lettersRead_35 rfl (lv_at hl 0 rfl) ?_
        refine h_top (show (cnt (fun z => decide (rdN σ k z false = tdS σ k z)) 0 j : Int) = cnt (fun z => decide (rdN σ k z false = tdS σ k z)) 0 (cp σ k 0) from by rw [show j = cp σ k 0 by omega]) ?_
        exact h_ireti F hr hlk hW hS rfl dX5_lettersRead_36
      · refine lv_aload_n F.1 F.2.1 dX5_lettersRead_12 rfl (lv_at hl 2 rfl) ?_
        refine lv_aload_n F.1 F.2.1 dX5_lettersRead_13 rfl (lv_at hl 3 rfl) ?_
        refine lv_iload_n F.1 F.2.1 dX5_lettersRead_14 rfl (lv_at hl 1 rfl) ?_
        refine cl_RX5_168 (As := [.ref q, .int (iI j)]) (rest := []) F hl (c_X5_read l X w a σ q k j hL hq hok (by omega)) hW hS hO rfl rfl ⟨Nat.le_of_ble_eq_true rfl, Nat.le_of_ble_eq_true rfl⟩ (Nat.le_of_ble_eq_true rfl) ⟨Nat.zero_le _, Nat.zero_le _⟩ dX5_lettersRead_15 (fun w1 H locs hp2 hW hS => ?_)
        rw [hp2] at hW; clear hp2; clear w1
        refine lv_aload_n F.1 F.2.1 dX5_lettersRead_18 rfl (lv_at hl 3 rfl) ?_
        refine lv_iload_n F.1 F.2.1 dX5_lettersRead_19 rfl (lv_at hl 1 rfl) ?_
        refine cl_RX5_171 (As := [.int (iI j)]) (rest := [.int (iI (rdN σ k j false))]) F hl (c_X1_letterAt l X w q σ k j hq hok hwf0 (by omega)) hW hS hqo rfl rfl ⟨Nat.le_of_ble_eq_true rfl, Nat.le_of_ble_eq_true rfl⟩ (Nat.le_of_ble_eq_true rfl) ⟨Nat.zero_le _, Nat.zero_le _⟩ dX5_lettersRead_20 (fun w1 H locs hp3 hW hS => ?_)
        rw [hp3] at hW; clear hp3; clear w1
        have hr1 := rdN_r σ k j false
        have ht1 : 1 ≤ tdS σ k j ∧ tdS σ k j ≤ 26 := by have := m6 j (by omega) (by omega); unfold tdS; omega
        refine h_icne (tgt := 29) F dX5_lettersRead_23 (by decide) (by omega) (fun c4 => ?_) (fun c4 => ?_)
        · refine h_iinc (k := 1) (a := j) (lv' := [(3, .int (iI (j + 1))), (2, .int (iI (cnt (fun z => decide (rdN σ k z false = tdS σ k z)) 0 j))), (0, .ref a), (1, .ref q)]) F dX5_lettersRead_29 hl rfl (by decide) rfl (fun ls hl => ?_)
          refine h_goto (tgt := 4) F dX5_lettersRead_32 (by decide) ?_
          have eq5 : (cnt (fun z => decide (rdN σ k z false = tdS σ k z)) 0 (j + 1) : Int) = cnt (fun z => decide (rdN σ k z false = tdS σ k z)) 0 j := by first | exact cnt_t (by omega) (decide_eq_true ‹_›) | exact cnt_f (by omega) (decide_eq_false ‹_›)
          have eq6 : ((j + 1) : Int) = j + 1 := by first | rfl | omega | simp
          exact ih4 (j + 1)  (by omega) (by omega)   _ _ ls hW hS (by rw [eq5, eq6]; exact lv_sub hl [1, 0, 2, 3] rfl)
        · refine h_iinc (k := 0) (a := cnt (fun z => decide (rdN σ k z false = tdS σ k z)) 0 j) (lv' := [(2, .int (iI ((cnt (fun z => decide (rdN σ k z false = tdS σ k z)) 0 j) + 1))), (3, .int (iI j)), (0, .ref a), (1, .ref q)]) F dX5_lettersRead_26 hl rfl (by decide) rfl (fun ls hl => ?_)
          refine h_iinc (k := 1) (a := j) (lv' := [(3, .int (iI (j + 1))), (2, .int (iI ((cnt (fun z => decide (rdN σ k z false = tdS σ k z)) 0 j) + 1))), (0, .ref a), (1, .ref q)]) F dX5_lettersRead_29 hl rfl (by decide) rfl (fun ls hl => ?_)
          refine h_goto (tgt := 4) F dX5_lettersRead_32 (by decide) ?_
          have eq7 : (cnt (fun z => decide (rdN σ k z false = tdS σ k z)) 0 (j + 1) : Int) = (cnt (fun z => decide (rdN σ k z false = tdS σ k z)) 0 j) + 1 := by first | exact cnt_t (by omega) (decide_eq_true ‹_›) | exact cnt_f (by omega) (decide_eq_false ‹_›)
          have eq8 : ((j + 1) : Int) = j + 1 := by first | rfl | omega | simp
          exact ih4 (j + 1)  (by omega) (by omega)   _ _ ls hW hS (by rw [eq7, eq8]; exact lv_sub hl [1, 0, 2, 3] rfl)
  have eq9 : (cnt (fun z => decide (rdN σ k z false = tdS σ k z)) 0 0 : Int) = 0 := cnt_0 _ _
  exact loop4 ((cp σ k 0 - 0) + 1 : Int).toNat 0  (by omega) (by omega)   _ _ ls hW hS (by rw [eq9]; exact lv_sub hl [1, 0, 2, 3] rfl)
set_option maxHeartbeats 4000000 in
set_option maxRecDepth 100000 in
theorem c_X5_lettersReadTurned (l : Launch) (X : Cx) (w : Wo) (a : Nat) (σ : Int → Int) (q : Nat) (k : Int) (hL : loomAt X w a σ) (hq : capAt X w q σ k) (hok : capOK σ k) : CM l X yX5_lettersReadTurned cX5_lettersReadTurned 4 (some (.int)) (rmk 4 93) [.ref a, .ref q] w (some (.int (iI (cnt (fun z => decide (rdN σ k z true = tdS σ k z)) 0 (cp σ k 0))))) (fun w' => w' = w) := by
  refine CM.of (lv := [(0, .ref a), (1, .ref q)]) (by decide) (Nat.le_of_ble_eq_true rfl) rfl (fun p e s m below meth c ls F hr hlk hin hW hS hl => ?_)
  have hZ0 := hW.2.2
  have hB9 := hW.1.2
  clear hin
  have hA := hL.1
  have hwf := hL.2.2
  have hO := hA.o
  have hg1 := hA.g1
  have hg3 := hA.g3
  have hF := hwf.1
  unfold WF0 at hF
  have hqo := hq.o
  have hok0 := hok
  obtain ⟨m1, m2, m3, m4, m5, m6⟩ := hok0
  have hwf0 := hwf.1
  refine h_iconst F dX5_lettersReadTurned_0 ?_
  refine lv_istore_n (lv' := [(2, .int (iI 0)), (0, .ref a), (1, .ref q)]) F.1 F.2.1 dX5_lettersReadTurned_1 rfl hl (by decide) rfl (fun ls hl => ?_)
  refine h_iconst F dX5_lettersReadTurned_2 ?_
  refine lv_istore_n (lv' := [(3, .int (iI 0)), (2, .int (iI 0)), (0, .ref a), (1, .ref q)]) F.1 F.2.1 dX5_lettersReadTurned_3 rfl hl (by decide) rfl (fun ls hl => ?_)
  have loop4 : ∀ (n9 : Nat) (j : Int), (hrg : 0 ≤ j ∧ j ≤ cp σ k 0) → (hms : cp σ k 0 - j < (n9 : Int)) → (H : Heap) → (locs : List Loc) → (ls : Array Slot) → Wd X w s H → va_S (cxA X) s.heap H locs → lv_has ls 4 [(2, .int (iI (cnt (fun z => decide (rdN σ k z true = tdS σ k z)) 0 j))), (3, .int (iI j)), (0, .ref a), (1, .ref q)] → W p l e (rmk 4 93) s m (List.toArray [.ref a, .ref q]) below meth c H locs 0 0 (MX X below (List.toArray [.ref a, .ref q]) s 0 0 (some (.int (iI (cnt (fun z => decide (rdN σ k z true = tdS σ k z)) 0 (cp σ k 0))))) (fun w' => w' = w)) (F0 m 4 ls []) := by
    intro n9
    induction n9 with
    | zero => intro j  hrg hms; exfalso; omega
    | succ n9 ih4 =>
      intro j  hrg hms   H locs ls hW hS hl
      refine lv_iload_n F.1 F.2.1 dX5_lettersReadTurned_4 rfl (lv_at hl 1 rfl) ?_
      refine lv_aload_n F.1 F.2.1 dX5_lettersReadTurned_5 rfl (lv_at hl 3 rfl) ?_
      refine gf_RX5_93 F hW hqo rfl dX5_lettersReadTurned_6 ?_
      refine h_icge (tgt := 35) F dX5_lettersReadTurned_9 (by decide) (by omega) (fun c1 => ?_) (fun c1 => ?_)
      · refine lv_iload_n F.1 F.2.1 dX5_lettersReadTurned_35 rfl (lv_at hl 0 rfl) ?_
        refine h_top (show (cnt (fun z => decide (rdN σ k z true = tdS σ k z)) 0 j : Int) = cnt (fun z => decide (rdN σ k z true = tdS σ k z)) 0 (cp σ k 0) from by rw [show j = cp σ k 0 by omega]) ?_
        exact h_ireti F hr hlk hW hS rfl dX5_lettersReadTurned_36
      · refine lv_aload_n F.1 F.2.1 dX5_lettersReadTurned_12 rfl (lv_at hl 2 rfl) ?_
        refine lv_aload_n F.1 F.2.1 dX5_lettersReadTurned_13 rfl (lv_at hl 3 rfl) ?_
        refine lv_iload_n F.1 F.2.1 dX5_lettersReadTurned_14 rfl (lv_at hl 1 rfl) ?_
        refine cl_RX5_174 (As := [.ref q, .int (iI j)]) (rest := []) F hl (c_X5_readTurned l X w a σ q k j hL hq hok (by omega)) hW hS hO rfl rfl ⟨Nat.le_of_ble_eq_true rfl, Nat.le_of_ble_eq_true rfl⟩ (Nat.le_of_ble_eq_true rfl) ⟨Nat.zero_le _, Nat.zero_le _⟩ dX5_lettersReadTurned_15 (fun w1 H locs hp2 hW hS => ?_)
        rw [hp2] at hW; clear hp2; clear w1
        refine lv_aload_n F.1 F.2.1 dX5_lettersReadTurned_18 rfl (lv_at hl 3 rfl) ?_
        refine lv_iload_n F.1 F.2.1 dX5_lettersReadTurned_19 rfl (lv_at hl 1 rfl) ?_
        refine cl_RX5_171 (As := [.int (iI j)]) (rest := [.int (iI (rdN σ k j true))]) F hl (c_X1_letterAt l X w q σ k j hq hok hwf0 (by omega)) hW hS hqo rfl rfl ⟨Nat.le_of_ble_eq_true rfl, Nat.le_of_ble_eq_true rfl⟩ (Nat.le_of_ble_eq_true rfl) ⟨Nat.zero_le _, Nat.zero_le _⟩ dX5_lettersReadTurned_20 (fun w1 H locs hp3 hW hS => ?_)
        rw [hp3] at hW; clear hp3; clear w1
        have hr1 := rdN_r σ k j true
        have ht1 : 1 ≤ tdS σ k j ∧ tdS σ k j ≤ 26 := by have := m6 j (by omega) (by omega); unfold tdS; omega
        refine h_icne (tgt := 29) F dX5_lettersReadTurned_23 (by decide) (by omega) (fun c4 => ?_) (fun c4 => ?_)
        · refine h_iinc (k := 1) (a := j) (lv' := [(3, .int (iI (j + 1))), (2, .int (iI (cnt (fun z => decide (rdN σ k z true = tdS σ k z)) 0 j))), (0, .ref a), (1, .ref q)]) F dX5_lettersReadTurned_29 hl rfl (by decide) rfl (fun ls hl => ?_)
          refine h_goto (tgt := 4) F dX5_lettersReadTurned_32 (by decide) ?_
          have eq5 : (cnt (fun z => decide (rdN σ k z true = tdS σ k z)) 0 (j + 1) : Int) = cnt (fun z => decide (rdN σ k z true = tdS σ k z)) 0 j := by first | exact cnt_t (by omega) (decide_eq_true ‹_›) | exact cnt_f (by omega) (decide_eq_false ‹_›)
          have eq6 : ((j + 1) : Int) = j + 1 := by first | rfl | omega | simp
          exact ih4 (j + 1)  (by omega) (by omega)   _ _ ls hW hS (by rw [eq5, eq6]; exact lv_sub hl [1, 0, 2, 3] rfl)
        · refine h_iinc (k := 0) (a := cnt (fun z => decide (rdN σ k z true = tdS σ k z)) 0 j) (lv' := [(2, .int (iI ((cnt (fun z => decide (rdN σ k z true = tdS σ k z)) 0 j) + 1))), (3, .int (iI j)), (0, .ref a), (1, .ref q)]) F dX5_lettersReadTurned_26 hl rfl (by decide) rfl (fun ls hl => ?_)
          refine h_iinc (k := 1) (a := j) (lv' := [(3, .int (iI (j + 1))), (2, .int (iI ((cnt (fun z => decide (rdN σ k z true = tdS σ k z)) 0 j) + 1))), (0, .ref a), (1, .ref q)]) F dX5_lettersReadTurned_29 hl rfl (by decide) rfl (fun ls hl => ?_)
          refine h_goto (tgt := 4) F dX5_lettersReadTurned_32 (by decide) ?_
          have eq7 : (cnt (fun z => decide (rdN σ k z true = tdS σ k z)) 0 (j + 1) : Int) = (cnt (fun z => decide (rdN σ k z true = tdS σ k z)) 0 j) + 1 := by first | exact cnt_t (by omega) (decide_eq_true ‹_›) | exact cnt_f (by omega) (decide_eq_false ‹_›)
          have eq8 : ((j + 1) : Int) = j + 1 := by first | rfl | omega | simp
          exact ih4 (j + 1)  (by omega) (by omega)   _ _ ls hW hS (by rw [eq7, eq8]; exact lv_sub hl [1, 0, 2, 3] rfl)
  have eq9 : (cnt (fun z => decide (rdN σ k z true = tdS σ k z)) 0 0 : Int) = 0 := cnt_0 _ _
  exact loop4 ((cp σ k 0 - 0) + 1 : Int).toNat 0  (by omega) (by omega)   _ _ ls hW hS (by rw [eq9]; exact lv_sub hl [1, 0, 2, 3] rfl)
set_option maxHeartbeats 4000000 in
set_option maxRecDepth 100000 in
theorem c_X5_ghostsShown (l : Launch) (X : Cx) (w : Wo) (a : Nat) (σ : Int → Int) (q : Nat) (k : Int) (hL : loomAt X w a σ) (hq : capAt X w q σ k) (hok : capOK σ k) : CM l X yX5_ghostsShown cX5_ghostsShown 4 (some (.int)) (rmk 3 71) [.ref a, .ref q] w (some (.int (iI (thatG σ k)))) (fun w' => w' = w) := by
  refine CM.of (lv := [(0, .ref a), (1, .ref q)]) (by decide) (Nat.le_of_ble_eq_true rfl) rfl (fun p e s m below meth c ls F hr hlk hin hW hS hl => ?_)
  have hZ0 := hW.2.2
  have hB9 := hW.1.2
  clear hin
  have hA := hL.1
  have hwf := hL.2.2
  have hO := hA.o
  have hg1 := hA.g1
  have hg3 := hA.g3
  have hF := hwf.1
  unfold WF0 at hF
  have hqo := hq.o
  have hok0 := hok
  obtain ⟨m1, m2, m3, m4, m5, m6⟩ := hok0
  have hwf0 := hwf.1
  refine h_iconst F dX5_ghostsShown_0 ?_
  refine lv_istore_n (lv' := [(2, .int (iI 0)), (0, .ref a), (1, .ref q)]) F.1 F.2.1 dX5_ghostsShown_1 rfl hl (by decide) rfl (fun ls hl => ?_)
  refine h_iconst F dX5_ghostsShown_2 ?_
  refine lv_istore_n (lv' := [(3, .int (iI 0)), (2, .int (iI 0)), (0, .ref a), (1, .ref q)]) F.1 F.2.1 dX5_ghostsShown_3 rfl hl (by decide) rfl (fun ls hl => ?_)
  have loop4 : ∀ (n9 : Nat) (j : Int), (hrg : 0 ≤ j ∧ j ≤ cp σ k 0) → (hms : cp σ k 0 - j < (n9 : Int)) → (H : Heap) → (locs : List Loc) → (ls : Array Slot) → Wd X w s H → va_S (cxA X) s.heap H locs → lv_has ls 4 [(2, .int (iI (cnt (fun z => legS σ k && decide (picS σ k z true = gl (cp σ k (5 + z)))) 0 j))), (3, .int (iI j)), (0, .ref a), (1, .ref q)] → W p l e (rmk 3 71) s m (List.toArray [.ref a, .ref q]) below meth c H locs 0 0 (MX X below (List.toArray [.ref a, .ref q]) s 0 0 (some (.int (iI (thatG σ k)))) (fun w' => w' = w)) (F0 m 4 ls []) := by
    intro n9
    induction n9 with
    | zero => intro j  hrg hms; exfalso; omega
    | succ n9 ih4 =>
      intro j  hrg hms   H locs ls hW hS hl
      refine lv_iload_n F.1 F.2.1 dX5_ghostsShown_4 rfl (lv_at hl 1 rfl) ?_
      refine lv_aload_n F.1 F.2.1 dX5_ghostsShown_5 rfl (lv_at hl 3 rfl) ?_
      refine gf_RX5_93 F hW hqo rfl dX5_ghostsShown_6 ?_
      refine h_icge (tgt := 43) F dX5_ghostsShown_9 (by decide) (by omega) (fun c1 => ?_) (fun c1 => ?_)
      · refine lv_iload_n F.1 F.2.1 dX5_ghostsShown_43 rfl (lv_at hl 0 rfl) ?_
        refine h_top (show (cnt (fun z => legS σ k && decide (picS σ k z true = gl (cp σ k (5 + z)))) 0 j : Int) = thatG σ k from by unfold thatG; first | rw [show j = cp σ k 0 by omega] | (rw [‹legS σ k = false›]; simp only [Bool.false_and, cnt_n])) ?_
        exact h_ireti F hr hlk hW hS rfl dX5_ghostsShown_44
      · refine lv_aload_n F.1 F.2.1 dX5_ghostsShown_12 rfl (lv_at hl 2 rfl) ?_
        refine lv_aload_n F.1 F.2.1 dX5_ghostsShown_13 rfl (lv_at hl 3 rfl) ?_
        refine cl_RX5_155 (As := [.ref q]) (rest := []) F hl (c_X5_isReadable l X w a σ q k hA hwf hq hok) hW hS hO rfl rfl ⟨Nat.le_of_ble_eq_true rfl, Nat.le_of_ble_eq_true rfl⟩ (Nat.le_of_ble_eq_true rfl) ⟨Nat.zero_le _, Nat.zero_le _⟩ dX5_ghostsShown_14 (fun w1 H locs hp2 hW hS => ?_)
        rw [hp2] at hW; clear hp2; clear w1
        refine h_ifeqb (tgt := 43) F dX5_ghostsShown_17 (by decide) (fun c3 => ?_) (fun c3 => ?_)
        · refine lv_iload_n F.1 F.2.1 dX5_ghostsShown_43 rfl (lv_at hl 0 rfl) ?_
          refine h_top (show (cnt (fun z => legS σ k && decide (picS σ k z true = gl (cp σ k (5 + z)))) 0 j : Int) = thatG σ k from by unfold thatG; first | rw [show j = cp σ k 0 by omega] | (rw [‹legS σ k = false›]; simp only [Bool.false_and, cnt_n])) ?_
          exact h_ireti F hr hlk hW hS rfl dX5_ghostsShown_44
        · refine lv_aload_n F.1 F.2.1 dX5_ghostsShown_20 rfl (lv_at hl 2 rfl) ?_
          refine lv_aload_n F.1 F.2.1 dX5_ghostsShown_21 rfl (lv_at hl 3 rfl) ?_
          refine lv_iload_n F.1 F.2.1 dX5_ghostsShown_22 rfl (lv_at hl 1 rfl) ?_
          refine cl_RX5_177 (As := [.ref q, .int (iI j)]) (rest := []) F hl (c_X5_ghost l X w a σ q k j hL hq hok (by omega)) hW hS hO rfl rfl ⟨Nat.le_of_ble_eq_true rfl, Nat.le_of_ble_eq_true rfl⟩ (Nat.le_of_ble_eq_true rfl) ⟨Nat.zero_le _, Nat.zero_le _⟩ dX5_ghostsShown_23 (fun w1 H locs hp4 hW hS => ?_)
          rw [hp4] at hW; clear hp4; clear w1
          refine lv_aload_n F.1 F.2.1 dX5_ghostsShown_26 rfl (lv_at hl 3 rfl) ?_
          refine lv_iload_n F.1 F.2.1 dX5_ghostsShown_27 rfl (lv_at hl 1 rfl) ?_
          refine cl_RX5_114 (As := [.int (iI j)]) (rest := [.int (iI (picS σ k j true))]) F hl (c_X1_glyphAt l X w q σ k j hq hok hwf0 (by omega)) hW hS hqo rfl rfl ⟨Nat.le_of_ble_eq_true rfl, Nat.le_of_ble_eq_true rfl⟩ (Nat.le_of_ble_eq_true rfl) ⟨Nat.zero_le _, Nat.zero_le _⟩ dX5_ghostsShown_28 (fun w1 H locs hp5 hW hS => ?_)
          rw [hp5] at hW; clear hp5; clear w1
          have hr1 := picS_r σ k j true
          have ht1 := gl_r (cp σ k (5 + j))
          refine h_icne (tgt := 37) F dX5_ghostsShown_31 (by decide) (by omega) (fun c6 => ?_) (fun c6 => ?_)
          · refine h_iinc (k := 1) (a := j) (lv' := [(3, .int (iI (j + 1))), (2, .int (iI (cnt (fun z => legS σ k && decide (picS σ k z true = gl (cp σ k (5 + z)))) 0 j))), (0, .ref a), (1, .ref q)]) F dX5_ghostsShown_37 hl rfl (by decide) rfl (fun ls hl => ?_)
            refine h_goto (tgt := 4) F dX5_ghostsShown_40 (by decide) ?_
            have eq7 : (cnt (fun z => legS σ k && decide (picS σ k z true = gl (cp σ k (5 + z)))) 0 (j + 1) : Int) = cnt (fun z => legS σ k && decide (picS σ k z true = gl (cp σ k (5 + z)))) 0 j := by first | exact cnt_t (by omega) (by rw [‹legS σ k = true›, decide_eq_true ‹_›]; rfl) | exact cnt_f (by omega) (by rw [decide_eq_false ‹_›]; simp)
            have eq8 : ((j + 1) : Int) = j + 1 := by first | rfl | omega | simp
            exact ih4 (j + 1)  (by omega) (by omega)   _ _ ls hW hS (by rw [eq7, eq8]; exact lv_sub hl [1, 0, 2, 3] rfl)
          · refine h_iinc (k := 0) (a := cnt (fun z => legS σ k && decide (picS σ k z true = gl (cp σ k (5 + z)))) 0 j) (lv' := [(2, .int (iI ((cnt (fun z => legS σ k && decide (picS σ k z true = gl (cp σ k (5 + z)))) 0 j) + 1))), (3, .int (iI j)), (0, .ref a), (1, .ref q)]) F dX5_ghostsShown_34 hl rfl (by decide) rfl (fun ls hl => ?_)
            refine h_iinc (k := 1) (a := j) (lv' := [(3, .int (iI (j + 1))), (2, .int (iI ((cnt (fun z => legS σ k && decide (picS σ k z true = gl (cp σ k (5 + z)))) 0 j) + 1))), (0, .ref a), (1, .ref q)]) F dX5_ghostsShown_37 hl rfl (by decide) rfl (fun ls hl => ?_)
            refine h_goto (tgt := 4) F dX5_ghostsShown_40 (by decide) ?_
            have eq9 : (cnt (fun z => legS σ k && decide (picS σ k z true = gl (cp σ k (5 + z)))) 0 (j + 1) : Int) = (cnt (fun z => legS σ k && decide (picS σ k z true = gl (cp σ k (5 + z)))) 0 j) + 1 := by first | exact cnt_t (by omega) (by rw [‹legS σ k = true›, decide_eq_true ‹_›]; rfl) | exact cnt_f (by omega) (by rw [decide_eq_false ‹_›]; simp)
            have eq10 : ((j + 1) : Int) = j + 1 := by first | rfl | omega | simp
            exact ih4 (j + 1)  (by omega) (by omega)   _ _ ls hW hS (by rw [eq9, eq10]; exact lv_sub hl [1, 0, 2, 3] rfl)
  have eq11 : (cnt (fun z => legS σ k && decide (picS σ k z true = gl (cp σ k (5 + z)))) 0 0 : Int) = 0 := cnt_0 _ _
  exact loop4 ((cp σ k 0 - 0) + 1 : Int).toNat 0  (by omega) (by omega)   _ _ ls hW hS (by rw [eq11]; exact lv_sub hl [1, 0, 2, 3] rfl)
set_option maxHeartbeats 4000000 in
set_option maxRecDepth 100000 in
theorem c_X5_isEmpty (l : Launch) (X : Cx) (w : Wo) (a : Nat) (σ : Int → Int) (cn rn : Int) (hA : lmA X w a σ) (hwf : WF σ) (hc : 0 ≤ cn ∧ cn < σ 0 ∧ 0 ≤ rn ∧ rn < σ 1) : CM l X yX5_isEmpty cX5_isEmpty 3 (some (.boolean)) (rmk 2 46) [.ref a, .int (iI cn), .int (iI rn)] w (some (.int (iI (bz (decide (cellS σ cn rn = -1)))))) (fun w' => w' = w) := by
  refine CM.of (lv := [(0, .ref a), (1, .int (iI cn)), (2, .int (iI rn))]) (by decide) (Nat.le_of_ble_eq_true rfl) rfl (fun p e s m below meth c ls F hr hlk hin hW hS hl => ?_)
  have hZ0 := hW.2.2
  have hB9 := hW.1.2
  clear hin
  have hO := hA.o
  have hg1 := hA.g1
  have hg3 := hA.g3
  have hF := hwf.1
  unfold WF0 at hF
  have hce := hwf.2.2.2.1 cn rn (by omega) (by omega) (by omega) (by omega)
  refine lv_aload_n F.1 F.2.1 dX5_isEmpty_0 rfl (lv_at hl 0 rfl) ?_
  refine gf_RX5_12 F hW hO rfl dX5_isEmpty_1 ?_
  refine lv_iload_n F.1 F.2.1 dX5_isEmpty_4 rfl (lv_at hl 1 rfl) ?_
  refine lv_iload_n F.1 F.2.1 dX5_isEmpty_5 rfl (lv_at hl 2 rfl) ?_
  refine cl_RX5_139 (As := [.int (iI cn), .int (iI rn)]) (rest := []) F hl (c_get_cl l X w a σ cn rn hA hwf (by omega)) hW hS hg1 rfl rfl ⟨Nat.le_of_ble_eq_true rfl, Nat.le_of_ble_eq_true rfl⟩ (Nat.le_of_ble_eq_true rfl) ⟨Nat.zero_le _, Nat.zero_le _⟩ dX5_isEmpty_6 (fun w1 H locs hp1 hW hS => ?_)
  rw [hp1] at hW; clear hp1; clear w1
  refine h_iconst F dX5_isEmpty_9 ?_
  refine h_icne (tgt := 17) F dX5_isEmpty_10 (by decide) (by omega) (fun c2 => ?_) (fun c2 => ?_)
  · refine h_iconst F dX5_isEmpty_17 ?_
    refine h_top (show (0 : Int) = bz (decide (cellS σ cn rn = -1)) from bzf (by first | exact decide_eq_false (by omega) | (simp only [Bool.and_eq_false_iff, Bool.or_eq_false_iff, decide_eq_false_iff_not]; omega) | simp_all)) ?_
    exact h_iretz F hr hlk hW hS rfl dX5_isEmpty_18
  · refine h_iconst F dX5_isEmpty_13 ?_
    refine h_goto (tgt := 18) F dX5_isEmpty_14 (by decide) ?_
    refine h_top (show (1 : Int) = bz (decide (cellS σ cn rn = -1)) from bzt (by first | exact decide_eq_true (by omega) | (simp only [Bool.and_eq_true, Bool.or_eq_true, decide_eq_true_eq]; omega) | simp_all)) ?_
    exact h_iretz F hr hlk hW hS rfl dX5_isEmpty_18
set_option maxHeartbeats 4000000 in
set_option maxRecDepth 100000 in
theorem c_X5_filledCells (l : Launch) (X : Cx) (w : Wo) (a : Nat) (σ : Int → Int) (hA : lmA X w a σ) (hwf : WF σ) : CM l X yX5_filledCells cX5_filledCells 3 (some (.int)) (rmk 3 68) [.ref a] w (some (.int (iI (opnS σ)))) (fun w' => w' = w) := by
  refine CM.of (lv := [(0, .ref a)]) (by decide) (Nat.le_of_ble_eq_true rfl) rfl (fun p e s m below meth c ls F hr hlk hin hW hS hl => ?_)
  have hZ0 := hW.2.2
  have hB9 := hW.1.2
  clear hin
  have hO := hA.o
  have hg1 := hA.g1
  have hg3 := hA.g3
  have hF := hwf.1
  unfold WF0 at hF
  refine h_iconst F dX5_filledCells_0 ?_
  refine lv_istore_n (lv' := [(1, .int (iI 0)), (0, .ref a)]) F.1 F.2.1 dX5_filledCells_1 rfl hl (by decide) rfl (fun ls hl => ?_)
  refine h_iconst F dX5_filledCells_2 ?_
  refine lv_istore_n (lv' := [(2, .int (iI 0)), (1, .int (iI 0)), (0, .ref a)]) F.1 F.2.1 dX5_filledCells_3 rfl hl (by decide) rfl (fun ls hl => ?_)
  have loop4 : ∀ (n9 : Nat) (i : Int), (hrg : 0 ≤ i ∧ i ≤ σ 0) → (hms : σ 0 - i < (n9 : Int)) → (H : Heap) → (locs : List Loc) → (ls : Array Slot) → Wd X w s H → va_S (cxA X) s.heap H locs → lv_has ls 3 [(1, .int (iI (cnt (opnB σ) 0 i))), (2, .int (iI i)), (0, .ref a)] → W p l e (rmk 3 68) s m (List.toArray [.ref a]) below meth c H locs 0 0 (MX X below (List.toArray [.ref a]) s 0 0 (some (.int (iI (opnS σ)))) (fun w' => w' = w)) (F0 m 4 ls []) := by
    intro n9
    induction n9 with
    | zero => intro i  hrg hms; exfalso; omega
    | succ n9 ih4 =>
      intro i  hrg hms   H locs ls hW hS hl
      refine lv_iload_n F.1 F.2.1 dX5_filledCells_4 rfl (lv_at hl 1 rfl) ?_
      refine lv_aload_n F.1 F.2.1 dX5_filledCells_5 rfl (lv_at hl 2 rfl) ?_
      refine gf_RX5_40 F hW hO rfl dX5_filledCells_6 ?_
      refine h_icge (tgt := 40) F dX5_filledCells_9 (by decide) (by omega) (fun c1 => ?_) (fun c1 => ?_)
      · refine lv_iload_n F.1 F.2.1 dX5_filledCells_40 rfl (lv_at hl 0 rfl) ?_
        refine h_top (show (cnt (opnB σ) 0 i : Int) = opnS σ from by unfold opnS; rw [show i = σ 0 by omega]) ?_
        exact h_ireti F hr hlk hW hS rfl dX5_filledCells_41
      · refine lv_aload_n F.1 F.2.1 dX5_filledCells_12 rfl (lv_at hl 2 rfl) ?_
        refine cl_RX5_187 (As := []) (rest := []) F hl (c_X5_isOpen l X w a σ hA hwf) hW hS hO rfl rfl ⟨Nat.le_of_ble_eq_true rfl, Nat.le_of_ble_eq_true rfl⟩ (Nat.le_of_ble_eq_true rfl) ⟨Nat.zero_le _, Nat.zero_le _⟩ dX5_filledCells_13 (fun w1 H locs hp2 hW hS => ?_)
        rw [hp2] at hW; clear hp2; clear w1
        refine h_ifeqb (tgt := 34) F dX5_filledCells_16 (by decide) (fun c3 => ?_) (fun c3 => ?_)
        · have c3d := of_decide_eq_false c3
          refine h_iinc (k := 1) (a := i) (lv' := [(2, .int (iI (i + 1))), (1, .int (iI (cnt (opnB σ) 0 i))), (0, .ref a)]) F dX5_filledCells_34 hl rfl (by decide) rfl (fun ls hl => ?_)
          refine h_goto (tgt := 4) F dX5_filledCells_37 (by decide) ?_
          have eq4 : (cnt (opnB σ) 0 (i + 1) : Int) = cnt (opnB σ) 0 i := by first | exact cnt_t (by omega) (by unfold opnB; rw [decide_eq_true (by omega), decide_eq_true (by omega)]; rfl) | exact cnt_f (by omega) (by unfold opnB; first | (rw [decide_eq_false (p := σ 4 < σ 1) (by omega)]; rfl) | (rw [decide_eq_false (p := _ ≠ _) (by omega)]; simp))
          have eq5 : ((i + 1) : Int) = i + 1 := by first | rfl | omega | simp
          exact ih4 (i + 1)  (by omega) (by omega)   _ _ ls hW hS (by rw [eq4, eq5]; exact lv_sub hl [1, 0, 2] rfl)
        · have c3d := of_decide_eq_true c3
          refine lv_aload_n F.1 F.2.1 dX5_filledCells_19 rfl (lv_at hl 2 rfl) ?_
          refine lv_iload_n F.1 F.2.1 dX5_filledCells_20 rfl (lv_at hl 1 rfl) ?_
          refine lv_aload_n F.1 F.2.1 dX5_filledCells_21 rfl (lv_at hl 2 rfl) ?_
          refine gf_RX5_47 F hW hO rfl dX5_filledCells_22 ?_
          refine cl_RX5_191 (As := [.int (iI i), .int (iI (σ 4))]) (rest := []) F hl (c_X5_isEmpty l X w a σ i (σ 4) hA hwf (by omega)) hW hS hO rfl rfl ⟨Nat.le_of_ble_eq_true rfl, Nat.le_of_ble_eq_true rfl⟩ (Nat.le_of_ble_eq_true rfl) ⟨Nat.zero_le _, Nat.zero_le _⟩ dX5_filledCells_25 (fun w1 H locs hp6 hW hS => ?_)
          rw [hp6] at hW; clear hp6; clear w1
          refine h_ifneb (tgt := 34) F dX5_filledCells_28 (by decide) (fun c7 => ?_) (fun c7 => ?_)
          · have c7d := of_decide_eq_true c7
            refine h_iinc (k := 1) (a := i) (lv' := [(2, .int (iI (i + 1))), (1, .int (iI (cnt (opnB σ) 0 i))), (0, .ref a)]) F dX5_filledCells_34 hl rfl (by decide) rfl (fun ls hl => ?_)
            refine h_goto (tgt := 4) F dX5_filledCells_37 (by decide) ?_
            have eq8 : (cnt (opnB σ) 0 (i + 1) : Int) = cnt (opnB σ) 0 i := by first | exact cnt_t (by omega) (by unfold opnB; rw [decide_eq_true (by omega), decide_eq_true (by omega)]; rfl) | exact cnt_f (by omega) (by unfold opnB; first | (rw [decide_eq_false (p := σ 4 < σ 1) (by omega)]; rfl) | (rw [decide_eq_false (p := _ ≠ _) (by omega)]; simp))
            have eq9 : ((i + 1) : Int) = i + 1 := by first | rfl | omega | simp
            exact ih4 (i + 1)  (by omega) (by omega)   _ _ ls hW hS (by rw [eq8, eq9]; exact lv_sub hl [1, 0, 2] rfl)
          · have c7d := of_decide_eq_false c7
            refine h_iinc (k := 0) (a := cnt (opnB σ) 0 i) (lv' := [(1, .int (iI ((cnt (opnB σ) 0 i) + 1))), (2, .int (iI i)), (0, .ref a)]) F dX5_filledCells_31 hl rfl (by decide) rfl (fun ls hl => ?_)
            refine h_iinc (k := 1) (a := i) (lv' := [(2, .int (iI (i + 1))), (1, .int (iI ((cnt (opnB σ) 0 i) + 1))), (0, .ref a)]) F dX5_filledCells_34 hl rfl (by decide) rfl (fun ls hl => ?_)
            refine h_goto (tgt := 4) F dX5_filledCells_37 (by decide) ?_
            have eq10 : (cnt (opnB σ) 0 (i + 1) : Int) = (cnt (opnB σ) 0 i) + 1 := by first | exact cnt_t (by omega) (by unfold opnB; rw [decide_eq_true (by omega), decide_eq_true (by omega)]; rfl) | exact cnt_f (by omega) (by unfold opnB; first | (rw [decide_eq_false (p := σ 4 < σ 1) (by omega)]; rfl) | (rw [decide_eq_false (p := _ ≠ _) (by omega)]; simp))
            have eq11 : ((i + 1) : Int) = i + 1 := by first | rfl | omega | simp
            exact ih4 (i + 1)  (by omega) (by omega)   _ _ ls hW hS (by rw [eq10, eq11]; exact lv_sub hl [1, 0, 2] rfl)
  have eq12 : (cnt (opnB σ) 0 0 : Int) = 0 := cnt_0 _ _
  exact loop4 ((σ 0 - 0) + 1 : Int).toNat 0  (by omega) (by omega)   _ _ ls hW hS (by rw [eq12]; exact lv_sub hl [1, 0, 2] rfl)
set_option maxHeartbeats 4000000 in
set_option maxRecDepth 100000 in
theorem c_X5_wovenCells (l : Launch) (X : Cx) (w : Wo) (a : Nat) (σ : Int → Int) (co lo hi : Int) (hA : lmA X w a σ) (hwf : WF σ) (hco : 0 ≤ co ∧ co < 7) (hr : 0 ≤ lo ∧ lo ≤ hi ∧ hi ≤ σ 1) : CM l X yX5_wovenCells cX5_wovenCells 7 (some (.int)) (rmk 2 46) [.ref a, .int (iI co), .int (iI lo), .int (iI hi)] w (some (.int (iI (sm (wovR σ co) lo hi)))) (fun w' => w' = w) := by
  refine CM.of (lv := [(0, .ref a), (1, .int (iI co)), (2, .int (iI lo)), (3, .int (iI hi))]) (by decide) (Nat.le_of_ble_eq_true rfl) rfl (fun p e s m below meth c ls F hr hlk hin hW hS hl => ?_)
  have hZ0 := hW.2.2
  have hB9 := hW.1.2
  clear hin
  have hO := hA.o
  have hg1 := hA.g1
  have hg3 := hA.g3
  have hF := hwf.1
  unfold WF0 at hF
  refine h_iconst F dX5_wovenCells_0 ?_
  refine lv_istore (lv' := [(4, .int (iI 0)), (0, .ref a), (1, .int (iI co)), (2, .int (iI lo)), (3, .int (iI hi))]) F.1 F.2.1 dX5_wovenCells_1 hl (by decide) rfl (fun ls hl => ?_)
  refine lv_iload_n F.1 F.2.1 dX5_wovenCells_3 rfl (lv_at hl 3 rfl) ?_
  refine lv_istore (lv' := [(5, .int (iI lo)), (4, .int (iI 0)), (0, .ref a), (1, .int (iI co)), (2, .int (iI lo)), (3, .int (iI hi))]) F.1 F.2.1 dX5_wovenCells_4 hl (by decide) rfl (fun ls hl => ?_)
  have loop6 : ∀ (n9 : Nat) (r : Int), (hrg : lo ≤ r ∧ r ≤ hi) → (hms : hi - r < (n9 : Int)) → (H : Heap) → (locs : List Loc) → (ls : Array Slot) → Wd X w s H → va_S (cxA X) s.heap H locs → lv_has ls 7 [(4, .int (iI (sm (wovR σ co) lo r))), (5, .int (iI r)), (0, .ref a), (1, .int (iI co)), (2, .int (iI lo)), (3, .int (iI hi))] → W p l e (rmk 2 46) s m (List.toArray [.ref a, .int (iI co), .int (iI lo), .int (iI hi)]) below meth c H locs 0 0 (MX X below (List.toArray [.ref a, .int (iI co), .int (iI lo), .int (iI hi)]) s 0 0 (some (.int (iI (sm (wovR σ co) lo hi)))) (fun w' => w' = w)) (F0 m 6 ls []) := by
    intro n9
    induction n9 with
    | zero => intro r  hrg hms; exfalso; omega
    | succ n9 ih6 =>
      intro r  hrg hms   H locs ls hW hS hl
      refine lv_iload F.1 F.2.1 dX5_wovenCells_6 (lv_at hl 1 rfl) ?_
      refine lv_iload_n F.1 F.2.1 dX5_wovenCells_8 rfl (lv_at hl 5 rfl) ?_
      refine h_icge (tgt := 54) F dX5_wovenCells_9 (by decide) (by omega) (fun c1 => ?_) (fun c1 => ?_)
      · refine lv_iload F.1 F.2.1 dX5_wovenCells_54 (lv_at hl 0 rfl) ?_
        refine h_top (show (sm (wovR σ co) lo r : Int) = sm (wovR σ co) lo hi from by rw [show r = hi by omega]) ?_
        exact h_ireti F hr hlk hW hS rfl dX5_wovenCells_56
      · refine h_iconst F dX5_wovenCells_12 ?_
        refine lv_istore (lv' := [(6, .int (iI 0)), (4, .int (iI (sm (wovR σ co) lo r))), (5, .int (iI r)), (0, .ref a), (1, .int (iI co)), (2, .int (iI lo)), (3, .int (iI hi))]) F.1 F.2.1 dX5_wovenCells_13 hl (by decide) rfl (fun ls hl => ?_)
        have loop15 : ∀ (n9 : Nat) (i : Int), (hrg : 0 ≤ i ∧ i ≤ σ 0) → (hms : σ 0 - i < (n9 : Int)) → (H : Heap) → (locs : List Loc) → (ls : Array Slot) → Wd X w s H → va_S (cxA X) s.heap H locs → lv_has ls 7 [(4, .int (iI (sm (wovR σ co) lo r + cnt (fun z => decide (cellS σ z r = co)) 0 i))), (6, .int (iI i)), (5, .int (iI r)), (0, .ref a), (1, .int (iI co)), (2, .int (iI lo)), (3, .int (iI hi))] → W p l e (rmk 2 46) s m (List.toArray [.ref a, .int (iI co), .int (iI lo), .int (iI hi)]) below meth c H locs 0 0 (MX X below (List.toArray [.ref a, .int (iI co), .int (iI lo), .int (iI hi)]) s 0 0 (some (.int (iI (sm (wovR σ co) lo hi)))) (fun w' => w' = w)) (F0 m 15 ls []) := by
          intro n9
          induction n9 with
          | zero => intro i  hrg hms; exfalso; omega
          | succ n9 ih15 =>
            intro i  hrg hms   H locs ls hW hS hl
            refine lv_iload F.1 F.2.1 dX5_wovenCells_15 (lv_at hl 1 rfl) ?_
            refine lv_aload_n F.1 F.2.1 dX5_wovenCells_17 rfl (lv_at hl 3 rfl) ?_
            refine gf_RX5_40 F hW hO rfl dX5_wovenCells_18 ?_
            refine h_icge (tgt := 48) F dX5_wovenCells_21 (by decide) (by omega) (fun c2 => ?_) (fun c2 => ?_)
            · refine h_iinc (k := 2) (a := r) (lv' := [(5, .int (iI (r + 1))), (4, .int (iI (sm (wovR σ co) lo r + cnt (fun z => decide (cellS σ z r = co)) 0 i))), (6, .int (iI i)), (0, .ref a), (1, .int (iI co)), (2, .int (iI lo)), (3, .int (iI hi))]) F dX5_wovenCells_48 hl rfl (by decide) rfl (fun ls hl => ?_)
              refine h_goto (tgt := 6) F dX5_wovenCells_51 (by decide) ?_
              have eq3 : (sm (wovR σ co) lo (r + 1) : Int) = sm (wovR σ co) lo r + cnt (fun z => decide (cellS σ z r = co)) 0 i := by rw [sm_s _ (by omega), show i = σ 0 by omega]; rfl
              have eq4 : ((r + 1) : Int) = r + 1 := by first | rfl | omega | simp
              exact ih6 (r + 1)  (by omega) (by omega)   _ _ ls hW hS (by rw [eq3, eq4]; exact lv_sub hl [1, 0, 3, 4, 5, 6] rfl)
            · refine lv_aload_n F.1 F.2.1 dX5_wovenCells_24 rfl (lv_at hl 3 rfl) ?_
              refine gf_RX5_12 F hW hO rfl dX5_wovenCells_25 ?_
              refine lv_iload F.1 F.2.1 dX5_wovenCells_28 (lv_at hl 1 rfl) ?_
              refine lv_iload F.1 F.2.1 dX5_wovenCells_30 (lv_at hl 2 rfl) ?_
              refine cl_RX5_139 (As := [.int (iI i), .int (iI r)]) (rest := []) F hl (c_get_cl l X w a σ i r hA hwf (by omega)) hW hS hg1 rfl rfl ⟨Nat.le_of_ble_eq_true rfl, Nat.le_of_ble_eq_true rfl⟩ (Nat.le_of_ble_eq_true rfl) ⟨Nat.zero_le _, Nat.zero_le _⟩ dX5_wovenCells_32 (fun w1 H locs hp5 hW hS => ?_)
              rw [hp5] at hW; clear hp5; clear w1
              refine lv_iload_n F.1 F.2.1 dX5_wovenCells_35 rfl (lv_at hl 4 rfl) ?_
              have hce := hwf.2.2.2.1 i r (by omega) (by omega) (by omega) (by omega)
              refine h_icne (tgt := 42) F dX5_wovenCells_36 (by decide) (by omega) (fun c6 => ?_) (fun c6 => ?_)
              · refine h_iinc (k := 1) (a := i) (lv' := [(6, .int (iI (i + 1))), (4, .int (iI (sm (wovR σ co) lo r + cnt (fun z => decide (cellS σ z r = co)) 0 i))), (5, .int (iI r)), (0, .ref a), (1, .int (iI co)), (2, .int (iI lo)), (3, .int (iI hi))]) F dX5_wovenCells_42 hl rfl (by decide) rfl (fun ls hl => ?_)
                refine h_goto (tgt := 15) F dX5_wovenCells_45 (by decide) ?_
                have eq7 : (sm (wovR σ co) lo r + cnt (fun z => decide (cellS σ z r = co)) 0 (i + 1) : Int) = sm (wovR σ co) lo r + cnt (fun z => decide (cellS σ z r = co)) 0 i := by first | rw [cnt_t (by omega) (decide_eq_true ‹_›)]; omega | rw [cnt_f (by omega) (decide_eq_false ‹_›)]
                have eq8 : ((i + 1) : Int) = i + 1 := by first | rfl | omega | simp
                exact ih15 (i + 1)  (by omega) (by omega)   _ _ ls hW hS (by rw [eq7, eq8]; exact lv_sub hl [1, 0, 2, 3, 4, 5, 6] rfl)
              · refine h_iinc (k := 0) (a := sm (wovR σ co) lo r + cnt (fun z => decide (cellS σ z r = co)) 0 i) (lv' := [(4, .int (iI ((sm (wovR σ co) lo r + cnt (fun z => decide (cellS σ z r = co)) 0 i) + 1))), (6, .int (iI i)), (5, .int (iI r)), (0, .ref a), (1, .int (iI co)), (2, .int (iI lo)), (3, .int (iI hi))]) F dX5_wovenCells_39 hl rfl (by decide) rfl (fun ls hl => ?_)
                refine h_iinc (k := 1) (a := i) (lv' := [(6, .int (iI (i + 1))), (4, .int (iI ((sm (wovR σ co) lo r + cnt (fun z => decide (cellS σ z r = co)) 0 i) + 1))), (5, .int (iI r)), (0, .ref a), (1, .int (iI co)), (2, .int (iI lo)), (3, .int (iI hi))]) F dX5_wovenCells_42 hl rfl (by decide) rfl (fun ls hl => ?_)
                refine h_goto (tgt := 15) F dX5_wovenCells_45 (by decide) ?_
                have eq9 : (sm (wovR σ co) lo r + cnt (fun z => decide (cellS σ z r = co)) 0 (i + 1) : Int) = (sm (wovR σ co) lo r + cnt (fun z => decide (cellS σ z r = co)) 0 i) + 1 := by first | rw [cnt_t (by omega) (decide_eq_true ‹_›)]; omega | rw [cnt_f (by omega) (decide_eq_false ‹_›)]
                have eq10 : ((i + 1) : Int) = i + 1 := by first | rfl | omega | simp
                exact ih15 (i + 1)  (by omega) (by omega)   _ _ ls hW hS (by rw [eq9, eq10]; exact lv_sub hl [1, 0, 2, 3, 4, 5, 6] rfl)
        have eq11 : (sm (wovR σ co) lo r + cnt (fun z => decide (cellS σ z r = co)) 0 0 : Int) = sm (wovR σ co) lo r := by rw [cnt_0]; omega
        exact loop15 ((σ 0 - 0) + 1 : Int).toNat 0  (by omega) (by omega)   _ _ ls hW hS (by rw [eq11]; exact lv_sub hl [1, 0, 2, 3, 4, 5, 6] rfl)
  have eq12 : (sm (wovR σ co) lo lo : Int) = 0 := sm_0 _ _
  exact loop6 ((hi - lo) + 1 : Int).toNat lo  (by omega) (by omega)   _ _ ls hW hS (by rw [eq12]; exact lv_sub hl [1, 0, 2, 3, 4, 5] rfl)
set_option maxHeartbeats 4000000 in
set_option maxRecDepth 100000 in
theorem c_X5_plannedCells (l : Launch) (X : Cx) (w : Wo) (a : Nat) (σ : Int → Int) (co : Int) (hL : loomAt X w a σ) (hco : 0 ≤ co ∧ co < 7) : CM l X yX5_plannedCells cX5_plannedCells 5 (some (.int)) (rmk 2 46) [.ref a, .int (iI co)] w (some (.int (iI (sm (plnR σ co) 0 (σ 1))))) (fun w' => w' = w) := by
  refine CM.of (lv := [(0, .ref a), (1, .int (iI co))]) (by decide) (Nat.le_of_ble_eq_true rfl) rfl (fun p e s m below meth c ls F hr hlk hin hW hS hl => ?_)
  have hZ0 := hW.2.2
  have hB9 := hW.1.2
  clear hin
  have hA := hL.1
  have hwf := hL.2.2
  have hO := hA.o
  have hg1 := hA.g1
  have hg3 := hA.g3
  have hF := hwf.1
  unfold WF0 at hF
  refine h_iconst F dX5_plannedCells_0 ?_
  refine lv_istore_n (lv' := [(2, .int (iI 0)), (0, .ref a), (1, .int (iI co))]) F.1 F.2.1 dX5_plannedCells_1 rfl hl (by decide) rfl (fun ls hl => ?_)
  refine h_iconst F dX5_plannedCells_2 ?_
  refine lv_istore_n (lv' := [(3, .int (iI 0)), (2, .int (iI 0)), (0, .ref a), (1, .int (iI co))]) F.1 F.2.1 dX5_plannedCells_3 rfl hl (by decide) rfl (fun ls hl => ?_)
  have loop4 : ∀ (n9 : Nat) (r : Int), (hrg : 0 ≤ r ∧ r ≤ σ 1) → (hms : σ 1 - r < (n9 : Int)) → (H : Heap) → (locs : List Loc) → (ls : Array Slot) → Wd X w s H → va_S (cxA X) s.heap H locs → lv_has ls 5 [(2, .int (iI (sm (plnR σ co) 0 r))), (3, .int (iI r)), (0, .ref a), (1, .int (iI co))] → W p l e (rmk 2 46) s m (List.toArray [.ref a, .int (iI co)]) below meth c H locs 0 0 (MX X below (List.toArray [.ref a, .int (iI co)]) s 0 0 (some (.int (iI (sm (plnR σ co) 0 (σ 1))))) (fun w' => w' = w)) (F0 m 4 ls []) := by
    intro n9
    induction n9 with
    | zero => intro r  hrg hms; exfalso; omega
    | succ n9 ih4 =>
      intro r  hrg hms   H locs ls hW hS hl
      refine lv_iload_n F.1 F.2.1 dX5_plannedCells_4 rfl (lv_at hl 1 rfl) ?_
      refine lv_aload_n F.1 F.2.1 dX5_plannedCells_5 rfl (lv_at hl 2 rfl) ?_
      refine gf_RX5_44 F hW hO rfl dX5_plannedCells_6 ?_
      refine h_icge (tgt := 53) F dX5_plannedCells_9 (by decide) (by omega) (fun c1 => ?_) (fun c1 => ?_)
      · refine lv_iload_n F.1 F.2.1 dX5_plannedCells_53 rfl (lv_at hl 0 rfl) ?_
        refine h_top (show (sm (plnR σ co) 0 r : Int) = sm (plnR σ co) 0 (σ 1) from by rw [show r = σ 1 by omega]) ?_
        exact h_ireti F hr hlk hW hS rfl dX5_plannedCells_54
      · refine h_iconst F dX5_plannedCells_12 ?_
        refine lv_istore (lv' := [(4, .int (iI 0)), (2, .int (iI (sm (plnR σ co) 0 r))), (3, .int (iI r)), (0, .ref a), (1, .int (iI co))]) F.1 F.2.1 dX5_plannedCells_13 hl (by decide) rfl (fun ls hl => ?_)
        have loop15 : ∀ (n9 : Nat) (i : Int), (hrg : 0 ≤ i ∧ i ≤ σ 0) → (hms : σ 0 - i < (n9 : Int)) → (H : Heap) → (locs : List Loc) → (ls : Array Slot) → Wd X w s H → va_S (cxA X) s.heap H locs → lv_has ls 5 [(2, .int (iI (sm (plnR σ co) 0 r + cnt (fun z => decide (desS σ z r = co)) 0 i))), (4, .int (iI i)), (3, .int (iI r)), (0, .ref a), (1, .int (iI co))] → W p l e (rmk 2 46) s m (List.toArray [.ref a, .int (iI co)]) below meth c H locs 0 0 (MX X below (List.toArray [.ref a, .int (iI co)]) s 0 0 (some (.int (iI (sm (plnR σ co) 0 (σ 1))))) (fun w' => w' = w)) (F0 m 15 ls []) := by
          intro n9
          induction n9 with
          | zero => intro i  hrg hms; exfalso; omega
          | succ n9 ih15 =>
            intro i  hrg hms   H locs ls hW hS hl
            refine lv_iload F.1 F.2.1 dX5_plannedCells_15 (lv_at hl 1 rfl) ?_
            refine lv_aload_n F.1 F.2.1 dX5_plannedCells_17 rfl (lv_at hl 3 rfl) ?_
            refine gf_RX5_40 F hW hO rfl dX5_plannedCells_18 ?_
            refine h_icge (tgt := 47) F dX5_plannedCells_21 (by decide) (by omega) (fun c2 => ?_) (fun c2 => ?_)
            · refine h_iinc (k := 2) (a := r) (lv' := [(3, .int (iI (r + 1))), (2, .int (iI (sm (plnR σ co) 0 r + cnt (fun z => decide (desS σ z r = co)) 0 i))), (4, .int (iI i)), (0, .ref a), (1, .int (iI co))]) F dX5_plannedCells_47 hl rfl (by decide) rfl (fun ls hl => ?_)
              refine h_goto (tgt := 4) F dX5_plannedCells_50 (by decide) ?_
              have eq3 : (sm (plnR σ co) 0 (r + 1) : Int) = sm (plnR σ co) 0 r + cnt (fun z => decide (desS σ z r = co)) 0 i := by rw [sm_s _ (by omega), show i = σ 0 by omega]; rfl
              have eq4 : ((r + 1) : Int) = r + 1 := by first | rfl | omega | simp
              exact ih4 (r + 1)  (by omega) (by omega)   _ _ ls hW hS (by rw [eq3, eq4]; exact lv_sub hl [1, 0, 3, 4] rfl)
            · refine lv_aload_n F.1 F.2.1 dX5_plannedCells_24 rfl (lv_at hl 3 rfl) ?_
              refine gf_RX5_18 F hW hO rfl dX5_plannedCells_25 ?_
              refine lv_iload F.1 F.2.1 dX5_plannedCells_28 (lv_at hl 1 rfl) ?_
              refine lv_iload_n F.1 F.2.1 dX5_plannedCells_30 rfl (lv_at hl 2 rfl) ?_
              refine cl_RX5_139 (As := [.int (iI i), .int (iI r)]) (rest := []) F hl (c_get_pl l X w a σ i r hL (by omega)) hW hS hg3 rfl rfl ⟨Nat.le_of_ble_eq_true rfl, Nat.le_of_ble_eq_true rfl⟩ (Nat.le_of_ble_eq_true rfl) ⟨Nat.zero_le _, Nat.zero_le _⟩ dX5_plannedCells_31 (fun w1 H locs hp5 hW hS => ?_)
              rw [hp5] at hW; clear hp5; clear w1
              refine lv_iload_n F.1 F.2.1 dX5_plannedCells_34 rfl (lv_at hl 4 rfl) ?_
              have hde := desS_r hwf i r
              refine h_icne (tgt := 41) F dX5_plannedCells_35 (by decide) (by omega) (fun c6 => ?_) (fun c6 => ?_)
              · refine h_iinc (k := 1) (a := i) (lv' := [(4, .int (iI (i + 1))), (2, .int (iI (sm (plnR σ co) 0 r + cnt (fun z => decide (desS σ z r = co)) 0 i))), (3, .int (iI r)), (0, .ref a), (1, .int (iI co))]) F dX5_plannedCells_41 hl rfl (by decide) rfl (fun ls hl => ?_)
                refine h_goto (tgt := 15) F dX5_plannedCells_44 (by decide) ?_
                have eq7 : (sm (plnR σ co) 0 r + cnt (fun z => decide (desS σ z r = co)) 0 (i + 1) : Int) = sm (plnR σ co) 0 r + cnt (fun z => decide (desS σ z r = co)) 0 i := by first | rw [cnt_t (by omega) (decide_eq_true ‹_›)]; omega | rw [cnt_f (by omega) (decide_eq_false ‹_›)]
                have eq8 : ((i + 1) : Int) = i + 1 := by first | rfl | omega | simp
                exact ih15 (i + 1)  (by omega) (by omega)   _ _ ls hW hS (by rw [eq7, eq8]; exact lv_sub hl [1, 0, 2, 3, 4] rfl)
              · refine h_iinc (k := 0) (a := sm (plnR σ co) 0 r + cnt (fun z => decide (desS σ z r = co)) 0 i) (lv' := [(2, .int (iI ((sm (plnR σ co) 0 r + cnt (fun z => decide (desS σ z r = co)) 0 i) + 1))), (4, .int (iI i)), (3, .int (iI r)), (0, .ref a), (1, .int (iI co))]) F dX5_plannedCells_38 hl rfl (by decide) rfl (fun ls hl => ?_)
                refine h_iinc (k := 1) (a := i) (lv' := [(4, .int (iI (i + 1))), (2, .int (iI ((sm (plnR σ co) 0 r + cnt (fun z => decide (desS σ z r = co)) 0 i) + 1))), (3, .int (iI r)), (0, .ref a), (1, .int (iI co))]) F dX5_plannedCells_41 hl rfl (by decide) rfl (fun ls hl => ?_)
                refine h_goto (tgt := 15) F dX5_plannedCells_44 (by decide) ?_
                have eq9 : (sm (plnR σ co) 0 r + cnt (fun z => decide (desS σ z r = co)) 0 (i + 1) : Int) = (sm (plnR σ co) 0 r + cnt (fun z => decide (desS σ z r = co)) 0 i) + 1 := by first | rw [cnt_t (by omega) (decide_eq_true ‹_›)]; omega | rw [cnt_f (by omega) (decide_eq_false ‹_›)]
                have eq10 : ((i + 1) : Int) = i + 1 := by first | rfl | omega | simp
                exact ih15 (i + 1)  (by omega) (by omega)   _ _ ls hW hS (by rw [eq9, eq10]; exact lv_sub hl [1, 0, 2, 3, 4] rfl)
        have eq11 : (sm (plnR σ co) 0 r + cnt (fun z => decide (desS σ z r = co)) 0 0 : Int) = sm (plnR σ co) 0 r := by rw [cnt_0]; omega
        exact loop15 ((σ 0 - 0) + 1 : Int).toNat 0  (by omega) (by omega)   _ _ ls hW hS (by rw [eq11]; exact lv_sub hl [1, 0, 2, 3, 4] rfl)
  have eq12 : (sm (plnR σ co) 0 0 : Int) = 0 := sm_0 _ _
  exact loop4 ((σ 1 - 0) + 1 : Int).toNat 0  (by omega) (by omega)   _ _ ls hW hS (by rw [eq12]; exact lv_sub hl [1, 0, 2, 3] rfl)
set_option maxHeartbeats 4000000 in
set_option maxRecDepth 100000 in
theorem c_X5_cellsToWeave (l : Launch) (X : Cx) (w : Wo) (a : Nat) (σ : Int → Int) (co : Int) (hL : loomAt X w a σ) (hco : 0 ≤ co ∧ co < 7) : CM l X yX5_cellsToWeave cX5_cellsToWeave 5 (some (.int)) (rmk 3 68) [.ref a, .int (iI co)] w (some (.int (iI (sm (towR σ co) (σ 4) (σ 1))))) (fun w' => w' = w) := by
  refine CM.of (lv := [(0, .ref a), (1, .int (iI co))]) (by decide) (Nat.le_of_ble_eq_true rfl) rfl (fun p e s m below meth c ls F hr hlk hin hW hS hl => ?_)
  have hZ0 := hW.2.2
  have hB9 := hW.1.2
  clear hin
  have hA := hL.1
  have hwf := hL.2.2
  have hO := hA.o
  have hg1 := hA.g1
  have hg3 := hA.g3
  have hF := hwf.1
  unfold WF0 at hF
  refine h_iconst F dX5_cellsToWeave_0 ?_
  refine lv_istore_n (lv' := [(2, .int (iI 0)), (0, .ref a), (1, .int (iI co))]) F.1 F.2.1 dX5_cellsToWeave_1 rfl hl (by decide) rfl (fun ls hl => ?_)
  refine lv_aload_n F.1 F.2.1 dX5_cellsToWeave_2 rfl (lv_at hl 1 rfl) ?_
  refine gf_RX5_47 F hW hO rfl dX5_cellsToWeave_3 ?_
  refine lv_istore_n (lv' := [(3, .int (iI (σ 4))), (2, .int (iI 0)), (0, .ref a), (1, .int (iI co))]) F.1 F.2.1 dX5_cellsToWeave_6 rfl hl (by decide) rfl (fun ls hl => ?_)
  have loop7 : ∀ (n9 : Nat) (r : Int), (hrg : σ 4 ≤ r ∧ r ≤ σ 1) → (hms : σ 1 - r < (n9 : Int)) → (H : Heap) → (locs : List Loc) → (ls : Array Slot) → Wd X w s H → va_S (cxA X) s.heap H locs → lv_has ls 5 [(2, .int (iI (sm (towR σ co) (σ 4) r))), (3, .int (iI r)), (0, .ref a), (1, .int (iI co))] → W p l e (rmk 3 68) s m (List.toArray [.ref a, .int (iI co)]) below meth c H locs 0 0 (MX X below (List.toArray [.ref a, .int (iI co)]) s 0 0 (some (.int (iI (sm (towR σ co) (σ 4) (σ 1))))) (fun w' => w' = w)) (F0 m 7 ls []) := by
    intro n9
    induction n9 with
    | zero => intro r  hrg hms; exfalso; omega
    | succ n9 ih7 =>
      intro r  hrg hms   H locs ls hW hS hl
      refine lv_iload_n F.1 F.2.1 dX5_cellsToWeave_7 rfl (lv_at hl 1 rfl) ?_
      refine lv_aload_n F.1 F.2.1 dX5_cellsToWeave_8 rfl (lv_at hl 2 rfl) ?_
      refine gf_RX5_44 F hW hO rfl dX5_cellsToWeave_9 ?_
      refine h_icge (tgt := 66) F dX5_cellsToWeave_12 (by decide) (by omega) (fun c1 => ?_) (fun c1 => ?_)
      · refine lv_iload_n F.1 F.2.1 dX5_cellsToWeave_66 rfl (lv_at hl 0 rfl) ?_
        refine h_top (show (sm (towR σ co) (σ 4) r : Int) = sm (towR σ co) (σ 4) (σ 1) from by rw [show r = σ 1 by omega]) ?_
        exact h_ireti F hr hlk hW hS rfl dX5_cellsToWeave_67
      · refine h_iconst F dX5_cellsToWeave_15 ?_
        refine lv_istore (lv' := [(4, .int (iI 0)), (2, .int (iI (sm (towR σ co) (σ 4) r))), (3, .int (iI r)), (0, .ref a), (1, .int (iI co))]) F.1 F.2.1 dX5_cellsToWeave_16 hl (by decide) rfl (fun ls hl => ?_)
        have loop18 : ∀ (n9 : Nat) (i : Int), (hrg : 0 ≤ i ∧ i ≤ σ 0) → (hms : σ 0 - i < (n9 : Int)) → (H : Heap) → (locs : List Loc) → (ls : Array Slot) → Wd X w s H → va_S (cxA X) s.heap H locs → lv_has ls 5 [(2, .int (iI (sm (towR σ co) (σ 4) r + cnt (fun z => decide (cellS σ z r = -1) && decide (desS σ z r = co)) 0 i))), (4, .int (iI i)), (3, .int (iI r)), (0, .ref a), (1, .int (iI co))] → W p l e (rmk 3 68) s m (List.toArray [.ref a, .int (iI co)]) below meth c H locs 0 0 (MX X below (List.toArray [.ref a, .int (iI co)]) s 0 0 (some (.int (iI (sm (towR σ co) (σ 4) (σ 1))))) (fun w' => w' = w)) (F0 m 18 ls []) := by
          intro n9
          induction n9 with
          | zero => intro i  hrg hms; exfalso; omega
          | succ n9 ih18 =>
            intro i  hrg hms   H locs ls hW hS hl
            refine lv_iload F.1 F.2.1 dX5_cellsToWeave_18 (lv_at hl 1 rfl) ?_
            refine lv_aload_n F.1 F.2.1 dX5_cellsToWeave_20 rfl (lv_at hl 3 rfl) ?_
            refine gf_RX5_40 F hW hO rfl dX5_cellsToWeave_21 ?_
            refine h_icge (tgt := 60) F dX5_cellsToWeave_24 (by decide) (by omega) (fun c2 => ?_) (fun c2 => ?_)
            · refine h_iinc (k := 2) (a := r) (lv' := [(3, .int (iI (r + 1))), (2, .int (iI (sm (towR σ co) (σ 4) r + cnt (fun z => decide (cellS σ z r = -1) && decide (desS σ z r = co)) 0 i))), (4, .int (iI i)), (0, .ref a), (1, .int (iI co))]) F dX5_cellsToWeave_60 hl rfl (by decide) rfl (fun ls hl => ?_)
              refine h_goto (tgt := 7) F dX5_cellsToWeave_63 (by decide) ?_
              have eq3 : (sm (towR σ co) (σ 4) (r + 1) : Int) = sm (towR σ co) (σ 4) r + cnt (fun z => decide (cellS σ z r = -1) && decide (desS σ z r = co)) 0 i := by rw [sm_s _ (by omega), show i = σ 0 by omega]; rfl
              have eq4 : ((r + 1) : Int) = r + 1 := by first | rfl | omega | simp
              exact ih7 (r + 1)  (by omega) (by omega)   _ _ ls hW hS (by rw [eq3, eq4]; exact lv_sub hl [1, 0, 3, 4] rfl)
            · refine lv_aload_n F.1 F.2.1 dX5_cellsToWeave_27 rfl (lv_at hl 3 rfl) ?_
              refine lv_iload F.1 F.2.1 dX5_cellsToWeave_28 (lv_at hl 1 rfl) ?_
              refine lv_iload_n F.1 F.2.1 dX5_cellsToWeave_30 rfl (lv_at hl 2 rfl) ?_
              refine cl_RX5_191 (As := [.int (iI i), .int (iI r)]) (rest := []) F hl (c_X5_isEmpty l X w a σ i r hA hwf (by omega)) hW hS hO rfl rfl ⟨Nat.le_of_ble_eq_true rfl, Nat.le_of_ble_eq_true rfl⟩ (Nat.le_of_ble_eq_true rfl) ⟨Nat.zero_le _, Nat.zero_le _⟩ dX5_cellsToWeave_31 (fun w1 H locs hp5 hW hS => ?_)
              rw [hp5] at hW; clear hp5; clear w1
              refine h_ifeqb (tgt := 54) F dX5_cellsToWeave_34 (by decide) (fun c6 => ?_) (fun c6 => ?_)
              · have c6d := of_decide_eq_false c6
                refine h_iinc (k := 1) (a := i) (lv' := [(4, .int (iI (i + 1))), (2, .int (iI (sm (towR σ co) (σ 4) r + cnt (fun z => decide (cellS σ z r = -1) && decide (desS σ z r = co)) 0 i))), (3, .int (iI r)), (0, .ref a), (1, .int (iI co))]) F dX5_cellsToWeave_54 hl rfl (by decide) rfl (fun ls hl => ?_)
                refine h_goto (tgt := 18) F dX5_cellsToWeave_57 (by decide) ?_
                have eq7 : (sm (towR σ co) (σ 4) r + cnt (fun z => decide (cellS σ z r = -1) && decide (desS σ z r = co)) 0 (i + 1) : Int) = sm (towR σ co) (σ 4) r + cnt (fun z => decide (cellS σ z r = -1) && decide (desS σ z r = co)) 0 i := by first | rw [cnt_t (by omega) (by simp_all)]; omega | rw [cnt_f (by omega) (by simp_all)]
                have eq8 : ((i + 1) : Int) = i + 1 := by first | rfl | omega | simp
                exact ih18 (i + 1)  (by omega) (by omega)   _ _ ls hW hS (by rw [eq7, eq8]; exact lv_sub hl [1, 0, 2, 3, 4] rfl)
              · have c6d := of_decide_eq_true c6
                refine lv_aload_n F.1 F.2.1 dX5_cellsToWeave_37 rfl (lv_at hl 3 rfl) ?_
                refine gf_RX5_18 F hW hO rfl dX5_cellsToWeave_38 ?_
                refine lv_iload F.1 F.2.1 dX5_cellsToWeave_41 (lv_at hl 1 rfl) ?_
                refine lv_iload_n F.1 F.2.1 dX5_cellsToWeave_43 rfl (lv_at hl 2 rfl) ?_
                refine cl_RX5_139 (As := [.int (iI i), .int (iI r)]) (rest := []) F hl (c_get_pl l X w a σ i r hL (by omega)) hW hS hg3 rfl rfl ⟨Nat.le_of_ble_eq_true rfl, Nat.le_of_ble_eq_true rfl⟩ (Nat.le_of_ble_eq_true rfl) ⟨Nat.zero_le _, Nat.zero_le _⟩ dX5_cellsToWeave_44 (fun w1 H locs hp9 hW hS => ?_)
                rw [hp9] at hW; clear hp9; clear w1
                refine lv_iload_n F.1 F.2.1 dX5_cellsToWeave_47 rfl (lv_at hl 4 rfl) ?_
                have hde := desS_r hwf i r
                refine h_icne (tgt := 54) F dX5_cellsToWeave_48 (by decide) (by omega) (fun c10 => ?_) (fun c10 => ?_)
                · refine h_iinc (k := 1) (a := i) (lv' := [(4, .int (iI (i + 1))), (2, .int (iI (sm (towR σ co) (σ 4) r + cnt (fun z => decide (cellS σ z r = -1) && decide (desS σ z r = co)) 0 i))), (3, .int (iI r)), (0, .ref a), (1, .int (iI co))]) F dX5_cellsToWeave_54 hl rfl (by decide) rfl (fun ls hl => ?_)
                  refine h_goto (tgt := 18) F dX5_cellsToWeave_57 (by decide) ?_
                  have eq11 : (sm (towR σ co) (σ 4) r + cnt (fun z => decide (cellS σ z r = -1) && decide (desS σ z r = co)) 0 (i + 1) : Int) = sm (towR σ co) (σ 4) r + cnt (fun z => decide (cellS σ z r = -1) && decide (desS σ z r = co)) 0 i := by first | rw [cnt_t (by omega) (by simp_all)]; omega | rw [cnt_f (by omega) (by simp_all)]
                  have eq12 : ((i + 1) : Int) = i + 1 := by first | rfl | omega | simp
                  exact ih18 (i + 1)  (by omega) (by omega)   _ _ ls hW hS (by rw [eq11, eq12]; exact lv_sub hl [1, 0, 2, 3, 4] rfl)
                · refine h_iinc (k := 0) (a := sm (towR σ co) (σ 4) r + cnt (fun z => decide (cellS σ z r = -1) && decide (desS σ z r = co)) 0 i) (lv' := [(2, .int (iI ((sm (towR σ co) (σ 4) r + cnt (fun z => decide (cellS σ z r = -1) && decide (desS σ z r = co)) 0 i) + 1))), (4, .int (iI i)), (3, .int (iI r)), (0, .ref a), (1, .int (iI co))]) F dX5_cellsToWeave_51 hl rfl (by decide) rfl (fun ls hl => ?_)
                  refine h_iinc (k := 1) (a := i) (lv' := [(4, .int (iI (i + 1))), (2, .int (iI ((sm (towR σ co) (σ 4) r + cnt (fun z => decide (cellS σ z r = -1) && decide (desS σ z r = co)) 0 i) + 1))), (3, .int (iI r)), (0, .ref a), (1, .int (iI co))]) F dX5_cellsToWeave_54 hl rfl (by decide) rfl (fun ls hl => ?_)
                  refine h_goto (tgt := 18) F dX5_cellsToWeave_57 (by decide) ?_
                  have eq13 : (sm (towR σ co) (σ 4) r + cnt (fun z => decide (cellS σ z r = -1) && decide (desS σ z r = co)) 0 (i + 1) : Int) = (sm (towR σ co) (σ 4) r + cnt (fun z => decide (cellS σ z r = -1) && decide (desS σ z r = co)) 0 i) + 1 := by first | rw [cnt_t (by omega) (by simp_all)]; omega | rw [cnt_f (by omega) (by simp_all)]
                  have eq14 : ((i + 1) : Int) = i + 1 := by first | rfl | omega | simp
                  exact ih18 (i + 1)  (by omega) (by omega)   _ _ ls hW hS (by rw [eq13, eq14]; exact lv_sub hl [1, 0, 2, 3, 4] rfl)
        have eq15 : (sm (towR σ co) (σ 4) r + cnt (fun z => decide (cellS σ z r = -1) && decide (desS σ z r = co)) 0 0 : Int) = sm (towR σ co) (σ 4) r := by rw [cnt_0]; omega
        exact loop18 ((σ 0 - 0) + 1 : Int).toNat 0  (by omega) (by omega)   _ _ ls hW hS (by rw [eq15]; exact lv_sub hl [1, 0, 2, 3, 4] rfl)
  have eq16 : (sm (towR σ co) (σ 4) (σ 4) : Int) = 0 := sm_0 _ _
  have eq17 : ((σ 4) : Int) = σ 4 := by first | rfl | omega | simp
  exact loop7 ((σ 1 - (σ 4)) + 1 : Int).toNat (σ 4)  (by omega) (by omega)   _ _ ls hW hS (by rw [eq16, eq17]; exact lv_sub hl [1, 0, 2, 3] rfl)
set_option maxHeartbeats 4000000 in
set_option maxRecDepth 100000 in
theorem c_X5_planned (l : Launch) (X : Cx) (w : Wo) (a : Nat) (σ : Int → Int) (cn rn : Int) (b : Bool) (hL : loomAt X w a σ) (hc : 0 ≤ cn ∧ cn < σ 0 ∧ 0 ≤ rn ∧ rn < σ 1) : CM l X yX5_planned cX5_planned 4 (some (.int)) (rmk 2 46) [.ref a, .int (iI cn), .int (iI rn), .int (iI (bz b))] w (some (.int (iI (desS σ (if b then turnS σ cn else cn) rn)))) (fun w' => w' = w) := by
  refine CM.of (lv := [(0, .ref a), (1, .int (iI cn)), (2, .int (iI rn)), (3, .int (iI (bz b)))]) (by decide) (Nat.le_of_ble_eq_true rfl) rfl (fun p e s m below meth c ls F hr hlk hin hW hS hl => ?_)
  have hZ0 := hW.2.2
  have hB9 := hW.1.2
  clear hin
  have hA := hL.1
  have hwf := hL.2.2
  have hO := hA.o
  have hg1 := hA.g1
  have hg3 := hA.g3
  have hF := hwf.1
  unfold WF0 at hF
  have hde := desS_r hwf
  have htt : 0 ≤ turnS σ cn ∧ turnS σ cn < σ 0 := by unfold turnS; omega
  refine lv_aload_n F.1 F.2.1 dX5_planned_0 rfl (lv_at hl 0 rfl) ?_
  refine gf_RX5_18 F hW hO rfl dX5_planned_1 ?_
  refine lv_iload_n F.1 F.2.1 dX5_planned_4 rfl (lv_at hl 3 rfl) ?_
  refine h_ifeqb (tgt := 16) F dX5_planned_5 (by decide) (fun c1 => ?_) (fun c1 => ?_)
  · refine lv_iload_n F.1 F.2.1 dX5_planned_16 rfl (lv_at hl 1 rfl) ?_
    refine lv_iload_n F.1 F.2.1 dX5_planned_17 rfl (lv_at hl 2 rfl) ?_
    refine cl_RX5_139 (As := [.int (iI cn), .int (iI rn)]) (rest := []) F hl (c_get_pl l X w a σ cn rn hL (by omega)) hW hS hg3 rfl rfl ⟨Nat.le_of_ble_eq_true rfl, Nat.le_of_ble_eq_true rfl⟩ (Nat.le_of_ble_eq_true rfl) ⟨Nat.zero_le _, Nat.zero_le _⟩ dX5_planned_18 (fun w1 H locs hp2 hW hS => ?_)
    rw [hp2] at hW; clear hp2; clear w1
    refine h_top (show (desS σ cn rn : Int) = desS σ (if b then turnS σ cn else cn) rn from by first | rfl | omega | (simp_all; done)) ?_
    exact h_ireti F hr hlk hW hS rfl dX5_planned_21
  · refine lv_aload_n F.1 F.2.1 dX5_planned_8 rfl (lv_at hl 0 rfl) ?_
    refine lv_iload_n F.1 F.2.1 dX5_planned_9 rfl (lv_at hl 1 rfl) ?_
    refine cl_RX5_136 (As := [.int (iI cn)]) (rest := [.ref (a + 3)]) F hl (c_X5_turned l X w a σ cn hA hwf) hW hS hO rfl rfl ⟨Nat.le_of_ble_eq_true rfl, Nat.le_of_ble_eq_true rfl⟩ (Nat.le_of_ble_eq_true rfl) ⟨Nat.zero_le _, Nat.zero_le _⟩ dX5_planned_10 (fun w1 H locs hp3 hW hS => ?_)
    rw [hp3] at hW; clear hp3; clear w1
    refine h_goto (tgt := 17) F dX5_planned_13 (by decide) ?_
    refine lv_iload_n F.1 F.2.1 dX5_planned_17 rfl (lv_at hl 2 rfl) ?_
    refine cl_RX5_139 (As := [.int (iI (turnS σ cn)), .int (iI rn)]) (rest := []) F hl (c_get_pl l X w a σ (turnS σ cn) rn hL (by omega)) hW hS hg3 rfl rfl ⟨Nat.le_of_ble_eq_true rfl, Nat.le_of_ble_eq_true rfl⟩ (Nat.le_of_ble_eq_true rfl) ⟨Nat.zero_le _, Nat.zero_le _⟩ dX5_planned_18 (fun w1 H locs hp4 hW hS => ?_)
    rw [hp4] at hW; clear hp4; clear w1
    refine h_top (show (desS σ (turnS σ cn) rn : Int) = desS σ (if b then turnS σ cn else cn) rn from by first | rfl | omega | (simp_all; done)) ?_
    exact h_ireti F hr hlk hW hS rfl dX5_planned_21
set_option maxHeartbeats 4000000 in
set_option maxRecDepth 100000 in
theorem c_X5_suffices (l : Launch) (X : Cx) (w : Wo) (a : Nat) (σ : Int → Int) (u : Nat) (nd : Int → Int) (hA : lmA X w a σ) (hwf : WF σ) (hN : w u = some (aZ X 7 nd)) (hnd : ∀ c, 0 ≤ c → c < 7 → 0 ≤ nd c ∧ nd c ≤ 100000) : CM l X yX5_suffices cX5_suffices 3 (some (.boolean)) (rmk 2 42) [.ref a, .ref u] w (some (.int (iI (bz (al (fun c => decide (nd c ≤ σ (6 + c))) 0 7))))) (fun w' => w' = w) := by
  refine CM.of (lv := [(0, .ref a), (1, .ref u)]) (by decide) (Nat.le_of_ble_eq_true rfl) rfl (fun p e s m below meth c ls F hr hlk hin hW hS hl => ?_)
  have hZ0 := hW.2.2
  have hB9 := hW.1.2
  clear hin
  have hO := hA.o
  have hg1 := hA.g1
  have hg3 := hA.g3
  have hF := hwf.1
  unfold WF0 at hF
  refine h_iconst F dX5_suffices_0 ?_
  refine lv_istore_n (lv' := [(2, .int (iI 0)), (0, .ref a), (1, .ref u)]) F.1 F.2.1 dX5_suffices_1 rfl hl (by decide) rfl (fun ls hl => ?_)
  have loop2 : ∀ (n9 : Nat) (i : Int), (hrg : 0 ≤ i ∧ i ≤ 7) → (hms : 7 - i < (n9 : Int)) → (hno : ∀ c, 0 ≤ c → c < i → nd c ≤ σ (6 + c)) → (H : Heap) → (locs : List Loc) → (ls : Array Slot) → Wd X w s H → va_S (cxA X) s.heap H locs → lv_has ls 3 [(2, .int (iI i)), (0, .ref a), (1, .ref u)] → W p l e (rmk 2 42) s m (List.toArray [.ref a, .ref u]) below meth c H locs 0 0 (MX X below (List.toArray [.ref a, .ref u]) s 0 0 (some (.int (iI (bz (al (fun c => decide (nd c ≤ σ (6 + c))) 0 7))))) (fun w' => w' = w)) (F0 m 2 ls []) := by
    intro n9
    induction n9 with
    | zero => intro i  hrg hms; exfalso; omega
    | succ n9 ih2 =>
      intro i  hrg hms  hno H locs ls hW hS hl
      refine lv_iload_n F.1 F.2.1 dX5_suffices_2 rfl (lv_at hl 0 rfl) ?_
      refine h_bipush F dX5_suffices_3 rfl ?_
      refine h_icge (tgt := 29) F dX5_suffices_5 (by decide) (by omega) (fun c1 => ?_) (fun c1 => ?_)
      · refine h_iconst F dX5_suffices_29 ?_
        refine h_top (show (1 : Int) = bz (al (fun c => decide (nd c ≤ σ (6 + c))) 0 7) from bzt (al_iff.mpr (fun c h1 h2 => decide_eq_true (hno c h1 (by omega))))) ?_
        exact h_iretz F hr hlk hW hS rfl dX5_suffices_30
      · refine lv_aload_n F.1 F.2.1 dX5_suffices_8 rfl (lv_at hl 1 rfl) ?_
        refine lv_iload_n F.1 F.2.1 dX5_suffices_9 rfl (lv_at hl 0 rfl) ?_
        refine cl_RX5_202 (As := [.int (iI i)]) (rest := []) F hl (c_X5_stockOf l X w a σ i hA hwf (by omega)) hW hS hO rfl rfl ⟨Nat.le_of_ble_eq_true rfl, Nat.le_of_ble_eq_true rfl⟩ (Nat.le_of_ble_eq_true rfl) ⟨Nat.zero_le _, Nat.zero_le _⟩ dX5_suffices_10 (fun w1 H locs hp2 hW hS => ?_)
        rw [hp2] at hW; clear hp2; clear w1
        refine lv_aload_n F.1 F.2.1 dX5_suffices_13 rfl (lv_at hl 2 rfl) ?_
        refine lv_iload_n F.1 F.2.1 dX5_suffices_14 rfl (lv_at hl 0 rfl) ?_
        refine cl_RX5_89 (As := [.ref u, .int (iI i)]) (rest := [.int (iI (σ (6 + i)))]) F hl (c_X8_at l X w u 7 nd i hN (by omega) (by omega)) hW hS rfl rfl ⟨Nat.le_of_ble_eq_true rfl, Nat.le_of_ble_eq_true rfl⟩ (Nat.le_of_ble_eq_true rfl) ⟨Nat.zero_le _, Nat.zero_le _⟩ dX5_suffices_15 (fun w1 H locs hp3 hW hS => ?_)
        rw [hp3] at hW; clear hp3; clear w1
        have hn1 := hnd i (by omega) (by omega)
        have hs1 := hwf.2.1 i (by omega) (by omega)
        refine h_icge (tgt := 23) F dX5_suffices_18 (by decide) (by omega) (fun c4 => ?_) (fun c4 => ?_)
        · refine h_iinc (k := 0) (a := i) (lv' := [(2, .int (iI (i + 1))), (0, .ref a), (1, .ref u)]) F dX5_suffices_23 hl rfl (by decide) rfl (fun ls hl => ?_)
          refine h_goto (tgt := 2) F dX5_suffices_26 (by decide) ?_
          have eq5 : ((i + 1) : Int) = i + 1 := by first | rfl | omega | simp
          exact ih2 (i + 1)  (by omega) (by omega)  (fun c h1 h2 => (by by_cases hj : c = i; (rw [hj]; omega); exact hno c h1 (by omega))) _ _ ls hW hS (by rw [eq5]; exact lv_sub hl [0, 1, 2] rfl)
        · refine h_iconst F dX5_suffices_21 ?_
          refine h_top (show (0 : Int) = bz (al (fun c => decide (nd c ≤ σ (6 + c))) 0 7) from bzf (by rw [← Bool.not_eq_true, al_iff]; intro g; have := of_decide_eq_true (g i (by omega) (by omega)); omega)) ?_
          exact h_iretz F hr hlk hW hS rfl dX5_suffices_22
  exact loop2 ((7 - 0) + 1 : Int).toNat 0  (by omega) (by omega)  (fun c h1 h2 => by omega) _ _ ls hW hS (lv_sub hl [0, 1, 2] rfl)
set_option maxHeartbeats 4000000 in
set_option maxRecDepth 100000 in
theorem c_X5_isMistake (l : Launch) (X : Cx) (w : Wo) (a : Nat) (σ : Int → Int) (cn rn : Int) (hL : loomAt X w a σ) (hc : 0 ≤ cn ∧ cn < σ 0 ∧ 0 ≤ rn ∧ rn < σ 1) : CM l X yX5_isMistake cX5_isMistake 3 (some (.boolean)) (rmk 2 46) [.ref a, .int (iI cn), .int (iI rn)] w (some (.int (iI (bz (misS σ cn rn))))) (fun w' => w' = w) := by
  refine CM.of (lv := [(0, .ref a), (1, .int (iI cn)), (2, .int (iI rn))]) (by decide) (Nat.le_of_ble_eq_true rfl) rfl (fun p e s m below meth c ls F hr hlk hin hW hS hl => ?_)
  have hZ0 := hW.2.2
  have hB9 := hW.1.2
  clear hin
  have hA := hL.1
  have hwf := hL.2.2
  have hO := hA.o
  have hg1 := hA.g1
  have hg3 := hA.g3
  have hF := hwf.1
  unfold WF0 at hF
  have hce := hwf.2.2.2.1 cn rn (by omega) (by omega) (by omega) (by omega)
  have hde := desS_r hwf cn rn
  refine lv_iload_n F.1 F.2.1 dX5_isMistake_0 rfl (lv_at hl 2 rfl) ?_
  refine lv_aload_n F.1 F.2.1 dX5_isMistake_1 rfl (lv_at hl 0 rfl) ?_
  refine gf_RX5_47 F hW hO rfl dX5_isMistake_2 ?_
  refine h_icge (tgt := 33) F dX5_isMistake_5 (by decide) (by omega) (fun c1 => ?_) (fun c1 => ?_)
  · refine h_iconst F dX5_isMistake_33 ?_
    refine h_top (show (0 : Int) = bz (misS σ cn rn) from by unfold misS; first | exact bzt (by rw [decide_eq_true (by omega), decide_eq_true (by omega)]; rfl) | exact bzf (by rw [decide_eq_false (p := _ < _) (by omega)]; rfl) | exact bzf (by rw [decide_eq_false (p := _ ≠ _) (by omega)]; simp)) ?_
    exact h_iretz F hr hlk hW hS rfl dX5_isMistake_34
  · refine lv_aload_n F.1 F.2.1 dX5_isMistake_8 rfl (lv_at hl 0 rfl) ?_
    refine gf_RX5_12 F hW hO rfl dX5_isMistake_9 ?_
    refine lv_iload_n F.1 F.2.1 dX5_isMistake_12 rfl (lv_at hl 1 rfl) ?_
    refine lv_iload_n F.1 F.2.1 dX5_isMistake_13 rfl (lv_at hl 2 rfl) ?_
    refine cl_RX5_139 (As := [.int (iI cn), .int (iI rn)]) (rest := []) F hl (c_get_cl l X w a σ cn rn hA hwf (by omega)) hW hS hg1 rfl rfl ⟨Nat.le_of_ble_eq_true rfl, Nat.le_of_ble_eq_true rfl⟩ (Nat.le_of_ble_eq_true rfl) ⟨Nat.zero_le _, Nat.zero_le _⟩ dX5_isMistake_14 (fun w1 H locs hp2 hW hS => ?_)
    rw [hp2] at hW; clear hp2; clear w1
    refine lv_aload_n F.1 F.2.1 dX5_isMistake_17 rfl (lv_at hl 0 rfl) ?_
    refine gf_RX5_18 F hW hO rfl dX5_isMistake_18 ?_
    refine lv_iload_n F.1 F.2.1 dX5_isMistake_21 rfl (lv_at hl 1 rfl) ?_
    refine lv_iload_n F.1 F.2.1 dX5_isMistake_22 rfl (lv_at hl 2 rfl) ?_
    refine cl_RX5_139 (As := [.int (iI cn), .int (iI rn)]) (rest := [.int (iI (cellS σ cn rn))]) F hl (c_get_pl l X w a σ cn rn hL (by omega)) hW hS hg3 rfl rfl ⟨Nat.le_of_ble_eq_true rfl, Nat.le_of_ble_eq_true rfl⟩ (Nat.le_of_ble_eq_true rfl) ⟨Nat.zero_le _, Nat.zero_le _⟩ dX5_isMistake_23 (fun w1 H locs hp3 hW hS => ?_)
    rw [hp3] at hW; clear hp3; clear w1
    refine h_iceq (tgt := 33) F dX5_isMistake_26 (by decide) (by omega) (fun c4 => ?_) (fun c4 => ?_)
    · refine h_iconst F dX5_isMistake_33 ?_
      refine h_top (show (0 : Int) = bz (misS σ cn rn) from by unfold misS; first | exact bzt (by rw [decide_eq_true (by omega), decide_eq_true (by omega)]; rfl) | exact bzf (by rw [decide_eq_false (p := _ < _) (by omega)]; rfl) | exact bzf (by rw [decide_eq_false (p := _ ≠ _) (by omega)]; simp)) ?_
      exact h_iretz F hr hlk hW hS rfl dX5_isMistake_34
    · refine h_iconst F dX5_isMistake_29 ?_
      refine h_goto (tgt := 34) F dX5_isMistake_30 (by decide) ?_
      refine h_top (show (1 : Int) = bz (misS σ cn rn) from by unfold misS; first | exact bzt (by rw [decide_eq_true (by omega), decide_eq_true (by omega)]; rfl) | exact bzf (by rw [decide_eq_false (p := _ < _) (by omega)]; rfl) | exact bzf (by rw [decide_eq_false (p := _ ≠ _) (by omega)]; simp)) ?_
      exact h_iretz F hr hlk hW hS rfl dX5_isMistake_34
set_option maxHeartbeats 4000000 in
set_option maxRecDepth 100000 in
theorem c_X5_isSeen (l : Launch) (X : Cx) (w : Wo) (a : Nat) (σ : Int → Int) (rn : Int) (hA : lmA X w a σ) (hwf : WF σ) (hr : 0 ≤ rn ∧ rn < 30) : CM l X yX5_isSeen cX5_isSeen 2 (some (.boolean)) (rmk 0 0) [.ref a, .int (iI rn)] w (some (.int (iI (bz (seenS σ rn))))) (fun w' => w' = w) := by
  refine CM.of (lv := [(0, .ref a), (1, .int (iI rn))]) (by decide) (Nat.le_of_ble_eq_true rfl) rfl (fun p e s m below meth c ls F hr hlk hin hW hS hl => ?_)
  have hZ0 := hW.2.2
  have hB9 := hW.1.2
  clear hin
  have hO := hA.o
  have hg1 := hA.g1
  have hg3 := hA.g3
  have hF := hwf.1
  unfold WF0 at hF
  refine lv_iload_n F.1 F.2.1 dX5_isSeen_0 rfl (lv_at hl 1 rfl) ?_
  refine lv_aload_n F.1 F.2.1 dX5_isSeen_1 rfl (lv_at hl 0 rfl) ?_
  refine gf_RX5_50 F hW hO rfl dX5_isSeen_2 ?_
  refine h_iclt (tgt := 23) F dX5_isSeen_5 (by decide) (by omega) (fun c1 => ?_) (fun c1 => ?_)
  · refine h_iconst F dX5_isSeen_23 ?_
    refine h_goto (tgt := 28) F dX5_isSeen_24 (by decide) ?_
    refine h_top (show (1 : Int) = bz (seenS σ rn) from by unfold seenS; first | exact bzf (by rw [decide_eq_false (p := _ < _) (by omega), decide_eq_false (by omega)]; rfl) | exact bzt (by rw [decide_eq_true (p := _ < _) (by omega)]; rfl) | exact bzt (by rw [decide_eq_true (p := _ ≤ _) (by omega)]; simp)) ?_
    exact h_iretz F hr hlk hW hS rfl dX5_isSeen_28
  · refine lv_aload_n F.1 F.2.1 dX5_isSeen_8 rfl (lv_at hl 0 rfl) ?_
    refine gf_RX5_47 F hW hO rfl dX5_isSeen_9 ?_
    refine h_iconst F dX5_isSeen_12 ?_
    refine h_isub (a := σ 4) (b := 1) F dX5_isSeen_13 ?_
    refine lv_iload_n F.1 F.2.1 dX5_isSeen_14 rfl (lv_at hl 1 rfl) ?_
    refine h_isub (a := (σ 4) - 1) (b := rn) F dX5_isSeen_15 ?_
    refine lv_aload_n F.1 F.2.1 dX5_isSeen_16 rfl (lv_at hl 0 rfl) ?_
    refine gf_RX5_53 F hW hO rfl dX5_isSeen_17 ?_
    refine h_iclt (tgt := 27) F dX5_isSeen_20 (by decide) (by omega) (fun c2 => ?_) (fun c2 => ?_)
    · refine h_iconst F dX5_isSeen_27 ?_
      refine h_top (show (0 : Int) = bz (seenS σ rn) from by unfold seenS; first | exact bzf (by rw [decide_eq_false (p := _ < _) (by omega), decide_eq_false (by omega)]; rfl) | exact bzt (by rw [decide_eq_true (p := _ < _) (by omega)]; rfl) | exact bzt (by rw [decide_eq_true (p := _ ≤ _) (by omega)]; simp)) ?_
      exact h_iretz F hr hlk hW hS rfl dX5_isSeen_28
    · refine h_iconst F dX5_isSeen_23 ?_
      refine h_goto (tgt := 28) F dX5_isSeen_24 (by decide) ?_
      refine h_top (show (1 : Int) = bz (seenS σ rn) from by unfold seenS; first | exact bzf (by rw [decide_eq_false (p := _ < _) (by omega), decide_eq_false (by omega)]; rfl) | exact bzt (by rw [decide_eq_true (p := _ < _) (by omega)]; rfl) | exact bzt (by rw [decide_eq_true (p := _ ≤ _) (by omega)]; simp)) ?_
      exact h_iretz F hr hlk hW hS rfl dX5_isSeen_28
set_option maxHeartbeats 4000000 in
set_option maxRecDepth 100000 in
theorem c_X5_mistakesOf (l : Launch) (X : Cx) (w : Wo) (a : Nat) (σ : Int → Int) (rn : Int) (hL : loomAt X w a σ) (hr : 0 ≤ rn ∧ rn < σ 1) : CM l X yX5_mistakesOf cX5_mistakesOf 4 (some (.int)) (rmk 3 68) [.ref a, .int (iI rn)] w (some (.int (iI (misRow σ rn)))) (fun w' => w' = w) := by
  refine CM.of (lv := [(0, .ref a), (1, .int (iI rn))]) (by decide) (Nat.le_of_ble_eq_true rfl) rfl (fun p e s m below meth c ls F hr hlk hin hW hS hl => ?_)
  have hZ0 := hW.2.2
  have hB9 := hW.1.2
  clear hin
  have hA := hL.1
  have hwf := hL.2.2
  have hO := hA.o
  have hg1 := hA.g1
  have hg3 := hA.g3
  have hF := hwf.1
  unfold WF0 at hF
  refine h_iconst F dX5_mistakesOf_0 ?_
  refine lv_istore_n (lv' := [(2, .int (iI 0)), (0, .ref a), (1, .int (iI rn))]) F.1 F.2.1 dX5_mistakesOf_1 rfl hl (by decide) rfl (fun ls hl => ?_)
  refine h_iconst F dX5_mistakesOf_2 ?_
  refine lv_istore_n (lv' := [(3, .int (iI 0)), (2, .int (iI 0)), (0, .ref a), (1, .int (iI rn))]) F.1 F.2.1 dX5_mistakesOf_3 rfl hl (by decide) rfl (fun ls hl => ?_)
  have loop4 : ∀ (n9 : Nat) (i : Int), (hrg : 0 ≤ i ∧ i ≤ σ 0) → (hms : σ 0 - i < (n9 : Int)) → (H : Heap) → (locs : List Loc) → (ls : Array Slot) → Wd X w s H → va_S (cxA X) s.heap H locs → lv_has ls 4 [(2, .int (iI (cnt (fun z => misS σ z rn) 0 i))), (3, .int (iI i)), (0, .ref a), (1, .int (iI rn))] → W p l e (rmk 3 68) s m (List.toArray [.ref a, .int (iI rn)]) below meth c H locs 0 0 (MX X below (List.toArray [.ref a, .int (iI rn)]) s 0 0 (some (.int (iI (misRow σ rn)))) (fun w' => w' = w)) (F0 m 4 ls []) := by
    intro n9
    induction n9 with
    | zero => intro i  hrg hms; exfalso; omega
    | succ n9 ih4 =>
      intro i  hrg hms   H locs ls hW hS hl
      refine lv_iload_n F.1 F.2.1 dX5_mistakesOf_4 rfl (lv_at hl 1 rfl) ?_
      refine lv_aload_n F.1 F.2.1 dX5_mistakesOf_5 rfl (lv_at hl 2 rfl) ?_
      refine gf_RX5_40 F hW hO rfl dX5_mistakesOf_6 ?_
      refine h_icge (tgt := 30) F dX5_mistakesOf_9 (by decide) (by omega) (fun c1 => ?_) (fun c1 => ?_)
      · refine lv_iload_n F.1 F.2.1 dX5_mistakesOf_30 rfl (lv_at hl 0 rfl) ?_
        refine h_top (show (cnt (fun z => misS σ z rn) 0 i : Int) = misRow σ rn from by rw [show i = σ 0 by omega]; rfl) ?_
        exact h_ireti F hr hlk hW hS rfl dX5_mistakesOf_31
      · refine lv_aload_n F.1 F.2.1 dX5_mistakesOf_12 rfl (lv_at hl 2 rfl) ?_
        refine lv_iload_n F.1 F.2.1 dX5_mistakesOf_13 rfl (lv_at hl 1 rfl) ?_
        refine lv_iload_n F.1 F.2.1 dX5_mistakesOf_14 rfl (lv_at hl 3 rfl) ?_
        refine cl_RX5_183 (As := [.int (iI i), .int (iI rn)]) (rest := []) F hl (c_X5_isMistake l X w a σ i rn hL (by omega)) hW hS hO rfl rfl ⟨Nat.le_of_ble_eq_true rfl, Nat.le_of_ble_eq_true rfl⟩ (Nat.le_of_ble_eq_true rfl) ⟨Nat.zero_le _, Nat.zero_le _⟩ dX5_mistakesOf_15 (fun w1 H locs hp2 hW hS => ?_)
        rw [hp2] at hW; clear hp2; clear w1
        refine h_ifeqb (tgt := 24) F dX5_mistakesOf_18 (by decide) (fun c3 => ?_) (fun c3 => ?_)
        · refine h_iinc (k := 1) (a := i) (lv' := [(3, .int (iI (i + 1))), (2, .int (iI (cnt (fun z => misS σ z rn) 0 i))), (0, .ref a), (1, .int (iI rn))]) F dX5_mistakesOf_24 hl rfl (by decide) rfl (fun ls hl => ?_)
          refine h_goto (tgt := 4) F dX5_mistakesOf_27 (by decide) ?_
          have eq4 : (cnt (fun z => misS σ z rn) 0 (i + 1) : Int) = cnt (fun z => misS σ z rn) 0 i := by first | exact cnt_t (by omega) ‹_› | exact cnt_f (by omega) ‹_›
          have eq5 : ((i + 1) : Int) = i + 1 := by first | rfl | omega | simp
          exact ih4 (i + 1)  (by omega) (by omega)   _ _ ls hW hS (by rw [eq4, eq5]; exact lv_sub hl [1, 0, 2, 3] rfl)
        · refine h_iinc (k := 0) (a := cnt (fun z => misS σ z rn) 0 i) (lv' := [(2, .int (iI ((cnt (fun z => misS σ z rn) 0 i) + 1))), (3, .int (iI i)), (0, .ref a), (1, .int (iI rn))]) F dX5_mistakesOf_21 hl rfl (by decide) rfl (fun ls hl => ?_)
          refine h_iinc (k := 1) (a := i) (lv' := [(3, .int (iI (i + 1))), (2, .int (iI ((cnt (fun z => misS σ z rn) 0 i) + 1))), (0, .ref a), (1, .int (iI rn))]) F dX5_mistakesOf_24 hl rfl (by decide) rfl (fun ls hl => ?_)
          refine h_goto (tgt := 4) F dX5_mistakesOf_27 (by decide) ?_
          have eq6 : (cnt (fun z => misS σ z rn) 0 (i + 1) : Int) = (cnt (fun z => misS σ z rn) 0 i) + 1 := by first | exact cnt_t (by omega) ‹_› | exact cnt_f (by omega) ‹_›
          have eq7 : ((i + 1) : Int) = i + 1 := by first | rfl | omega | simp
          exact ih4 (i + 1)  (by omega) (by omega)   _ _ ls hW hS (by rw [eq6, eq7]; exact lv_sub hl [1, 0, 2, 3] rfl)
  have eq8 : (cnt (fun z => misS σ z rn) 0 0 : Int) = 0 := cnt_0 _ _
  exact loop4 ((σ 0 - 0) + 1 : Int).toNat 0  (by omega) (by omega)   _ _ ls hW hS (by rw [eq8]; exact lv_sub hl [1, 0, 2, 3] rfl)
set_option maxHeartbeats 4000000 in
set_option maxRecDepth 100000 in
theorem c_X5_mistakesFrom (l : Launch) (X : Cx) (w : Wo) (a : Nat) (σ : Int → Int) (lo : Int) (hL : loomAt X w a σ) (hl : 0 ≤ lo ∧ lo ≤ σ 4) : CM l X yX5_mistakesFrom cX5_mistakesFrom 4 (some (.int)) (rmk 4 91) [.ref a, .int (iI lo)] w (some (.int (iI (misFrom σ lo)))) (fun w' => w' = w) := by
  refine CM.of (lv := [(0, .ref a), (1, .int (iI lo))]) (by decide) (Nat.le_of_ble_eq_true rfl) rfl (fun p e s m below meth c ls F hr hlk hin hW hS hl => ?_)
  have hZ0 := hW.2.2
  have hB9 := hW.1.2
  clear hin
  have hA := hL.1
  have hwf := hL.2.2
  have hO := hA.o
  have hg1 := hA.g1
  have hg3 := hA.g3
  have hF := hwf.1
  unfold WF0 at hF
  refine h_iconst F dX5_mistakesFrom_0 ?_
  refine lv_istore_n (lv' := [(2, .int (iI 0)), (0, .ref a), (1, .int (iI lo))]) F.1 F.2.1 dX5_mistakesFrom_1 rfl hl (by decide) rfl (fun ls hl => ?_)
  refine lv_iload_n F.1 F.2.1 dX5_mistakesFrom_2 rfl (lv_at hl 2 rfl) ?_
  refine lv_istore_n (lv' := [(3, .int (iI lo)), (2, .int (iI 0)), (0, .ref a), (1, .int (iI lo))]) F.1 F.2.1 dX5_mistakesFrom_3 rfl hl (by decide) rfl (fun ls hl => ?_)
  have loop4 : ∀ (n9 : Nat) (i : Int), (hrg : lo ≤ i ∧ i ≤ σ 4) → (hms : σ 4 - i < (n9 : Int)) → (H : Heap) → (locs : List Loc) → (ls : Array Slot) → Wd X w s H → va_S (cxA X) s.heap H locs → lv_has ls 4 [(2, .int (iI (sm (misRow σ) lo i))), (3, .int (iI i)), (0, .ref a), (1, .int (iI lo))] → W p l e (rmk 4 91) s m (List.toArray [.ref a, .int (iI lo)]) below meth c H locs 0 0 (MX X below (List.toArray [.ref a, .int (iI lo)]) s 0 0 (some (.int (iI (misFrom σ lo)))) (fun w' => w' = w)) (F0 m 4 ls []) := by
    intro n9
    induction n9 with
    | zero => intro i  hrg hms; exfalso; omega
    | succ n9 ih4 =>
      intro i  hrg hms   H locs ls hW hS hl
      refine lv_iload_n F.1 F.2.1 dX5_mistakesFrom_4 rfl (lv_at hl 1 rfl) ?_
      refine lv_aload_n F.1 F.2.1 dX5_mistakesFrom_5 rfl (lv_at hl 2 rfl) ?_
      refine gf_RX5_47 F hW hO rfl dX5_mistakesFrom_6 ?_
      refine h_icge (tgt := 26) F dX5_mistakesFrom_9 (by decide) (by omega) (fun c1 => ?_) (fun c1 => ?_)
      · refine lv_iload_n F.1 F.2.1 dX5_mistakesFrom_26 rfl (lv_at hl 0 rfl) ?_
        refine h_top (show (sm (misRow σ) lo i : Int) = misFrom σ lo from by rw [show i = σ 4 by omega]; rfl) ?_
        exact h_ireti F hr hlk hW hS rfl dX5_mistakesFrom_27
      · refine lv_iload_n F.1 F.2.1 dX5_mistakesFrom_12 rfl (lv_at hl 0 rfl) ?_
        refine lv_aload_n F.1 F.2.1 dX5_mistakesFrom_13 rfl (lv_at hl 2 rfl) ?_
        refine lv_iload_n F.1 F.2.1 dX5_mistakesFrom_14 rfl (lv_at hl 1 rfl) ?_
        refine cl_RX5_208 (As := [.int (iI i)]) (rest := [.int (iI (sm (misRow σ) lo i))]) F hl (c_X5_mistakesOf l X w a σ i hL (by omega)) hW hS hO rfl rfl ⟨Nat.le_of_ble_eq_true rfl, Nat.le_of_ble_eq_true rfl⟩ (Nat.le_of_ble_eq_true rfl) ⟨Nat.zero_le _, Nat.zero_le _⟩ dX5_mistakesFrom_15 (fun w1 H locs hp2 hW hS => ?_)
        rw [hp2] at hW; clear hp2; clear w1
        refine h_iadd (a := sm (misRow σ) lo i) (b := misRow σ i) F dX5_mistakesFrom_18 ?_
        refine lv_istore_n (lv' := [(2, .int (iI ((sm (misRow σ) lo i) + (misRow σ i)))), (3, .int (iI i)), (0, .ref a), (1, .int (iI lo))]) F.1 F.2.1 dX5_mistakesFrom_19 rfl hl (by decide) rfl (fun ls hl => ?_)
        refine h_iinc (k := 1) (a := i) (lv' := [(3, .int (iI (i + 1))), (2, .int (iI ((sm (misRow σ) lo i) + (misRow σ i)))), (0, .ref a), (1, .int (iI lo))]) F dX5_mistakesFrom_20 hl rfl (by decide) rfl (fun ls hl => ?_)
        refine h_goto (tgt := 4) F dX5_mistakesFrom_23 (by decide) ?_
        have eq3 : (sm (misRow σ) lo (i + 1) : Int) = (sm (misRow σ) lo i) + (misRow σ i) := sm_s _ (by omega)
        have eq4 : ((i + 1) : Int) = i + 1 := by first | rfl | omega | simp
        exact ih4 (i + 1)  (by omega) (by omega)   _ _ ls hW hS (by rw [eq3, eq4]; exact lv_sub hl [1, 0, 2, 3] rfl)
  have eq5 : (sm (misRow σ) lo lo : Int) = 0 := sm_0 _ _
  exact loop4 ((σ 4 - lo) + 1 : Int).toNat lo  (by omega) (by omega)   _ _ ls hW hS (by rw [eq5]; exact lv_sub hl [1, 0, 2, 3] rfl)
set_option maxHeartbeats 4000000 in
set_option maxRecDepth 100000 in
theorem c_X5_seenMistakes (l : Launch) (X : Cx) (w : Wo) (a : Nat) (σ : Int → Int) (hL : loomAt X w a σ) : CM l X yX5_seenMistakes cX5_seenMistakes 3 (some (.int)) (rmk 4 91) [.ref a] w (some (.int (iI (misSeen σ)))) (fun w' => w' = w) := by
  refine CM.of (lv := [(0, .ref a)]) (by decide) (Nat.le_of_ble_eq_true rfl) rfl (fun p e s m below meth c ls F hr hlk hin hW hS hl => ?_)
  have hZ0 := hW.2.2
  have hB9 := hW.1.2
  clear hin
  have hA := hL.1
  have hwf := hL.2.2
  have hO := hA.o
  have hg1 := hA.g1
  have hg3 := hA.g3
  have hF := hwf.1
  unfold WF0 at hF
  refine h_iconst F dX5_seenMistakes_0 ?_
  refine lv_istore_n (lv' := [(1, .int (iI 0)), (0, .ref a)]) F.1 F.2.1 dX5_seenMistakes_1 rfl hl (by decide) rfl (fun ls hl => ?_)
  refine h_iconst F dX5_seenMistakes_2 ?_
  refine lv_istore_n (lv' := [(2, .int (iI 0)), (1, .int (iI 0)), (0, .ref a)]) F.1 F.2.1 dX5_seenMistakes_3 rfl hl (by decide) rfl (fun ls hl => ?_)
  have loop4 : ∀ (n9 : Nat) (i : Int), (hrg : 0 ≤ i ∧ i ≤ σ 4) → (hms : σ 4 - i < (n9 : Int)) → (H : Heap) → (locs : List Loc) → (ls : Array Slot) → Wd X w s H → va_S (cxA X) s.heap H locs → lv_has ls 3 [(1, .int (iI (sm (fun z => if seenS σ z then misRow σ z else 0) 0 i))), (2, .int (iI i)), (0, .ref a)] → W p l e (rmk 4 91) s m (List.toArray [.ref a]) below meth c H locs 0 0 (MX X below (List.toArray [.ref a]) s 0 0 (some (.int (iI (misSeen σ)))) (fun w' => w' = w)) (F0 m 4 ls []) := by
    intro n9
    induction n9 with
    | zero => intro i  hrg hms; exfalso; omega
    | succ n9 ih4 =>
      intro i  hrg hms   H locs ls hW hS hl
      refine lv_iload_n F.1 F.2.1 dX5_seenMistakes_4 rfl (lv_at hl 1 rfl) ?_
      refine lv_aload_n F.1 F.2.1 dX5_seenMistakes_5 rfl (lv_at hl 2 rfl) ?_
      refine gf_RX5_47 F hW hO rfl dX5_seenMistakes_6 ?_
      refine h_icge (tgt := 34) F dX5_seenMistakes_9 (by decide) (by omega) (fun c1 => ?_) (fun c1 => ?_)
      · refine lv_iload_n F.1 F.2.1 dX5_seenMistakes_34 rfl (lv_at hl 0 rfl) ?_
        refine h_top (show (sm (fun z => if seenS σ z then misRow σ z else 0) 0 i : Int) = misSeen σ from by rw [show i = σ 4 by omega]; rfl) ?_
        exact h_ireti F hr hlk hW hS rfl dX5_seenMistakes_35
      · refine lv_aload_n F.1 F.2.1 dX5_seenMistakes_12 rfl (lv_at hl 2 rfl) ?_
        refine lv_iload_n F.1 F.2.1 dX5_seenMistakes_13 rfl (lv_at hl 1 rfl) ?_
        refine cl_RX5_211 (As := [.int (iI i)]) (rest := []) F hl (c_X5_isSeen l X w a σ i hA hwf (by omega)) hW hS hO rfl rfl ⟨Nat.le_of_ble_eq_true rfl, Nat.le_of_ble_eq_true rfl⟩ (Nat.le_of_ble_eq_true rfl) ⟨Nat.zero_le _, Nat.zero_le _⟩ dX5_seenMistakes_14 (fun w1 H locs hp2 hW hS => ?_)
        rw [hp2] at hW; clear hp2; clear w1
        refine h_ifeqb (tgt := 28) F dX5_seenMistakes_17 (by decide) (fun c3 => ?_) (fun c3 => ?_)
        · refine h_iinc (k := 1) (a := i) (lv' := [(2, .int (iI (i + 1))), (1, .int (iI (sm (fun z => if seenS σ z then misRow σ z else 0) 0 i))), (0, .ref a)]) F dX5_seenMistakes_28 hl rfl (by decide) rfl (fun ls hl => ?_)
          refine h_goto (tgt := 4) F dX5_seenMistakes_31 (by decide) ?_
          have eq4 : (sm (fun z => if seenS σ z then misRow σ z else 0) 0 (i + 1) : Int) = sm (fun z => if seenS σ z then misRow σ z else 0) 0 i := by rw [sm_s _ (by omega)]; first | rw [if_pos ‹seenS σ i = true›] | (rw [if_neg (by rw [‹seenS σ i = false›]; decide)]; omega)
          have eq5 : ((i + 1) : Int) = i + 1 := by first | rfl | omega | simp
          exact ih4 (i + 1)  (by omega) (by omega)   _ _ ls hW hS (by rw [eq4, eq5]; exact lv_sub hl [1, 0, 2] rfl)
        · refine lv_iload_n F.1 F.2.1 dX5_seenMistakes_20 rfl (lv_at hl 0 rfl) ?_
          refine lv_aload_n F.1 F.2.1 dX5_seenMistakes_21 rfl (lv_at hl 2 rfl) ?_
          refine lv_iload_n F.1 F.2.1 dX5_seenMistakes_22 rfl (lv_at hl 1 rfl) ?_
          refine cl_RX5_208 (As := [.int (iI i)]) (rest := [.int (iI (sm (fun z => if seenS σ z then misRow σ z else 0) 0 i))]) F hl (c_X5_mistakesOf l X w a σ i hL (by omega)) hW hS hO rfl rfl ⟨Nat.le_of_ble_eq_true rfl, Nat.le_of_ble_eq_true rfl⟩ (Nat.le_of_ble_eq_true rfl) ⟨Nat.zero_le _, Nat.zero_le _⟩ dX5_seenMistakes_23 (fun w1 H locs hp6 hW hS => ?_)
          rw [hp6] at hW; clear hp6; clear w1
          refine h_iadd (a := sm (fun z => if seenS σ z then misRow σ z else 0) 0 i) (b := misRow σ i) F dX5_seenMistakes_26 ?_
          refine lv_istore_n (lv' := [(1, .int (iI ((sm (fun z => if seenS σ z then misRow σ z else 0) 0 i) + (misRow σ i)))), (2, .int (iI i)), (0, .ref a)]) F.1 F.2.1 dX5_seenMistakes_27 rfl hl (by decide) rfl (fun ls hl => ?_)
          refine h_iinc (k := 1) (a := i) (lv' := [(2, .int (iI (i + 1))), (1, .int (iI ((sm (fun z => if seenS σ z then misRow σ z else 0) 0 i) + (misRow σ i)))), (0, .ref a)]) F dX5_seenMistakes_28 hl rfl (by decide) rfl (fun ls hl => ?_)
          refine h_goto (tgt := 4) F dX5_seenMistakes_31 (by decide) ?_
          have eq7 : (sm (fun z => if seenS σ z then misRow σ z else 0) 0 (i + 1) : Int) = (sm (fun z => if seenS σ z then misRow σ z else 0) 0 i) + (misRow σ i) := by rw [sm_s _ (by omega)]; first | rw [if_pos ‹seenS σ i = true›] | (rw [if_neg (by rw [‹seenS σ i = false›]; decide)]; omega)
          have eq8 : ((i + 1) : Int) = i + 1 := by first | rfl | omega | simp
          exact ih4 (i + 1)  (by omega) (by omega)   _ _ ls hW hS (by rw [eq7, eq8]; exact lv_sub hl [1, 0, 2] rfl)
  have eq9 : (sm (fun z => if seenS σ z then misRow σ z else 0) 0 0 : Int) = 0 := sm_0 _ _
  exact loop4 ((σ 4 - 0) + 1 : Int).toNat 0  (by omega) (by omega)   _ _ ls hW hS (by rw [eq9]; exact lv_sub hl [1, 0, 2] rfl)
set_option maxHeartbeats 4000000 in
set_option maxRecDepth 100000 in
theorem c_X5_faultyRows (l : Launch) (X : Cx) (w : Wo) (a : Nat) (σ : Int → Int) (hL : loomAt X w a σ) : CM l X yX5_faultyRows cX5_faultyRows 3 (some (.int)) (rmk 4 91) [.ref a] w (some (.int (iI (cnt (fun z => decide (0 < misRow σ z)) 0 (σ 4))))) (fun w' => w' = w) := by
  refine CM.of (lv := [(0, .ref a)]) (by decide) (Nat.le_of_ble_eq_true rfl) rfl (fun p e s m below meth c ls F hr hlk hin hW hS hl => ?_)
  have hZ0 := hW.2.2
  have hB9 := hW.1.2
  clear hin
  have hA := hL.1
  have hwf := hL.2.2
  have hO := hA.o
  have hg1 := hA.g1
  have hg3 := hA.g3
  have hF := hwf.1
  unfold WF0 at hF
  refine h_iconst F dX5_faultyRows_0 ?_
  refine lv_istore_n (lv' := [(1, .int (iI 0)), (0, .ref a)]) F.1 F.2.1 dX5_faultyRows_1 rfl hl (by decide) rfl (fun ls hl => ?_)
  refine h_iconst F dX5_faultyRows_2 ?_
  refine lv_istore_n (lv' := [(2, .int (iI 0)), (1, .int (iI 0)), (0, .ref a)]) F.1 F.2.1 dX5_faultyRows_3 rfl hl (by decide) rfl (fun ls hl => ?_)
  have loop4 : ∀ (n9 : Nat) (i : Int), (hrg : 0 ≤ i ∧ i ≤ σ 4) → (hms : σ 4 - i < (n9 : Int)) → (H : Heap) → (locs : List Loc) → (ls : Array Slot) → Wd X w s H → va_S (cxA X) s.heap H locs → lv_has ls 3 [(1, .int (iI (cnt (fun z => decide (0 < misRow σ z)) 0 i))), (2, .int (iI i)), (0, .ref a)] → W p l e (rmk 4 91) s m (List.toArray [.ref a]) below meth c H locs 0 0 (MX X below (List.toArray [.ref a]) s 0 0 (some (.int (iI (cnt (fun z => decide (0 < misRow σ z)) 0 (σ 4))))) (fun w' => w' = w)) (F0 m 4 ls []) := by
    intro n9
    induction n9 with
    | zero => intro i  hrg hms; exfalso; omega
    | succ n9 ih4 =>
      intro i  hrg hms   H locs ls hW hS hl
      refine lv_iload_n F.1 F.2.1 dX5_faultyRows_4 rfl (lv_at hl 1 rfl) ?_
      refine lv_aload_n F.1 F.2.1 dX5_faultyRows_5 rfl (lv_at hl 2 rfl) ?_
      refine gf_RX5_47 F hW hO rfl dX5_faultyRows_6 ?_
      refine h_icge (tgt := 29) F dX5_faultyRows_9 (by decide) (by omega) (fun c1 => ?_) (fun c1 => ?_)
      · refine lv_iload_n F.1 F.2.1 dX5_faultyRows_29 rfl (lv_at hl 0 rfl) ?_
        refine h_top (show (cnt (fun z => decide (0 < misRow σ z)) 0 i : Int) = cnt (fun z => decide (0 < misRow σ z)) 0 (σ 4) from by rw [show i = σ 4 by omega]) ?_
        exact h_ireti F hr hlk hW hS rfl dX5_faultyRows_30
      · refine lv_aload_n F.1 F.2.1 dX5_faultyRows_12 rfl (lv_at hl 2 rfl) ?_
        refine lv_iload_n F.1 F.2.1 dX5_faultyRows_13 rfl (lv_at hl 1 rfl) ?_
        refine cl_RX5_208 (As := [.int (iI i)]) (rest := []) F hl (c_X5_mistakesOf l X w a σ i hL (by omega)) hW hS hO rfl rfl ⟨Nat.le_of_ble_eq_true rfl, Nat.le_of_ble_eq_true rfl⟩ (Nat.le_of_ble_eq_true rfl) ⟨Nat.zero_le _, Nat.zero_le _⟩ dX5_faultyRows_14 (fun w1 H locs hp2 hW hS => ?_)
        rw [hp2] at hW; clear hp2; clear w1
        have hm := misRow_r hwf i
        refine h_ifle (tgt := 23) F dX5_faultyRows_17 (by decide) (by omega) (fun c3 => ?_) (fun c3 => ?_)
        · refine h_iinc (k := 1) (a := i) (lv' := [(2, .int (iI (i + 1))), (1, .int (iI (cnt (fun z => decide (0 < misRow σ z)) 0 i))), (0, .ref a)]) F dX5_faultyRows_23 hl rfl (by decide) rfl (fun ls hl => ?_)
          refine h_goto (tgt := 4) F dX5_faultyRows_26 (by decide) ?_
          have eq4 : (cnt (fun z => decide (0 < misRow σ z)) 0 (i + 1) : Int) = cnt (fun z => decide (0 < misRow σ z)) 0 i := by first | exact cnt_t (by omega) (decide_eq_true (by omega)) | exact cnt_f (by omega) (decide_eq_false (by omega))
          have eq5 : ((i + 1) : Int) = i + 1 := by first | rfl | omega | simp
          exact ih4 (i + 1)  (by omega) (by omega)   _ _ ls hW hS (by rw [eq4, eq5]; exact lv_sub hl [1, 0, 2] rfl)
        · refine h_iinc (k := 0) (a := cnt (fun z => decide (0 < misRow σ z)) 0 i) (lv' := [(1, .int (iI ((cnt (fun z => decide (0 < misRow σ z)) 0 i) + 1))), (2, .int (iI i)), (0, .ref a)]) F dX5_faultyRows_20 hl rfl (by decide) rfl (fun ls hl => ?_)
          refine h_iinc (k := 1) (a := i) (lv' := [(2, .int (iI (i + 1))), (1, .int (iI ((cnt (fun z => decide (0 < misRow σ z)) 0 i) + 1))), (0, .ref a)]) F dX5_faultyRows_23 hl rfl (by decide) rfl (fun ls hl => ?_)
          refine h_goto (tgt := 4) F dX5_faultyRows_26 (by decide) ?_
          have eq6 : (cnt (fun z => decide (0 < misRow σ z)) 0 (i + 1) : Int) = (cnt (fun z => decide (0 < misRow σ z)) 0 i) + 1 := by first | exact cnt_t (by omega) (decide_eq_true (by omega)) | exact cnt_f (by omega) (decide_eq_false (by omega))
          have eq7 : ((i + 1) : Int) = i + 1 := by first | rfl | omega | simp
          exact ih4 (i + 1)  (by omega) (by omega)   _ _ ls hW hS (by rw [eq6, eq7]; exact lv_sub hl [1, 0, 2] rfl)
  have eq8 : (cnt (fun z => decide (0 < misRow σ z)) 0 0 : Int) = 0 := cnt_0 _ _
  exact loop4 ((σ 4 - 0) + 1 : Int).toNat 0  (by omega) (by omega)   _ _ ls hW hS (by rw [eq8]; exact lv_sub hl [1, 0, 2] rfl)
set_option maxHeartbeats 4000000 in
set_option maxRecDepth 100000 in
theorem c_X5_lowestFaultyRow (l : Launch) (X : Cx) (w : Wo) (a : Nat) (σ : Int → Int) (b : Bool) (hL : loomAt X w a σ) : CM l X yX5_lowestFaultyRow cX5_lowestFaultyRow 3 (some (.int)) (rmk 4 91) [.ref a, .int (iI (bz b))] w (some (.int (iI (lowS σ b)))) (fun w' => w' = w) := by
  refine CM.of (lv := [(0, .ref a), (1, .int (iI (bz b)))]) (by decide) (Nat.le_of_ble_eq_true rfl) rfl (fun p e s m below meth c ls F hr hlk hin hW hS hl => ?_)
  have hZ0 := hW.2.2
  have hB9 := hW.1.2
  clear hin
  have hA := hL.1
  have hwf := hL.2.2
  have hO := hA.o
  have hg1 := hA.g1
  have hg3 := hA.g3
  have hF := hwf.1
  unfold WF0 at hF
  refine h_iconst F dX5_lowestFaultyRow_0 ?_
  refine lv_istore_n (lv' := [(2, .int (iI 0)), (0, .ref a), (1, .int (iI (bz b)))]) F.1 F.2.1 dX5_lowestFaultyRow_1 rfl hl (by decide) rfl (fun ls hl => ?_)
  have loop2 : ∀ (n9 : Nat) (i : Int), (hrg : 0 ≤ i ∧ i ≤ σ 4) → (hms : σ 4 - i < (n9 : Int)) → (hno : ∀ r, 0 ≤ r → r < i → lowP σ b r = false) → (H : Heap) → (locs : List Loc) → (ls : Array Slot) → Wd X w s H → va_S (cxA X) s.heap H locs → lv_has ls 3 [(2, .int (iI i)), (0, .ref a), (1, .int (iI (bz b)))] → W p l e (rmk 4 91) s m (List.toArray [.ref a, .int (iI (bz b))]) below meth c H locs 0 0 (MX X below (List.toArray [.ref a, .int (iI (bz b))]) s 0 0 (some (.int (iI (lowS σ b)))) (fun w' => w' = w)) (F0 m 2 ls []) := by
    intro n9
    induction n9 with
    | zero => intro i  hrg hms; exfalso; omega
    | succ n9 ih2 =>
      intro i  hrg hms  hno H locs ls hW hS hl
      refine lv_iload_n F.1 F.2.1 dX5_lowestFaultyRow_2 rfl (lv_at hl 0 rfl) ?_
      refine lv_aload_n F.1 F.2.1 dX5_lowestFaultyRow_3 rfl (lv_at hl 1 rfl) ?_
      refine gf_RX5_47 F hW hO rfl dX5_lowestFaultyRow_4 ?_
      refine h_icge (tgt := 38) F dX5_lowestFaultyRow_7 (by decide) (by omega) (fun c1 => ?_) (fun c1 => ?_)
      · refine h_iconst F dX5_lowestFaultyRow_38 ?_
        refine h_top (show ((-1) : Int) = lowS σ b from by unfold lowS; rw [fi_none (by omega) (fun r h1 h2 => hno r h1 (by omega)), if_neg (by omega)]) ?_
        exact h_ireti F hr hlk hW hS rfl dX5_lowestFaultyRow_39
      · refine lv_iload_n F.1 F.2.1 dX5_lowestFaultyRow_10 rfl (lv_at hl 2 rfl) ?_
        refine h_ifeqb (tgt := 22) F dX5_lowestFaultyRow_11 (by decide) (fun c2 => ?_) (fun c2 => ?_)
        · refine lv_aload_n F.1 F.2.1 dX5_lowestFaultyRow_22 rfl (lv_at hl 1 rfl) ?_
          refine lv_iload_n F.1 F.2.1 dX5_lowestFaultyRow_23 rfl (lv_at hl 0 rfl) ?_
          refine cl_RX5_208 (As := [.int (iI i)]) (rest := []) F hl (c_X5_mistakesOf l X w a σ i hL (by omega)) hW hS hO rfl rfl ⟨Nat.le_of_ble_eq_true rfl, Nat.le_of_ble_eq_true rfl⟩ (Nat.le_of_ble_eq_true rfl) ⟨Nat.zero_le _, Nat.zero_le _⟩ dX5_lowestFaultyRow_24 (fun w1 H locs hp3 hW hS => ?_)
          rw [hp3] at hW; clear hp3; clear w1
          have hm := misRow_r hwf i
          refine h_ifle (tgt := 32) F dX5_lowestFaultyRow_27 (by decide) (by omega) (fun c4 => ?_) (fun c4 => ?_)
          · refine h_iinc (k := 0) (a := i) (lv' := [(2, .int (iI (i + 1))), (0, .ref a), (1, .int (iI (bz b)))]) F dX5_lowestFaultyRow_32 hl rfl (by decide) rfl (fun ls hl => ?_)
            refine h_goto (tgt := 2) F dX5_lowestFaultyRow_35 (by decide) ?_
            have eq5 : ((i + 1) : Int) = i + 1 := by first | rfl | omega | simp
            exact ih2 (i + 1)  (by omega) (by omega)  (fun r h1 h2 => (by by_cases hj : r = i; (rw [hj]; unfold lowP; first | (rw [‹seenS σ i = false›, ‹b = true›]; rfl) | (rw [decide_eq_false (by omega)]; simp)); exact hno r h1 (by omega))) _ _ ls hW hS (by rw [eq5]; exact lv_sub hl [0, 1, 2] rfl)
          · refine lv_iload_n F.1 F.2.1 dX5_lowestFaultyRow_30 rfl (lv_at hl 0 rfl) ?_
            refine h_top (show (i : Int) = lowS σ b from by unfold lowS; rw [fi_hit (i := i) (by omega) (by omega) hno (by unfold lowP; rw [decide_eq_true (by omega)]; first | (rw [‹b = false›]; rfl) | (rw [‹seenS σ i = true›]; simp))]; rw [if_pos (by omega)]) ?_
            exact h_ireti F hr hlk hW hS rfl dX5_lowestFaultyRow_31
        · refine lv_aload_n F.1 F.2.1 dX5_lowestFaultyRow_14 rfl (lv_at hl 1 rfl) ?_
          refine lv_iload_n F.1 F.2.1 dX5_lowestFaultyRow_15 rfl (lv_at hl 0 rfl) ?_
          refine cl_RX5_211 (As := [.int (iI i)]) (rest := []) F hl (c_X5_isSeen l X w a σ i hA hwf (by omega)) hW hS hO rfl rfl ⟨Nat.le_of_ble_eq_true rfl, Nat.le_of_ble_eq_true rfl⟩ (Nat.le_of_ble_eq_true rfl) ⟨Nat.zero_le _, Nat.zero_le _⟩ dX5_lowestFaultyRow_16 (fun w1 H locs hp6 hW hS => ?_)
          rw [hp6] at hW; clear hp6; clear w1
          refine h_ifeqb (tgt := 32) F dX5_lowestFaultyRow_19 (by decide) (fun c7 => ?_) (fun c7 => ?_)
          · refine h_iinc (k := 0) (a := i) (lv' := [(2, .int (iI (i + 1))), (0, .ref a), (1, .int (iI (bz b)))]) F dX5_lowestFaultyRow_32 hl rfl (by decide) rfl (fun ls hl => ?_)
            refine h_goto (tgt := 2) F dX5_lowestFaultyRow_35 (by decide) ?_
            have eq8 : ((i + 1) : Int) = i + 1 := by first | rfl | omega | simp
            exact ih2 (i + 1)  (by omega) (by omega)  (fun r h1 h2 => (by by_cases hj : r = i; (rw [hj]; unfold lowP; first | (rw [‹seenS σ i = false›, ‹b = true›]; rfl) | (rw [decide_eq_false (by omega)]; simp)); exact hno r h1 (by omega))) _ _ ls hW hS (by rw [eq8]; exact lv_sub hl [0, 1, 2] rfl)
          · refine lv_aload_n F.1 F.2.1 dX5_lowestFaultyRow_22 rfl (lv_at hl 1 rfl) ?_
            refine lv_iload_n F.1 F.2.1 dX5_lowestFaultyRow_23 rfl (lv_at hl 0 rfl) ?_
            refine cl_RX5_208 (As := [.int (iI i)]) (rest := []) F hl (c_X5_mistakesOf l X w a σ i hL (by omega)) hW hS hO rfl rfl ⟨Nat.le_of_ble_eq_true rfl, Nat.le_of_ble_eq_true rfl⟩ (Nat.le_of_ble_eq_true rfl) ⟨Nat.zero_le _, Nat.zero_le _⟩ dX5_lowestFaultyRow_24 (fun w1 H locs hp9 hW hS => ?_)
            rw [hp9] at hW; clear hp9; clear w1
            have hm := misRow_r hwf i
            refine h_ifle (tgt := 32) F dX5_lowestFaultyRow_27 (by decide) (by omega) (fun c10 => ?_) (fun c10 => ?_)
            · refine h_iinc (k := 0) (a := i) (lv' := [(2, .int (iI (i + 1))), (0, .ref a), (1, .int (iI (bz b)))]) F dX5_lowestFaultyRow_32 hl rfl (by decide) rfl (fun ls hl => ?_)
              refine h_goto (tgt := 2) F dX5_lowestFaultyRow_35 (by decide) ?_
              have eq11 : ((i + 1) : Int) = i + 1 := by first | rfl | omega | simp
              exact ih2 (i + 1)  (by omega) (by omega)  (fun r h1 h2 => (by by_cases hj : r = i; (rw [hj]; unfold lowP; first | (rw [‹seenS σ i = false›, ‹b = true›]; rfl) | (rw [decide_eq_false (by omega)]; simp)); exact hno r h1 (by omega))) _ _ ls hW hS (by rw [eq11]; exact lv_sub hl [0, 1, 2] rfl)
            · refine lv_iload_n F.1 F.2.1 dX5_lowestFaultyRow_30 rfl (lv_at hl 0 rfl) ?_
              refine h_top (show (i : Int) = lowS σ b from by unfold lowS; rw [fi_hit (i := i) (by omega) (by omega) hno (by unfold lowP; rw [decide_eq_true (by omega)]; first | (rw [‹b = false›]; rfl) | (rw [‹seenS σ i = true›]; simp))]; rw [if_pos (by omega)]) ?_
              exact h_ireti F hr hlk hW hS rfl dX5_lowestFaultyRow_31
  exact loop2 ((σ 4 - 0) + 1 : Int).toNat 0  (by omega) (by omega)  (fun k h1 h2 => by omega) _ _ ls hW hS (lv_sub hl [0, 1, 2] rfl)
set_option maxHeartbeats 4000000 in
set_option maxRecDepth 100000 in
theorem c_X5_rowsDownTo (l : Launch) (X : Cx) (w : Wo) (a : Nat) (σ : Int → Int) (rn : Int) (hA : lmA X w a σ) (hwf : WF σ) (hr : -1 ≤ rn ∧ rn ≤ 30) : CM l X yX5_rowsDownTo cX5_rowsDownTo 2 (some (.int)) (rmk 0 0) [.ref a, .int (iI rn)] w (some (.int (iI (if rn = -1 then 0 else σ 4 - rn)))) (fun w' => w' = w) := by
  refine CM.of (lv := [(0, .ref a), (1, .int (iI rn))]) (by decide) (Nat.le_of_ble_eq_true rfl) rfl (fun p e s m below meth c ls F hr hlk hin hW hS hl => ?_)
  have hZ0 := hW.2.2
  have hB9 := hW.1.2
  clear hin
  have hO := hA.o
  have hg1 := hA.g1
  have hg3 := hA.g3
  have hF := hwf.1
  unfold WF0 at hF
  refine lv_iload_n F.1 F.2.1 dX5_rowsDownTo_0 rfl (lv_at hl 1 rfl) ?_
  refine h_iconst F dX5_rowsDownTo_1 ?_
  refine h_icne (tgt := 9) F dX5_rowsDownTo_2 (by decide) (by omega) (fun c1 => ?_) (fun c1 => ?_)
  · refine lv_aload_n F.1 F.2.1 dX5_rowsDownTo_9 rfl (lv_at hl 0 rfl) ?_
    refine gf_RX5_47 F hW hO rfl dX5_rowsDownTo_10 ?_
    refine lv_iload_n F.1 F.2.1 dX5_rowsDownTo_13 rfl (lv_at hl 1 rfl) ?_
    refine h_isub (a := σ 4) (b := rn) F dX5_rowsDownTo_14 ?_
    refine h_top (show ((σ 4) - rn : Int) = (if rn = -1 then 0 else σ 4 - rn) from by split <;> first | rfl | omega) ?_
    exact h_ireti F hr hlk hW hS rfl dX5_rowsDownTo_15
  · refine h_iconst F dX5_rowsDownTo_5 ?_
    refine h_goto (tgt := 15) F dX5_rowsDownTo_6 (by decide) ?_
    refine h_top (show (0 : Int) = (if rn = -1 then 0 else σ 4 - rn) from by split <;> first | rfl | omega) ?_
    exact h_ireti F hr hlk hW hS rfl dX5_rowsDownTo_15
set_option maxHeartbeats 4000000 in
set_option maxRecDepth 100000 in
theorem c_X5_colourWhenWoven (l : Launch) (X : Cx) (w : Wo) (a : Nat) (σ : Int → Int) (cn rn : Int) (hL : loomAt X w a σ) (hc : 0 ≤ cn ∧ cn < σ 0 ∧ 0 ≤ rn ∧ rn < σ 1) : CM l X yX5_colourWhenWoven cX5_colourWhenWoven 4 (some (.int)) (rmk 2 46) [.ref a, .int (iI cn), .int (iI rn)] w (some (.int (iI (wvS σ cn rn)))) (fun w' => w' = w) := by
  refine CM.of (lv := [(0, .ref a), (1, .int (iI cn)), (2, .int (iI rn))]) (by decide) (Nat.le_of_ble_eq_true rfl) rfl (fun p e s m below meth c ls F hr hlk hin hW hS hl => ?_)
  have hZ0 := hW.2.2
  have hB9 := hW.1.2
  clear hin
  have hA := hL.1
  have hwf := hL.2.2
  have hO := hA.o
  have hg1 := hA.g1
  have hg3 := hA.g3
  have hF := hwf.1
  unfold WF0 at hF
  have hce := hwf.2.2.2.1 cn rn (by omega) (by omega) (by omega) (by omega)
  refine lv_aload_n F.1 F.2.1 dX5_colourWhenWoven_0 rfl (lv_at hl 0 rfl) ?_
  refine gf_RX5_12 F hW hO rfl dX5_colourWhenWoven_1 ?_
  refine lv_iload_n F.1 F.2.1 dX5_colourWhenWoven_4 rfl (lv_at hl 1 rfl) ?_
  refine lv_iload_n F.1 F.2.1 dX5_colourWhenWoven_5 rfl (lv_at hl 2 rfl) ?_
  refine cl_RX5_139 (As := [.int (iI cn), .int (iI rn)]) (rest := []) F hl (c_get_cl l X w a σ cn rn hA hwf (by omega)) hW hS hg1 rfl rfl ⟨Nat.le_of_ble_eq_true rfl, Nat.le_of_ble_eq_true rfl⟩ (Nat.le_of_ble_eq_true rfl) ⟨Nat.zero_le _, Nat.zero_le _⟩ dX5_colourWhenWoven_6 (fun w1 H locs hp1 hW hS => ?_)
  rw [hp1] at hW; clear hp1; clear w1
  refine lv_istore_n (lv' := [(3, .int (iI (cellS σ cn rn))), (0, .ref a), (1, .int (iI cn)), (2, .int (iI rn))]) F.1 F.2.1 dX5_colourWhenWoven_9 rfl hl (by decide) rfl (fun ls hl => ?_)
  refine lv_iload_n F.1 F.2.1 dX5_colourWhenWoven_10 rfl (lv_at hl 0 rfl) ?_
  refine h_iconst F dX5_colourWhenWoven_11 ?_
  refine h_icne (tgt := 27) F dX5_colourWhenWoven_12 (by decide) (by omega) (fun c2 => ?_) (fun c2 => ?_)
  · refine lv_iload_n F.1 F.2.1 dX5_colourWhenWoven_27 rfl (lv_at hl 0 rfl) ?_
    refine h_top (show (cellS σ cn rn : Int) = wvS σ cn rn from by unfold wvS; split <;> first | rfl | omega) ?_
    exact h_ireti F hr hlk hW hS rfl dX5_colourWhenWoven_28
  · refine lv_aload_n F.1 F.2.1 dX5_colourWhenWoven_15 rfl (lv_at hl 1 rfl) ?_
    refine gf_RX5_18 F hW hO rfl dX5_colourWhenWoven_16 ?_
    refine lv_iload_n F.1 F.2.1 dX5_colourWhenWoven_19 rfl (lv_at hl 2 rfl) ?_
    refine lv_iload_n F.1 F.2.1 dX5_colourWhenWoven_20 rfl (lv_at hl 3 rfl) ?_
    refine cl_RX5_139 (As := [.int (iI cn), .int (iI rn)]) (rest := []) F hl (c_get_pl l X w a σ cn rn hL (by omega)) hW hS hg3 rfl rfl ⟨Nat.le_of_ble_eq_true rfl, Nat.le_of_ble_eq_true rfl⟩ (Nat.le_of_ble_eq_true rfl) ⟨Nat.zero_le _, Nat.zero_le _⟩ dX5_colourWhenWoven_21 (fun w1 H locs hp3 hW hS => ?_)
    rw [hp3] at hW; clear hp3; clear w1
    refine h_goto (tgt := 28) F dX5_colourWhenWoven_24 (by decide) ?_
    refine h_top (show (desS σ cn rn : Int) = wvS σ cn rn from by unfold wvS; split <;> first | rfl | omega) ?_
    exact h_ireti F hr hlk hW hS rfl dX5_colourWhenWoven_28
set_option maxHeartbeats 4000000 in
set_option maxRecDepth 100000 in
theorem c_X5_joinsOf (l : Launch) (X : Cx) (w : Wo) (a : Nat) (σ : Int → Int) (rn : Int) (hL : loomAt X w a σ) (hr : 0 ≤ rn ∧ rn < σ 1) : CM l X yX5_joinsOf cX5_joinsOf 4 (some (.int)) (rmk 3 69) [.ref a, .int (iI rn)] w (some (.int (iI (cnt (fun z => decide (wvS σ z rn ≠ wvS σ (z + 1) rn)) 0 (σ 0 - 1))))) (fun w' => w' = w) := by
  refine CM.of (lv := [(0, .ref a), (1, .int (iI rn))]) (by decide) (Nat.le_of_ble_eq_true rfl) rfl (fun p e s m below meth c ls F hr hlk hin hW hS hl => ?_)
  have hZ0 := hW.2.2
  have hB9 := hW.1.2
  clear hin
  have hA := hL.1
  have hwf := hL.2.2
  have hO := hA.o
  have hg1 := hA.g1
  have hg3 := hA.g3
  have hF := hwf.1
  unfold WF0 at hF
  refine h_iconst F dX5_joinsOf_0 ?_
  refine lv_istore_n (lv' := [(2, .int (iI 0)), (0, .ref a), (1, .int (iI rn))]) F.1 F.2.1 dX5_joinsOf_1 rfl hl (by decide) rfl (fun ls hl => ?_)
  refine h_iconst F dX5_joinsOf_2 ?_
  refine lv_istore_n (lv' := [(3, .int (iI 0)), (2, .int (iI 0)), (0, .ref a), (1, .int (iI rn))]) F.1 F.2.1 dX5_joinsOf_3 rfl hl (by decide) rfl (fun ls hl => ?_)
  have loop4 : ∀ (n9 : Nat) (i : Int), (hrg : 0 ≤ i ∧ i ≤ σ 0 - 1) → (hms : σ 0 - 1 - i < (n9 : Int)) → (H : Heap) → (locs : List Loc) → (ls : Array Slot) → Wd X w s H → va_S (cxA X) s.heap H locs → lv_has ls 4 [(2, .int (iI (cnt (fun z => decide (wvS σ z rn ≠ wvS σ (z + 1) rn)) 0 i))), (3, .int (iI i)), (0, .ref a), (1, .int (iI rn))] → W p l e (rmk 3 69) s m (List.toArray [.ref a, .int (iI rn)]) below meth c H locs 0 0 (MX X below (List.toArray [.ref a, .int (iI rn)]) s 0 0 (some (.int (iI (cnt (fun z => decide (wvS σ z rn ≠ wvS σ (z + 1) rn)) 0 (σ 0 - 1))))) (fun w' => w' = w)) (F0 m 4 ls []) := by
    intro n9
    induction n9 with
    | zero => intro i  hrg hms; exfalso; omega
    | succ n9 ih4 =>
      intro i  hrg hms   H locs ls hW hS hl
      refine lv_iload_n F.1 F.2.1 dX5_joinsOf_4 rfl (lv_at hl 1 rfl) ?_
      refine lv_aload_n F.1 F.2.1 dX5_joinsOf_5 rfl (lv_at hl 2 rfl) ?_
      refine gf_RX5_40 F hW hO rfl dX5_joinsOf_6 ?_
      refine h_iconst F dX5_joinsOf_9 ?_
      refine h_isub (a := σ 0) (b := 1) F dX5_joinsOf_10 ?_
      refine h_icge (tgt := 40) F dX5_joinsOf_11 (by decide) (by omega) (fun c1 => ?_) (fun c1 => ?_)
      · refine lv_iload_n F.1 F.2.1 dX5_joinsOf_40 rfl (lv_at hl 0 rfl) ?_
        refine h_top (show (cnt (fun z => decide (wvS σ z rn ≠ wvS σ (z + 1) rn)) 0 i : Int) = cnt (fun z => decide (wvS σ z rn ≠ wvS σ (z + 1) rn)) 0 (σ 0 - 1) from by rw [show i = σ 0 - 1 by omega]) ?_
        exact h_ireti F hr hlk hW hS rfl dX5_joinsOf_41
      · refine lv_aload_n F.1 F.2.1 dX5_joinsOf_14 rfl (lv_at hl 2 rfl) ?_
        refine lv_iload_n F.1 F.2.1 dX5_joinsOf_15 rfl (lv_at hl 1 rfl) ?_
        refine lv_iload_n F.1 F.2.1 dX5_joinsOf_16 rfl (lv_at hl 3 rfl) ?_
        refine cl_RX5_215 (As := [.int (iI i), .int (iI rn)]) (rest := []) F hl (c_X5_colourWhenWoven l X w a σ i rn hL (by omega)) hW hS hO rfl rfl ⟨Nat.le_of_ble_eq_true rfl, Nat.le_of_ble_eq_true rfl⟩ (Nat.le_of_ble_eq_true rfl) ⟨Nat.zero_le _, Nat.zero_le _⟩ dX5_joinsOf_17 (fun w1 H locs hp2 hW hS => ?_)
        rw [hp2] at hW; clear hp2; clear w1
        refine lv_aload_n F.1 F.2.1 dX5_joinsOf_20 rfl (lv_at hl 2 rfl) ?_
        refine lv_iload_n F.1 F.2.1 dX5_joinsOf_21 rfl (lv_at hl 1 rfl) ?_
        refine h_iconst F dX5_joinsOf_22 ?_
        refine h_iadd (a := i) (b := 1) F dX5_joinsOf_23 ?_
        refine lv_iload_n F.1 F.2.1 dX5_joinsOf_24 rfl (lv_at hl 3 rfl) ?_
        refine cl_RX5_215 (As := [.int (iI (i + 1)), .int (iI rn)]) (rest := [.int (iI (wvS σ i rn))]) F hl (c_X5_colourWhenWoven l X w a σ (i + 1) rn hL (by omega)) hW hS hO rfl rfl ⟨Nat.le_of_ble_eq_true rfl, Nat.le_of_ble_eq_true rfl⟩ (Nat.le_of_ble_eq_true rfl) ⟨Nat.zero_le _, Nat.zero_le _⟩ dX5_joinsOf_25 (fun w1 H locs hp3 hW hS => ?_)
        rw [hp3] at hW; clear hp3; clear w1
        have hj1 := wvS_r hwf i rn (by omega) (by omega)
        have hj2 := wvS_r hwf (i + 1) rn (by omega) (by omega)
        refine h_iceq (tgt := 34) F dX5_joinsOf_28 (by decide) (by omega) (fun c4 => ?_) (fun c4 => ?_)
        · refine h_iinc (k := 1) (a := i) (lv' := [(3, .int (iI (i + 1))), (2, .int (iI (cnt (fun z => decide (wvS σ z rn ≠ wvS σ (z + 1) rn)) 0 i))), (0, .ref a), (1, .int (iI rn))]) F dX5_joinsOf_34 hl rfl (by decide) rfl (fun ls hl => ?_)
          refine h_goto (tgt := 4) F dX5_joinsOf_37 (by decide) ?_
          have eq5 : (cnt (fun z => decide (wvS σ z rn ≠ wvS σ (z + 1) rn)) 0 (i + 1) : Int) = cnt (fun z => decide (wvS σ z rn ≠ wvS σ (z + 1) rn)) 0 i := by first | exact cnt_t (by omega) (decide_eq_true ‹_›) | exact cnt_f (by omega) (decide_eq_false (by omega))
          have eq6 : ((i + 1) : Int) = i + 1 := by first | rfl | omega | simp
          exact ih4 (i + 1)  (by omega) (by omega)   _ _ ls hW hS (by rw [eq5, eq6]; exact lv_sub hl [1, 0, 2, 3] rfl)
        · refine h_iinc (k := 0) (a := cnt (fun z => decide (wvS σ z rn ≠ wvS σ (z + 1) rn)) 0 i) (lv' := [(2, .int (iI ((cnt (fun z => decide (wvS σ z rn ≠ wvS σ (z + 1) rn)) 0 i) + 1))), (3, .int (iI i)), (0, .ref a), (1, .int (iI rn))]) F dX5_joinsOf_31 hl rfl (by decide) rfl (fun ls hl => ?_)
          refine h_iinc (k := 1) (a := i) (lv' := [(3, .int (iI (i + 1))), (2, .int (iI ((cnt (fun z => decide (wvS σ z rn ≠ wvS σ (z + 1) rn)) 0 i) + 1))), (0, .ref a), (1, .int (iI rn))]) F dX5_joinsOf_34 hl rfl (by decide) rfl (fun ls hl => ?_)
          refine h_goto (tgt := 4) F dX5_joinsOf_37 (by decide) ?_
          have eq7 : (cnt (fun z => decide (wvS σ z rn ≠ wvS σ (z + 1) rn)) 0 (i + 1) : Int) = (cnt (fun z => decide (wvS σ z rn ≠ wvS σ (z + 1) rn)) 0 i) + 1 := by first | exact cnt_t (by omega) (decide_eq_true ‹_›) | exact cnt_f (by omega) (decide_eq_false (by omega))
          have eq8 : ((i + 1) : Int) = i + 1 := by first | rfl | omega | simp
          exact ih4 (i + 1)  (by omega) (by omega)   _ _ ls hW hS (by rw [eq7, eq8]; exact lv_sub hl [1, 0, 2, 3] rfl)
  have eq9 : (cnt (fun z => decide (wvS σ z rn ≠ wvS σ (z + 1) rn)) 0 0 : Int) = 0 := cnt_0 _ _
  exact loop4 ((σ 0 - 1 - 0) + 1 : Int).toNat 0  (by omega) (by omega)   _ _ ls hW hS (by rw [eq9]; exact lv_sub hl [1, 0, 2, 3] rfl)
set_option maxHeartbeats 4000000 in
set_option maxRecDepth 100000 in
theorem c_X5_isJoin (l : Launch) (X : Cx) (w : Wo) (a : Nat) (σ : Int → Int) (cn rn : Int) (hA : lmA X w a σ) (hwf : WF σ) (hc : 0 ≤ cn ∧ cn + 1 < σ 0 ∧ 0 ≤ rn ∧ rn < σ 1) : CM l X yX5_isJoin cX5_isJoin 3 (some (.boolean)) (rmk 2 46) [.ref a, .int (iI cn), .int (iI rn)] w (some (.int (iI (bz (decide (cellS σ cn rn ≠ cellS σ (cn + 1) rn)))))) (fun w' => w' = w) := by
  refine CM.of (lv := [(0, .ref a), (1, .int (iI cn)), (2, .int (iI rn))]) (by decide) (Nat.le_of_ble_eq_true rfl) rfl (fun p e s m below meth c ls F hr hlk hin hW hS hl => ?_)
  have hZ0 := hW.2.2
  have hB9 := hW.1.2
  clear hin
  have hO := hA.o
  have hg1 := hA.g1
  have hg3 := hA.g3
  have hF := hwf.1
  unfold WF0 at hF
  have hce := hwf.2.2.2.1 cn rn (by omega) (by omega) (by omega) (by omega)
  have hce2 := hwf.2.2.2.1 (cn + 1) rn (by omega) (by omega) (by omega) (by omega)
  refine lv_aload_n F.1 F.2.1 dX5_isJoin_0 rfl (lv_at hl 0 rfl) ?_
  refine gf_RX5_12 F hW hO rfl dX5_isJoin_1 ?_
  refine lv_iload_n F.1 F.2.1 dX5_isJoin_4 rfl (lv_at hl 1 rfl) ?_
  refine lv_iload_n F.1 F.2.1 dX5_isJoin_5 rfl (lv_at hl 2 rfl) ?_
  refine cl_RX5_139 (As := [.int (iI cn), .int (iI rn)]) (rest := []) F hl (c_get_cl l X w a σ cn rn hA hwf (by omega)) hW hS hg1 rfl rfl ⟨Nat.le_of_ble_eq_true rfl, Nat.le_of_ble_eq_true rfl⟩ (Nat.le_of_ble_eq_true rfl) ⟨Nat.zero_le _, Nat.zero_le _⟩ dX5_isJoin_6 (fun w1 H locs hp1 hW hS => ?_)
  rw [hp1] at hW; clear hp1; clear w1
  refine lv_aload_n F.1 F.2.1 dX5_isJoin_9 rfl (lv_at hl 0 rfl) ?_
  refine gf_RX5_12 F hW hO rfl dX5_isJoin_10 ?_
  refine lv_iload_n F.1 F.2.1 dX5_isJoin_13 rfl (lv_at hl 1 rfl) ?_
  refine h_iconst F dX5_isJoin_14 ?_
  refine h_iadd (a := cn) (b := 1) F dX5_isJoin_15 ?_
  refine lv_iload_n F.1 F.2.1 dX5_isJoin_16 rfl (lv_at hl 2 rfl) ?_
  refine cl_RX5_139 (As := [.int (iI (cn + 1)), .int (iI rn)]) (rest := [.int (iI (cellS σ cn rn))]) F hl (c_get_cl l X w a σ (cn + 1) rn hA hwf (by omega)) hW hS hg1 rfl rfl ⟨Nat.le_of_ble_eq_true rfl, Nat.le_of_ble_eq_true rfl⟩ (Nat.le_of_ble_eq_true rfl) ⟨Nat.zero_le _, Nat.zero_le _⟩ dX5_isJoin_17 (fun w1 H locs hp2 hW hS => ?_)
  rw [hp2] at hW; clear hp2; clear w1
  refine h_iceq (tgt := 27) F dX5_isJoin_20 (by decide) (by omega) (fun c3 => ?_) (fun c3 => ?_)
  · refine h_iconst F dX5_isJoin_27 ?_
    refine h_top (show (0 : Int) = bz (decide (cellS σ cn rn ≠ cellS σ (cn + 1) rn)) from bzf (by first | exact decide_eq_false (by omega) | (simp only [Bool.and_eq_false_iff, Bool.or_eq_false_iff, decide_eq_false_iff_not]; omega) | simp_all)) ?_
    exact h_iretz F hr hlk hW hS rfl dX5_isJoin_28
  · refine h_iconst F dX5_isJoin_23 ?_
    refine h_goto (tgt := 28) F dX5_isJoin_24 (by decide) ?_
    refine h_top (show (1 : Int) = bz (decide (cellS σ cn rn ≠ cellS σ (cn + 1) rn)) from bzt (by first | exact decide_eq_true (by omega) | (simp only [Bool.and_eq_true, Bool.or_eq_true, decide_eq_true_eq]; omega) | simp_all)) ?_
    exact h_iretz F hr hlk hW hS rfl dX5_isJoin_28
