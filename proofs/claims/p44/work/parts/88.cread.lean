set_option maxHeartbeats 4000000 in
set_option maxRecDepth 100000 in
theorem c_X5_mistakesInBox (l : Launch) (X : Cx) (w : Wo) (a : Nat) (σ : Int → Int) (q : Nat) (k : Int) (hL : loomAt X w a σ) (hq : capAt X w q σ k) (hok : capOK σ k) : CM l X yX5_mistakesInBox cX5_mistakesInBox 6 (some (.int)) (rmk 3 68) [.ref a, .ref q] w (some (.int (iI (sm (fun z => cnt (fun y => misS σ (capCol σ k (cp σ k 2 + z)) (cp σ k 3 + y)) 0 5) 0 (4 * cp σ k 0 - 1))))) (fun w' => w' = w) := by
  refine CM.of (lv := [(0, .ref a), (1, .ref q)]) (by decide) (Nat.le_of_ble_eq_true rfl) rfl (fun p e s m below meth c ls F hr hlk hin hW hS hl => ?_)
  have hZ0 := hW.2.2
  have hB9 := hW.1.2
  clear hin
  have hA := hL.1
  have hwf := hL.2.2
  have hO := hA.o
  have hg1 := hA.g1
  have hg3 := hA.g3
  have hF := hwf.1
  unfold WF0 at hF
  have hqo := hq.o
  have hq9 := hq
  obtain ⟨fq, hqv, hqf⟩ := hq9
  have hok0 := hok
  obtain ⟨m1, m2, m3, m4, m5, m6⟩ := hok0
  have hwf0 := hwf.1
  have hlf : 0 ≤ (if cp σ k 1 = 0 then cp σ k 2 else σ 0 - cp σ k 2 - (4 * cp σ k 0 - 1)) ∧ (if cp σ k 1 = 0 then cp σ k 2 else σ 0 - cp σ k 2 - (4 * cp σ k 0 - 1)) + (4 * cp σ k 0 - 1) ≤ σ 0 := by split <;> omega
  obtain ⟨lf, hlfe⟩ : ∃ z, z = (if cp σ k 1 = 0 then cp σ k 2 else σ 0 - cp σ k 2 - (4 * cp σ k 0 - 1)) := ⟨_, rfl⟩
  rw [← hlfe] at hlf
  refine lv_aload_n F.1 F.2.1 dX5_mistakesInBox_0 rfl (lv_at hl 1 rfl) ?_
  refine lv_aload_n F.1 F.2.1 dX5_mistakesInBox_1 rfl (lv_at hl 0 rfl) ?_
  refine gf_RX5_40 F hW hO rfl dX5_mistakesInBox_2 ?_
  refine cl_RX5_180 (As := [.int (iI (σ 0))]) (rest := []) F hl (c_X1_leftColumn l X w q σ k (σ 0) hq hok hwf0 rfl) hW hS hqo rfl rfl ⟨Nat.le_of_ble_eq_true rfl, Nat.le_of_ble_eq_true rfl⟩ (Nat.le_of_ble_eq_true rfl) ⟨Nat.zero_le _, Nat.zero_le _⟩ dX5_mistakesInBox_5 (fun w1 H locs hp1 hW hS => ?_)
  rw [hp1] at hW; clear hp1; clear w1
  refine h_top (show ((if cp σ k 1 = 0 then cp σ k 2 else (σ 0) - cp σ k 2 - (4 * cp σ k 0 - 1)) : Int) = lf from hlfe.symm) ?_
  refine lv_istore_n (lv' := [(2, .int (iI lf)), (0, .ref a), (1, .ref q)]) F.1 F.2.1 dX5_mistakesInBox_8 rfl hl (by decide) rfl (fun ls hl => ?_)
  refine h_iconst F dX5_mistakesInBox_9 ?_
  refine lv_istore_n (lv' := [(3, .int (iI 0)), (2, .int (iI lf)), (0, .ref a), (1, .ref q)]) F.1 F.2.1 dX5_mistakesInBox_10 rfl hl (by decide) rfl (fun ls hl => ?_)
  refine lv_aload_n F.1 F.2.1 dX5_mistakesInBox_11 rfl (lv_at hl 3 rfl) ?_
  refine gf_RX5_103 F hW hqo rfl dX5_mistakesInBox_12 ?_
  refine lv_istore (lv' := [(4, .int (iI (cp σ k 3))), (3, .int (iI 0)), (2, .int (iI lf)), (0, .ref a), (1, .ref q)]) F.1 F.2.1 dX5_mistakesInBox_15 hl (by decide) rfl (fun ls hl => ?_)
  have loop17 : ∀ (n9 : Nat) (r : Int), (hrg : cp σ k 3 ≤ r ∧ r ≤ cp σ k 3 + 5) → (hms : cp σ k 3 + 5 - r < (n9 : Int)) → (H : Heap) → (locs : List Loc) → (ls : Array Slot) → Wd X w s H → va_S (cxA X) s.heap H locs → lv_has ls 6 [(3, .int (iI (sm (fun z => cnt (fun c => misS σ c z) lf (lf + (4 * cp σ k 0 - 1))) (cp σ k 3) r))), (4, .int (iI r)), (2, .int (iI lf)), (0, .ref a), (1, .ref q)] → W p l e (rmk 3 68) s m (List.toArray [.ref a, .ref q]) below meth c H locs 0 0 (MX X below (List.toArray [.ref a, .ref q]) s 0 0 (some (.int (iI (sm (fun z => cnt (fun y => misS σ (capCol σ k (cp σ k 2 + z)) (cp σ k 3 + y)) 0 5) 0 (4 * cp σ k 0 - 1))))) (fun w' => w' = w)) (F0 m 17 ls []) := by
    intro n9
    induction n9 with
    | zero => intro r  hrg hms; exfalso; omega
    | succ n9 ih17 =>
      intro r  hrg hms   H locs ls hW hS hl
      refine lv_iload F.1 F.2.1 dX5_mistakesInBox_17 (lv_at hl 1 rfl) ?_
      refine lv_aload_n F.1 F.2.1 dX5_mistakesInBox_19 rfl (lv_at hl 4 rfl) ?_
      refine gf_RX5_103 F hW hqo rfl dX5_mistakesInBox_20 ?_
      refine h_iconst F dX5_mistakesInBox_23 ?_
      refine h_iadd (a := cp σ k 3) (b := 5) F dX5_mistakesInBox_24 ?_
      refine h_icge (tgt := 68) F dX5_mistakesInBox_25 (by decide) (by omega) (fun c2 => ?_) (fun c2 => ?_)
      · refine lv_iload_n F.1 F.2.1 dX5_mistakesInBox_68 rfl (lv_at hl 0 rfl) ?_
        refine h_top (show (sm (fun z => cnt (fun c => misS σ c z) lf (lf + (4 * cp σ k 0 - 1))) (cp σ k 3) r : Int) = sm (fun z => cnt (fun y => misS σ (capCol σ k (cp σ k 2 + z)) (cp σ k 3 + y)) 0 5) 0 (4 * cp σ k 0 - 1) from by rw [show r = cp σ k 3 + 5 by omega, hlfe]; exact box_eq hok) ?_
        exact h_ireti F hr hlk hW hS rfl dX5_mistakesInBox_69
      · refine lv_iload_n F.1 F.2.1 dX5_mistakesInBox_28 rfl (lv_at hl 2 rfl) ?_
        refine lv_istore (lv' := [(5, .int (iI lf)), (3, .int (iI (sm (fun z => cnt (fun c => misS σ c z) lf (lf + (4 * cp σ k 0 - 1))) (cp σ k 3) r))), (4, .int (iI r)), (2, .int (iI lf)), (0, .ref a), (1, .ref q)]) F.1 F.2.1 dX5_mistakesInBox_29 hl (by decide) rfl (fun ls hl => ?_)
        have loop31 : ∀ (n9 : Nat) (i : Int), (hrg : lf ≤ i ∧ i ≤ lf + (4 * cp σ k 0 - 1)) → (hms : lf + (4 * cp σ k 0 - 1) - i < (n9 : Int)) → (H : Heap) → (locs : List Loc) → (ls : Array Slot) → Wd X w s H → va_S (cxA X) s.heap H locs → lv_has ls 6 [(3, .int (iI (sm (fun z => cnt (fun c => misS σ c z) lf (lf + (4 * cp σ k 0 - 1))) (cp σ k 3) r + cnt (fun c => misS σ c r) lf i))), (5, .int (iI i)), (4, .int (iI r)), (2, .int (iI lf)), (0, .ref a), (1, .ref q)] → W p l e (rmk 3 68) s m (List.toArray [.ref a, .ref q]) below meth c H locs 0 0 (MX X below (List.toArray [.ref a, .ref q]) s 0 0 (some (.int (iI (sm (fun z => cnt (fun y => misS σ (capCol σ k (cp σ k 2 + z)) (cp σ k 3 + y)) 0 5) 0 (4 * cp σ k 0 - 1))))) (fun w' => w' = w)) (F0 m 31 ls []) := by
          intro n9
          induction n9 with
          | zero => intro i  hrg hms; exfalso; omega
          | succ n9 ih31 =>
            intro i  hrg hms   H locs ls hW hS hl
            refine lv_iload F.1 F.2.1 dX5_mistakesInBox_31 (lv_at hl 1 rfl) ?_
            refine lv_iload_n F.1 F.2.1 dX5_mistakesInBox_33 rfl (lv_at hl 3 rfl) ?_
            refine lv_aload_n F.1 F.2.1 dX5_mistakesInBox_34 rfl (lv_at hl 5 rfl) ?_
            refine cl_RX5_99 (As := []) (rest := [.int (iI lf), .int (iI i)]) F hl (c_X1_boxWidth l X w q (cp σ k 0) (cp σ k 1) (cp σ k 2) (cp σ k 3) (cp σ k 4) fq hqv) hW hS hqo rfl rfl ⟨Nat.le_of_ble_eq_true rfl, Nat.le_of_ble_eq_true rfl⟩ (Nat.le_of_ble_eq_true rfl) ⟨Nat.zero_le _, Nat.zero_le _⟩ dX5_mistakesInBox_35 (fun w1 H locs hp3 hW hS => ?_)
            rw [hp3] at hW; clear hp3; clear w1
            refine h_iadd (a := lf) (b := 4 * (cp σ k 0) - 1) F dX5_mistakesInBox_38 ?_
            refine h_icge (tgt := 62) F dX5_mistakesInBox_39 (by decide) (by omega) (fun c4 => ?_) (fun c4 => ?_)
            · refine h_iinc (k := 2) (a := r) (lv' := [(4, .int (iI (r + 1))), (3, .int (iI (sm (fun z => cnt (fun c => misS σ c z) lf (lf + (4 * cp σ k 0 - 1))) (cp σ k 3) r + cnt (fun c => misS σ c r) lf i))), (5, .int (iI i)), (2, .int (iI lf)), (0, .ref a), (1, .ref q)]) F dX5_mistakesInBox_62 hl rfl (by decide) rfl (fun ls hl => ?_)
              refine h_goto (tgt := 17) F dX5_mistakesInBox_65 (by decide) ?_
              have eq5 : (sm (fun z => cnt (fun c => misS σ c z) lf (lf + (4 * cp σ k 0 - 1))) (cp σ k 3) (r + 1) : Int) = sm (fun z => cnt (fun c => misS σ c z) lf (lf + (4 * cp σ k 0 - 1))) (cp σ k 3) r + cnt (fun c => misS σ c r) lf i := by rw [sm_s _ (by omega), show i = lf + (4 * cp σ k 0 - 1) by omega]
              have eq6 : ((r + 1) : Int) = r + 1 := by first | rfl | omega | simp
              exact ih17 (r + 1)  (by omega) (by omega)   _ _ ls hW hS (by rw [eq5, eq6]; exact lv_sub hl [1, 0, 3, 4, 5] rfl)
            · refine lv_aload_n F.1 F.2.1 dX5_mistakesInBox_42 rfl (lv_at hl 4 rfl) ?_
              refine lv_iload F.1 F.2.1 dX5_mistakesInBox_43 (lv_at hl 1 rfl) ?_
              refine lv_iload F.1 F.2.1 dX5_mistakesInBox_45 (lv_at hl 2 rfl) ?_
              refine cl_RX5_183 (As := [.int (iI i), .int (iI r)]) (rest := []) F hl (c_X5_isMistake l X w a σ i r hL (by omega)) hW hS hO rfl rfl ⟨Nat.le_of_ble_eq_true rfl, Nat.le_of_ble_eq_true rfl⟩ (Nat.le_of_ble_eq_true rfl) ⟨Nat.zero_le _, Nat.zero_le _⟩ dX5_mistakesInBox_47 (fun w1 H locs hp7 hW hS => ?_)
              rw [hp7] at hW; clear hp7; clear w1
              refine h_ifeqb (tgt := 56) F dX5_mistakesInBox_50 (by decide) (fun c8 => ?_) (fun c8 => ?_)
              · refine h_iinc (k := 1) (a := i) (lv' := [(5, .int (iI (i + 1))), (3, .int (iI (sm (fun z => cnt (fun c => misS σ c z) lf (lf + (4 * cp σ k 0 - 1))) (cp σ k 3) r + cnt (fun c => misS σ c r) lf i))), (4, .int (iI r)), (2, .int (iI lf)), (0, .ref a), (1, .ref q)]) F dX5_mistakesInBox_56 hl rfl (by decide) rfl (fun ls hl => ?_)
                refine h_goto (tgt := 31) F dX5_mistakesInBox_59 (by decide) ?_
                have eq9 : (sm (fun z => cnt (fun c => misS σ c z) lf (lf + (4 * cp σ k 0 - 1))) (cp σ k 3) r + cnt (fun c => misS σ c r) lf (i + 1) : Int) = sm (fun z => cnt (fun c => misS σ c z) lf (lf + (4 * cp σ k 0 - 1))) (cp σ k 3) r + cnt (fun c => misS σ c r) lf i := by first | (rw [cnt_t (by omega) (by assumption)]; omega) | rw [cnt_f (by omega) (by assumption)]
                have eq10 : ((i + 1) : Int) = i + 1 := by first | rfl | omega | simp
                exact ih31 (i + 1)  (by omega) (by omega)   _ _ ls hW hS (by rw [eq9, eq10]; exact lv_sub hl [1, 0, 2, 3, 4, 5] rfl)
              · refine h_iinc (k := 0) (a := sm (fun z => cnt (fun c => misS σ c z) lf (lf + (4 * cp σ k 0 - 1))) (cp σ k 3) r + cnt (fun c => misS σ c r) lf i) (lv' := [(3, .int (iI ((sm (fun z => cnt (fun c => misS σ c z) lf (lf + (4 * cp σ k 0 - 1))) (cp σ k 3) r + cnt (fun c => misS σ c r) lf i) + 1))), (5, .int (iI i)), (4, .int (iI r)), (2, .int (iI lf)), (0, .ref a), (1, .ref q)]) F dX5_mistakesInBox_53 hl rfl (by decide) rfl (fun ls hl => ?_)
                refine h_iinc (k := 1) (a := i) (lv' := [(5, .int (iI (i + 1))), (3, .int (iI ((sm (fun z => cnt (fun c => misS σ c z) lf (lf + (4 * cp σ k 0 - 1))) (cp σ k 3) r + cnt (fun c => misS σ c r) lf i) + 1))), (4, .int (iI r)), (2, .int (iI lf)), (0, .ref a), (1, .ref q)]) F dX5_mistakesInBox_56 hl rfl (by decide) rfl (fun ls hl => ?_)
                refine h_goto (tgt := 31) F dX5_mistakesInBox_59 (by decide) ?_
                have eq11 : (sm (fun z => cnt (fun c => misS σ c z) lf (lf + (4 * cp σ k 0 - 1))) (cp σ k 3) r + cnt (fun c => misS σ c r) lf (i + 1) : Int) = (sm (fun z => cnt (fun c => misS σ c z) lf (lf + (4 * cp σ k 0 - 1))) (cp σ k 3) r + cnt (fun c => misS σ c r) lf i) + 1 := by first | (rw [cnt_t (by omega) (by assumption)]; omega) | rw [cnt_f (by omega) (by assumption)]
                have eq12 : ((i + 1) : Int) = i + 1 := by first | rfl | omega | simp
                exact ih31 (i + 1)  (by omega) (by omega)   _ _ ls hW hS (by rw [eq11, eq12]; exact lv_sub hl [1, 0, 2, 3, 4, 5] rfl)
        have eq13 : (sm (fun z => cnt (fun c => misS σ c z) lf (lf + (4 * cp σ k 0 - 1))) (cp σ k 3) r + cnt (fun c => misS σ c r) lf lf : Int) = sm (fun z => cnt (fun c => misS σ c z) lf (lf + (4 * cp σ k 0 - 1))) (cp σ k 3) r := by rw [cnt_0]; omega
        exact loop31 ((lf + (4 * cp σ k 0 - 1) - lf) + 1 : Int).toNat lf  (by omega) (by omega)   _ _ ls hW hS (by rw [eq13]; exact lv_sub hl [1, 0, 2, 3, 4, 5] rfl)
  have eq14 : (sm (fun z => cnt (fun c => misS σ c z) lf (lf + (4 * cp σ k 0 - 1))) (cp σ k 3) (cp σ k 3) : Int) = 0 := sm_0 _ _
  have eq15 : ((cp σ k 3) : Int) = cp σ k 3 := by first | rfl | omega | simp
  exact loop17 ((cp σ k 3 + 5 - (cp σ k 3)) + 1 : Int).toNat (cp σ k 3)  (by omega) (by omega)   _ _ ls hW hS (by rw [eq14, eq15]; exact lv_sub hl [1, 0, 2, 3, 4] rfl)
set_option maxHeartbeats 4000000 in
set_option maxRecDepth 100000 in
theorem c_X8_count (l : Launch) (X : Cx) (w : Wo) (y : Nat) (su : Int) (σ : Int → Int) (nx sz : Int) (pas : Int → Int → Int) (wh : Int) (hY : clO X w y su) (hL : loomAt X w (y + 1) σ) (hH : hisAt X w (y + 53) nx sz pas) (hw : 0 ≤ wh ∧ wh ≤ 8) : CM l X yX8_count cX8_count 2 (some (.int)) (rmk 4 90) [.ref y, .int (iI wh)] w (some (.int (iI (cntQ σ sz wh)))) (fun w' => w' = w) := by
  refine CM.of (lv := [(0, .ref y), (1, .int (iI wh))]) (by decide) (Nat.le_of_ble_eq_true rfl) rfl (fun p e s m below meth c ls F hr hlk hin hW hS hl => ?_)
  have hZ0 := hW.2.2
  have hB9 := hW.1.2
  clear hin
  unfold clO at hY
  have hO := hL.1.o
  have hA := hL.1
  have hwf := hL.2.2
  have hF := hwf.1
  unfold WF0 at hF
  have hHo := hH.1
  refine lv_iload_n F.1 F.2.1 dX8_count_0 rfl (lv_at hl 1 rfl) ?_
  rcases (show wh = 0 ∨ wh = 1 ∨ wh = 2 ∨ wh = 3 ∨ wh = 4 ∨ wh = 5 ∨ wh = 6 ∨ wh = 7 ∨ wh = 8 by omega) with c1 | c1 | c1 | c1 | c1 | c1 | c1 | c1 | c1
  · refine lv_tableIn (off := 51) (tgt := 52) F.1 F.2.1 dX8_count_1 (by rw [iI_toInt (by omega)]; omega) (by rw [iI_toInt (by omega)]; omega) (by rw [iI_toInt (by omega), c1]; rfl) (by decide) ?_
    refine lv_aload_n F.1 F.2.1 dX8_count_52 rfl (lv_at hl 0 rfl) ?_
    refine gf_RX8_10 F hW hY rfl dX8_count_53 ?_
    refine gf_RX8_122 F hW hO rfl dX8_count_56 ?_
    refine h_top (show (σ 0 : Int) = cntQ σ sz wh from by unfold cntQ; (repeat first | rw [if_pos (by omega)] | rw [if_neg (by omega)]) <;> first | rfl | omega) ?_
    exact h_ireti F hr hlk hW hS rfl dX8_count_59
  · refine lv_tableIn (off := 59) (tgt := 60) F.1 F.2.1 dX8_count_1 (by rw [iI_toInt (by omega)]; omega) (by rw [iI_toInt (by omega)]; omega) (by rw [iI_toInt (by omega), c1]; rfl) (by decide) ?_
    refine lv_aload_n F.1 F.2.1 dX8_count_60 rfl (lv_at hl 0 rfl) ?_
    refine gf_RX8_10 F hW hY rfl dX8_count_61 ?_
    refine gf_RX8_145 F hW hO rfl dX8_count_64 ?_
    refine h_top (show (σ 1 : Int) = cntQ σ sz wh from by unfold cntQ; (repeat first | rw [if_pos (by omega)] | rw [if_neg (by omega)]) <;> first | rfl | omega) ?_
    exact h_ireti F hr hlk hW hS rfl dX8_count_67
  · refine lv_tableIn (off := 67) (tgt := 68) F.1 F.2.1 dX8_count_1 (by rw [iI_toInt (by omega)]; omega) (by rw [iI_toInt (by omega)]; omega) (by rw [iI_toInt (by omega), c1]; rfl) (by decide) ?_
    refine lv_aload_n F.1 F.2.1 dX8_count_68 rfl (lv_at hl 0 rfl) ?_
    refine gf_RX8_10 F hW hY rfl dX8_count_69 ?_
    refine gf_RX8_148 F hW hO rfl dX8_count_72 ?_
    refine h_top (show (σ 4 : Int) = cntQ σ sz wh from by unfold cntQ; (repeat first | rw [if_pos (by omega)] | rw [if_neg (by omega)]) <;> first | rfl | omega) ?_
    exact h_ireti F hr hlk hW hS rfl dX8_count_75
  · refine lv_tableIn (off := 75) (tgt := 76) F.1 F.2.1 dX8_count_1 (by rw [iI_toInt (by omega)]; omega) (by rw [iI_toInt (by omega)]; omega) (by rw [iI_toInt (by omega), c1]; rfl) (by decide) ?_
    refine lv_aload_n F.1 F.2.1 dX8_count_76 rfl (lv_at hl 0 rfl) ?_
    refine gf_RX8_10 F hW hY rfl dX8_count_77 ?_
    refine cl_RX8_151 (As := []) (rest := []) F hl (c_X5_filledCells l X w (y + 1) σ hA hwf) hW hS hO rfl rfl ⟨Nat.le_of_ble_eq_true rfl, Nat.le_of_ble_eq_true rfl⟩ (Nat.le_of_ble_eq_true rfl) ⟨Nat.zero_le _, Nat.zero_le _⟩ dX8_count_80 (fun w1 H locs hp2 hW hS => ?_)
    rw [hp2] at hW; clear hp2; clear w1
    refine h_top (show (opnS σ : Int) = cntQ σ sz wh from by unfold cntQ; (repeat first | rw [if_pos (by omega)] | rw [if_neg (by omega)]) <;> first | rfl | omega) ?_
    exact h_ireti F hr hlk hW hS rfl dX8_count_83
  · refine lv_tableIn (off := 83) (tgt := 84) F.1 F.2.1 dX8_count_1 (by rw [iI_toInt (by omega)]; omega) (by rw [iI_toInt (by omega)]; omega) (by rw [iI_toInt (by omega), c1]; rfl) (by decide) ?_
    refine lv_aload_n F.1 F.2.1 dX8_count_84 rfl (lv_at hl 0 rfl) ?_
    refine gf_RX8_10 F hW hY rfl dX8_count_85 ?_
    refine gf_RX8_118 F hW hO rfl dX8_count_88 ?_
    refine h_top (show (σ 5 : Int) = cntQ σ sz wh from by unfold cntQ; (repeat first | rw [if_pos (by omega)] | rw [if_neg (by omega)]) <;> first | rfl | omega) ?_
    exact h_ireti F hr hlk hW hS rfl dX8_count_91
  · refine lv_tableIn (off := 91) (tgt := 92) F.1 F.2.1 dX8_count_1 (by rw [iI_toInt (by omega)]; omega) (by rw [iI_toInt (by omega)]; omega) (by rw [iI_toInt (by omega), c1]; rfl) (by decide) ?_
    refine lv_aload_n F.1 F.2.1 dX8_count_92 rfl (lv_at hl 0 rfl) ?_
    refine gf_RX8_10 F hW hY rfl dX8_count_93 ?_
    refine gf_RX8_154 F hW hO rfl dX8_count_96 ?_
    refine h_top (show (σ 2 : Int) = cntQ σ sz wh from by unfold cntQ; (repeat first | rw [if_pos (by omega)] | rw [if_neg (by omega)]) <;> first | rfl | omega) ?_
    exact h_ireti F hr hlk hW hS rfl dX8_count_99
  · refine lv_tableIn (off := 99) (tgt := 100) F.1 F.2.1 dX8_count_1 (by rw [iI_toInt (by omega)]; omega) (by rw [iI_toInt (by omega)]; omega) (by rw [iI_toInt (by omega), c1]; rfl) (by decide) ?_
    refine lv_aload_n F.1 F.2.1 dX8_count_100 rfl (lv_at hl 0 rfl) ?_
    refine gf_RX8_10 F hW hY rfl dX8_count_101 ?_
    refine gf_RX8_157 F hW hO rfl dX8_count_104 ?_
    refine h_top (show (σ 3 : Int) = cntQ σ sz wh from by unfold cntQ; (repeat first | rw [if_pos (by omega)] | rw [if_neg (by omega)]) <;> first | rfl | omega) ?_
    exact h_ireti F hr hlk hW hS rfl dX8_count_107
  · refine lv_tableIn (off := 107) (tgt := 108) F.1 F.2.1 dX8_count_1 (by rw [iI_toInt (by omega)]; omega) (by rw [iI_toInt (by omega)]; omega) (by rw [iI_toInt (by omega), c1]; rfl) (by decide) ?_
    refine lv_aload_n F.1 F.2.1 dX8_count_108 rfl (lv_at hl 0 rfl) ?_
    refine gf_RX8_10 F hW hY rfl dX8_count_109 ?_
    refine cl_RX8_160 (As := []) (rest := []) F hl (c_X5_allLetters l X w (y + 1) σ hA hwf) hW hS hO rfl rfl ⟨Nat.le_of_ble_eq_true rfl, Nat.le_of_ble_eq_true rfl⟩ (Nat.le_of_ble_eq_true rfl) ⟨Nat.zero_le _, Nat.zero_le _⟩ dX8_count_112 (fun w1 H locs hp3 hW hS => ?_)
    rw [hp3] at hW; clear hp3; clear w1
    refine h_top (show (sm (fun z => cp σ z 0) 0 (σ 5) : Int) = cntQ σ sz wh from by unfold cntQ; (repeat first | rw [if_pos (by omega)] | rw [if_neg (by omega)]) <;> first | rfl | omega) ?_
    exact h_ireti F hr hlk hW hS rfl dX8_count_115
  · refine lv_tableIn (off := 115) (tgt := 116) F.1 F.2.1 dX8_count_1 (by rw [iI_toInt (by omega)]; omega) (by rw [iI_toInt (by omega)]; omega) (by rw [iI_toInt (by omega), c1]; rfl) (by decide) ?_
    refine lv_aload_n F.1 F.2.1 dX8_count_116 rfl (lv_at hl 0 rfl) ?_
    refine gf_RX8_29 F hW hY rfl dX8_count_117 ?_
    refine gf_RX8_163 F hW hHo rfl dX8_count_120 ?_
    refine h_top (show (sz : Int) = cntQ σ sz wh from by unfold cntQ; (repeat first | rw [if_pos (by omega)] | rw [if_neg (by omega)]) <;> first | rfl | omega) ?_
    exact h_ireti F hr hlk hW hS rfl dX8_count_123
set_option maxHeartbeats 4000000 in
set_option maxRecDepth 100000 in
theorem c_X8_caption (l : Launch) (X : Cx) (w : Wo) (y : Nat) (su : Int) (σ : Int → Int) (k wh : Int) (hY : clO X w y su) (hL : loomAt X w (y + 1) σ) (hk : 0 ≤ k ∧ k < σ 5) (hw : 0 ≤ wh ∧ wh ≤ 9) : CM l X yX8_caption cX8_caption 4 (some (.int)) (rmk 5 116) [.ref y, .int (iI k), .int (iI wh)] w (some (.int (iI (capQ σ k wh)))) (fun w' => w' = w) := by
  refine CM.of (lv := [(0, .ref y), (1, .int (iI k)), (2, .int (iI wh))]) (by decide) (Nat.le_of_ble_eq_true rfl) rfl (fun p e s m below meth c ls F hr hlk hin hW hS hl => ?_)
  have hZ0 := hW.2.2
  have hB9 := hW.1.2
  clear hin
  unfold clO at hY
  have hO := hL.1.o
  have hA := hL.1
  have hwf := hL.2.2
  have hF := hwf.1
  unfold WF0 at hF
  refine lv_aload_n F.1 F.2.1 dX8_caption_0 rfl (lv_at hl 0 rfl) ?_
  refine lv_iload_n F.1 F.2.1 dX8_caption_1 rfl (lv_at hl 1 rfl) ?_
  refine cl_RX8_167 (As := [.int (iI k)]) (rest := []) F hl (c_X8_checkCaption l X w y su σ k hY hL (by omega)) hW hS hY rfl rfl ⟨Nat.le_of_ble_eq_true rfl, Nat.le_of_ble_eq_true rfl⟩ (Nat.le_of_ble_eq_true rfl) ⟨Nat.zero_le _, Nat.zero_le _⟩ dX8_caption_2 (fun w1 H locs hp1 hW hS => ?_)
  rw [hp1] at hW; clear hp1; clear w1
  refine lv_aload_n F.1 F.2.1 dX8_caption_5 rfl (lv_at hl 0 rfl) ?_
  refine gf_RX8_10 F hW hY rfl dX8_caption_6 ?_
  refine lv_iload_n F.1 F.2.1 dX8_caption_9 rfl (lv_at hl 1 rfl) ?_
  refine cl_RX8_170 (As := [.int (iI k)]) (rest := []) F hl (c_X5_captionAt l X w (y + 1) σ k hA hwf (by omega)) hW hS hO rfl rfl ⟨Nat.le_of_ble_eq_true rfl, Nat.le_of_ble_eq_true rfl⟩ (Nat.le_of_ble_eq_true rfl) ⟨Nat.zero_le _, Nat.zero_le _⟩ dX8_caption_10 (fun w1 H locs hp2 hW hS => ?_)
  rw [hp2] at hW; clear hp2; clear w1
  have hq := hL.1.cap k (by omega) (by omega)
  have hqo := hq.o
  have hcok := hwf.2.2.1 k (by omega) (by omega)
  have hcn := hcok.1
  refine lv_astore_n (lv' := [(3, .ref ((y + 1) + 9 + 2 * k.toNat)), (0, .ref y), (1, .int (iI k)), (2, .int (iI wh))]) F.1 F.2.1 dX8_caption_13 rfl hl (by decide) rfl (fun ls hl => ?_)
  refine lv_iload_n F.1 F.2.1 dX8_caption_14 rfl (lv_at hl 3 rfl) ?_
  rcases (show wh = 0 ∨ wh = 1 ∨ wh = 2 ∨ wh = 3 ∨ wh = 4 ∨ wh = 5 ∨ wh = 6 ∨ wh = 7 ∨ wh = 8 ∨ wh = 9 by omega) with c3 | c3 | c3 | c3 | c3 | c3 | c3 | c3 | c3 | c3
  · refine lv_tableIn (off := 53) (tgt := 68) F.1 F.2.1 dX8_caption_15 (by rw [iI_toInt (by omega)]; omega) (by rw [iI_toInt (by omega)]; omega) (by rw [iI_toInt (by omega), c3]; rfl) (by decide) ?_
    refine lv_aload_n F.1 F.2.1 dX8_caption_68 rfl (lv_at hl 0 rfl) ?_
    refine gf_RX8_174 F hW hqo rfl dX8_caption_69 ?_
    refine h_top (show (cp σ k 0 : Int) = capQ σ k wh from by unfold capQ; (repeat first | rw [if_pos (by omega)] | rw [if_neg (by omega)]) <;> first | rfl | (rw [show wh = 0 by omega]) | (rw [show wh = 1 by omega]) | (rw [show wh = 2 by omega]) | (rw [show wh = 3 by omega]) | (rw [show wh = 4 by omega])) ?_
    exact h_ireti F hr hlk hW hS rfl dX8_caption_72
  · refine lv_tableIn (off := 58) (tgt := 73) F.1 F.2.1 dX8_caption_15 (by rw [iI_toInt (by omega)]; omega) (by rw [iI_toInt (by omega)]; omega) (by rw [iI_toInt (by omega), c3]; rfl) (by decide) ?_
    refine lv_aload_n F.1 F.2.1 dX8_caption_73 rfl (lv_at hl 0 rfl) ?_
    refine gf_RX8_177 F hW hqo rfl dX8_caption_74 ?_
    refine h_top (show (cp σ k 1 : Int) = capQ σ k wh from by unfold capQ; (repeat first | rw [if_pos (by omega)] | rw [if_neg (by omega)]) <;> first | rfl | (rw [show wh = 0 by omega]) | (rw [show wh = 1 by omega]) | (rw [show wh = 2 by omega]) | (rw [show wh = 3 by omega]) | (rw [show wh = 4 by omega])) ?_
    exact h_ireti F hr hlk hW hS rfl dX8_caption_77
  · refine lv_tableIn (off := 63) (tgt := 78) F.1 F.2.1 dX8_caption_15 (by rw [iI_toInt (by omega)]; omega) (by rw [iI_toInt (by omega)]; omega) (by rw [iI_toInt (by omega), c3]; rfl) (by decide) ?_
    refine lv_aload_n F.1 F.2.1 dX8_caption_78 rfl (lv_at hl 0 rfl) ?_
    refine gf_RX8_180 F hW hqo rfl dX8_caption_79 ?_
    refine h_top (show (cp σ k 2 : Int) = capQ σ k wh from by unfold capQ; (repeat first | rw [if_pos (by omega)] | rw [if_neg (by omega)]) <;> first | rfl | (rw [show wh = 0 by omega]) | (rw [show wh = 1 by omega]) | (rw [show wh = 2 by omega]) | (rw [show wh = 3 by omega]) | (rw [show wh = 4 by omega])) ?_
    exact h_ireti F hr hlk hW hS rfl dX8_caption_82
  · refine lv_tableIn (off := 68) (tgt := 83) F.1 F.2.1 dX8_caption_15 (by rw [iI_toInt (by omega)]; omega) (by rw [iI_toInt (by omega)]; omega) (by rw [iI_toInt (by omega), c3]; rfl) (by decide) ?_
    refine lv_aload_n F.1 F.2.1 dX8_caption_83 rfl (lv_at hl 0 rfl) ?_
    refine gf_RX8_183 F hW hqo rfl dX8_caption_84 ?_
    refine h_top (show (cp σ k 3 : Int) = capQ σ k wh from by unfold capQ; (repeat first | rw [if_pos (by omega)] | rw [if_neg (by omega)]) <;> first | rfl | (rw [show wh = 0 by omega]) | (rw [show wh = 1 by omega]) | (rw [show wh = 2 by omega]) | (rw [show wh = 3 by omega]) | (rw [show wh = 4 by omega])) ?_
    exact h_ireti F hr hlk hW hS rfl dX8_caption_87
  · refine lv_tableIn (off := 73) (tgt := 88) F.1 F.2.1 dX8_caption_15 (by rw [iI_toInt (by omega)]; omega) (by rw [iI_toInt (by omega)]; omega) (by rw [iI_toInt (by omega), c3]; rfl) (by decide) ?_
    refine lv_aload_n F.1 F.2.1 dX8_caption_88 rfl (lv_at hl 0 rfl) ?_
    refine gf_RX8_186 F hW hqo rfl dX8_caption_89 ?_
    refine h_top (show (cp σ k 4 : Int) = capQ σ k wh from by unfold capQ; (repeat first | rw [if_pos (by omega)] | rw [if_neg (by omega)]) <;> first | rfl | (rw [show wh = 0 by omega]) | (rw [show wh = 1 by omega]) | (rw [show wh = 2 by omega]) | (rw [show wh = 3 by omega]) | (rw [show wh = 4 by omega])) ?_
    exact h_ireti F hr hlk hW hS rfl dX8_caption_92
  · refine lv_tableIn (off := 78) (tgt := 93) F.1 F.2.1 dX8_caption_15 (by rw [iI_toInt (by omega)]; omega) (by rw [iI_toInt (by omega)]; omega) (by rw [iI_toInt (by omega), c3]; rfl) (by decide) ?_
    refine lv_aload_n F.1 F.2.1 dX8_caption_93 rfl (lv_at hl 1 rfl) ?_
    refine gf_RX8_10 F hW hY rfl dX8_caption_94 ?_
    refine lv_aload_n F.1 F.2.1 dX8_caption_97 rfl (lv_at hl 0 rfl) ?_
    refine cl_RX8_189 (As := [.ref ((y + 1) + 9 + 2 * k.toNat)]) (rest := []) F hl (c_X5_finishedRowsOf l X w (y + 1) σ ((y + 1) + 9 + 2 * k.toNat) k hA hwf hq hcok) hW hS hO rfl rfl ⟨Nat.le_of_ble_eq_true rfl, Nat.le_of_ble_eq_true rfl⟩ (Nat.le_of_ble_eq_true rfl) ⟨Nat.zero_le _, Nat.zero_le _⟩ dX8_caption_98 (fun w1 H locs hp4 hW hS => ?_)
    rw [hp4] at hW; clear hp4; clear w1
    refine h_top (show (max 0 (min 5 (σ 4 - cp σ k 3)) : Int) = capQ σ k wh from by unfold capQ; (repeat first | rw [if_pos (by omega)] | rw [if_neg (by omega)]) <;> first | rfl | (rw [show wh = 0 by omega]) | (rw [show wh = 1 by omega]) | (rw [show wh = 2 by omega]) | (rw [show wh = 3 by omega]) | (rw [show wh = 4 by omega])) ?_
    exact h_ireti F hr hlk hW hS rfl dX8_caption_101
  · refine lv_tableIn (off := 87) (tgt := 102) F.1 F.2.1 dX8_caption_15 (by rw [iI_toInt (by omega)]; omega) (by rw [iI_toInt (by omega)]; omega) (by rw [iI_toInt (by omega), c3]; rfl) (by decide) ?_
    refine lv_aload_n F.1 F.2.1 dX8_caption_102 rfl (lv_at hl 1 rfl) ?_
    refine gf_RX8_10 F hW hY rfl dX8_caption_103 ?_
    refine lv_aload_n F.1 F.2.1 dX8_caption_106 rfl (lv_at hl 0 rfl) ?_
    refine cl_RX8_193 (As := [.ref ((y + 1) + 9 + 2 * k.toNat)]) (rest := []) F hl (c_X5_lettersRead l X w (y + 1) σ ((y + 1) + 9 + 2 * k.toNat) k hL hq hcok) hW hS hO rfl rfl ⟨Nat.le_of_ble_eq_true rfl, Nat.le_of_ble_eq_true rfl⟩ (Nat.le_of_ble_eq_true rfl) ⟨Nat.zero_le _, Nat.zero_le _⟩ dX8_caption_107 (fun w1 H locs hp5 hW hS => ?_)
    rw [hp5] at hW; clear hp5; clear w1
    refine h_top (show (cnt (fun z => decide (rdN σ k z false = tdS σ k z)) 0 (cp σ k 0) : Int) = cnt (fun z => legS σ k && decide (rdS σ k z false = tdS σ k z)) 0 (cp σ k 0) from rd_cnt hcok) ?_
    refine h_top (show (cnt (fun z => legS σ k && decide (rdS σ k z false = tdS σ k z)) 0 (cp σ k 0) : Int) = capQ σ k wh from by unfold capQ; (repeat first | rw [if_pos (by omega)] | rw [if_neg (by omega)]) <;> first | rfl | (rw [show wh = 0 by omega]) | (rw [show wh = 1 by omega]) | (rw [show wh = 2 by omega]) | (rw [show wh = 3 by omega]) | (rw [show wh = 4 by omega])) ?_
    exact h_ireti F hr hlk hW hS rfl dX8_caption_110
  · refine lv_tableIn (off := 96) (tgt := 111) F.1 F.2.1 dX8_caption_15 (by rw [iI_toInt (by omega)]; omega) (by rw [iI_toInt (by omega)]; omega) (by rw [iI_toInt (by omega), c3]; rfl) (by decide) ?_
    refine lv_aload_n F.1 F.2.1 dX8_caption_111 rfl (lv_at hl 1 rfl) ?_
    refine gf_RX8_10 F hW hY rfl dX8_caption_112 ?_
    refine lv_aload_n F.1 F.2.1 dX8_caption_115 rfl (lv_at hl 0 rfl) ?_
    refine cl_RX8_196 (As := [.ref ((y + 1) + 9 + 2 * k.toNat)]) (rest := []) F hl (c_X5_lettersReadTurned l X w (y + 1) σ ((y + 1) + 9 + 2 * k.toNat) k hL hq hcok) hW hS hO rfl rfl ⟨Nat.le_of_ble_eq_true rfl, Nat.le_of_ble_eq_true rfl⟩ (Nat.le_of_ble_eq_true rfl) ⟨Nat.zero_le _, Nat.zero_le _⟩ dX8_caption_116 (fun w1 H locs hp6 hW hS => ?_)
    rw [hp6] at hW; clear hp6; clear w1
    refine h_top (show (cnt (fun z => decide (rdN σ k z true = tdS σ k z)) 0 (cp σ k 0) : Int) = cnt (fun z => legS σ k && decide (rdS σ k z true = tdS σ k z)) 0 (cp σ k 0) from rd_cnt hcok) ?_
    refine h_top (show (cnt (fun z => legS σ k && decide (rdS σ k z true = tdS σ k z)) 0 (cp σ k 0) : Int) = capQ σ k wh from by unfold capQ; (repeat first | rw [if_pos (by omega)] | rw [if_neg (by omega)]) <;> first | rfl | (rw [show wh = 0 by omega]) | (rw [show wh = 1 by omega]) | (rw [show wh = 2 by omega]) | (rw [show wh = 3 by omega]) | (rw [show wh = 4 by omega])) ?_
    exact h_ireti F hr hlk hW hS rfl dX8_caption_119
  · refine lv_tableIn (off := 105) (tgt := 120) F.1 F.2.1 dX8_caption_15 (by rw [iI_toInt (by omega)]; omega) (by rw [iI_toInt (by omega)]; omega) (by rw [iI_toInt (by omega), c3]; rfl) (by decide) ?_
    refine lv_aload_n F.1 F.2.1 dX8_caption_120 rfl (lv_at hl 1 rfl) ?_
    refine gf_RX8_10 F hW hY rfl dX8_caption_121 ?_
    refine lv_aload_n F.1 F.2.1 dX8_caption_124 rfl (lv_at hl 0 rfl) ?_
    refine cl_RX8_199 (As := [.ref ((y + 1) + 9 + 2 * k.toNat)]) (rest := []) F hl (c_X5_ghostsShown l X w (y + 1) σ ((y + 1) + 9 + 2 * k.toNat) k hL hq hcok) hW hS hO rfl rfl ⟨Nat.le_of_ble_eq_true rfl, Nat.le_of_ble_eq_true rfl⟩ (Nat.le_of_ble_eq_true rfl) ⟨Nat.zero_le _, Nat.zero_le _⟩ dX8_caption_125 (fun w1 H locs hp7 hW hS => ?_)
    rw [hp7] at hW; clear hp7; clear w1
    refine h_top (show (thatG σ k : Int) = cnt (fun z => legS σ k && decide (ltrS (picS σ k z true) = tdS σ k z)) 0 (cp σ k 0) from gh_cnt hcok) ?_
    refine h_top (show (cnt (fun z => legS σ k && decide (ltrS (picS σ k z true) = tdS σ k z)) 0 (cp σ k 0) : Int) = capQ σ k wh from by unfold capQ; (repeat first | rw [if_pos (by omega)] | rw [if_neg (by omega)]) <;> first | rfl | (rw [show wh = 0 by omega]) | (rw [show wh = 1 by omega]) | (rw [show wh = 2 by omega]) | (rw [show wh = 3 by omega]) | (rw [show wh = 4 by omega])) ?_
    exact h_ireti F hr hlk hW hS rfl dX8_caption_128
  · refine lv_tableIn (off := 114) (tgt := 129) F.1 F.2.1 dX8_caption_15 (by rw [iI_toInt (by omega)]; omega) (by rw [iI_toInt (by omega)]; omega) (by rw [iI_toInt (by omega), c3]; rfl) (by decide) ?_
    refine lv_aload_n F.1 F.2.1 dX8_caption_129 rfl (lv_at hl 1 rfl) ?_
    refine gf_RX8_10 F hW hY rfl dX8_caption_130 ?_
    refine lv_aload_n F.1 F.2.1 dX8_caption_133 rfl (lv_at hl 0 rfl) ?_
    refine cl_RX8_202 (As := [.ref ((y + 1) + 9 + 2 * k.toNat)]) (rest := []) F hl (c_X5_mistakesInBox l X w (y + 1) σ ((y + 1) + 9 + 2 * k.toNat) k hL hq hcok) hW hS hO rfl rfl ⟨Nat.le_of_ble_eq_true rfl, Nat.le_of_ble_eq_true rfl⟩ (Nat.le_of_ble_eq_true rfl) ⟨Nat.zero_le _, Nat.zero_le _⟩ dX8_caption_134 (fun w1 H locs hp8 hW hS => ?_)
    rw [hp8] at hW; clear hp8; clear w1
    refine h_top (show (sm (fun z => cnt (fun y => misS σ (capCol σ k (cp σ k 2 + z)) (cp σ k 3 + y)) 0 5) 0 (4 * cp σ k 0 - 1) : Int) = capQ σ k wh from by unfold capQ; (repeat first | rw [if_pos (by omega)] | rw [if_neg (by omega)]) <;> first | rfl | (rw [show wh = 0 by omega]) | (rw [show wh = 1 by omega]) | (rw [show wh = 2 by omega]) | (rw [show wh = 3 by omega]) | (rw [show wh = 4 by omega])) ?_
    exact h_ireti F hr hlk hW hS rfl dX8_caption_137
set_option maxHeartbeats 4000000 in
set_option maxRecDepth 100000 in
theorem c_X8_letter (l : Launch) (X : Cx) (w : Wo) (y : Nat) (su : Int) (σ : Int → Int) (k j wh : Int) (hY : clO X w y su) (hL : loomAt X w (y + 1) σ) (hk : 0 ≤ k ∧ k < σ 5) (hj : 0 ≤ j ∧ j < cp σ k 0) (hw : 0 ≤ wh ∧ wh ≤ 3) : CM l X yX8_letter cX8_letter 5 (some (.int)) (rmk 4 93) [.ref y, .int (iI k), .int (iI j), .int (iI wh)] w (some (.int (iI (letQ σ k j wh)))) (fun w' => w' = w) := by
  refine CM.of (lv := [(0, .ref y), (1, .int (iI k)), (2, .int (iI j)), (3, .int (iI wh))]) (by decide) (Nat.le_of_ble_eq_true rfl) rfl (fun p e s m below meth c ls F hr hlk hin hW hS hl => ?_)
  have hZ0 := hW.2.2
  have hB9 := hW.1.2
  clear hin
  unfold clO at hY
  have hO := hL.1.o
  have hA := hL.1
  have hwf := hL.2.2
  have hF := hwf.1
  unfold WF0 at hF
  refine lv_aload_n F.1 F.2.1 dX8_letter_0 rfl (lv_at hl 0 rfl) ?_
  refine lv_iload_n F.1 F.2.1 dX8_letter_1 rfl (lv_at hl 1 rfl) ?_
  refine cl_RX8_167 (As := [.int (iI k)]) (rest := []) F hl (c_X8_checkCaption l X w y su σ k hY hL (by omega)) hW hS hY rfl rfl ⟨Nat.le_of_ble_eq_true rfl, Nat.le_of_ble_eq_true rfl⟩ (Nat.le_of_ble_eq_true rfl) ⟨Nat.zero_le _, Nat.zero_le _⟩ dX8_letter_2 (fun w1 H locs hp1 hW hS => ?_)
  rw [hp1] at hW; clear hp1; clear w1
  refine lv_aload_n F.1 F.2.1 dX8_letter_5 rfl (lv_at hl 0 rfl) ?_
  refine gf_RX8_10 F hW hY rfl dX8_letter_6 ?_
  refine lv_iload_n F.1 F.2.1 dX8_letter_9 rfl (lv_at hl 1 rfl) ?_
  refine cl_RX8_170 (As := [.int (iI k)]) (rest := []) F hl (c_X5_captionAt l X w (y + 1) σ k hA hwf (by omega)) hW hS hO rfl rfl ⟨Nat.le_of_ble_eq_true rfl, Nat.le_of_ble_eq_true rfl⟩ (Nat.le_of_ble_eq_true rfl) ⟨Nat.zero_le _, Nat.zero_le _⟩ dX8_letter_10 (fun w1 H locs hp2 hW hS => ?_)
  rw [hp2] at hW; clear hp2; clear w1
  have hq := hL.1.cap k (by omega) (by omega)
  have hqo := hq.o
  have hcok := hwf.2.2.1 k (by omega) (by omega)
  have hcn := hcok.1
  refine lv_astore (lv' := [(4, .ref ((y + 1) + 9 + 2 * k.toNat)), (0, .ref y), (1, .int (iI k)), (2, .int (iI j)), (3, .int (iI wh))]) F.1 F.2.1 dX8_letter_13 hl (by decide) rfl (fun ls hl => ?_)
  refine lv_iload_n F.1 F.2.1 dX8_letter_15 rfl (lv_at hl 3 rfl) ?_
  refine h_iflt (tgt := 28) F dX8_letter_16 (by decide) (by omega) (fun c3 => ?_) (fun c3 => ?_)
  · exfalso; omega
  · refine lv_iload_n F.1 F.2.1 dX8_letter_19 rfl (lv_at hl 3 rfl) ?_
    refine lv_aload F.1 F.2.1 dX8_letter_20 (lv_at hl 0 rfl) ?_
    refine gf_RX8_174 F hW hqo rfl dX8_letter_22 ?_
    refine h_iclt (tgt := 38) F dX8_letter_25 (by decide) (by omega) (fun c4 => ?_) (fun c4 => ?_)
    · refine lv_iload_n F.1 F.2.1 dX8_letter_38 rfl (lv_at hl 4 rfl) ?_
      rcases (show wh = 0 ∨ wh = 1 ∨ wh = 2 ∨ wh = 3 by omega) with c5 | c5 | c5 | c5
      · refine lv_tableIn (off := 29) (tgt := 68) F.1 F.2.1 dX8_letter_39 (by rw [iI_toInt (by omega)]; omega) (by rw [iI_toInt (by omega)]; omega) (by rw [iI_toInt (by omega), c5]; rfl) (by decide) ?_
        refine lv_aload F.1 F.2.1 dX8_letter_68 (lv_at hl 0 rfl) ?_
        refine lv_iload_n F.1 F.2.1 dX8_letter_70 rfl (lv_at hl 3 rfl) ?_
        refine cl_RX8_210 (As := [.int (iI j)]) (rest := []) F hl (c_X1_letterAt l X w ((y + 1) + 9 + 2 * k.toNat) σ k j hq hcok hwf.1 (by omega)) hW hS hqo rfl rfl ⟨Nat.le_of_ble_eq_true rfl, Nat.le_of_ble_eq_true rfl⟩ (Nat.le_of_ble_eq_true rfl) ⟨Nat.zero_le _, Nat.zero_le _⟩ dX8_letter_71 (fun w1 H locs hp6 hW hS => ?_)
        rw [hp6] at hW; clear hp6; clear w1
        refine h_top (show (tdS σ k j : Int) = letQ σ k j wh from by first | (rw [show wh = 0 by omega]; rfl) | (rw [show wh = 1 by omega]; unfold rdN letQ; cases legS σ k <;> rfl) | (rw [show wh = 2 by omega]; unfold rdN letQ; cases legS σ k <;> rfl) | (rw [show wh = 3 by omega]; unfold letQ; rw [‹legS σ k = true›]; rfl) | (rw [show wh = 3 by omega]; unfold letQ; rw [‹legS σ k = false›]; rfl)) ?_
        exact h_ireti F hr hlk hW hS rfl dX8_letter_74
      · refine lv_tableIn (off := 36) (tgt := 75) F.1 F.2.1 dX8_letter_39 (by rw [iI_toInt (by omega)]; omega) (by rw [iI_toInt (by omega)]; omega) (by rw [iI_toInt (by omega), c5]; rfl) (by decide) ?_
        refine lv_aload_n F.1 F.2.1 dX8_letter_75 rfl (lv_at hl 1 rfl) ?_
        refine gf_RX8_10 F hW hY rfl dX8_letter_76 ?_
        refine lv_aload F.1 F.2.1 dX8_letter_79 (lv_at hl 0 rfl) ?_
        refine lv_iload_n F.1 F.2.1 dX8_letter_81 rfl (lv_at hl 3 rfl) ?_
        refine cl_RX8_214 (As := [.ref ((y + 1) + 9 + 2 * k.toNat), .int (iI j)]) (rest := []) F hl (c_X5_read l X w (y + 1) σ ((y + 1) + 9 + 2 * k.toNat) k j hL hq hcok (by omega)) hW hS hO rfl rfl ⟨Nat.le_of_ble_eq_true rfl, Nat.le_of_ble_eq_true rfl⟩ (Nat.le_of_ble_eq_true rfl) ⟨Nat.zero_le _, Nat.zero_le _⟩ dX8_letter_82 (fun w1 H locs hp7 hW hS => ?_)
        rw [hp7] at hW; clear hp7; clear w1
        refine h_top (show (rdN σ k j false : Int) = letQ σ k j wh from by first | (rw [show wh = 0 by omega]; rfl) | (rw [show wh = 1 by omega]; unfold rdN letQ; cases legS σ k <;> rfl) | (rw [show wh = 2 by omega]; unfold rdN letQ; cases legS σ k <;> rfl) | (rw [show wh = 3 by omega]; unfold letQ; rw [‹legS σ k = true›]; rfl) | (rw [show wh = 3 by omega]; unfold letQ; rw [‹legS σ k = false›]; rfl)) ?_
        exact h_ireti F hr hlk hW hS rfl dX8_letter_85
      · refine lv_tableIn (off := 47) (tgt := 86) F.1 F.2.1 dX8_letter_39 (by rw [iI_toInt (by omega)]; omega) (by rw [iI_toInt (by omega)]; omega) (by rw [iI_toInt (by omega), c5]; rfl) (by decide) ?_
        refine lv_aload_n F.1 F.2.1 dX8_letter_86 rfl (lv_at hl 1 rfl) ?_
        refine gf_RX8_10 F hW hY rfl dX8_letter_87 ?_
        refine lv_aload F.1 F.2.1 dX8_letter_90 (lv_at hl 0 rfl) ?_
        refine lv_iload_n F.1 F.2.1 dX8_letter_92 rfl (lv_at hl 3 rfl) ?_
        refine cl_RX8_218 (As := [.ref ((y + 1) + 9 + 2 * k.toNat), .int (iI j)]) (rest := []) F hl (c_X5_readTurned l X w (y + 1) σ ((y + 1) + 9 + 2 * k.toNat) k j hL hq hcok (by omega)) hW hS hO rfl rfl ⟨Nat.le_of_ble_eq_true rfl, Nat.le_of_ble_eq_true rfl⟩ (Nat.le_of_ble_eq_true rfl) ⟨Nat.zero_le _, Nat.zero_le _⟩ dX8_letter_93 (fun w1 H locs hp8 hW hS => ?_)
        rw [hp8] at hW; clear hp8; clear w1
        refine h_top (show (rdN σ k j true : Int) = letQ σ k j wh from by first | (rw [show wh = 0 by omega]; rfl) | (rw [show wh = 1 by omega]; unfold rdN letQ; cases legS σ k <;> rfl) | (rw [show wh = 2 by omega]; unfold rdN letQ; cases legS σ k <;> rfl) | (rw [show wh = 3 by omega]; unfold letQ; rw [‹legS σ k = true›]; rfl) | (rw [show wh = 3 by omega]; unfold letQ; rw [‹legS σ k = false›]; rfl)) ?_
        exact h_ireti F hr hlk hW hS rfl dX8_letter_96
      · refine lv_tableIn (off := 58) (tgt := 97) F.1 F.2.1 dX8_letter_39 (by rw [iI_toInt (by omega)]; omega) (by rw [iI_toInt (by omega)]; omega) (by rw [iI_toInt (by omega), c5]; rfl) (by decide) ?_
        refine lv_aload_n F.1 F.2.1 dX8_letter_97 rfl (lv_at hl 1 rfl) ?_
        refine gf_RX8_10 F hW hY rfl dX8_letter_98 ?_
        refine lv_aload F.1 F.2.1 dX8_letter_101 (lv_at hl 0 rfl) ?_
        refine cl_RX8_221 (As := [.ref ((y + 1) + 9 + 2 * k.toNat)]) (rest := []) F hl (c_X5_isReadable l X w (y + 1) σ ((y + 1) + 9 + 2 * k.toNat) k hA hwf hq hcok) hW hS hO rfl rfl ⟨Nat.le_of_ble_eq_true rfl, Nat.le_of_ble_eq_true rfl⟩ (Nat.le_of_ble_eq_true rfl) ⟨Nat.zero_le _, Nat.zero_le _⟩ dX8_letter_103 (fun w1 H locs hp9 hW hS => ?_)
        rw [hp9] at hW; clear hp9; clear w1
        refine h_ifeqb (tgt := 122) F dX8_letter_106 (by decide) (fun c10 => ?_) (fun c10 => ?_)
        · refine h_iconst F dX8_letter_122 ?_
          refine h_top (show ((-1) : Int) = letQ σ k j wh from by first | (rw [show wh = 0 by omega]; rfl) | (rw [show wh = 1 by omega]; unfold rdN letQ; cases legS σ k <;> rfl) | (rw [show wh = 2 by omega]; unfold rdN letQ; cases legS σ k <;> rfl) | (rw [show wh = 3 by omega]; unfold letQ; rw [‹legS σ k = true›]; rfl) | (rw [show wh = 3 by omega]; unfold letQ; rw [‹legS σ k = false›]; rfl)) ?_
          exact h_ireti F hr hlk hW hS rfl dX8_letter_123
        · refine lv_aload_n F.1 F.2.1 dX8_letter_109 rfl (lv_at hl 1 rfl) ?_
          refine gf_RX8_10 F hW hY rfl dX8_letter_110 ?_
          refine lv_aload F.1 F.2.1 dX8_letter_113 (lv_at hl 0 rfl) ?_
          refine lv_iload_n F.1 F.2.1 dX8_letter_115 rfl (lv_at hl 3 rfl) ?_
          refine cl_RX8_225 (As := [.ref ((y + 1) + 9 + 2 * k.toNat), .int (iI j)]) (rest := []) F hl (c_X5_picture l X w (y + 1) σ ((y + 1) + 9 + 2 * k.toNat) k j hL hq hcok (by omega)) hW hS hO rfl rfl ⟨Nat.le_of_ble_eq_true rfl, Nat.le_of_ble_eq_true rfl⟩ (Nat.le_of_ble_eq_true rfl) ⟨Nat.zero_le _, Nat.zero_le _⟩ dX8_letter_116 (fun w1 H locs hp11 hW hS => ?_)
          rw [hp11] at hW; clear hp11; clear w1
          refine h_goto (tgt := 123) F dX8_letter_119 (by decide) ?_
          refine h_top (show (picS σ k j false : Int) = letQ σ k j wh from by first | (rw [show wh = 0 by omega]; rfl) | (rw [show wh = 1 by omega]; unfold rdN letQ; cases legS σ k <;> rfl) | (rw [show wh = 2 by omega]; unfold rdN letQ; cases legS σ k <;> rfl) | (rw [show wh = 3 by omega]; unfold letQ; rw [‹legS σ k = true›]; rfl) | (rw [show wh = 3 by omega]; unfold letQ; rw [‹legS σ k = false›]; rfl)) ?_
          exact h_ireti F hr hlk hW hS rfl dX8_letter_123
    · exfalso; omega
set_option maxHeartbeats 4000000 in
set_option maxRecDepth 100000 in
theorem c_X8_cell (l : Launch) (X : Cx) (w : Wo) (y : Nat) (su : Int) (σ : Int → Int) (cn rn : Int) (hY : clO X w y su) (hL : loomAt X w (y + 1) σ) (hc : 0 ≤ cn ∧ cn < σ 0 ∧ 0 ≤ rn ∧ rn < σ 1) : CM l X yX8_cell cX8_cell 3 (some (.int)) (rmk 2 46) [.ref y, .int (iI cn), .int (iI rn)] w (some (.int (iI (cellS σ cn rn)))) (fun w' => w' = w) := by
  refine CM.of (lv := [(0, .ref y), (1, .int (iI cn)), (2, .int (iI rn))]) (by decide) (Nat.le_of_ble_eq_true rfl) rfl (fun p e s m below meth c ls F hr hlk hin hW hS hl => ?_)
  have hZ0 := hW.2.2
  have hB9 := hW.1.2
  clear hin
  unfold clO at hY
  have hO := hL.1.o
  have hA := hL.1
  have hwf := hL.2.2
  have hF := hwf.1
  unfold WF0 at hF
  have hg1 := hL.1.g1
  refine lv_aload_n F.1 F.2.1 dX8_cell_0 rfl (lv_at hl 0 rfl) ?_
  refine lv_iload_n F.1 F.2.1 dX8_cell_1 rfl (lv_at hl 1 rfl) ?_
  refine lv_iload_n F.1 F.2.1 dX8_cell_2 rfl (lv_at hl 2 rfl) ?_
  refine cl_RX8_228 (As := [.int (iI cn), .int (iI rn)]) (rest := []) F hl (c_X8_checkCell l X w y su σ cn rn hY hL (by omega)) hW hS hY rfl rfl ⟨Nat.le_of_ble_eq_true rfl, Nat.le_of_ble_eq_true rfl⟩ (Nat.le_of_ble_eq_true rfl) ⟨Nat.zero_le _, Nat.zero_le _⟩ dX8_cell_3 (fun w1 H locs hp1 hW hS => ?_)
  rw [hp1] at hW; clear hp1; clear w1
  refine lv_aload_n F.1 F.2.1 dX8_cell_6 rfl (lv_at hl 0 rfl) ?_
  refine gf_RX8_10 F hW hY rfl dX8_cell_7 ?_
  refine gf_RX8_232 F hW hO rfl dX8_cell_10 ?_
  refine lv_iload_n F.1 F.2.1 dX8_cell_13 rfl (lv_at hl 1 rfl) ?_
  refine lv_iload_n F.1 F.2.1 dX8_cell_14 rfl (lv_at hl 2 rfl) ?_
  refine cl_RX8_236 (As := [.int (iI cn), .int (iI rn)]) (rest := []) F hl (c_get_cl l X w (y + 1) σ cn rn hL.1 hwf (by omega)) hW hS hg1 rfl rfl ⟨Nat.le_of_ble_eq_true rfl, Nat.le_of_ble_eq_true rfl⟩ (Nat.le_of_ble_eq_true rfl) ⟨Nat.zero_le _, Nat.zero_le _⟩ dX8_cell_15 (fun w1 H locs hp2 hW hS => ?_)
  rw [hp2] at hW; clear hp2; clear w1
  exact h_ireti F hr hlk hW hS rfl dX8_cell_18
set_option maxHeartbeats 4000000 in
set_option maxRecDepth 100000 in
theorem c_X8_design (l : Launch) (X : Cx) (w : Wo) (y : Nat) (su : Int) (σ : Int → Int) (cn rn : Int) (hY : clO X w y su) (hL : loomAt X w (y + 1) σ) (hc : 0 ≤ cn ∧ cn < σ 0 ∧ 0 ≤ rn ∧ rn < σ 1) : CM l X yX8_design cX8_design 3 (some (.int)) (rmk 2 46) [.ref y, .int (iI cn), .int (iI rn)] w (some (.int (iI (desS σ cn rn)))) (fun w' => w' = w) := by
  refine CM.of (lv := [(0, .ref y), (1, .int (iI cn)), (2, .int (iI rn))]) (by decide) (Nat.le_of_ble_eq_true rfl) rfl (fun p e s m below meth c ls F hr hlk hin hW hS hl => ?_)
  have hZ0 := hW.2.2
  have hB9 := hW.1.2
  clear hin
  unfold clO at hY
  have hO := hL.1.o
  have hA := hL.1
  have hwf := hL.2.2
  have hF := hwf.1
  unfold WF0 at hF
  have hg3 := hL.1.g3
  refine lv_aload_n F.1 F.2.1 dX8_design_0 rfl (lv_at hl 0 rfl) ?_
  refine lv_iload_n F.1 F.2.1 dX8_design_1 rfl (lv_at hl 1 rfl) ?_
  refine lv_iload_n F.1 F.2.1 dX8_design_2 rfl (lv_at hl 2 rfl) ?_
  refine cl_RX8_228 (As := [.int (iI cn), .int (iI rn)]) (rest := []) F hl (c_X8_checkCell l X w y su σ cn rn hY hL (by omega)) hW hS hY rfl rfl ⟨Nat.le_of_ble_eq_true rfl, Nat.le_of_ble_eq_true rfl⟩ (Nat.le_of_ble_eq_true rfl) ⟨Nat.zero_le _, Nat.zero_le _⟩ dX8_design_3 (fun w1 H locs hp1 hW hS => ?_)
  rw [hp1] at hW; clear hp1; clear w1
  refine lv_aload_n F.1 F.2.1 dX8_design_6 rfl (lv_at hl 0 rfl) ?_
  refine gf_RX8_10 F hW hY rfl dX8_design_7 ?_
  refine gf_RX8_242 F hW hO rfl dX8_design_10 ?_
  refine lv_iload_n F.1 F.2.1 dX8_design_13 rfl (lv_at hl 1 rfl) ?_
  refine lv_iload_n F.1 F.2.1 dX8_design_14 rfl (lv_at hl 2 rfl) ?_
  refine cl_RX8_236 (As := [.int (iI cn), .int (iI rn)]) (rest := []) F hl (c_get_pl l X w (y + 1) σ cn rn hL (by omega)) hW hS hg3 rfl rfl ⟨Nat.le_of_ble_eq_true rfl, Nat.le_of_ble_eq_true rfl⟩ (Nat.le_of_ble_eq_true rfl) ⟨Nat.zero_le _, Nat.zero_le _⟩ dX8_design_15 (fun w1 H locs hp2 hW hS => ?_)
  rw [hp2] at hW; clear hp2; clear w1
  exact h_ireti F hr hlk hW hS rfl dX8_design_18
set_option maxHeartbeats 4000000 in
set_option maxRecDepth 100000 in
theorem c_X8_colour (l : Launch) (X : Cx) (w : Wo) (y : Nat) (su : Int) (σ : Int → Int) (co wh : Int) (hY : clO X w y su) (hL : loomAt X w (y + 1) σ) (hco : 0 ≤ co ∧ co < 7) (hw : 0 ≤ wh ∧ wh ≤ 4) : CM l X yX8_colour cX8_colour 3 (some (.int)) (rmk 4 92) [.ref y, .int (iI co), .int (iI wh)] w (some (.int (iI (colQ σ co wh)))) (fun w' => w' = w) := by
  refine CM.of (lv := [(0, .ref y), (1, .int (iI co)), (2, .int (iI wh))]) (by decide) (Nat.le_of_ble_eq_true rfl) rfl (fun p e s m below meth c ls F hr hlk hin hW hS hl => ?_)
  have hZ0 := hW.2.2
  have hB9 := hW.1.2
  clear hin
  unfold clO at hY
  have hO := hL.1.o
  have hA := hL.1
  have hwf := hL.2.2
  have hF := hwf.1
  unfold WF0 at hF
  have hwr : 0 ≤ sm (wovR σ co) 0 (σ 1) ∧ sm (wovR σ co) 0 (σ 1) ≤ 1200 := by have := sm_r (f := wovR σ co) (lo := 0) (hi := σ 1) (M := 40) (by decide) (fun i _ _ => wovR_r hwf co i) (by omega); omega
  refine lv_aload_n F.1 F.2.1 dX8_colour_0 rfl (lv_at hl 0 rfl) ?_
  refine lv_iload_n F.1 F.2.1 dX8_colour_1 rfl (lv_at hl 1 rfl) ?_
  refine cl_RX8_245 (As := [.int (iI co)]) (rest := []) F hl (c_X8_checkColour l X w y su σ co hY hL (by omega)) hW hS hY rfl rfl ⟨Nat.le_of_ble_eq_true rfl, Nat.le_of_ble_eq_true rfl⟩ (Nat.le_of_ble_eq_true rfl) ⟨Nat.zero_le _, Nat.zero_le _⟩ dX8_colour_2 (fun w1 H locs hp1 hW hS => ?_)
  rw [hp1] at hW; clear hp1; clear w1
  refine lv_iload_n F.1 F.2.1 dX8_colour_5 rfl (lv_at hl 2 rfl) ?_
  rcases (show wh = 0 ∨ wh = 1 ∨ wh = 2 ∨ wh = 3 ∨ wh = 4 by omega) with c2 | c2 | c2 | c2 | c2
  · refine lv_tableIn (off := 34) (tgt := 40) F.1 F.2.1 dX8_colour_6 (by rw [iI_toInt (by omega)]; omega) (by rw [iI_toInt (by omega)]; omega) (by rw [iI_toInt (by omega), c2]; rfl) (by decide) ?_
    refine lv_aload_n F.1 F.2.1 dX8_colour_40 rfl (lv_at hl 0 rfl) ?_
    refine gf_RX8_10 F hW hY rfl dX8_colour_41 ?_
    refine lv_iload_n F.1 F.2.1 dX8_colour_44 rfl (lv_at hl 1 rfl) ?_
    refine cl_RX8_248 (As := [.int (iI co)]) (rest := []) F hl (c_X5_stockOf l X w (y + 1) σ co hA hwf (by omega)) hW hS hO rfl rfl ⟨Nat.le_of_ble_eq_true rfl, Nat.le_of_ble_eq_true rfl⟩ (Nat.le_of_ble_eq_true rfl) ⟨Nat.zero_le _, Nat.zero_le _⟩ dX8_colour_45 (fun w1 H locs hp3 hW hS => ?_)
    rw [hp3] at hW; clear hp3; clear w1
    refine h_top (show (σ (6 + co) : Int) = colQ σ co wh from by unfold colQ; (repeat first | rw [if_pos (by omega)] | rw [if_neg (by omega)]) <;> first | rfl | omega) ?_
    exact h_ireti F hr hlk hW hS rfl dX8_colour_48
  · refine lv_tableIn (off := 43) (tgt := 49) F.1 F.2.1 dX8_colour_6 (by rw [iI_toInt (by omega)]; omega) (by rw [iI_toInt (by omega)]; omega) (by rw [iI_toInt (by omega), c2]; rfl) (by decide) ?_
    refine lv_aload_n F.1 F.2.1 dX8_colour_49 rfl (lv_at hl 0 rfl) ?_
    refine gf_RX8_10 F hW hY rfl dX8_colour_50 ?_
    refine lv_iload_n F.1 F.2.1 dX8_colour_53 rfl (lv_at hl 1 rfl) ?_
    refine h_iconst F dX8_colour_54 ?_
    refine lv_aload_n F.1 F.2.1 dX8_colour_55 rfl (lv_at hl 0 rfl) ?_
    refine gf_RX8_10 F hW hY rfl dX8_colour_56 ?_
    refine gf_RX8_148 F hW hO rfl dX8_colour_59 ?_
    refine cl_RX8_251 (As := [.int (iI co), .int (iI 0), .int (iI (σ 4))]) (rest := []) F hl (c_X5_wovenCells l X w (y + 1) σ co 0 (σ 4) hA hwf (by omega) (by omega)) hW hS hO rfl rfl ⟨Nat.le_of_ble_eq_true rfl, Nat.le_of_ble_eq_true rfl⟩ (Nat.le_of_ble_eq_true rfl) ⟨Nat.zero_le _, Nat.zero_le _⟩ dX8_colour_62 (fun w1 H locs hp4 hW hS => ?_)
    rw [hp4] at hW; clear hp4; clear w1
    refine h_top (show (sm (wovR σ co) 0 (σ 4) : Int) = sm (fun y => if y < σ 4 then wovR σ co y else 0) 0 (σ 1) from col1_eq hwf.1 co) ?_
    refine h_top (show (sm (fun y => if y < σ 4 then wovR σ co y else 0) 0 (σ 1) : Int) = colQ σ co wh from by unfold colQ; (repeat first | rw [if_pos (by omega)] | rw [if_neg (by omega)]) <;> first | rfl | omega) ?_
    exact h_ireti F hr hlk hW hS rfl dX8_colour_65
  · refine lv_tableIn (off := 60) (tgt := 66) F.1 F.2.1 dX8_colour_6 (by rw [iI_toInt (by omega)]; omega) (by rw [iI_toInt (by omega)]; omega) (by rw [iI_toInt (by omega), c2]; rfl) (by decide) ?_
    refine lv_aload_n F.1 F.2.1 dX8_colour_66 rfl (lv_at hl 0 rfl) ?_
    refine gf_RX8_10 F hW hY rfl dX8_colour_67 ?_
    refine lv_iload_n F.1 F.2.1 dX8_colour_70 rfl (lv_at hl 1 rfl) ?_
    refine cl_RX8_255 (As := [.int (iI co)]) (rest := []) F hl (c_X5_plannedCells l X w (y + 1) σ co hL (by omega)) hW hS hO rfl rfl ⟨Nat.le_of_ble_eq_true rfl, Nat.le_of_ble_eq_true rfl⟩ (Nat.le_of_ble_eq_true rfl) ⟨Nat.zero_le _, Nat.zero_le _⟩ dX8_colour_71 (fun w1 H locs hp5 hW hS => ?_)
    rw [hp5] at hW; clear hp5; clear w1
    refine h_top (show (sm (plnR σ co) 0 (σ 1) : Int) = colQ σ co wh from by unfold colQ; (repeat first | rw [if_pos (by omega)] | rw [if_neg (by omega)]) <;> first | rfl | omega) ?_
    exact h_ireti F hr hlk hW hS rfl dX8_colour_74
  · refine lv_tableIn (off := 69) (tgt := 75) F.1 F.2.1 dX8_colour_6 (by rw [iI_toInt (by omega)]; omega) (by rw [iI_toInt (by omega)]; omega) (by rw [iI_toInt (by omega), c2]; rfl) (by decide) ?_
    refine lv_aload_n F.1 F.2.1 dX8_colour_75 rfl (lv_at hl 0 rfl) ?_
    refine gf_RX8_10 F hW hY rfl dX8_colour_76 ?_
    refine lv_iload_n F.1 F.2.1 dX8_colour_79 rfl (lv_at hl 1 rfl) ?_
    refine cl_RX8_258 (As := [.int (iI co)]) (rest := []) F hl (c_X5_cellsToWeave l X w (y + 1) σ co hL (by omega)) hW hS hO rfl rfl ⟨Nat.le_of_ble_eq_true rfl, Nat.le_of_ble_eq_true rfl⟩ (Nat.le_of_ble_eq_true rfl) ⟨Nat.zero_le _, Nat.zero_le _⟩ dX8_colour_80 (fun w1 H locs hp6 hW hS => ?_)
    rw [hp6] at hW; clear hp6; clear w1
    refine h_top (show (sm (towR σ co) (σ 4) (σ 1) : Int) = sm (towR σ co) 0 (σ 1) from col3_eq hwf co) ?_
    refine h_top (show (sm (towR σ co) 0 (σ 1) : Int) = colQ σ co wh from by unfold colQ; (repeat first | rw [if_pos (by omega)] | rw [if_neg (by omega)]) <;> first | rfl | omega) ?_
    exact h_ireti F hr hlk hW hS rfl dX8_colour_83
  · refine lv_tableIn (off := 78) (tgt := 84) F.1 F.2.1 dX8_colour_6 (by rw [iI_toInt (by omega)]; omega) (by rw [iI_toInt (by omega)]; omega) (by rw [iI_toInt (by omega), c2]; rfl) (by decide) ?_
    refine lv_aload_n F.1 F.2.1 dX8_colour_84 rfl (lv_at hl 0 rfl) ?_
    refine gf_RX8_10 F hW hY rfl dX8_colour_85 ?_
    refine lv_iload_n F.1 F.2.1 dX8_colour_88 rfl (lv_at hl 1 rfl) ?_
    refine h_iconst F dX8_colour_89 ?_
    refine lv_aload_n F.1 F.2.1 dX8_colour_90 rfl (lv_at hl 0 rfl) ?_
    refine gf_RX8_10 F hW hY rfl dX8_colour_91 ?_
    refine gf_RX8_145 F hW hO rfl dX8_colour_94 ?_
    refine cl_RX8_251 (As := [.int (iI co), .int (iI 0), .int (iI (σ 1))]) (rest := []) F hl (c_X5_wovenCells l X w (y + 1) σ co 0 (σ 1) hA hwf (by omega) (by omega)) hW hS hO rfl rfl ⟨Nat.le_of_ble_eq_true rfl, Nat.le_of_ble_eq_true rfl⟩ (Nat.le_of_ble_eq_true rfl) ⟨Nat.zero_le _, Nat.zero_le _⟩ dX8_colour_97 (fun w1 H locs hp7 hW hS => ?_)
    rw [hp7] at hW; clear hp7; clear w1
    refine h_iconst F dX8_colour_100 ?_
    refine h_idiv F dX8_colour_101 (by omega) ?_
    refine h_top (show ((sm (wovR σ co) 0 (σ 1)) / 2 : Int) = colQ σ co wh from by unfold colQ; (repeat first | rw [if_pos (by omega)] | rw [if_neg (by omega)]) <;> first | rfl | omega) ?_
    exact h_ireti F hr hlk hW hS rfl dX8_colour_102
set_option maxHeartbeats 4000000 in
set_option maxRecDepth 100000 in
theorem c_X8_mistakes (l : Launch) (X : Cx) (w : Wo) (y : Nat) (su : Int) (σ : Int → Int) (wh : Int) (hY : clO X w y su) (hL : loomAt X w (y + 1) σ) (hw : 0 ≤ wh ∧ wh ≤ 5) : CM l X yX8_mistakes cX8_mistakes 2 (some (.int)) (rmk 5 114) [.ref y, .int (iI wh)] w (some (.int (iI (misQ σ wh)))) (fun w' => w' = w) := by
  refine CM.of (lv := [(0, .ref y), (1, .int (iI wh))]) (by decide) (Nat.le_of_ble_eq_true rfl) rfl (fun p e s m below meth c ls F hr hlk hin hW hS hl => ?_)
  have hZ0 := hW.2.2
  have hB9 := hW.1.2
  clear hin
  unfold clO at hY
  have hO := hL.1.o
  have hA := hL.1
  have hwf := hL.2.2
  have hF := hwf.1
  unfold WF0 at hF
  have hl1 := lowS_r hwf.1 true
  have hl2 := lowS_r hwf.1 false
  refine lv_iload_n F.1 F.2.1 dX8_mistakes_0 rfl (lv_at hl 1 rfl) ?_
  rcases (show wh = 0 ∨ wh = 1 ∨ wh = 2 ∨ wh = 3 ∨ wh = 4 ∨ wh = 5 by omega) with c1 | c1 | c1 | c1 | c1 | c1
  · refine lv_tableIn (off := 39) (tgt := 40) F.1 F.2.1 dX8_mistakes_1 (by rw [iI_toInt (by omega)]; omega) (by rw [iI_toInt (by omega)]; omega) (by rw [iI_toInt (by omega), c1]; rfl) (by decide) ?_
    refine lv_aload_n F.1 F.2.1 dX8_mistakes_40 rfl (lv_at hl 0 rfl) ?_
    refine gf_RX8_10 F hW hY rfl dX8_mistakes_41 ?_
    refine h_iconst F dX8_mistakes_44 ?_
    refine cl_RX8_261 (As := [.int (iI 0)]) (rest := []) F hl (c_X5_mistakesFrom l X w (y + 1) σ 0 hL (by omega)) hW hS hO rfl rfl ⟨Nat.le_of_ble_eq_true rfl, Nat.le_of_ble_eq_true rfl⟩ (Nat.le_of_ble_eq_true rfl) ⟨Nat.zero_le _, Nat.zero_le _⟩ dX8_mistakes_45 (fun w1 H locs hp2 hW hS => ?_)
    rw [hp2] at hW; clear hp2; clear w1
    refine h_top (show (misFrom σ 0 : Int) = misQ σ wh from by first | (rw [show wh = 0 by omega]; rfl) | (rw [show wh = 1 by omega]; rfl) | (rw [show wh = 2 by omega]; rfl) | (rw [show wh = 3 by omega]; rfl) | (rw [show wh = 4 by omega]; rfl) | (rw [show wh = 5 by omega]; rfl)) ?_
    exact h_ireti F hr hlk hW hS rfl dX8_mistakes_48
  · refine lv_tableIn (off := 48) (tgt := 49) F.1 F.2.1 dX8_mistakes_1 (by rw [iI_toInt (by omega)]; omega) (by rw [iI_toInt (by omega)]; omega) (by rw [iI_toInt (by omega), c1]; rfl) (by decide) ?_
    refine lv_aload_n F.1 F.2.1 dX8_mistakes_49 rfl (lv_at hl 0 rfl) ?_
    refine gf_RX8_10 F hW hY rfl dX8_mistakes_50 ?_
    refine cl_RX8_264 (As := []) (rest := []) F hl (c_X5_seenMistakes l X w (y + 1) σ hL) hW hS hO rfl rfl ⟨Nat.le_of_ble_eq_true rfl, Nat.le_of_ble_eq_true rfl⟩ (Nat.le_of_ble_eq_true rfl) ⟨Nat.zero_le _, Nat.zero_le _⟩ dX8_mistakes_53 (fun w1 H locs hp3 hW hS => ?_)
    rw [hp3] at hW; clear hp3; clear w1
    refine h_top (show (misSeen σ : Int) = misQ σ wh from by first | (rw [show wh = 0 by omega]; rfl) | (rw [show wh = 1 by omega]; rfl) | (rw [show wh = 2 by omega]; rfl) | (rw [show wh = 3 by omega]; rfl) | (rw [show wh = 4 by omega]; rfl) | (rw [show wh = 5 by omega]; rfl)) ?_
    exact h_ireti F hr hlk hW hS rfl dX8_mistakes_56
  · refine lv_tableIn (off := 56) (tgt := 57) F.1 F.2.1 dX8_mistakes_1 (by rw [iI_toInt (by omega)]; omega) (by rw [iI_toInt (by omega)]; omega) (by rw [iI_toInt (by omega), c1]; rfl) (by decide) ?_
    refine lv_aload_n F.1 F.2.1 dX8_mistakes_57 rfl (lv_at hl 0 rfl) ?_
    refine gf_RX8_10 F hW hY rfl dX8_mistakes_58 ?_
    refine cl_RX8_267 (As := []) (rest := []) F hl (c_X5_faultyRows l X w (y + 1) σ hL) hW hS hO rfl rfl ⟨Nat.le_of_ble_eq_true rfl, Nat.le_of_ble_eq_true rfl⟩ (Nat.le_of_ble_eq_true rfl) ⟨Nat.zero_le _, Nat.zero_le _⟩ dX8_mistakes_61 (fun w1 H locs hp4 hW hS => ?_)
    rw [hp4] at hW; clear hp4; clear w1
    refine h_top (show (cnt (fun z => decide (0 < misRow σ z)) 0 (σ 4) : Int) = misQ σ wh from by first | (rw [show wh = 0 by omega]; rfl) | (rw [show wh = 1 by omega]; rfl) | (rw [show wh = 2 by omega]; rfl) | (rw [show wh = 3 by omega]; rfl) | (rw [show wh = 4 by omega]; rfl) | (rw [show wh = 5 by omega]; rfl)) ?_
    exact h_ireti F hr hlk hW hS rfl dX8_mistakes_64
  · refine lv_tableIn (off := 64) (tgt := 65) F.1 F.2.1 dX8_mistakes_1 (by rw [iI_toInt (by omega)]; omega) (by rw [iI_toInt (by omega)]; omega) (by rw [iI_toInt (by omega), c1]; rfl) (by decide) ?_
    refine lv_aload_n F.1 F.2.1 dX8_mistakes_65 rfl (lv_at hl 0 rfl) ?_
    refine gf_RX8_10 F hW hY rfl dX8_mistakes_66 ?_
    refine h_iconst F dX8_mistakes_69 ?_
    refine cl_RX8_270 (As := [.int (iI 1)]) (rest := []) F hl (c_X5_lowestFaultyRow l X w (y + 1) σ true hL) hW hS hO rfl rfl ⟨Nat.le_of_ble_eq_true rfl, Nat.le_of_ble_eq_true rfl⟩ (Nat.le_of_ble_eq_true rfl) ⟨Nat.zero_le _, Nat.zero_le _⟩ dX8_mistakes_70 (fun w1 H locs hp5 hW hS => ?_)
    rw [hp5] at hW; clear hp5; clear w1
    refine h_top (show (lowS σ true : Int) = misQ σ wh from by first | (rw [show wh = 0 by omega]; rfl) | (rw [show wh = 1 by omega]; rfl) | (rw [show wh = 2 by omega]; rfl) | (rw [show wh = 3 by omega]; rfl) | (rw [show wh = 4 by omega]; rfl) | (rw [show wh = 5 by omega]; rfl)) ?_
    exact h_ireti F hr hlk hW hS rfl dX8_mistakes_73
  · refine lv_tableIn (off := 73) (tgt := 74) F.1 F.2.1 dX8_mistakes_1 (by rw [iI_toInt (by omega)]; omega) (by rw [iI_toInt (by omega)]; omega) (by rw [iI_toInt (by omega), c1]; rfl) (by decide) ?_
    refine lv_aload_n F.1 F.2.1 dX8_mistakes_74 rfl (lv_at hl 0 rfl) ?_
    refine gf_RX8_10 F hW hY rfl dX8_mistakes_75 ?_
    refine lv_aload_n F.1 F.2.1 dX8_mistakes_78 rfl (lv_at hl 0 rfl) ?_
    refine gf_RX8_10 F hW hY rfl dX8_mistakes_79 ?_
    refine h_iconst F dX8_mistakes_82 ?_
    refine cl_RX8_270 (As := [.int (iI 0)]) (rest := [.ref (y + 1)]) F hl (c_X5_lowestFaultyRow l X w (y + 1) σ false hL) hW hS hO rfl rfl ⟨Nat.le_of_ble_eq_true rfl, Nat.le_of_ble_eq_true rfl⟩ (Nat.le_of_ble_eq_true rfl) ⟨Nat.zero_le _, Nat.zero_le _⟩ dX8_mistakes_83 (fun w1 H locs hp6 hW hS => ?_)
    rw [hp6] at hW; clear hp6; clear w1
    refine cl_RX8_274 (As := [.int (iI (lowS σ false))]) (rest := []) F hl (c_X5_rowsDownTo l X w (y + 1) σ (lowS σ false) hA hwf (by omega)) hW hS hO rfl rfl ⟨Nat.le_of_ble_eq_true rfl, Nat.le_of_ble_eq_true rfl⟩ (Nat.le_of_ble_eq_true rfl) ⟨Nat.zero_le _, Nat.zero_le _⟩ dX8_mistakes_86 (fun w1 H locs hp7 hW hS => ?_)
    rw [hp7] at hW; clear hp7; clear w1
    refine h_top (show ((if (lowS σ false) = -1 then 0 else σ 4 - (lowS σ false)) : Int) = misQ σ wh from by first | (rw [show wh = 0 by omega]; rfl) | (rw [show wh = 1 by omega]; rfl) | (rw [show wh = 2 by omega]; rfl) | (rw [show wh = 3 by omega]; rfl) | (rw [show wh = 4 by omega]; rfl) | (rw [show wh = 5 by omega]; rfl)) ?_
    exact h_ireti F hr hlk hW hS rfl dX8_mistakes_89
  · refine lv_tableIn (off := 89) (tgt := 90) F.1 F.2.1 dX8_mistakes_1 (by rw [iI_toInt (by omega)]; omega) (by rw [iI_toInt (by omega)]; omega) (by rw [iI_toInt (by omega), c1]; rfl) (by decide) ?_
    refine lv_aload_n F.1 F.2.1 dX8_mistakes_90 rfl (lv_at hl 0 rfl) ?_
    refine gf_RX8_10 F hW hY rfl dX8_mistakes_91 ?_
    refine lv_aload_n F.1 F.2.1 dX8_mistakes_94 rfl (lv_at hl 0 rfl) ?_
    refine gf_RX8_10 F hW hY rfl dX8_mistakes_95 ?_
    refine h_iconst F dX8_mistakes_98 ?_
    refine cl_RX8_270 (As := [.int (iI 1)]) (rest := [.ref (y + 1)]) F hl (c_X5_lowestFaultyRow l X w (y + 1) σ true hL) hW hS hO rfl rfl ⟨Nat.le_of_ble_eq_true rfl, Nat.le_of_ble_eq_true rfl⟩ (Nat.le_of_ble_eq_true rfl) ⟨Nat.zero_le _, Nat.zero_le _⟩ dX8_mistakes_99 (fun w1 H locs hp8 hW hS => ?_)
    rw [hp8] at hW; clear hp8; clear w1
    refine cl_RX8_274 (As := [.int (iI (lowS σ true))]) (rest := []) F hl (c_X5_rowsDownTo l X w (y + 1) σ (lowS σ true) hA hwf (by omega)) hW hS hO rfl rfl ⟨Nat.le_of_ble_eq_true rfl, Nat.le_of_ble_eq_true rfl⟩ (Nat.le_of_ble_eq_true rfl) ⟨Nat.zero_le _, Nat.zero_le _⟩ dX8_mistakes_102 (fun w1 H locs hp9 hW hS => ?_)
    rw [hp9] at hW; clear hp9; clear w1
    refine h_top (show ((if (lowS σ true) = -1 then 0 else σ 4 - (lowS σ true)) : Int) = misQ σ wh from by first | (rw [show wh = 0 by omega]; rfl) | (rw [show wh = 1 by omega]; rfl) | (rw [show wh = 2 by omega]; rfl) | (rw [show wh = 3 by omega]; rfl) | (rw [show wh = 4 by omega]; rfl) | (rw [show wh = 5 by omega]; rfl)) ?_
    exact h_ireti F hr hlk hW hS rfl dX8_mistakes_105
set_option maxHeartbeats 4000000 in
set_option maxRecDepth 100000 in
theorem c_X8_fits (l : Launch) (X : Cx) (w : Wo) (y : Nat) (su : Int) (σ : Int → Int)  (hY : clO X w y su) (hL : loomAt X w (y + 1) σ) : CM l X yX8_fits cX8_fits 3 (some (.boolean)) (rmk 5 116) [.ref y] w (some (.int (iI (bz (fitQ σ))))) (fun w' => w' = w) := by
  refine CM.of (lv := [(0, .ref y)]) (by decide) (Nat.le_of_ble_eq_true rfl) rfl (fun p e s m below meth c ls F hr hlk hin hW hS hl => ?_)
  have hZ0 := hW.2.2
  have hB9 := hW.1.2
  clear hin
  unfold clO at hY
  have hO := hL.1.o
  have hA := hL.1
  have hwf := hL.2.2
  have hF := hwf.1
  unfold WF0 at hF
  refine lv_aload_n F.1 F.2.1 dX8_fits_0 rfl (lv_at hl 0 rfl) ?_
  refine gf_RX8_10 F hW hY rfl dX8_fits_1 ?_
  refine cl_RX8_277 (As := []) (rest := []) F hl (c_X5_isOpen l X w (y + 1) σ hA hwf) hW hS hO rfl rfl ⟨Nat.le_of_ble_eq_true rfl, Nat.le_of_ble_eq_true rfl⟩ (Nat.le_of_ble_eq_true rfl) ⟨Nat.zero_le _, Nat.zero_le _⟩ dX8_fits_4 (fun w1 H locs hp1 hW hS => ?_)
  rw [hp1] at hW; clear hp1; clear w1
  refine h_ifeqb (tgt := 12) F dX8_fits_7 (by decide) (fun c2 => ?_) (fun c2 => ?_)
  · have c2d := of_decide_eq_false c2
    refine h_iconst F dX8_fits_12 ?_
    refine lv_istore_n (lv' := [(1, .int (iI 0)), (0, .ref y)]) F.1 F.2.1 dX8_fits_13 rfl hl (by decide) rfl (fun ls hl => ?_)
    have loop14 : ∀ (n9 : Nat) (k : Int), (hrg : 0 ≤ k ∧ k ≤ σ 5) → (hms : σ 5 - k < (n9 : Int)) → (hno : ∀ z, 0 ≤ z → z < k → fitB σ z = true) → (H : Heap) → (locs : List Loc) → (ls : Array Slot) → Wd X w s H → va_S (cxA X) s.heap H locs → lv_has ls 3 [(1, .int (iI k)), (0, .ref y)] → W p l e (rmk 5 116) s m (List.toArray [.ref y]) below meth c H locs 0 0 (MX X below (List.toArray [.ref y]) s 0 0 (some (.int (iI (bz (fitQ σ))))) (fun w' => w' = w)) (F0 m 14 ls []) := by
      intro n9
      induction n9 with
      | zero => intro k  hrg hms; exfalso; omega
      | succ n9 ih14 =>
        intro k  hrg hms  hno H locs ls hW hS hl
        refine lv_iload_n F.1 F.2.1 dX8_fits_14 rfl (lv_at hl 0 rfl) ?_
        refine lv_aload_n F.1 F.2.1 dX8_fits_15 rfl (lv_at hl 1 rfl) ?_
        refine gf_RX8_10 F hW hY rfl dX8_fits_16 ?_
        refine gf_RX8_118 F hW hO rfl dX8_fits_19 ?_
        refine h_icge (tgt := 57) F dX8_fits_22 (by decide) (by omega) (fun c3 => ?_) (fun c3 => ?_)
        · refine h_iconst F dX8_fits_57 ?_
          refine h_top (show (1 : Int) = bz (fitQ σ) from bzt (by unfold fitQ; rw [decide_eq_true (p := σ 4 = σ 1) (by omega)]; exact al_iff.mpr (fun j h1 h2 => hno j h1 (by omega)))) ?_
          exact h_iretz F hr hlk hW hS rfl dX8_fits_58
        · refine lv_aload_n F.1 F.2.1 dX8_fits_25 rfl (lv_at hl 1 rfl) ?_
          refine gf_RX8_10 F hW hY rfl dX8_fits_26 ?_
          refine lv_iload_n F.1 F.2.1 dX8_fits_29 rfl (lv_at hl 0 rfl) ?_
          refine cl_RX8_170 (As := [.int (iI k)]) (rest := []) F hl (c_X5_captionAt l X w (y + 1) σ k hA hwf (by omega)) hW hS hO rfl rfl ⟨Nat.le_of_ble_eq_true rfl, Nat.le_of_ble_eq_true rfl⟩ (Nat.le_of_ble_eq_true rfl) ⟨Nat.zero_le _, Nat.zero_le _⟩ dX8_fits_30 (fun w1 H locs hp4 hW hS => ?_)
          rw [hp4] at hW; clear hp4; clear w1
          have hq := hL.1.cap k (by omega) (by omega)
          have hqo := hq.o
          have hcok := hwf.2.2.1 k (by omega) (by omega)
          have hcn := hcok.1
          refine lv_astore_n (lv' := [(2, .ref ((y + 1) + 9 + 2 * k.toNat)), (1, .int (iI k)), (0, .ref y)]) F.1 F.2.1 dX8_fits_33 rfl hl (by decide) rfl (fun ls hl => ?_)
          refine lv_aload_n F.1 F.2.1 dX8_fits_34 rfl (lv_at hl 2 rfl) ?_
          refine gf_RX8_10 F hW hY rfl dX8_fits_35 ?_
          refine lv_aload_n F.1 F.2.1 dX8_fits_38 rfl (lv_at hl 0 rfl) ?_
          refine cl_RX8_193 (As := [.ref ((y + 1) + 9 + 2 * k.toNat)]) (rest := []) F hl (c_X5_lettersRead l X w (y + 1) σ ((y + 1) + 9 + 2 * k.toNat) k hL hq hcok) hW hS hO rfl rfl ⟨Nat.le_of_ble_eq_true rfl, Nat.le_of_ble_eq_true rfl⟩ (Nat.le_of_ble_eq_true rfl) ⟨Nat.zero_le _, Nat.zero_le _⟩ dX8_fits_39 (fun w1 H locs hp5 hW hS => ?_)
          rw [hp5] at hW; clear hp5; clear w1
          refine h_top (show (cnt (fun z => decide (rdN σ k z false = tdS σ k z)) 0 (cp σ k 0) : Int) = cnt (fun z => legS σ k && decide (rdS σ k z false = tdS σ k z)) 0 (cp σ k 0) from rd_cnt hcok) ?_
          refine lv_aload_n F.1 F.2.1 dX8_fits_42 rfl (lv_at hl 0 rfl) ?_
          refine gf_RX8_174 F hW hqo rfl dX8_fits_43 ?_
          refine h_iceq (tgt := 51) F dX8_fits_46 (by decide) (by have := cnt_r (fun z => legS σ k && decide (rdS σ k z false = tdS σ k z)) (lo := 0) (hi := cp σ k 0) (by omega); omega) (fun c6 => ?_) (fun c6 => ?_)
          · refine h_iinc (k := 1) (a := k) (lv' := [(1, .int (iI (k + 1))), (2, .ref ((y + 1) + 9 + 2 * k.toNat)), (0, .ref y)]) F dX8_fits_51 hl rfl (by decide) rfl (fun ls hl => ?_)
            refine h_goto (tgt := 14) F dX8_fits_54 (by decide) ?_
            have eq7 : ((k + 1) : Int) = k + 1 := by first | rfl | omega | simp
            exact ih14 (k + 1)  (by omega) (by omega)  (fun z h1 h2 => (by by_cases hj : z = k; (rw [hj]; exact decide_eq_true (by assumption)); exact hno z h1 (by omega))) _ _ ls hW hS (by rw [eq7]; exact lv_sub hl [0, 2] rfl)
          · refine h_iconst F dX8_fits_49 ?_
            refine h_top (show (0 : Int) = bz (fitQ σ) from bzf (by unfold fitQ; rw [Bool.and_eq_false_iff]; right; rw [← Bool.not_eq_true, al_iff]; intro g; exact absurd (of_decide_eq_true (g k (by omega) (by omega))) (by assumption))) ?_
            exact h_iretz F hr hlk hW hS rfl dX8_fits_50
    exact loop14 ((σ 5 - 0) + 1 : Int).toNat 0  (by omega) (by omega)  (fun j h1 h2 => by omega) _ _ ls hW hS (lv_sub hl [0, 1] rfl)
  · have c2d := of_decide_eq_true c2
    refine h_iconst F dX8_fits_10 ?_
    refine h_top (show (0 : Int) = bz (fitQ σ) from bzf (by unfold fitQ; rw [decide_eq_false (p := σ 4 = σ 1) (by omega)]; rfl)) ?_
    exact h_iretz F hr hlk hW hS rfl dX8_fits_11
set_option maxHeartbeats 4000000 in
set_option maxRecDepth 100000 in
theorem c_X8_isAlike (l : Launch) (X : Cx) (w : Wo) (y : Nat) (su : Int) (σ : Int → Int) (k : Int) (hY : clO X w y su) (hL : loomAt X w (y + 1) σ) (hk : 0 ≤ k ∧ k < σ 5) : CM l X yX8_isAlike cX8_isAlike 2 (some (.boolean)) (rmk 4 84) [.ref y, .int (iI k)] w (some (.int (iI (bz (alkQ σ k))))) (fun w' => w' = w) := by
  refine CM.of (lv := [(0, .ref y), (1, .int (iI k))]) (by decide) (Nat.le_of_ble_eq_true rfl) rfl (fun p e s m below meth c ls F hr hlk hin hW hS hl => ?_)
  have hZ0 := hW.2.2
  have hB9 := hW.1.2
  clear hin
  unfold clO at hY
  have hO := hL.1.o
  have hA := hL.1
  have hwf := hL.2.2
  have hF := hwf.1
  unfold WF0 at hF
  refine lv_aload_n F.1 F.2.1 dX8_isAlike_0 rfl (lv_at hl 0 rfl) ?_
  refine lv_iload_n F.1 F.2.1 dX8_isAlike_1 rfl (lv_at hl 1 rfl) ?_
  refine cl_RX8_167 (As := [.int (iI k)]) (rest := []) F hl (c_X8_checkCaption l X w y su σ k hY hL (by omega)) hW hS hY rfl rfl ⟨Nat.le_of_ble_eq_true rfl, Nat.le_of_ble_eq_true rfl⟩ (Nat.le_of_ble_eq_true rfl) ⟨Nat.zero_le _, Nat.zero_le _⟩ dX8_isAlike_2 (fun w1 H locs hp1 hW hS => ?_)
  rw [hp1] at hW; clear hp1; clear w1
  refine lv_aload_n F.1 F.2.1 dX8_isAlike_5 rfl (lv_at hl 0 rfl) ?_
  refine gf_RX8_10 F hW hY rfl dX8_isAlike_6 ?_
  refine lv_iload_n F.1 F.2.1 dX8_isAlike_9 rfl (lv_at hl 1 rfl) ?_
  refine cl_RX8_170 (As := [.int (iI k)]) (rest := []) F hl (c_X5_captionAt l X w (y + 1) σ k hA hwf (by omega)) hW hS hO rfl rfl ⟨Nat.le_of_ble_eq_true rfl, Nat.le_of_ble_eq_true rfl⟩ (Nat.le_of_ble_eq_true rfl) ⟨Nat.zero_le _, Nat.zero_le _⟩ dX8_isAlike_10 (fun w1 H locs hp2 hW hS => ?_)
  rw [hp2] at hW; clear hp2; clear w1
  have hq := hL.1.cap k (by omega) (by omega)
  have hqo := hq.o
  have hcok := hwf.2.2.1 k (by omega) (by omega)
  have hcn := hcok.1
  refine cl_RX8_280 (As := []) (rest := []) F hl (c_X1_isMirrored l X w ((y + 1) + 9 + 2 * k.toNat) σ k hq hcok hwf.1) hW hS hqo rfl rfl ⟨Nat.le_of_ble_eq_true rfl, Nat.le_of_ble_eq_true rfl⟩ (Nat.le_of_ble_eq_true rfl) ⟨Nat.zero_le _, Nat.zero_le _⟩ dX8_isAlike_13 (fun w1 H locs hp3 hW hS => ?_)
  rw [hp3] at hW; clear hp3; clear w1
  refine h_top (show (bz (al (fun z => decide (gl (cp σ k (5 + (cp σ k 0 - 1 - z))) = revS (gl (cp σ k (5 + z))))) 0 (cp σ k 0)) : Int) = bz (alkQ σ k) from congrArg bz (alk_eq hcok)) ?_
  exact h_iretz F hr hlk hW hS rfl dX8_isAlike_16
set_option maxHeartbeats 4000000 in
set_option maxRecDepth 100000 in
theorem c_X8_joins (l : Launch) (X : Cx) (w : Wo) (y : Nat) (su : Int) (σ : Int → Int) (rn : Int) (hY : clO X w y su) (hL : loomAt X w (y + 1) σ) (hr : 0 ≤ rn ∧ rn < σ 1) : CM l X yX8_joins cX8_joins 2 (some (.int)) (rmk 4 92) [.ref y, .int (iI rn)] w (some (.int (iI (if rn < σ 4 then cnt (fun z => decide (cellS σ z rn ≠ cellS σ (z + 1) rn)) 0 (σ 0 - 1) else -1)))) (fun w' => w' = w) := by
  refine CM.of (lv := [(0, .ref y), (1, .int (iI rn))]) (by decide) (Nat.le_of_ble_eq_true rfl) rfl (fun p e s m below meth c ls F hr hlk hin hW hS hl => ?_)
  have hZ0 := hW.2.2
  have hB9 := hW.1.2
  clear hin
  unfold clO at hY
  have hO := hL.1.o
  have hA := hL.1
  have hwf := hL.2.2
  have hF := hwf.1
  unfold WF0 at hF
  refine lv_aload_n F.1 F.2.1 dX8_joins_0 rfl (lv_at hl 0 rfl) ?_
  refine lv_iload_n F.1 F.2.1 dX8_joins_1 rfl (lv_at hl 1 rfl) ?_
  refine cl_RX8_283 (As := [.int (iI rn)]) (rest := []) F hl (c_X8_checkRow l X w y su σ rn hY hL (by omega)) hW hS hY rfl rfl ⟨Nat.le_of_ble_eq_true rfl, Nat.le_of_ble_eq_true rfl⟩ (Nat.le_of_ble_eq_true rfl) ⟨Nat.zero_le _, Nat.zero_le _⟩ dX8_joins_2 (fun w1 H locs hp1 hW hS => ?_)
  rw [hp1] at hW; clear hp1; clear w1
  refine lv_iload_n F.1 F.2.1 dX8_joins_5 rfl (lv_at hl 1 rfl) ?_
  refine lv_aload_n F.1 F.2.1 dX8_joins_6 rfl (lv_at hl 0 rfl) ?_
  refine gf_RX8_10 F hW hY rfl dX8_joins_7 ?_
  refine gf_RX8_148 F hW hO rfl dX8_joins_10 ?_
  refine h_icge (tgt := 27) F dX8_joins_13 (by decide) (by omega) (fun c2 => ?_) (fun c2 => ?_)
  · refine h_iconst F dX8_joins_27 ?_
    refine h_top (show ((-1) : Int) = (if rn < σ 4 then cnt (fun z => decide (cellS σ z rn ≠ cellS σ (z + 1) rn)) 0 (σ 0 - 1) else -1) from by first | (rw [if_pos (by omega)]; exact jc_eq hwf (by omega)) | rw [if_neg (by omega)]) ?_
    exact h_ireti F hr hlk hW hS rfl dX8_joins_28
  · refine lv_aload_n F.1 F.2.1 dX8_joins_16 rfl (lv_at hl 0 rfl) ?_
    refine gf_RX8_10 F hW hY rfl dX8_joins_17 ?_
    refine lv_iload_n F.1 F.2.1 dX8_joins_20 rfl (lv_at hl 1 rfl) ?_
    refine cl_RX8_286 (As := [.int (iI rn)]) (rest := []) F hl (c_X5_joinsOf l X w (y + 1) σ rn hL (by omega)) hW hS hO rfl rfl ⟨Nat.le_of_ble_eq_true rfl, Nat.le_of_ble_eq_true rfl⟩ (Nat.le_of_ble_eq_true rfl) ⟨Nat.zero_le _, Nat.zero_le _⟩ dX8_joins_21 (fun w1 H locs hp3 hW hS => ?_)
    rw [hp3] at hW; clear hp3; clear w1
    refine h_goto (tgt := 28) F dX8_joins_24 (by decide) ?_
    refine h_top (show (cnt (fun z => decide (wvS σ z rn ≠ wvS σ (z + 1) rn)) 0 (σ 0 - 1) : Int) = (if rn < σ 4 then cnt (fun z => decide (cellS σ z rn ≠ cellS σ (z + 1) rn)) 0 (σ 0 - 1) else -1) from by first | (rw [if_pos (by omega)]; exact jc_eq hwf (by omega)) | rw [if_neg (by omega)]) ?_
    exact h_ireti F hr hlk hW hS rfl dX8_joins_28
set_option maxHeartbeats 4000000 in
set_option maxRecDepth 100000 in
theorem c_X8_slits (l : Launch) (X : Cx) (w : Wo) (y : Nat) (su : Int) (σ : Int → Int) (le : Int) (hY : clO X w y su) (hL : loomAt X w (y + 1) σ) (hle : 2 ≤ le ∧ le ≤ 30) : CM l X yX8_slits cX8_slits 2 (some (.int)) (rmk 4 93) [.ref y, .int (iI le)] w (some (.int (iI (slQ σ le)))) (fun w' => w' = w) := by
  refine CM.of (lv := [(0, .ref y), (1, .int (iI le))]) (by decide) (Nat.le_of_ble_eq_true rfl) rfl (fun p e s m below meth c ls F hr hlk hin hW hS hl => ?_)
  have hZ0 := hW.2.2
  have hB9 := hW.1.2
  clear hin
  unfold clO at hY
  have hO := hL.1.o
  have hA := hL.1
  have hwf := hL.2.2
  have hF := hwf.1
  unfold WF0 at hF
  refine lv_iload_n F.1 F.2.1 dX8_slits_0 rfl (lv_at hl 1 rfl) ?_
  refine h_iconst F dX8_slits_1 ?_
  refine h_iclt (tgt := 11) F dX8_slits_2 (by decide) (by omega) (fun c1 => ?_) (fun c1 => ?_)
  · exfalso; omega
  · refine lv_iload_n F.1 F.2.1 dX8_slits_5 rfl (lv_at hl 1 rfl) ?_
    refine h_bipush F dX8_slits_6 rfl ?_
    refine h_icle (tgt := 21) F dX8_slits_8 (by decide) (by omega) (fun c2 => ?_) (fun c2 => ?_)
    · refine lv_aload_n F.1 F.2.1 dX8_slits_21 rfl (lv_at hl 0 rfl) ?_
      refine gf_RX8_10 F hW hY rfl dX8_slits_22 ?_
      refine lv_iload_n F.1 F.2.1 dX8_slits_25 rfl (lv_at hl 1 rfl) ?_
      refine cl_RX8_289 (As := [.int (iI le)]) (rest := []) F hl (c_X5_slitsOf l X w (y + 1) σ le hL (by omega)) hW hS hO rfl rfl ⟨Nat.le_of_ble_eq_true rfl, Nat.le_of_ble_eq_true rfl⟩ (Nat.le_of_ble_eq_true rfl) ⟨Nat.zero_le _, Nat.zero_le _⟩ dX8_slits_26 (fun w1 H locs hp3 hW hS => ?_)
      rw [hp3] at hW; clear hp3; clear w1
      refine h_top (show (sm (slA σ le) 0 (σ 0 - 1) : Int) = slQ σ le from slt_eq (by omega) (by omega)) ?_
      exact h_ireti F hr hlk hW hS rfl dX8_slits_29
    · exfalso; omega
set_option maxHeartbeats 4000000 in
set_option maxRecDepth 100000 in
theorem c_X8_longestSlit (l : Launch) (X : Cx) (w : Wo) (y : Nat) (su : Int) (σ : Int → Int)  (hY : clO X w y su) (hL : loomAt X w (y + 1) σ) : CM l X yX8_longestSlit cX8_longestSlit 2 (some (.int)) (rmk 4 92) [.ref y] w (some (.int (iI (if slQ σ 2 = 0 then 0 else lgQ σ)))) (fun w' => w' = w) := by
  refine CM.of (lv := [(0, .ref y)]) (by decide) (Nat.le_of_ble_eq_true rfl) rfl (fun p e s m below meth c ls F hr hlk hin hW hS hl => ?_)
  have hZ0 := hW.2.2
  have hB9 := hW.1.2
  clear hin
  unfold clO at hY
  have hO := hL.1.o
  have hA := hL.1
  have hwf := hL.2.2
  have hF := hwf.1
  unfold WF0 at hF
  have hmr := mx_r (f := lgA σ) (lo := 0) (hi := σ 0 - 1) (M := 30) (by decide) (fun q _ _ => by rw [lg_eq (by omega)]; have := lgB_r σ (by omega) q; omega)
  refine lv_aload_n F.1 F.2.1 dX8_longestSlit_0 rfl (lv_at hl 0 rfl) ?_
  refine gf_RX8_10 F hW hY rfl dX8_longestSlit_1 ?_
  refine cl_RX8_292 (As := []) (rest := []) F hl (c_X5_longestRun l X w (y + 1) σ hL) hW hS hO rfl rfl ⟨Nat.le_of_ble_eq_true rfl, Nat.le_of_ble_eq_true rfl⟩ (Nat.le_of_ble_eq_true rfl) ⟨Nat.zero_le _, Nat.zero_le _⟩ dX8_longestSlit_4 (fun w1 H locs hp1 hW hS => ?_)
  rw [hp1] at hW; clear hp1; clear w1
  refine lv_istore_n (lv' := [(1, .int (iI (mx (lgA σ) 0 (σ 0 - 1)))), (0, .ref y)]) F.1 F.2.1 dX8_longestSlit_7 rfl hl (by decide) rfl (fun ls hl => ?_)
  refine lv_iload_n F.1 F.2.1 dX8_longestSlit_8 rfl (lv_at hl 0 rfl) ?_
  refine h_iconst F dX8_longestSlit_9 ?_
  refine h_icge (tgt := 17) F dX8_longestSlit_10 (by decide) (by omega) (fun c2 => ?_) (fun c2 => ?_)
  · refine lv_iload_n F.1 F.2.1 dX8_longestSlit_17 rfl (lv_at hl 0 rfl) ?_
    refine h_top (show (mx (lgA σ) 0 (σ 0 - 1) : Int) = (if slQ σ 2 = 0 then 0 else lgQ σ) from by rw [← long_eq hwf]; first | rw [if_pos (by omega)] | rw [if_neg (by omega)]) ?_
    exact h_ireti F hr hlk hW hS rfl dX8_longestSlit_18
  · refine h_iconst F dX8_longestSlit_13 ?_
    refine h_goto (tgt := 18) F dX8_longestSlit_14 (by decide) ?_
    refine h_top (show (0 : Int) = (if slQ σ 2 = 0 then 0 else lgQ σ) from by rw [← long_eq hwf]; first | rw [if_pos (by omega)] | rw [if_neg (by omega)]) ?_
    exact h_ireti F hr hlk hW hS rfl dX8_longestSlit_18
set_option maxHeartbeats 4000000 in
set_option maxRecDepth 100000 in
theorem c_X8_account (l : Launch) (X : Cx) (w : Wo) (y : Nat) (su : Int) (ac : Int → Int) (wh : Int) (hY : clO X w y su) (hac : w (y + 305) = some (aZ X 9 ac)) (hw : 0 ≤ wh ∧ wh ≤ 8) : CM l X yX8_account cX8_account 2 (some (.int)) (rmk 1 21) [.ref y, .int (iI wh)] w (some (.int (iI (ac wh)))) (fun w' => w' = w) := by
  refine CM.of (lv := [(0, .ref y), (1, .int (iI wh))]) (by decide) (Nat.le_of_ble_eq_true rfl) rfl (fun p e s m below meth c ls F hr hlk hin hW hS hl => ?_)
  have hZ0 := hW.2.2
  have hB9 := hW.1.2
  clear hin
  unfold clO at hY
  refine lv_iload_n F.1 F.2.1 dX8_account_0 rfl (lv_at hl 1 rfl) ?_
  refine h_iflt (tgt := 10) F dX8_account_1 (by decide) (by omega) (fun c1 => ?_) (fun c1 => ?_)
  · exfalso; omega
  · refine lv_iload_n F.1 F.2.1 dX8_account_4 rfl (lv_at hl 1 rfl) ?_
    refine h_bipush F dX8_account_5 rfl ?_
    refine h_iclt (tgt := 20) F dX8_account_7 (by decide) (by omega) (fun c2 => ?_) (fun c2 => ?_)
    · refine lv_aload_n F.1 F.2.1 dX8_account_20 rfl (lv_at hl 0 rfl) ?_
      refine gf_RX8_39 F hW hY rfl dX8_account_21 ?_
      refine lv_iload_n F.1 F.2.1 dX8_account_24 rfl (lv_at hl 1 rfl) ?_
      refine cl_RX8_295 (As := [.ref (y + 305), .int (iI wh)]) (rest := []) F hl (c_X8_at l X w (y + 305) 9 ac wh hac (by omega) (by omega)) hW hS rfl rfl ⟨Nat.le_of_ble_eq_true rfl, Nat.le_of_ble_eq_true rfl⟩ (Nat.le_of_ble_eq_true rfl) ⟨Nat.zero_le _, Nat.zero_le _⟩ dX8_account_25 (fun w1 H locs hp3 hW hS => ?_)
      rw [hp3] at hW; clear hp3; clear w1
      exact h_ireti F hr hlk hW hS rfl dX8_account_28
    · exfalso; omega
set_option maxHeartbeats 4000000 in
set_option maxRecDepth 100000 in
theorem c_X8_lasts (l : Launch) (X : Cx) (w : Wo) (y : Nat) (su : Int) (σ : Int → Int) (am : Int → Int) (hY : clO X w y su) (hL : loomAt X w (y + 1) σ) (ham : w (y + 306) = some (aZ X 7 am)) : CM l X yX8_lasts cX8_lasts 3 (some (.int)) (rmk 4 94) [.ref y] w (some (.int (iI (fi (lastsP σ) 0 (σ 1 - σ 4))))) (fun w' => (∃ f9, w' (y + 306) = some (aZ X 7 f9)) ∧ ∀ q : Nat, q ≠ y + 306 → w' q = w q) := by
  refine CM.of (lv := [(0, .ref y)]) (by decide) (Nat.le_of_ble_eq_true rfl) rfl (fun p e s m below meth c ls F hr hlk hin hW hS hl => ?_)
  have hZ0 := hW.2.2
  have hB9 := hW.1.2
  clear hin
  unfold clO at hY
  have hO := hL.1.o
  have hA := hL.1
  have hwf := hL.2.2
  have hF := hwf.1
  unfold WF0 at hF
  refine lv_aload_n F.1 F.2.1 dX8_lasts_0 rfl (lv_at hl 0 rfl) ?_
  refine gf_RX8_43 F hW hY rfl dX8_lasts_1 ?_
  refine h_iconst F dX8_lasts_4 ?_
  refine cl_RX8_299 (As := [.ref (y + 306), .int (iI 0)]) (rest := []) F hl (c_J7_fill_53178 l X w (y + 306) 7 am 0 ham (by omega)) hW hS rfl rfl ⟨Nat.le_of_ble_eq_true rfl, Nat.le_of_ble_eq_true rfl⟩ (Nat.le_of_ble_eq_true rfl) ⟨Nat.zero_le _, Nat.zero_le _⟩ dX8_lasts_5 (fun w1 H locs hp2 hW hS => ?_)
  obtain ⟨ha3, hn4⟩ := hp2
  have hY := (hn4 _ (by omega)).trans hY
  have hO := (hn4 _ (by omega)).trans hO
  have hL := hL.mv (w2 := w1) (fun q h1 h2 => hn4 q (by omega))
  refine h_iconst F dX8_lasts_8 ?_
  refine lv_istore_n (lv' := [(1, .int (iI 0)), (0, .ref y)]) F.1 F.2.1 dX8_lasts_9 rfl hl (by decide) rfl (fun ls hl => ?_)
  refine lv_aload_n F.1 F.2.1 dX8_lasts_10 rfl (lv_at hl 1 rfl) ?_
  refine gf_RX8_10 F hW hY rfl dX8_lasts_11 ?_
  refine gf_RX8_148 F hW hO rfl dX8_lasts_14 ?_
  refine lv_istore_n (lv' := [(2, .int (iI (σ 4))), (1, .int (iI 0)), (0, .ref y)]) F.1 F.2.1 dX8_lasts_17 rfl hl (by decide) rfl (fun ls hl => ?_)
  have loop18 : ∀ (n9 : Nat) (i : Int), (hrg : σ 4 ≤ i ∧ i ≤ σ 1) → (hms : σ 1 - i < (n9 : Int)) → (wz9 : Wo) → (hA18_0 : wz9 (y + 306) = some (aZ X 7 (ndS am σ false i))) → (hF18 : ∀ q : Nat, q ≠ y + 306 → wz9 q = w1 q) → (hno : ∀ j, 0 ≤ j → j < i - σ 4 → lastsP σ j = false) → (H : Heap) → (locs : List Loc) → (ls : Array Slot) → Wd X wz9 s H → va_S (cxA X) s.heap H locs → lv_has ls 3 [(1, .int (iI (i - σ 4))), (2, .int (iI i)), (0, .ref y)] → W p l e (rmk 4 94) s m (List.toArray [.ref y]) below meth c H locs 0 0 (MX X below (List.toArray [.ref y]) s 0 0 (some (.int (iI (fi (lastsP σ) 0 (σ 1 - σ 4))))) (fun w' => (∃ f9, w' (y + 306) = some (aZ X 7 f9)) ∧ ∀ q : Nat, q ≠ y + 306 → w' q = w q)) (F0 m 18 ls []) := by
    intro n9
    induction n9 with
    | zero => intro i  hrg hms; exfalso; omega
    | succ n9 ih18 =>
      intro i  hrg hms wz9 hA18_0 hF18 hno H locs ls hW hS hl
      have hY := (hF18 _ (by omega)).trans hY
      have hO := (hF18 _ (by omega)).trans hO
      have hL := hL.mv (w2 := wz9) (fun q h1 h2 => hF18 q (by omega))
      refine lv_iload_n F.1 F.2.1 dX8_lasts_18 rfl (lv_at hl 1 rfl) ?_
      refine lv_aload_n F.1 F.2.1 dX8_lasts_19 rfl (lv_at hl 2 rfl) ?_
      refine gf_RX8_10 F hW hY rfl dX8_lasts_20 ?_
      refine gf_RX8_145 F hW hO rfl dX8_lasts_23 ?_
      refine h_icge (tgt := 67) F dX8_lasts_26 (by decide) (by omega) (fun c5 => ?_) (fun c5 => ?_)
      · refine lv_iload_n F.1 F.2.1 dX8_lasts_67 rfl (lv_at hl 0 rfl) ?_
        refine h_top (show (i - σ 4 : Int) = fi (lastsP σ) 0 (σ 1 - σ 4) from by rw [show i - σ 4 = σ 1 - σ 4 by omega] at *; exact (fi_none (by omega) (fun j h1 h2 => hno j h1 (by omega))).symm) ?_
        exact h_ireti F hr hlk hW hS ⟨⟨_, hA18_0⟩, (fun q h09 => by rw [hF18 q (by omega), hn4 q (by omega)])⟩ dX8_lasts_68
      · refine lv_aload_n F.1 F.2.1 dX8_lasts_29 rfl (lv_at hl 2 rfl) ?_
        refine gf_RX8_10 F hW hY rfl dX8_lasts_30 ?_
        refine lv_aload_n F.1 F.2.1 dX8_lasts_33 rfl (lv_at hl 2 rfl) ?_
        refine gf_RX8_43 F hW hY rfl dX8_lasts_34 ?_
        refine lv_iload_n F.1 F.2.1 dX8_lasts_37 rfl (lv_at hl 1 rfl) ?_
        refine h_iconst F dX8_lasts_38 ?_
        refine cl_RX8_305 (As := [.ref (y + 306), .int (iI i), .int (iI 0)]) (rest := []) F hl (c_X5_addNeeds l X wz9 (y + 1) σ (y + 306) (ndS am σ false i) i false hL hA18_0 (by omega) (by omega)) hW hS hO rfl rfl ⟨Nat.le_of_ble_eq_true rfl, Nat.le_of_ble_eq_true rfl⟩ (Nat.le_of_ble_eq_true rfl) ⟨Nat.zero_le _, Nat.zero_le _⟩ dX8_lasts_39 (fun w6 H locs hp7 hW hS => ?_)
        obtain ⟨ha8, hn9⟩ := hp7
        have hY := (hn9 _ (by omega)).trans hY
        have hO := (hn9 _ (by omega)).trans hO
        have hL := hL.mv (w2 := w6) (fun q h1 h2 => hn9 q (by omega))
        refine lv_aload_n F.1 F.2.1 dX8_lasts_42 rfl (lv_at hl 2 rfl) ?_
        refine gf_RX8_10 F hW hY rfl dX8_lasts_43 ?_
        refine lv_aload_n F.1 F.2.1 dX8_lasts_46 rfl (lv_at hl 2 rfl) ?_
        refine gf_RX8_43 F hW hY rfl dX8_lasts_47 ?_
        have hnd9 : ∀ c, 0 ≤ c → c < 7 → 0 ≤ addN (ndS am σ false i) σ false i (σ 0) c ∧ addN (ndS am σ false i) σ false i (σ 0) c ≤ 100000 := fun c c0 c1 => by rw [← ndS_s (by omega), show i + 1 = σ 4 + (i - σ 4 + 1) by omega, ndS_v ⟨c0, c1⟩]; have := takeS_r hwf false c (i - σ 4 + 1) (by omega); omega
        refine cl_RX8_309 (As := [.ref (y + 306)]) (rest := []) F hl (c_X5_suffices l X w6 (y + 1) σ (y + 306) (addN (ndS am σ false i) σ false i (σ 0)) hL.1 hwf ha8 hnd9) hW hS hO rfl rfl ⟨Nat.le_of_ble_eq_true rfl, Nat.le_of_ble_eq_true rfl⟩ (Nat.le_of_ble_eq_true rfl) ⟨Nat.zero_le _, Nat.zero_le _⟩ dX8_lasts_50 (fun w1 H locs hp10 hW hS => ?_)
        rw [hp10] at hW; clear hp10; clear w1
        refine h_top (show (bz (al (fun c => decide ((addN (ndS am σ false i) σ false i (σ 0)) c ≤ σ (6 + c))) 0 7) : Int) = bz (enoS σ false (i - σ 4 + 1)) from congrArg bz (by rw [← ndS_s (by omega), show i + 1 = σ 4 + (i - σ 4 + 1) by omega]; exact suf_eq)) ?_
        refine h_ifneb (tgt := 58) F dX8_lasts_53 (by decide) (fun c11 => ?_) (fun c11 => ?_)
        · refine h_iinc (k := 0) (a := i - σ 4) (lv' := [(1, .int (iI ((i - σ 4) + 1))), (2, .int (iI i)), (0, .ref y)]) F dX8_lasts_58 hl rfl (by decide) rfl (fun ls hl => ?_)
          refine h_iinc (k := 1) (a := i) (lv' := [(2, .int (iI (i + 1))), (1, .int (iI ((i - σ 4) + 1))), (0, .ref y)]) F dX8_lasts_61 hl rfl (by decide) rfl (fun ls hl => ?_)
          refine h_goto (tgt := 18) F dX8_lasts_64 (by decide) ?_
          have eq12 : ((i + 1) - σ 4 : Int) = (i - σ 4) + 1 := by omega
          have eq13 : ((i + 1) : Int) = i + 1 := by first | rfl | omega | simp
          exact ih18 (i + 1)  (by omega) (by omega) w6 (by rw [show (ndS am σ false (i + 1) : Int → Int) = addN (ndS am σ false i) σ false i (σ 0) from ndS_s (by omega)]; exact ha8) (fun q h09 => by rw [hn9 q (by omega), hF18 q (by omega)]) (fun j h1 h2 => (by by_cases hj : j = i - σ 4; (rw [hj]; unfold lastsP; rw [‹enoS σ false (i - σ 4 + 1) = true›]; rfl); exact hno j h1 (by omega))) _ _ ls hW hS (by rw [eq12, eq13]; exact lv_sub hl [1, 0, 2] rfl)
        · refine lv_iload_n F.1 F.2.1 dX8_lasts_56 rfl (lv_at hl 0 rfl) ?_
          refine h_top (show (i - σ 4 : Int) = fi (lastsP σ) 0 (σ 1 - σ 4) from (fi_hit (by omega) (by omega) hno (by unfold lastsP; rw [‹enoS σ false (i - σ 4 + 1) = false›]; rfl)).symm) ?_
          exact h_ireti F hr hlk hW hS ⟨⟨_, ha8⟩, (fun q h09 => by rw [hn9 q (by omega), hF18 q (by omega), hn4 q (by omega)])⟩ dX8_lasts_57
  have eq14 : ((σ 4) - σ 4 : Int) = 0 := by omega
  have eq15 : ((σ 4) : Int) = σ 4 := by first | rfl | omega | simp
  exact loop18 ((σ 1 - (σ 4)) + 1 : Int).toNat (σ 4)  (by omega) (by omega) w1 (by rw [show (ndS am σ false (σ 4) : Int → Int) = flZ am 7 0 from ndS_0 _ _ _]; exact ha3) (fun q _ => rfl) (fun j h1 h2 => by omega) _ _ ls hW hS (by rw [eq14, eq15]; exact lv_sub hl [1, 0, 2] rfl)
set_option maxHeartbeats 4000000 in
set_option maxRecDepth 100000 in
theorem c_X8_minutes (l : Launch) (X : Cx) (w : Wo) (y : Nat) (su : Int) (σ : Int → Int) (rows : Int) (hY : clO X w y su) (hL : loomAt X w (y + 1) σ) (hro : 0 ≤ rows ∧ rows ≤ 30) : CM l X yX8_minutes cX8_minutes 5 (some (.int)) (rmk 4 92) [.ref y, .int (iI rows)] w (some (.int (iI (minQ σ rows)))) (fun w' => w' = w) := by
  refine CM.of (lv := [(0, .ref y), (1, .int (iI rows))]) (by decide) (Nat.le_of_ble_eq_true rfl) rfl (fun p e s m below meth c ls F hr hlk hin hW hS hl => ?_)
  have hZ0 := hW.2.2
  have hB9 := hW.1.2
  clear hin
  unfold clO at hY
  have hO := hL.1.o
  have hA := hL.1
  have hwf := hL.2.2
  have hF := hwf.1
  unfold WF0 at hF
  refine lv_iload_n F.1 F.2.1 dX8_minutes_0 rfl (lv_at hl 1 rfl) ?_
  refine h_iflt (tgt := 10) F dX8_minutes_1 (by decide) (by omega) (fun c1 => ?_) (fun c1 => ?_)
  · exfalso; omega
  · refine lv_iload_n F.1 F.2.1 dX8_minutes_4 rfl (lv_at hl 1 rfl) ?_
    refine h_bipush F dX8_minutes_5 rfl ?_
    refine h_icle (tgt := 21) F dX8_minutes_7 (by decide) (by omega) (fun c2 => ?_) (fun c2 => ?_)
    · refine lv_aload_n F.1 F.2.1 dX8_minutes_21 rfl (lv_at hl 0 rfl) ?_
      refine gf_RX8_10 F hW hY rfl dX8_minutes_22 ?_
      refine gf_RX8_145 F hW hO rfl dX8_minutes_25 ?_
      refine lv_aload_n F.1 F.2.1 dX8_minutes_28 rfl (lv_at hl 0 rfl) ?_
      refine gf_RX8_10 F hW hY rfl dX8_minutes_29 ?_
      refine gf_RX8_148 F hW hO rfl dX8_minutes_32 ?_
      refine lv_iload_n F.1 F.2.1 dX8_minutes_35 rfl (lv_at hl 1 rfl) ?_
      refine h_iadd (a := σ 4) (b := rows) F dX8_minutes_36 ?_
      refine h_mmin (index := 315) (a := σ 1) (b := (σ 4) + rows) F hl km_RX8_315 (Nat.le_of_ble_eq_true rfl) (Nat.le_of_ble_eq_true rfl) (Nat.zero_le _) (Nat.zero_le _) (by omega) dX8_minutes_37 ?_
      refine lv_istore_n (lv' := [(2, .int (iI (min (σ 1) ((σ 4) + rows)))), (0, .ref y), (1, .int (iI rows))]) F.1 F.2.1 dX8_minutes_40 rfl hl (by decide) rfl (fun ls hl => ?_)
      refine h_iconst F dX8_minutes_41 ?_
      refine lv_istore_n (lv' := [(3, .int (iI 0)), (2, .int (iI (min (σ 1) ((σ 4) + rows)))), (0, .ref y), (1, .int (iI rows))]) F.1 F.2.1 dX8_minutes_42 rfl hl (by decide) rfl (fun ls hl => ?_)
      refine lv_aload_n F.1 F.2.1 dX8_minutes_43 rfl (lv_at hl 2 rfl) ?_
      refine gf_RX8_10 F hW hY rfl dX8_minutes_44 ?_
      refine gf_RX8_148 F hW hO rfl dX8_minutes_47 ?_
      refine lv_istore (lv' := [(4, .int (iI (σ 4))), (3, .int (iI 0)), (2, .int (iI (min (σ 1) ((σ 4) + rows)))), (0, .ref y), (1, .int (iI rows))]) F.1 F.2.1 dX8_minutes_50 hl (by decide) rfl (fun ls hl => ?_)
      have loop52 : ∀ (n9 : Nat) (r : Int), (hrg : σ 4 ≤ r ∧ r ≤ min (σ 1) (σ 4 + rows)) → (hms : min (σ 1) (σ 4 + rows) - r < (n9 : Int)) → (H : Heap) → (locs : List Loc) → (ls : Array Slot) → Wd X w s H → va_S (cxA X) s.heap H locs → lv_has ls 5 [(3, .int (iI (sm (fun z => minZ (σ 0) (jwS σ z)) (σ 4) r))), (4, .int (iI r)), (2, .int (iI (min (σ 1) ((σ 4) + rows)))), (0, .ref y), (1, .int (iI rows))] → W p l e (rmk 4 92) s m (List.toArray [.ref y, .int (iI rows)]) below meth c H locs 0 0 (MX X below (List.toArray [.ref y, .int (iI rows)]) s 0 0 (some (.int (iI (minQ σ rows)))) (fun w' => w' = w)) (F0 m 52 ls []) := by
        intro n9
        induction n9 with
        | zero => intro r  hrg hms; exfalso; omega
        | succ n9 ih52 =>
          intro r  hrg hms   H locs ls hW hS hl
          refine lv_iload F.1 F.2.1 dX8_minutes_52 (lv_at hl 1 rfl) ?_
          refine lv_iload_n F.1 F.2.1 dX8_minutes_54 rfl (lv_at hl 2 rfl) ?_
          refine h_icge (tgt := 83) F dX8_minutes_55 (by decide) (by omega) (fun c3 => ?_) (fun c3 => ?_)
          · refine lv_iload_n F.1 F.2.1 dX8_minutes_83 rfl (lv_at hl 0 rfl) ?_
            refine h_top (show (sm (fun z => minZ (σ 0) (jwS σ z)) (σ 4) r : Int) = minQ σ rows from by rw [show r = min (σ 1) (σ 4 + rows) by omega]; rfl) ?_
            exact h_ireti F hr hlk hW hS rfl dX8_minutes_84
          · refine lv_iload_n F.1 F.2.1 dX8_minutes_58 rfl (lv_at hl 0 rfl) ?_
            refine lv_aload_n F.1 F.2.1 dX8_minutes_59 rfl (lv_at hl 3 rfl) ?_
            refine gf_RX8_10 F hW hY rfl dX8_minutes_60 ?_
            refine lv_aload_n F.1 F.2.1 dX8_minutes_63 rfl (lv_at hl 3 rfl) ?_
            refine gf_RX8_10 F hW hY rfl dX8_minutes_64 ?_
            refine lv_iload F.1 F.2.1 dX8_minutes_67 (lv_at hl 1 rfl) ?_
            refine cl_RX8_286 (As := [.int (iI r)]) (rest := [.ref (y + 1), .int (iI (sm (fun z => minZ (σ 0) (jwS σ z)) (σ 4) r))]) F hl (c_X5_joinsOf l X w (y + 1) σ r hL (by omega)) hW hS hO rfl rfl ⟨Nat.le_of_ble_eq_true rfl, Nat.le_of_ble_eq_true rfl⟩ (Nat.le_of_ble_eq_true rfl) ⟨Nat.zero_le _, Nat.zero_le _⟩ dX8_minutes_69 (fun w1 H locs hp4 hW hS => ?_)
            rw [hp4] at hW; clear hp4; clear w1
            refine h_top (show (cnt (fun z => decide (wvS σ z r ≠ wvS σ (z + 1) r)) 0 (σ 0 - 1) : Int) = jwS σ r from rfl) ?_
            have hjr := jwS_r hwf r
            refine cl_RX8_320 (As := [.int (iI (jwS σ r))]) (rest := [.int (iI (sm (fun z => minZ (σ 0) (jwS σ z)) (σ 4) r))]) F hl (c_X5_minutesFor l X w (y + 1) σ (jwS σ r) hA hwf (by omega)) hW hS hO rfl rfl ⟨Nat.le_of_ble_eq_true rfl, Nat.le_of_ble_eq_true rfl⟩ (Nat.le_of_ble_eq_true rfl) ⟨Nat.zero_le _, Nat.zero_le _⟩ dX8_minutes_72 (fun w1 H locs hp5 hW hS => ?_)
            rw [hp5] at hW; clear hp5; clear w1
            refine h_iadd (a := sm (fun z => minZ (σ 0) (jwS σ z)) (σ 4) r) (b := minZ (σ 0) (jwS σ r)) F dX8_minutes_75 ?_
            refine lv_istore_n (lv' := [(3, .int (iI ((sm (fun z => minZ (σ 0) (jwS σ z)) (σ 4) r) + (minZ (σ 0) (jwS σ r))))), (4, .int (iI r)), (2, .int (iI (min (σ 1) ((σ 4) + rows)))), (0, .ref y), (1, .int (iI rows))]) F.1 F.2.1 dX8_minutes_76 rfl hl (by decide) rfl (fun ls hl => ?_)
            refine h_iinc (k := 1) (a := r) (lv' := [(4, .int (iI (r + 1))), (3, .int (iI ((sm (fun z => minZ (σ 0) (jwS σ z)) (σ 4) r) + (minZ (σ 0) (jwS σ r))))), (2, .int (iI (min (σ 1) ((σ 4) + rows)))), (0, .ref y), (1, .int (iI rows))]) F dX8_minutes_77 hl rfl (by decide) rfl (fun ls hl => ?_)
            refine h_goto (tgt := 52) F dX8_minutes_80 (by decide) ?_
            have eq6 : (sm (fun z => minZ (σ 0) (jwS σ z)) (σ 4) (r + 1) : Int) = (sm (fun z => minZ (σ 0) (jwS σ z)) (σ 4) r) + (minZ (σ 0) (jwS σ r)) := sm_s _ (by omega)
            have eq7 : ((r + 1) : Int) = r + 1 := by first | rfl | omega | simp
            exact ih52 (r + 1)  (by omega) (by omega)   _ _ ls hW hS (by rw [eq6, eq7]; exact lv_sub hl [1, 0, 2, 3, 4] rfl)
      have eq8 : (sm (fun z => minZ (σ 0) (jwS σ z)) (σ 4) (σ 4) : Int) = 0 := sm_0 _ _
      have eq9 : ((σ 4) : Int) = σ 4 := by first | rfl | omega | simp
      exact loop52 ((min (σ 1) (σ 4 + rows) - (σ 4)) + 1 : Int).toNat (σ 4)  (by omega) (by omega)   _ _ ls hW hS (by rw [eq8, eq9]; exact lv_sub hl [1, 0, 2, 3, 4] rfl)
    · exfalso; omega
set_option maxHeartbeats 4000000 in
set_option maxRecDepth 100000 in
theorem c_X8_wouldErr (l : Launch) (X : Cx) (w : Wo) (y : Nat) (su : Int) (σ : Int → Int) (rn : Int) (hY : clO X w y su) (hL : loomAt X w (y + 1) σ) (hr : 0 ≤ rn ∧ rn < σ 1) : CM l X yX8_wouldErr cX8_wouldErr 4 (some (.int)) (rmk 3 69) [.ref y, .int (iI rn)] w (some (.int (iI (cnt (fun z => decide (desS σ (turnS σ z) rn ≠ desS σ z rn)) 0 (σ 0))))) (fun w' => w' = w) := by
  refine CM.of (lv := [(0, .ref y), (1, .int (iI rn))]) (by decide) (Nat.le_of_ble_eq_true rfl) rfl (fun p e s m below meth c ls F hr hlk hin hW hS hl => ?_)
  have hZ0 := hW.2.2
  have hB9 := hW.1.2
  clear hin
  unfold clO at hY
  have hO := hL.1.o
  have hA := hL.1
  have hwf := hL.2.2
  have hF := hwf.1
  unfold WF0 at hF
  refine lv_aload_n F.1 F.2.1 dX8_wouldErr_0 rfl (lv_at hl 0 rfl) ?_
  refine lv_iload_n F.1 F.2.1 dX8_wouldErr_1 rfl (lv_at hl 1 rfl) ?_
  refine cl_RX8_283 (As := [.int (iI rn)]) (rest := []) F hl (c_X8_checkRow l X w y su σ rn hY hL (by omega)) hW hS hY rfl rfl ⟨Nat.le_of_ble_eq_true rfl, Nat.le_of_ble_eq_true rfl⟩ (Nat.le_of_ble_eq_true rfl) ⟨Nat.zero_le _, Nat.zero_le _⟩ dX8_wouldErr_2 (fun w1 H locs hp1 hW hS => ?_)
  rw [hp1] at hW; clear hp1; clear w1
  refine h_iconst F dX8_wouldErr_5 ?_
  refine lv_istore_n (lv' := [(2, .int (iI 0)), (0, .ref y), (1, .int (iI rn))]) F.1 F.2.1 dX8_wouldErr_6 rfl hl (by decide) rfl (fun ls hl => ?_)
  refine h_iconst F dX8_wouldErr_7 ?_
  refine lv_istore_n (lv' := [(3, .int (iI 0)), (2, .int (iI 0)), (0, .ref y), (1, .int (iI rn))]) F.1 F.2.1 dX8_wouldErr_8 rfl hl (by decide) rfl (fun ls hl => ?_)
  have loop9 : ∀ (n9 : Nat) (i : Int), (hrg : 0 ≤ i ∧ i ≤ σ 0) → (hms : σ 0 - i < (n9 : Int)) → (H : Heap) → (locs : List Loc) → (ls : Array Slot) → Wd X w s H → va_S (cxA X) s.heap H locs → lv_has ls 4 [(2, .int (iI (cnt (fun z => decide (desS σ (turnS σ z) rn ≠ desS σ z rn)) 0 i))), (3, .int (iI i)), (0, .ref y), (1, .int (iI rn))] → W p l e (rmk 3 69) s m (List.toArray [.ref y, .int (iI rn)]) below meth c H locs 0 0 (MX X below (List.toArray [.ref y, .int (iI rn)]) s 0 0 (some (.int (iI (cnt (fun z => decide (desS σ (turnS σ z) rn ≠ desS σ z rn)) 0 (σ 0))))) (fun w' => w' = w)) (F0 m 9 ls []) := by
    intro n9
    induction n9 with
    | zero => intro i  hrg hms; exfalso; omega
    | succ n9 ih9 =>
      intro i  hrg hms   H locs ls hW hS hl
      refine lv_iload_n F.1 F.2.1 dX8_wouldErr_9 rfl (lv_at hl 1 rfl) ?_
      refine lv_aload_n F.1 F.2.1 dX8_wouldErr_10 rfl (lv_at hl 2 rfl) ?_
      refine gf_RX8_10 F hW hY rfl dX8_wouldErr_11 ?_
      refine gf_RX8_122 F hW hO rfl dX8_wouldErr_14 ?_
      refine h_icge (tgt := 52) F dX8_wouldErr_17 (by decide) (by omega) (fun c2 => ?_) (fun c2 => ?_)
      · refine lv_iload_n F.1 F.2.1 dX8_wouldErr_52 rfl (lv_at hl 0 rfl) ?_
        refine h_top (show (cnt (fun z => decide (desS σ (turnS σ z) rn ≠ desS σ z rn)) 0 i : Int) = cnt (fun z => decide (desS σ (turnS σ z) rn ≠ desS σ z rn)) 0 (σ 0) from by rw [show i = σ 0 by omega]) ?_
        exact h_ireti F hr hlk hW hS rfl dX8_wouldErr_53
      · refine lv_aload_n F.1 F.2.1 dX8_wouldErr_20 rfl (lv_at hl 2 rfl) ?_
        refine gf_RX8_10 F hW hY rfl dX8_wouldErr_21 ?_
        refine lv_iload_n F.1 F.2.1 dX8_wouldErr_24 rfl (lv_at hl 1 rfl) ?_
        refine lv_iload_n F.1 F.2.1 dX8_wouldErr_25 rfl (lv_at hl 3 rfl) ?_
        refine h_iconst F dX8_wouldErr_26 ?_
        refine cl_RX8_323 (As := [.int (iI i), .int (iI rn), .int (iI 1)]) (rest := []) F hl (c_X5_planned l X w (y + 1) σ i rn true hL (by omega)) hW hS hO rfl rfl ⟨Nat.le_of_ble_eq_true rfl, Nat.le_of_ble_eq_true rfl⟩ (Nat.le_of_ble_eq_true rfl) ⟨Nat.zero_le _, Nat.zero_le _⟩ dX8_wouldErr_27 (fun w1 H locs hp3 hW hS => ?_)
        rw [hp3] at hW; clear hp3; clear w1
        refine h_top (show (desS σ (if true then turnS σ i else i) rn : Int) = desS σ (turnS σ i) rn from rfl) ?_
        refine lv_aload_n F.1 F.2.1 dX8_wouldErr_30 rfl (lv_at hl 2 rfl) ?_
        refine gf_RX8_10 F hW hY rfl dX8_wouldErr_31 ?_
        refine lv_iload_n F.1 F.2.1 dX8_wouldErr_34 rfl (lv_at hl 1 rfl) ?_
        refine lv_iload_n F.1 F.2.1 dX8_wouldErr_35 rfl (lv_at hl 3 rfl) ?_
        refine h_iconst F dX8_wouldErr_36 ?_
        refine cl_RX8_323 (As := [.int (iI i), .int (iI rn), .int (iI 0)]) (rest := [.int (iI (desS σ (turnS σ i) rn))]) F hl (c_X5_planned l X w (y + 1) σ i rn false hL (by omega)) hW hS hO rfl rfl ⟨Nat.le_of_ble_eq_true rfl, Nat.le_of_ble_eq_true rfl⟩ (Nat.le_of_ble_eq_true rfl) ⟨Nat.zero_le _, Nat.zero_le _⟩ dX8_wouldErr_37 (fun w1 H locs hp4 hW hS => ?_)
        rw [hp4] at hW; clear hp4; clear w1
        refine h_top (show (desS σ (if false then turnS σ i else i) rn : Int) = desS σ i rn from rfl) ?_
        have hd1 := desS_r hwf (turnS σ i) rn
        have hd2 := desS_r hwf i rn
        refine h_iceq (tgt := 46) F dX8_wouldErr_40 (by decide) (by omega) (fun c5 => ?_) (fun c5 => ?_)
        · refine h_iinc (k := 1) (a := i) (lv' := [(3, .int (iI (i + 1))), (2, .int (iI (cnt (fun z => decide (desS σ (turnS σ z) rn ≠ desS σ z rn)) 0 i))), (0, .ref y), (1, .int (iI rn))]) F dX8_wouldErr_46 hl rfl (by decide) rfl (fun ls hl => ?_)
          refine h_goto (tgt := 9) F dX8_wouldErr_49 (by decide) ?_
          have eq6 : (cnt (fun z => decide (desS σ (turnS σ z) rn ≠ desS σ z rn)) 0 (i + 1) : Int) = cnt (fun z => decide (desS σ (turnS σ z) rn ≠ desS σ z rn)) 0 i := by first | rw [cnt_t (by omega) (decide_eq_true (by assumption))] | (rw [cnt_f (by omega) (decide_eq_false (by omega))])
          have eq7 : ((i + 1) : Int) = i + 1 := by first | rfl | omega | simp
          exact ih9 (i + 1)  (by omega) (by omega)   _ _ ls hW hS (by rw [eq6, eq7]; exact lv_sub hl [1, 0, 2, 3] rfl)
        · refine h_iinc (k := 0) (a := cnt (fun z => decide (desS σ (turnS σ z) rn ≠ desS σ z rn)) 0 i) (lv' := [(2, .int (iI ((cnt (fun z => decide (desS σ (turnS σ z) rn ≠ desS σ z rn)) 0 i) + 1))), (3, .int (iI i)), (0, .ref y), (1, .int (iI rn))]) F dX8_wouldErr_43 hl rfl (by decide) rfl (fun ls hl => ?_)
          refine h_iinc (k := 1) (a := i) (lv' := [(3, .int (iI (i + 1))), (2, .int (iI ((cnt (fun z => decide (desS σ (turnS σ z) rn ≠ desS σ z rn)) 0 i) + 1))), (0, .ref y), (1, .int (iI rn))]) F dX8_wouldErr_46 hl rfl (by decide) rfl (fun ls hl => ?_)
          refine h_goto (tgt := 9) F dX8_wouldErr_49 (by decide) ?_
          have eq8 : (cnt (fun z => decide (desS σ (turnS σ z) rn ≠ desS σ z rn)) 0 (i + 1) : Int) = (cnt (fun z => decide (desS σ (turnS σ z) rn ≠ desS σ z rn)) 0 i) + 1 := by first | rw [cnt_t (by omega) (decide_eq_true (by assumption))] | (rw [cnt_f (by omega) (decide_eq_false (by omega))])
          have eq9 : ((i + 1) : Int) = i + 1 := by first | rfl | omega | simp
          exact ih9 (i + 1)  (by omega) (by omega)   _ _ ls hW hS (by rw [eq8, eq9]; exact lv_sub hl [1, 0, 2, 3] rfl)
  have eq10 : (cnt (fun z => decide (desS σ (turnS σ z) rn ≠ desS σ z rn)) 0 0 : Int) = 0 := cnt_0 _ _
  exact loop9 ((σ 0 - 0) + 1 : Int).toNat 0  (by omega) (by omega)   _ _ ls hW hS (by rw [eq10]; exact lv_sub hl [1, 0, 2, 3] rfl)
set_option maxHeartbeats 4000000 in
set_option maxRecDepth 100000 in
theorem c_X8_place (l : Launch) (X : Cx) (w : Wo) (y : Nat) (su : Int) (σ : Int → Int) (n0 sd0 x0 y0 co0 : Int) (f0 : Int → Int) (n sd : Int) (hY : clO X w y su) (hL : loomAt X w (y + 1) σ) (hv : capV X w (y + 51) n0 sd0 x0 y0 co0 f0) (hn : 1 ≤ n ∧ n ≤ 8) (hsd : sd = 0 ∨ sd = 1) : CM l X yX8_place cX8_place 5 (some (.int)) (rmk 3 66) [.ref y, .int (iI n), .int (iI sd)] w (some (.int (iI (plQ σ n sd)))) (fun w' => (∃ n sd x9 y9 co f, capV X w' (y + 51) n sd x9 y9 co f) ∧ ∀ q : Nat, q ≠ y + 51 → w' q = w q) := by
  refine CM.of (lv := [(0, .ref y), (1, .int (iI n)), (2, .int (iI sd))]) (by decide) (Nat.le_of_ble_eq_true rfl) rfl (fun p e s m below meth c ls F hr hlk hin hW hS hl => ?_)
  have hZ0 := hW.2.2
  have hB9 := hW.1.2
  clear hin
  unfold clO at hY
  have hO := hL.1.o
  have hA := hL.1
  have hwf := hL.2.2
  have hF := hwf.1
  unfold WF0 at hF
  have hbx := hv.1
  have hba := hv.2
  refine lv_iload_n F.1 F.2.1 dX8_place_0 rfl (lv_at hl 1 rfl) ?_
  refine h_iconst F dX8_place_1 ?_
  refine h_iclt (tgt := 18) F dX8_place_2 (by decide) (by omega) (fun c1 => ?_) (fun c1 => ?_)
  · exfalso; omega
  · refine lv_iload_n F.1 F.2.1 dX8_place_5 rfl (lv_at hl 1 rfl) ?_
    refine h_bipush F dX8_place_6 rfl ?_
    refine h_icgt (tgt := 18) F dX8_place_8 (by decide) (by omega) (fun c2 => ?_) (fun c2 => ?_)
    · exfalso; omega
    · refine lv_iload_n F.1 F.2.1 dX8_place_11 rfl (lv_at hl 2 rfl) ?_
      refine cl_RX8_327 (As := [.int (iI sd)]) (rest := []) F hl (c_X8_isSide l X w sd (by omega)) hW hS rfl rfl ⟨Nat.le_of_ble_eq_true rfl, Nat.le_of_ble_eq_true rfl⟩ (Nat.le_of_ble_eq_true rfl) ⟨Nat.zero_le _, Nat.zero_le _⟩ dX8_place_12 (fun w1 H locs hp3 hW hS => ?_)
      rw [hp3] at hW; clear hp3; clear w1
      refine h_ifneb (tgt := 29) F dX8_place_15 (by decide) (fun c4 => ?_) (fun c4 => ?_)
      · have c4d := of_decide_eq_true c4
        refine lv_aload_n F.1 F.2.1 dX8_place_29 rfl (lv_at hl 0 rfl) ?_
        refine gf_RX8_22 F hW hY rfl dX8_place_30 ?_
        refine lv_iload_n F.1 F.2.1 dX8_place_33 rfl (lv_at hl 1 rfl) ?_
        refine pf_RX8_174 F hW hS hbx (Nat.le_of_ble_eq_true rfl) dX8_place_34 (fun w5 H locs ho7 hn6 hW hS => ?_)
        have ho7 : w5 (y + 51) = some (.inr (1, [.ref ((y + 51) + 1), .int (iI n), .int (iI sd0), .int (iI x0), .int (iI y0), .int (iI co0)])) := ho7
        have hY := (hn6 _ (by omega)).trans hY
        have hO := (hn6 _ (by omega)).trans hO
        have hba := (hn6 _ (by omega)).trans hba
        have hL := hL.mv (w2 := w5) (fun q h1 h2 => hn6 q (by omega))
        refine lv_aload_n F.1 F.2.1 dX8_place_37 rfl (lv_at hl 0 rfl) ?_
        refine gf_RX8_22 F hW hY rfl dX8_place_38 ?_
        refine lv_iload_n F.1 F.2.1 dX8_place_41 rfl (lv_at hl 2 rfl) ?_
        refine pf_RX8_177 F hW hS ho7 (Nat.le_of_ble_eq_true rfl) dX8_place_42 (fun w8 H locs ho10 hn9 hW hS => ?_)
        have ho10 : w8 (y + 51) = some (.inr (1, [.ref ((y + 51) + 1), .int (iI n), .int (iI sd), .int (iI x0), .int (iI y0), .int (iI co0)])) := ho10
        have hY := (hn9 _ (by omega)).trans hY
        have hO := (hn9 _ (by omega)).trans hO
        have hba := (hn9 _ (by omega)).trans hba
        have hL := hL.mv (w2 := w8) (fun q h1 h2 => hn9 q (by omega))
        refine lv_aload_n F.1 F.2.1 dX8_place_45 rfl (lv_at hl 0 rfl) ?_
        refine gf_RX8_10 F hW hY rfl dX8_place_46 ?_
        refine gf_RX8_148 F hW hO rfl dX8_place_49 ?_
        refine lv_istore_n (lv' := [(3, .int (iI (σ 4))), (0, .ref y), (1, .int (iI n)), (2, .int (iI sd))]) F.1 F.2.1 dX8_place_52 rfl hl (by decide) rfl (fun ls hl => ?_)
        have loop53 : ∀ (n9 : Nat) (r : Int), (hrg : σ 4 ≤ r ∧ r ≤ σ 1) → (hms : σ 1 - r < (n9 : Int)) → (wr : Wo) → (hF53 : ∀ q : Nat, q ≠ y + 51 → wr q = w8 q) → (hbx5 : ∃ xb yb : Int, wr (y + 51) = some (.inr (1, [.ref ((y + 51) + 1), .int (iI n), .int (iI sd), .int (iI xb), .int (iI yb), .int (iI co0)]))) → (hnoy : ∀ z, σ 4 ≤ z → z < r → plY σ n sd z = false) → (H : Heap) → (locs : List Loc) → (ls : Array Slot) → Wd X wr s H → va_S (cxA X) s.heap H locs → lv_has ls 5 [(3, .int (iI r)), (0, .ref y), (1, .int (iI n)), (2, .int (iI sd))] → W p l e (rmk 3 66) s m (List.toArray [.ref y, .int (iI n), .int (iI sd)]) below meth c H locs 0 0 (MX X below (List.toArray [.ref y, .int (iI n), .int (iI sd)]) s 0 0 (some (.int (iI (plQ σ n sd)))) (fun w' => (∃ n sd x9 y9 co f, capV X w' (y + 51) n sd x9 y9 co f) ∧ ∀ q : Nat, q ≠ y + 51 → w' q = w q)) (F0 m 53 ls []) := by
          intro n9
          induction n9 with
          | zero => intro r  hrg hms; exfalso; omega
          | succ n9 ih53 =>
            intro r  hrg hms wr hF53 hbx5 hnoy H locs ls hW hS hl
            have hY := (hF53 _ (by omega)).trans hY
            have hO := (hF53 _ (by omega)).trans hO
            have hba := (hF53 _ (by omega)).trans hba
            have hL := hL.mv (w2 := wr) (fun q h1 h2 => hF53 q (by omega))
            obtain ⟨xb, yb, hbx⟩ := hbx5
            refine lv_iload_n F.1 F.2.1 dX8_place_53 rfl (lv_at hl 0 rfl) ?_
            refine lv_aload_n F.1 F.2.1 dX8_place_54 rfl (lv_at hl 1 rfl) ?_
            refine gf_RX8_10 F hW hY rfl dX8_place_55 ?_
            refine gf_RX8_145 F hW hO rfl dX8_place_58 ?_
            refine h_icge (tgt := 138) F dX8_place_61 (by decide) (by omega) (fun c11 => ?_) (fun c11 => ?_)
            · refine h_iconst F dX8_place_138 ?_
              refine h_top (show ((-1) : Int) = plQ σ n sd from by unfold plQ; rw [fi_none (by omega) (fun r h1 h2 => hnoy r h1 (by omega)), if_neg (by omega)]) ?_
              exact h_ireti F hr hlk hW hS ⟨⟨_, _, _, _, _, _, hbx, hba⟩, (fun q h09 => by rw [hF53 q (by omega), hn9 q (by omega), hn6 q (by omega)])⟩ dX8_place_139
            · refine h_iconst F dX8_place_64 ?_
              refine lv_istore (lv' := [(4, .int (iI 0)), (3, .int (iI r)), (0, .ref y), (1, .int (iI n)), (2, .int (iI sd))]) F.1 F.2.1 dX8_place_65 hl (by decide) rfl (fun ls hl => ?_)
              have loop67 : ∀ (n9 : Nat) (x : Int), (hrg : 0 ≤ x ∧ x ≤ σ 0) → (hms : σ 0 - x < (n9 : Int)) → (wx : Wo) → (hF67 : ∀ q : Nat, q ≠ y + 51 → wx q = wr q) → (hbx7 : ∃ xb yb : Int, wx (y + 51) = some (.inr (1, [.ref ((y + 51) + 1), .int (iI n), .int (iI sd), .int (iI xb), .int (iI yb), .int (iI co0)]))) → (hnox : ∀ z, 0 ≤ z → z < x → plP σ n sd r z = false) → (H : Heap) → (locs : List Loc) → (ls : Array Slot) → Wd X wx s H → va_S (cxA X) s.heap H locs → lv_has ls 5 [(4, .int (iI x)), (3, .int (iI r)), (0, .ref y), (1, .int (iI n)), (2, .int (iI sd))] → W p l e (rmk 3 66) s m (List.toArray [.ref y, .int (iI n), .int (iI sd)]) below meth c H locs 0 0 (MX X below (List.toArray [.ref y, .int (iI n), .int (iI sd)]) s 0 0 (some (.int (iI (plQ σ n sd)))) (fun w' => (∃ n sd x9 y9 co f, capV X w' (y + 51) n sd x9 y9 co f) ∧ ∀ q : Nat, q ≠ y + 51 → w' q = w q)) (F0 m 67 ls []) := by
                intro n9
                induction n9 with
                | zero => intro x  hrg hms; exfalso; omega
                | succ n9 ih67 =>
                  intro x  hrg hms wx hF67 hbx7 hnox H locs ls hW hS hl
                  have hY := (hF67 _ (by omega)).trans hY
                  have hO := (hF67 _ (by omega)).trans hO
                  have hba := (hF67 _ (by omega)).trans hba
                  have hL := hL.mv (w2 := wx) (fun q h1 h2 => hF67 q (by omega))
                  obtain ⟨xb, yb, hbx⟩ := hbx7
                  refine lv_iload F.1 F.2.1 dX8_place_67 (lv_at hl 0 rfl) ?_
                  refine lv_aload_n F.1 F.2.1 dX8_place_69 rfl (lv_at hl 2 rfl) ?_
                  refine gf_RX8_10 F hW hY rfl dX8_place_70 ?_
                  refine gf_RX8_122 F hW hO rfl dX8_place_73 ?_
                  refine h_icge (tgt := 132) F dX8_place_76 (by decide) (by omega) (fun c12 => ?_) (fun c12 => ?_)
                  · refine h_iinc (k := 1) (a := r) (lv' := [(3, .int (iI (r + 1))), (4, .int (iI x)), (0, .ref y), (1, .int (iI n)), (2, .int (iI sd))]) F dX8_place_132 hl rfl (by decide) rfl (fun ls hl => ?_)
                    refine h_goto (tgt := 53) F dX8_place_135 (by decide) ?_
                    have eq13 : ((r + 1) : Int) = r + 1 := by first | rfl | omega | simp
                    exact ih53 (r + 1)  (by omega) (by omega) wx (fun q h09 => by rw [hF67 q (by omega), hF53 q (by omega)]) (⟨_, _, hbx⟩) (fun z h1 h2 => (by by_cases hj : z = r; (rw [hj]; exact ex_f.mpr (fun q g1 g2 => hnox q g1 (by omega))); exact hnoy z h1 (by omega))) _ _ ls hW hS (by rw [eq13]; exact lv_sub hl [0, 2, 3, 4] rfl)
                  · refine lv_aload_n F.1 F.2.1 dX8_place_79 rfl (lv_at hl 2 rfl) ?_
                    refine gf_RX8_22 F hW hY rfl dX8_place_80 ?_
                    refine lv_iload F.1 F.2.1 dX8_place_83 (lv_at hl 0 rfl) ?_
                    refine lv_iload_n F.1 F.2.1 dX8_place_85 rfl (lv_at hl 1 rfl) ?_
                    have hv2 : capV X wx (y + 51) n sd xb yb co0 f0 := ⟨hbx, hba⟩
                    refine cl_RX8_332 (As := [.int (iI x), .int (iI r)]) (rest := []) F hl (c_X1_putAt l X wx (y + 51) n sd xb yb co0 f0 x r hv2) hW hS hbx rfl rfl ⟨Nat.le_of_ble_eq_true rfl, Nat.le_of_ble_eq_true rfl⟩ (Nat.le_of_ble_eq_true rfl) ⟨Nat.zero_le _, Nat.zero_le _⟩ dX8_place_86 (fun w14 H locs hp15 hW hS => ?_)
                    obtain ⟨ho16, hn17⟩ := hp15
                    have hY := (hn17 _ (by omega)).trans hY
                    have hO := (hn17 _ (by omega)).trans hO
                    have hba := (hn17 _ (by omega)).trans hba
                    have hL := hL.mv (w2 := w14) (fun q h1 h2 => hn17 q (by omega))
                    refine lv_aload_n F.1 F.2.1 dX8_place_89 rfl (lv_at hl 2 rfl) ?_
                    refine gf_RX8_10 F hW hY rfl dX8_place_90 ?_
                    refine lv_aload_n F.1 F.2.1 dX8_place_93 rfl (lv_at hl 2 rfl) ?_
                    refine gf_RX8_22 F hW hY rfl dX8_place_94 ?_
                    have hv2 : capV X w14 (y + 51) n sd x r co0 f0 := ⟨ho16, hba⟩
                    refine cl_RX8_335 (As := [.ref (y + 51)]) (rest := []) F hl (c_X5_holds l X w14 (y + 1) σ (y + 51) n sd x r co0 f0 hL.1 hwf hv2 (by omega) (by omega) (by omega)) hW hS hO rfl rfl ⟨Nat.le_of_ble_eq_true rfl, Nat.le_of_ble_eq_true rfl⟩ (Nat.le_of_ble_eq_true rfl) ⟨Nat.zero_le _, Nat.zero_le _⟩ dX8_place_97 (fun w1 H locs hp18 hW hS => ?_)
                    rw [hp18] at hW; clear hp18; clear w1
                    refine h_ifeqb (tgt := 126) F dX8_place_100 (by decide) (fun c19 => ?_) (fun c19 => ?_)
                    · refine h_iinc (k := 0) (a := x) (lv' := [(4, .int (iI (x + 1))), (3, .int (iI r)), (0, .ref y), (1, .int (iI n)), (2, .int (iI sd))]) F dX8_place_126 hl rfl (by decide) rfl (fun ls hl => ?_)
                      refine h_goto (tgt := 67) F dX8_place_129 (by decide) ?_
                      have eq20 : ((x + 1) : Int) = x + 1 := by first | rfl | omega | simp
                      exact ih67 (x + 1)  (by omega) (by omega) w14 (fun q h09 => by rw [hn17 q (by omega), hF67 q (by omega)]) (⟨_, _, ho16⟩) (fun z h1 h2 => (by by_cases hj : z = x; (rw [hj]; unfold plP; first | (rw [‹liesS σ n x r = false›]; rfl) | (rw [‹(!(meetS σ n sd x r (-1))) = false›]; simp)); exact hnox z h1 (by omega))) _ _ ls hW hS (by rw [eq20]; exact lv_sub hl [0, 1, 2, 3, 4] rfl)
                    · have hl9 : 0 ≤ x ∧ 0 ≤ r ∧ x + 4 * n - 2 < σ 0 ∧ r + 4 < σ 1 := of_decide_eq_true c19
                      refine lv_aload_n F.1 F.2.1 dX8_place_103 rfl (lv_at hl 2 rfl) ?_
                      refine gf_RX8_10 F hW hY rfl dX8_place_104 ?_
                      refine lv_aload_n F.1 F.2.1 dX8_place_107 rfl (lv_at hl 2 rfl) ?_
                      refine gf_RX8_22 F hW hY rfl dX8_place_108 ?_
                      refine h_iconst F dX8_place_111 ?_
                      refine cl_RX8_338 (As := [.ref (y + 51), .int (iI (-1))]) (rest := []) F hl (c_X5_isFree l X w14 (y + 1) σ (y + 51) n sd x r co0 f0 (-1) hL.1 hwf hv2 (by omega) (by omega) (by omega) (by omega) (by omega)) hW hS hO rfl rfl ⟨Nat.le_of_ble_eq_true rfl, Nat.le_of_ble_eq_true rfl⟩ (Nat.le_of_ble_eq_true rfl) ⟨Nat.zero_le _, Nat.zero_le _⟩ dX8_place_112 (fun w1 H locs hp21 hW hS => ?_)
                      rw [hp21] at hW; clear hp21; clear w1
                      refine h_ifeqb (tgt := 126) F dX8_place_115 (by decide) (fun c22 => ?_) (fun c22 => ?_)
                      · refine h_iinc (k := 0) (a := x) (lv' := [(4, .int (iI (x + 1))), (3, .int (iI r)), (0, .ref y), (1, .int (iI n)), (2, .int (iI sd))]) F dX8_place_126 hl rfl (by decide) rfl (fun ls hl => ?_)
                        refine h_goto (tgt := 67) F dX8_place_129 (by decide) ?_
                        have eq23 : ((x + 1) : Int) = x + 1 := by first | rfl | omega | simp
                        exact ih67 (x + 1)  (by omega) (by omega) w14 (fun q h09 => by rw [hn17 q (by omega), hF67 q (by omega)]) (⟨_, _, ho16⟩) (fun z h1 h2 => (by by_cases hj : z = x; (rw [hj]; unfold plP; first | (rw [‹liesS σ n x r = false›]; rfl) | (rw [‹(!(meetS σ n sd x r (-1))) = false›]; simp)); exact hnox z h1 (by omega))) _ _ ls hW hS (by rw [eq23]; exact lv_sub hl [0, 1, 2, 3, 4] rfl)
                      · refine h_bipush F dX8_place_118 rfl ?_
                        refine lv_iload_n F.1 F.2.1 dX8_place_120 rfl (lv_at hl 1 rfl) ?_
                        refine h_imul (a := 100) (b := r) F dX8_place_121 ?_
                        refine lv_iload F.1 F.2.1 dX8_place_122 (lv_at hl 0 rfl) ?_
                        refine h_iadd (a := 100 * r) (b := x) F dX8_place_124 ?_
                        have hp9 : plP σ n sd r x = true := by unfold plP; rw [‹liesS σ n x r = true›, ‹(!(meetS σ n sd x r (-1))) = true›]; rfl
                        have hx9 : fi (plP σ n sd r) 0 (σ 0) = x := fi_hit (by omega) (by omega) hnox hp9
                        have hy9 : fi (plY σ n sd) (σ 4) (σ 1) = r := fi_hit (by omega) (by omega) hnoy (ex_t (i := x) (by omega) (by omega) hp9)
                        refine h_top (show ((100 * r) + x : Int) = plQ σ n sd from by unfold plQ; rw [hy9, hx9, if_pos (by omega)]) ?_
                        exact h_ireti F hr hlk hW hS ⟨⟨_, _, _, _, _, _, ho16, hba⟩, (fun q h09 => by rw [hn17 q (by omega), hF67 q (by omega), hF53 q (by omega), hn9 q (by omega), hn6 q (by omega)])⟩ dX8_place_125
              exact loop67 ((σ 0 - 0) + 1 : Int).toNat 0  (by omega) (by omega) wr (fun q _ => rfl) (⟨_, _, hbx⟩) (fun j h1 h2 => by omega) _ _ ls hW hS (lv_sub hl [0, 1, 2, 3, 4] rfl)
        have eq24 : ((σ 4) : Int) = σ 4 := by first | rfl | omega | simp
        exact loop53 ((σ 1 - (σ 4)) + 1 : Int).toNat (σ 4)  (by omega) (by omega) w8 (fun q _ => rfl) (⟨_, _, ho10⟩) (fun j h1 h2 => by omega) _ _ ls hW hS (by rw [eq24]; exact lv_sub hl [0, 1, 2, 3] rfl)
      · have c4d := of_decide_eq_false c4
        exfalso; omega
set_option maxHeartbeats 4000000 in
set_option maxRecDepth 100000 in
theorem c_X8_meanJoins (l : Launch) (X : Cx) (w : Wo) (y : Nat) (su : Int) (σ : Int → Int)  (hY : clO X w y su) (hL : loomAt X w (y + 1) σ) : CM l X yX8_meanJoins cX8_meanJoins 3 (some (.double)) (rmk 4 92) [.ref y] w (some (.double (mjQ σ))) (fun w' => w' = w) := by
  refine CM.of (lv := [(0, .ref y)]) (by decide) (Nat.le_of_ble_eq_true rfl) rfl (fun p e s m below meth c ls F hr hlk hin hW hS hl => ?_)
  have hZ0 := hW.2.2
  have hB9 := hW.1.2
  clear hin
  unfold clO at hY
  have hO := hL.1.o
  have hA := hL.1
  have hwf := hL.2.2
  have hF := hwf.1
  unfold WF0 at hF
  refine lv_aload_n F.1 F.2.1 dX8_meanJoins_0 rfl (lv_at hl 0 rfl) ?_
  refine gf_RX8_10 F hW hY rfl dX8_meanJoins_1 ?_
  refine gf_RX8_148 F hW hO rfl dX8_meanJoins_4 ?_
  refine h_ifgt (tgt := 12) F dX8_meanJoins_7 (by decide) (by omega) (fun c1 => ?_) (fun c1 => ?_)
  · refine h_iconst F dX8_meanJoins_12 ?_
    refine lv_istore_n (lv' := [(1, .int (iI 0)), (0, .ref y)]) F.1 F.2.1 dX8_meanJoins_13 rfl hl (by decide) rfl (fun ls hl => ?_)
    refine h_iconst F dX8_meanJoins_14 ?_
    refine lv_istore_n (lv' := [(2, .int (iI 0)), (1, .int (iI 0)), (0, .ref y)]) F.1 F.2.1 dX8_meanJoins_15 rfl hl (by decide) rfl (fun ls hl => ?_)
    have loop16 : ∀ (n9 : Nat) (r : Int), (hrg : 0 ≤ r ∧ r ≤ σ 4) → (hms : σ 4 - r < (n9 : Int)) → (H : Heap) → (locs : List Loc) → (ls : Array Slot) → Wd X w s H → va_S (cxA X) s.heap H locs → lv_has ls 3 [(1, .int (iI (sm (jcS σ) 0 r))), (2, .int (iI r)), (0, .ref y)] → W p l e (rmk 4 92) s m (List.toArray [.ref y]) below meth c H locs 0 0 (MX X below (List.toArray [.ref y]) s 0 0 (some (.double (mjQ σ))) (fun w' => w' = w)) (F0 m 16 ls []) := by
      intro n9
      induction n9 with
      | zero => intro r  hrg hms; exfalso; omega
      | succ n9 ih16 =>
        intro r  hrg hms   H locs ls hW hS hl
        refine lv_iload_n F.1 F.2.1 dX8_meanJoins_16 rfl (lv_at hl 1 rfl) ?_
        refine lv_aload_n F.1 F.2.1 dX8_meanJoins_17 rfl (lv_at hl 2 rfl) ?_
        refine gf_RX8_10 F hW hY rfl dX8_meanJoins_18 ?_
        refine gf_RX8_148 F hW hO rfl dX8_meanJoins_21 ?_
        refine h_icge (tgt := 44) F dX8_meanJoins_24 (by decide) (by omega) (fun c2 => ?_) (fun c2 => ?_)
        · refine lv_iload_n F.1 F.2.1 dX8_meanJoins_44 rfl (lv_at hl 0 rfl) ?_
          refine lv_i2d F.1 F.2.1 dX8_meanJoins_45 ?_
          refine lv_aload_n F.1 F.2.1 dX8_meanJoins_46 rfl (lv_at hl 2 rfl) ?_
          refine gf_RX8_10 F hW hY rfl dX8_meanJoins_47 ?_
          refine gf_RX8_148 F hW hO rfl dX8_meanJoins_50 ?_
          refine lv_i2d F.1 F.2.1 dX8_meanJoins_53 ?_
          refine lv_ddiv F.1 F.2.1 dX8_meanJoins_54 (ddiv_ok (by rw [show r = σ 4 by omega]; exact jcN_r hwf) (by omega)) ?_
          refine h_topv (show (.double (FP.ddiv (FP.i2d (iI (sm (jcS σ) 0 r))) (FP.i2d (iI (σ 4)))) : Value) = .double (mjQ σ) from by unfold mjQ; first | rw [if_pos (by omega)] | (rw [if_neg (by omega), show r = σ 4 by omega])) ?_
          exact h_dret F hr hlk hW hS rfl dX8_meanJoins_55
        · refine lv_iload_n F.1 F.2.1 dX8_meanJoins_27 rfl (lv_at hl 0 rfl) ?_
          refine lv_aload_n F.1 F.2.1 dX8_meanJoins_28 rfl (lv_at hl 2 rfl) ?_
          refine gf_RX8_10 F hW hY rfl dX8_meanJoins_29 ?_
          refine lv_iload_n F.1 F.2.1 dX8_meanJoins_32 rfl (lv_at hl 1 rfl) ?_
          refine cl_RX8_286 (As := [.int (iI r)]) (rest := [.int (iI (sm (jcS σ) 0 r))]) F hl (c_X5_joinsOf l X w (y + 1) σ r hL (by omega)) hW hS hO rfl rfl ⟨Nat.le_of_ble_eq_true rfl, Nat.le_of_ble_eq_true rfl⟩ (Nat.le_of_ble_eq_true rfl) ⟨Nat.zero_le _, Nat.zero_le _⟩ dX8_meanJoins_33 (fun w1 H locs hp3 hW hS => ?_)
          rw [hp3] at hW; clear hp3; clear w1
          refine h_top (show (cnt (fun z => decide (wvS σ z r ≠ wvS σ (z + 1) r)) 0 (σ 0 - 1) : Int) = jcS σ r from jc_eq hwf (by omega)) ?_
          refine h_iadd (a := sm (jcS σ) 0 r) (b := jcS σ r) F dX8_meanJoins_36 ?_
          refine lv_istore_n (lv' := [(1, .int (iI ((sm (jcS σ) 0 r) + (jcS σ r)))), (2, .int (iI r)), (0, .ref y)]) F.1 F.2.1 dX8_meanJoins_37 rfl hl (by decide) rfl (fun ls hl => ?_)
          refine h_iinc (k := 1) (a := r) (lv' := [(2, .int (iI (r + 1))), (1, .int (iI ((sm (jcS σ) 0 r) + (jcS σ r)))), (0, .ref y)]) F dX8_meanJoins_38 hl rfl (by decide) rfl (fun ls hl => ?_)
          refine h_goto (tgt := 16) F dX8_meanJoins_41 (by decide) ?_
          have eq4 : (sm (jcS σ) 0 (r + 1) : Int) = (sm (jcS σ) 0 r) + (jcS σ r) := by rw [sm_s _ (by omega)]
          have eq5 : ((r + 1) : Int) = r + 1 := by first | rfl | omega | simp
          exact ih16 (r + 1)  (by omega) (by omega)   _ _ ls hW hS (by rw [eq4, eq5]; exact lv_sub hl [1, 0, 2] rfl)
    have eq6 : (sm (jcS σ) 0 0 : Int) = 0 := sm_0 _ _
    exact loop16 ((σ 4 - 0) + 1 : Int).toNat 0  (by omega) (by omega)   _ _ ls hW hS (by rw [eq6]; exact lv_sub hl [1, 0, 2] rfl)
  · refine lv_dconst0 F.1 F.2.1 dX8_meanJoins_10 ?_
    refine h_topv (show (.double FP.dconst0 : Value) = .double (mjQ σ) from by unfold mjQ; first | rw [if_pos (by omega)] | (rw [if_neg (by omega), show r = σ 4 by omega])) ?_
    exact h_dret F hr hlk hW hS rfl dX8_meanJoins_11
set_option maxHeartbeats 4000000 in
set_option maxRecDepth 100000 in
theorem c_X8_errorCode (l : Launch) (X : Cx) (w : Wo) (y : Nat) (su : Int) (r1 r2 r3 r4 r5 ec ep : Int) (hY : clO X w y su) (hR : w (y + 311) = some (.inr (6, [.ref (y + 307), .int (iI r1), .int (iI r2), .int (iI r3), .int (iI r4), .int (iI r5), .int (iI ec), .int (iI ep)]))) : CM l X yX8_errorCode cX8_errorCode 1 (some (.int)) (rmk 0 0) [.ref y] w (some (.int (iI ec))) (fun w' => w' = w) := by
  refine CM.of (lv := [(0, .ref y)]) (by decide) (Nat.le_of_ble_eq_true rfl) rfl (fun p e s m below meth c ls F hr hlk hin hW hS hl => ?_)
  have hZ0 := hW.2.2
  have hB9 := hW.1.2
  clear hin
  unfold clO at hY
  refine lv_aload_n F.1 F.2.1 dX8_errorCode_0 rfl (lv_at hl 0 rfl) ?_
  refine gf_RX8_61 F hW hY rfl dX8_errorCode_1 ?_
  refine gf_RX8_139 F hW hR rfl dX8_errorCode_4 ?_
  exact h_ireti F hr hlk hW hS rfl dX8_errorCode_7
