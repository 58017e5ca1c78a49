/-! ===== what the class throws ===== -/
set_option maxHeartbeats 4000000 in
set_option maxRecDepth 100000 in
theorem x_X8_checkCaption (l : Launch) (X : Cx) (w : Wo) (y : Nat) (su : Int) (σ : Int → Int) (k : Int) (hst : l.stackTraces = false) (hY : clO X w y su) (hL : loomAt X w (y + 1) σ) (rk : -2147483648 ≤ k ∧ k < 2147483648) (hb : ¬ (0 ≤ k ∧ k < σ 5)) : CX l X yX8_checkCaption cX8_checkCaption 2 none (rmx 6 82) [.ref y, .int (iI k)] w "java/lang/IndexOutOfBoundsException" (fun w' => w' = w) := by
  refine CX.of (lv := [(0, .ref y), (1, .int (iI k))]) (by decide) (Nat.le_of_ble_eq_true rfl) rfl (fun p e s m below meth c ls F hnt hlk hin hW hS hl => ?_)
  have hZ0 := hW.2.2
  have hB9 := hW.1.2
  clear hin
  unfold clO at hY
  have hO := hL.1.o
  have hA := hL.1
  have hwf := hL.2.2
  have hF := hwf.1
  unfold WF0 at hF
  refine lv_iload_n F.1 F.2.1 dX8_checkCaption_0 rfl (lv_at hl 1 rfl) ?_
  refine h_iflt (tgt := 15) F dX8_checkCaption_1 (by decide) (by omega) (fun c1 => ?_) (fun c1 => ?_)
  · exact h_throwW (ik := 205) (ic := 209) (is := 441) F hst hnt hlk hl hW hZ0 hS rfl xw_I (List.mem_of_getElem? (i := 12) rfl) dX8_checkCaption_15 dX8_checkCaption_18 dX8_checkCaption_19 dX8_checkCaption_22 dX8_checkCaption_25 ⟨Nat.le_of_ble_eq_true rfl, Nat.le_of_ble_eq_true rfl⟩ ⟨⟨Nat.le_of_ble_eq_true rfl, Nat.le_of_ble_eq_true rfl⟩, Nat.le_of_ble_eq_true rfl, Nat.le_of_ble_eq_true rfl⟩
  · refine lv_iload_n F.1 F.2.1 dX8_checkCaption_4 rfl (lv_at hl 1 rfl) ?_
    refine lv_aload_n F.1 F.2.1 dX8_checkCaption_5 rfl (lv_at hl 0 rfl) ?_
    refine gf_RX8_10 F hW hY rfl dX8_checkCaption_6 ?_
    refine gf_RX8_118 F hW hO rfl dX8_checkCaption_9 ?_
    refine h_iclt (tgt := 26) F dX8_checkCaption_12 (by decide) (by omega) (fun c2 => ?_) (fun c2 => ?_)
    · exfalso; omega
    · exact h_throwW (ik := 205) (ic := 209) (is := 441) F hst hnt hlk hl hW hZ0 hS rfl xw_I (List.mem_of_getElem? (i := 12) rfl) dX8_checkCaption_15 dX8_checkCaption_18 dX8_checkCaption_19 dX8_checkCaption_22 dX8_checkCaption_25 ⟨Nat.le_of_ble_eq_true rfl, Nat.le_of_ble_eq_true rfl⟩ ⟨⟨Nat.le_of_ble_eq_true rfl, Nat.le_of_ble_eq_true rfl⟩, Nat.le_of_ble_eq_true rfl, Nat.le_of_ble_eq_true rfl⟩
set_option maxHeartbeats 4000000 in
set_option maxRecDepth 100000 in
theorem x_X8_checkCell (l : Launch) (X : Cx) (w : Wo) (y : Nat) (su : Int) (σ : Int → Int) (cn rn : Int) (hst : l.stackTraces = false) (hY : clO X w y su) (hL : loomAt X w (y + 1) σ) (rcn : -2147483648 ≤ cn ∧ cn < 2147483648) (rrn : -2147483648 ≤ rn ∧ rn < 2147483648) (hb : ¬ (0 ≤ cn ∧ cn < σ 0 ∧ 0 ≤ rn ∧ rn < σ 1)) : CX l X yX8_checkCell cX8_checkCell 3 none (rmx 6 82) [.ref y, .int (iI cn), .int (iI rn)] w "java/lang/IndexOutOfBoundsException" (fun w' => w' = w) := by
  refine CX.of (lv := [(0, .ref y), (1, .int (iI cn)), (2, .int (iI rn))]) (by decide) (Nat.le_of_ble_eq_true rfl) rfl (fun p e s m below meth c ls F hnt hlk hin hW hS hl => ?_)
  have hZ0 := hW.2.2
  have hB9 := hW.1.2
  clear hin
  unfold clO at hY
  have hO := hL.1.o
  have hA := hL.1
  have hwf := hL.2.2
  have hF := hwf.1
  unfold WF0 at hF
  refine lv_aload_n F.1 F.2.1 dX8_checkCell_0 rfl (lv_at hl 0 rfl) ?_
  refine gf_RX8_10 F hW hY rfl dX8_checkCell_1 ?_
  refine lv_iload_n F.1 F.2.1 dX8_checkCell_4 rfl (lv_at hl 1 rfl) ?_
  refine cl_RX8_342 (As := [.int (iI cn)]) (rest := []) F hl (c_X5_hasColumn l X w (y + 1) σ cn hA hwf (by omega)) hW hS hO rfl rfl ⟨Nat.le_of_ble_eq_true rfl, Nat.le_of_ble_eq_true rfl⟩ (Nat.le_of_ble_eq_true rfl) ⟨Nat.zero_le _, Nat.zero_le _⟩ dX8_checkCell_5 (fun w1 H locs hp1 hW hS => ?_)
  rw [hp1] at hW; clear hp1; clear w1
  refine h_ifeqb (tgt := 22) F dX8_checkCell_8 (by decide) (fun c2 => ?_) (fun c2 => ?_)
  · have c2d := of_decide_eq_false c2
    exact h_throwW (ik := 205) (ic := 209) (is := 446) F hst hnt hlk hl hW hZ0 hS rfl xw_I (List.mem_of_getElem? (i := 13) rfl) dX8_checkCell_22 dX8_checkCell_25 dX8_checkCell_26 dX8_checkCell_29 dX8_checkCell_32 ⟨Nat.le_of_ble_eq_true rfl, Nat.le_of_ble_eq_true rfl⟩ ⟨⟨Nat.le_of_ble_eq_true rfl, Nat.le_of_ble_eq_true rfl⟩, Nat.le_of_ble_eq_true rfl, Nat.le_of_ble_eq_true rfl⟩
  · have c2d := of_decide_eq_true c2
    refine lv_aload_n F.1 F.2.1 dX8_checkCell_11 rfl (lv_at hl 0 rfl) ?_
    refine gf_RX8_10 F hW hY rfl dX8_checkCell_12 ?_
    refine lv_iload_n F.1 F.2.1 dX8_checkCell_15 rfl (lv_at hl 2 rfl) ?_
    refine cl_RX8_443 (As := [.int (iI rn)]) (rest := []) F hl (c_X5_hasRow l X w (y + 1) σ rn hA hwf (by omega)) hW hS hO rfl rfl ⟨Nat.le_of_ble_eq_true rfl, Nat.le_of_ble_eq_true rfl⟩ (Nat.le_of_ble_eq_true rfl) ⟨Nat.zero_le _, Nat.zero_le _⟩ dX8_checkCell_16 (fun w1 H locs hp3 hW hS => ?_)
    rw [hp3] at hW; clear hp3; clear w1
    refine h_ifneb (tgt := 33) F dX8_checkCell_19 (by decide) (fun c4 => ?_) (fun c4 => ?_)
    · have c4d := of_decide_eq_true c4
      exfalso; omega
    · have c4d := of_decide_eq_false c4
      exact h_throwW (ik := 205) (ic := 209) (is := 446) F hst hnt hlk hl hW hZ0 hS rfl xw_I (List.mem_of_getElem? (i := 13) rfl) dX8_checkCell_22 dX8_checkCell_25 dX8_checkCell_26 dX8_checkCell_29 dX8_checkCell_32 ⟨Nat.le_of_ble_eq_true rfl, Nat.le_of_ble_eq_true rfl⟩ ⟨⟨Nat.le_of_ble_eq_true rfl, Nat.le_of_ble_eq_true rfl⟩, Nat.le_of_ble_eq_true rfl, Nat.le_of_ble_eq_true rfl⟩
set_option maxHeartbeats 4000000 in
set_option maxRecDepth 100000 in
theorem x_X8_checkRow (l : Launch) (X : Cx) (w : Wo) (y : Nat) (su : Int) (σ : Int → Int) (k : Int) (hst : l.stackTraces = false) (hY : clO X w y su) (hL : loomAt X w (y + 1) σ) (rk : -2147483648 ≤ k ∧ k < 2147483648) (hb : ¬ (0 ≤ k ∧ k < σ 1)) : CX l X yX8_checkRow cX8_checkRow 2 none (rmx 6 82) [.ref y, .int (iI k)] w "java/lang/IndexOutOfBoundsException" (fun w' => w' = w) := by
  refine CX.of (lv := [(0, .ref y), (1, .int (iI k))]) (by decide) (Nat.le_of_ble_eq_true rfl) rfl (fun p e s m below meth c ls F hnt hlk hin hW hS hl => ?_)
  have hZ0 := hW.2.2
  have hB9 := hW.1.2
  clear hin
  unfold clO at hY
  have hO := hL.1.o
  have hA := hL.1
  have hwf := hL.2.2
  have hF := hwf.1
  unfold WF0 at hF
  refine lv_aload_n F.1 F.2.1 dX8_checkRow_0 rfl (lv_at hl 0 rfl) ?_
  refine gf_RX8_10 F hW hY rfl dX8_checkRow_1 ?_
  refine lv_iload_n F.1 F.2.1 dX8_checkRow_4 rfl (lv_at hl 1 rfl) ?_
  refine cl_RX8_443 (As := [.int (iI k)]) (rest := []) F hl (c_X5_hasRow l X w (y + 1) σ k hA hwf (by omega)) hW hS hO rfl rfl ⟨Nat.le_of_ble_eq_true rfl, Nat.le_of_ble_eq_true rfl⟩ (Nat.le_of_ble_eq_true rfl) ⟨Nat.zero_le _, Nat.zero_le _⟩ dX8_checkRow_5 (fun w1 H locs hp1 hW hS => ?_)
  rw [hp1] at hW; clear hp1; clear w1
  refine h_ifneb (tgt := 22) F dX8_checkRow_8 (by decide) (fun c2 => ?_) (fun c2 => ?_)
  · have c2d := of_decide_eq_true c2
    exfalso; omega
  · have c2d := of_decide_eq_false c2
    exact h_throwW (ik := 205) (ic := 209) (is := 448) F hst hnt hlk hl hW hZ0 hS rfl xw_I (List.mem_of_getElem? (i := 14) rfl) dX8_checkRow_11 dX8_checkRow_14 dX8_checkRow_15 dX8_checkRow_18 dX8_checkRow_21 ⟨Nat.le_of_ble_eq_true rfl, Nat.le_of_ble_eq_true rfl⟩ ⟨⟨Nat.le_of_ble_eq_true rfl, Nat.le_of_ble_eq_true rfl⟩, Nat.le_of_ble_eq_true rfl, Nat.le_of_ble_eq_true rfl⟩
set_option maxHeartbeats 4000000 in
set_option maxRecDepth 100000 in
theorem x_X8_checkColour (l : Launch) (X : Cx) (w : Wo) (y : Nat) (su : Int) (σ : Int → Int) (k : Int) (hst : l.stackTraces = false) (hY : clO X w y su) (hL : loomAt X w (y + 1) σ) (rk : -2147483648 ≤ k ∧ k < 2147483648) (hb : ¬ (0 ≤ k ∧ k < 7)) : CX l X yX8_checkColour cX8_checkColour 2 none (rmx 6 82) [.ref y, .int (iI k)] w "java/lang/IndexOutOfBoundsException" (fun w' => w' = w) := by
  refine CX.of (lv := [(0, .ref y), (1, .int (iI k))]) (by decide) (Nat.le_of_ble_eq_true rfl) rfl (fun p e s m below meth c ls F hnt hlk hin hW hS hl => ?_)
  have hZ0 := hW.2.2
  have hB9 := hW.1.2
  clear hin
  unfold clO at hY
  have hO := hL.1.o
  have hA := hL.1
  have hwf := hL.2.2
  have hF := hwf.1
  unfold WF0 at hF
  refine lv_iload_n F.1 F.2.1 dX8_checkColour_0 rfl (lv_at hl 1 rfl) ?_
  refine h_iflt (tgt := 10) F dX8_checkColour_1 (by decide) (by omega) (fun c1 => ?_) (fun c1 => ?_)
  · exact h_throwW (ik := 205) (ic := 209) (is := 450) F hst hnt hlk hl hW hZ0 hS rfl xw_I (List.mem_of_getElem? (i := 15) rfl) dX8_checkColour_10 dX8_checkColour_13 dX8_checkColour_14 dX8_checkColour_17 dX8_checkColour_20 ⟨Nat.le_of_ble_eq_true rfl, Nat.le_of_ble_eq_true rfl⟩ ⟨⟨Nat.le_of_ble_eq_true rfl, Nat.le_of_ble_eq_true rfl⟩, Nat.le_of_ble_eq_true rfl, Nat.le_of_ble_eq_true rfl⟩
  · refine lv_iload_n F.1 F.2.1 dX8_checkColour_4 rfl (lv_at hl 1 rfl) ?_
    refine h_bipush F dX8_checkColour_5 rfl ?_
    refine h_iclt (tgt := 21) F dX8_checkColour_7 (by decide) (by omega) (fun c2 => ?_) (fun c2 => ?_)
    · exfalso; omega
    · exact h_throwW (ik := 205) (ic := 209) (is := 450) F hst hnt hlk hl hW hZ0 hS rfl xw_I (List.mem_of_getElem? (i := 15) rfl) dX8_checkColour_10 dX8_checkColour_13 dX8_checkColour_14 dX8_checkColour_17 dX8_checkColour_20 ⟨Nat.le_of_ble_eq_true rfl, Nat.le_of_ble_eq_true rfl⟩ ⟨⟨Nat.le_of_ble_eq_true rfl, Nat.le_of_ble_eq_true rfl⟩, Nat.le_of_ble_eq_true rfl, Nat.le_of_ble_eq_true rfl⟩
set_option maxHeartbeats 4000000 in
set_option maxRecDepth 100000 in
theorem x_X8_checkSlot (l : Launch) (X : Cx) (w : Wo) (y : Nat) (su : Int) (σ : Int → Int) (k : Int) (hst : l.stackTraces = false) (hY : clO X w y su) (hL : loomAt X w (y + 1) σ) (rk : -2147483648 ≤ k ∧ k < 2147483648) (hb : ¬ (0 ≤ k ∧ k < 2)) : CX l X yX8_checkSlot cX8_checkSlot 2 none (rmx 6 82) [.ref y, .int (iI k)] w "java/lang/IllegalArgumentException" (fun w' => w' = w) := by
  refine CX.of (lv := [(0, .ref y), (1, .int (iI k))]) (by decide) (Nat.le_of_ble_eq_true rfl) rfl (fun p e s m below meth c ls F hnt hlk hin hW hS hl => ?_)
  have hZ0 := hW.2.2
  have hB9 := hW.1.2
  clear hin
  unfold clO at hY
  have hO := hL.1.o
  have hA := hL.1
  have hwf := hL.2.2
  have hF := hwf.1
  unfold WF0 at hF
  refine lv_iload_n F.1 F.2.1 dX8_checkSlot_0 rfl (lv_at hl 1 rfl) ?_
  refine h_iflt (tgt := 9) F dX8_checkSlot_1 (by decide) (by omega) (fun c1 => ?_) (fun c1 => ?_)
  · exact h_throwW (ik := 96) (ic := 100) (is := 452) F hst hnt hlk hl hW hZ0 hS rfl xw_A (List.mem_of_getElem? (i := 16) rfl) dX8_checkSlot_9 dX8_checkSlot_12 dX8_checkSlot_13 dX8_checkSlot_16 dX8_checkSlot_19 ⟨Nat.le_of_ble_eq_true rfl, Nat.le_of_ble_eq_true rfl⟩ ⟨⟨Nat.le_of_ble_eq_true rfl, Nat.le_of_ble_eq_true rfl⟩, Nat.le_of_ble_eq_true rfl, Nat.le_of_ble_eq_true rfl⟩
  · refine lv_iload_n F.1 F.2.1 dX8_checkSlot_4 rfl (lv_at hl 1 rfl) ?_
    refine h_iconst F dX8_checkSlot_5 ?_
    refine h_iclt (tgt := 20) F dX8_checkSlot_6 (by decide) (by omega) (fun c2 => ?_) (fun c2 => ?_)
    · exfalso; omega
    · exact h_throwW (ik := 96) (ic := 100) (is := 452) F hst hnt hlk hl hW hZ0 hS rfl xw_A (List.mem_of_getElem? (i := 16) rfl) dX8_checkSlot_9 dX8_checkSlot_12 dX8_checkSlot_13 dX8_checkSlot_16 dX8_checkSlot_19 ⟨Nat.le_of_ble_eq_true rfl, Nat.le_of_ble_eq_true rfl⟩ ⟨⟨Nat.le_of_ble_eq_true rfl, Nat.le_of_ble_eq_true rfl⟩, Nat.le_of_ble_eq_true rfl, Nat.le_of_ble_eq_true rfl⟩
set_option maxHeartbeats 4000000 in
set_option maxRecDepth 100000 in
theorem x1_caption (l : Launch) (X : Cx) (w : Wo) (y : Nat) (su : Int) (σ : Int → Int) (k wh : Int) (hst : l.stackTraces = false) (hY : clO X w y su) (hL : loomAt X w (y + 1) σ) (rk : -2147483648 ≤ k ∧ k < 2147483648) (hb : ¬ (0 ≤ k ∧ k < σ 5)) : CX l X yX8_caption cX8_caption 4 (some (.int)) (rmx 7 104) [.ref y, .int (iI k), .int (iI wh)] w "java/lang/IndexOutOfBoundsException" (fun w' => w' = w) := by
  refine CX.of (lv := [(0, .ref y), (1, .int (iI k)), (2, .int (iI wh))]) (by decide) (Nat.le_of_ble_eq_true rfl) rfl (fun p e s m below meth c ls F hnt hlk hin hW hS hl => ?_)
  have hZ0 := hW.2.2
  have hB9 := hW.1.2
  clear hin
  unfold clO at hY
  have hO := hL.1.o
  have hA := hL.1
  have hwf := hL.2.2
  have hF := hwf.1
  unfold WF0 at hF
  refine lv_aload_n F.1 F.2.1 dX8_caption_0 rfl (lv_at hl 0 rfl) ?_
  refine lv_iload_n F.1 F.2.1 dX8_caption_1 rfl (lv_at hl 1 rfl) ?_
  refine cx_RX8_167 (As := [.int (iI k)]) (rest := []) F hl (x_X8_checkCaption l X w y su σ k hst hY hL (by omega) (by omega)) hW hS hY rfl rfl ⟨Nat.le_of_ble_eq_true rfl, Nat.le_of_ble_eq_true rfl⟩ (Nat.le_of_ble_eq_true rfl) ⟨Nat.le_of_ble_eq_true rfl, Nat.le_of_ble_eq_true rfl⟩ dX8_caption_2 (fun w1 H1 locs1 ce q9 hp hW hS hce hcv hcl => ?_)
  rw [hp] at hW
  exact h_out hnt hlk hW hS rfl hce hcv hcl ⟨Nat.le_of_ble_eq_true rfl, Nat.le_of_ble_eq_true rfl⟩
set_option maxHeartbeats 4000000 in
set_option maxRecDepth 100000 in
theorem x0_letter (l : Launch) (X : Cx) (w : Wo) (y : Nat) (su : Int) (σ : Int → Int) (k j wh : Int) (hst : l.stackTraces = false) (hY : clO X w y su) (hL : loomAt X w (y + 1) σ) (rk : -2147483648 ≤ k ∧ k < 2147483648) (hb : ¬ (0 ≤ k ∧ k < σ 5)) : CX l X yX8_letter cX8_letter 5 (some (.int)) (rmx 7 104) [.ref y, .int (iI k), .int (iI j), .int (iI wh)] w "java/lang/IndexOutOfBoundsException" (fun w' => w' = w) := by
  refine CX.of (lv := [(0, .ref y), (1, .int (iI k)), (2, .int (iI j)), (3, .int (iI wh))]) (by decide) (Nat.le_of_ble_eq_true rfl) rfl (fun p e s m below meth c ls F hnt hlk hin hW hS hl => ?_)
  have hZ0 := hW.2.2
  have hB9 := hW.1.2
  clear hin
  unfold clO at hY
  have hO := hL.1.o
  have hA := hL.1
  have hwf := hL.2.2
  have hF := hwf.1
  unfold WF0 at hF
  refine lv_aload_n F.1 F.2.1 dX8_letter_0 rfl (lv_at hl 0 rfl) ?_
  refine lv_iload_n F.1 F.2.1 dX8_letter_1 rfl (lv_at hl 1 rfl) ?_
  refine cx_RX8_167 (As := [.int (iI k)]) (rest := []) F hl (x_X8_checkCaption l X w y su σ k hst hY hL (by omega) (by omega)) hW hS hY rfl rfl ⟨Nat.le_of_ble_eq_true rfl, Nat.le_of_ble_eq_true rfl⟩ (Nat.le_of_ble_eq_true rfl) ⟨Nat.le_of_ble_eq_true rfl, Nat.le_of_ble_eq_true rfl⟩ dX8_letter_2 (fun w1 H1 locs1 ce q9 hp hW hS hce hcv hcl => ?_)
  rw [hp] at hW
  exact h_out hnt hlk hW hS rfl hce hcv hcl ⟨Nat.le_of_ble_eq_true rfl, Nat.le_of_ble_eq_true rfl⟩
set_option maxHeartbeats 4000000 in
set_option maxRecDepth 100000 in
theorem x_X8_isAlike (l : Launch) (X : Cx) (w : Wo) (y : Nat) (su : Int) (σ : Int → Int) (k : Int) (hst : l.stackTraces = false) (hY : clO X w y su) (hL : loomAt X w (y + 1) σ) (rk : -2147483648 ≤ k ∧ k < 2147483648) (hb : ¬ (0 ≤ k ∧ k < σ 5)) : CX l X yX8_isAlike cX8_isAlike 2 (some (.boolean)) (rmx 7 104) [.ref y, .int (iI k)] w "java/lang/IndexOutOfBoundsException" (fun w' => w' = w) := by
  refine CX.of (lv := [(0, .ref y), (1, .int (iI k))]) (by decide) (Nat.le_of_ble_eq_true rfl) rfl (fun p e s m below meth c ls F hnt hlk hin hW hS hl => ?_)
  have hZ0 := hW.2.2
  have hB9 := hW.1.2
  clear hin
  unfold clO at hY
  have hO := hL.1.o
  have hA := hL.1
  have hwf := hL.2.2
  have hF := hwf.1
  unfold WF0 at hF
  refine lv_aload_n F.1 F.2.1 dX8_isAlike_0 rfl (lv_at hl 0 rfl) ?_
  refine lv_iload_n F.1 F.2.1 dX8_isAlike_1 rfl (lv_at hl 1 rfl) ?_
  refine cx_RX8_167 (As := [.int (iI k)]) (rest := []) F hl (x_X8_checkCaption l X w y su σ k hst hY hL (by omega) (by omega)) hW hS hY rfl rfl ⟨Nat.le_of_ble_eq_true rfl, Nat.le_of_ble_eq_true rfl⟩ (Nat.le_of_ble_eq_true rfl) ⟨Nat.le_of_ble_eq_true rfl, Nat.le_of_ble_eq_true rfl⟩ dX8_isAlike_2 (fun w1 H1 locs1 ce q9 hp hW hS hce hcv hcl => ?_)
  rw [hp] at hW
  exact h_out hnt hlk hW hS rfl hce hcv hcl ⟨Nat.le_of_ble_eq_true rfl, Nat.le_of_ble_eq_true rfl⟩
set_option maxHeartbeats 4000000 in
set_option maxRecDepth 100000 in
theorem x_X8_drop (l : Launch) (X : Cx) (w : Wo) (y : Nat) (su : Int) (σ : Int → Int) (k : Int) (hst : l.stackTraces = false) (hY : clO X w y su) (hL : loomAt X w (y + 1) σ) (rk : -2147483648 ≤ k ∧ k < 2147483648) (hb : ¬ (0 ≤ k ∧ k < σ 5)) : CX l X yX8_drop cX8_drop 2 (some (.int)) (rmx 7 104) [.ref y, .int (iI k)] w "java/lang/IndexOutOfBoundsException" (fun w' => w' = w) := by
  refine CX.of (lv := [(0, .ref y), (1, .int (iI k))]) (by decide) (Nat.le_of_ble_eq_true rfl) rfl (fun p e s m below meth c ls F hnt hlk hin hW hS hl => ?_)
  have hZ0 := hW.2.2
  have hB9 := hW.1.2
  clear hin
  unfold clO at hY
  have hO := hL.1.o
  have hA := hL.1
  have hwf := hL.2.2
  have hF := hwf.1
  unfold WF0 at hF
  refine lv_aload_n F.1 F.2.1 dX8_drop_0 rfl (lv_at hl 0 rfl) ?_
  refine lv_iload_n F.1 F.2.1 dX8_drop_1 rfl (lv_at hl 1 rfl) ?_
  refine cx_RX8_167 (As := [.int (iI k)]) (rest := []) F hl (x_X8_checkCaption l X w y su σ k hst hY hL (by omega) (by omega)) hW hS hY rfl rfl ⟨Nat.le_of_ble_eq_true rfl, Nat.le_of_ble_eq_true rfl⟩ (Nat.le_of_ble_eq_true rfl) ⟨Nat.le_of_ble_eq_true rfl, Nat.le_of_ble_eq_true rfl⟩ dX8_drop_2 (fun w1 H1 locs1 ce q9 hp hW hS hce hcv hcl => ?_)
  rw [hp] at hW
  exact h_out hnt hlk hW hS rfl hce hcv hcl ⟨Nat.le_of_ble_eq_true rfl, Nat.le_of_ble_eq_true rfl⟩
set_option maxHeartbeats 4000000 in
set_option maxRecDepth 100000 in
theorem x_X8_move (l : Launch) (X : Cx) (w : Wo) (y : Nat) (su : Int) (σ : Int → Int) (k xx yy : Int) (hst : l.stackTraces = false) (hY : clO X w y su) (hL : loomAt X w (y + 1) σ) (rk : -2147483648 ≤ k ∧ k < 2147483648) (hb : ¬ (0 ≤ k ∧ k < σ 5)) : CX l X yX8_move cX8_move 5 (some (.int)) (rmx 7 104) [.ref y, .int (iI k), .int (iI xx), .int (iI yy)] w "java/lang/IndexOutOfBoundsException" (fun w' => w' = w) := by
  refine CX.of (lv := [(0, .ref y), (1, .int (iI k)), (2, .int (iI xx)), (3, .int (iI yy))]) (by decide) (Nat.le_of_ble_eq_true rfl) rfl (fun p e s m below meth c ls F hnt hlk hin hW hS hl => ?_)
  have hZ0 := hW.2.2
  have hB9 := hW.1.2
  clear hin
  unfold clO at hY
  have hO := hL.1.o
  have hA := hL.1
  have hwf := hL.2.2
  have hF := hwf.1
  unfold WF0 at hF
  refine lv_aload_n F.1 F.2.1 dX8_move_0 rfl (lv_at hl 0 rfl) ?_
  refine lv_iload_n F.1 F.2.1 dX8_move_1 rfl (lv_at hl 1 rfl) ?_
  refine cx_RX8_167 (As := [.int (iI k)]) (rest := []) F hl (x_X8_checkCaption l X w y su σ k hst hY hL (by omega) (by omega)) hW hS hY rfl rfl ⟨Nat.le_of_ble_eq_true rfl, Nat.le_of_ble_eq_true rfl⟩ (Nat.le_of_ble_eq_true rfl) ⟨Nat.le_of_ble_eq_true rfl, Nat.le_of_ble_eq_true rfl⟩ dX8_move_2 (fun w1 H1 locs1 ce q9 hp hW hS hce hcv hcl => ?_)
  rw [hp] at hW
  exact h_out hnt hlk hW hS rfl hce hcv hcl ⟨Nat.le_of_ble_eq_true rfl, Nat.le_of_ble_eq_true rfl⟩
set_option maxHeartbeats 4000000 in
set_option maxRecDepth 100000 in
theorem x_X8_writeCaption (l : Launch) (X : Cx) (w : Wo) (y : Nat) (su : Int) (σ : Int → Int) (k : Int) (hst : l.stackTraces = false) (hY : clO X w y su) (hL : loomAt X w (y + 1) σ) (rk : -2147483648 ≤ k ∧ k < 2147483648) (hb : ¬ (0 ≤ k ∧ k < σ 5)) : CX l X yX8_writeCaption cX8_writeCaption 4 (some (.int)) (rmx 7 104) [.ref y, .int (iI k)] w "java/lang/IndexOutOfBoundsException" (fun w' => w' = w) := by
  refine CX.of (lv := [(0, .ref y), (1, .int (iI k))]) (by decide) (Nat.le_of_ble_eq_true rfl) rfl (fun p e s m below meth c ls F hnt hlk hin hW hS hl => ?_)
  have hZ0 := hW.2.2
  have hB9 := hW.1.2
  clear hin
  unfold clO at hY
  have hO := hL.1.o
  have hA := hL.1
  have hwf := hL.2.2
  have hF := hwf.1
  unfold WF0 at hF
  refine lv_aload_n F.1 F.2.1 dX8_writeCaption_0 rfl (lv_at hl 0 rfl) ?_
  refine lv_iload_n F.1 F.2.1 dX8_writeCaption_1 rfl (lv_at hl 1 rfl) ?_
  refine cx_RX8_167 (As := [.int (iI k)]) (rest := []) F hl (x_X8_checkCaption l X w y su σ k hst hY hL (by omega) (by omega)) hW hS hY rfl rfl ⟨Nat.le_of_ble_eq_true rfl, Nat.le_of_ble_eq_true rfl⟩ (Nat.le_of_ble_eq_true rfl) ⟨Nat.le_of_ble_eq_true rfl, Nat.le_of_ble_eq_true rfl⟩ dX8_writeCaption_2 (fun w1 H1 locs1 ce q9 hp hW hS hce hcv hcl => ?_)
  rw [hp] at hW
  exact h_out hnt hlk hW hS rfl hce hcv hcl ⟨Nat.le_of_ble_eq_true rfl, Nat.le_of_ble_eq_true rfl⟩
set_option maxHeartbeats 4000000 in
set_option maxRecDepth 100000 in
theorem x_X8_cell (l : Launch) (X : Cx) (w : Wo) (y : Nat) (su : Int) (σ : Int → Int) (cn rn : Int) (hst : l.stackTraces = false) (hY : clO X w y su) (hL : loomAt X w (y + 1) σ) (rcn : -2147483648 ≤ cn ∧ cn < 2147483648) (rrn : -2147483648 ≤ rn ∧ rn < 2147483648) (hb : ¬ (0 ≤ cn ∧ cn < σ 0 ∧ 0 ≤ rn ∧ rn < σ 1)) : CX l X yX8_cell cX8_cell 3 (some (.int)) (rmx 7 104) [.ref y, .int (iI cn), .int (iI rn)] w "java/lang/IndexOutOfBoundsException" (fun w' => w' = w) := by
  refine CX.of (lv := [(0, .ref y), (1, .int (iI cn)), (2, .int (iI rn))]) (by decide) (Nat.le_of_ble_eq_true rfl) rfl (fun p e s m below meth c ls F hnt hlk hin hW hS hl => ?_)
  have hZ0 := hW.2.2
  have hB9 := hW.1.2
  clear hin
  unfold clO at hY
  have hO := hL.1.o
  have hA := hL.1
  have hwf := hL.2.2
  have hF := hwf.1
  unfold WF0 at hF
  refine lv_aload_n F.1 F.2.1 dX8_cell_0 rfl (lv_at hl 0 rfl) ?_
  refine lv_iload_n F.1 F.2.1 dX8_cell_1 rfl (lv_at hl 1 rfl) ?_
  refine lv_iload_n F.1 F.2.1 dX8_cell_2 rfl (lv_at hl 2 rfl) ?_
  refine cx_RX8_228 (As := [.int (iI cn), .int (iI rn)]) (rest := []) F hl (x_X8_checkCell l X w y su σ cn rn hst hY hL (by omega) (by omega) (by omega)) hW hS hY rfl rfl ⟨Nat.le_of_ble_eq_true rfl, Nat.le_of_ble_eq_true rfl⟩ (Nat.le_of_ble_eq_true rfl) ⟨Nat.le_of_ble_eq_true rfl, Nat.le_of_ble_eq_true rfl⟩ dX8_cell_3 (fun w1 H1 locs1 ce q9 hp hW hS hce hcv hcl => ?_)
  rw [hp] at hW
  exact h_out hnt hlk hW hS rfl hce hcv hcl ⟨Nat.le_of_ble_eq_true rfl, Nat.le_of_ble_eq_true rfl⟩
set_option maxHeartbeats 4000000 in
set_option maxRecDepth 100000 in
theorem x_X8_design (l : Launch) (X : Cx) (w : Wo) (y : Nat) (su : Int) (σ : Int → Int) (cn rn : Int) (hst : l.stackTraces = false) (hY : clO X w y su) (hL : loomAt X w (y + 1) σ) (rcn : -2147483648 ≤ cn ∧ cn < 2147483648) (rrn : -2147483648 ≤ rn ∧ rn < 2147483648) (hb : ¬ (0 ≤ cn ∧ cn < σ 0 ∧ 0 ≤ rn ∧ rn < σ 1)) : CX l X yX8_design cX8_design 3 (some (.int)) (rmx 7 104) [.ref y, .int (iI cn), .int (iI rn)] w "java/lang/IndexOutOfBoundsException" (fun w' => w' = w) := by
  refine CX.of (lv := [(0, .ref y), (1, .int (iI cn)), (2, .int (iI rn))]) (by decide) (Nat.le_of_ble_eq_true rfl) rfl (fun p e s m below meth c ls F hnt hlk hin hW hS hl => ?_)
  have hZ0 := hW.2.2
  have hB9 := hW.1.2
  clear hin
  unfold clO at hY
  have hO := hL.1.o
  have hA := hL.1
  have hwf := hL.2.2
  have hF := hwf.1
  unfold WF0 at hF
  refine lv_aload_n F.1 F.2.1 dX8_design_0 rfl (lv_at hl 0 rfl) ?_
  refine lv_iload_n F.1 F.2.1 dX8_design_1 rfl (lv_at hl 1 rfl) ?_
  refine lv_iload_n F.1 F.2.1 dX8_design_2 rfl (lv_at hl 2 rfl) ?_
  refine cx_RX8_228 (As := [.int (iI cn), .int (iI rn)]) (rest := []) F hl (x_X8_checkCell l X w y su σ cn rn hst hY hL (by omega) (by omega) (by omega)) hW hS hY rfl rfl ⟨Nat.le_of_ble_eq_true rfl, Nat.le_of_ble_eq_true rfl⟩ (Nat.le_of_ble_eq_true rfl) ⟨Nat.le_of_ble_eq_true rfl, Nat.le_of_ble_eq_true rfl⟩ dX8_design_3 (fun w1 H1 locs1 ce q9 hp hW hS hce hcv hcl => ?_)
  rw [hp] at hW
  exact h_out hnt hlk hW hS rfl hce hcv hcl ⟨Nat.le_of_ble_eq_true rfl, Nat.le_of_ble_eq_true rfl⟩
set_option maxHeartbeats 4000000 in
set_option maxRecDepth 100000 in
theorem x_X8_joins (l : Launch) (X : Cx) (w : Wo) (y : Nat) (su : Int) (σ : Int → Int) (k : Int) (hst : l.stackTraces = false) (hY : clO X w y su) (hL : loomAt X w (y + 1) σ) (rk : -2147483648 ≤ k ∧ k < 2147483648) (hb : ¬ (0 ≤ k ∧ k < σ 1)) : CX l X yX8_joins cX8_joins 2 (some (.int)) (rmx 7 104) [.ref y, .int (iI k)] w "java/lang/IndexOutOfBoundsException" (fun w' => w' = w) := by
  refine CX.of (lv := [(0, .ref y), (1, .int (iI k))]) (by decide) (Nat.le_of_ble_eq_true rfl) rfl (fun p e s m below meth c ls F hnt hlk hin hW hS hl => ?_)
  have hZ0 := hW.2.2
  have hB9 := hW.1.2
  clear hin
  unfold clO at hY
  have hO := hL.1.o
  have hA := hL.1
  have hwf := hL.2.2
  have hF := hwf.1
  unfold WF0 at hF
  refine lv_aload_n F.1 F.2.1 dX8_joins_0 rfl (lv_at hl 0 rfl) ?_
  refine lv_iload_n F.1 F.2.1 dX8_joins_1 rfl (lv_at hl 1 rfl) ?_
  refine cx_RX8_283 (As := [.int (iI k)]) (rest := []) F hl (x_X8_checkRow l X w y su σ k hst hY hL (by omega) (by omega)) hW hS hY rfl rfl ⟨Nat.le_of_ble_eq_true rfl, Nat.le_of_ble_eq_true rfl⟩ (Nat.le_of_ble_eq_true rfl) ⟨Nat.le_of_ble_eq_true rfl, Nat.le_of_ble_eq_true rfl⟩ dX8_joins_2 (fun w1 H1 locs1 ce q9 hp hW hS hce hcv hcl => ?_)
  rw [hp] at hW
  exact h_out hnt hlk hW hS rfl hce hcv hcl ⟨Nat.le_of_ble_eq_true rfl, Nat.le_of_ble_eq_true rfl⟩
set_option maxHeartbeats 4000000 in
set_option maxRecDepth 100000 in
theorem x_X8_wouldErr (l : Launch) (X : Cx) (w : Wo) (y : Nat) (su : Int) (σ : Int → Int) (k : Int) (hst : l.stackTraces = false) (hY : clO X w y su) (hL : loomAt X w (y + 1) σ) (rk : -2147483648 ≤ k ∧ k < 2147483648) (hb : ¬ (0 ≤ k ∧ k < σ 1)) : CX l X yX8_wouldErr cX8_wouldErr 4 (some (.int)) (rmx 7 104) [.ref y, .int (iI k)] w "java/lang/IndexOutOfBoundsException" (fun w' => w' = w) := by
  refine CX.of (lv := [(0, .ref y), (1, .int (iI k))]) (by decide) (Nat.le_of_ble_eq_true rfl) rfl (fun p e s m below meth c ls F hnt hlk hin hW hS hl => ?_)
  have hZ0 := hW.2.2
  have hB9 := hW.1.2
  clear hin
  unfold clO at hY
  have hO := hL.1.o
  have hA := hL.1
  have hwf := hL.2.2
  have hF := hwf.1
  unfold WF0 at hF
  refine lv_aload_n F.1 F.2.1 dX8_wouldErr_0 rfl (lv_at hl 0 rfl) ?_
  refine lv_iload_n F.1 F.2.1 dX8_wouldErr_1 rfl (lv_at hl 1 rfl) ?_
  refine cx_RX8_283 (As := [.int (iI k)]) (rest := []) F hl (x_X8_checkRow l X w y su σ k hst hY hL (by omega) (by omega)) hW hS hY rfl rfl ⟨Nat.le_of_ble_eq_true rfl, Nat.le_of_ble_eq_true rfl⟩ (Nat.le_of_ble_eq_true rfl) ⟨Nat.le_of_ble_eq_true rfl, Nat.le_of_ble_eq_true rfl⟩ dX8_wouldErr_2 (fun w1 H1 locs1 ce q9 hp hW hS hce hcv hcl => ?_)
  rw [hp] at hW
  exact h_out hnt hlk hW hS rfl hce hcv hcl ⟨Nat.le_of_ble_eq_true rfl, Nat.le_of_ble_eq_true rfl⟩
set_option maxHeartbeats 4000000 in
set_option maxRecDepth 100000 in
theorem x_X8_writeRow (l : Launch) (X : Cx) (w : Wo) (y : Nat) (su : Int) (σ : Int → Int) (k : Int) (b : Bool) (hst : l.stackTraces = false) (hY : clO X w y su) (hL : loomAt X w (y + 1) σ) (rk : -2147483648 ≤ k ∧ k < 2147483648) (hb : ¬ (0 ≤ k ∧ k < σ 1)) : CX l X yX8_writeRow cX8_writeRow 6 (some (.int)) (rmx 7 104) [.ref y, .int (iI k), .int (iI (bz b))] w "java/lang/IndexOutOfBoundsException" (fun w' => w' = w) := by
  refine CX.of (lv := [(0, .ref y), (1, .int (iI k)), (2, .int (iI (bz b)))]) (by decide) (Nat.le_of_ble_eq_true rfl) rfl (fun p e s m below meth c ls F hnt hlk hin hW hS hl => ?_)
  have hZ0 := hW.2.2
  have hB9 := hW.1.2
  clear hin
  unfold clO at hY
  have hO := hL.1.o
  have hA := hL.1
  have hwf := hL.2.2
  have hF := hwf.1
  unfold WF0 at hF
  refine lv_aload_n F.1 F.2.1 dX8_writeRow_0 rfl (lv_at hl 0 rfl) ?_
  refine lv_iload_n F.1 F.2.1 dX8_writeRow_1 rfl (lv_at hl 1 rfl) ?_
  refine cx_RX8_283 (As := [.int (iI k)]) (rest := []) F hl (x_X8_checkRow l X w y su σ k hst hY hL (by omega) (by omega)) hW hS hY rfl rfl ⟨Nat.le_of_ble_eq_true rfl, Nat.le_of_ble_eq_true rfl⟩ (Nat.le_of_ble_eq_true rfl) ⟨Nat.le_of_ble_eq_true rfl, Nat.le_of_ble_eq_true rfl⟩ dX8_writeRow_2 (fun w1 H1 locs1 ce q9 hp hW hS hce hcv hcl => ?_)
  rw [hp] at hW
  exact h_out hnt hlk hW hS rfl hce hcv hcl ⟨Nat.le_of_ble_eq_true rfl, Nat.le_of_ble_eq_true rfl⟩
set_option maxHeartbeats 4000000 in
set_option maxRecDepth 100000 in
theorem x1_colour (l : Launch) (X : Cx) (w : Wo) (y : Nat) (su : Int) (σ : Int → Int) (k wh : Int) (hst : l.stackTraces = false) (hY : clO X w y su) (hL : loomAt X w (y + 1) σ) (rk : -2147483648 ≤ k ∧ k < 2147483648) (hb : ¬ (0 ≤ k ∧ k < 7)) : CX l X yX8_colour cX8_colour 3 (some (.int)) (rmx 7 104) [.ref y, .int (iI k), .int (iI wh)] w "java/lang/IndexOutOfBoundsException" (fun w' => w' = w) := by
  refine CX.of (lv := [(0, .ref y), (1, .int (iI k)), (2, .int (iI wh))]) (by decide) (Nat.le_of_ble_eq_true rfl) rfl (fun p e s m below meth c ls F hnt hlk hin hW hS hl => ?_)
  have hZ0 := hW.2.2
  have hB9 := hW.1.2
  clear hin
  unfold clO at hY
  have hO := hL.1.o
  have hA := hL.1
  have hwf := hL.2.2
  have hF := hwf.1
  unfold WF0 at hF
  refine lv_aload_n F.1 F.2.1 dX8_colour_0 rfl (lv_at hl 0 rfl) ?_
  refine lv_iload_n F.1 F.2.1 dX8_colour_1 rfl (lv_at hl 1 rfl) ?_
  refine cx_RX8_245 (As := [.int (iI k)]) (rest := []) F hl (x_X8_checkColour l X w y su σ k hst hY hL (by omega) (by omega)) hW hS hY rfl rfl ⟨Nat.le_of_ble_eq_true rfl, Nat.le_of_ble_eq_true rfl⟩ (Nat.le_of_ble_eq_true rfl) ⟨Nat.le_of_ble_eq_true rfl, Nat.le_of_ble_eq_true rfl⟩ dX8_colour_2 (fun w1 H1 locs1 ce q9 hp hW hS hce hcv hcl => ?_)
  rw [hp] at hW
  exact h_out hnt hlk hW hS rfl hce hcv hcl ⟨Nat.le_of_ble_eq_true rfl, Nat.le_of_ble_eq_true rfl⟩
set_option maxHeartbeats 4000000 in
set_option maxRecDepth 100000 in
theorem x_X8_share (l : Launch) (X : Cx) (w : Wo) (y : Nat) (su : Int) (σ : Int → Int) (k : Int) (hst : l.stackTraces = false) (hY : clO X w y su) (hL : loomAt X w (y + 1) σ) (rk : -2147483648 ≤ k ∧ k < 2147483648) (hb : ¬ (0 ≤ k ∧ k < 7)) : CX l X yX8_share cX8_share 3 (some (.float)) (rmx 7 104) [.ref y, .int (iI k)] w "java/lang/IndexOutOfBoundsException" (fun w' => w' = w) := by
  refine CX.of (lv := [(0, .ref y), (1, .int (iI k))]) (by decide) (Nat.le_of_ble_eq_true rfl) rfl (fun p e s m below meth c ls F hnt hlk hin hW hS hl => ?_)
  have hZ0 := hW.2.2
  have hB9 := hW.1.2
  clear hin
  unfold clO at hY
  have hO := hL.1.o
  have hA := hL.1
  have hwf := hL.2.2
  have hF := hwf.1
  unfold WF0 at hF
  refine lv_aload_n F.1 F.2.1 dX8_share_0 rfl (lv_at hl 0 rfl) ?_
  refine lv_iload_n F.1 F.2.1 dX8_share_1 rfl (lv_at hl 1 rfl) ?_
  refine cx_RX8_245 (As := [.int (iI k)]) (rest := []) F hl (x_X8_checkColour l X w y su σ k hst hY hL (by omega) (by omega)) hW hS hY rfl rfl ⟨Nat.le_of_ble_eq_true rfl, Nat.le_of_ble_eq_true rfl⟩ (Nat.le_of_ble_eq_true rfl) ⟨Nat.le_of_ble_eq_true rfl, Nat.le_of_ble_eq_true rfl⟩ dX8_share_2 (fun w1 H1 locs1 ce q9 hp hW hS hce hcv hcl => ?_)
  rw [hp] at hW
  exact h_out hnt hlk hW hS rfl hce hcv hcl ⟨Nat.le_of_ble_eq_true rfl, Nat.le_of_ble_eq_true rfl⟩
set_option maxHeartbeats 4000000 in
set_option maxRecDepth 100000 in
theorem x0_pass (l : Launch) (X : Cx) (w : Wo) (y : Nat) (su : Int) (σ : Int → Int) (k fr to : Int) (hst : l.stackTraces = false) (hY : clO X w y su) (hL : loomAt X w (y + 1) σ) (rk : -2147483648 ≤ k ∧ k < 2147483648) (hb : ¬ (0 ≤ k ∧ k < 7)) : CX l X yX8_pass cX8_pass 4 (some (.int)) (rmx 7 104) [.ref y, .int (iI k), .int (iI fr), .int (iI to)] w "java/lang/IndexOutOfBoundsException" (fun w' => w' = w) := by
  refine CX.of (lv := [(0, .ref y), (1, .int (iI k)), (2, .int (iI fr)), (3, .int (iI to))]) (by decide) (Nat.le_of_ble_eq_true rfl) rfl (fun p e s m below meth c ls F hnt hlk hin hW hS hl => ?_)
  have hZ0 := hW.2.2
  have hB9 := hW.1.2
  clear hin
  unfold clO at hY
  have hO := hL.1.o
  have hA := hL.1
  have hwf := hL.2.2
  have hF := hwf.1
  unfold WF0 at hF
  refine lv_aload_n F.1 F.2.1 dX8_pass_0 rfl (lv_at hl 0 rfl) ?_
  refine lv_iload_n F.1 F.2.1 dX8_pass_1 rfl (lv_at hl 1 rfl) ?_
  refine cx_RX8_245 (As := [.int (iI k)]) (rest := []) F hl (x_X8_checkColour l X w y su σ k hst hY hL (by omega) (by omega)) hW hS hY rfl rfl ⟨Nat.le_of_ble_eq_true rfl, Nat.le_of_ble_eq_true rfl⟩ (Nat.le_of_ble_eq_true rfl) ⟨Nat.le_of_ble_eq_true rfl, Nat.le_of_ble_eq_true rfl⟩ dX8_pass_2 (fun w1 H1 locs1 ce q9 hp hW hS hce hcv hcl => ?_)
  rw [hp] at hW
  exact h_out hnt hlk hW hS rfl hce hcv hcl ⟨Nat.le_of_ble_eq_true rfl, Nat.le_of_ble_eq_true rfl⟩
set_option maxHeartbeats 4000000 in
set_option maxRecDepth 100000 in
theorem x1_setStock (l : Launch) (X : Cx) (w : Wo) (y : Nat) (su : Int) (σ : Int → Int) (k st : Int) (hst : l.stackTraces = false) (hY : clO X w y su) (hL : loomAt X w (y + 1) σ) (rk : -2147483648 ≤ k ∧ k < 2147483648) (hb : ¬ (0 ≤ k ∧ k < 7)) : CX l X yX8_setStock cX8_setStock 4 (some (.int)) (rmx 7 104) [.ref y, .int (iI k), .int (iI st)] w "java/lang/IndexOutOfBoundsException" (fun w' => w' = w) := by
  refine CX.of (lv := [(0, .ref y), (1, .int (iI k)), (2, .int (iI st))]) (by decide) (Nat.le_of_ble_eq_true rfl) rfl (fun p e s m below meth c ls F hnt hlk hin hW hS hl => ?_)
  have hZ0 := hW.2.2
  have hB9 := hW.1.2
  clear hin
  unfold clO at hY
  have hO := hL.1.o
  have hA := hL.1
  have hwf := hL.2.2
  have hF := hwf.1
  unfold WF0 at hF
  refine lv_aload_n F.1 F.2.1 dX8_setStock_0 rfl (lv_at hl 0 rfl) ?_
  refine lv_iload_n F.1 F.2.1 dX8_setStock_1 rfl (lv_at hl 1 rfl) ?_
  refine cx_RX8_245 (As := [.int (iI k)]) (rest := []) F hl (x_X8_checkColour l X w y su σ k hst hY hL (by omega) (by omega)) hW hS hY rfl rfl ⟨Nat.le_of_ble_eq_true rfl, Nat.le_of_ble_eq_true rfl⟩ (Nat.le_of_ble_eq_true rfl) ⟨Nat.le_of_ble_eq_true rfl, Nat.le_of_ble_eq_true rfl⟩ dX8_setStock_2 (fun w1 H1 locs1 ce q9 hp hW hS hce hcv hcl => ?_)
  rw [hp] at hW
  exact h_out hnt hlk hW hS rfl hce hcv hcl ⟨Nat.le_of_ble_eq_true rfl, Nat.le_of_ble_eq_true rfl⟩
set_option maxHeartbeats 4000000 in
set_option maxRecDepth 100000 in
theorem x_X8_save (l : Launch) (X : Cx) (w : Wo) (y : Nat) (su : Int) (σ : Int → Int) (k : Int) (hst : l.stackTraces = false) (hY : clO X w y su) (hL : loomAt X w (y + 1) σ) (rk : -2147483648 ≤ k ∧ k < 2147483648) (hb : ¬ (0 ≤ k ∧ k < 2)) : CX l X yX8_save cX8_save 2 none (rmx 7 104) [.ref y, .int (iI k)] w "java/lang/IllegalArgumentException" (fun w' => w' = w) := by
  refine CX.of (lv := [(0, .ref y), (1, .int (iI k))]) (by decide) (Nat.le_of_ble_eq_true rfl) rfl (fun p e s m below meth c ls F hnt hlk hin hW hS hl => ?_)
  have hZ0 := hW.2.2
  have hB9 := hW.1.2
  clear hin
  unfold clO at hY
  have hO := hL.1.o
  have hA := hL.1
  have hwf := hL.2.2
  have hF := hwf.1
  unfold WF0 at hF
  refine lv_aload_n F.1 F.2.1 dX8_save_0 rfl (lv_at hl 0 rfl) ?_
  refine lv_iload_n F.1 F.2.1 dX8_save_1 rfl (lv_at hl 1 rfl) ?_
  refine cx_RX8_426 (As := [.int (iI k)]) (rest := []) F hl (x_X8_checkSlot l X w y su σ k hst hY hL (by omega) (by omega)) hW hS hY rfl rfl ⟨Nat.le_of_ble_eq_true rfl, Nat.le_of_ble_eq_true rfl⟩ (Nat.le_of_ble_eq_true rfl) ⟨Nat.le_of_ble_eq_true rfl, Nat.le_of_ble_eq_true rfl⟩ dX8_save_2 (fun w1 H1 locs1 ce q9 hp hW hS hce hcv hcl => ?_)
  rw [hp] at hW
  exact h_out hnt hlk hW hS rfl hce hcv hcl ⟨Nat.le_of_ble_eq_true rfl, Nat.le_of_ble_eq_true rfl⟩
set_option maxHeartbeats 4000000 in
set_option maxRecDepth 100000 in
theorem x1_restore (l : Launch) (X : Cx) (w : Wo) (y : Nat) (su : Int) (σ : Int → Int) (k : Int) (hst : l.stackTraces = false) (hY : clO X w y su) (hL : loomAt X w (y + 1) σ) (rk : -2147483648 ≤ k ∧ k < 2147483648) (hb : ¬ (0 ≤ k ∧ k < 2)) : CX l X yX8_restore cX8_restore 2 none (rmx 7 104) [.ref y, .int (iI k)] w "java/lang/IllegalArgumentException" (fun w' => w' = w) := by
  refine CX.of (lv := [(0, .ref y), (1, .int (iI k))]) (by decide) (Nat.le_of_ble_eq_true rfl) rfl (fun p e s m below meth c ls F hnt hlk hin hW hS hl => ?_)
  have hZ0 := hW.2.2
  have hB9 := hW.1.2
  clear hin
  unfold clO at hY
  have hO := hL.1.o
  have hA := hL.1
  have hwf := hL.2.2
  have hF := hwf.1
  unfold WF0 at hF
  refine lv_aload_n F.1 F.2.1 dX8_restore_0 rfl (lv_at hl 0 rfl) ?_
  refine lv_iload_n F.1 F.2.1 dX8_restore_1 rfl (lv_at hl 1 rfl) ?_
  refine cx_RX8_426 (As := [.int (iI k)]) (rest := []) F hl (x_X8_checkSlot l X w y su σ k hst hY hL (by omega) (by omega)) hW hS hY rfl rfl ⟨Nat.le_of_ble_eq_true rfl, Nat.le_of_ble_eq_true rfl⟩ (Nat.le_of_ble_eq_true rfl) ⟨Nat.le_of_ble_eq_true rfl, Nat.le_of_ble_eq_true rfl⟩ dX8_restore_2 (fun w1 H1 locs1 ce q9 hp hW hS hce hcv hcl => ?_)
  rw [hp] at hW
  exact h_out hnt hlk hW hS rfl hce hcv hcl ⟨Nat.le_of_ble_eq_true rfl, Nat.le_of_ble_eq_true rfl⟩
set_option maxHeartbeats 4000000 in
set_option maxRecDepth 100000 in
theorem x_X8_count (l : Launch) (X : Cx) (w : Wo) (y : Nat) (su : Int) (σ : Int → Int) (wh : Int) (hst : l.stackTraces = false) (hY : clO X w y su) (hL : loomAt X w (y + 1) σ) (rwh : -2147483648 ≤ wh ∧ wh < 2147483648) (hb : ¬ (0 ≤ wh ∧ wh ≤ 8)) : CX l X yX8_count cX8_count 2 (some (.int)) (rmx 7 104) [.ref y, .int (iI wh)] w "java/lang/IllegalArgumentException" (fun w' => w' = w) := by
  refine CX.of (lv := [(0, .ref y), (1, .int (iI wh))]) (by decide) (Nat.le_of_ble_eq_true rfl) rfl (fun p e s m below meth c ls F hnt hlk hin hW hS hl => ?_)
  have hZ0 := hW.2.2
  have hB9 := hW.1.2
  clear hin
  unfold clO at hY
  have hO := hL.1.o
  have hA := hL.1
  have hwf := hL.2.2
  have hF := hwf.1
  unfold WF0 at hF
  refine lv_iload_n F.1 F.2.1 dX8_count_0 rfl (lv_at hl 1 rfl) ?_
  rcases (show (wh < 0 ∨ 8 < wh) by omega) with c1
  · refine lv_tableOut (tgt := 124) F.1 F.2.1 dX8_count_1 (by rw [iI_toInt (by omega)]; exact c1) (by decide) ?_
    exact h_throw (ik := 96) (ic := 100) (is := 165) F hst hnt hlk hl hW hZ0 hS rfl xw_A (List.mem_of_getElem? (i := 2) rfl) dX8_count_124 dX8_count_127 dX8_count_128 dX8_count_130 dX8_count_133 ⟨Nat.le_of_ble_eq_true rfl, Nat.le_of_ble_eq_true rfl⟩ ⟨⟨Nat.le_of_ble_eq_true rfl, Nat.le_of_ble_eq_true rfl⟩, Nat.le_of_ble_eq_true rfl, Nat.le_of_ble_eq_true rfl⟩
set_option maxHeartbeats 4000000 in
set_option maxRecDepth 100000 in
theorem x2_caption (l : Launch) (X : Cx) (w : Wo) (y : Nat) (su : Int) (σ : Int → Int) (k wh : Int) (hst : l.stackTraces = false) (hY : clO X w y su) (hL : loomAt X w (y + 1) σ) (hk : 0 ≤ k ∧ k < σ 5) (rwh : -2147483648 ≤ wh ∧ wh < 2147483648) (hb : ¬ (0 ≤ wh ∧ wh ≤ 9)) : CX l X yX8_caption cX8_caption 4 (some (.int)) (rmx 7 104) [.ref y, .int (iI k), .int (iI wh)] w "java/lang/IllegalArgumentException" (fun w' => w' = w) := by
  refine CX.of (lv := [(0, .ref y), (1, .int (iI k)), (2, .int (iI wh))]) (by decide) (Nat.le_of_ble_eq_true rfl) rfl (fun p e s m below meth c ls F hnt hlk hin hW hS hl => ?_)
  have hZ0 := hW.2.2
  have hB9 := hW.1.2
  clear hin
  unfold clO at hY
  have hO := hL.1.o
  have hA := hL.1
  have hwf := hL.2.2
  have hF := hwf.1
  unfold WF0 at hF
  refine lv_aload_n F.1 F.2.1 dX8_caption_0 rfl (lv_at hl 0 rfl) ?_
  refine lv_iload_n F.1 F.2.1 dX8_caption_1 rfl (lv_at hl 1 rfl) ?_
  refine cl_RX8_167 (As := [.int (iI k)]) (rest := []) F hl (c_X8_checkCaption l X w y su σ k hY hL (by omega)) hW hS hY rfl rfl ⟨Nat.le_of_ble_eq_true rfl, Nat.le_of_ble_eq_true rfl⟩ (Nat.le_of_ble_eq_true rfl) ⟨Nat.zero_le _, Nat.zero_le _⟩ dX8_caption_2 (fun w1 H locs hp1 hW hS => ?_)
  rw [hp1] at hW; clear hp1; clear w1
  refine lv_aload_n F.1 F.2.1 dX8_caption_5 rfl (lv_at hl 0 rfl) ?_
  refine gf_RX8_10 F hW hY rfl dX8_caption_6 ?_
  refine lv_iload_n F.1 F.2.1 dX8_caption_9 rfl (lv_at hl 1 rfl) ?_
  refine cl_RX8_170 (As := [.int (iI k)]) (rest := []) F hl (c_X5_captionAt l X w (y + 1) σ k hA hwf (by omega)) hW hS hO rfl rfl ⟨Nat.le_of_ble_eq_true rfl, Nat.le_of_ble_eq_true rfl⟩ (Nat.le_of_ble_eq_true rfl) ⟨Nat.zero_le _, Nat.zero_le _⟩ dX8_caption_10 (fun w1 H locs hp2 hW hS => ?_)
  rw [hp2] at hW; clear hp2; clear w1
  have hq := hL.1.cap k (by omega) (by omega)
  have hqo := hq.o
  have hcok := hwf.2.2.1 k (by omega) (by omega)
  have hcn := hcok.1
  refine lv_astore_n (lv' := [(3, .ref ((y + 1) + 9 + 2 * k.toNat)), (0, .ref y), (1, .int (iI k)), (2, .int (iI wh))]) F.1 F.2.1 dX8_caption_13 rfl hl (by decide) rfl (fun ls hl => ?_)
  refine lv_iload_n F.1 F.2.1 dX8_caption_14 rfl (lv_at hl 3 rfl) ?_
  rcases (show (wh < 0 ∨ 9 < wh) by omega) with c3
  · refine lv_tableOut (tgt := 138) F.1 F.2.1 dX8_caption_15 (by rw [iI_toInt (by omega)]; exact c3) (by decide) ?_
    exact h_throw (ik := 96) (ic := 100) (is := 165) F hst hnt hlk hl hW hZ0 hS rfl xw_A (List.mem_of_getElem? (i := 2) rfl) dX8_caption_138 dX8_caption_141 dX8_caption_142 dX8_caption_144 dX8_caption_147 ⟨Nat.le_of_ble_eq_true rfl, Nat.le_of_ble_eq_true rfl⟩ ⟨⟨Nat.le_of_ble_eq_true rfl, Nat.le_of_ble_eq_true rfl⟩, Nat.le_of_ble_eq_true rfl, Nat.le_of_ble_eq_true rfl⟩
set_option maxHeartbeats 4000000 in
set_option maxRecDepth 100000 in
theorem x2_letter (l : Launch) (X : Cx) (w : Wo) (y : Nat) (su : Int) (σ : Int → Int) (k j wh : Int) (hst : l.stackTraces = false) (hY : clO X w y su) (hL : loomAt X w (y + 1) σ) (hk : 0 ≤ k ∧ k < σ 5) (hj : 0 ≤ j ∧ j < cp σ k 0) (rwh : -2147483648 ≤ wh ∧ wh < 2147483648) (hb : ¬ (0 ≤ wh ∧ wh ≤ 3)) : CX l X yX8_letter cX8_letter 5 (some (.int)) (rmx 7 104) [.ref y, .int (iI k), .int (iI j), .int (iI wh)] w "java/lang/IllegalArgumentException" (fun w' => w' = w) := by
  refine CX.of (lv := [(0, .ref y), (1, .int (iI k)), (2, .int (iI j)), (3, .int (iI wh))]) (by decide) (Nat.le_of_ble_eq_true rfl) rfl (fun p e s m below meth c ls F hnt hlk hin hW hS hl => ?_)
  have hZ0 := hW.2.2
  have hB9 := hW.1.2
  clear hin
  unfold clO at hY
  have hO := hL.1.o
  have hA := hL.1
  have hwf := hL.2.2
  have hF := hwf.1
  unfold WF0 at hF
  refine lv_aload_n F.1 F.2.1 dX8_letter_0 rfl (lv_at hl 0 rfl) ?_
  refine lv_iload_n F.1 F.2.1 dX8_letter_1 rfl (lv_at hl 1 rfl) ?_
  refine cl_RX8_167 (As := [.int (iI k)]) (rest := []) F hl (c_X8_checkCaption l X w y su σ k hY hL (by omega)) hW hS hY rfl rfl ⟨Nat.le_of_ble_eq_true rfl, Nat.le_of_ble_eq_true rfl⟩ (Nat.le_of_ble_eq_true rfl) ⟨Nat.zero_le _, Nat.zero_le _⟩ dX8_letter_2 (fun w1 H locs hp1 hW hS => ?_)
  rw [hp1] at hW; clear hp1; clear w1
  refine lv_aload_n F.1 F.2.1 dX8_letter_5 rfl (lv_at hl 0 rfl) ?_
  refine gf_RX8_10 F hW hY rfl dX8_letter_6 ?_
  refine lv_iload_n F.1 F.2.1 dX8_letter_9 rfl (lv_at hl 1 rfl) ?_
  refine cl_RX8_170 (As := [.int (iI k)]) (rest := []) F hl (c_X5_captionAt l X w (y + 1) σ k hA hwf (by omega)) hW hS hO rfl rfl ⟨Nat.le_of_ble_eq_true rfl, Nat.le_of_ble_eq_true rfl⟩ (Nat.le_of_ble_eq_true rfl) ⟨Nat.zero_le _, Nat.zero_le _⟩ dX8_letter_10 (fun w1 H locs hp2 hW hS => ?_)
  rw [hp2] at hW; clear hp2; clear w1
  have hq := hL.1.cap k (by omega) (by omega)
  have hqo := hq.o
  have hcok := hwf.2.2.1 k (by omega) (by omega)
  have hcn := hcok.1
  refine lv_astore (lv' := [(4, .ref ((y + 1) + 9 + 2 * k.toNat)), (0, .ref y), (1, .int (iI k)), (2, .int (iI j)), (3, .int (iI wh))]) F.1 F.2.1 dX8_letter_13 hl (by decide) rfl (fun ls hl => ?_)
  refine lv_iload_n F.1 F.2.1 dX8_letter_15 rfl (lv_at hl 3 rfl) ?_
  refine h_iflt (tgt := 28) F dX8_letter_16 (by decide) (by omega) (fun c3 => ?_) (fun c3 => ?_)
  · exfalso; omega
  · refine lv_iload_n F.1 F.2.1 dX8_letter_19 rfl (lv_at hl 3 rfl) ?_
    refine lv_aload F.1 F.2.1 dX8_letter_20 (lv_at hl 0 rfl) ?_
    refine gf_RX8_174 F hW hqo rfl dX8_letter_22 ?_
    refine h_iclt (tgt := 38) F dX8_letter_25 (by decide) (by omega) (fun c4 => ?_) (fun c4 => ?_)
    · refine lv_iload_n F.1 F.2.1 dX8_letter_38 rfl (lv_at hl 4 rfl) ?_
      rcases (show (wh < 0 ∨ 3 < wh) by omega) with c5
      · refine lv_tableOut (tgt := 124) F.1 F.2.1 dX8_letter_39 (by rw [iI_toInt (by omega)]; exact c5) (by decide) ?_
        exact h_throw (ik := 96) (ic := 100) (is := 165) F hst hnt hlk hl hW hZ0 hS rfl xw_A (List.mem_of_getElem? (i := 2) rfl) dX8_letter_124 dX8_letter_127 dX8_letter_128 dX8_letter_130 dX8_letter_133 ⟨Nat.le_of_ble_eq_true rfl, Nat.le_of_ble_eq_true rfl⟩ ⟨⟨Nat.le_of_ble_eq_true rfl, Nat.le_of_ble_eq_true rfl⟩, Nat.le_of_ble_eq_true rfl, Nat.le_of_ble_eq_true rfl⟩
    · exfalso; omega
set_option maxHeartbeats 4000000 in
set_option maxRecDepth 100000 in
theorem x1_letter (l : Launch) (X : Cx) (w : Wo) (y : Nat) (su : Int) (σ : Int → Int) (k j wh : Int) (hst : l.stackTraces = false) (hY : clO X w y su) (hL : loomAt X w (y + 1) σ) (hk : 0 ≤ k ∧ k < σ 5) (rj : -2147483648 ≤ j ∧ j < 2147483648) (hb : ¬ (0 ≤ j ∧ j < cp σ k 0)) : CX l X yX8_letter cX8_letter 5 (some (.int)) (rmx 7 104) [.ref y, .int (iI k), .int (iI j), .int (iI wh)] w "java/lang/IndexOutOfBoundsException" (fun w' => w' = w) := by
  refine CX.of (lv := [(0, .ref y), (1, .int (iI k)), (2, .int (iI j)), (3, .int (iI wh))]) (by decide) (Nat.le_of_ble_eq_true rfl) rfl (fun p e s m below meth c ls F hnt hlk hin hW hS hl => ?_)
  have hZ0 := hW.2.2
  have hB9 := hW.1.2
  clear hin
  unfold clO at hY
  have hO := hL.1.o
  have hA := hL.1
  have hwf := hL.2.2
  have hF := hwf.1
  unfold WF0 at hF
  refine lv_aload_n F.1 F.2.1 dX8_letter_0 rfl (lv_at hl 0 rfl) ?_
  refine lv_iload_n F.1 F.2.1 dX8_letter_1 rfl (lv_at hl 1 rfl) ?_
  refine cl_RX8_167 (As := [.int (iI k)]) (rest := []) F hl (c_X8_checkCaption l X w y su σ k hY hL (by omega)) hW hS hY rfl rfl ⟨Nat.le_of_ble_eq_true rfl, Nat.le_of_ble_eq_true rfl⟩ (Nat.le_of_ble_eq_true rfl) ⟨Nat.zero_le _, Nat.zero_le _⟩ dX8_letter_2 (fun w1 H locs hp1 hW hS => ?_)
  rw [hp1] at hW; clear hp1; clear w1
  refine lv_aload_n F.1 F.2.1 dX8_letter_5 rfl (lv_at hl 0 rfl) ?_
  refine gf_RX8_10 F hW hY rfl dX8_letter_6 ?_
  refine lv_iload_n F.1 F.2.1 dX8_letter_9 rfl (lv_at hl 1 rfl) ?_
  refine cl_RX8_170 (As := [.int (iI k)]) (rest := []) F hl (c_X5_captionAt l X w (y + 1) σ k hA hwf (by omega)) hW hS hO rfl rfl ⟨Nat.le_of_ble_eq_true rfl, Nat.le_of_ble_eq_true rfl⟩ (Nat.le_of_ble_eq_true rfl) ⟨Nat.zero_le _, Nat.zero_le _⟩ dX8_letter_10 (fun w1 H locs hp2 hW hS => ?_)
  rw [hp2] at hW; clear hp2; clear w1
  have hq := hL.1.cap k (by omega) (by omega)
  have hqo := hq.o
  have hcok := hwf.2.2.1 k (by omega) (by omega)
  have hcn := hcok.1
  refine lv_astore (lv' := [(4, .ref ((y + 1) + 9 + 2 * k.toNat)), (0, .ref y), (1, .int (iI k)), (2, .int (iI j)), (3, .int (iI wh))]) F.1 F.2.1 dX8_letter_13 hl (by decide) rfl (fun ls hl => ?_)
  refine lv_iload_n F.1 F.2.1 dX8_letter_15 rfl (lv_at hl 3 rfl) ?_
  refine h_iflt (tgt := 28) F dX8_letter_16 (by decide) (by omega) (fun c3 => ?_) (fun c3 => ?_)
  · exact h_throw (ik := 205) (ic := 209) (is := 207) F hst hnt hlk hl hW hZ0 hS rfl xw_I (List.mem_of_getElem? (i := 3) rfl) dX8_letter_28 dX8_letter_31 dX8_letter_32 dX8_letter_34 dX8_letter_37 ⟨Nat.le_of_ble_eq_true rfl, Nat.le_of_ble_eq_true rfl⟩ ⟨⟨Nat.le_of_ble_eq_true rfl, Nat.le_of_ble_eq_true rfl⟩, Nat.le_of_ble_eq_true rfl, Nat.le_of_ble_eq_true rfl⟩
  · refine lv_iload_n F.1 F.2.1 dX8_letter_19 rfl (lv_at hl 3 rfl) ?_
    refine lv_aload F.1 F.2.1 dX8_letter_20 (lv_at hl 0 rfl) ?_
    refine gf_RX8_174 F hW hqo rfl dX8_letter_22 ?_
    refine h_iclt (tgt := 38) F dX8_letter_25 (by decide) (by omega) (fun c4 => ?_) (fun c4 => ?_)
    · exfalso; omega
    · exact h_throw (ik := 205) (ic := 209) (is := 207) F hst hnt hlk hl hW hZ0 hS rfl xw_I (List.mem_of_getElem? (i := 3) rfl) dX8_letter_28 dX8_letter_31 dX8_letter_32 dX8_letter_34 dX8_letter_37 ⟨Nat.le_of_ble_eq_true rfl, Nat.le_of_ble_eq_true rfl⟩ ⟨⟨Nat.le_of_ble_eq_true rfl, Nat.le_of_ble_eq_true rfl⟩, Nat.le_of_ble_eq_true rfl, Nat.le_of_ble_eq_true rfl⟩
set_option maxHeartbeats 4000000 in
set_option maxRecDepth 100000 in
theorem x2_colour (l : Launch) (X : Cx) (w : Wo) (y : Nat) (su : Int) (σ : Int → Int) (k wh : Int) (hst : l.stackTraces = false) (hY : clO X w y su) (hL : loomAt X w (y + 1) σ) (hk : 0 ≤ k ∧ k < 7) (rwh : -2147483648 ≤ wh ∧ wh < 2147483648) (hb : ¬ (0 ≤ wh ∧ wh ≤ 4)) : CX l X yX8_colour cX8_colour 3 (some (.int)) (rmx 7 104) [.ref y, .int (iI k), .int (iI wh)] w "java/lang/IllegalArgumentException" (fun w' => w' = w) := by
  refine CX.of (lv := [(0, .ref y), (1, .int (iI k)), (2, .int (iI wh))]) (by decide) (Nat.le_of_ble_eq_true rfl) rfl (fun p e s m below meth c ls F hnt hlk hin hW hS hl => ?_)
  have hZ0 := hW.2.2
  have hB9 := hW.1.2
  clear hin
  unfold clO at hY
  have hO := hL.1.o
  have hA := hL.1
  have hwf := hL.2.2
  have hF := hwf.1
  unfold WF0 at hF
  refine lv_aload_n F.1 F.2.1 dX8_colour_0 rfl (lv_at hl 0 rfl) ?_
  refine lv_iload_n F.1 F.2.1 dX8_colour_1 rfl (lv_at hl 1 rfl) ?_
  refine cl_RX8_245 (As := [.int (iI k)]) (rest := []) F hl (c_X8_checkColour l X w y su σ k hY hL (by omega)) hW hS hY rfl rfl ⟨Nat.le_of_ble_eq_true rfl, Nat.le_of_ble_eq_true rfl⟩ (Nat.le_of_ble_eq_true rfl) ⟨Nat.zero_le _, Nat.zero_le _⟩ dX8_colour_2 (fun w1 H locs hp1 hW hS => ?_)
  rw [hp1] at hW; clear hp1; clear w1
  refine lv_iload_n F.1 F.2.1 dX8_colour_5 rfl (lv_at hl 2 rfl) ?_
  rcases (show (wh < 0 ∨ 4 < wh) by omega) with c2
  · refine lv_tableOut (tgt := 103) F.1 F.2.1 dX8_colour_6 (by rw [iI_toInt (by omega)]; exact c2) (by decide) ?_
    exact h_throw (ik := 96) (ic := 100) (is := 165) F hst hnt hlk hl hW hZ0 hS rfl xw_A (List.mem_of_getElem? (i := 2) rfl) dX8_colour_103 dX8_colour_106 dX8_colour_107 dX8_colour_109 dX8_colour_112 ⟨Nat.le_of_ble_eq_true rfl, Nat.le_of_ble_eq_true rfl⟩ ⟨⟨Nat.le_of_ble_eq_true rfl, Nat.le_of_ble_eq_true rfl⟩, Nat.le_of_ble_eq_true rfl, Nat.le_of_ble_eq_true rfl⟩
set_option maxHeartbeats 4000000 in
set_option maxRecDepth 100000 in
theorem x_X8_mistakes (l : Launch) (X : Cx) (w : Wo) (y : Nat) (su : Int) (σ : Int → Int) (wh : Int) (hst : l.stackTraces = false) (hY : clO X w y su) (hL : loomAt X w (y + 1) σ) (rwh : -2147483648 ≤ wh ∧ wh < 2147483648) (hb : ¬ (0 ≤ wh ∧ wh ≤ 5)) : CX l X yX8_mistakes cX8_mistakes 2 (some (.int)) (rmx 7 104) [.ref y, .int (iI wh)] w "java/lang/IllegalArgumentException" (fun w' => w' = w) := by
  refine CX.of (lv := [(0, .ref y), (1, .int (iI wh))]) (by decide) (Nat.le_of_ble_eq_true rfl) rfl (fun p e s m below meth c ls F hnt hlk hin hW hS hl => ?_)
  have hZ0 := hW.2.2
  have hB9 := hW.1.2
  clear hin
  unfold clO at hY
  have hO := hL.1.o
  have hA := hL.1
  have hwf := hL.2.2
  have hF := hwf.1
  unfold WF0 at hF
  refine lv_iload_n F.1 F.2.1 dX8_mistakes_0 rfl (lv_at hl 1 rfl) ?_
  rcases (show (wh < 0 ∨ 5 < wh) by omega) with c1
  · refine lv_tableOut (tgt := 106) F.1 F.2.1 dX8_mistakes_1 (by rw [iI_toInt (by omega)]; exact c1) (by decide) ?_
    exact h_throw (ik := 96) (ic := 100) (is := 165) F hst hnt hlk hl hW hZ0 hS rfl xw_A (List.mem_of_getElem? (i := 2) rfl) dX8_mistakes_106 dX8_mistakes_109 dX8_mistakes_110 dX8_mistakes_112 dX8_mistakes_115 ⟨Nat.le_of_ble_eq_true rfl, Nat.le_of_ble_eq_true rfl⟩ ⟨⟨Nat.le_of_ble_eq_true rfl, Nat.le_of_ble_eq_true rfl⟩, Nat.le_of_ble_eq_true rfl, Nat.le_of_ble_eq_true rfl⟩
set_option maxHeartbeats 4000000 in
set_option maxRecDepth 100000 in
theorem x_X8_slits (l : Launch) (X : Cx) (w : Wo) (y : Nat) (su : Int) (σ : Int → Int) (wh : Int) (hst : l.stackTraces = false) (hY : clO X w y su) (hL : loomAt X w (y + 1) σ) (rwh : -2147483648 ≤ wh ∧ wh < 2147483648) (hb : ¬ (2 ≤ wh ∧ wh ≤ 30)) : CX l X yX8_slits cX8_slits 2 (some (.int)) (rmx 7 104) [.ref y, .int (iI wh)] w "java/lang/IllegalArgumentException" (fun w' => w' = w) := by
  refine CX.of (lv := [(0, .ref y), (1, .int (iI wh))]) (by decide) (Nat.le_of_ble_eq_true rfl) rfl (fun p e s m below meth c ls F hnt hlk hin hW hS hl => ?_)
  have hZ0 := hW.2.2
  have hB9 := hW.1.2
  clear hin
  unfold clO at hY
  have hO := hL.1.o
  have hA := hL.1
  have hwf := hL.2.2
  have hF := hwf.1
  unfold WF0 at hF
  refine lv_iload_n F.1 F.2.1 dX8_slits_0 rfl (lv_at hl 1 rfl) ?_
  refine h_iconst F dX8_slits_1 ?_
  refine h_iclt (tgt := 11) F dX8_slits_2 (by decide) (by omega) (fun c1 => ?_) (fun c1 => ?_)
  · exact h_throw (ik := 96) (ic := 100) (is := 98) F hst hnt hlk hl hW hZ0 hS rfl xw_A (List.mem_of_getElem? (i := 1) rfl) dX8_slits_11 dX8_slits_14 dX8_slits_15 dX8_slits_17 dX8_slits_20 ⟨Nat.le_of_ble_eq_true rfl, Nat.le_of_ble_eq_true rfl⟩ ⟨⟨Nat.le_of_ble_eq_true rfl, Nat.le_of_ble_eq_true rfl⟩, Nat.le_of_ble_eq_true rfl, Nat.le_of_ble_eq_true rfl⟩
  · refine lv_iload_n F.1 F.2.1 dX8_slits_5 rfl (lv_at hl 1 rfl) ?_
    refine h_bipush F dX8_slits_6 rfl ?_
    refine h_icle (tgt := 21) F dX8_slits_8 (by decide) (by omega) (fun c2 => ?_) (fun c2 => ?_)
    · exfalso; omega
    · exact h_throw (ik := 96) (ic := 100) (is := 98) F hst hnt hlk hl hW hZ0 hS rfl xw_A (List.mem_of_getElem? (i := 1) rfl) dX8_slits_11 dX8_slits_14 dX8_slits_15 dX8_slits_17 dX8_slits_20 ⟨Nat.le_of_ble_eq_true rfl, Nat.le_of_ble_eq_true rfl⟩ ⟨⟨Nat.le_of_ble_eq_true rfl, Nat.le_of_ble_eq_true rfl⟩, Nat.le_of_ble_eq_true rfl, Nat.le_of_ble_eq_true rfl⟩
set_option maxHeartbeats 4000000 in
set_option maxRecDepth 100000 in
theorem x_X8_account (l : Launch) (X : Cx) (w : Wo) (y : Nat) (su : Int) (σ : Int → Int) (wh : Int) (hst : l.stackTraces = false) (hY : clO X w y su) (hL : loomAt X w (y + 1) σ) (rwh : -2147483648 ≤ wh ∧ wh < 2147483648) (hb : ¬ (0 ≤ wh ∧ wh ≤ 8)) : CX l X yX8_account cX8_account 2 (some (.int)) (rmx 7 104) [.ref y, .int (iI wh)] w "java/lang/IllegalArgumentException" (fun w' => w' = w) := by
  refine CX.of (lv := [(0, .ref y), (1, .int (iI wh))]) (by decide) (Nat.le_of_ble_eq_true rfl) rfl (fun p e s m below meth c ls F hnt hlk hin hW hS hl => ?_)
  have hZ0 := hW.2.2
  have hB9 := hW.1.2
  clear hin
  unfold clO at hY
  have hO := hL.1.o
  have hA := hL.1
  have hwf := hL.2.2
  have hF := hwf.1
  unfold WF0 at hF
  refine lv_iload_n F.1 F.2.1 dX8_account_0 rfl (lv_at hl 1 rfl) ?_
  refine h_iflt (tgt := 10) F dX8_account_1 (by decide) (by omega) (fun c1 => ?_) (fun c1 => ?_)
  · exact h_throw (ik := 96) (ic := 100) (is := 165) F hst hnt hlk hl hW hZ0 hS rfl xw_A (List.mem_of_getElem? (i := 2) rfl) dX8_account_10 dX8_account_13 dX8_account_14 dX8_account_16 dX8_account_19 ⟨Nat.le_of_ble_eq_true rfl, Nat.le_of_ble_eq_true rfl⟩ ⟨⟨Nat.le_of_ble_eq_true rfl, Nat.le_of_ble_eq_true rfl⟩, Nat.le_of_ble_eq_true rfl, Nat.le_of_ble_eq_true rfl⟩
  · refine lv_iload_n F.1 F.2.1 dX8_account_4 rfl (lv_at hl 1 rfl) ?_
    refine h_bipush F dX8_account_5 rfl ?_
    refine h_iclt (tgt := 20) F dX8_account_7 (by decide) (by omega) (fun c2 => ?_) (fun c2 => ?_)
    · exfalso; omega
    · exact h_throw (ik := 96) (ic := 100) (is := 165) F hst hnt hlk hl hW hZ0 hS rfl xw_A (List.mem_of_getElem? (i := 2) rfl) dX8_account_10 dX8_account_13 dX8_account_14 dX8_account_16 dX8_account_19 ⟨Nat.le_of_ble_eq_true rfl, Nat.le_of_ble_eq_true rfl⟩ ⟨⟨Nat.le_of_ble_eq_true rfl, Nat.le_of_ble_eq_true rfl⟩, Nat.le_of_ble_eq_true rfl, Nat.le_of_ble_eq_true rfl⟩
set_option maxHeartbeats 4000000 in
set_option maxRecDepth 100000 in
theorem x_X8_minutes (l : Launch) (X : Cx) (w : Wo) (y : Nat) (su : Int) (σ : Int → Int) (wh : Int) (hst : l.stackTraces = false) (hY : clO X w y su) (hL : loomAt X w (y + 1) σ) (rwh : -2147483648 ≤ wh ∧ wh < 2147483648) (hb : ¬ (0 ≤ wh ∧ wh ≤ 30)) : CX l X yX8_minutes cX8_minutes 5 (some (.int)) (rmx 7 104) [.ref y, .int (iI wh)] w "java/lang/IllegalArgumentException" (fun w' => w' = w) := by
  refine CX.of (lv := [(0, .ref y), (1, .int (iI wh))]) (by decide) (Nat.le_of_ble_eq_true rfl) rfl (fun p e s m below meth c ls F hnt hlk hin hW hS hl => ?_)
  have hZ0 := hW.2.2
  have hB9 := hW.1.2
  clear hin
  unfold clO at hY
  have hO := hL.1.o
  have hA := hL.1
  have hwf := hL.2.2
  have hF := hwf.1
  unfold WF0 at hF
  refine lv_iload_n F.1 F.2.1 dX8_minutes_0 rfl (lv_at hl 1 rfl) ?_
  refine h_iflt (tgt := 10) F dX8_minutes_1 (by decide) (by omega) (fun c1 => ?_) (fun c1 => ?_)
  · exact h_throwW (ik := 96) (ic := 100) (is := 313) F hst hnt hlk hl hW hZ0 hS rfl xw_A (List.mem_of_getElem? (i := 4) rfl) dX8_minutes_10 dX8_minutes_13 dX8_minutes_14 dX8_minutes_17 dX8_minutes_20 ⟨Nat.le_of_ble_eq_true rfl, Nat.le_of_ble_eq_true rfl⟩ ⟨⟨Nat.le_of_ble_eq_true rfl, Nat.le_of_ble_eq_true rfl⟩, Nat.le_of_ble_eq_true rfl, Nat.le_of_ble_eq_true rfl⟩
  · refine lv_iload_n F.1 F.2.1 dX8_minutes_4 rfl (lv_at hl 1 rfl) ?_
    refine h_bipush F dX8_minutes_5 rfl ?_
    refine h_icle (tgt := 21) F dX8_minutes_7 (by decide) (by omega) (fun c2 => ?_) (fun c2 => ?_)
    · exfalso; omega
    · exact h_throwW (ik := 96) (ic := 100) (is := 313) F hst hnt hlk hl hW hZ0 hS rfl xw_A (List.mem_of_getElem? (i := 4) rfl) dX8_minutes_10 dX8_minutes_13 dX8_minutes_14 dX8_minutes_17 dX8_minutes_20 ⟨Nat.le_of_ble_eq_true rfl, Nat.le_of_ble_eq_true rfl⟩ ⟨⟨Nat.le_of_ble_eq_true rfl, Nat.le_of_ble_eq_true rfl⟩, Nat.le_of_ble_eq_true rfl, Nat.le_of_ble_eq_true rfl⟩
set_option maxHeartbeats 4000000 in
set_option maxRecDepth 100000 in
theorem x_X8_place (l : Launch) (X : Cx) (w : Wo) (y : Nat) (su : Int) (σ : Int → Int) (n sd : Int) (hst : l.stackTraces = false) (hY : clO X w y su) (hL : loomAt X w (y + 1) σ) (rn : -2147483648 ≤ n ∧ n < 2147483648) (rsd : -2147483648 ≤ sd ∧ sd < 2147483648) (hb : ¬ (1 ≤ n ∧ n ≤ 8 ∧ (sd = 0 ∨ sd = 1))) : CX l X yX8_place cX8_place 5 (some (.int)) (rmx 7 104) [.ref y, .int (iI n), .int (iI sd)] w "java/lang/IllegalArgumentException" (fun w' => w' = w) := by
  refine CX.of (lv := [(0, .ref y), (1, .int (iI n)), (2, .int (iI sd))]) (by decide) (Nat.le_of_ble_eq_true rfl) rfl (fun p e s m below meth c ls F hnt hlk hin hW hS hl => ?_)
  have hZ0 := hW.2.2
  have hB9 := hW.1.2
  clear hin
  unfold clO at hY
  have hO := hL.1.o
  have hA := hL.1
  have hwf := hL.2.2
  have hF := hwf.1
  unfold WF0 at hF
  refine lv_iload_n F.1 F.2.1 dX8_place_0 rfl (lv_at hl 1 rfl) ?_
  refine h_iconst F dX8_place_1 ?_
  refine h_iclt (tgt := 18) F dX8_place_2 (by decide) (by omega) (fun c1 => ?_) (fun c1 => ?_)
  · exact h_throwW (ik := 96) (ic := 100) (is := 330) F hst hnt hlk hl hW hZ0 hS rfl xw_A (List.mem_of_getElem? (i := 5) rfl) dX8_place_18 dX8_place_21 dX8_place_22 dX8_place_25 dX8_place_28 ⟨Nat.le_of_ble_eq_true rfl, Nat.le_of_ble_eq_true rfl⟩ ⟨⟨Nat.le_of_ble_eq_true rfl, Nat.le_of_ble_eq_true rfl⟩, Nat.le_of_ble_eq_true rfl, Nat.le_of_ble_eq_true rfl⟩
  · refine lv_iload_n F.1 F.2.1 dX8_place_5 rfl (lv_at hl 1 rfl) ?_
    refine h_bipush F dX8_place_6 rfl ?_
    refine h_icgt (tgt := 18) F dX8_place_8 (by decide) (by omega) (fun c2 => ?_) (fun c2 => ?_)
    · exact h_throwW (ik := 96) (ic := 100) (is := 330) F hst hnt hlk hl hW hZ0 hS rfl xw_A (List.mem_of_getElem? (i := 5) rfl) dX8_place_18 dX8_place_21 dX8_place_22 dX8_place_25 dX8_place_28 ⟨Nat.le_of_ble_eq_true rfl, Nat.le_of_ble_eq_true rfl⟩ ⟨⟨Nat.le_of_ble_eq_true rfl, Nat.le_of_ble_eq_true rfl⟩, Nat.le_of_ble_eq_true rfl, Nat.le_of_ble_eq_true rfl⟩
    · refine lv_iload_n F.1 F.2.1 dX8_place_11 rfl (lv_at hl 2 rfl) ?_
      refine cl_RX8_327 (As := [.int (iI sd)]) (rest := []) F hl (c_X8_isSide l X w sd (by omega)) hW hS rfl rfl ⟨Nat.le_of_ble_eq_true rfl, Nat.le_of_ble_eq_true rfl⟩ (Nat.le_of_ble_eq_true rfl) ⟨Nat.zero_le _, Nat.zero_le _⟩ dX8_place_12 (fun w1 H locs hp3 hW hS => ?_)
      rw [hp3] at hW; clear hp3; clear w1
      refine h_ifneb (tgt := 29) F dX8_place_15 (by decide) (fun c4 => ?_) (fun c4 => ?_)
      · have hz9 := of_decide_eq_true c4
        exfalso; omega
      · exact h_throwW (ik := 96) (ic := 100) (is := 330) F hst hnt hlk hl hW hZ0 hS rfl xw_A (List.mem_of_getElem? (i := 5) rfl) dX8_place_18 dX8_place_21 dX8_place_22 dX8_place_25 dX8_place_28 ⟨Nat.le_of_ble_eq_true rfl, Nat.le_of_ble_eq_true rfl⟩ ⟨⟨Nat.le_of_ble_eq_true rfl, Nat.le_of_ble_eq_true rfl⟩, Nat.le_of_ble_eq_true rfl, Nat.le_of_ble_eq_true rfl⟩
set_option maxHeartbeats 4000000 in
set_option maxRecDepth 100000 in
theorem x1_pass (l : Launch) (X : Cx) (w : Wo) (y : Nat) (su : Int) (σ : Int → Int) (k fr to : Int) (hst : l.stackTraces = false) (hY : clO X w y su) (hL : loomAt X w (y + 1) σ) (hk : 0 ≤ k ∧ k < 7) (rfr : -2147483648 ≤ fr ∧ fr < 2147483648) (rto : -2147483648 ≤ to ∧ to < 2147483648) (hb : ¬ ((0 ≤ fr ∧ fr < σ 0) ∧ (0 ≤ to ∧ to < σ 0))) : CX l X yX8_pass cX8_pass 4 (some (.int)) (rmx 7 104) [.ref y, .int (iI k), .int (iI fr), .int (iI to)] w "java/lang/IndexOutOfBoundsException" (fun w' => w' = w) := by
  refine CX.of (lv := [(0, .ref y), (1, .int (iI k)), (2, .int (iI fr)), (3, .int (iI to))]) (by decide) (Nat.le_of_ble_eq_true rfl) rfl (fun p e s m below meth c ls F hnt hlk hin hW hS hl => ?_)
  have hZ0 := hW.2.2
  have hB9 := hW.1.2
  clear hin
  unfold clO at hY
  have hO := hL.1.o
  have hA := hL.1
  have hwf := hL.2.2
  have hF := hwf.1
  unfold WF0 at hF
  refine lv_aload_n F.1 F.2.1 dX8_pass_0 rfl (lv_at hl 0 rfl) ?_
  refine lv_iload_n F.1 F.2.1 dX8_pass_1 rfl (lv_at hl 1 rfl) ?_
  refine cl_RX8_245 (As := [.int (iI k)]) (rest := []) F hl (c_X8_checkColour l X w y su σ k hY hL (by omega)) hW hS hY rfl rfl ⟨Nat.le_of_ble_eq_true rfl, Nat.le_of_ble_eq_true rfl⟩ (Nat.le_of_ble_eq_true rfl) ⟨Nat.zero_le _, Nat.zero_le _⟩ dX8_pass_2 (fun w1 H locs hp1 hW hS => ?_)
  rw [hp1] at hW; clear hp1; clear w1
  refine lv_aload_n F.1 F.2.1 dX8_pass_5 rfl (lv_at hl 0 rfl) ?_
  refine gf_RX8_10 F hW hY rfl dX8_pass_6 ?_
  refine lv_iload_n F.1 F.2.1 dX8_pass_9 rfl (lv_at hl 2 rfl) ?_
  refine cl_RX8_342 (As := [.int (iI fr)]) (rest := []) F hl (c_X5_hasColumn l X w (y + 1) σ fr hA hwf (by omega)) hW hS hO rfl rfl ⟨Nat.le_of_ble_eq_true rfl, Nat.le_of_ble_eq_true rfl⟩ (Nat.le_of_ble_eq_true rfl) ⟨Nat.zero_le _, Nat.zero_le _⟩ dX8_pass_10 (fun w1 H locs hp2 hW hS => ?_)
  rw [hp2] at hW; clear hp2; clear w1
  refine h_ifeqb (tgt := 27) F dX8_pass_13 (by decide) (fun c3 => ?_) (fun c3 => ?_)
  · have c3d := of_decide_eq_false c3
    exact h_throwW (ik := 205) (ic := 209) (is := 345) F hst hnt hlk hl hW hZ0 hS rfl xw_I (List.mem_of_getElem? (i := 6) rfl) dX8_pass_27 dX8_pass_30 dX8_pass_31 dX8_pass_34 dX8_pass_37 ⟨Nat.le_of_ble_eq_true rfl, Nat.le_of_ble_eq_true rfl⟩ ⟨⟨Nat.le_of_ble_eq_true rfl, Nat.le_of_ble_eq_true rfl⟩, Nat.le_of_ble_eq_true rfl, Nat.le_of_ble_eq_true rfl⟩
  · have c3d := of_decide_eq_true c3
    refine lv_aload_n F.1 F.2.1 dX8_pass_16 rfl (lv_at hl 0 rfl) ?_
    refine gf_RX8_10 F hW hY rfl dX8_pass_17 ?_
    refine lv_iload_n F.1 F.2.1 dX8_pass_20 rfl (lv_at hl 3 rfl) ?_
    refine cl_RX8_342 (As := [.int (iI to)]) (rest := []) F hl (c_X5_hasColumn l X w (y + 1) σ to hA hwf (by omega)) hW hS hO rfl rfl ⟨Nat.le_of_ble_eq_true rfl, Nat.le_of_ble_eq_true rfl⟩ (Nat.le_of_ble_eq_true rfl) ⟨Nat.zero_le _, Nat.zero_le _⟩ dX8_pass_21 (fun w1 H locs hp4 hW hS => ?_)
    rw [hp4] at hW; clear hp4; clear w1
    refine h_ifneb (tgt := 38) F dX8_pass_24 (by decide) (fun c5 => ?_) (fun c5 => ?_)
    · have hz9 := of_decide_eq_true c5
      exfalso; omega
    · exact h_throwW (ik := 205) (ic := 209) (is := 345) F hst hnt hlk hl hW hZ0 hS rfl xw_I (List.mem_of_getElem? (i := 6) rfl) dX8_pass_27 dX8_pass_30 dX8_pass_31 dX8_pass_34 dX8_pass_37 ⟨Nat.le_of_ble_eq_true rfl, Nat.le_of_ble_eq_true rfl⟩ ⟨⟨Nat.le_of_ble_eq_true rfl, Nat.le_of_ble_eq_true rfl⟩, Nat.le_of_ble_eq_true rfl, Nat.le_of_ble_eq_true rfl⟩
set_option maxHeartbeats 4000000 in
set_option maxRecDepth 100000 in
theorem x2_pass (l : Launch) (X : Cx) (w : Wo) (y : Nat) (su : Int) (σ : Int → Int) (k fr to : Int) (hst : l.stackTraces = false) (hY : clO X w y su) (hL : loomAt X w (y + 1) σ) (hk : 0 ≤ k ∧ k < 7) (h1 : (0 ≤ fr ∧ fr < σ 0) ∧ (0 ≤ to ∧ to < σ 0)) (h2 : to < fr) : CX l X yX8_pass cX8_pass 4 (some (.int)) (rmx 7 104) [.ref y, .int (iI k), .int (iI fr), .int (iI to)] w "java/lang/IllegalArgumentException" (fun w' => w' = w) := by
  refine CX.of (lv := [(0, .ref y), (1, .int (iI k)), (2, .int (iI fr)), (3, .int (iI to))]) (by decide) (Nat.le_of_ble_eq_true rfl) rfl (fun p e s m below meth c ls F hnt hlk hin hW hS hl => ?_)
  have hZ0 := hW.2.2
  have hB9 := hW.1.2
  clear hin
  unfold clO at hY
  have hO := hL.1.o
  have hA := hL.1
  have hwf := hL.2.2
  have hF := hwf.1
  unfold WF0 at hF
  refine lv_aload_n F.1 F.2.1 dX8_pass_0 rfl (lv_at hl 0 rfl) ?_
  refine lv_iload_n F.1 F.2.1 dX8_pass_1 rfl (lv_at hl 1 rfl) ?_
  refine cl_RX8_245 (As := [.int (iI k)]) (rest := []) F hl (c_X8_checkColour l X w y su σ k hY hL (by omega)) hW hS hY rfl rfl ⟨Nat.le_of_ble_eq_true rfl, Nat.le_of_ble_eq_true rfl⟩ (Nat.le_of_ble_eq_true rfl) ⟨Nat.zero_le _, Nat.zero_le _⟩ dX8_pass_2 (fun w1 H locs hp1 hW hS => ?_)
  rw [hp1] at hW; clear hp1; clear w1
  refine lv_aload_n F.1 F.2.1 dX8_pass_5 rfl (lv_at hl 0 rfl) ?_
  refine gf_RX8_10 F hW hY rfl dX8_pass_6 ?_
  refine lv_iload_n F.1 F.2.1 dX8_pass_9 rfl (lv_at hl 2 rfl) ?_
  refine cl_RX8_342 (As := [.int (iI fr)]) (rest := []) F hl (c_X5_hasColumn l X w (y + 1) σ fr hA hwf (by omega)) hW hS hO rfl rfl ⟨Nat.le_of_ble_eq_true rfl, Nat.le_of_ble_eq_true rfl⟩ (Nat.le_of_ble_eq_true rfl) ⟨Nat.zero_le _, Nat.zero_le _⟩ dX8_pass_10 (fun w1 H locs hp2 hW hS => ?_)
  rw [hp2] at hW; clear hp2; clear w1
  refine h_ifeqb (tgt := 27) F dX8_pass_13 (by decide) (fun c3 => ?_) (fun c3 => ?_)
  · have c3d := of_decide_eq_false c3
    exfalso; omega
  · have c3d := of_decide_eq_true c3
    refine lv_aload_n F.1 F.2.1 dX8_pass_16 rfl (lv_at hl 0 rfl) ?_
    refine gf_RX8_10 F hW hY rfl dX8_pass_17 ?_
    refine lv_iload_n F.1 F.2.1 dX8_pass_20 rfl (lv_at hl 3 rfl) ?_
    refine cl_RX8_342 (As := [.int (iI to)]) (rest := []) F hl (c_X5_hasColumn l X w (y + 1) σ to hA hwf (by omega)) hW hS hO rfl rfl ⟨Nat.le_of_ble_eq_true rfl, Nat.le_of_ble_eq_true rfl⟩ (Nat.le_of_ble_eq_true rfl) ⟨Nat.zero_le _, Nat.zero_le _⟩ dX8_pass_21 (fun w1 H locs hp4 hW hS => ?_)
    rw [hp4] at hW; clear hp4; clear w1
    refine h_ifneb (tgt := 38) F dX8_pass_24 (by decide) (fun c5 => ?_) (fun c5 => ?_)
    · have c5d := of_decide_eq_true c5
      refine lv_iload_n F.1 F.2.1 dX8_pass_38 rfl (lv_at hl 3 rfl) ?_
      refine lv_iload_n F.1 F.2.1 dX8_pass_39 rfl (lv_at hl 2 rfl) ?_
      refine h_icge (tgt := 54) F dX8_pass_40 (by decide) (by omega) (fun c6 => ?_) (fun c6 => ?_)
      · exfalso; omega
      · exact h_throwW (ik := 96) (ic := 100) (is := 347) F hst hnt hlk hl hW hZ0 hS rfl xw_A (List.mem_of_getElem? (i := 7) rfl) dX8_pass_43 dX8_pass_46 dX8_pass_47 dX8_pass_50 dX8_pass_53 ⟨Nat.le_of_ble_eq_true rfl, Nat.le_of_ble_eq_true rfl⟩ ⟨⟨Nat.le_of_ble_eq_true rfl, Nat.le_of_ble_eq_true rfl⟩, Nat.le_of_ble_eq_true rfl, Nat.le_of_ble_eq_true rfl⟩
    · have c5d := of_decide_eq_false c5
      exfalso; omega
set_option maxHeartbeats 4000000 in
set_option maxRecDepth 100000 in
theorem x_X8_weave (l : Launch) (X : Cx) (w : Wo) (y : Nat) (su : Int) (σ : Int → Int) (k : Int) (b : Bool) (hst : l.stackTraces = false) (hY : clO X w y su) (hL : loomAt X w (y + 1) σ) (rk : -2147483648 ≤ k ∧ k < 2147483648) (hb : ¬ (1 ≤ k ∧ k ≤ 30)) : CX l X yX8_weave cX8_weave 3 (some (.int)) (rmx 7 104) [.ref y, .int (iI k), .int (iI (bz b))] w "java/lang/IllegalArgumentException" (fun w' => w' = w) := by
  refine CX.of (lv := [(0, .ref y), (1, .int (iI k)), (2, .int (iI (bz b)))]) (by decide) (Nat.le_of_ble_eq_true rfl) rfl (fun p e s m below meth c ls F hnt hlk hin hW hS hl => ?_)
  have hZ0 := hW.2.2
  have hB9 := hW.1.2
  clear hin
  unfold clO at hY
  have hO := hL.1.o
  have hA := hL.1
  have hwf := hL.2.2
  have hF := hwf.1
  unfold WF0 at hF
  refine lv_iload_n F.1 F.2.1 dX8_weave_0 rfl (lv_at hl 1 rfl) ?_
  refine h_iconst F dX8_weave_1 ?_
  refine h_iclt (tgt := 11) F dX8_weave_2 (by decide) (by omega) (fun c1 => ?_) (fun c1 => ?_)
  · exact h_throwW (ik := 96) (ic := 100) (is := 313) F hst hnt hlk hl hW hZ0 hS rfl xw_A (List.mem_of_getElem? (i := 4) rfl) dX8_weave_11 dX8_weave_14 dX8_weave_15 dX8_weave_18 dX8_weave_21 ⟨Nat.le_of_ble_eq_true rfl, Nat.le_of_ble_eq_true rfl⟩ ⟨⟨Nat.le_of_ble_eq_true rfl, Nat.le_of_ble_eq_true rfl⟩, Nat.le_of_ble_eq_true rfl, Nat.le_of_ble_eq_true rfl⟩
  · refine lv_iload_n F.1 F.2.1 dX8_weave_5 rfl (lv_at hl 1 rfl) ?_
    refine h_bipush F dX8_weave_6 rfl ?_
    refine h_icle (tgt := 22) F dX8_weave_8 (by decide) (by omega) (fun c2 => ?_) (fun c2 => ?_)
    · exfalso; omega
    · exact h_throwW (ik := 96) (ic := 100) (is := 313) F hst hnt hlk hl hW hZ0 hS rfl xw_A (List.mem_of_getElem? (i := 4) rfl) dX8_weave_11 dX8_weave_14 dX8_weave_15 dX8_weave_18 dX8_weave_21 ⟨Nat.le_of_ble_eq_true rfl, Nat.le_of_ble_eq_true rfl⟩ ⟨⟨Nat.le_of_ble_eq_true rfl, Nat.le_of_ble_eq_true rfl⟩, Nat.le_of_ble_eq_true rfl, Nat.le_of_ble_eq_true rfl⟩
set_option maxHeartbeats 4000000 in
set_option maxRecDepth 100000 in
theorem x_X8_unpick (l : Launch) (X : Cx) (w : Wo) (y : Nat) (su : Int) (σ : Int → Int) (k : Int) (hst : l.stackTraces = false) (hY : clO X w y su) (hL : loomAt X w (y + 1) σ) (rk : -2147483648 ≤ k ∧ k < 2147483648) (hb : ¬ (0 ≤ k ∧ k ≤ 30)) : CX l X yX8_unpick cX8_unpick 2 (some (.int)) (rmx 7 104) [.ref y, .int (iI k)] w "java/lang/IllegalArgumentException" (fun w' => w' = w) := by
  refine CX.of (lv := [(0, .ref y), (1, .int (iI k))]) (by decide) (Nat.le_of_ble_eq_true rfl) rfl (fun p e s m below meth c ls F hnt hlk hin hW hS hl => ?_)
  have hZ0 := hW.2.2
  have hB9 := hW.1.2
  clear hin
  unfold clO at hY
  have hO := hL.1.o
  have hA := hL.1
  have hwf := hL.2.2
  have hF := hwf.1
  unfold WF0 at hF
  refine lv_iload_n F.1 F.2.1 dX8_unpick_0 rfl (lv_at hl 1 rfl) ?_
  refine h_iflt (tgt := 10) F dX8_unpick_1 (by decide) (by omega) (fun c1 => ?_) (fun c1 => ?_)
  · exact h_throwW (ik := 96) (ic := 100) (is := 313) F hst hnt hlk hl hW hZ0 hS rfl xw_A (List.mem_of_getElem? (i := 4) rfl) dX8_unpick_10 dX8_unpick_13 dX8_unpick_14 dX8_unpick_17 dX8_unpick_20 ⟨Nat.le_of_ble_eq_true rfl, Nat.le_of_ble_eq_true rfl⟩ ⟨⟨Nat.le_of_ble_eq_true rfl, Nat.le_of_ble_eq_true rfl⟩, Nat.le_of_ble_eq_true rfl, Nat.le_of_ble_eq_true rfl⟩
  · refine lv_iload_n F.1 F.2.1 dX8_unpick_4 rfl (lv_at hl 1 rfl) ?_
    refine h_bipush F dX8_unpick_5 rfl ?_
    refine h_icle (tgt := 21) F dX8_unpick_7 (by decide) (by omega) (fun c2 => ?_) (fun c2 => ?_)
    · exfalso; omega
    · exact h_throwW (ik := 96) (ic := 100) (is := 313) F hst hnt hlk hl hW hZ0 hS rfl xw_A (List.mem_of_getElem? (i := 4) rfl) dX8_unpick_10 dX8_unpick_13 dX8_unpick_14 dX8_unpick_17 dX8_unpick_20 ⟨Nat.le_of_ble_eq_true rfl, Nat.le_of_ble_eq_true rfl⟩ ⟨⟨Nat.le_of_ble_eq_true rfl, Nat.le_of_ble_eq_true rfl⟩, Nat.le_of_ble_eq_true rfl, Nat.le_of_ble_eq_true rfl⟩
set_option maxHeartbeats 4000000 in
set_option maxRecDepth 100000 in
theorem x2_setStock (l : Launch) (X : Cx) (w : Wo) (y : Nat) (su : Int) (σ : Int → Int) (k st : Int) (hst : l.stackTraces = false) (hY : clO X w y su) (hL : loomAt X w (y + 1) σ) (hk : 0 ≤ k ∧ k < 7) (rst : -2147483648 ≤ st ∧ st < 2147483648) (hb : ¬ (0 ≤ st ∧ st ≤ 9999)) : CX l X yX8_setStock cX8_setStock 4 (some (.int)) (rmx 7 104) [.ref y, .int (iI k), .int (iI st)] w "java/lang/IllegalArgumentException" (fun w' => w' = w) := by
  refine CX.of (lv := [(0, .ref y), (1, .int (iI k)), (2, .int (iI st))]) (by decide) (Nat.le_of_ble_eq_true rfl) rfl (fun p e s m below meth c ls F hnt hlk hin hW hS hl => ?_)
  have hZ0 := hW.2.2
  have hB9 := hW.1.2
  clear hin
  unfold clO at hY
  have hO := hL.1.o
  have hA := hL.1
  have hwf := hL.2.2
  have hF := hwf.1
  unfold WF0 at hF
  refine lv_aload_n F.1 F.2.1 dX8_setStock_0 rfl (lv_at hl 0 rfl) ?_
  refine lv_iload_n F.1 F.2.1 dX8_setStock_1 rfl (lv_at hl 1 rfl) ?_
  refine cl_RX8_245 (As := [.int (iI k)]) (rest := []) F hl (c_X8_checkColour l X w y su σ k hY hL (by omega)) hW hS hY rfl rfl ⟨Nat.le_of_ble_eq_true rfl, Nat.le_of_ble_eq_true rfl⟩ (Nat.le_of_ble_eq_true rfl) ⟨Nat.zero_le _, Nat.zero_le _⟩ dX8_setStock_2 (fun w1 H locs hp1 hW hS => ?_)
  rw [hp1] at hW; clear hp1; clear w1
  refine lv_iload_n F.1 F.2.1 dX8_setStock_5 rfl (lv_at hl 2 rfl) ?_
  refine h_iflt (tgt := 16) F dX8_setStock_6 (by decide) (by omega) (fun c2 => ?_) (fun c2 => ?_)
  · exact h_throwW (ik := 96) (ic := 100) (is := 392) F hst hnt hlk hl hW hZ0 hS rfl xw_A (List.mem_of_getElem? (i := 9) rfl) dX8_setStock_16 dX8_setStock_19 dX8_setStock_20 dX8_setStock_23 dX8_setStock_26 ⟨Nat.le_of_ble_eq_true rfl, Nat.le_of_ble_eq_true rfl⟩ ⟨⟨Nat.le_of_ble_eq_true rfl, Nat.le_of_ble_eq_true rfl⟩, Nat.le_of_ble_eq_true rfl, Nat.le_of_ble_eq_true rfl⟩
  · refine lv_iload_n F.1 F.2.1 dX8_setStock_9 rfl (lv_at hl 2 rfl) ?_
    refine h_sipush F dX8_setStock_10 rfl ?_
    refine h_icle (tgt := 27) F dX8_setStock_13 (by decide) (by omega) (fun c3 => ?_) (fun c3 => ?_)
    · exfalso; omega
    · exact h_throwW (ik := 96) (ic := 100) (is := 392) F hst hnt hlk hl hW hZ0 hS rfl xw_A (List.mem_of_getElem? (i := 9) rfl) dX8_setStock_16 dX8_setStock_19 dX8_setStock_20 dX8_setStock_23 dX8_setStock_26 ⟨Nat.le_of_ble_eq_true rfl, Nat.le_of_ble_eq_true rfl⟩ ⟨⟨Nat.le_of_ble_eq_true rfl, Nat.le_of_ble_eq_true rfl⟩, Nat.le_of_ble_eq_true rfl, Nat.le_of_ble_eq_true rfl⟩
set_option maxHeartbeats 4000000 in
set_option maxRecDepth 100000 in
theorem x_X8_setDelay (l : Launch) (X : Cx) (w : Wo) (y : Nat) (su : Int) (σ : Int → Int) (k : Int) (hst : l.stackTraces = false) (hY : clO X w y su) (hL : loomAt X w (y + 1) σ) (rk : -2147483648 ≤ k ∧ k < 2147483648) (hb : ¬ (0 ≤ k ∧ k ≤ 30)) : CX l X yX8_setDelay cX8_setDelay 3 (some (.int)) (rmx 7 104) [.ref y, .int (iI k)] w "java/lang/IllegalArgumentException" (fun w' => w' = w) := by
  refine CX.of (lv := [(0, .ref y), (1, .int (iI k))]) (by decide) (Nat.le_of_ble_eq_true rfl) rfl (fun p e s m below meth c ls F hnt hlk hin hW hS hl => ?_)
  have hZ0 := hW.2.2
  have hB9 := hW.1.2
  clear hin
  unfold clO at hY
  have hO := hL.1.o
  have hA := hL.1
  have hwf := hL.2.2
  have hF := hwf.1
  unfold WF0 at hF
  refine lv_iload_n F.1 F.2.1 dX8_setDelay_0 rfl (lv_at hl 1 rfl) ?_
  refine h_iflt (tgt := 10) F dX8_setDelay_1 (by decide) (by omega) (fun c1 => ?_) (fun c1 => ?_)
  · exact h_throwW (ik := 96) (ic := 100) (is := 401) F hst hnt hlk hl hW hZ0 hS rfl xw_A (List.mem_of_getElem? (i := 10) rfl) dX8_setDelay_10 dX8_setDelay_13 dX8_setDelay_14 dX8_setDelay_17 dX8_setDelay_20 ⟨Nat.le_of_ble_eq_true rfl, Nat.le_of_ble_eq_true rfl⟩ ⟨⟨Nat.le_of_ble_eq_true rfl, Nat.le_of_ble_eq_true rfl⟩, Nat.le_of_ble_eq_true rfl, Nat.le_of_ble_eq_true rfl⟩
  · refine lv_iload_n F.1 F.2.1 dX8_setDelay_4 rfl (lv_at hl 1 rfl) ?_
    refine h_bipush F dX8_setDelay_5 rfl ?_
    refine h_icle (tgt := 21) F dX8_setDelay_7 (by decide) (by omega) (fun c2 => ?_) (fun c2 => ?_)
    · exfalso; omega
    · exact h_throwW (ik := 96) (ic := 100) (is := 401) F hst hnt hlk hl hW hZ0 hS rfl xw_A (List.mem_of_getElem? (i := 10) rfl) dX8_setDelay_10 dX8_setDelay_13 dX8_setDelay_14 dX8_setDelay_17 dX8_setDelay_20 ⟨Nat.le_of_ble_eq_true rfl, Nat.le_of_ble_eq_true rfl⟩ ⟨⟨Nat.le_of_ble_eq_true rfl, Nat.le_of_ble_eq_true rfl⟩, Nat.le_of_ble_eq_true rfl, Nat.le_of_ble_eq_true rfl⟩
set_option maxHeartbeats 4000000 in
set_option maxRecDepth 100000 in
theorem x_X8_append (l : Launch) (X : Cx) (w : Wo) (y : Nat) (su : Int) (σ : Int → Int) (N : Int) (fb : Int → Int) (p1 p2 p3 p4 p5 : Int) (hst : l.stackTraces = false) (hY : clO X w y su) (hL : loomAt X w (y + 1) σ) (hB : w (y + 307) = some (.inr (0, [.ref (y + 308), .int (iI N)]))) (hT : w (y + 308) = some (aZ X 400 fb)) (hN : 380 < N ∧ N ≤ 400) : CX l X yX8_append cX8_append 6 (some (.int)) (rmx 7 104) [.ref y, .int (iI p1), .int (iI p2), .int (iI p3), .int (iI p4), .int (iI p5)] w "java/lang/IllegalStateException" (fun w' => w' = w) := by
  refine CX.of (lv := [(0, .ref y), (1, .int (iI p1)), (2, .int (iI p2)), (3, .int (iI p3)), (4, .int (iI p4)), (5, .int (iI p5))]) (by decide) (Nat.le_of_ble_eq_true rfl) rfl (fun p e s m below meth c ls F hnt hlk hin hW hS hl => ?_)
  have hZ0 := hW.2.2
  have hB9 := hW.1.2
  clear hin
  unfold clO at hY
  have hO := hL.1.o
  have hA := hL.1
  have hwf := hL.2.2
  have hF := hwf.1
  unfold WF0 at hF
  refine lv_aload_n F.1 F.2.1 dX8_append_0 rfl (lv_at hl 0 rfl) ?_
  refine gf_RX8_49 F hW hY rfl dX8_append_1 ?_
  refine cl_RX8_81 (As := []) (rest := []) F hl (c_X0_size l X w (y + 307) (y + 308) N fb hB hT) hW hS hB rfl rfl ⟨Nat.le_of_ble_eq_true rfl, Nat.le_of_ble_eq_true rfl⟩ (Nat.le_of_ble_eq_true rfl) ⟨Nat.zero_le _, Nat.zero_le _⟩ dX8_append_4 (fun w1 H locs hp1 hW hS => ?_)
  rw [hp1] at hW; clear hp1; clear w1
  refine h_sipush F dX8_append_7 rfl ?_
  refine h_icle (tgt := 23) F dX8_append_10 (by decide) (by omega) (fun c2 => ?_) (fun c2 => ?_)
  · exfalso; omega
  · exact h_throw (ik := 85) (ic := 89) (is := 87) F hst hnt hlk hl hW hZ0 hS rfl xw_S (List.mem_of_getElem? (i := 0) rfl) dX8_append_13 dX8_append_16 dX8_append_17 dX8_append_19 dX8_append_22 ⟨Nat.le_of_ble_eq_true rfl, Nat.le_of_ble_eq_true rfl⟩ ⟨⟨Nat.le_of_ble_eq_true rfl, Nat.le_of_ble_eq_true rfl⟩, Nat.le_of_ble_eq_true rfl, Nat.le_of_ble_eq_true rfl⟩
set_option maxHeartbeats 4000000 in
set_option maxRecDepth 100000 in
theorem x_X8_truncate (l : Launch) (X : Cx) (w : Wo) (y : Nat) (su : Int) (σ : Int → Int) (N : Int) (fb : Int → Int) (k : Int) (hst : l.stackTraces = false) (hY : clO X w y su) (hL : loomAt X w (y + 1) σ) (hB : w (y + 307) = some (.inr (0, [.ref (y + 308), .int (iI N)]))) (hT : w (y + 308) = some (aZ X 400 fb)) (hN : 0 ≤ N ∧ N ≤ 400) (rk : -2147483648 ≤ k ∧ k < 2147483648) (hb : ¬ (0 ≤ k ∧ k ≤ N)) : CX l X yX8_truncate cX8_truncate 2 (some (.int)) (rmx 7 104) [.ref y, .int (iI k)] w "java/lang/IllegalArgumentException" (fun w' => w' = w) := by
  refine CX.of (lv := [(0, .ref y), (1, .int (iI k))]) (by decide) (Nat.le_of_ble_eq_true rfl) rfl (fun p e s m below meth c ls F hnt hlk hin hW hS hl => ?_)
  have hZ0 := hW.2.2
  have hB9 := hW.1.2
  clear hin
  unfold clO at hY
  have hO := hL.1.o
  have hA := hL.1
  have hwf := hL.2.2
  have hF := hwf.1
  unfold WF0 at hF
  refine lv_iload_n F.1 F.2.1 dX8_truncate_0 rfl (lv_at hl 1 rfl) ?_
  refine h_iflt (tgt := 15) F dX8_truncate_1 (by decide) (by omega) (fun c1 => ?_) (fun c1 => ?_)
  · exact h_throw (ik := 96) (ic := 100) (is := 98) F hst hnt hlk hl hW hZ0 hS rfl xw_A (List.mem_of_getElem? (i := 1) rfl) dX8_truncate_15 dX8_truncate_18 dX8_truncate_19 dX8_truncate_21 dX8_truncate_24 ⟨Nat.le_of_ble_eq_true rfl, Nat.le_of_ble_eq_true rfl⟩ ⟨⟨Nat.le_of_ble_eq_true rfl, Nat.le_of_ble_eq_true rfl⟩, Nat.le_of_ble_eq_true rfl, Nat.le_of_ble_eq_true rfl⟩
  · refine lv_iload_n F.1 F.2.1 dX8_truncate_4 rfl (lv_at hl 1 rfl) ?_
    refine lv_aload_n F.1 F.2.1 dX8_truncate_5 rfl (lv_at hl 0 rfl) ?_
    refine gf_RX8_49 F hW hY rfl dX8_truncate_6 ?_
    refine cl_RX8_81 (As := []) (rest := [.int (iI k)]) F hl (c_X0_size l X w (y + 307) (y + 308) N fb hB hT) hW hS hB rfl rfl ⟨Nat.le_of_ble_eq_true rfl, Nat.le_of_ble_eq_true rfl⟩ (Nat.le_of_ble_eq_true rfl) ⟨Nat.zero_le _, Nat.zero_le _⟩ dX8_truncate_9 (fun w1 H locs hp2 hW hS => ?_)
    rw [hp2] at hW; clear hp2; clear w1
    refine h_icle (tgt := 25) F dX8_truncate_12 (by decide) (by omega) (fun c3 => ?_) (fun c3 => ?_)
    · exfalso; omega
    · exact h_throw (ik := 96) (ic := 100) (is := 98) F hst hnt hlk hl hW hZ0 hS rfl xw_A (List.mem_of_getElem? (i := 1) rfl) dX8_truncate_15 dX8_truncate_18 dX8_truncate_19 dX8_truncate_21 dX8_truncate_24 ⟨Nat.le_of_ble_eq_true rfl, Nat.le_of_ble_eq_true rfl⟩ ⟨⟨Nat.le_of_ble_eq_true rfl, Nat.le_of_ble_eq_true rfl⟩, Nat.le_of_ble_eq_true rfl, Nat.le_of_ble_eq_true rfl⟩
set_option maxHeartbeats 4000000 in
set_option maxRecDepth 100000 in
theorem x2_restore (l : Launch) (X : Cx) (w : Wo) (y : Nat) (su : Int) (σ : Int → Int) (k : Int) (hst : l.stackTraces = false) (hY : clO X w y su) (hL : loomAt X w (y + 1) σ) (hsu : 0 ≤ su ∧ su < 4) (hk : 0 ≤ k ∧ k ≤ 1) (hb1 : slbS su k = 0) : CX l X yX8_restore cX8_restore 2 none (rmx 7 104) [.ref y, .int (iI k)] w "java/lang/IllegalStateException" (fun w' => w' = w) := by
  refine CX.of (lv := [(0, .ref y), (1, .int (iI k))]) (by decide) (Nat.le_of_ble_eq_true rfl) rfl (fun p e s m below meth c ls F hnt hlk hin hW hS hl => ?_)
  have hZ0 := hW.2.2
  have hB9 := hW.1.2
  clear hin
  unfold clO at hY
  have hO := hL.1.o
  have hA := hL.1
  have hwf := hL.2.2
  have hF := hwf.1
  unfold WF0 at hF
  have hsr : 0 ≤ slbS su k ∧ slbS su k ≤ 2 := by unfold slbS; split <;> omega
  refine lv_aload_n F.1 F.2.1 dX8_restore_0 rfl (lv_at hl 0 rfl) ?_
  refine lv_iload_n F.1 F.2.1 dX8_restore_1 rfl (lv_at hl 1 rfl) ?_
  refine cl_RX8_426 (As := [.int (iI k)]) (rest := []) F hl (c_X8_checkSlot l X w y su σ k hY hL (by omega)) hW hS hY rfl rfl ⟨Nat.le_of_ble_eq_true rfl, Nat.le_of_ble_eq_true rfl⟩ (Nat.le_of_ble_eq_true rfl) ⟨Nat.zero_le _, Nat.zero_le _⟩ dX8_restore_2 (fun w1 H locs hp1 hW hS => ?_)
  rw [hp1] at hW; clear hp1; clear w1
  refine lv_aload_n F.1 F.2.1 dX8_restore_5 rfl (lv_at hl 0 rfl) ?_
  refine gf_RX8_433 F hW hY rfl dX8_restore_6 ?_
  refine h_iconst F dX8_restore_9 ?_
  refine lv_iload_n F.1 F.2.1 dX8_restore_10 rfl (lv_at hl 1 rfl) ?_
  refine h_ishl (z := iI (shl1 k)) F dX8_restore_11 (shl1_eq (by omega)) ?_
  refine h_iand (z := iI (slbS su k)) F dX8_restore_12 (by rw [← shl1_eq (by omega)]; exact slbS_eq hsu (by omega)) ?_
  refine h_ifne (tgt := 27) F dX8_restore_13 (by decide) (by omega) (fun c2 => ?_) (fun c2 => ?_)
  · exfalso; omega
  · exact h_throwW (ik := 85) (ic := 89) (is := 436) F hst hnt hlk hl hW hZ0 hS rfl xw_S (List.mem_of_getElem? (i := 11) rfl) dX8_restore_16 dX8_restore_19 dX8_restore_20 dX8_restore_23 dX8_restore_26 ⟨Nat.le_of_ble_eq_true rfl, Nat.le_of_ble_eq_true rfl⟩ ⟨⟨Nat.le_of_ble_eq_true rfl, Nat.le_of_ble_eq_true rfl⟩, Nat.le_of_ble_eq_true rfl, Nat.le_of_ble_eq_true rfl⟩
set_option maxHeartbeats 4000000 in
set_option maxRecDepth 100000 in
theorem x1_add (l : Launch) (X : Cx) (w : Wo) (y : Nat) (su : Int) (σ : Int → Int) (n0 sd0 x0 y0 co0 : Int) (f0 : Int → Int) (N : Int) (fb : Int → Int) (sd xx yy co : Int) (hst : l.stackTraces = false) (hY : clO X w y su) (hL : loomAt X w (y + 1) σ) (hv : capV X w (y + 51) n0 sd0 x0 y0 co0 f0) (hB : w (y + 307) = some (.inr (0, [.ref (y + 308), .int (iI N)]))) (hT : w (y + 308) = some (aZ X 400 fb)) (hN : 0 ≤ N ∧ N ≤ 400) (hfb : ∀ i, 0 ≤ i → i < N → 0 ≤ fb i ∧ fb i ≤ 255) (hw1 : (decide (1 ≤ N ∧ N ≤ 8) && al (fun i => decide (97 ≤ fb i ∧ fb i ≤ 122)) 0 N) = false) : CX l X yX8_add cX8_add 7 (some (.int)) (rmx 7 104) [.ref y, .int (iI sd), .int (iI xx), .int (iI yy), .int (iI co)] w "java/lang/IllegalArgumentException" (fun w' => w' (y + 307) = some (.inr (0, [.ref (y + 308), .int (iI 0)])) ∧ ∀ q : Nat, q ≠ y + 307 → w' q = w q) := by
  refine CX.of (lv := [(0, .ref y), (1, .int (iI sd)), (2, .int (iI xx)), (3, .int (iI yy)), (4, .int (iI co))]) (by decide) (Nat.le_of_ble_eq_true rfl) rfl (fun p e s m below meth c ls F hnt hlk hin hW hS hl => ?_)
  have hZ0 := hW.2.2
  have hB9 := hW.1.2
  clear hin
  unfold clO at hY
  have hO := hL.1.o
  have hA := hL.1
  have hwf := hL.2.2
  have hF := hwf.1
  unfold WF0 at hF
  have hbx := hv.1
  have hba := hv.2
  refine lv_aload_n F.1 F.2.1 dX8_add_0 rfl (lv_at hl 0 rfl) ?_
  refine cl_RX8_365 (As := []) (rest := []) F hl (c_X8_isWordOfText l X w y su N fb hY hB hT (by omega) hfb) hW hS hY rfl rfl ⟨Nat.le_of_ble_eq_true rfl, Nat.le_of_ble_eq_true rfl⟩ (Nat.le_of_ble_eq_true rfl) ⟨Nat.zero_le _, Nat.zero_le _⟩ dX8_add_1 (fun w1 H locs hp1 hW hS => ?_)
  rw [hp1] at hW; clear hp1; clear w1
  refine h_top (show (bz (decide (1 ≤ N ∧ N ≤ 8) && al (fun i => decide (97 ≤ fb i ∧ fb i ≤ 122)) 0 N) : Int) = bz false from congrArg bz hw1) ?_
  refine lv_istore (lv' := [(5, .int (iI (bz false))), (0, .ref y), (1, .int (iI sd)), (2, .int (iI xx)), (3, .int (iI yy)), (4, .int (iI co))]) F.1 F.2.1 dX8_add_4 hl (by decide) rfl (fun ls hl => ?_)
  refine lv_iload F.1 F.2.1 dX8_add_6 (lv_at hl 0 rfl) ?_
  refine h_top (show (bz false : Int) = 0 from rfl) ?_
  refine h_ifeq (tgt := 30) F dX8_add_8 (by decide) (by decide) (fun _ => ?_) (fun c9 => absurd c9 (by decide))
  refine lv_aload_n F.1 F.2.1 dX8_add_30 rfl (lv_at hl 1 rfl) ?_
  refine gf_RX8_49 F hW hY rfl dX8_add_31 ?_
  refine h_iconst F dX8_add_34 ?_
  refine cl_RX8_101 (As := [.int (iI 0)]) (rest := []) F hl (c_X0_cutTo l X w (y + 307) (y + 308) N fb 0 hB hT (by omega)) hW hS hB rfl rfl ⟨Nat.le_of_ble_eq_true rfl, Nat.le_of_ble_eq_true rfl⟩ (Nat.le_of_ble_eq_true rfl) ⟨Nat.zero_le _, Nat.zero_le _⟩ dX8_add_35 (fun w3 H locs hp4 hW hS => ?_)
  obtain ⟨ho5, hn6⟩ := hp4
  have hY := (hn6 _ (by omega)).trans hY
  have hO := (hn6 _ (by omega)).trans hO
  have hbx := (hn6 _ (by omega)).trans hbx
  have hT := (hn6 _ (by omega)).trans hT
  have hba := (hn6 _ (by omega)).trans hba
  refine lv_iload F.1 F.2.1 dX8_add_38 (lv_at hl 0 rfl) ?_
  refine h_top (show (bz false : Int) = 0 from rfl) ?_
  refine h_ifeq (tgt := 62) F dX8_add_40 (by decide) (by decide) (fun _ => ?_) (fun c9 => absurd c9 (by decide))
  exact h_throwW (ik := 96) (ic := 100) (is := 372) F hst hnt hlk hl hW hZ0 hS ⟨ho5, (fun q h09 => by rw [hn6 q (by omega)])⟩ xw_A (List.mem_of_getElem? (i := 8) rfl) dX8_add_62 dX8_add_65 dX8_add_66 dX8_add_69 dX8_add_72 ⟨Nat.le_of_ble_eq_true rfl, Nat.le_of_ble_eq_true rfl⟩ ⟨⟨Nat.le_of_ble_eq_true rfl, Nat.le_of_ble_eq_true rfl⟩, Nat.le_of_ble_eq_true rfl, Nat.le_of_ble_eq_true rfl⟩
set_option maxHeartbeats 4000000 in
set_option maxRecDepth 100000 in
theorem x2_add (l : Launch) (X : Cx) (w : Wo) (y : Nat) (su : Int) (σ : Int → Int) (n0 sd0 x0 y0 co0 : Int) (f0 : Int → Int) (N : Int) (fb : Int → Int) (sd xx yy co : Int) (hst : l.stackTraces = false) (hY : clO X w y su) (hL : loomAt X w (y + 1) σ) (hv : capV X w (y + 51) n0 sd0 x0 y0 co0 f0) (hB : w (y + 307) = some (.inr (0, [.ref (y + 308), .int (iI N)]))) (hT : w (y + 308) = some (aZ X 400 fb)) (hN : 0 ≤ N ∧ N ≤ 400) (hfb : ∀ i, 0 ≤ i → i < N → 0 ≤ fb i ∧ fb i ≤ 255) (hw1 : (decide (1 ≤ N ∧ N ≤ 8) && al (fun i => decide (97 ≤ fb i ∧ fb i ≤ 122)) 0 N) = true) (rsd : -2147483648 ≤ sd ∧ sd < 2147483648) (rco : -2147483648 ≤ co ∧ co < 2147483648) (hb : ¬ ((sd = 0 ∨ sd = 1) ∧ 1 ≤ co ∧ co ≤ 6)) : CX l X yX8_add cX8_add 7 (some (.int)) (rmx 7 104) [.ref y, .int (iI sd), .int (iI xx), .int (iI yy), .int (iI co)] w "java/lang/IllegalArgumentException" (fun w' => w' (y + 51) = some (.inr (1, [.ref ((y + 51) + 1), .int (iI N), .int (iI sd0), .int (iI x0), .int (iI y0), .int (iI co0)])) ∧ w' (y + 307) = some (.inr (0, [.ref (y + 308), .int (iI 0)])) ∧ w' ((y + 51) + 1) = some (aZ X 8 (wdZ f0 fb N 0 N)) ∧ ∀ q : Nat, q ≠ y + 307 → q ≠ y + 51 → q ≠ y + 51 + 1 → w' q = w q) := by
  refine CX.of (lv := [(0, .ref y), (1, .int (iI sd)), (2, .int (iI xx)), (3, .int (iI yy)), (4, .int (iI co))]) (by decide) (Nat.le_of_ble_eq_true rfl) rfl (fun p e s m below meth c ls F hnt hlk hin hW hS hl => ?_)
  have hZ0 := hW.2.2
  have hB9 := hW.1.2
  clear hin
  unfold clO at hY
  have hO := hL.1.o
  have hA := hL.1
  have hwf := hL.2.2
  have hF := hwf.1
  unfold WF0 at hF
  have hbx := hv.1
  have hba := hv.2
  have hw2 := hw1
  rw [Bool.and_eq_true] at hw2
  have hw3 := of_decide_eq_true hw2.1
  refine lv_aload_n F.1 F.2.1 dX8_add_0 rfl (lv_at hl 0 rfl) ?_
  refine cl_RX8_365 (As := []) (rest := []) F hl (c_X8_isWordOfText l X w y su N fb hY hB hT (by omega) hfb) hW hS hY rfl rfl ⟨Nat.le_of_ble_eq_true rfl, Nat.le_of_ble_eq_true rfl⟩ (Nat.le_of_ble_eq_true rfl) ⟨Nat.zero_le _, Nat.zero_le _⟩ dX8_add_1 (fun w1 H locs hp1 hW hS => ?_)
  rw [hp1] at hW; clear hp1; clear w1
  refine h_top (show (bz (decide (1 ≤ N ∧ N ≤ 8) && al (fun i => decide (97 ≤ fb i ∧ fb i ≤ 122)) 0 N) : Int) = bz true from congrArg bz hw1) ?_
  refine lv_istore (lv' := [(5, .int (iI (bz true))), (0, .ref y), (1, .int (iI sd)), (2, .int (iI xx)), (3, .int (iI yy)), (4, .int (iI co))]) F.1 F.2.1 dX8_add_4 hl (by decide) rfl (fun ls hl => ?_)
  refine lv_iload F.1 F.2.1 dX8_add_6 (lv_at hl 0 rfl) ?_
  refine h_top (show (bz true : Int) = 1 from rfl) ?_
  refine h_ifeq (tgt := 30) F dX8_add_8 (by decide) (by decide) (fun c9 => absurd c9 (by decide)) (fun _ => ?_)
  refine lv_aload_n F.1 F.2.1 dX8_add_11 rfl (lv_at hl 1 rfl) ?_
  refine gf_RX8_22 F hW hY rfl dX8_add_12 ?_
  refine lv_aload_n F.1 F.2.1 dX8_add_15 rfl (lv_at hl 1 rfl) ?_
  refine gf_RX8_49 F hW hY rfl dX8_add_16 ?_
  refine h_iconst F dX8_add_19 ?_
  refine lv_aload_n F.1 F.2.1 dX8_add_20 rfl (lv_at hl 1 rfl) ?_
  refine gf_RX8_49 F hW hY rfl dX8_add_21 ?_
  refine cl_RX8_81 (As := []) (rest := [.int (iI 0), .ref (y + 307), .ref (y + 51)]) F hl (c_X0_size l X w (y + 307) (y + 308) N fb hB hT) hW hS hB rfl rfl ⟨Nat.le_of_ble_eq_true rfl, Nat.le_of_ble_eq_true rfl⟩ (Nat.le_of_ble_eq_true rfl) ⟨Nat.zero_le _, Nat.zero_le _⟩ dX8_add_24 (fun w1 H locs hp3 hW hS => ?_)
  rw [hp3] at hW; clear hp3; clear w1
  refine cl_RX8_368 (As := [.ref (y + 307), .int (iI 0), .int (iI N)]) (rest := []) F hl (c_X1_takeWord l X w (y + 51) n0 sd0 x0 y0 co0 f0 (y + 307) (y + 308) N fb 0 N hv hB hT (by omega) (by omega)) hW hS hbx rfl rfl ⟨Nat.le_of_ble_eq_true rfl, Nat.le_of_ble_eq_true rfl⟩ (Nat.le_of_ble_eq_true rfl) ⟨Nat.zero_le _, Nat.zero_le _⟩ dX8_add_27 (fun w4 H locs hp5 hW hS => ?_)
  obtain ⟨ho6, ha7, hn8⟩ := hp5
  have hY := (hn8 _ (by omega) (by omega)).trans hY
  have hO := (hn8 _ (by omega) (by omega)).trans hO
  have hB := (hn8 _ (by omega) (by omega)).trans hB
  have hT := (hn8 _ (by omega) (by omega)).trans hT
  have e8 : min (N - 0) 8 = N := by omega
  rw [e8] at ho6 ha7
  refine lv_aload_n F.1 F.2.1 dX8_add_30 rfl (lv_at hl 1 rfl) ?_
  refine gf_RX8_49 F hW hY rfl dX8_add_31 ?_
  refine h_iconst F dX8_add_34 ?_
  refine cl_RX8_101 (As := [.int (iI 0)]) (rest := []) F hl (c_X0_cutTo l X w4 (y + 307) (y + 308) N fb 0 hB hT (by omega)) hW hS hB rfl rfl ⟨Nat.le_of_ble_eq_true rfl, Nat.le_of_ble_eq_true rfl⟩ (Nat.le_of_ble_eq_true rfl) ⟨Nat.zero_le _, Nat.zero_le _⟩ dX8_add_35 (fun w9 H locs hp10 hW hS => ?_)
  obtain ⟨ho11, hn12⟩ := hp10
  have hY := (hn12 _ (by omega)).trans hY
  have hO := (hn12 _ (by omega)).trans hO
  have ho6 := (hn12 _ (by omega)).trans ho6
  have hT := (hn12 _ (by omega)).trans hT
  have ha7 := (hn12 _ (by omega)).trans ha7
  refine lv_iload F.1 F.2.1 dX8_add_38 (lv_at hl 0 rfl) ?_
  refine h_top (show (bz true : Int) = 1 from rfl) ?_
  refine h_ifeq (tgt := 62) F dX8_add_40 (by decide) (by decide) (fun c9 => absurd c9 (by decide)) (fun _ => ?_)
  refine lv_iload_n F.1 F.2.1 dX8_add_43 rfl (lv_at hl 2 rfl) ?_
  refine cl_RX8_327 (As := [.int (iI sd)]) (rest := []) F hl (c_X8_isSide l X w9 sd (by omega)) hW hS rfl rfl ⟨Nat.le_of_ble_eq_true rfl, Nat.le_of_ble_eq_true rfl⟩ (Nat.le_of_ble_eq_true rfl) ⟨Nat.zero_le _, Nat.zero_le _⟩ dX8_add_44 (fun w1 H locs hp14 hW hS => ?_)
  rw [hp14] at hW; clear hp14; clear w1
  refine h_ifeqb (tgt := 62) F dX8_add_47 (by decide) (fun c15 => ?_) (fun c15 => ?_)
  · exact h_throwW (ik := 96) (ic := 100) (is := 372) F hst hnt hlk hl hW hZ0 hS ⟨ho6, ho11, ha7, (fun q h09 h19 h29 => by rw [hn12 q (by omega), hn8 q (by omega) (by omega)])⟩ xw_A (List.mem_of_getElem? (i := 8) rfl) dX8_add_62 dX8_add_65 dX8_add_66 dX8_add_69 dX8_add_72 ⟨Nat.le_of_ble_eq_true rfl, Nat.le_of_ble_eq_true rfl⟩ ⟨⟨Nat.le_of_ble_eq_true rfl, Nat.le_of_ble_eq_true rfl⟩, Nat.le_of_ble_eq_true rfl, Nat.le_of_ble_eq_true rfl⟩
  · have hz9 := of_decide_eq_true c15
    refine lv_iload F.1 F.2.1 dX8_add_50 (lv_at hl 5 rfl) ?_
    refine h_ifle (tgt := 62) F dX8_add_52 (by decide) (by omega) (fun c16 => ?_) (fun c16 => ?_)
    · exact h_throwW (ik := 96) (ic := 100) (is := 372) F hst hnt hlk hl hW hZ0 hS ⟨ho6, ho11, ha7, (fun q h09 h19 h29 => by rw [hn12 q (by omega), hn8 q (by omega) (by omega)])⟩ xw_A (List.mem_of_getElem? (i := 8) rfl) dX8_add_62 dX8_add_65 dX8_add_66 dX8_add_69 dX8_add_72 ⟨Nat.le_of_ble_eq_true rfl, Nat.le_of_ble_eq_true rfl⟩ ⟨⟨Nat.le_of_ble_eq_true rfl, Nat.le_of_ble_eq_true rfl⟩, Nat.le_of_ble_eq_true rfl, Nat.le_of_ble_eq_true rfl⟩
    · refine lv_iload F.1 F.2.1 dX8_add_55 (lv_at hl 5 rfl) ?_
      refine h_bipush F dX8_add_57 rfl ?_
      refine h_iclt (tgt := 73) F dX8_add_59 (by decide) (by omega) (fun c17 => ?_) (fun c17 => ?_)
      · exfalso; omega
      · exact h_throwW (ik := 96) (ic := 100) (is := 372) F hst hnt hlk hl hW hZ0 hS ⟨ho6, ho11, ha7, (fun q h09 h19 h29 => by rw [hn12 q (by omega), hn8 q (by omega) (by omega)])⟩ xw_A (List.mem_of_getElem? (i := 8) rfl) dX8_add_62 dX8_add_65 dX8_add_66 dX8_add_69 dX8_add_72 ⟨Nat.le_of_ble_eq_true rfl, Nat.le_of_ble_eq_true rfl⟩ ⟨⟨Nat.le_of_ble_eq_true rfl, Nat.le_of_ble_eq_true rfl⟩, Nat.le_of_ble_eq_true rfl, Nat.le_of_ble_eq_true rfl⟩
