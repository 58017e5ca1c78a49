set_option maxHeartbeats 4000000 in
set_option maxRecDepth 100000 in
theorem c_X8_checkCaption (l : Launch) (X : Cx) (w : Wo) (y : Nat) (su : Int) (σ : Int → Int) (k : Int) (hY : clO X w y su) (hL : loomAt X w (y + 1) σ) (hk : 0 ≤ k ∧ k < σ 5) : CM l X yX8_checkCaption cX8_checkCaption 2 none (rmk 1 24) [.ref y, .int (iI k)] w none (fun w' => w' = w) := by
  refine CM.of (lv := [(0, .ref y), (1, .int (iI k))]) (by decide) (Nat.le_of_ble_eq_true rfl) rfl (fun p e s m below meth c ls F hr hlk hin hW hS hl => ?_)
  have hZ0 := hW.2.2
  have hB9 := hW.1.2
  clear hin
  unfold clO at hY
  have hO := hL.1.o
  have hA := hL.1
  have hwf := hL.2.2
  have hF := hwf.1
  unfold WF0 at hF
  refine lv_iload_n F.1 F.2.1 dX8_checkCaption_0 rfl (lv_at hl 1 rfl) ?_
  refine h_iflt (tgt := 15) F dX8_checkCaption_1 (by decide) (by omega) (fun c1 => ?_) (fun c1 => ?_)
  · exfalso; omega
  · refine lv_iload_n F.1 F.2.1 dX8_checkCaption_4 rfl (lv_at hl 1 rfl) ?_
    refine lv_aload_n F.1 F.2.1 dX8_checkCaption_5 rfl (lv_at hl 0 rfl) ?_
    refine gf_RX8_10 F hW hY rfl dX8_checkCaption_6 ?_
    refine gf_RX8_118 F hW hO rfl dX8_checkCaption_9 ?_
    refine h_iclt (tgt := 26) F dX8_checkCaption_12 (by decide) (by omega) (fun c2 => ?_) (fun c2 => ?_)
    · exact h_vret F hr hlk hW hS rfl dX8_checkCaption_26
    · exfalso; omega
set_option maxHeartbeats 4000000 in
set_option maxRecDepth 100000 in
theorem c_X8_checkRow (l : Launch) (X : Cx) (w : Wo) (y : Nat) (su : Int) (σ : Int → Int) (r : Int) (hY : clO X w y su) (hL : loomAt X w (y + 1) σ) (hk : 0 ≤ r ∧ r < σ 1) : CM l X yX8_checkRow cX8_checkRow 2 none (rmk 1 24) [.ref y, .int (iI r)] w none (fun w' => w' = w) := by
  refine CM.of (lv := [(0, .ref y), (1, .int (iI r))]) (by decide) (Nat.le_of_ble_eq_true rfl) rfl (fun p e s m below meth c ls F hr hlk hin hW hS hl => ?_)
  have hZ0 := hW.2.2
  have hB9 := hW.1.2
  clear hin
  unfold clO at hY
  have hO := hL.1.o
  have hA := hL.1
  have hwf := hL.2.2
  have hF := hwf.1
  unfold WF0 at hF
  refine lv_aload_n F.1 F.2.1 dX8_checkRow_0 rfl (lv_at hl 0 rfl) ?_
  refine gf_RX8_10 F hW hY rfl dX8_checkRow_1 ?_
  refine lv_iload_n F.1 F.2.1 dX8_checkRow_4 rfl (lv_at hl 1 rfl) ?_
  refine cl_RX8_443 (As := [.int (iI r)]) (rest := []) F hl (c_X5_hasRow l X w (y + 1) σ r hA hwf (by omega)) hW hS hO rfl rfl ⟨Nat.le_of_ble_eq_true rfl, Nat.le_of_ble_eq_true rfl⟩ (Nat.le_of_ble_eq_true rfl) ⟨Nat.zero_le _, Nat.zero_le _⟩ dX8_checkRow_5 (fun w1 H locs hp1 hW hS => ?_)
  rw [hp1] at hW; clear hp1; clear w1
  refine h_ifneb (tgt := 22) F dX8_checkRow_8 (by decide) (fun c2 => ?_) (fun c2 => ?_)
  · have c2d := of_decide_eq_true c2
    exact h_vret F hr hlk hW hS rfl dX8_checkRow_22
  · have c2d := of_decide_eq_false c2
    exfalso; omega
set_option maxHeartbeats 4000000 in
set_option maxRecDepth 100000 in
theorem c_X8_checkColour (l : Launch) (X : Cx) (w : Wo) (y : Nat) (su : Int) (σ : Int → Int) (k : Int) (hY : clO X w y su) (hL : loomAt X w (y + 1) σ) (hk : 0 ≤ k ∧ k < 7) : CM l X yX8_checkColour cX8_checkColour 2 none (rmk 1 24) [.ref y, .int (iI k)] w none (fun w' => w' = w) := by
  refine CM.of (lv := [(0, .ref y), (1, .int (iI k))]) (by decide) (Nat.le_of_ble_eq_true rfl) rfl (fun p e s m below meth c ls F hr hlk hin hW hS hl => ?_)
  have hZ0 := hW.2.2
  have hB9 := hW.1.2
  clear hin
  unfold clO at hY
  have hO := hL.1.o
  have hA := hL.1
  have hwf := hL.2.2
  have hF := hwf.1
  unfold WF0 at hF
  refine lv_iload_n F.1 F.2.1 dX8_checkColour_0 rfl (lv_at hl 1 rfl) ?_
  refine h_iflt (tgt := 10) F dX8_checkColour_1 (by decide) (by omega) (fun c1 => ?_) (fun c1 => ?_)
  · exfalso; omega
  · refine lv_iload_n F.1 F.2.1 dX8_checkColour_4 rfl (lv_at hl 1 rfl) ?_
    refine h_bipush F dX8_checkColour_5 rfl ?_
    refine h_iclt (tgt := 21) F dX8_checkColour_7 (by decide) (by omega) (fun c2 => ?_) (fun c2 => ?_)
    · exact h_vret F hr hlk hW hS rfl dX8_checkColour_21
    · exfalso; omega
set_option maxHeartbeats 4000000 in
set_option maxRecDepth 100000 in
theorem c_X8_checkCell (l : Launch) (X : Cx) (w : Wo) (y : Nat) (su : Int) (σ : Int → Int) (cn rn : Int) (hY : clO X w y su) (hL : loomAt X w (y + 1) σ) (hk : 0 ≤ cn ∧ cn < σ 0 ∧ 0 ≤ rn ∧ rn < σ 1) : CM l X yX8_checkCell cX8_checkCell 3 none (rmk 1 24) [.ref y, .int (iI cn), .int (iI rn)] w none (fun w' => w' = w) := by
  refine CM.of (lv := [(0, .ref y), (1, .int (iI cn)), (2, .int (iI rn))]) (by decide) (Nat.le_of_ble_eq_true rfl) rfl (fun p e s m below meth c ls F hr hlk hin hW hS hl => ?_)
  have hZ0 := hW.2.2
  have hB9 := hW.1.2
  clear hin
  unfold clO at hY
  have hO := hL.1.o
  have hA := hL.1
  have hwf := hL.2.2
  have hF := hwf.1
  unfold WF0 at hF
  refine lv_aload_n F.1 F.2.1 dX8_checkCell_0 rfl (lv_at hl 0 rfl) ?_
  refine gf_RX8_10 F hW hY rfl dX8_checkCell_1 ?_
  refine lv_iload_n F.1 F.2.1 dX8_checkCell_4 rfl (lv_at hl 1 rfl) ?_
  refine cl_RX8_342 (As := [.int (iI cn)]) (rest := []) F hl (c_X5_hasColumn l X w (y + 1) σ cn hA hwf (by omega)) hW hS hO rfl rfl ⟨Nat.le_of_ble_eq_true rfl, Nat.le_of_ble_eq_true rfl⟩ (Nat.le_of_ble_eq_true rfl) ⟨Nat.zero_le _, Nat.zero_le _⟩ dX8_checkCell_5 (fun w1 H locs hp1 hW hS => ?_)
  rw [hp1] at hW; clear hp1; clear w1
  refine h_ifeqb (tgt := 22) F dX8_checkCell_8 (by decide) (fun c2 => ?_) (fun c2 => ?_)
  · have c2d := of_decide_eq_false c2
    exfalso; omega
  · have c2d := of_decide_eq_true c2
    refine lv_aload_n F.1 F.2.1 dX8_checkCell_11 rfl (lv_at hl 0 rfl) ?_
    refine gf_RX8_10 F hW hY rfl dX8_checkCell_12 ?_
    refine lv_iload_n F.1 F.2.1 dX8_checkCell_15 rfl (lv_at hl 2 rfl) ?_
    refine cl_RX8_443 (As := [.int (iI rn)]) (rest := []) F hl (c_X5_hasRow l X w (y + 1) σ rn hA hwf (by omega)) hW hS hO rfl rfl ⟨Nat.le_of_ble_eq_true rfl, Nat.le_of_ble_eq_true rfl⟩ (Nat.le_of_ble_eq_true rfl) ⟨Nat.zero_le _, Nat.zero_le _⟩ dX8_checkCell_16 (fun w1 H locs hp3 hW hS => ?_)
    rw [hp3] at hW; clear hp3; clear w1
    refine h_ifneb (tgt := 33) F dX8_checkCell_19 (by decide) (fun c4 => ?_) (fun c4 => ?_)
    · have c4d := of_decide_eq_true c4
      exact h_vret F hr hlk hW hS rfl dX8_checkCell_33
    · have c4d := of_decide_eq_false c4
      exfalso; omega
