set_option maxHeartbeats 4000000 in
set_option maxRecDepth 100000 in
theorem c_setDelay_r7 (l : Launch) (X : Cx) (w : Wo) (y : Nat) (su : Int) (ac : Int → Int) (σ : Int → Int) (nx sz : Int) (pas : Int → Int → Int) (d : Int) (hY : clO X w y su) (hac : w (y + 305) = some (aZ X 9 ac)) (hL : loomAt X w (y + 1) σ) (hH : hisAt X w (y + 53) nx sz pas) (hd : 0 ≤ d ∧ d ≤ 30) (he : d = σ 2) : CM l X yX8_setDelay cX8_setDelay 3 (some (.int)) (rmk 5 128) [.ref y, .int (iI d)] w (some (.int (iI (-7)))) (fun w' => w' (y + 305) = some (aZ X 9 (up ac 7 (ac 7 + 1))) ∧ ∀ q : Nat, q ≠ y + 305 → w' q = w q) := by
  refine CM.of (lv := [(0, .ref y), (1, .int (iI d))]) (by decide) (Nat.le_of_ble_eq_true rfl) rfl (fun p e s m below meth c ls F hr hlk hin hW hS hl => ?_)
  have hZ0 := hW.2.2
  have hB9 := hW.1.2
  clear hin
  unfold clO at hY
  have hO := hL.1.o
  have hA := hL.1
  have hwf := hL.2.2
  have hF := hwf.1
  unfold WF0 at hF
  refine lv_iload_n F.1 F.2.1 dX8_setDelay_0 rfl (lv_at hl 1 rfl) ?_
  refine h_iflt (tgt := 10) F dX8_setDelay_1 (by decide) (by omega) (fun c1 => ?_) (fun c1 => ?_)
  · exfalso; omega
  · refine lv_iload_n F.1 F.2.1 dX8_setDelay_4 rfl (lv_at hl 1 rfl) ?_
    refine h_bipush F dX8_setDelay_5 rfl ?_
    refine h_icle (tgt := 21) F dX8_setDelay_7 (by decide) (by omega) (fun c2 => ?_) (fun c2 => ?_)
    · refine lv_aload_n F.1 F.2.1 dX8_setDelay_21 rfl (lv_at hl 0 rfl) ?_
      refine gf_RX8_10 F hW hY rfl dX8_setDelay_22 ?_
      refine gf_RX8_154 F hW hO rfl dX8_setDelay_25 ?_
      refine lv_istore_n (lv' := [(2, .int (iI (σ 2))), (0, .ref y), (1, .int (iI d))]) F.1 F.2.1 dX8_setDelay_28 rfl hl (by decide) rfl (fun ls hl => ?_)
      refine lv_iload_n F.1 F.2.1 dX8_setDelay_29 rfl (lv_at hl 2 rfl) ?_
      refine lv_iload_n F.1 F.2.1 dX8_setDelay_30 rfl (lv_at hl 0 rfl) ?_
      refine h_icne (tgt := 41) F dX8_setDelay_31 (by decide) (by omega) (fun c3 => ?_) (fun c3 => ?_)
      · exfalso; omega
      · refine lv_aload_n F.1 F.2.1 dX8_setDelay_34 rfl (lv_at hl 1 rfl) ?_
        refine h_bipush F dX8_setDelay_35 rfl ?_
        refine cl_RX8_374 (As := [.int (iI 7)]) (rest := []) F hl (c_X8_refuse l X w y su ac 7 hY hac (by omega)) hW hS hY rfl rfl ⟨Nat.le_of_ble_eq_true rfl, Nat.le_of_ble_eq_true rfl⟩ (Nat.le_of_ble_eq_true rfl) ⟨Nat.zero_le _, Nat.zero_le _⟩ dX8_setDelay_37 (fun w4 H locs hp5 hW hS => ?_)
        obtain ⟨ha6, hn7⟩ := hp5
        have hY := (hn7 _ (by omega)).trans hY
        have hO := (hn7 _ (by omega)).trans hO
        exact h_ireti F hr hlk hW hS ⟨ha6, (fun q h09 => by rw [hn7 q (by omega)])⟩ dX8_setDelay_40
    · exfalso; omega
set_option maxHeartbeats 4000000 in
set_option maxRecDepth 100000 in
theorem c_X8_setDelay (l : Launch) (X : Cx) (w : Wo) (y : Nat) (su : Int) (ac : Int → Int) (σ : Int → Int) (nx sz : Int) (pas : Int → Int → Int) (d : Int) (hY : clO X w y su) (hac : w (y + 305) = some (aZ X 9 ac)) (hL : loomAt X w (y + 1) σ) (hH : hisAt X w (y + 53) nx sz pas) (hd : 0 ≤ d ∧ d ≤ 30) (he : d ≠ σ 2) : CM l X yX8_setDelay cX8_setDelay 3 (some (.int)) (rmk 5 128) [.ref y, .int (iI d)] w (some (.int (iI (σ 2)))) (fun w' => w' (y + 305) = some (aZ X 9 (up ac 0 (ac 0 + 1))) ∧ hisAt X w' (y + 53) ((if nx = 8 then 0 else nx) + 1) (min 8 (sz + 1)) (keepP sz pas σ) ∧ loomAt X w' (y + 1) (up σ 2 d) ∧ ∀ q : Nat, q ≠ y + 305 → q ≠ y + 1 → (q < y + 53 ∨ y + 255 ≤ q) → w' q = w q) := by
  refine CM.of (lv := [(0, .ref y), (1, .int (iI d))]) (by decide) (Nat.le_of_ble_eq_true rfl) rfl (fun p e s m below meth c ls F hr hlk hin hW hS hl => ?_)
  have hZ0 := hW.2.2
  have hB9 := hW.1.2
  clear hin
  unfold clO at hY
  have hO := hL.1.o
  have hA := hL.1
  have hwf := hL.2.2
  have hF := hwf.1
  unfold WF0 at hF
  refine lv_iload_n F.1 F.2.1 dX8_setDelay_0 rfl (lv_at hl 1 rfl) ?_
  refine h_iflt (tgt := 10) F dX8_setDelay_1 (by decide) (by omega) (fun c1 => ?_) (fun c1 => ?_)
  · exfalso; omega
  · refine lv_iload_n F.1 F.2.1 dX8_setDelay_4 rfl (lv_at hl 1 rfl) ?_
    refine h_bipush F dX8_setDelay_5 rfl ?_
    refine h_icle (tgt := 21) F dX8_setDelay_7 (by decide) (by omega) (fun c2 => ?_) (fun c2 => ?_)
    · refine lv_aload_n F.1 F.2.1 dX8_setDelay_21 rfl (lv_at hl 0 rfl) ?_
      refine gf_RX8_10 F hW hY rfl dX8_setDelay_22 ?_
      refine gf_RX8_154 F hW hO rfl dX8_setDelay_25 ?_
      refine lv_istore_n (lv' := [(2, .int (iI (σ 2))), (0, .ref y), (1, .int (iI d))]) F.1 F.2.1 dX8_setDelay_28 rfl hl (by decide) rfl (fun ls hl => ?_)
      refine lv_iload_n F.1 F.2.1 dX8_setDelay_29 rfl (lv_at hl 2 rfl) ?_
      refine lv_iload_n F.1 F.2.1 dX8_setDelay_30 rfl (lv_at hl 0 rfl) ?_
      refine h_icne (tgt := 41) F dX8_setDelay_31 (by decide) (by omega) (fun c3 => ?_) (fun c3 => ?_)
      · refine lv_aload_n F.1 F.2.1 dX8_setDelay_41 rfl (lv_at hl 1 rfl) ?_
        refine cl_RX8_380 (As := []) (rest := []) F hl (c_X8_beginAct l X w y su ac σ nx sz pas hY hac hL hH) hW hS hY rfl rfl ⟨Nat.le_of_ble_eq_true rfl, Nat.le_of_ble_eq_true rfl⟩ (Nat.le_of_ble_eq_true rfl) ⟨Nat.zero_le _, Nat.zero_le _⟩ dX8_setDelay_42 (fun w4 H locs hp5 hW hS => ?_)
        obtain ⟨ha6, hm9, hn7⟩ := hp5
        have hY := (hn7 _ (by omega) (by omega)).trans hY
        have hO := (hn7 _ (by omega) (by omega)).trans hO
        refine lv_aload_n F.1 F.2.1 dX8_setDelay_45 rfl (lv_at hl 1 rfl) ?_
        refine gf_RX8_10 F hW hY rfl dX8_setDelay_46 ?_
        refine lv_iload_n F.1 F.2.1 dX8_setDelay_49 rfl (lv_at hl 2 rfl) ?_
        refine pf_RX8_154 F hW hS hO (Nat.le_of_ble_eq_true rfl) dX8_setDelay_50 (fun w8 H locs ho10 hn9 hW hS => ?_)
        have ho10 : w8 (y + 1) = some (.inr (5, [.ref (y + 1 + 1), .ref (y + 1 + 3), .ref (y + 1 + 5), .ref (y + 1 + 6), .ref (y + 1 + 7), .int (iI (σ 5)), .int (iI (σ 0)), .int (iI (σ 1)), .int (iI (σ 4)), .int (iI (σ 3)), .int (iI d)])) := ho10
        have hY := (hn9 _ (by omega)).trans hY
        have ha6 := (hn9 _ (by omega)).trans ha6
        refine lv_iload_n F.1 F.2.1 dX8_setDelay_53 rfl (lv_at hl 0 rfl) ?_
        exact h_ireti F hr hlk hW hS ⟨ha6, hm9.mv (fun q h1 h2 => hn9 q (by omega)), loomAt_fld (hL.mv (fun q h1 h2 => hn7 q (by omega) (by omega))) 2 d (by decide) ho10 hn9 (WF_fld hwf 2 d (by omega) (fun z => absurd z (by decide))), (fun q h09 h19 h29 => by rw [hn9 q (by omega), hn7 q (by omega) (by omega)])⟩ dX8_setDelay_54
      · exfalso; omega
    · exfalso; omega
