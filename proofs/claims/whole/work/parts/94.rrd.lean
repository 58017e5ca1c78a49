set_option maxHeartbeats 4000000 in
set_option maxRecDepth 100000 in
theorem c_X9_readsDelay (l : Launch) (X : Cx) (w : Wo) (mo : Nat) (v tx d : Int → Int) (hM : w mo = some (.inr (9, mL mo v))) (htx : w (mo + 7) = some (aZ X 400 tx)) (hvp : vP tx v) (hd : w (mo + 2) = some (aZ X 1317 d)) (h23 : 0 ≤ v 23 ∧ v 23 ≤ 1) : CM l X yX9_readsDelay cX9_readsDelay 1 none (rmk 4 86) [.ref mo] w none (fun w' => w' mo = some (.inr (9, mL mo (reV tx v))) ∧ w' (mo + 2) = some (aZ X 1317 (reD tx v d)) ∧ ∀ q : Nat, q ≠ mo → q ≠ mo + 2 → w' q = w q) := by
  refine CM.of (lv := [(0, .ref mo)]) (by decide) (Nat.le_of_ble_eq_true rfl) rfl (fun p e s m below meth c ls F hr hlk hin hW hS hl => ?_)
  have hZ0 := hW.2.2
  have hB9 := hW.1.2
  clear hin
  have hvt := hvp.1
  have h18 := hvp.2
  have hun := hvt.1
  have hfb := hvt.2.1
  have hvr := hvt.r
  have hp3 := re3_P hvp
  have h183 := hp3.2
  have hp4 : vP tx (up (re3 v) 23 1) := hp3.fld rfl rfl rfl rfl rfl rfl
  have hp5 : vP tx (re5 tx v) := hp4.mu
  have join12 : ∀ (wj : Wo) (H : Heap) (locs : List Loc) (ls : Array Slot), (hO12_0 : wj mo = some (.inr (9, mL mo (re3 v)))) → (hF12 : ∀ q : Nat, q ≠ mo → wj q = w q) → Wd X wj s H → va_S (cxA X) s.heap H locs → lv_has ls 1 [(0, .ref mo)] → W p l e (rmk 4 86) s m (List.toArray [.ref mo]) below meth c H locs 0 0 (MX X below (List.toArray [.ref mo]) s 0 0 none (fun w' => w' mo = some (.inr (9, mL mo (reV tx v))) ∧ w' (mo + 2) = some (aZ X 1317 (reD tx v d)) ∧ ∀ q : Nat, q ≠ mo → q ≠ mo + 2 → w' q = w q)) (F0 m 12 ls []) := by
    intro  wj H locs ls hO12_0 hF12 hW hS hl
    have htx := (hF12 _ (by omega)).trans htx
    have hd := (hF12 _ (by omega)).trans hd
    refine lv_aload_n F.1 F.2.1 dX9_readsDelay_12 rfl (lv_at hl 0 rfl) ?_
    refine h_iconst F dX9_readsDelay_13 ?_
    refine h_top (show (1 : Int) = bz true from rfl) ?_
    refine pf_RX9_342 F hW hS hO12_0 (Nat.le_of_ble_eq_true rfl) dX9_readsDelay_14 (fun w1 H locs ho3 hn2 hW hS => ?_)
    rw [mL_23] at ho3
    have htx := (hn2 _ (by omega)).trans htx
    have hd := (hn2 _ (by omega)).trans hd
    refine lv_aload_n F.1 F.2.1 dX9_readsDelay_17 rfl (lv_at hl 0 rfl) ?_
    refine h_iconst F dX9_readsDelay_18 ?_
    refine cl_RX9_323 (As := [.int (iI 1)]) (rest := []) F hl (c_X9_must l X w1 mo (up (re3 v) 23 (bz true)) tx true ho3 htx hp4) hW hS ho3 rfl rfl ⟨Nat.le_of_ble_eq_true rfl, Nat.le_of_ble_eq_true rfl⟩ (Nat.le_of_ble_eq_true rfl) ⟨Nat.zero_le _, Nat.zero_le _⟩ dX9_readsDelay_19 (fun w4 H locs hp5 hW hS => ?_)
    obtain ⟨ho6, hn7⟩ := hp5
    have htx := (hn7 _ (by omega)).trans htx
    have hd := (hn7 _ (by omega)).trans hd
    have hX8 : w4 mo = some (.inr (9, mL mo (re5 tx v))) := ho6
    refine lv_aload_n F.1 F.2.1 dX9_readsDelay_22 rfl (lv_at hl 0 rfl) ?_
    refine gf_RX9_13 F hW hX8 rfl dX9_readsDelay_23 ?_
    refine h_iconst F dX9_readsDelay_26 ?_
    refine lv_aload_n F.1 F.2.1 dX9_readsDelay_27 rfl (lv_at hl 0 rfl) ?_
    refine h_iconst F dX9_readsDelay_28 ?_
    refine h_bipush F dX9_readsDelay_29 rfl ?_
    refine cl_RX9_334 (As := [.int (iI 0), .int (iI 30)]) (rest := [.int (iI 2), .ref (mo + 2)]) F hl (c_X9_takesNumber l X w4 mo (re5 tx v) tx 0 30 hX8 htx hp5 (by omega) (by omega)) hW hS hX8 rfl rfl ⟨Nat.le_of_ble_eq_true rfl, Nat.le_of_ble_eq_true rfl⟩ (Nat.le_of_ble_eq_true rfl) ⟨Nat.zero_le _, Nat.zero_le _⟩ dX9_readsDelay_31 (fun w9 H locs hp10 hW hS => ?_)
    obtain ⟨ho11, hn12⟩ := hp10
    have htx := (hn12 _ (by omega)).trans htx
    have hd := (hn12 _ (by omega)).trans hd
    refine h_iast F hW hS hd (by omega) (by omega) dX9_readsDelay_34 (fun w13 H locs ho15 hn14 hW hS => ?_)
    have ho11 := (hn14 _ (by omega)).trans ho11
    have htx := (hn14 _ (by omega)).trans htx
    exact h_vret F hr hlk hW hS ⟨(by (rw [ho11]) <;> (rfl)), (by (rw [ho15]) <;> (rfl)), (fun q h09 h19 => by rw [hn14 q (by omega), hn12 q (by omega), hn7 q (by omega), hn2 q (by omega), hF12 q (by omega)])⟩ dX9_readsDelay_35
  refine lv_aload_n F.1 F.2.1 dX9_readsDelay_0 rfl (lv_at hl 0 rfl) ?_
  refine gf_RX9_342 F hW hM rfl dX9_readsDelay_1 ?_
  refine h_ifeq (tgt := 12) F dX9_readsDelay_4 (by decide) (by omega) (fun c16 => ?_) (fun c16 => ?_)
  · exact join12   w _ _ ls (by rw [show (re3 v : Int → Int) = v from by unfold re3; first | rw [if_pos (by omega)] | rw [if_neg (by omega)]]; exact hM) (fun q h09 => rfl)  hW hS (lv_sub hl [0] rfl)
  · refine lv_aload_n F.1 F.2.1 dX9_readsDelay_7 rfl (lv_at hl 0 rfl) ?_
    refine h_iconst F dX9_readsDelay_8 ?_
    refine cl_RX9_311 (As := [.int (iI 3)]) (rest := []) F hl (c_X9_fails l X w mo v 3 hM (by omega)) hW hS hM rfl rfl ⟨Nat.le_of_ble_eq_true rfl, Nat.le_of_ble_eq_true rfl⟩ (Nat.le_of_ble_eq_true rfl) ⟨Nat.zero_le _, Nat.zero_le _⟩ dX9_readsDelay_9 (fun w17 H locs hp18 hW hS => ?_)
    obtain ⟨ho19, hn20⟩ := hp18
    have htx := (hn20 _ (by omega)).trans htx
    have hd := (hn20 _ (by omega)).trans hd
    exact join12   w17 _ _ ls (by rw [show (re3 v : Int → Int) = faV 3 v from by unfold re3; first | rw [if_pos (by omega)] | rw [if_neg (by omega)]]; exact ho19) (fun q h09 => by rw [hn20 q (by omega)])  hW hS (lv_sub hl [0] rfl)
set_option maxHeartbeats 4000000 in
set_option maxRecDepth 100000 in
theorem c_X9_readsStock (l : Launch) (X : Cx) (w : Wo) (mo : Nat) (v tx d : Int → Int) (hM : w mo = some (.inr (9, mL mo v))) (htx : w (mo + 7) = some (aZ X 400 tx)) (hvp : vP tx v) (hd : w (mo + 2) = some (aZ X 1317 d)) (h22 : 0 ≤ v 22 ∧ v 22 < 128) : CM l X yX9_readsStock cX9_readsStock 2 none (rmk 4 86) [.ref mo] w none (fun w' => w' mo = some (.inr (9, mL mo (rsV tx v))) ∧ w' (mo + 2) = some (aZ X 1317 (rsD tx v d)) ∧ ∀ q : Nat, q ≠ mo → q ≠ mo + 2 → w' q = w q) := by
  refine CM.of (lv := [(0, .ref mo)]) (by decide) (Nat.le_of_ble_eq_true rfl) rfl (fun p e s m below meth c ls F hr hlk hin hW hS hl => ?_)
  have hZ0 := hW.2.2
  have hB9 := hW.1.2
  clear hin
  have hvt := hvp.1
  have h18 := hvp.2
  have hun := hvt.1
  have hfb := hvt.2.1
  have hvr := hvt.r
  have hp1 := hvp.go
  have hp2 : vP tx (rs2 tx v) := hp1.se
  have h182 := hp2.2
  have hk := rsK_r tx v
  have h222 := rs2_22 tx v
  have h223 := rs3_22 tx v
  have hp4 := rs4_P hvp
  have hp5 : vP tx (rs5 tx v) := hp4.mu
  have hsh := pow_r (rsK tx v).toNat (show 0 ≤ rs2 tx v 22 ∧ rs2 tx v 22 < 2147483648 by omega)
  refine lv_aload_n F.1 F.2.1 dX9_readsStock_0 rfl (lv_at hl 0 rfl) ?_
  refine cl_RX9_314 (As := []) (rest := []) F hl (c_X9_goesOn l X w mo v tx hM htx (by omega) (by omega) hfb) hW hS hM rfl rfl ⟨Nat.le_of_ble_eq_true rfl, Nat.le_of_ble_eq_true rfl⟩ (Nat.le_of_ble_eq_true rfl) ⟨Nat.zero_le _, Nat.zero_le _⟩ dX9_readsStock_1 (fun w1 H locs hp2 hW hS => ?_)
  obtain ⟨ho3, hn4⟩ := hp2
  have htx := (hn4 _ (by omega)).trans htx
  have hd := (hn4 _ (by omega)).trans hd
  refine lv_aload_n F.1 F.2.1 dX9_readsStock_4 rfl (lv_at hl 0 rfl) ?_
  refine h_iconst F dX9_readsStock_5 ?_
  refine h_bipush F dX9_readsStock_6 rfl ?_
  refine cl_RX9_317 (As := [.int (iI 0), .int (iI 6)]) (rest := []) F hl (c_X9_sees l X w1 mo (goV tx v) tx 0 6 ho3 hp1 (by omega) (by omega)) hW hS ho3 rfl rfl ⟨Nat.le_of_ble_eq_true rfl, Nat.le_of_ble_eq_true rfl⟩ (Nat.le_of_ble_eq_true rfl) ⟨Nat.zero_le _, Nat.zero_le _⟩ dX9_readsStock_8 (fun w5 H locs hp6 hW hS => ?_)
  obtain ⟨ho7, hn8⟩ := hp6
  have htx := (hn8 _ (by omega)).trans htx
  have hd := (hn8 _ (by omega)).trans hd
  refine h_top (show (seR 0 6 (goV tx v) : Int) = rsK tx v from rfl) ?_
  have hX9 : w5 mo = some (.inr (9, mL mo (rs2 tx v))) := ho7
  refine lv_istore_n (lv' := [(1, .int (iI (rsK tx v))), (0, .ref mo)]) F.1 F.2.1 dX9_readsStock_11 rfl hl (by decide) rfl (fun ls hl => ?_)
  have join29 : ∀ (wj : Wo) (H : Heap) (locs : List Loc) (ls : Array Slot), (hO29_0 : wj mo = some (.inr (9, mL mo (rs3 tx v)))) → (hF29 : ∀ q : Nat, q ≠ mo → wj q = w5 q) → Wd X wj s H → va_S (cxA X) s.heap H locs → lv_has ls 2 [(1, .int (iI (rsK tx v))), (0, .ref mo)] → W p l e (rmk 4 86) s m (List.toArray [.ref mo]) below meth c H locs 0 0 (MX X below (List.toArray [.ref mo]) s 0 0 none (fun w' => w' mo = some (.inr (9, mL mo (rsV tx v))) ∧ w' (mo + 2) = some (aZ X 1317 (rsD tx v d)) ∧ ∀ q : Nat, q ≠ mo → q ≠ mo + 2 → w' q = w q)) (F0 m 29 ls []) := by
    intro  wj H locs ls hO29_0 hF29 hW hS hl
    have htx := (hF29 _ (by omega)).trans htx
    have hd := (hF29 _ (by omega)).trans hd
    refine lv_aload_n F.1 F.2.1 dX9_readsStock_29 rfl (lv_at hl 1 rfl) ?_
    refine lv_dup F.1 F.2.1 dX9_readsStock_30 rfl ?_
    refine gf_RX9_339 F hW hO29_0 rfl dX9_readsStock_31 ?_
    refine h_iconst F dX9_readsStock_34 ?_
    refine lv_iload_n F.1 F.2.1 dX9_readsStock_35 rfl (lv_at hl 0 rfl) ?_
    refine h_ishl (z := iI (pw (rsK tx v))) F dX9_readsStock_36 (pw_eq (by omega)) ?_
    refine h_ior (z := iI (orS (rs3 tx v 22) (rsK tx v))) F dX9_readsStock_37 (orS_eq (by omega)) ?_
    refine pf_RX9_339 F hW hS hO29_0 (Nat.le_of_ble_eq_true rfl) dX9_readsStock_38 (fun w10 H locs ho12 hn11 hW hS => ?_)
    rw [mL_22] at ho12
    have htx := (hn11 _ (by omega)).trans htx
    have hd := (hn11 _ (by omega)).trans hd
    have hX13 : w10 mo = some (.inr (9, mL mo (rs4 tx v))) := ho12
    refine lv_aload_n F.1 F.2.1 dX9_readsStock_41 rfl (lv_at hl 1 rfl) ?_
    refine h_iconst F dX9_readsStock_42 ?_
    refine cl_RX9_323 (As := [.int (iI 1)]) (rest := []) F hl (c_X9_must l X w10 mo (rs4 tx v) tx true hX13 htx hp4) hW hS hX13 rfl rfl ⟨Nat.le_of_ble_eq_true rfl, Nat.le_of_ble_eq_true rfl⟩ (Nat.le_of_ble_eq_true rfl) ⟨Nat.zero_le _, Nat.zero_le _⟩ dX9_readsStock_43 (fun w14 H locs hp15 hW hS => ?_)
    obtain ⟨ho16, hn17⟩ := hp15
    have htx := (hn17 _ (by omega)).trans htx
    have hd := (hn17 _ (by omega)).trans hd
    have hX18 : w14 mo = some (.inr (9, mL mo (rs5 tx v))) := ho16
    refine lv_aload_n F.1 F.2.1 dX9_readsStock_46 rfl (lv_at hl 1 rfl) ?_
    refine gf_RX9_13 F hW hX18 rfl dX9_readsStock_47 ?_
    refine h_bipush F dX9_readsStock_50 rfl ?_
    refine lv_iload_n F.1 F.2.1 dX9_readsStock_52 rfl (lv_at hl 0 rfl) ?_
    refine h_iadd (a := 6) (b := rsK tx v) F dX9_readsStock_53 ?_
    refine lv_aload_n F.1 F.2.1 dX9_readsStock_54 rfl (lv_at hl 1 rfl) ?_
    refine h_iconst F dX9_readsStock_55 ?_
    refine h_sipush F dX9_readsStock_56 rfl ?_
    refine cl_RX9_334 (As := [.int (iI 0), .int (iI 9999)]) (rest := [.int (iI (6 + (rsK tx v))), .ref (mo + 2)]) F hl (c_X9_takesNumber l X w14 mo (rs5 tx v) tx 0 9999 hX18 htx hp5 (by omega) (by omega)) hW hS hX18 rfl rfl ⟨Nat.le_of_ble_eq_true rfl, Nat.le_of_ble_eq_true rfl⟩ (Nat.le_of_ble_eq_true rfl) ⟨Nat.zero_le _, Nat.zero_le _⟩ dX9_readsStock_59 (fun w19 H locs hp20 hW hS => ?_)
    obtain ⟨ho21, hn22⟩ := hp20
    have htx := (hn22 _ (by omega)).trans htx
    have hd := (hn22 _ (by omega)).trans hd
    refine h_iast F hW hS hd (by omega) (by omega) dX9_readsStock_62 (fun w23 H locs ho25 hn24 hW hS => ?_)
    have ho21 := (hn24 _ (by omega)).trans ho21
    have htx := (hn24 _ (by omega)).trans htx
    exact h_vret F hr hlk hW hS ⟨(by (rw [ho21]) <;> (rfl)), (by (rw [ho25]) <;> (rfl)), (fun q h09 h19 => by rw [hn24 q (by omega), hn22 q (by omega), hn17 q (by omega), hn11 q (by omega), hF29 q (by omega), hn8 q (by omega), hn4 q (by omega)])⟩ dX9_readsStock_63
  refine lv_aload_n F.1 F.2.1 dX9_readsStock_12 rfl (lv_at hl 1 rfl) ?_
  refine gf_RX9_339 F hW hX9 rfl dX9_readsStock_13 ?_
  refine lv_iload_n F.1 F.2.1 dX9_readsStock_16 rfl (lv_at hl 0 rfl) ?_
  refine h_ishr (z := iI (rs2 tx v 22 / 2 ^ (rsK tx v).toNat)) F dX9_readsStock_17 (iI_shrv (by omega) (by omega)) ?_
  refine h_iconst F dX9_readsStock_18 ?_
  refine h_iand (z := iI (rs2 tx v 22 / 2 ^ (rsK tx v).toNat % 2)) F dX9_readsStock_19 (iI_and1 hsh.1) ?_
  refine h_iconst F dX9_readsStock_20 ?_
  refine h_icne (tgt := 29) F dX9_readsStock_21 (by decide) (by omega) (fun c26 => ?_) (fun c26 => ?_)
  · exact join29   w5 _ _ ls (by rw [show (rs3 tx v : Int → Int) = rs2 tx v from by unfold rs3; first | rw [if_pos (by omega)] | rw [if_neg (by omega)]]; exact hX9) (fun q h09 => rfl)  hW hS (lv_sub hl [0, 1] rfl)
  · refine lv_aload_n F.1 F.2.1 dX9_readsStock_24 rfl (lv_at hl 1 rfl) ?_
    refine h_iconst F dX9_readsStock_25 ?_
    refine cl_RX9_311 (As := [.int (iI 3)]) (rest := []) F hl (c_X9_fails l X w5 mo (rs2 tx v) 3 hX9 (by omega)) hW hS hX9 rfl rfl ⟨Nat.le_of_ble_eq_true rfl, Nat.le_of_ble_eq_true rfl⟩ (Nat.le_of_ble_eq_true rfl) ⟨Nat.zero_le _, Nat.zero_le _⟩ dX9_readsStock_26 (fun w27 H locs hp28 hW hS => ?_)
    obtain ⟨ho29, hn30⟩ := hp28
    have htx := (hn30 _ (by omega)).trans htx
    have hd := (hn30 _ (by omega)).trans hd
    exact join29   w27 _ _ ls (by rw [show (rs3 tx v : Int → Int) = faV 3 (rs2 tx v) from by unfold rs3; first | rw [if_pos (by omega)] | rw [if_neg (by omega)]]; exact ho29) (fun q h09 => by rw [hn30 q (by omega)])  hW hS (lv_sub hl [0, 1] rfl)
set_option maxHeartbeats 4000000 in
set_option maxRecDepth 100000 in
theorem c_X9_readsCaption (l : Launch) (X : Cx) (w : Wo) (mo : Nat) (v tx d : Int → Int) (hM : w mo = some (.inr (9, mL mo v))) (htx : w (mo + 7) = some (aZ X 400 tx)) (hvp : vP tx v) (hd : w (mo + 2) = some (aZ X 1317 d)) (hwd : WF d) : CM l X yX9_readsCaption cX9_readsCaption 7 none (rmk 5 108) [.ref mo] w none (fun w' => w' mo = some (.inr (9, mL mo (rc13 tx v d))) ∧ w' (mo + 2) = some (aZ X 1317 (rcE tx v d)) ∧ ∀ q : Nat, q ≠ mo → q ≠ mo + 2 → w' q = w q) := by
  refine CM.of (lv := [(0, .ref mo)]) (by decide) (Nat.le_of_ble_eq_true rfl) rfl (fun p e s m below meth c ls F hr hlk hin hW hS hl => ?_)
  have hZ0 := hW.2.2
  have hB9 := hW.1.2
  clear hin
  have hvt := hvp.1
  have h18 := hvp.2
  have hun := hvt.1
  have hfb := hvt.2.1
  have hvr := hvt.r
  have hd0 := hwd.1
  unfold WF0 at hd0
  have hp1 := rc1_P (d := d) hvp
  have hp2 := rc2_P (d := d) hvp
  have hp3 := rc3_P (d := d) hvp
  have hp4 := rc4_P (d := d) hvp
  have hp5 := rc5_P (d := d) hvp
  have hp6 := rc6_P (d := d) hvp
  have hp7 := rc7_P (d := d) hvp
  have hp8 := rc8_P (d := d) hvp
  have hp9 := rc9_P (d := d) hvp
  have hp10 := rc10_P (d := d) hvp
  have hp11 := rc11_P (d := d) hvp
  have hp12 := rc12_P (d := d) hvp
  have hp13 := rc13_P (d := d) hvp
  have h181 := hp1.2
  have h182 := hp2.2
  have h183 := hp3.2
  have h184 := hp4.2
  have h185 := hp5.2
  have h186 := hp6.2
  have h187 := hp7.2
  have h188 := hp8.2
  have h189 := hp9.2
  have h1810 := hp10.2
  have h1811 := hp11.2
  have h1812 := hp12.2
  have h1813 := hp13.2
  have hvr2 := hp2.1.r
  have hvr3 := hp3.1.r
  have hN2 := hp2.1.1
  have hWD := rcD_WF hvp hwd
  have hlo := fun p (hp : p < 18 + 13 * min (d 5) 7) => rcD_lo (f := tx) (v := v) (d := d) (p := p) (by omega) hp
  have hX := seR_r (v := rc6 tx v d) (lo := 0) (hi := d 0 - 1) (by omega)
  have hY := seR_r (v := rc7 tx v d) (lo := 0) (hi := d 1 - 1) (by omega)
  have hX9 : seR 0 (d 0 - 1) (rc6 tx v d) = rcX tx v d := rfl
  have hY9 : seR 0 (d 1 - 1) (rc7 tx v d) = rcY tx v d := rfl
  have hL9 : rc2 tx v d 14 - rc2 tx v d 15 = rcL tx v d := rfl
  have hb3 := bz_r (rcR tx v d)
  have hlo0 := hlo 0 (by omega)
  have hlo1 := hlo 1 (by omega)
  have hlo5 := hlo 5 (by omega)
  have hBB : rcB d = 13 + 13 * min (d 5) 7 := rfl
  have join17 : ∀ (wj1 : Wo) (H : Heap) (locs : List Loc) (ls : Array Slot), (hO17_0 : wj1 mo = some (.inr (9, mL mo (rc1 v d)))) → (hF17 : ∀ q : Nat, q ≠ mo → wj1 q = w q) → Wd X wj1 s H → va_S (cxA X) s.heap H locs → lv_has ls 7 [(0, .ref mo)] → W p l e (rmk 5 108) s m (List.toArray [.ref mo]) below meth c H locs 0 0 (MX X below (List.toArray [.ref mo]) s 0 0 none (fun w' => w' mo = some (.inr (9, mL mo (rc13 tx v d))) ∧ w' (mo + 2) = some (aZ X 1317 (rcE tx v d)) ∧ ∀ q : Nat, q ≠ mo → q ≠ mo + 2 → w' q = w q)) (F0 m 17 ls []) := by
    intro  wj1 H locs ls hO17_0 hF17 hW hS hl
    have htx := (hF17 _ (by omega)).trans htx
    have hd := (hF17 _ (by omega)).trans hd
    refine lv_aload_n F.1 F.2.1 dX9_readsCaption_17 rfl (lv_at hl 0 rfl) ?_
    refine h_iconst F dX9_readsCaption_18 ?_
    refine cl_RX9_323 (As := [.int (iI 1)]) (rest := []) F hl (c_X9_must l X wj1 mo (rc1 v d) tx true hO17_0 htx hp1) hW hS hO17_0 rfl rfl ⟨Nat.le_of_ble_eq_true rfl, Nat.le_of_ble_eq_true rfl⟩ (Nat.le_of_ble_eq_true rfl) ⟨Nat.zero_le _, Nat.zero_le _⟩ dX9_readsCaption_19 (fun w1 H locs hp2 hW hS => ?_)
    obtain ⟨ho3, hn4⟩ := hp2
    have htx := (hn4 _ (by omega)).trans htx
    have hd := (hn4 _ (by omega)).trans hd
    have hX5 : w1 mo = some (.inr (9, mL mo (rc2 tx v d))) := ho3
    refine h_bipush F dX9_readsCaption_22 rfl ?_
    refine h_bipush F dX9_readsCaption_24 rfl ?_
    refine lv_aload_n F.1 F.2.1 dX9_readsCaption_26 rfl (lv_at hl 0 rfl) ?_
    refine gf_RX9_13 F hW hX5 rfl dX9_readsCaption_27 ?_
    refine h_iconst F dX9_readsCaption_30 ?_
    refine h_iald F hW hd (by omega) (by omega) dX9_readsCaption_31 ?_
    refine h_bipush F dX9_readsCaption_32 rfl ?_
    refine h_mmin (index := 167) (a := d 5) (b := 7) F hl km_RX9_167 (Nat.le_of_ble_eq_true rfl) (Nat.le_of_ble_eq_true rfl) (Nat.zero_le _) (Nat.zero_le _) (by omega) dX9_readsCaption_34 ?_
    refine h_imul (a := 13) (b := min (d 5) 7) F dX9_readsCaption_37 ?_
    refine h_iadd (a := 13) (b := 13 * (min (d 5) 7)) F dX9_readsCaption_38 ?_
    refine h_top (show (13 + (13 * (min (d 5) 7)) : Int) = rcB d from rfl) ?_
    refine lv_istore_n (lv' := [(1, .int (iI (rcB d))), (0, .ref mo)]) F.1 F.2.1 dX9_readsCaption_39 rfl hl (by decide) rfl (fun ls hl => ?_)
    refine lv_aload_n F.1 F.2.1 dX9_readsCaption_40 rfl (lv_at hl 1 rfl) ?_
    refine gf_RX9_276 F hW hX5 rfl dX9_readsCaption_41 ?_
    refine lv_aload_n F.1 F.2.1 dX9_readsCaption_44 rfl (lv_at hl 1 rfl) ?_
    refine gf_RX9_282 F hW hX5 rfl dX9_readsCaption_45 ?_
    refine h_isub (a := (rc2 tx v d) 14) (b := (rc2 tx v d) 15) F dX9_readsCaption_48 ?_
    refine h_top (show (((rc2 tx v d) 14) - ((rc2 tx v d) 15) : Int) = rcL tx v d from rfl) ?_
    refine lv_istore_n (lv' := [(2, .int (iI (rcL tx v d))), (1, .int (iI (rcB d))), (0, .ref mo)]) F.1 F.2.1 dX9_readsCaption_49 rfl hl (by decide) rfl (fun ls hl => ?_)
    have join69 : ∀ (wj3 : Wo) (H : Heap) (locs : List Loc) (ls : Array Slot), (hO69_0 : wj3 mo = some (.inr (9, mL mo (rc3 tx v d)))) → (hF69 : ∀ q : Nat, q ≠ mo → wj3 q = w1 q) → Wd X wj3 s H → va_S (cxA X) s.heap H locs → lv_has ls 7 [(2, .int (iI (rcL tx v d))), (1, .int (iI (rcB d))), (0, .ref mo)] → W p l e (rmk 5 108) s m (List.toArray [.ref mo]) below meth c H locs 0 0 (MX X below (List.toArray [.ref mo]) s 0 0 none (fun w' => w' mo = some (.inr (9, mL mo (rc13 tx v d))) ∧ w' (mo + 2) = some (aZ X 1317 (rcE tx v d)) ∧ ∀ q : Nat, q ≠ mo → q ≠ mo + 2 → w' q = w q)) (F0 m 69 ls []) := by
      intro  wj3 H locs ls hO69_0 hF69 hW hS hl
      have htx := (hF69 _ (by omega)).trans htx
      have hd := (hF69 _ (by omega)).trans hd
      have join121 : ∀ (wjl : Wo) (H : Heap) (locs : List Loc) (ls : Array Slot), (hA121_0 : wjl (mo + 2) = some (aZ X 1317 (rcD tx v d))) → (hF121 : ∀ q : Nat, q ≠ mo + 2 → wjl q = wj3 q) → Wd X wjl s H → va_S (cxA X) s.heap H locs → lv_has ls 7 [(2, .int (iI (rcL tx v d))), (1, .int (iI (rcB d))), (0, .ref mo)] → W p l e (rmk 5 108) s m (List.toArray [.ref mo]) below meth c H locs 0 0 (MX X below (List.toArray [.ref mo]) s 0 0 none (fun w' => w' mo = some (.inr (9, mL mo (rc13 tx v d))) ∧ w' (mo + 2) = some (aZ X 1317 (rcE tx v d)) ∧ ∀ q : Nat, q ≠ mo → q ≠ mo + 2 → w' q = w q)) (F0 m 121 ls []) := by
        intro  wjl H locs ls hA121_0 hF121 hW hS hl
        have hO69_0 := (hF121 _ (by omega)).trans hO69_0
        have htx := (hF121 _ (by omega)).trans htx
        refine lv_aload_n F.1 F.2.1 dX9_readsCaption_121 rfl (lv_at hl 2 rfl) ?_
        refine lv_aload_n F.1 F.2.1 dX9_readsCaption_122 rfl (lv_at hl 2 rfl) ?_
        refine gf_RX9_288 F hW hO69_0 rfl dX9_readsCaption_123 ?_
        refine h_iconst F dX9_readsCaption_126 ?_
        have join135 : ∀ (H : Heap) (locs : List Loc) (ls : Array Slot), Wd X wjl s H → va_S (cxA X) s.heap H locs → lv_has ls 7 [(2, .int (iI (rcL tx v d))), (1, .int (iI (rcB d))), (0, .ref mo)] → W p l e (rmk 5 108) s m (List.toArray [.ref mo]) below meth c H locs 0 0 (MX X below (List.toArray [.ref mo]) s 0 0 none (fun w' => w' mo = some (.inr (9, mL mo (rc13 tx v d))) ∧ w' (mo + 2) = some (aZ X 1317 (rcE tx v d)) ∧ ∀ q : Nat, q ≠ mo → q ≠ mo + 2 → w' q = w q)) (F0 m 135 ls [.int (iI (bz (decide (rc3 tx v d 16 = 1)))), .ref mo]) := by
          intro  H locs ls  hW hS hl
          refine cl_RX9_323 (As := [.int (iI (bz (decide (rc3 tx v d 16 = 1))))]) (rest := []) F hl (c_X9_must l X wjl mo (rc3 tx v d) tx (decide (rc3 tx v d 16 = 1)) hO69_0 htx hp3) hW hS hO69_0 rfl rfl ⟨Nat.le_of_ble_eq_true rfl, Nat.le_of_ble_eq_true rfl⟩ (Nat.le_of_ble_eq_true rfl) ⟨Nat.zero_le _, Nat.zero_le _⟩ dX9_readsCaption_135 (fun w6 H locs hp7 hW hS => ?_)
          obtain ⟨ho8, hn9⟩ := hp7
          have htx := (hn9 _ (by omega)).trans htx
          have hA121_0 := (hn9 _ (by omega)).trans hA121_0
          have hX10 : w6 mo = some (.inr (9, mL mo (rc4 tx v d))) := ho8
          refine lv_aload_n F.1 F.2.1 dX9_readsCaption_138 rfl (lv_at hl 2 rfl) ?_
          refine h_ldcSW (tx := "rear") (i := 2) F hW (by decide +kernel) dX9_readsCaption_139 ?_
          refine cl_RX9_329 (As := [.ref (X.2.2 (10 + 2))]) (rest := []) F hl (c_X9_isWord l X w6 mo (rc4 tx v d) tx 2 hX10 htx hp4 (by decide)) hW hS hX10 rfl rfl ⟨Nat.le_of_ble_eq_true rfl, Nat.le_of_ble_eq_true rfl⟩ (Nat.le_of_ble_eq_true rfl) ⟨Nat.zero_le _, Nat.zero_le _⟩ dX9_readsCaption_142 (fun w1 H locs hp11 hW hS => ?_)
          rw [hp11] at hW; clear hp11; clear w1
          refine h_top (show (bz (isWR tx (rc4 tx v d) 2) : Int) = bz (rcR tx v d) from rfl) ?_
          have join153 : ∀ (H : Heap) (locs : List Loc) (ls : Array Slot), Wd X w6 s H → va_S (cxA X) s.heap H locs → lv_has ls 7 [(2, .int (iI (rcL tx v d))), (1, .int (iI (rcB d))), (0, .ref mo)] → W p l e (rmk 5 108) s m (List.toArray [.ref mo]) below meth c H locs 0 0 (MX X below (List.toArray [.ref mo]) s 0 0 none (fun w' => w' mo = some (.inr (9, mL mo (rc13 tx v d))) ∧ w' (mo + 2) = some (aZ X 1317 (rcE tx v d)) ∧ ∀ q : Nat, q ≠ mo → q ≠ mo + 2 → w' q = w q)) (F0 m 153 ls [.int (iI (bz (rcR tx v d)))]) := by
            intro  H locs ls  hW hS hl
            refine lv_istore_n (lv' := [(3, .int (iI (bz (rcR tx v d)))), (2, .int (iI (rcL tx v d))), (1, .int (iI (rcB d))), (0, .ref mo)]) F.1 F.2.1 dX9_readsCaption_153 rfl hl (by decide) rfl (fun ls hl => ?_)
            have join163 : ∀ (wj5 : Wo) (H : Heap) (locs : List Loc) (ls : Array Slot), (hO163_0 : wj5 mo = some (.inr (9, mL mo (rc5 tx v d)))) → (hF163 : ∀ q : Nat, q ≠ mo → wj5 q = w6 q) → Wd X wj5 s H → va_S (cxA X) s.heap H locs → lv_has ls 7 [(3, .int (iI (bz (rcR tx v d)))), (2, .int (iI (rcL tx v d))), (1, .int (iI (rcB d))), (0, .ref mo)] → W p l e (rmk 5 108) s m (List.toArray [.ref mo]) below meth c H locs 0 0 (MX X below (List.toArray [.ref mo]) s 0 0 none (fun w' => w' mo = some (.inr (9, mL mo (rc13 tx v d))) ∧ w' (mo + 2) = some (aZ X 1317 (rcE tx v d)) ∧ ∀ q : Nat, q ≠ mo → q ≠ mo + 2 → w' q = w q)) (F0 m 163 ls []) := by
              intro  wj5 H locs ls hO163_0 hF163 hW hS hl
              have htx := (hF163 _ (by omega)).trans htx
              have hA121_0 := (hF163 _ (by omega)).trans hA121_0
              refine lv_aload_n F.1 F.2.1 dX9_readsCaption_163 rfl (lv_at hl 3 rfl) ?_
              refine lv_aload_n F.1 F.2.1 dX9_readsCaption_164 rfl (lv_at hl 3 rfl) ?_
              refine h_ldcSW (tx := "at") (i := 3) F hW (by decide +kernel) dX9_readsCaption_165 ?_
              refine cl_RX9_329 (As := [.ref (X.2.2 (10 + 3))]) (rest := [.ref mo]) F hl (c_X9_isWord l X wj5 mo (rc5 tx v d) tx 3 hO163_0 htx hp5 (by decide)) hW hS hO163_0 rfl rfl ⟨Nat.le_of_ble_eq_true rfl, Nat.le_of_ble_eq_true rfl⟩ (Nat.le_of_ble_eq_true rfl) ⟨Nat.zero_le _, Nat.zero_le _⟩ dX9_readsCaption_168 (fun w1 H locs hp12 hW hS => ?_)
              rw [hp12] at hW; clear hp12; clear w1
              refine cl_RX9_323 (As := [.int (iI (bz (isWR tx (rc5 tx v d) 3)))]) (rest := []) F hl (c_X9_must l X wj5 mo (rc5 tx v d) tx (isWR tx (rc5 tx v d) 3) hO163_0 htx hp5) hW hS hO163_0 rfl rfl ⟨Nat.le_of_ble_eq_true rfl, Nat.le_of_ble_eq_true rfl⟩ (Nat.le_of_ble_eq_true rfl) ⟨Nat.zero_le _, Nat.zero_le _⟩ dX9_readsCaption_171 (fun w13 H locs hp14 hW hS => ?_)
              obtain ⟨ho15, hn16⟩ := hp14
              have htx := (hn16 _ (by omega)).trans htx
              have hA121_0 := (hn16 _ (by omega)).trans hA121_0
              have hX17 : w13 mo = some (.inr (9, mL mo (rc6 tx v d))) := ho15
              refine lv_aload_n F.1 F.2.1 dX9_readsCaption_174 rfl (lv_at hl 3 rfl) ?_
              refine h_iconst F dX9_readsCaption_175 ?_
              refine lv_aload_n F.1 F.2.1 dX9_readsCaption_176 rfl (lv_at hl 3 rfl) ?_
              refine gf_RX9_13 F hW hX17 rfl dX9_readsCaption_177 ?_
              refine h_iconst F dX9_readsCaption_180 ?_
              refine h_iald F hW hA121_0 (by omega) (by omega) dX9_readsCaption_181 ?_
              refine h_top (show ((rcD tx v d) 0 : Int) = d 0 from hlo0) ?_
              refine h_iconst F dX9_readsCaption_182 ?_
              refine h_isub (a := d 0) (b := 1) F dX9_readsCaption_183 ?_
              refine cl_RX9_334 (As := [.int (iI 0), .int (iI ((d 0) - 1))]) (rest := []) F hl (c_X9_takesNumber l X w13 mo (rc6 tx v d) tx 0 ((d 0) - 1) hX17 htx hp6 (by omega) (by omega)) hW hS hX17 rfl rfl ⟨Nat.le_of_ble_eq_true rfl, Nat.le_of_ble_eq_true rfl⟩ (Nat.le_of_ble_eq_true rfl) ⟨Nat.zero_le _, Nat.zero_le _⟩ dX9_readsCaption_184 (fun w18 H locs hp19 hW hS => ?_)
              obtain ⟨ho20, hn21⟩ := hp19
              have htx := (hn21 _ (by omega)).trans htx
              have hA121_0 := (hn21 _ (by omega)).trans hA121_0
              refine h_top (show (seR 0 ((d 0) - 1) (rc6 tx v d) : Int) = rcX tx v d from rfl) ?_
              have hX22 : w18 mo = some (.inr (9, mL mo (rc7 tx v d))) := ho20
              refine lv_istore (lv' := [(4, .int (iI (rcX tx v d))), (3, .int (iI (bz (rcR tx v d)))), (2, .int (iI (rcL tx v d))), (1, .int (iI (rcB d))), (0, .ref mo)]) F.1 F.2.1 dX9_readsCaption_187 hl (by decide) rfl (fun ls hl => ?_)
              refine lv_aload_n F.1 F.2.1 dX9_readsCaption_189 rfl (lv_at hl 4 rfl) ?_
              refine h_iconst F dX9_readsCaption_190 ?_
              refine lv_aload_n F.1 F.2.1 dX9_readsCaption_191 rfl (lv_at hl 4 rfl) ?_
              refine gf_RX9_13 F hW hX22 rfl dX9_readsCaption_192 ?_
              refine h_iconst F dX9_readsCaption_195 ?_
              refine h_iald F hW hA121_0 (by omega) (by omega) dX9_readsCaption_196 ?_
              refine h_top (show ((rcD tx v d) 1 : Int) = d 1 from hlo1) ?_
              refine h_iconst F dX9_readsCaption_197 ?_
              refine h_isub (a := d 1) (b := 1) F dX9_readsCaption_198 ?_
              refine cl_RX9_317 (As := [.int (iI 0), .int (iI ((d 1) - 1))]) (rest := []) F hl (c_X9_sees l X w18 mo (rc7 tx v d) tx 0 ((d 1) - 1) hX22 hp7 (by omega) (by omega)) hW hS hX22 rfl rfl ⟨Nat.le_of_ble_eq_true rfl, Nat.le_of_ble_eq_true rfl⟩ (Nat.le_of_ble_eq_true rfl) ⟨Nat.zero_le _, Nat.zero_le _⟩ dX9_readsCaption_199 (fun w23 H locs hp24 hW hS => ?_)
              obtain ⟨ho25, hn26⟩ := hp24
              have htx := (hn26 _ (by omega)).trans htx
              have hA121_0 := (hn26 _ (by omega)).trans hA121_0
              refine h_top (show (seR 0 ((d 1) - 1) (rc7 tx v d) : Int) = rcY tx v d from rfl) ?_
              have hX27 : w23 mo = some (.inr (9, mL mo (rc8 tx v d))) := ho25
              refine lv_istore (lv' := [(5, .int (iI (rcY tx v d))), (4, .int (iI (rcX tx v d))), (3, .int (iI (bz (rcR tx v d)))), (2, .int (iI (rcL tx v d))), (1, .int (iI (rcB d))), (0, .ref mo)]) F.1 F.2.1 dX9_readsCaption_202 hl (by decide) rfl (fun ls hl => ?_)
              have join233 : ∀ (wj9 : Wo) (H : Heap) (locs : List Loc) (ls : Array Slot), (hO233_0 : wj9 mo = some (.inr (9, mL mo (rc9 tx v d)))) → (hF233 : ∀ q : Nat, q ≠ mo → wj9 q = w23 q) → Wd X wj9 s H → va_S (cxA X) s.heap H locs → lv_has ls 7 [(5, .int (iI (rcY tx v d))), (4, .int (iI (rcX tx v d))), (3, .int (iI (bz (rcR tx v d)))), (2, .int (iI (rcL tx v d))), (1, .int (iI (rcB d))), (0, .ref mo)] → W p l e (rmk 5 108) s m (List.toArray [.ref mo]) below meth c H locs 0 0 (MX X below (List.toArray [.ref mo]) s 0 0 none (fun w' => w' mo = some (.inr (9, mL mo (rc13 tx v d))) ∧ w' (mo + 2) = some (aZ X 1317 (rcE tx v d)) ∧ ∀ q : Nat, q ≠ mo → q ≠ mo + 2 → w' q = w q)) (F0 m 233 ls []) := by
                intro  wj9 H locs ls hO233_0 hF233 hW hS hl
                have htx := (hF233 _ (by omega)).trans htx
                have hA121_0 := (hF233 _ (by omega)).trans hA121_0
                have join262 : ∀ (wj10 : Wo) (H : Heap) (locs : List Loc) (ls : Array Slot), (hO262_0 : wj10 mo = some (.inr (9, mL mo (rc10 tx v d)))) → (hF262 : ∀ q : Nat, q ≠ mo → wj10 q = wj9 q) → Wd X wj10 s H → va_S (cxA X) s.heap H locs → lv_has ls 7 [(5, .int (iI (rcY tx v d))), (4, .int (iI (rcX tx v d))), (3, .int (iI (bz (rcR tx v d)))), (2, .int (iI (rcL tx v d))), (1, .int (iI (rcB d))), (0, .ref mo)] → W p l e (rmk 5 108) s m (List.toArray [.ref mo]) below meth c H locs 0 0 (MX X below (List.toArray [.ref mo]) s 0 0 none (fun w' => w' mo = some (.inr (9, mL mo (rc13 tx v d))) ∧ w' (mo + 2) = some (aZ X 1317 (rcE tx v d)) ∧ ∀ q : Nat, q ≠ mo → q ≠ mo + 2 → w' q = w q)) (F0 m 262 ls []) := by
                  intro  wj10 H locs ls hO262_0 hF262 hW hS hl
                  have htx := (hF262 _ (by omega)).trans htx
                  have hA121_0 := (hF262 _ (by omega)).trans hA121_0
                  refine lv_aload_n F.1 F.2.1 dX9_readsCaption_262 rfl (lv_at hl 5 rfl) ?_
                  refine h_iconst F dX9_readsCaption_263 ?_
                  refine cl_RX9_323 (As := [.int (iI 1)]) (rest := []) F hl (c_X9_must l X wj10 mo (rc10 tx v d) tx true hO262_0 htx hp10) hW hS hO262_0 rfl rfl ⟨Nat.le_of_ble_eq_true rfl, Nat.le_of_ble_eq_true rfl⟩ (Nat.le_of_ble_eq_true rfl) ⟨Nat.zero_le _, Nat.zero_le _⟩ dX9_readsCaption_264 (fun w28 H locs hp29 hW hS => ?_)
                  obtain ⟨ho30, hn31⟩ := hp29
                  have htx := (hn31 _ (by omega)).trans htx
                  have hA121_0 := (hn31 _ (by omega)).trans hA121_0
                  have hX32 : w28 mo = some (.inr (9, mL mo (rc11 tx v d))) := ho30
                  refine lv_aload_n F.1 F.2.1 dX9_readsCaption_267 rfl (lv_at hl 5 rfl) ?_
                  refine lv_aload_n F.1 F.2.1 dX9_readsCaption_268 rfl (lv_at hl 5 rfl) ?_
                  refine h_ldcSW (tx := "in") (i := 4) F hW (by decide +kernel) dX9_readsCaption_269 ?_
                  refine cl_RX9_329 (As := [.ref (X.2.2 (10 + 4))]) (rest := [.ref mo]) F hl (c_X9_isWord l X w28 mo (rc11 tx v d) tx 4 hX32 htx hp11 (by decide)) hW hS hX32 rfl rfl ⟨Nat.le_of_ble_eq_true rfl, Nat.le_of_ble_eq_true rfl⟩ (Nat.le_of_ble_eq_true rfl) ⟨Nat.zero_le _, Nat.zero_le _⟩ dX9_readsCaption_272 (fun w1 H locs hp33 hW hS => ?_)
                  rw [hp33] at hW; clear hp33; clear w1
                  refine cl_RX9_323 (As := [.int (iI (bz (isWR tx (rc11 tx v d) 4)))]) (rest := []) F hl (c_X9_must l X w28 mo (rc11 tx v d) tx (isWR tx (rc11 tx v d) 4) hX32 htx hp11) hW hS hX32 rfl rfl ⟨Nat.le_of_ble_eq_true rfl, Nat.le_of_ble_eq_true rfl⟩ (Nat.le_of_ble_eq_true rfl) ⟨Nat.zero_le _, Nat.zero_le _⟩ dX9_readsCaption_275 (fun w34 H locs hp35 hW hS => ?_)
                  obtain ⟨ho36, hn37⟩ := hp35
                  have htx := (hn37 _ (by omega)).trans htx
                  have hA121_0 := (hn37 _ (by omega)).trans hA121_0
                  have hX38 : w34 mo = some (.inr (9, mL mo (rc12 tx v d))) := ho36
                  refine lv_aload_n F.1 F.2.1 dX9_readsCaption_278 rfl (lv_at hl 5 rfl) ?_
                  refine h_iconst F dX9_readsCaption_279 ?_
                  refine h_bipush F dX9_readsCaption_280 rfl ?_
                  refine cl_RX9_334 (As := [.int (iI 1), .int (iI 6)]) (rest := []) F hl (c_X9_takesNumber l X w34 mo (rc12 tx v d) tx 1 6 hX38 htx hp12 (by omega) (by omega)) hW hS hX38 rfl rfl ⟨Nat.le_of_ble_eq_true rfl, Nat.le_of_ble_eq_true rfl⟩ (Nat.le_of_ble_eq_true rfl) ⟨Nat.zero_le _, Nat.zero_le _⟩ dX9_readsCaption_282 (fun w39 H locs hp40 hW hS => ?_)
                  obtain ⟨ho41, hn42⟩ := hp40
                  have htx := (hn42 _ (by omega)).trans htx
                  have hA121_0 := (hn42 _ (by omega)).trans hA121_0
                  refine h_top (show (seR 1 6 (rc12 tx v d) : Int) = rcC tx v d from rfl) ?_
                  have hX43 : w39 mo = some (.inr (9, mL mo (rc13 tx v d))) := ho41
                  refine lv_istore (lv' := [(6, .int (iI (rcC tx v d))), (5, .int (iI (rcY tx v d))), (4, .int (iI (rcX tx v d))), (3, .int (iI (bz (rcR tx v d)))), (2, .int (iI (rcL tx v d))), (1, .int (iI (rcB d))), (0, .ref mo)]) F.1 F.2.1 dX9_readsCaption_285 hl (by decide) rfl (fun ls hl => ?_)
                  refine lv_aload_n F.1 F.2.1 dX9_readsCaption_287 rfl (lv_at hl 6 rfl) ?_
                  refine cl_RX9_299 (As := []) (rest := []) F hl (c_X9_isFine l X w39 mo (rc13 tx v d) hX43 (by omega)) hW hS hX43 rfl rfl ⟨Nat.le_of_ble_eq_true rfl, Nat.le_of_ble_eq_true rfl⟩ (Nat.le_of_ble_eq_true rfl) ⟨Nat.zero_le _, Nat.zero_le _⟩ dX9_readsCaption_288 (fun w1 H locs hp44 hW hS => ?_)
                  rw [hp44] at hW; clear hp44; clear w1
                  refine h_ifneb (tgt := 295) F dX9_readsCaption_291 (by decide) (fun c45 => ?_) (fun c45 => ?_)
                  · have c45d := of_decide_eq_true c45
                    refine lv_aload_n F.1 F.2.1 dX9_readsCaption_295 rfl (lv_at hl 6 rfl) ?_
                    refine gf_RX9_13 F hW hX43 rfl dX9_readsCaption_296 ?_
                    refine lv_iload_n F.1 F.2.1 dX9_readsCaption_299 rfl (lv_at hl 5 rfl) ?_
                    refine h_iconst F dX9_readsCaption_300 ?_
                    refine h_iadd (a := rcB d) (b := 0) F dX9_readsCaption_301 ?_
                    refine lv_iload_n F.1 F.2.1 dX9_readsCaption_302 rfl (lv_at hl 4 rfl) ?_
                    refine h_iast F hW hS hA121_0 (by omega) (by omega) dX9_readsCaption_303 (fun w46 H locs ho48 hn47 hW hS => ?_)
                    have hX43 := (hn47 _ (by omega)).trans hX43
                    have htx := (hn47 _ (by omega)).trans htx
                    refine lv_aload_n F.1 F.2.1 dX9_readsCaption_304 rfl (lv_at hl 6 rfl) ?_
                    refine gf_RX9_13 F hW hX43 rfl dX9_readsCaption_305 ?_
                    refine lv_iload_n F.1 F.2.1 dX9_readsCaption_308 rfl (lv_at hl 5 rfl) ?_
                    refine h_iconst F dX9_readsCaption_309 ?_
                    refine h_iadd (a := rcB d) (b := 1) F dX9_readsCaption_310 ?_
                    refine lv_iload_n F.1 F.2.1 dX9_readsCaption_311 rfl (lv_at hl 3 rfl) ?_
                    refine h_iast F hW hS ho48 (by omega) (by omega) dX9_readsCaption_312 (fun w49 H locs ho51 hn50 hW hS => ?_)
                    have hX43 := (hn50 _ (by omega)).trans hX43
                    have htx := (hn50 _ (by omega)).trans htx
                    refine lv_aload_n F.1 F.2.1 dX9_readsCaption_313 rfl (lv_at hl 6 rfl) ?_
                    refine gf_RX9_13 F hW hX43 rfl dX9_readsCaption_314 ?_
                    refine lv_iload_n F.1 F.2.1 dX9_readsCaption_317 rfl (lv_at hl 5 rfl) ?_
                    refine h_iconst F dX9_readsCaption_318 ?_
                    refine h_iadd (a := rcB d) (b := 2) F dX9_readsCaption_319 ?_
                    refine lv_iload F.1 F.2.1 dX9_readsCaption_320 (lv_at hl 2 rfl) ?_
                    refine h_iast F hW hS ho51 (by omega) (by omega) dX9_readsCaption_322 (fun w52 H locs ho54 hn53 hW hS => ?_)
                    have hX43 := (hn53 _ (by omega)).trans hX43
                    have htx := (hn53 _ (by omega)).trans htx
                    refine lv_aload_n F.1 F.2.1 dX9_readsCaption_323 rfl (lv_at hl 6 rfl) ?_
                    refine gf_RX9_13 F hW hX43 rfl dX9_readsCaption_324 ?_
                    refine lv_iload_n F.1 F.2.1 dX9_readsCaption_327 rfl (lv_at hl 5 rfl) ?_
                    refine h_iconst F dX9_readsCaption_328 ?_
                    refine h_iadd (a := rcB d) (b := 3) F dX9_readsCaption_329 ?_
                    refine lv_iload F.1 F.2.1 dX9_readsCaption_330 (lv_at hl 1 rfl) ?_
                    refine h_iast F hW hS ho54 (by omega) (by omega) dX9_readsCaption_332 (fun w55 H locs ho57 hn56 hW hS => ?_)
                    have hX43 := (hn56 _ (by omega)).trans hX43
                    have htx := (hn56 _ (by omega)).trans htx
                    refine lv_aload_n F.1 F.2.1 dX9_readsCaption_333 rfl (lv_at hl 6 rfl) ?_
                    refine gf_RX9_13 F hW hX43 rfl dX9_readsCaption_334 ?_
                    refine lv_iload_n F.1 F.2.1 dX9_readsCaption_337 rfl (lv_at hl 5 rfl) ?_
                    refine h_iconst F dX9_readsCaption_338 ?_
                    refine h_iadd (a := rcB d) (b := 4) F dX9_readsCaption_339 ?_
                    refine lv_iload F.1 F.2.1 dX9_readsCaption_340 (lv_at hl 0 rfl) ?_
                    refine h_iast F hW hS ho57 (by omega) (by omega) dX9_readsCaption_342 (fun w58 H locs ho60 hn59 hW hS => ?_)
                    have hX43 := (hn59 _ (by omega)).trans hX43
                    have htx := (hn59 _ (by omega)).trans htx
                    refine lv_aload_n F.1 F.2.1 dX9_readsCaption_343 rfl (lv_at hl 6 rfl) ?_
                    refine gf_RX9_13 F hW hX43 rfl dX9_readsCaption_344 ?_
                    refine h_iconst F dX9_readsCaption_347 ?_
                    refine lv_dup2_11 F.1 F.2.1 dX9_readsCaption_348 rfl rfl ?_
                    refine h_iald F hW ho60 (by omega) (by omega) dX9_readsCaption_349 ?_
                    refine h_top (show ((up (up (up (up (up (rcD tx v d) ((rcB d) + 0) (rcL tx v d)) ((rcB d) + 1) (bz (rcR tx v d))) ((rcB d) + 2) (rcX tx v d)) ((rcB d) + 3) (rcY tx v d)) ((rcB d) + 4) (rcC tx v d)) 5 : Int) = d 5 from by unfold up; rw [if_neg (by omega), if_neg (by omega), if_neg (by omega), if_neg (by omega), if_neg (by omega)]; exact hlo5) ?_
                    refine h_iconst F dX9_readsCaption_350 ?_
                    refine h_iadd (a := d 5) (b := 1) F dX9_readsCaption_351 ?_
                    refine h_iast F hW hS ho60 (by omega) (by omega) dX9_readsCaption_352 (fun w61 H locs ho63 hn62 hW hS => ?_)
                    have hX43 := (hn62 _ (by omega)).trans hX43
                    have htx := (hn62 _ (by omega)).trans htx
                    exact h_vret F hr hlk hW hS ⟨hX43, (by (rw [ho63]) <;> (unfold rcE; first | rw [if_neg (by omega)] | (rw [if_pos (by omega)]; rfl))), (fun q h09 h19 => by rw [hn62 q (by omega), hn59 q (by omega), hn56 q (by omega), hn53 q (by omega), hn50 q (by omega), hn47 q (by omega), hn42 q (by omega), hn37 q (by omega), hn31 q (by omega), hF262 q (by omega), hF233 q (by omega), hn26 q (by omega), hn21 q (by omega), hn16 q (by omega), hF163 q (by omega), hn9 q (by omega), hF121 q (by omega), hF69 q (by omega), hn4 q (by omega), hF17 q (by omega)])⟩ dX9_readsCaption_353
                  · have c45d := of_decide_eq_false c45
                    exact h_vret F hr hlk hW hS ⟨hX43, (by (rw [hA121_0]) <;> (unfold rcE; first | rw [if_neg (by omega)] | (rw [if_pos (by omega)]; rfl))), (fun q h09 h19 => by rw [hn42 q (by omega), hn37 q (by omega), hn31 q (by omega), hF262 q (by omega), hF233 q (by omega), hn26 q (by omega), hn21 q (by omega), hn16 q (by omega), hF163 q (by omega), hn9 q (by omega), hF121 q (by omega), hF69 q (by omega), hn4 q (by omega), hF17 q (by omega)])⟩ dX9_readsCaption_294
                refine lv_aload_n F.1 F.2.1 dX9_readsCaption_233 rfl (lv_at hl 5 rfl) ?_
                refine cl_RX9_299 (As := []) (rest := []) F hl (c_X9_isFine l X wj9 mo (rc9 tx v d) hO233_0 (by omega)) hW hS hO233_0 rfl rfl ⟨Nat.le_of_ble_eq_true rfl, Nat.le_of_ble_eq_true rfl⟩ (Nat.le_of_ble_eq_true rfl) ⟨Nat.zero_le _, Nat.zero_le _⟩ dX9_readsCaption_234 (fun w1 H locs hp64 hW hS => ?_)
                rw [hp64] at hW; clear hp64; clear w1
                refine h_ifeqb (tgt := 262) F dX9_readsCaption_237 (by decide) (fun c65 => ?_) (fun c65 => ?_)
                · have c65d := of_decide_eq_false c65
                  exact join262   wj9 _ _ ls (by rw [show (rc10 tx v d : Int → Int) = rc9 tx v d from by unfold rc10; first | rw [if_pos ⟨by omega, by assumption⟩] | rw [if_neg (fun z => by omega)] | rw [if_neg (fun z => by rw [‹meetS _ _ _ _ _ _ = false›] at z; exact absurd z.2 (by decide))]]; exact hO233_0) (fun q h09 => rfl)  hW hS (lv_sub hl [0, 1, 2, 3, 4, 5] rfl)
                · have c65d := of_decide_eq_true c65
                  have h90 := rc9_0 (f := tx) (v := v) (d := d) (by omega)
                  have h80 := rc8_0 (f := tx) (v := v) (d := d) h90.2.1
                  have hl3 := rc3_L hvp h80.1 h80.2
                  have hli := of_decide_eq_true h90.2.2
                  rw [hlo0, hlo1] at hli
                  refine lv_aload_n F.1 F.2.1 dX9_readsCaption_240 rfl (lv_at hl 5 rfl) ?_
                  refine gf_RX9_13 F hW hO233_0 rfl dX9_readsCaption_241 ?_
                  refine lv_iload_n F.1 F.2.1 dX9_readsCaption_244 rfl (lv_at hl 3 rfl) ?_
                  refine lv_iload_n F.1 F.2.1 dX9_readsCaption_245 rfl (lv_at hl 2 rfl) ?_
                  refine lv_iload F.1 F.2.1 dX9_readsCaption_246 (lv_at hl 1 rfl) ?_
                  refine lv_iload F.1 F.2.1 dX9_readsCaption_248 (lv_at hl 0 rfl) ?_
                  refine h_iconst F dX9_readsCaption_250 ?_
                  refine cl_RX9_239 (As := [.ref (mo + 2), .int (iI (rcL tx v d)), .int (iI (bz (rcR tx v d))), .int (iI (rcX tx v d)), .int (iI (rcY tx v d)), .int (iI (-1))]) (rest := []) F hl (c_X9_meets l X wj9 (mo + 2) (rcD tx v d) (rcL tx v d) (bz (rcR tx v d)) (rcX tx v d) (rcY tx v d) (-1) hA121_0 hWD (by omega) (by omega) (by rw [hlo0]; omega) (by rw [hlo1]; omega) (by omega)) hW hS rfl rfl ⟨Nat.le_of_ble_eq_true rfl, Nat.le_of_ble_eq_true rfl⟩ (Nat.le_of_ble_eq_true rfl) ⟨Nat.zero_le _, Nat.zero_le _⟩ dX9_readsCaption_251 (fun w1 H locs hp66 hW hS => ?_)
                  rw [hp66] at hW; clear hp66; clear w1
                  refine h_ifeqb (tgt := 262) F dX9_readsCaption_254 (by decide) (fun c67 => ?_) (fun c67 => ?_)
                  · exact join262   wj9 _ _ ls (by rw [show (rc10 tx v d : Int → Int) = rc9 tx v d from by unfold rc10; first | rw [if_pos ⟨by omega, by assumption⟩] | rw [if_neg (fun z => by omega)] | rw [if_neg (fun z => by rw [‹meetS _ _ _ _ _ _ = false›] at z; exact absurd z.2 (by decide))]]; exact hO233_0) (fun q h09 => rfl)  hW hS (lv_sub hl [0, 1, 2, 3, 4, 5] rfl)
                  · refine lv_aload_n F.1 F.2.1 dX9_readsCaption_257 rfl (lv_at hl 5 rfl) ?_
                    refine h_iconst F dX9_readsCaption_258 ?_
                    refine cl_RX9_311 (As := [.int (iI 5)]) (rest := []) F hl (c_X9_fails l X wj9 mo (rc9 tx v d) 5 hO233_0 (by omega)) hW hS hO233_0 rfl rfl ⟨Nat.le_of_ble_eq_true rfl, Nat.le_of_ble_eq_true rfl⟩ (Nat.le_of_ble_eq_true rfl) ⟨Nat.zero_le _, Nat.zero_le _⟩ dX9_readsCaption_259 (fun w68 H locs hp69 hW hS => ?_)
                    obtain ⟨ho70, hn71⟩ := hp69
                    have htx := (hn71 _ (by omega)).trans htx
                    have hA121_0 := (hn71 _ (by omega)).trans hA121_0
                    exact join262   w68 _ _ ls (by rw [show (rc10 tx v d : Int → Int) = faV 5 (rc9 tx v d) from by unfold rc10; first | rw [if_pos ⟨by omega, by assumption⟩] | rw [if_neg (fun z => by omega)] | rw [if_neg (fun z => by rw [‹meetS _ _ _ _ _ _ = false›] at z; exact absurd z.2 (by decide))]]; exact ho70) (fun q h09 => by rw [hn71 q (by omega)])  hW hS (lv_sub hl [0, 1, 2, 3, 4, 5] rfl)
              refine lv_aload_n F.1 F.2.1 dX9_readsCaption_204 rfl (lv_at hl 5 rfl) ?_
              refine cl_RX9_299 (As := []) (rest := []) F hl (c_X9_isFine l X w23 mo (rc8 tx v d) hX27 (by omega)) hW hS hX27 rfl rfl ⟨Nat.le_of_ble_eq_true rfl, Nat.le_of_ble_eq_true rfl⟩ (Nat.le_of_ble_eq_true rfl) ⟨Nat.zero_le _, Nat.zero_le _⟩ dX9_readsCaption_205 (fun w1 H locs hp72 hW hS => ?_)
              rw [hp72] at hW; clear hp72; clear w1
              refine h_ifeqb (tgt := 233) F dX9_readsCaption_208 (by decide) (fun c73 => ?_) (fun c73 => ?_)
              · have c73d := of_decide_eq_false c73
                exact join233   w23 _ _ ls (by rw [show (rc9 tx v d : Int → Int) = rc8 tx v d from by unfold rc9; first | rw [if_pos ⟨by omega, by assumption⟩] | rw [if_neg (fun z => by omega)] | rw [if_neg (fun z => by rw [‹liesS _ _ _ _ = true›] at z; exact absurd z.2 (by decide))]]; exact hX27) (fun q h09 => rfl)  hW hS (lv_sub hl [0, 1, 2, 3, 4, 5] rfl)
              · have c73d := of_decide_eq_true c73
                have h80 := rc8_0 (f := tx) (v := v) (d := d) (by omega)
                have hl3 := rc3_L hvp h80.1 h80.2
                refine lv_aload_n F.1 F.2.1 dX9_readsCaption_211 rfl (lv_at hl 5 rfl) ?_
                refine gf_RX9_13 F hW hX27 rfl dX9_readsCaption_212 ?_
                refine lv_iload_n F.1 F.2.1 dX9_readsCaption_215 rfl (lv_at hl 3 rfl) ?_
                refine lv_iload F.1 F.2.1 dX9_readsCaption_216 (lv_at hl 1 rfl) ?_
                refine h_i2l F dX9_readsCaption_218 (by omega) ?_
                refine lv_iload F.1 F.2.1 dX9_readsCaption_219 (lv_at hl 0 rfl) ?_
                refine h_i2l F dX9_readsCaption_221 (by omega) ?_
                refine cl_RX9_235 (As := [.ref (mo + 2), .int (iI (rcL tx v d)), .long (lI (rcX tx v d)), .long (lI (rcY tx v d))]) (rest := []) F hl (c_X9_lies l X w23 (mo + 2) (rcD tx v d) (rcL tx v d) (rcX tx v d) (rcY tx v d) hA121_0 hWD (by omega) (by omega) (by omega)) hW hS rfl rfl ⟨Nat.le_of_ble_eq_true rfl, Nat.le_of_ble_eq_true rfl⟩ (Nat.le_of_ble_eq_true rfl) ⟨Nat.zero_le _, Nat.zero_le _⟩ dX9_readsCaption_222 (fun w1 H locs hp74 hW hS => ?_)
                rw [hp74] at hW; clear hp74; clear w1
                refine h_ifneb (tgt := 233) F dX9_readsCaption_225 (by decide) (fun c75 => ?_) (fun c75 => ?_)
                · exact join233   w23 _ _ ls (by rw [show (rc9 tx v d : Int → Int) = rc8 tx v d from by unfold rc9; first | rw [if_pos ⟨by omega, by assumption⟩] | rw [if_neg (fun z => by omega)] | rw [if_neg (fun z => by rw [‹liesS _ _ _ _ = true›] at z; exact absurd z.2 (by decide))]]; exact hX27) (fun q h09 => rfl)  hW hS (lv_sub hl [0, 1, 2, 3, 4, 5] rfl)
                · refine lv_aload_n F.1 F.2.1 dX9_readsCaption_228 rfl (lv_at hl 5 rfl) ?_
                  refine h_iconst F dX9_readsCaption_229 ?_
                  refine cl_RX9_311 (As := [.int (iI 4)]) (rest := []) F hl (c_X9_fails l X w23 mo (rc8 tx v d) 4 hX27 (by omega)) hW hS hX27 rfl rfl ⟨Nat.le_of_ble_eq_true rfl, Nat.le_of_ble_eq_true rfl⟩ (Nat.le_of_ble_eq_true rfl) ⟨Nat.zero_le _, Nat.zero_le _⟩ dX9_readsCaption_230 (fun w76 H locs hp77 hW hS => ?_)
                  obtain ⟨ho78, hn79⟩ := hp77
                  have htx := (hn79 _ (by omega)).trans htx
                  have hA121_0 := (hn79 _ (by omega)).trans hA121_0
                  exact join233   w76 _ _ ls (by rw [show (rc9 tx v d : Int → Int) = faV 4 (rc8 tx v d) from by unfold rc9; first | rw [if_pos ⟨by omega, by assumption⟩] | rw [if_neg (fun z => by omega)] | rw [if_neg (fun z => by rw [‹liesS _ _ _ _ = true›] at z; exact absurd z.2 (by decide))]]; exact ho78) (fun q h09 => by rw [hn79 q (by omega)])  hW hS (lv_sub hl [0, 1, 2, 3, 4, 5] rfl)
            refine lv_iload_n F.1 F.2.1 dX9_readsCaption_154 rfl (lv_at hl 0 rfl) ?_
            refine h_iconst F dX9_readsCaption_155 ?_
            refine h_icne (tgt := 163) F dX9_readsCaption_156 (by decide) (by have := bz_r (rcR tx v d);  omega) (fun c80 => ?_) (fun c80 => ?_)
            · exact join163   w6 _ _ ls (by rw [show (rc5 tx v d : Int → Int) = rc4 tx v d from by unfold rc5; first | rw [if_pos (bz_1 (by omega))] | rw [if_neg (by rw [bz_0 (b := rcR tx v d) (by omega)]; decide)]]; exact hX10) (fun q h09 => rfl)  hW hS (lv_sub hl [0, 1, 2, 3] rfl)
            · refine lv_aload_n F.1 F.2.1 dX9_readsCaption_159 rfl (lv_at hl 3 rfl) ?_
              refine cl_RX9_314 (As := []) (rest := []) F hl (c_X9_goesOn l X w6 mo (rc4 tx v d) tx hX10 htx hp4.1.1 (by have := hp4.1.r; omega) hp4.1.2.1) hW hS hX10 rfl rfl ⟨Nat.le_of_ble_eq_true rfl, Nat.le_of_ble_eq_true rfl⟩ (Nat.le_of_ble_eq_true rfl) ⟨Nat.zero_le _, Nat.zero_le _⟩ dX9_readsCaption_160 (fun w81 H locs hp82 hW hS => ?_)
              obtain ⟨ho83, hn84⟩ := hp82
              have htx := (hn84 _ (by omega)).trans htx
              have hA121_0 := (hn84 _ (by omega)).trans hA121_0
              exact join163   w81 _ _ ls (by rw [show (rc5 tx v d : Int → Int) = goV tx (rc4 tx v d) from by unfold rc5; first | rw [if_pos (bz_1 (by omega))] | rw [if_neg (by rw [bz_0 (b := rcR tx v d) (by omega)]; decide)]]; exact ho83) (fun q h09 => by rw [hn84 q (by omega)])  hW hS (lv_sub hl [0, 1, 2, 3] rfl)
          refine h_ifeqb (tgt := 152) F dX9_readsCaption_145 (by decide) (fun c85 => ?_) (fun c85 => ?_)
          · refine h_iconst F dX9_readsCaption_152 ?_
            refine h_top (show (0 : Int) = bz (rcR tx v d) from by first | exact bzt (by assumption) | exact bzf (by assumption)) ?_
            exact join153  _ _ ls  hW hS (lv_sub hl [0, 1, 2] rfl)
          · refine h_iconst F dX9_readsCaption_148 ?_
            refine h_goto (tgt := 153) F dX9_readsCaption_149 (by decide) ?_
            refine h_top (show (1 : Int) = bz (rcR tx v d) from by first | exact bzt (by assumption) | exact bzf (by assumption)) ?_
            exact join153  _ _ ls  hW hS (lv_sub hl [0, 1, 2] rfl)
        refine h_icne (tgt := 134) F dX9_readsCaption_127 (by decide) (by omega) (fun c86 => ?_) (fun c86 => ?_)
        · refine h_iconst F dX9_readsCaption_134 ?_
          refine h_top (show (0 : Int) = bz (decide (rc3 tx v d 16 = 1)) from bzf (by first | exact decide_eq_false (by omega) | (simp only [Bool.and_eq_false_iff, Bool.or_eq_false_iff, decide_eq_false_iff_not]; omega) | simp_all)) ?_
          exact join135  _ _ ls  hW hS (lv_sub hl [0, 1, 2] rfl)
        · refine h_iconst F dX9_readsCaption_130 ?_
          refine h_goto (tgt := 135) F dX9_readsCaption_131 (by decide) ?_
          refine h_top (show (1 : Int) = bz (decide (rc3 tx v d 16 = 1)) from bzt (by first | exact decide_eq_true (by omega) | (simp only [Bool.and_eq_true, Bool.or_eq_true, decide_eq_true_eq]; omega) | simp_all)) ?_
          exact join135  _ _ ls  hW hS (lv_sub hl [0, 1, 2] rfl)
      refine h_iconst F dX9_readsCaption_69 ?_
      refine lv_istore_n (lv' := [(3, .int (iI 0)), (2, .int (iI (rcL tx v d))), (1, .int (iI (rcB d))), (0, .ref mo)]) F.1 F.2.1 dX9_readsCaption_70 rfl hl (by decide) rfl (fun ls hl => ?_)
      have loop71 : ∀ (n9 : Nat) (i : Int), (hrg : 0 ≤ i ∧ i ≤ rcL tx v d) → (hms : rcL tx v d - i < (n9 : Int)) → (wz9 : Wo) → (hA71_0 : wz9 (mo + 2) = some (aZ X 1317 (letS d (rcB d + 5) tx (rc3 tx v d 15) i))) → (hF71 : ∀ q : Nat, q ≠ mo + 2 → wz9 q = wj3 q) → (hz : i = 0 ∨ (rc3 tx v d 18 = 0 ∧ rc3 tx v d 16 = 1)) → (H : Heap) → (locs : List Loc) → (ls : Array Slot) → Wd X wz9 s H → va_S (cxA X) s.heap H locs → lv_has ls 7 [(3, .int (iI i)), (2, .int (iI (rcL tx v d))), (1, .int (iI (rcB d))), (0, .ref mo)] → W p l e (rmk 5 108) s m (List.toArray [.ref mo]) below meth c H locs 0 0 (MX X below (List.toArray [.ref mo]) s 0 0 none (fun w' => w' mo = some (.inr (9, mL mo (rc13 tx v d))) ∧ w' (mo + 2) = some (aZ X 1317 (rcE tx v d)) ∧ ∀ q : Nat, q ≠ mo → q ≠ mo + 2 → w' q = w q)) (F0 m 71 ls []) := by
        intro n9
        induction n9 with
        | zero => intro i  hrg hms; exfalso; omega
        | succ n9 ih71 =>
          intro i  hrg hms wz9 hA71_0 hF71 hz H locs ls hW hS hl
          have hO69_0 := (hF71 _ (by omega)).trans hO69_0
          have htx := (hF71 _ (by omega)).trans htx
          refine lv_iload_n F.1 F.2.1 dX9_readsCaption_71 rfl (lv_at hl 0 rfl) ?_
          refine lv_iload_n F.1 F.2.1 dX9_readsCaption_72 rfl (lv_at hl 1 rfl) ?_
          refine h_icge (tgt := 121) F dX9_readsCaption_73 (by decide) (by omega) (fun c87 => ?_) (fun c87 => ?_)
          · exact join121   wz9 _ _ ls (by rw [show (rcD tx v d : Int → Int) = letS d (rcB d + 5) tx (rc3 tx v d 15) i from by unfold rcD; by_cases hcc : rc3 tx v d 18 = 0 ∧ rc3 tx v d 16 = 1; (rw [if_pos hcc, show i = rcL tx v d by omega]); (rw [if_neg hcc, show i = 0 from hz.elim id (fun z => absurd z hcc), let_0])]; exact hA71_0) (fun q h09 => by rw [hF71 q (by omega)])  hW hS (lv_sub hl [1, 2, 3] rfl)
          · refine lv_aload_n F.1 F.2.1 dX9_readsCaption_76 rfl (lv_at hl 3 rfl) ?_
            refine cl_RX9_299 (As := []) (rest := []) F hl (c_X9_isFine l X wz9 mo (rc3 tx v d) hO69_0 (by omega)) hW hS hO69_0 rfl rfl ⟨Nat.le_of_ble_eq_true rfl, Nat.le_of_ble_eq_true rfl⟩ (Nat.le_of_ble_eq_true rfl) ⟨Nat.zero_le _, Nat.zero_le _⟩ dX9_readsCaption_77 (fun w1 H locs hp88 hW hS => ?_)
            rw [hp88] at hW; clear hp88; clear w1
            refine h_ifeqb (tgt := 121) F dX9_readsCaption_80 (by decide) (fun c89 => ?_) (fun c89 => ?_)
            · have c89d := of_decide_eq_false c89
              exact join121   wz9 _ _ ls (by rw [show (rcD tx v d : Int → Int) = letS d (rcB d + 5) tx (rc3 tx v d 15) i from by unfold rcD; by_cases hcc : rc3 tx v d 18 = 0 ∧ rc3 tx v d 16 = 1; (rw [if_pos hcc, show i = rcL tx v d by omega]); (rw [if_neg hcc, show i = 0 from hz.elim id (fun z => absurd z hcc), let_0])]; exact hA71_0) (fun q h09 => by rw [hF71 q (by omega)])  hW hS (lv_sub hl [1, 2, 3] rfl)
            · have c89d := of_decide_eq_true c89
              refine lv_aload_n F.1 F.2.1 dX9_readsCaption_83 rfl (lv_at hl 3 rfl) ?_
              refine gf_RX9_288 F hW hO69_0 rfl dX9_readsCaption_84 ?_
              refine h_iconst F dX9_readsCaption_87 ?_
              refine h_icne (tgt := 121) F dX9_readsCaption_88 (by decide) (by omega) (fun c90 => ?_) (fun c90 => ?_)
              · exact join121   wz9 _ _ ls (by rw [show (rcD tx v d : Int → Int) = letS d (rcB d + 5) tx (rc3 tx v d 15) i from by unfold rcD; by_cases hcc : rc3 tx v d 18 = 0 ∧ rc3 tx v d 16 = 1; (rw [if_pos hcc, show i = rcL tx v d by omega]); (rw [if_neg hcc, show i = 0 from hz.elim id (fun z => absurd z hcc), let_0])]; exact hA71_0) (fun q h09 => by rw [hF71 q (by omega)])  hW hS (lv_sub hl [1, 2, 3] rfl)
              · have hl3 := rc3_L hvp (by omega) (by omega)
                have e14 : rc3 tx v d 14 = rc2 tx v d 14 := by rw [hl3.1]
                have e15 : rc3 tx v d 15 = rc2 tx v d 15 := by rw [hl3.1]
                have hb9 := (hp3.1.2.1 (rc3 tx v d 15 + i) (by omega) (by have := hp3.1.1; have := wd_p hp3.1 (by omega); omega))
                refine lv_aload_n F.1 F.2.1 dX9_readsCaption_91 rfl (lv_at hl 3 rfl) ?_
                refine gf_RX9_13 F hW hO69_0 rfl dX9_readsCaption_92 ?_
                refine lv_iload_n F.1 F.2.1 dX9_readsCaption_95 rfl (lv_at hl 2 rfl) ?_
                refine h_iconst F dX9_readsCaption_96 ?_
                refine h_iadd (a := rcB d) (b := 5) F dX9_readsCaption_97 ?_
                refine lv_iload_n F.1 F.2.1 dX9_readsCaption_98 rfl (lv_at hl 0 rfl) ?_
                refine h_iadd (a := (rcB d) + 5) (b := i) F dX9_readsCaption_99 ?_
                refine lv_aload_n F.1 F.2.1 dX9_readsCaption_100 rfl (lv_at hl 3 rfl) ?_
                refine gf_RX9_29 F hW hO69_0 rfl dX9_readsCaption_101 ?_
                refine lv_aload_n F.1 F.2.1 dX9_readsCaption_104 rfl (lv_at hl 3 rfl) ?_
                refine gf_RX9_282 F hW hO69_0 rfl dX9_readsCaption_105 ?_
                refine lv_iload_n F.1 F.2.1 dX9_readsCaption_108 rfl (lv_at hl 0 rfl) ?_
                refine h_iadd (a := (rc3 tx v d) 15) (b := i) F dX9_readsCaption_109 ?_
                refine h_iald F hW htx (by omega) (by omega) dX9_readsCaption_110 ?_
                refine h_bipush F dX9_readsCaption_111 rfl ?_
                refine h_isub (a := tx (((rc3 tx v d) 15) + i)) (b := 97) F dX9_readsCaption_113 ?_
                refine h_iast F hW hS hA71_0 (by omega) (by omega) dX9_readsCaption_114 (fun w91 H locs ho93 hn92 hW hS => ?_)
                have hO69_0 := (hn92 _ (by omega)).trans hO69_0
                have htx := (hn92 _ (by omega)).trans htx
                refine h_iinc (k := 0) (a := i) (lv' := [(3, .int (iI (i + 1))), (2, .int (iI (rcL tx v d))), (1, .int (iI (rcB d))), (0, .ref mo)]) F dX9_readsCaption_115 hl rfl (by decide) rfl (fun ls hl => ?_)
                refine h_goto (tgt := 71) F dX9_readsCaption_118 (by decide) ?_
                have eq94 : ((i + 1) : Int) = i + 1 := by first | rfl | omega | simp
                exact ih71 (i + 1)  (by omega) (by omega) w91 (by rw [show (letS d (rcB d + 5) tx (rc3 tx v d 15) (i + 1) : Int → Int) = up (letS d (rcB d + 5) tx (rc3 tx v d 15) i) (((rcB d) + 5) + i) ((tx (((rc3 tx v d) 15) + i)) - 97) from (let_s (by omega))]; exact ho93) (fun q h09 => by rw [hn92 q (by omega), hF71 q (by omega)]) (.inr ⟨by omega, by omega⟩) _ _ ls hW hS (by rw [eq94]; exact lv_sub hl [0, 1, 2, 3] rfl)
      exact loop71 ((rcL tx v d - 0) + 1 : Int).toNat 0  (by omega) (by omega) wj3 (by rw [show (letS d (rcB d + 5) tx (rc3 tx v d 15) 0 : Int → Int) = d from let_0 _ _ _ _]; exact hd) (fun q _ => rfl) (.inl rfl) _ _ ls hW hS (lv_sub hl [0, 1, 2, 3] rfl)
    refine lv_aload_n F.1 F.2.1 dX9_readsCaption_50 rfl (lv_at hl 2 rfl) ?_
    refine gf_RX9_288 F hW hX5 rfl dX9_readsCaption_51 ?_
    refine h_iconst F dX9_readsCaption_54 ?_
    refine h_icne (tgt := 69) F dX9_readsCaption_55 (by decide) (by omega) (fun c95 => ?_) (fun c95 => ?_)
    · exact join69   w1 _ _ ls (by rw [show (rc3 tx v d : Int → Int) = rc2 tx v d from by unfold rc3; first | rw [if_pos (by omega)] | rw [if_neg (by omega)]]; exact hX5) (fun q h09 => rfl)  hW hS (lv_sub hl [0, 1, 2] rfl)
    · refine lv_iload_n F.1 F.2.1 dX9_readsCaption_58 rfl (lv_at hl 0 rfl) ?_
      refine h_bipush F dX9_readsCaption_59 rfl ?_
      refine h_icle (tgt := 69) F dX9_readsCaption_61 (by decide) (by omega) (fun c96 => ?_) (fun c96 => ?_)
      · exact join69   w1 _ _ ls (by rw [show (rc3 tx v d : Int → Int) = rc2 tx v d from by unfold rc3; first | rw [if_pos (by omega)] | rw [if_neg (by omega)]]; exact hX5) (fun q h09 => rfl)  hW hS (lv_sub hl [0, 1, 2] rfl)
      · refine lv_aload_n F.1 F.2.1 dX9_readsCaption_64 rfl (lv_at hl 2 rfl) ?_
        refine h_iconst F dX9_readsCaption_65 ?_
        refine cl_RX9_311 (As := [.int (iI 2)]) (rest := []) F hl (c_X9_fails l X w1 mo (rc2 tx v d) 2 hX5 (by omega)) hW hS hX5 rfl rfl ⟨Nat.le_of_ble_eq_true rfl, Nat.le_of_ble_eq_true rfl⟩ (Nat.le_of_ble_eq_true rfl) ⟨Nat.zero_le _, Nat.zero_le _⟩ dX9_readsCaption_66 (fun w97 H locs hp98 hW hS => ?_)
        obtain ⟨ho99, hn100⟩ := hp98
        have htx := (hn100 _ (by omega)).trans htx
        have hd := (hn100 _ (by omega)).trans hd
        exact join69   w97 _ _ ls (by rw [show (rc3 tx v d : Int → Int) = faV 2 (rc2 tx v d) from by unfold rc3; first | rw [if_pos (by omega)] | rw [if_neg (by omega)]]; exact ho99) (fun q h09 => by rw [hn100 q (by omega)])  hW hS (lv_sub hl [0, 1, 2] rfl)
  refine lv_aload_n F.1 F.2.1 dX9_readsCaption_0 rfl (lv_at hl 0 rfl) ?_
  refine gf_RX9_13 F hW hM rfl dX9_readsCaption_1 ?_
  refine h_iconst F dX9_readsCaption_4 ?_
  refine h_iald F hW hd (by omega) (by omega) dX9_readsCaption_5 ?_
  refine h_bipush F dX9_readsCaption_6 rfl ?_
  refine h_icne (tgt := 17) F dX9_readsCaption_8 (by decide) (by omega) (fun c101 => ?_) (fun c101 => ?_)
  · exact join17   w _ _ ls (by rw [show (rc1 v d : Int → Int) = v from by unfold rc1; first | rw [if_pos (by omega)] | rw [if_neg (by omega)]]; exact hM) (fun q h09 => rfl)  hW hS (lv_sub hl [0] rfl)
  · refine lv_aload_n F.1 F.2.1 dX9_readsCaption_11 rfl (lv_at hl 0 rfl) ?_
    refine h_bipush F dX9_readsCaption_12 rfl ?_
    refine cl_RX9_311 (As := [.int (iI 6)]) (rest := []) F hl (c_X9_fails l X w mo v 6 hM (by omega)) hW hS hM rfl rfl ⟨Nat.le_of_ble_eq_true rfl, Nat.le_of_ble_eq_true rfl⟩ (Nat.le_of_ble_eq_true rfl) ⟨Nat.zero_le _, Nat.zero_le _⟩ dX9_readsCaption_14 (fun w102 H locs hp103 hW hS => ?_)
    obtain ⟨ho104, hn105⟩ := hp103
    have htx := (hn105 _ (by omega)).trans htx
    have hd := (hn105 _ (by omega)).trans hd
    exact join17   w102 _ _ ls (by rw [show (rc1 v d : Int → Int) = faV 6 v from by unfold rc1; first | rw [if_pos (by omega)] | rw [if_neg (by omega)]]; exact ho104) (fun q h09 => by rw [hn105 q (by omega)])  hW hS (lv_sub hl [0] rfl)
