set_option maxHeartbeats 4000000 in
set_option maxRecDepth 100000 in
theorem c_J5_append_cf1ce (l : Launch) (X : Cx) (w : Wo) (u0 b : Nat) (ml : Int32) (n : Int) (cp : Nat) (f : Int → Int) (C9 : Nat) (z0 mz : Nat) (g : Int → Int) (hu : w u0 = some (.inr (12, [.ref b, .int (iI 0), .int ml, .int (iI n)]))) (hb0 : w b = some (aY X cp f)) (hby : ∀ j, 0 ≤ j → j < (cp : Int) → 0 ≤ f j ∧ f j < 128) (hm : 0 ≤ n ∧ n ≤ (cp : Int) ∧ 2 * (n + ((mz : Nat) : Int)) ≤ (C9 : Int) ∧ cp ≤ C9 ∧ C9 < 100000 ∧ 0 ≤ ((mz : Nat) : Int)) (hs : str X w z0 mz g) (hg : ∀ j, 0 ≤ j → j < (mz : Int) → 0 ≤ g j ∧ g j < 128) : CM l X yJ5_append_cf1ce cJ5_append_cf1ce 3 (some (.object "java/lang/AbstractStringBuilder")) (rmG 4 1 C9 94) [.ref u0, .ref z0] w (some (.ref u0)) (fun w' => ∃ (b9 cp9 : Nat), ∃ (f9 : Int → Int), w' u0 = some (.inr (12, [.ref b9, .int (iI 0), .int ml, .int (iI (n + ((mz : Nat) : Int)))])) ∧ w' b9 = some (aY X cp9 f9) ∧ (n + ((mz : Nat) : Int) ≤ (cp9 : Int) ∧ cp9 ≤ C9) ∧ (∀ j, 0 ≤ j → j < n → f9 j = f j) ∧ (∀ j, 0 ≤ j → j < ((mz : Nat) : Int) → f9 (n + j) = g j) ∧ (∀ j, 0 ≤ j → j < (cp9 : Int) → 0 ≤ f9 j ∧ f9 j < 128) ∧ (b9 = b ∨ frs w b9) ∧ (u0 ≠ b9) ∧ ∀ (q : Nat) (e : va_E), w q = some e → q ≠ u0 → q ≠ b → w' q = some e) := by
  refine CM.of (lv := [(0, .ref u0), (1, .ref z0)]) (by decide) (Nat.le_of_ble_eq_true rfl) rfl (fun p e s m below meth c ls F hr hlk hin hW hS hl => ?_)
  have hZ0 := hW.2.2
  have hB9 := hW.1.2
  clear hin
  have hub : u0 ≠ b := fun e9 => by rw [e9, hb0] at hu; cases hu
  have hm9 : (mz : Int) < 100000 := by omega
  refine lv_aload_n F.1 F.2.1 dJ5_append_cf1ce_0 rfl (lv_at hl 1 rfl) ?_
  refine lv_ifnonnull (tgt := 9) F.1 F.2.1 dJ5_append_cf1ce_1 (by decide) ?_
  refine lv_aload_n F.1 F.2.1 dJ5_append_cf1ce_9 rfl (lv_at hl 1 rfl) ?_
  refine cs_RJ5_32 (As := []) (rest := []) F hl (cS_len l X w z0 mz g hs (by omega)) hW hS (str.rc (n := mz) (f := g) hs hW hZ0 hS) rfl rfl ⟨Nat.le_of_ble_eq_true rfl, Nat.le_of_ble_eq_true rfl⟩ (Nat.le_of_ble_eq_true rfl) ⟨(by show 0 + 0 ≤ 1; omega), (by show 0 + 0 ≤ C9; omega)⟩ dJ5_append_cf1ce_10 (fun w1 H locs hp1 hW hS => ?_)
  rw [hp1] at hW; clear hp1; clear w1
  refine lv_istore_n (lv' := [(2, .int (iI ((mz : Nat) : Int))), (0, .ref u0), (1, .ref z0)]) F.1 F.2.1 dJ5_append_cf1ce_13 rfl hl (by decide) rfl (fun ls hl => ?_)
  refine lv_aload_n F.1 F.2.1 dJ5_append_cf1ce_14 rfl (lv_at hl 1 rfl) ?_
  refine lv_aload_n F.1 F.2.1 dJ5_append_cf1ce_15 rfl (lv_at hl 1 rfl) ?_
  refine gf_RJ5_79 F hW hu rfl dJ5_append_cf1ce_16 ?_
  refine lv_iload_n F.1 F.2.1 dJ5_append_cf1ce_19 rfl (lv_at hl 0 rfl) ?_
  refine h_iadd (a := n) (b := ((mz : Nat) : Int)) F dJ5_append_cf1ce_20 ?_
  refine cl_RJ5_100 (As := [.int (iI (n + ((mz : Nat) : Int)))]) (rest := []) F hl (c_ens l X w u0 b ml n cp f (n + ((mz : Nat) : Int)) C9 hu hb0 hby (by omega)) hW hS hu rfl rfl ⟨Nat.le_of_ble_eq_true rfl, Nat.le_of_ble_eq_true rfl⟩ (Nat.le_of_ble_eq_true rfl) ⟨(by show 0 + 0 + 1 ≤ 1; omega), (by show 0 + 0 + C9 ≤ C9; omega)⟩ dJ5_append_cf1ce_21 (fun w2 H locs hp3 hW hS => ?_)
  obtain ⟨bx, cx, fx, ho4, ha5, hm1, hm2, hm3, hm4, hm5, hx6⟩ := hp3
  skip
  refine lv_aload_n F.1 F.2.1 dJ5_append_cf1ce_24 rfl (lv_at hl 1 rfl) ?_
  refine lv_aload_n F.1 F.2.1 dJ5_append_cf1ce_25 rfl (lv_at hl 1 rfl) ?_
  refine gf_RJ5_79 F hW ho4 rfl dJ5_append_cf1ce_26 ?_
  refine lv_aload_n F.1 F.2.1 dJ5_append_cf1ce_29 rfl (lv_at hl 2 rfl) ?_
  refine cl_RJ5_208 (As := [.int (iI n), .ref z0]) (rest := []) F hl (c_J5_putStringAt_47b60 l X w2 u0 bx ml n cx fx n z0 mz g ho4 ha5 (hs.x12 hx6 hu) hg (by omega)) hW hS ho4 rfl rfl ⟨Nat.le_of_ble_eq_true rfl, Nat.le_of_ble_eq_true rfl⟩ (Nat.le_of_ble_eq_true rfl) ⟨(by show 0 + 0 + 1 + 0 ≤ 1; omega), (by show 0 + 0 + C9 + 0 ≤ C9; omega)⟩ dJ5_append_cf1ce_30 (fun w7 H locs hp8 hW hS => ?_)
  obtain ⟨ha9, hn10⟩ := hp8
  have ho4 := (hn10 _ (by omega)).trans ho4
  refine lv_aload_n F.1 F.2.1 dJ5_append_cf1ce_33 rfl (lv_at hl 1 rfl) ?_
  refine lv_dup F.1 F.2.1 dJ5_append_cf1ce_34 rfl ?_
  refine gf_RJ5_79 F hW ho4 rfl dJ5_append_cf1ce_35 ?_
  refine lv_iload_n F.1 F.2.1 dJ5_append_cf1ce_38 rfl (lv_at hl 0 rfl) ?_
  refine h_iadd (a := n) (b := ((mz : Nat) : Int)) F dJ5_append_cf1ce_39 ?_
  refine pf_RJ5_79 F hW hS hZ0 hB9 ho4 (Nat.le_of_ble_eq_true rfl) dJ5_append_cf1ce_40 (fun w11 H locs ho13 hn12 hW hS => ?_)
  have ho13 : w11 u0 = some (.inr (12, [.ref bx, .int (iI 0), .int ml, .int (iI (n + ((mz : Nat) : Int)))])) := ho13
  have ha9 := (hn12 _ (by omega)).trans ha9
  refine lv_aload_n F.1 F.2.1 dJ5_append_cf1ce_43 rfl (lv_at hl 1 rfl) ?_
  refine W.wd (mc := 1) (ms := C9) (by omega) (by omega) ?_
  have hX9 : ∀ (q : Nat) (e : va_E), w q = some e → q ≠ u0 → q ≠ b → w11 q = some e := fun q e h9 h09 h19 => by
    have hqx := sb_ne hm4 h9 h19
    have h9 := hx6 q e h9 (by omega)
    have h9 := (hn10 q (by omega)).trans h9
    have h9 := (hn12 q (by omega)).trans h9
    exact h9
  exact h_aret F hr hlk hW hS ⟨_, _, _, (by (rw [ho13]) <;> (rfl)), (by (rw [ha9]) <;> (rfl)), ⟨by omega, by omega⟩, (fun j h1 h2 => by rw [cpY_lo h2]; exact hm2 j h1 h2), (fun j h1 h2 => cpY_in ⟨h1, h2⟩), (cpY_r hm3 hg hm.1), hm4, hm5, hX9⟩ dJ5_append_cf1ce_44
set_option maxHeartbeats 4000000 in
set_option maxRecDepth 100000 in
theorem c_J5_append_3fe6f (l : Launch) (X : Cx) (w : Wo) (u0 b : Nat) (ml : Int32) (n : Int) (cp : Nat) (f : Int → Int) (C9 : Nat) (x : Int) (hu : w u0 = some (.inr (12, [.ref b, .int (iI 0), .int ml, .int (iI n)]))) (hb0 : w b = some (aY X cp f)) (hby : ∀ j, 0 ≤ j → j < (cp : Int) → 0 ≤ f j ∧ f j < 128) (hm : 0 ≤ n ∧ n ≤ (cp : Int) ∧ 2 * (n + 1) ≤ (C9 : Int) ∧ cp ≤ C9 ∧ C9 < 100000 ∧ 0 ≤ 1) (hx9 : 0 ≤ x ∧ x < 128) : CM l X yJ5_append_3fe6f cJ5_append_3fe6f 2 (some (.object "java/lang/AbstractStringBuilder")) (rmG 4 1 C9 94) [.ref u0, .int (iI x)] w (some (.ref u0)) (fun w' => ∃ (b9 cp9 : Nat), ∃ (f9 : Int → Int), w' u0 = some (.inr (12, [.ref b9, .int (iI 0), .int ml, .int (iI (n + 1))])) ∧ w' b9 = some (aY X cp9 f9) ∧ (n + 1 ≤ (cp9 : Int) ∧ cp9 ≤ C9) ∧ (∀ j, 0 ≤ j → j < n → f9 j = f j) ∧ (∀ j, 0 ≤ j → j < 1 → f9 (n + j) = x) ∧ (∀ j, 0 ≤ j → j < (cp9 : Int) → 0 ≤ f9 j ∧ f9 j < 128) ∧ (b9 = b ∨ frs w b9) ∧ (u0 ≠ b9) ∧ ∀ (q : Nat) (e : va_E), w q = some e → q ≠ u0 → q ≠ b → w' q = some e) := by
  refine CM.of (lv := [(0, .ref u0), (1, .int (iI x))]) (by decide) (Nat.le_of_ble_eq_true rfl) rfl (fun p e s m below meth c ls F hr hlk hin hW hS hl => ?_)
  have hZ0 := hW.2.2
  have hB9 := hW.1.2
  clear hin
  have hub : u0 ≠ b := fun e9 => by rw [e9, hb0] at hu; cases hu
  refine lv_aload_n F.1 F.2.1 dJ5_append_3fe6f_0 rfl (lv_at hl 0 rfl) ?_
  refine lv_aload_n F.1 F.2.1 dJ5_append_3fe6f_1 rfl (lv_at hl 0 rfl) ?_
  refine gf_RJ5_79 F hW hu rfl dJ5_append_3fe6f_2 ?_
  refine h_iconst F dJ5_append_3fe6f_5 ?_
  refine h_iadd (a := n) (b := 1) F dJ5_append_3fe6f_6 ?_
  refine cl_RJ5_100 (As := [.int (iI (n + 1))]) (rest := []) F hl (c_ens l X w u0 b ml n cp f (n + 1) C9 hu hb0 hby (by omega)) hW hS hu rfl rfl ⟨Nat.le_of_ble_eq_true rfl, Nat.le_of_ble_eq_true rfl⟩ (Nat.le_of_ble_eq_true rfl) ⟨(by show 0 + 1 ≤ 1; omega), (by show 0 + C9 ≤ C9; omega)⟩ dJ5_append_3fe6f_7 (fun w1 H locs hp2 hW hS => ?_)
  obtain ⟨bx, cx, fx, ho3, ha4, hm1, hm2, hm3, hm4, hm5, hx5⟩ := hp2
  skip
  refine lv_aload_n F.1 F.2.1 dJ5_append_3fe6f_10 rfl (lv_at hl 0 rfl) ?_
  refine cl_RJ5_83 (As := []) (rest := []) F hl (c_J5_isLatin1_aae02 l X w1 u0 bx ml n ho3) hW hS ho3 rfl rfl ⟨Nat.le_of_ble_eq_true rfl, Nat.le_of_ble_eq_true rfl⟩ (Nat.le_of_ble_eq_true rfl) ⟨(by show 0 + 1 + 0 ≤ 1; omega), (by show 0 + C9 + 0 ≤ C9; omega)⟩ dJ5_append_3fe6f_11 (fun w1 H locs hp6 hW hS => ?_)
  rw [hp6] at hW; clear hp6; clear w1
  refine h_ifeqb (tgt := 45) F dJ5_append_3fe6f_14 (by decide) (fun c9 => absurd c9 (by decide)) (fun _ => ?_)
  refine lv_iload_n F.1 F.2.1 dJ5_append_3fe6f_17 rfl (lv_at hl 1 rfl) ?_
  refine cl_RJ5_191 (As := [.int (iI x)]) (rest := []) F hl (c_J1_canEncode_fc78d l X w1 x (by omega)) hW hS rfl rfl ⟨Nat.le_of_ble_eq_true rfl, Nat.le_of_ble_eq_true rfl⟩ (Nat.le_of_ble_eq_true rfl) ⟨(by show 0 + 1 + 0 + 0 ≤ 1; omega), (by show 0 + C9 + 0 + 0 ≤ C9; omega)⟩ dJ5_append_3fe6f_18 (fun w1 H locs hp8 hW hS => ?_)
  rw [hp8] at hW; clear hp8; clear w1
  refine h_ifeqb (tgt := 45) F dJ5_append_3fe6f_21 (by decide) (fun c9 => absurd c9 (by decide)) (fun _ => ?_)
  refine lv_aload_n F.1 F.2.1 dJ5_append_3fe6f_24 rfl (lv_at hl 0 rfl) ?_
  refine gf_RJ5_15 F hW ho3 rfl dJ5_append_3fe6f_25 ?_
  refine lv_aload_n F.1 F.2.1 dJ5_append_3fe6f_28 rfl (lv_at hl 0 rfl) ?_
  refine lv_dup F.1 F.2.1 dJ5_append_3fe6f_29 rfl ?_
  refine gf_RJ5_79 F hW ho3 rfl dJ5_append_3fe6f_30 ?_
  refine lv_dup_x1 F.1 F.2.1 dJ5_append_3fe6f_33 rfl rfl ?_
  refine h_iconst F dJ5_append_3fe6f_34 ?_
  refine h_iadd (a := n) (b := 1) F dJ5_append_3fe6f_35 ?_
  refine pf_RJ5_79 F hW hS hZ0 hB9 ho3 (Nat.le_of_ble_eq_true rfl) dJ5_append_3fe6f_36 (fun w10 H locs ho12 hn11 hW hS => ?_)
  have ho12 : w10 u0 = some (.inr (12, [.ref bx, .int (iI 0), .int ml, .int (iI (n + 1))])) := ho12
  have ha4 := (hn11 _ (by omega)).trans ha4
  refine lv_iload_n F.1 F.2.1 dJ5_append_3fe6f_39 rfl (lv_at hl 1 rfl) ?_
  refine lv_i2b (v := iI x) F.1 F.2.1 dJ5_append_3fe6f_40 (i2b_id (by omega)) ?_
  refine h_yast F hW hS hZ0 hB9 ha4 (by omega) (by omega) (by omega) dJ5_append_3fe6f_41 (fun w13 H locs ho15 hn14 hW hS => ?_)
  have ho12 := (hn14 _ (by omega)).trans ho12
  refine h_goto (tgt := 75) F dJ5_append_3fe6f_42 (by decide) ?_
  refine lv_aload_n F.1 F.2.1 dJ5_append_3fe6f_75 rfl (lv_at hl 0 rfl) ?_
  refine W.wd (mc := 1) (ms := C9) (by omega) (by omega) ?_
  have hX9 : ∀ (q : Nat) (e : va_E), w q = some e → q ≠ u0 → q ≠ b → w13 q = some e := fun q e h9 h09 h19 => by
    have hqx := sb_ne hm4 h9 h19
    have h9 := hx5 q e h9 (by omega)
    have h9 := (hn11 q (by omega)).trans h9
    have h9 := (hn14 q (by omega)).trans h9
    exact h9
  exact h_aret F hr hlk hW hS ⟨_, _, _, (by (rw [ho12]) <;> (rfl)), (by (rw [ho15]) <;> (rfl)), ⟨by omega, by omega⟩, (fun j h1 h2 => by rw [up_n (by omega)]; exact hm2 j h1 h2), (fun j h1 h2 => by rw [show n + j = n by omega, up_s]), (up_r hm3 hx9), hm4, hm5, hX9⟩ dJ5_append_3fe6f_76
set_option maxHeartbeats 4000000 in
set_option maxRecDepth 100000 in
theorem c_J6_stringSize_0f7a4 (l : Launch) (X : Cx) (w : Wo) (x : Int) (hx9 : 0 ≤ x ∧ x < 1000) : CM l X yJ6_stringSize_0f7a4 cJ6_stringSize_0f7a4 4 (some (.int)) (rmG 0 0 0 0) [.int (iI x)] w (some (.int (iI (dlN x)))) (fun w' => w' = w) := by
  refine CM.of (lv := [(0, .int (iI x))]) (by decide) (Nat.le_of_ble_eq_true rfl) rfl (fun p e s m below meth c ls F hr hlk hin hW hS hl => ?_)
  have hZ0 := hW.2.2
  have hB9 := hW.1.2
  clear hin
  refine h_iconst F dJ6_stringSize_0f7a4_0 ?_
  refine lv_istore_n (lv' := [(1, .int (iI 1)), (0, .int (iI x))]) F.1 F.2.1 dJ6_stringSize_0f7a4_1 rfl hl (by decide) rfl (fun ls hl => ?_)
  refine lv_iload_n F.1 F.2.1 dJ6_stringSize_0f7a4_2 rfl (lv_at hl 1 rfl) ?_
  refine h_iflt (tgt := 11) F dJ6_stringSize_0f7a4_3 (by decide) (by omega) (fun c1 => ?_) (fun c1 => ?_)
  · exfalso; omega
  · refine h_iconst F dJ6_stringSize_0f7a4_6 ?_
    refine lv_istore_n (lv' := [(1, .int (iI 0)), (0, .int (iI x))]) F.1 F.2.1 dJ6_stringSize_0f7a4_7 rfl hl (by decide) rfl (fun ls hl => ?_)
    refine lv_iload_n F.1 F.2.1 dJ6_stringSize_0f7a4_8 rfl (lv_at hl 1 rfl) ?_
    refine h_ineg F dJ6_stringSize_0f7a4_9 ?_
    refine lv_istore_n (lv' := [(0, .int (iI (-x))), (1, .int (iI 0))]) F.1 F.2.1 dJ6_stringSize_0f7a4_10 rfl hl (by decide) rfl (fun ls hl => ?_)
    refine h_bipush F dJ6_stringSize_0f7a4_11 rfl ?_
    refine lv_istore_n (lv' := [(2, .int (iI (-10))), (0, .int (iI (-x))), (1, .int (iI 0))]) F.1 F.2.1 dJ6_stringSize_0f7a4_13 rfl hl (by decide) rfl (fun ls hl => ?_)
    refine h_iconst F dJ6_stringSize_0f7a4_14 ?_
    refine lv_istore_n (lv' := [(3, .int (iI 1)), (2, .int (iI (-10))), (0, .int (iI (-x))), (1, .int (iI 0))]) F.1 F.2.1 dJ6_stringSize_0f7a4_15 rfl hl (by decide) rfl (fun ls hl => ?_)
    refine lv_iload_n F.1 F.2.1 dJ6_stringSize_0f7a4_16 rfl (lv_at hl 0 rfl) ?_
    refine h_bipush F dJ6_stringSize_0f7a4_17 rfl ?_
    refine h_icge (tgt := 42) F dJ6_stringSize_0f7a4_19 (by decide) (by decide) (fun c9 => absurd c9 (by decide)) (fun _ => ?_)
    refine lv_iload_n F.1 F.2.1 dJ6_stringSize_0f7a4_22 rfl (lv_at hl 2 rfl) ?_
    refine lv_iload_n F.1 F.2.1 dJ6_stringSize_0f7a4_23 rfl (lv_at hl 1 rfl) ?_
    refine h_icle (tgt := 31) F dJ6_stringSize_0f7a4_24 (by decide) (by omega) (fun c3 => ?_) (fun c3 => ?_)
    · refine h_bipush F dJ6_stringSize_0f7a4_31 rfl ?_
      refine lv_iload_n F.1 F.2.1 dJ6_stringSize_0f7a4_33 rfl (lv_at hl 1 rfl) ?_
      refine h_imul (a := 10) (b := (-10)) F dJ6_stringSize_0f7a4_34 ?_
      refine h_top (show (10 * (-10) : Int) = -100 from by omega) ?_
      refine lv_istore_n (lv' := [(2, .int (iI (-100))), (3, .int (iI 1)), (0, .int (iI (-x))), (1, .int (iI 0))]) F.1 F.2.1 dJ6_stringSize_0f7a4_35 rfl hl (by decide) rfl (fun ls hl => ?_)
      refine h_iinc (k := 1) (a := 1) (lv' := [(3, .int (iI (1 + 1))), (2, .int (iI (-100))), (0, .int (iI (-x))), (1, .int (iI 0))]) F dJ6_stringSize_0f7a4_36 hl rfl (by decide) rfl (fun ls hl => ?_)
      refine h_goto (tgt := 16) F dJ6_stringSize_0f7a4_39 (by decide) ?_
      refine lv_iload_n F.1 F.2.1 dJ6_stringSize_0f7a4_16 rfl (lv_at hl 0 rfl) ?_
      refine h_bipush F dJ6_stringSize_0f7a4_17 rfl ?_
      refine h_icge (tgt := 42) F dJ6_stringSize_0f7a4_19 (by decide) (by omega) (fun c4 => ?_) (fun c4 => ?_)
      · refine h_bipush F dJ6_stringSize_0f7a4_42 rfl ?_
        refine lv_iload_n F.1 F.2.1 dJ6_stringSize_0f7a4_44 rfl (lv_at hl 3 rfl) ?_
        refine h_iadd (a := 10) (b := 0) F dJ6_stringSize_0f7a4_45 ?_
        refine h_top (show (10 + 0 : Int) = dlN x from by first | rfl | omega | (simp_all; done)) ?_
        exact h_ireti F hr hlk hW hS rfl dJ6_stringSize_0f7a4_46
      · refine lv_iload_n F.1 F.2.1 dJ6_stringSize_0f7a4_22 rfl (lv_at hl 2 rfl) ?_
        refine lv_iload_n F.1 F.2.1 dJ6_stringSize_0f7a4_23 rfl (lv_at hl 1 rfl) ?_
        refine h_icle (tgt := 31) F dJ6_stringSize_0f7a4_24 (by decide) (by omega) (fun c5 => ?_) (fun c5 => ?_)
        · refine h_bipush F dJ6_stringSize_0f7a4_31 rfl ?_
          refine lv_iload_n F.1 F.2.1 dJ6_stringSize_0f7a4_33 rfl (lv_at hl 1 rfl) ?_
          refine h_imul (a := 10) (b := -100) F dJ6_stringSize_0f7a4_34 ?_
          refine lv_istore_n (lv' := [(2, .int (iI (10 * (-100)))), (3, .int (iI (1 + 1))), (0, .int (iI (-x))), (1, .int (iI 0))]) F.1 F.2.1 dJ6_stringSize_0f7a4_35 rfl hl (by decide) rfl (fun ls hl => ?_)
          refine h_iinc (k := 1) (a := 1 + 1) (lv' := [(3, .int (iI ((1 + 1) + 1))), (2, .int (iI (10 * (-100)))), (0, .int (iI (-x))), (1, .int (iI 0))]) F dJ6_stringSize_0f7a4_36 hl rfl (by decide) rfl (fun ls hl => ?_)
          refine h_goto (tgt := 16) F dJ6_stringSize_0f7a4_39 (by decide) ?_
          refine lv_iload_n F.1 F.2.1 dJ6_stringSize_0f7a4_16 rfl (lv_at hl 0 rfl) ?_
          refine h_bipush F dJ6_stringSize_0f7a4_17 rfl ?_
          refine h_icge (tgt := 42) F dJ6_stringSize_0f7a4_19 (by decide) (by omega) (fun c6 => ?_) (fun c6 => ?_)
          · refine h_bipush F dJ6_stringSize_0f7a4_42 rfl ?_
            refine lv_iload_n F.1 F.2.1 dJ6_stringSize_0f7a4_44 rfl (lv_at hl 3 rfl) ?_
            refine h_iadd (a := 10) (b := 0) F dJ6_stringSize_0f7a4_45 ?_
            refine h_top (show (10 + 0 : Int) = dlN x from by first | rfl | omega | (simp_all; done)) ?_
            exact h_ireti F hr hlk hW hS rfl dJ6_stringSize_0f7a4_46
          · refine lv_iload_n F.1 F.2.1 dJ6_stringSize_0f7a4_22 rfl (lv_at hl 2 rfl) ?_
            refine lv_iload_n F.1 F.2.1 dJ6_stringSize_0f7a4_23 rfl (lv_at hl 1 rfl) ?_
            refine h_icle (tgt := 31) F dJ6_stringSize_0f7a4_24 (by decide) (by omega) (fun c7 => by exfalso; omega) (fun c7 => ?_)
            refine lv_iload_n F.1 F.2.1 dJ6_stringSize_0f7a4_27 rfl (lv_at hl 0 rfl) ?_
            refine lv_iload_n F.1 F.2.1 dJ6_stringSize_0f7a4_28 rfl (lv_at hl 3 rfl) ?_
            refine h_iadd (a := (1 + 1) + 1) (b := 0) F dJ6_stringSize_0f7a4_29 ?_
            refine h_top (show (((1 + 1) + 1) + 0 : Int) = dlN x from by unfold dlN; (repeat split) <;> omega) ?_
            exact h_ireti F hr hlk hW hS rfl dJ6_stringSize_0f7a4_30
        · refine lv_iload_n F.1 F.2.1 dJ6_stringSize_0f7a4_27 rfl (lv_at hl 0 rfl) ?_
          refine lv_iload_n F.1 F.2.1 dJ6_stringSize_0f7a4_28 rfl (lv_at hl 3 rfl) ?_
          refine h_iadd (a := 1 + 1) (b := 0) F dJ6_stringSize_0f7a4_29 ?_
          refine h_top (show ((1 + 1) + 0 : Int) = dlN x from by unfold dlN; (repeat split) <;> omega) ?_
          exact h_ireti F hr hlk hW hS rfl dJ6_stringSize_0f7a4_30
    · refine lv_iload_n F.1 F.2.1 dJ6_stringSize_0f7a4_27 rfl (lv_at hl 0 rfl) ?_
      refine lv_iload_n F.1 F.2.1 dJ6_stringSize_0f7a4_28 rfl (lv_at hl 3 rfl) ?_
      refine h_iadd (a := 1) (b := 0) F dJ6_stringSize_0f7a4_29 ?_
      refine h_top (show (1 + 0 : Int) = dlN x from by unfold dlN; (repeat split) <;> omega) ?_
      exact h_ireti F hr hlk hW hS rfl dJ6_stringSize_0f7a4_30
set_option maxHeartbeats 4000000 in
set_option maxRecDepth 100000 in
theorem c_gch_a (l : Launch) (X : Cx) (w : Wo) (b cp : Nat) (f : Int → Int) (x at9 : Int) (hb0 : w b = some (aY X cp f)) (hby : ∀ j, 0 ≤ j → j < (cp : Int) → 0 ≤ f j ∧ f j < 128) (hat : 3 ≤ at9 + 3 - dlN x ∧ dlN x ≤ at9 ∧ at9 ≤ (cp : Int) ∧ cp < 100000) (hx9 : 0 ≤ x ∧ x < 10) : CM l X yJ6_getChars_ba4f3 cJ6_getChars_ba4f3 7 (some (.int)) (rmG 0 0 0 0) [.int (iI x), .int (iI at9), .ref b] w (some (.int (iI (at9 - dlN x)))) (fun w' => ∃ (f9 : Int → Int), w' b = some (aY X cp f9) ∧ (∀ j, 0 ≤ j → j < dlN x → f9 (at9 - dlN x + j) = dgC x j) ∧ (∀ j, j < at9 - dlN x → f9 j = f j) ∧ (∀ j, 0 ≤ j → j < (cp : Int) → 0 ≤ f9 j ∧ f9 j < 128) ∧ ∀ (q : Nat) (e : va_E), w q = some e → q ≠ b → w' q = some e) := by
  refine CM.of (lv := [(0, .int (iI x)), (1, .int (iI at9)), (2, .ref b)]) (by decide) (Nat.le_of_ble_eq_true rfl) rfl (fun p e s m below meth c ls F hr hlk hin hW hS hl => ?_)
  have hZ0 := hW.2.2
  have hB9 := hW.1.2
  clear hin
  have hdl : dlN x = 1 := by unfold dlN; (repeat split) <;> omega
  refine lv_iload_n F.1 F.2.1 dJ6_getChars_ba4f3_0 rfl (lv_at hl 1 rfl) ?_
  refine lv_istore (lv' := [(5, .int (iI at9)), (0, .int (iI x)), (1, .int (iI at9)), (2, .ref b)]) F.1 F.2.1 dJ6_getChars_ba4f3_1 hl (by decide) rfl (fun ls hl => ?_)
  refine lv_iload_n F.1 F.2.1 dJ6_getChars_ba4f3_3 rfl (lv_at hl 1 rfl) ?_
  refine h_ifge (tgt := 11) F dJ6_getChars_ba4f3_4 (by decide) (by omega) (fun c1 => ?_) (fun c1 => ?_)
  · refine h_iconst F dJ6_getChars_ba4f3_11 ?_
    refine lv_istore (lv' := [(6, .int (iI 0)), (5, .int (iI at9)), (0, .int (iI x)), (1, .int (iI at9)), (2, .ref b)]) F.1 F.2.1 dJ6_getChars_ba4f3_12 hl (by decide) rfl (fun ls hl => ?_)
    refine lv_iload F.1 F.2.1 dJ6_getChars_ba4f3_14 (lv_at hl 0 rfl) ?_
    refine h_ifne (tgt := 22) F dJ6_getChars_ba4f3_16 (by decide) (by decide) (fun c9 => absurd c9 (by decide)) (fun _ => ?_)
    refine lv_iload_n F.1 F.2.1 dJ6_getChars_ba4f3_19 rfl (lv_at hl 2 rfl) ?_
    refine h_ineg F dJ6_getChars_ba4f3_20 ?_
    refine lv_istore_n (lv' := [(0, .int (iI (-x))), (6, .int (iI 0)), (5, .int (iI at9)), (1, .int (iI at9)), (2, .ref b)]) F.1 F.2.1 dJ6_getChars_ba4f3_21 rfl hl (by decide) rfl (fun ls hl => ?_)
    refine lv_iload_n F.1 F.2.1 dJ6_getChars_ba4f3_22 rfl (lv_at hl 0 rfl) ?_
    refine h_bipush F dJ6_getChars_ba4f3_23 rfl ?_
    refine h_icgt (tgt := 72) F dJ6_getChars_ba4f3_25 (by decide) (by omega) (fun c3 => ?_) (fun c3 => by exfalso; omega)
    refine lv_aload_n F.1 F.2.1 dJ6_getChars_ba4f3_72 rfl (lv_at hl 4 rfl) ?_
    refine h_iinc (k := 2) (a := at9) (lv' := [(5, .int (iI (at9 + (-1)))), (0, .int (iI (-x))), (6, .int (iI 0)), (1, .int (iI at9)), (2, .ref b)]) F dJ6_getChars_ba4f3_73 hl rfl (by decide) rfl (fun ls hl => ?_)
    refine lv_iload F.1 F.2.1 dJ6_getChars_ba4f3_76 (lv_at hl 0 rfl) ?_
    refine h_gstat F hZ0.2.2.2.2.2.2.2.2.1 hS kf_RJ6_83 dJ6_getChars_ba4f3_78 ?_
    refine lv_iload_n F.1 F.2.1 dJ6_getChars_ba4f3_81 rfl (lv_at hl 1 rfl) ?_
    refine h_ineg F dJ6_getChars_ba4f3_82 ?_
    refine h_top (show (-(-x) : Int) = x from by omega) ?_
    refine va_tb F.1 F.2.1 hZ0.2.2.2.2.2.2.2.2.2 hS (iI_in (n := 100) (by omega) (by omega)) (v := .int (iI (48 + (x) % 10))) (by rw [iI_clamp (by omega), show ((x).toNat : Int) = x by omega]) dJ6_getChars_ba4f3_83 ?_
    refine h_yast F hW hS hZ0 hB9 hb0 (by omega) (by omega) (by omega) dJ6_getChars_ba4f3_84 (fun w4 H locs ho6 hn5 hW hS => ?_)
    refine lv_iload_n F.1 F.2.1 dJ6_getChars_ba4f3_85 rfl (lv_at hl 1 rfl) ?_
    refine h_bipush F dJ6_getChars_ba4f3_86 rfl ?_
    refine h_icge (tgt := 104) F dJ6_getChars_ba4f3_88 (by decide) (by omega) (fun c7 => ?_) (fun c7 => ?_)
    · refine lv_iload F.1 F.2.1 dJ6_getChars_ba4f3_104 (lv_at hl 2 rfl) ?_
      refine h_ifeq (tgt := 118) F dJ6_getChars_ba4f3_106 (by decide) (by decide) (fun _ => ?_) (fun c9 => absurd c9 (by decide))
      refine lv_iload F.1 F.2.1 dJ6_getChars_ba4f3_118 (lv_at hl 0 rfl) ?_
      refine W.wd (mc := 0) (ms := 0) (by omega) (by omega) ?_
      have hX9 : ∀ (q : Nat) (e : va_E), w q = some e → q ≠ b → w4 q = some e := fun q e h9 h09 => by
        have h9 := (hn5 q (by omega)).trans h9
        exact h9
      refine h_top (show (at9 + (-1) : Int) = at9 - dlN x from by rw [hdl]; omega) ?_
      exact h_ireti F hr hlk hW hS ⟨_, (by (rw [ho6]) <;> (rfl)), (fun j h1 h2 => by rw [hdl] at h2 ⊢; unfold up dgC; (repeat' split) <;> omega), (fun j h1 => by rw [hdl] at h1; unfold up; (repeat' split) <;> first | omega | rfl), (by repeat' (first | exact hby | refine up_r ?_ (by omega))), hX9⟩ dJ6_getChars_ba4f3_120
    · exfalso; omega
  · exfalso; omega
set_option maxHeartbeats 4000000 in
set_option maxRecDepth 100000 in
theorem c_gch_b (l : Launch) (X : Cx) (w : Wo) (b cp : Nat) (f : Int → Int) (x at9 : Int) (hb0 : w b = some (aY X cp f)) (hby : ∀ j, 0 ≤ j → j < (cp : Int) → 0 ≤ f j ∧ f j < 128) (hat : 3 ≤ at9 + 3 - dlN x ∧ dlN x ≤ at9 ∧ at9 ≤ (cp : Int) ∧ cp < 100000) (hx9 : 10 ≤ x ∧ x < 100) : CM l X yJ6_getChars_ba4f3 cJ6_getChars_ba4f3 7 (some (.int)) (rmG 0 0 0 0) [.int (iI x), .int (iI at9), .ref b] w (some (.int (iI (at9 - dlN x)))) (fun w' => ∃ (f9 : Int → Int), w' b = some (aY X cp f9) ∧ (∀ j, 0 ≤ j → j < dlN x → f9 (at9 - dlN x + j) = dgC x j) ∧ (∀ j, j < at9 - dlN x → f9 j = f j) ∧ (∀ j, 0 ≤ j → j < (cp : Int) → 0 ≤ f9 j ∧ f9 j < 128) ∧ ∀ (q : Nat) (e : va_E), w q = some e → q ≠ b → w' q = some e) := by
  refine CM.of (lv := [(0, .int (iI x)), (1, .int (iI at9)), (2, .ref b)]) (by decide) (Nat.le_of_ble_eq_true rfl) rfl (fun p e s m below meth c ls F hr hlk hin hW hS hl => ?_)
  have hZ0 := hW.2.2
  have hB9 := hW.1.2
  clear hin
  have hdl : dlN x = 2 := by unfold dlN; (repeat split) <;> omega
  refine lv_iload_n F.1 F.2.1 dJ6_getChars_ba4f3_0 rfl (lv_at hl 1 rfl) ?_
  refine lv_istore (lv' := [(5, .int (iI at9)), (0, .int (iI x)), (1, .int (iI at9)), (2, .ref b)]) F.1 F.2.1 dJ6_getChars_ba4f3_1 hl (by decide) rfl (fun ls hl => ?_)
  refine lv_iload_n F.1 F.2.1 dJ6_getChars_ba4f3_3 rfl (lv_at hl 1 rfl) ?_
  refine h_ifge (tgt := 11) F dJ6_getChars_ba4f3_4 (by decide) (by omega) (fun c1 => ?_) (fun c1 => ?_)
  · refine h_iconst F dJ6_getChars_ba4f3_11 ?_
    refine lv_istore (lv' := [(6, .int (iI 0)), (5, .int (iI at9)), (0, .int (iI x)), (1, .int (iI at9)), (2, .ref b)]) F.1 F.2.1 dJ6_getChars_ba4f3_12 hl (by decide) rfl (fun ls hl => ?_)
    refine lv_iload F.1 F.2.1 dJ6_getChars_ba4f3_14 (lv_at hl 0 rfl) ?_
    refine h_ifne (tgt := 22) F dJ6_getChars_ba4f3_16 (by decide) (by decide) (fun c9 => absurd c9 (by decide)) (fun _ => ?_)
    refine lv_iload_n F.1 F.2.1 dJ6_getChars_ba4f3_19 rfl (lv_at hl 2 rfl) ?_
    refine h_ineg F dJ6_getChars_ba4f3_20 ?_
    refine lv_istore_n (lv' := [(0, .int (iI (-x))), (6, .int (iI 0)), (5, .int (iI at9)), (1, .int (iI at9)), (2, .ref b)]) F.1 F.2.1 dJ6_getChars_ba4f3_21 rfl hl (by decide) rfl (fun ls hl => ?_)
    refine lv_iload_n F.1 F.2.1 dJ6_getChars_ba4f3_22 rfl (lv_at hl 0 rfl) ?_
    refine h_bipush F dJ6_getChars_ba4f3_23 rfl ?_
    refine h_icgt (tgt := 72) F dJ6_getChars_ba4f3_25 (by decide) (by omega) (fun c3 => ?_) (fun c3 => by exfalso; omega)
    refine lv_aload_n F.1 F.2.1 dJ6_getChars_ba4f3_72 rfl (lv_at hl 4 rfl) ?_
    refine h_iinc (k := 2) (a := at9) (lv' := [(5, .int (iI (at9 + (-1)))), (0, .int (iI (-x))), (6, .int (iI 0)), (1, .int (iI at9)), (2, .ref b)]) F dJ6_getChars_ba4f3_73 hl rfl (by decide) rfl (fun ls hl => ?_)
    refine lv_iload F.1 F.2.1 dJ6_getChars_ba4f3_76 (lv_at hl 0 rfl) ?_
    refine h_gstat F hZ0.2.2.2.2.2.2.2.2.1 hS kf_RJ6_83 dJ6_getChars_ba4f3_78 ?_
    refine lv_iload_n F.1 F.2.1 dJ6_getChars_ba4f3_81 rfl (lv_at hl 1 rfl) ?_
    refine h_ineg F dJ6_getChars_ba4f3_82 ?_
    refine h_top (show (-(-x) : Int) = x from by omega) ?_
    refine va_tb F.1 F.2.1 hZ0.2.2.2.2.2.2.2.2.2 hS (iI_in (n := 100) (by omega) (by omega)) (v := .int (iI (48 + (x) % 10))) (by rw [iI_clamp (by omega), show ((x).toNat : Int) = x by omega]) dJ6_getChars_ba4f3_83 ?_
    refine h_yast F hW hS hZ0 hB9 hb0 (by omega) (by omega) (by omega) dJ6_getChars_ba4f3_84 (fun w4 H locs ho6 hn5 hW hS => ?_)
    refine lv_iload_n F.1 F.2.1 dJ6_getChars_ba4f3_85 rfl (lv_at hl 1 rfl) ?_
    refine h_bipush F dJ6_getChars_ba4f3_86 rfl ?_
    refine h_icge (tgt := 104) F dJ6_getChars_ba4f3_88 (by decide) (by omega) (fun c7 => ?_) (fun c7 => ?_)
    · exfalso; omega
    · refine lv_aload_n F.1 F.2.1 dJ6_getChars_ba4f3_91 rfl (lv_at hl 4 rfl) ?_
      refine h_iinc (k := 0) (a := at9 + (-1)) (lv' := [(5, .int (iI ((at9 + (-1)) + (-1)))), (0, .int (iI (-x))), (6, .int (iI 0)), (1, .int (iI at9)), (2, .ref b)]) F dJ6_getChars_ba4f3_92 hl rfl (by decide) rfl (fun ls hl => ?_)
      refine lv_iload F.1 F.2.1 dJ6_getChars_ba4f3_95 (lv_at hl 0 rfl) ?_
      refine h_gstat F hZ0.2.2.2.2.2.2.2.1.1 hS kf_RJ6_87 dJ6_getChars_ba4f3_97 ?_
      refine lv_iload_n F.1 F.2.1 dJ6_getChars_ba4f3_100 rfl (lv_at hl 1 rfl) ?_
      refine h_ineg F dJ6_getChars_ba4f3_101 ?_
      refine h_top (show (-(-x) : Int) = x from by omega) ?_
      refine va_tb F.1 F.2.1 hZ0.2.2.2.2.2.2.2.1.2 hS (iI_in (n := 100) (by omega) (by omega)) (v := .int (iI (48 + (x) / 10))) (by rw [iI_clamp (by omega), show ((x).toNat : Int) = x by omega]) dJ6_getChars_ba4f3_102 ?_
      refine h_yast F hW hS hZ0 hB9 ho6 (by omega) (by omega) (by omega) dJ6_getChars_ba4f3_103 (fun w8 H locs ho10 hn9 hW hS => ?_)
      refine lv_iload F.1 F.2.1 dJ6_getChars_ba4f3_104 (lv_at hl 2 rfl) ?_
      refine h_ifeq (tgt := 118) F dJ6_getChars_ba4f3_106 (by decide) (by decide) (fun _ => ?_) (fun c9 => absurd c9 (by decide))
      refine lv_iload F.1 F.2.1 dJ6_getChars_ba4f3_118 (lv_at hl 0 rfl) ?_
      refine W.wd (mc := 0) (ms := 0) (by omega) (by omega) ?_
      have hX9 : ∀ (q : Nat) (e : va_E), w q = some e → q ≠ b → w8 q = some e := fun q e h9 h09 => by
        have h9 := (hn5 q (by omega)).trans h9
        have h9 := (hn9 q (by omega)).trans h9
        exact h9
      refine h_top (show ((at9 + (-1)) + (-1) : Int) = at9 - dlN x from by rw [hdl]; omega) ?_
      exact h_ireti F hr hlk hW hS ⟨_, (by (rw [ho10]) <;> (rfl)), (fun j h1 h2 => by rw [hdl] at h2 ⊢; unfold up dgC; (repeat' split) <;> omega), (fun j h1 => by rw [hdl] at h1; unfold up; (repeat' split) <;> first | omega | rfl), (by repeat' (first | exact hby | refine up_r ?_ (by omega))), hX9⟩ dJ6_getChars_ba4f3_120
  · exfalso; omega
set_option maxHeartbeats 4000000 in
set_option maxRecDepth 100000 in
theorem c_gch_c (l : Launch) (X : Cx) (w : Wo) (b cp : Nat) (f : Int → Int) (x at9 : Int) (hb0 : w b = some (aY X cp f)) (hby : ∀ j, 0 ≤ j → j < (cp : Int) → 0 ≤ f j ∧ f j < 128) (hat : 3 ≤ at9 + 3 - dlN x ∧ dlN x ≤ at9 ∧ at9 ≤ (cp : Int) ∧ cp < 100000) (hx9 : 100 ≤ x ∧ x < 1000) : CM l X yJ6_getChars_ba4f3 cJ6_getChars_ba4f3 7 (some (.int)) (rmG 0 0 0 0) [.int (iI x), .int (iI at9), .ref b] w (some (.int (iI (at9 - dlN x)))) (fun w' => ∃ (f9 : Int → Int), w' b = some (aY X cp f9) ∧ (∀ j, 0 ≤ j → j < dlN x → f9 (at9 - dlN x + j) = dgC x j) ∧ (∀ j, j < at9 - dlN x → f9 j = f j) ∧ (∀ j, 0 ≤ j → j < (cp : Int) → 0 ≤ f9 j ∧ f9 j < 128) ∧ ∀ (q : Nat) (e : va_E), w q = some e → q ≠ b → w' q = some e) := by
  refine CM.of (lv := [(0, .int (iI x)), (1, .int (iI at9)), (2, .ref b)]) (by decide) (Nat.le_of_ble_eq_true rfl) rfl (fun p e s m below meth c ls F hr hlk hin hW hS hl => ?_)
  have hZ0 := hW.2.2
  have hB9 := hW.1.2
  clear hin
  have hdl : dlN x = 3 := by unfold dlN; (repeat split) <;> omega
  refine lv_iload_n F.1 F.2.1 dJ6_getChars_ba4f3_0 rfl (lv_at hl 1 rfl) ?_
  refine lv_istore (lv' := [(5, .int (iI at9)), (0, .int (iI x)), (1, .int (iI at9)), (2, .ref b)]) F.1 F.2.1 dJ6_getChars_ba4f3_1 hl (by decide) rfl (fun ls hl => ?_)
  refine lv_iload_n F.1 F.2.1 dJ6_getChars_ba4f3_3 rfl (lv_at hl 1 rfl) ?_
  refine h_ifge (tgt := 11) F dJ6_getChars_ba4f3_4 (by decide) (by omega) (fun c1 => ?_) (fun c1 => ?_)
  · refine h_iconst F dJ6_getChars_ba4f3_11 ?_
    refine lv_istore (lv' := [(6, .int (iI 0)), (5, .int (iI at9)), (0, .int (iI x)), (1, .int (iI at9)), (2, .ref b)]) F.1 F.2.1 dJ6_getChars_ba4f3_12 hl (by decide) rfl (fun ls hl => ?_)
    refine lv_iload F.1 F.2.1 dJ6_getChars_ba4f3_14 (lv_at hl 0 rfl) ?_
    refine h_ifne (tgt := 22) F dJ6_getChars_ba4f3_16 (by decide) (by decide) (fun c9 => absurd c9 (by decide)) (fun _ => ?_)
    refine lv_iload_n F.1 F.2.1 dJ6_getChars_ba4f3_19 rfl (lv_at hl 2 rfl) ?_
    refine h_ineg F dJ6_getChars_ba4f3_20 ?_
    refine lv_istore_n (lv' := [(0, .int (iI (-x))), (6, .int (iI 0)), (5, .int (iI at9)), (1, .int (iI at9)), (2, .ref b)]) F.1 F.2.1 dJ6_getChars_ba4f3_21 rfl hl (by decide) rfl (fun ls hl => ?_)
    refine lv_iload_n F.1 F.2.1 dJ6_getChars_ba4f3_22 rfl (lv_at hl 0 rfl) ?_
    refine h_bipush F dJ6_getChars_ba4f3_23 rfl ?_
    refine h_icgt (tgt := 72) F dJ6_getChars_ba4f3_25 (by decide) (by omega) (fun c3 => by exfalso; omega) (fun c3 => ?_)
    refine lv_iload_n F.1 F.2.1 dJ6_getChars_ba4f3_28 rfl (lv_at hl 0 rfl) ?_
    refine h_bipush F dJ6_getChars_ba4f3_29 rfl ?_
    refine h_idn (a := x) F dJ6_getChars_ba4f3_31 (divn (by omega)) ?_
    refine lv_istore_n (lv' := [(3, .int (iI (-(x / 100)))), (0, .int (iI (-x))), (6, .int (iI 0)), (5, .int (iI at9)), (1, .int (iI at9)), (2, .ref b)]) F.1 F.2.1 dJ6_getChars_ba4f3_32 rfl hl (by decide) rfl (fun ls hl => ?_)
    refine lv_iload_n F.1 F.2.1 dJ6_getChars_ba4f3_33 rfl (lv_at hl 0 rfl) ?_
    refine h_bipush F dJ6_getChars_ba4f3_34 rfl ?_
    refine h_imul (a := -(x / 100)) (b := 100) F dJ6_getChars_ba4f3_36 ?_
    refine lv_iload_n F.1 F.2.1 dJ6_getChars_ba4f3_37 rfl (lv_at hl 1 rfl) ?_
    refine h_isub (a := (-(x / 100)) * 100) (b := -x) F dJ6_getChars_ba4f3_38 ?_
    refine h_top (show (((-(x / 100)) * 100) - (-x) : Int) = x % 100 from by omega) ?_
    refine lv_istore (lv' := [(4, .int (iI (x % 100))), (3, .int (iI (-(x / 100)))), (0, .int (iI (-x))), (6, .int (iI 0)), (5, .int (iI at9)), (1, .int (iI at9)), (2, .ref b)]) F.1 F.2.1 dJ6_getChars_ba4f3_39 hl (by decide) rfl (fun ls hl => ?_)
    refine lv_iload_n F.1 F.2.1 dJ6_getChars_ba4f3_41 rfl (lv_at hl 1 rfl) ?_
    refine lv_istore_n (lv' := [(0, .int (iI (-(x / 100)))), (4, .int (iI (x % 100))), (3, .int (iI (-(x / 100)))), (6, .int (iI 0)), (5, .int (iI at9)), (1, .int (iI at9)), (2, .ref b)]) F.1 F.2.1 dJ6_getChars_ba4f3_42 rfl hl (by decide) rfl (fun ls hl => ?_)
    refine lv_aload_n F.1 F.2.1 dJ6_getChars_ba4f3_43 rfl (lv_at hl 6 rfl) ?_
    refine h_iinc (k := 4) (a := at9) (lv' := [(5, .int (iI (at9 + (-1)))), (0, .int (iI (-(x / 100)))), (4, .int (iI (x % 100))), (3, .int (iI (-(x / 100)))), (6, .int (iI 0)), (1, .int (iI at9)), (2, .ref b)]) F dJ6_getChars_ba4f3_44 hl rfl (by decide) rfl (fun ls hl => ?_)
    refine lv_iload F.1 F.2.1 dJ6_getChars_ba4f3_47 (lv_at hl 0 rfl) ?_
    refine h_gstat F hZ0.2.2.2.2.2.2.2.2.1 hS kf_RJ6_83 dJ6_getChars_ba4f3_49 ?_
    refine lv_iload F.1 F.2.1 dJ6_getChars_ba4f3_52 (lv_at hl 2 rfl) ?_
    refine va_tb F.1 F.2.1 hZ0.2.2.2.2.2.2.2.2.2 hS (iI_in (n := 100) (by omega) (by omega)) (v := .int (iI (48 + (x % 100) % 10))) (by rw [iI_clamp (by omega), show ((x % 100).toNat : Int) = x % 100 by omega]) dJ6_getChars_ba4f3_54 ?_
    refine h_yast F hW hS hZ0 hB9 hb0 (by omega) (by omega) (by omega) dJ6_getChars_ba4f3_55 (fun w4 H locs ho6 hn5 hW hS => ?_)
    refine lv_aload_n F.1 F.2.1 dJ6_getChars_ba4f3_56 rfl (lv_at hl 6 rfl) ?_
    refine h_iinc (k := 0) (a := at9 + (-1)) (lv' := [(5, .int (iI ((at9 + (-1)) + (-1)))), (0, .int (iI (-(x / 100)))), (4, .int (iI (x % 100))), (3, .int (iI (-(x / 100)))), (6, .int (iI 0)), (1, .int (iI at9)), (2, .ref b)]) F dJ6_getChars_ba4f3_57 hl rfl (by decide) rfl (fun ls hl => ?_)
    refine lv_iload F.1 F.2.1 dJ6_getChars_ba4f3_60 (lv_at hl 0 rfl) ?_
    refine h_gstat F hZ0.2.2.2.2.2.2.2.1.1 hS kf_RJ6_87 dJ6_getChars_ba4f3_62 ?_
    refine lv_iload F.1 F.2.1 dJ6_getChars_ba4f3_65 (lv_at hl 2 rfl) ?_
    refine va_tb F.1 F.2.1 hZ0.2.2.2.2.2.2.2.1.2 hS (iI_in (n := 100) (by omega) (by omega)) (v := .int (iI (48 + (x % 100) / 10))) (by rw [iI_clamp (by omega), show ((x % 100).toNat : Int) = x % 100 by omega]) dJ6_getChars_ba4f3_67 ?_
    refine h_yast F hW hS hZ0 hB9 ho6 (by omega) (by omega) (by omega) dJ6_getChars_ba4f3_68 (fun w7 H locs ho9 hn8 hW hS => ?_)
    refine h_goto (tgt := 22) F dJ6_getChars_ba4f3_69 (by decide) ?_
    refine lv_iload_n F.1 F.2.1 dJ6_getChars_ba4f3_22 rfl (lv_at hl 1 rfl) ?_
    refine h_bipush F dJ6_getChars_ba4f3_23 rfl ?_
    refine h_icgt (tgt := 72) F dJ6_getChars_ba4f3_25 (by decide) (by omega) (fun c10 => ?_) (fun c10 => by exfalso; omega)
    refine lv_aload_n F.1 F.2.1 dJ6_getChars_ba4f3_72 rfl (lv_at hl 6 rfl) ?_
    refine h_iinc (k := 0) (a := (at9 + (-1)) + (-1)) (lv' := [(5, .int (iI (((at9 + (-1)) + (-1)) + (-1)))), (0, .int (iI (-(x / 100)))), (4, .int (iI (x % 100))), (3, .int (iI (-(x / 100)))), (6, .int (iI 0)), (1, .int (iI at9)), (2, .ref b)]) F dJ6_getChars_ba4f3_73 hl rfl (by decide) rfl (fun ls hl => ?_)
    refine lv_iload F.1 F.2.1 dJ6_getChars_ba4f3_76 (lv_at hl 0 rfl) ?_
    refine h_gstat F hZ0.2.2.2.2.2.2.2.2.1 hS kf_RJ6_83 dJ6_getChars_ba4f3_78 ?_
    refine lv_iload_n F.1 F.2.1 dJ6_getChars_ba4f3_81 rfl (lv_at hl 1 rfl) ?_
    refine h_ineg F dJ6_getChars_ba4f3_82 ?_
    refine h_top (show (-(-(x / 100)) : Int) = x / 100 from by omega) ?_
    refine va_tb F.1 F.2.1 hZ0.2.2.2.2.2.2.2.2.2 hS (iI_in (n := 100) (by omega) (by omega)) (v := .int (iI (48 + (x / 100) % 10))) (by rw [iI_clamp (by omega), show ((x / 100).toNat : Int) = x / 100 by omega]) dJ6_getChars_ba4f3_83 ?_
    refine h_yast F hW hS hZ0 hB9 ho9 (by omega) (by omega) (by omega) dJ6_getChars_ba4f3_84 (fun w11 H locs ho13 hn12 hW hS => ?_)
    refine lv_iload_n F.1 F.2.1 dJ6_getChars_ba4f3_85 rfl (lv_at hl 1 rfl) ?_
    refine h_bipush F dJ6_getChars_ba4f3_86 rfl ?_
    refine h_icge (tgt := 104) F dJ6_getChars_ba4f3_88 (by decide) (by omega) (fun c14 => ?_) (fun c14 => ?_)
    · refine lv_iload F.1 F.2.1 dJ6_getChars_ba4f3_104 (lv_at hl 4 rfl) ?_
      refine h_ifeq (tgt := 118) F dJ6_getChars_ba4f3_106 (by decide) (by decide) (fun _ => ?_) (fun c9 => absurd c9 (by decide))
      refine lv_iload F.1 F.2.1 dJ6_getChars_ba4f3_118 (lv_at hl 0 rfl) ?_
      refine W.wd (mc := 0) (ms := 0) (by omega) (by omega) ?_
      have hX9 : ∀ (q : Nat) (e : va_E), w q = some e → q ≠ b → w11 q = some e := fun q e h9 h09 => by
        have h9 := (hn5 q (by omega)).trans h9
        have h9 := (hn8 q (by omega)).trans h9
        have h9 := (hn12 q (by omega)).trans h9
        exact h9
      refine h_top (show (((at9 + (-1)) + (-1)) + (-1) : Int) = at9 - dlN x from by rw [hdl]; omega) ?_
      exact h_ireti F hr hlk hW hS ⟨_, (by (rw [ho13]) <;> (rfl)), (fun j h1 h2 => by rw [hdl] at h2 ⊢; unfold up dgC; (repeat' split) <;> omega), (fun j h1 => by rw [hdl] at h1; unfold up; (repeat' split) <;> first | omega | rfl), (by repeat' (first | exact hby | refine up_r ?_ (by omega))), hX9⟩ dJ6_getChars_ba4f3_120
    · exfalso; omega
  · exfalso; omega
theorem c_gch (l : Launch) (X : Cx) (w : Wo) (b cp : Nat) (f : Int → Int) (x at9 : Int) (hb0 : w b = some (aY X cp f)) (hby : ∀ j, 0 ≤ j → j < (cp : Int) → 0 ≤ f j ∧ f j < 128) (hat : 3 ≤ at9 + 3 - dlN x ∧ dlN x ≤ at9 ∧ at9 ≤ (cp : Int) ∧ cp < 100000) (hx9 : 0 ≤ x ∧ x < 1000) : CM l X yJ6_getChars_ba4f3 cJ6_getChars_ba4f3 7 (some (.int)) (rmG 0 0 0 0) [.int (iI x), .int (iI at9), .ref b] w (some (.int (iI (at9 - dlN x)))) (fun w' => ∃ (f9 : Int → Int), w' b = some (aY X cp f9) ∧ (∀ j, 0 ≤ j → j < dlN x → f9 (at9 - dlN x + j) = dgC x j) ∧ (∀ j, j < at9 - dlN x → f9 j = f j) ∧ (∀ j, 0 ≤ j → j < (cp : Int) → 0 ≤ f9 j ∧ f9 j < 128) ∧ ∀ (q : Nat) (e : va_E), w q = some e → q ≠ b → w' q = some e) := by
  by_cases h1 : x < 10
  · exact c_gch_a l X w b cp f x at9 hb0 hby hat ⟨hx9.1, h1⟩
  · by_cases h2 : x < 100
    · exact c_gch_b l X w b cp f x at9 hb0 hby hat ⟨by omega, h2⟩
    · exact c_gch_c l X w b cp f x at9 hb0 hby hat ⟨by omega, hx9.2⟩
set_option maxHeartbeats 4000000 in
set_option maxRecDepth 100000 in
theorem c_J5_append_c97b9 (l : Launch) (X : Cx) (w : Wo) (u0 b : Nat) (ml : Int32) (n : Int) (cp : Nat) (f : Int → Int) (C9 : Nat) (x : Int) (hu : w u0 = some (.inr (12, [.ref b, .int (iI 0), .int ml, .int (iI n)]))) (hb0 : w b = some (aY X cp f)) (hby : ∀ j, 0 ≤ j → j < (cp : Int) → 0 ≤ f j ∧ f j < 128) (hm : 0 ≤ n ∧ n ≤ (cp : Int) ∧ 2 * (n + dlN x) ≤ (C9 : Int) ∧ cp ≤ C9 ∧ C9 < 100000 ∧ 0 ≤ dlN x) (hx9 : 0 ≤ x ∧ x < 1000) : CM l X yJ5_append_c97b9 cJ5_append_c97b9 4 (some (.object "java/lang/AbstractStringBuilder")) (rmG 4 1 C9 94) [.ref u0, .int (iI x)] w (some (.ref u0)) (fun w' => ∃ (b9 cp9 : Nat), ∃ (f9 : Int → Int), w' u0 = some (.inr (12, [.ref b9, .int (iI 0), .int ml, .int (iI (n + dlN x))])) ∧ w' b9 = some (aY X cp9 f9) ∧ (n + dlN x ≤ (cp9 : Int) ∧ cp9 ≤ C9) ∧ (∀ j, 0 ≤ j → j < n → f9 j = f j) ∧ (∀ j, 0 ≤ j → j < dlN x → f9 (n + j) = dgC x j) ∧ (∀ j, 0 ≤ j → j < (cp9 : Int) → 0 ≤ f9 j ∧ f9 j < 128) ∧ (b9 = b ∨ frs w b9) ∧ (u0 ≠ b9) ∧ ∀ (q : Nat) (e : va_E), w q = some e → q ≠ u0 → q ≠ b → w' q = some e) := by
  refine CM.of (lv := [(0, .ref u0), (1, .int (iI x))]) (by decide) (Nat.le_of_ble_eq_true rfl) rfl (fun p e s m below meth c ls F hr hlk hin hW hS hl => ?_)
  have hZ0 := hW.2.2
  have hB9 := hW.1.2
  clear hin
  have hub : u0 ≠ b := fun e9 => by rw [e9, hb0] at hu; cases hu
  have hdl : 1 ≤ dlN x ∧ dlN x ≤ 3 := by unfold dlN; (repeat split) <;> omega
  refine lv_aload_n F.1 F.2.1 dJ5_append_c97b9_0 rfl (lv_at hl 0 rfl) ?_
  refine gf_RJ5_79 F hW hu rfl dJ5_append_c97b9_1 ?_
  refine lv_istore_n (lv' := [(2, .int (iI n)), (0, .ref u0), (1, .int (iI x))]) F.1 F.2.1 dJ5_append_c97b9_4 rfl hl (by decide) rfl (fun ls hl => ?_)
  refine lv_iload_n F.1 F.2.1 dJ5_append_c97b9_5 rfl (lv_at hl 0 rfl) ?_
  refine lv_iload_n F.1 F.2.1 dJ5_append_c97b9_6 rfl (lv_at hl 2 rfl) ?_
  refine cl_RJ5_245 (As := [.int (iI x)]) (rest := [.int (iI n)]) F hl (c_J6_stringSize_0f7a4 l X w x (by omega)) hW hS rfl rfl ⟨Nat.le_of_ble_eq_true rfl, Nat.le_of_ble_eq_true rfl⟩ (Nat.le_of_ble_eq_true rfl) ⟨(by show 0 + 0 ≤ 1; omega), (by show 0 + 0 ≤ C9; omega)⟩ dJ5_append_c97b9_7 (fun w1 H locs hp1 hW hS => ?_)
  rw [hp1] at hW; clear hp1; clear w1
  refine h_iadd (a := n) (b := dlN x) F dJ5_append_c97b9_10 ?_
  refine lv_istore_n (lv' := [(3, .int (iI (n + (dlN x)))), (2, .int (iI n)), (0, .ref u0), (1, .int (iI x))]) F.1 F.2.1 dJ5_append_c97b9_11 rfl hl (by decide) rfl (fun ls hl => ?_)
  refine lv_aload_n F.1 F.2.1 dJ5_append_c97b9_12 rfl (lv_at hl 2 rfl) ?_
  refine lv_iload_n F.1 F.2.1 dJ5_append_c97b9_13 rfl (lv_at hl 0 rfl) ?_
  refine cl_RJ5_100 (As := [.int (iI (n + (dlN x)))]) (rest := []) F hl (c_ens l X w u0 b ml n cp f (n + (dlN x)) C9 hu hb0 hby (by omega)) hW hS hu rfl rfl ⟨Nat.le_of_ble_eq_true rfl, Nat.le_of_ble_eq_true rfl⟩ (Nat.le_of_ble_eq_true rfl) ⟨(by show 0 + 0 + 1 ≤ 1; omega), (by show 0 + 0 + C9 ≤ C9; omega)⟩ dJ5_append_c97b9_14 (fun w2 H locs hp3 hW hS => ?_)
  obtain ⟨bx, cx, fx, ho4, ha5, hm1, hm2, hm3, hm4, hm5, hx6⟩ := hp3
  skip
  refine lv_aload_n F.1 F.2.1 dJ5_append_c97b9_17 rfl (lv_at hl 2 rfl) ?_
  refine cl_RJ5_83 (As := []) (rest := []) F hl (c_J5_isLatin1_aae02 l X w2 u0 bx ml n ho4) hW hS ho4 rfl rfl ⟨Nat.le_of_ble_eq_true rfl, Nat.le_of_ble_eq_true rfl⟩ (Nat.le_of_ble_eq_true rfl) ⟨(by show 0 + 0 + 1 + 0 ≤ 1; omega), (by show 0 + 0 + C9 + 0 ≤ C9; omega)⟩ dJ5_append_c97b9_18 (fun w1 H locs hp7 hW hS => ?_)
  rw [hp7] at hW; clear hp7; clear w1
  refine h_ifeqb (tgt := 37) F dJ5_append_c97b9_21 (by decide) (fun c9 => absurd c9 (by decide)) (fun _ => ?_)
  refine lv_iload_n F.1 F.2.1 dJ5_append_c97b9_24 rfl (lv_at hl 3 rfl) ?_
  refine lv_iload_n F.1 F.2.1 dJ5_append_c97b9_25 rfl (lv_at hl 0 rfl) ?_
  refine lv_aload_n F.1 F.2.1 dJ5_append_c97b9_26 rfl (lv_at hl 2 rfl) ?_
  refine gf_RJ5_15 F hW ho4 rfl dJ5_append_c97b9_27 ?_
  refine cl_RJ5_248 (As := [.int (iI x), .int (iI (n + (dlN x))), .ref bx]) (rest := []) F hl (c_gch l X w2 bx cx fx x (n + (dlN x)) ha5 hm3 (by omega) (by omega)) hW hS rfl rfl ⟨Nat.le_of_ble_eq_true rfl, Nat.le_of_ble_eq_true rfl⟩ (Nat.le_of_ble_eq_true rfl) ⟨(by show 0 + 0 + 1 + 0 + 0 ≤ 1; omega), (by show 0 + 0 + C9 + 0 + 0 ≤ C9; omega)⟩ dJ5_append_c97b9_30 (fun w9 H locs hp10 hW hS => ?_)
  obtain ⟨fy, ha11, hg1, hg2, hg3, hx12⟩ := hp10
  have ho4 := hx12 _ _ ho4 (by omega)
  refine lv_pop F.1 F.2.1 dJ5_append_c97b9_33 rfl ?_
  refine h_goto (tgt := 48) F dJ5_append_c97b9_34 (by decide) ?_
  refine lv_aload_n F.1 F.2.1 dJ5_append_c97b9_48 rfl (lv_at hl 2 rfl) ?_
  refine lv_iload_n F.1 F.2.1 dJ5_append_c97b9_49 rfl (lv_at hl 0 rfl) ?_
  refine pf_RJ5_79 F hW hS hZ0 hB9 ho4 (Nat.le_of_ble_eq_true rfl) dJ5_append_c97b9_50 (fun w13 H locs ho15 hn14 hW hS => ?_)
  have ho15 : w13 u0 = some (.inr (12, [.ref bx, .int (iI 0), .int ml, .int (iI (n + (dlN x)))])) := ho15
  have ha11 := (hn14 _ (by omega)).trans ha11
  refine lv_aload_n F.1 F.2.1 dJ5_append_c97b9_53 rfl (lv_at hl 2 rfl) ?_
  refine W.wd (mc := 1) (ms := C9) (by omega) (by omega) ?_
  have hX9 : ∀ (q : Nat) (e : va_E), w q = some e → q ≠ u0 → q ≠ b → w13 q = some e := fun q e h9 h09 h19 => by
    have hqx := sb_ne hm4 h9 h19
    have h9 := hx6 q e h9 (by omega)
    have h9 := hx12 q e h9 (by omega)
    have h9 := (hn14 q (by omega)).trans h9
    exact h9
  exact h_aret F hr hlk hW hS ⟨_, _, _, (by (rw [ho15]) <;> (rfl)), (by (rw [ha11]) <;> (rfl)), ⟨by omega, by omega⟩, (fun j h1 h2 => by rw [hg2 j (by omega)]; exact hm2 j h1 h2), (fun j h1 h2 => by rw [show n + j = n + dlN x - dlN x + j by omega]; exact hg1 j h1 h2), hg3, hm4, hm5, hX9⟩ dJ5_append_c97b9_54
