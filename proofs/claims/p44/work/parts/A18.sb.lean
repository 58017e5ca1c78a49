set_option maxHeartbeats 4000000 in
set_option maxRecDepth 100000 in
theorem c_J5_isLatin1_aae02 (l : Launch) (X : Cx) (w : Wo) (u0 b : Nat) (ml : Int32) (n : Int) (hu : w u0 = some (.inr (12, [.ref b, .int (iI 0), .int ml, .int (iI n)]))) : CM l X yJ5_isLatin1_aae02 cJ5_isLatin1_aae02 1 (some (.boolean)) (rmG 0 0 0 0) [.ref u0] w (some (.int (iI (bz true)))) (fun w' => w' = w) := by
  refine CM.of (lv := [(0, .ref u0)]) (by decide) (Nat.le_of_ble_eq_true rfl) rfl (fun p e s m below meth c ls F hr hlk hin hW hS hl => ?_)
  have hZ0 := hW.2.2
  have hB9 := hW.1.2
  clear hin
  refine h_gstat F hZ0.2.2.1 hS kf_RJ5_18 dJ5_isLatin1_aae02_0 ?_
  refine h_topv (show (Value.int 1 : Value) = .int (iI 1) from rfl) ?_
  refine h_ifeq (tgt := 17) F dJ5_isLatin1_aae02_3 (by decide) (by decide) (fun c9 => absurd c9 (by decide)) (fun _ => ?_)
  refine lv_aload_n F.1 F.2.1 dJ5_isLatin1_aae02_6 rfl (lv_at hl 0 rfl) ?_
  refine gf_RJ5_22 F hW hu rfl dJ5_isLatin1_aae02_7 ?_
  refine h_ifne (tgt := 17) F dJ5_isLatin1_aae02_10 (by decide) (by decide) (fun c9 => absurd c9 (by decide)) (fun _ => ?_)
  refine h_iconst F dJ5_isLatin1_aae02_13 ?_
  refine h_goto (tgt := 18) F dJ5_isLatin1_aae02_14 (by decide) ?_
  refine h_top (show (1 : Int) = bz true from rfl) ?_
  exact h_iretz F hr hlk hW hS rfl dJ5_isLatin1_aae02_18
set_option maxHeartbeats 4000000 in
set_option maxRecDepth 100000 in
theorem c_J5_length_8abf5 (l : Launch) (X : Cx) (w : Wo) (u0 b : Nat) (ml : Int32) (n : Int) (hu : w u0 = some (.inr (12, [.ref b, .int (iI 0), .int ml, .int (iI n)]))) : CM l X yJ5_length_8abf5 cJ5_length_8abf5 1 (some (.int)) (rmG 0 0 0 0) [.ref u0] w (some (.int (iI n))) (fun w' => w' = w) := by
  refine CM.of (lv := [(0, .ref u0)]) (by decide) (Nat.le_of_ble_eq_true rfl) rfl (fun p e s m below meth c ls F hr hlk hin hW hS hl => ?_)
  have hZ0 := hW.2.2
  have hB9 := hW.1.2
  clear hin
  refine lv_aload_n F.1 F.2.1 dJ5_length_8abf5_0 rfl (lv_at hl 0 rfl) ?_
  refine gf_RJ5_79 F hW hu rfl dJ5_length_8abf5_1 ?_
  exact h_ireti F hr hlk hW hS rfl dJ5_length_8abf5_4
set_option maxHeartbeats 4000000 in
set_option maxRecDepth 100000 in
theorem c_J4_length_8abf5 (l : Launch) (X : Cx) (w : Wo) (u0 b : Nat) (ml : Int32) (n : Int) (hu : w u0 = some (.inr (12, [.ref b, .int (iI 0), .int ml, .int (iI n)]))) : CM l X yJ4_length_8abf5 cJ4_length_8abf5 1 (some (.int)) (rmG 1 0 0 20) [.ref u0] w (some (.int (iI n))) (fun w' => w' = w) := by
  refine CM.of (lv := [(0, .ref u0)]) (by decide) (Nat.le_of_ble_eq_true rfl) rfl (fun p e s m below meth c ls F hr hlk hin hW hS hl => ?_)
  have hZ0 := hW.2.2
  have hB9 := hW.1.2
  clear hin
  refine lv_aload_n F.1 F.2.1 dJ4_length_8abf5_0 rfl (lv_at hl 0 rfl) ?_
  refine cl_RJ4_343 (As := []) (rest := []) F hl (c_J5_length_8abf5 l X w u0 b ml n hu) hW hS hu rfl rfl ⟨Nat.le_of_ble_eq_true rfl, Nat.le_of_ble_eq_true rfl⟩ (Nat.le_of_ble_eq_true rfl) ⟨(by show 0 + 0 ≤ 0; omega), (by show 0 + 0 ≤ 0; omega)⟩ dJ4_length_8abf5_1 (fun w1 H locs hp1 hW hS => ?_)
  rw [hp1] at hW; clear hp1; clear w1
  exact h_ireti F hr hlk hW hS rfl dJ4_length_8abf5_4
set_option maxHeartbeats 4000000 in
set_option maxRecDepth 100000 in
theorem c_J5_getValue_6d5f1 (l : Launch) (X : Cx) (w : Wo) (u0 b : Nat) (ml : Int32) (n : Int) (hu : w u0 = some (.inr (12, [.ref b, .int (iI 0), .int ml, .int (iI n)]))) : CM l X yJ5_getValue_6d5f1 cJ5_getValue_6d5f1 1 (some (.array .byte)) (rmG 0 0 0 0) [.ref u0] w (some (.ref b)) (fun w' => w' = w) := by
  refine CM.of (lv := [(0, .ref u0)]) (by decide) (Nat.le_of_ble_eq_true rfl) rfl (fun p e s m below meth c ls F hr hlk hin hW hS hl => ?_)
  have hZ0 := hW.2.2
  have hB9 := hW.1.2
  clear hin
  refine lv_aload_n F.1 F.2.1 dJ5_getValue_6d5f1_0 rfl (lv_at hl 0 rfl) ?_
  refine gf_RJ5_15 F hW hu rfl dJ5_getValue_6d5f1_1 ?_
  exact h_aretA F hr hlk hW hS rfl dJ5_getValue_6d5f1_4
set_option maxHeartbeats 4000000 in
set_option maxRecDepth 100000 in
theorem c_J5_charAt_5068e (l : Launch) (X : Cx) (w : Wo) (u0 b : Nat) (ml : Int32) (n : Int) (cp : Nat) (f : Int → Int) (j : Int) (hu : w u0 = some (.inr (12, [.ref b, .int (iI 0), .int ml, .int (iI n)]))) (hb0 : w b = some (aY X cp f)) (hby : ∀ j, 0 ≤ j → j < (cp : Int) → 0 ≤ f j ∧ f j < 128) (hj : 0 ≤ j ∧ j < n ∧ n ≤ (cp : Int) ∧ cp < 100000) : CM l X yJ5_charAt_5068e cJ5_charAt_5068e 5 (some (.char)) (rmG 2 0 0 43) [.ref u0, .int (iI j)] w (some (.int (iI (f j)))) (fun w' => w' = w) := by
  refine CM.of (lv := [(0, .ref u0), (1, .int (iI j))]) (by decide) (Nat.le_of_ble_eq_true rfl) rfl (fun p e s m below meth c ls F hr hlk hin hW hS hl => ?_)
  have hZ0 := hW.2.2
  have hB9 := hW.1.2
  clear hin
  have hfj := hby j hj.1 (by omega)
  refine lv_aload_n F.1 F.2.1 dJ5_charAt_5068e_0 rfl (lv_at hl 0 rfl) ?_
  refine gf_RJ5_22 F hW hu rfl dJ5_charAt_5068e_1 ?_
  refine lv_istore_n (lv' := [(2, .int (iI 0)), (0, .ref u0), (1, .int (iI j))]) F.1 F.2.1 dJ5_charAt_5068e_4 rfl hl (by decide) rfl (fun ls hl => ?_)
  refine lv_aload_n F.1 F.2.1 dJ5_charAt_5068e_5 rfl (lv_at hl 1 rfl) ?_
  refine gf_RJ5_15 F hW hu rfl dJ5_charAt_5068e_6 ?_
  refine lv_astore_n (lv' := [(3, .ref b), (2, .int (iI 0)), (0, .ref u0), (1, .int (iI j))]) F.1 F.2.1 dJ5_charAt_5068e_9 rfl hl (by decide) rfl (fun ls hl => ?_)
  refine lv_aload_n F.1 F.2.1 dJ5_charAt_5068e_10 rfl (lv_at hl 2 rfl) ?_
  refine gf_RJ5_79 F hW hu rfl dJ5_charAt_5068e_11 ?_
  refine lv_aload_n F.1 F.2.1 dJ5_charAt_5068e_14 rfl (lv_at hl 0 rfl) ?_
  refine h_alen (k := 2) (n := cp) F hW rfl hb0 dJ5_charAt_5068e_15 ?_
  refine lv_iload_n F.1 F.2.1 dJ5_charAt_5068e_16 rfl (lv_at hl 1 rfl) ?_
  refine h_ishr (z := iI ((cp : Nat) : Int)) F dJ5_charAt_5068e_17 (sh0 (by omega)) ?_
  refine h_mmin (index := 138) (a := n) (b := ((cp : Nat) : Int)) F hl km_RJ5_138 (Nat.le_of_ble_eq_true rfl) (Nat.le_of_ble_eq_true rfl) (by show 0 ≤ 0; omega) (by show 0 ≤ 0; omega) (by omega) dJ5_charAt_5068e_18 ?_
  refine h_top (show (min n ((cp : Nat) : Int) : Int) = n from by omega) ?_
  refine lv_istore (lv' := [(4, .int (iI n)), (3, .ref b), (2, .int (iI 0)), (0, .ref u0), (1, .int (iI j))]) F.1 F.2.1 dJ5_charAt_5068e_21 hl (by decide) rfl (fun ls hl => ?_)
  refine lv_iload_n F.1 F.2.1 dJ5_charAt_5068e_23 rfl (lv_at hl 4 rfl) ?_
  refine lv_iload F.1 F.2.1 dJ5_charAt_5068e_24 (lv_at hl 0 rfl) ?_
  refine cl_RJ5_144 (As := [.int (iI j), .int (iI n)]) (rest := []) F hl (c_J0_checkIndex_df160 l X w j n (by omega)) hW hS rfl rfl ⟨Nat.le_of_ble_eq_true rfl, Nat.le_of_ble_eq_true rfl⟩ (Nat.le_of_ble_eq_true rfl) ⟨(by show 0 + 0 ≤ 0; omega), (by show 0 + 0 ≤ 0; omega)⟩ dJ5_charAt_5068e_26 (fun w1 H locs hp1 hW hS => ?_)
  rw [hp1] at hW; clear hp1; clear w1
  refine lv_iload_n F.1 F.2.1 dJ5_charAt_5068e_29 rfl (lv_at hl 2 rfl) ?_
  refine h_ifne (tgt := 42) F dJ5_charAt_5068e_30 (by decide) (by decide) (fun c9 => absurd c9 (by decide)) (fun _ => ?_)
  refine lv_aload_n F.1 F.2.1 dJ5_charAt_5068e_33 rfl (lv_at hl 1 rfl) ?_
  refine lv_iload_n F.1 F.2.1 dJ5_charAt_5068e_34 rfl (lv_at hl 4 rfl) ?_
  refine h_yald F hW hb0 (by omega) (by omega) dJ5_charAt_5068e_35 ?_
  refine h_sipush F dJ5_charAt_5068e_36 rfl ?_
  refine h_iand (z := iI (f j)) F dJ5_charAt_5068e_39 (y255 (by omega)) ?_
  refine lv_i2c (v := iI (f j)) F.1 F.2.1 dJ5_charAt_5068e_40 (i2c_id (by omega)) ?_
  exact h_irety F hr hlk (narC (by omega)) hW hS rfl dJ5_charAt_5068e_41
set_option maxHeartbeats 4000000 in
set_option maxRecDepth 100000 in
theorem c_J4_charAt_5068e (l : Launch) (X : Cx) (w : Wo) (u0 b : Nat) (ml : Int32) (n : Int) (cp : Nat) (f : Int → Int) (j : Int) (hu : w u0 = some (.inr (12, [.ref b, .int (iI 0), .int ml, .int (iI n)]))) (hb0 : w b = some (aY X cp f)) (hby : ∀ j, 0 ≤ j → j < (cp : Int) → 0 ≤ f j ∧ f j < 128) (hj : 0 ≤ j ∧ j < n ∧ n ≤ (cp : Int) ∧ cp < 100000) : CM l X yJ4_charAt_5068e cJ4_charAt_5068e 2 (some (.char)) (rmG 3 0 0 67) [.ref u0, .int (iI j)] w (some (.int (iI (f j)))) (fun w' => w' = w) := by
  refine CM.of (lv := [(0, .ref u0), (1, .int (iI j))]) (by decide) (Nat.le_of_ble_eq_true rfl) rfl (fun p e s m below meth c ls F hr hlk hin hW hS hl => ?_)
  have hZ0 := hW.2.2
  have hB9 := hW.1.2
  clear hin
  have hfj := hby j hj.1 (by omega)
  refine lv_aload_n F.1 F.2.1 dJ4_charAt_5068e_0 rfl (lv_at hl 0 rfl) ?_
  refine lv_iload_n F.1 F.2.1 dJ4_charAt_5068e_1 rfl (lv_at hl 1 rfl) ?_
  refine cl_RJ4_329 (As := [.int (iI j)]) (rest := []) F hl (c_J5_charAt_5068e l X w u0 b ml n cp f j hu hb0 hby (by omega)) hW hS hu rfl rfl ⟨Nat.le_of_ble_eq_true rfl, Nat.le_of_ble_eq_true rfl⟩ (Nat.le_of_ble_eq_true rfl) ⟨(by show 0 + 0 ≤ 0; omega), (by show 0 + 0 ≤ 0; omega)⟩ dJ4_charAt_5068e_2 (fun w1 H locs hp1 hW hS => ?_)
  rw [hp1] at hW; clear hp1; clear w1
  exact h_irety F hr hlk (narC (by omega)) hW hS rfl dJ4_charAt_5068e_5
set_option maxHeartbeats 4000000 in
set_option maxRecDepth 100000 in
theorem c_J1_canEncode_fc78d (l : Launch) (X : Cx) (w : Wo) (x : Int) (hx : 0 ≤ x ∧ x < 256) : CM l X yJ1_canEncode_fc78d cJ1_canEncode_fc78d 1 (some (.boolean)) (rmG 0 0 0 0) [.int (iI x)] w (some (.int (iI (bz true)))) (fun w' => w' = w) := by
  refine CM.of (lv := [(0, .int (iI x))]) (by decide) (Nat.le_of_ble_eq_true rfl) rfl (fun p e s m below meth c ls F hr hlk hin hW hS hl => ?_)
  have hZ0 := hW.2.2
  have hB9 := hW.1.2
  clear hin
  refine lv_iload_n F.1 F.2.1 dJ1_canEncode_fc78d_0 rfl (lv_at hl 0 rfl) ?_
  refine h_sipush F dJ1_canEncode_fc78d_1 rfl ?_
  refine h_icgt (tgt := 11) F dJ1_canEncode_fc78d_4 (by decide) (by omega) (fun c1 => ?_) (fun c1 => ?_)
  · exfalso; omega
  · refine h_iconst F dJ1_canEncode_fc78d_7 ?_
    refine h_goto (tgt := 12) F dJ1_canEncode_fc78d_8 (by decide) ?_
    refine h_top (show (1 : Int) = bz true from rfl) ?_
    exact h_iretz F hr hlk hW hS rfl dJ1_canEncode_fc78d_12
set_option maxHeartbeats 4000000 in
set_option maxRecDepth 100000 in
theorem c_J5_newCapacity_0f7a4 (l : Launch) (X : Cx) (w : Wo) (u0 b : Nat) (ml : Int32) (n : Int) (cp : Nat) (f : Int → Int) (mn : Int) (hu : w u0 = some (.inr (12, [.ref b, .int (iI 0), .int ml, .int (iI n)]))) (hb0 : w b = some (aY X cp f)) (hm : (cp : Int) < mn ∧ mn < 100000 ∧ cp < 100000) : CM l X yJ5_newCapacity_0f7a4 cJ5_newCapacity_0f7a4 6 (some (.int)) (rmG 2 0 0 47) [.ref u0, .int (iI mn)] w (some (.int (iI ((cp : Int) + max (mn - (cp : Int)) ((cp : Int) + 2))))) (fun w' => w' = w) := by
  refine CM.of (lv := [(0, .ref u0), (1, .int (iI mn))]) (by decide) (Nat.le_of_ble_eq_true rfl) rfl (fun p e s m below meth c ls F hr hlk hin hW hS hl => ?_)
  have hZ0 := hW.2.2
  have hB9 := hW.1.2
  clear hin
  refine lv_aload_n F.1 F.2.1 dJ5_newCapacity_0f7a4_0 rfl (lv_at hl 0 rfl) ?_
  refine gf_RJ5_15 F hW hu rfl dJ5_newCapacity_0f7a4_1 ?_
  refine h_alen (k := 2) (n := cp) F hW rfl hb0 dJ5_newCapacity_0f7a4_4 ?_
  refine lv_istore_n (lv' := [(2, .int (iI ((cp : Nat) : Int))), (0, .ref u0), (1, .int (iI mn))]) F.1 F.2.1 dJ5_newCapacity_0f7a4_5 rfl hl (by decide) rfl (fun ls hl => ?_)
  refine lv_iload_n F.1 F.2.1 dJ5_newCapacity_0f7a4_6 rfl (lv_at hl 2 rfl) ?_
  refine lv_aload_n F.1 F.2.1 dJ5_newCapacity_0f7a4_7 rfl (lv_at hl 1 rfl) ?_
  refine gf_RJ5_22 F hW hu rfl dJ5_newCapacity_0f7a4_8 ?_
  refine h_ishl (z := iI mn) F dJ5_newCapacity_0f7a4_11 (shl0) ?_
  refine lv_istore_n (lv' := [(3, .int (iI mn)), (2, .int (iI ((cp : Nat) : Int))), (0, .ref u0), (1, .int (iI mn))]) F.1 F.2.1 dJ5_newCapacity_0f7a4_12 rfl hl (by decide) rfl (fun ls hl => ?_)
  refine lv_iload_n F.1 F.2.1 dJ5_newCapacity_0f7a4_13 rfl (lv_at hl 0 rfl) ?_
  refine lv_iload_n F.1 F.2.1 dJ5_newCapacity_0f7a4_14 rfl (lv_at hl 1 rfl) ?_
  refine h_isub (a := mn) (b := ((cp : Nat) : Int)) F dJ5_newCapacity_0f7a4_15 ?_
  refine lv_istore (lv' := [(4, .int (iI (mn - ((cp : Nat) : Int)))), (3, .int (iI mn)), (2, .int (iI ((cp : Nat) : Int))), (0, .ref u0), (1, .int (iI mn))]) F.1 F.2.1 dJ5_newCapacity_0f7a4_16 hl (by decide) rfl (fun ls hl => ?_)
  refine lv_iload_n F.1 F.2.1 dJ5_newCapacity_0f7a4_18 rfl (lv_at hl 2 rfl) ?_
  refine lv_iload F.1 F.2.1 dJ5_newCapacity_0f7a4_19 (lv_at hl 0 rfl) ?_
  refine lv_iload_n F.1 F.2.1 dJ5_newCapacity_0f7a4_21 rfl (lv_at hl 2 rfl) ?_
  refine h_iconst F dJ5_newCapacity_0f7a4_22 ?_
  refine lv_aload_n F.1 F.2.1 dJ5_newCapacity_0f7a4_23 rfl (lv_at hl 3 rfl) ?_
  refine gf_RJ5_22 F hW hu rfl dJ5_newCapacity_0f7a4_24 ?_
  refine h_ishl (z := iI 2) F dJ5_newCapacity_0f7a4_27 (shl0) ?_
  refine h_iadd (a := ((cp : Nat) : Int)) (b := 2) F dJ5_newCapacity_0f7a4_28 ?_
  refine cl_RJ5_114 (As := [.int (iI ((cp : Nat) : Int)), .int (iI (mn - ((cp : Nat) : Int))), .int (iI (((cp : Nat) : Int) + 2))]) (rest := []) F hl (c_J8_newLength_cabcc l X w ((cp : Nat) : Int) (mn - ((cp : Nat) : Int)) (((cp : Nat) : Int) + 2) (by omega)) hW hS rfl rfl ⟨Nat.le_of_ble_eq_true rfl, Nat.le_of_ble_eq_true rfl⟩ (Nat.le_of_ble_eq_true rfl) ⟨(by show 0 + 0 ≤ 0; omega), (by show 0 + 0 ≤ 0; omega)⟩ dJ5_newCapacity_0f7a4_29 (fun w1 H locs hp1 hW hS => ?_)
  rw [hp1] at hW; clear hp1; clear w1
  refine lv_istore (lv' := [(5, .int (iI (((cp : Nat) : Int) + max (mn - ((cp : Nat) : Int)) (((cp : Nat) : Int) + 2)))), (4, .int (iI (mn - ((cp : Nat) : Int)))), (3, .int (iI mn)), (2, .int (iI ((cp : Nat) : Int))), (0, .ref u0), (1, .int (iI mn))]) F.1 F.2.1 dJ5_newCapacity_0f7a4_32 hl (by decide) rfl (fun ls hl => ?_)
  refine lv_iload F.1 F.2.1 dJ5_newCapacity_0f7a4_34 (lv_at hl 0 rfl) ?_
  refine h_ldc (n := 2147483647) F kk_RJ5_39 dJ5_newCapacity_0f7a4_36 ?_
  refine h_icne (tgt := 51) F dJ5_newCapacity_0f7a4_38 (by decide) (by omega) (fun c2 => ?_) (fun c2 => ?_)
  · refine lv_iload F.1 F.2.1 dJ5_newCapacity_0f7a4_51 (lv_at hl 0 rfl) ?_
    refine lv_aload_n F.1 F.2.1 dJ5_newCapacity_0f7a4_53 rfl (lv_at hl 4 rfl) ?_
    refine gf_RJ5_22 F hW hu rfl dJ5_newCapacity_0f7a4_54 ?_
    refine h_ishr (z := iI ((cp : Int) + max (mn - (cp : Int)) ((cp : Int) + 2))) F dJ5_newCapacity_0f7a4_57 (sh0 (by omega)) ?_
    exact h_ireti F hr hlk hW hS rfl dJ5_newCapacity_0f7a4_58
  · exfalso; omega
set_option maxHeartbeats 4000000 in
set_option maxRecDepth 100000 in
theorem c_J7_copyOf_9075b (l : Launch) (X : Cx) (w : Wo) (b cp N : Nat) (f : Int → Int) (hb0 : w b = some (aY X cp f)) (hby : ∀ j, 0 ≤ j → j < (cp : Int) → 0 ≤ f j ∧ f j < 128) (hN : cp < N ∧ N < 100000) : CR l X yJ7_copyOf_9075b cJ7_copyOf_9075b 3 (some (.array .byte)) (rmG 1 1 N 44) [.ref b, .int (iI ((N : Nat) : Int))] w (fun v' w' => ∃ (q9 : Nat), v' = .ref q9 ∧ frs w q9 ∧ w' q9 = some (aY X N (cpY f (fun _ => 0) 0 0 ((cp : Nat) : Int))) ∧ ∀ (q : Nat) (e : va_E), w q = some e → w' q = some e) := by
  refine CR.of (lv := [(0, .ref b), (1, .int (iI ((N : Nat) : Int)))]) (by decide) (Nat.le_of_ble_eq_true rfl) rfl (fun p e s m below meth c ls F hr hlk hin hW hS hl => ?_)
  have hZ0 := hW.2.2
  have hB9 := hW.1.2
  clear hin
  refine lv_iload_n F.1 F.2.1 dJ7_copyOf_9075b_0 rfl (lv_at hl 1 rfl) ?_
  refine lv_aload_n F.1 F.2.1 dJ7_copyOf_9075b_1 rfl (lv_at hl 0 rfl) ?_
  refine h_alen (k := 2) (n := cp) F hW rfl hb0 dJ7_copyOf_9075b_2 ?_
  refine h_icne (tgt := 14) F dJ7_copyOf_9075b_3 (by decide) (by omega) (fun c1 => ?_) (fun c1 => ?_)
  · refine lv_iload_n F.1 F.2.1 dJ7_copyOf_9075b_14 rfl (lv_at hl 1 rfl) ?_
    refine q_newP (N := N) (k := 2) (atype := .byte) (x := .inl (fun j : Nat => iI ((fun _ : Int => 0) (j : Int)))) F hW hS haCY rfl (hxY _) rfl (by omega) ⟨(by show 0 + 1 ≤ 1; omega), (by show 0 + N ≤ N; omega)⟩ dJ7_copyOf_9075b_15 (fun q9 w2 H hfr5 hcx6 ha4 hn3 hW hS => ?_)
    have ha4 : w2 q9 = some (aY X N (fun _ => 0)) := ha4
    have hb7 := hfr5 _ _ hb0
    have hb0 := (hn3 _ (by omega)).trans hb0
    refine lv_astore_n (lv' := [(2, .ref q9), (0, .ref b), (1, .int (iI ((N : Nat) : Int)))]) F.1 F.2.1 dJ7_copyOf_9075b_17 rfl hl (by decide) rfl (fun ls hl => ?_)
    refine lv_aload_n F.1 F.2.1 dJ7_copyOf_9075b_18 rfl (lv_at hl 1 rfl) ?_
    refine h_iconst F dJ7_copyOf_9075b_19 ?_
    refine lv_aload_n F.1 F.2.1 dJ7_copyOf_9075b_20 rfl (lv_at hl 0 rfl) ?_
    refine h_iconst F dJ7_copyOf_9075b_21 ?_
    refine lv_aload_n F.1 F.2.1 dJ7_copyOf_9075b_22 rfl (lv_at hl 1 rfl) ?_
    refine h_alen (k := 2) (n := cp) F hW rfl hb0 dJ7_copyOf_9075b_23 ?_
    refine lv_iload_n F.1 F.2.1 dJ7_copyOf_9075b_24 rfl (lv_at hl 2 rfl) ?_
    refine h_mmin (index := 304) (a := ((cp : Nat) : Int)) (b := ((N : Nat) : Int)) F hl km_RJ7_304 (Nat.le_of_ble_eq_true rfl) (Nat.le_of_ble_eq_true rfl) (by show 0 + 1 ≤ 1; omega) (by show 0 + N ≤ N; omega) (by omega) dJ7_copyOf_9075b_25 ?_
    refine h_top (show (min ((cp : Nat) : Int) ((N : Nat) : Int) : Int) = ((cp : Nat) : Int) from by omega) ?_
    refine h_copyb (index := 150) F hl hW hZ0 hB9 hS km_RJ7_150 hb0 ha4 (by omega) (fun j h1 h2 => by have := hby j h1 (by omega); omega) (Nat.le_of_ble_eq_true rfl) (Nat.le_of_ble_eq_true rfl) dJ7_copyOf_9075b_28 (fun w8 H locs ha10 hn9 hW hS => ?_)
    have hb0 := (hn9 _ (by omega)).trans hb0
    refine lv_aload_n F.1 F.2.1 dJ7_copyOf_9075b_31 rfl (lv_at hl 0 rfl) ?_
    refine W.wd (mc := 1) (ms := N) (by omega) (by omega) ?_
    have hX9 : ∀ (q : Nat) (e : va_E), w q = some e → w8 q = some e := fun q e h9  => by
      have z9_11 := hfr5 q e h9
      have h9 := (hn3 q (by omega)).trans h9
      have h9 := (hn9 q (by omega)).trans h9
      exact h9
    exact r_aret F (Or.inr ⟨_, hr⟩) hlk hW hS ⟨_, rfl, hfr5, ha10, hX9⟩ dJ7_copyOf_9075b_32
  · exfalso; omega
set_option maxHeartbeats 4000000 in
set_option maxRecDepth 100000 in
theorem c_ens_e (l : Launch) (X : Cx) (w : Wo) (u0 b : Nat) (ml : Int32) (n : Int) (cp : Nat) (f : Int → Int) (mn : Int) (C9 : Nat) (hu : w u0 = some (.inr (12, [.ref b, .int (iI 0), .int ml, .int (iI n)]))) (hb0 : w b = some (aY X cp f)) (hby : ∀ j, 0 ≤ j → j < (cp : Int) → 0 ≤ f j ∧ f j < 128) (hm : 0 ≤ n ∧ n ≤ (cp : Int) ∧ n ≤ mn ∧ 2 * mn ≤ (C9 : Int) ∧ cp ≤ C9 ∧ C9 < 100000) (hle : mn ≤ (cp : Int)) : CM l X yJ5_ensureCapacityInternal_d00df cJ5_ensureCapacityInternal_d00df 3 none (rmG 3 1 C9 72) [.ref u0, .int (iI mn)] w none (fun w' => w' = w) := by
  refine CM.of (lv := [(0, .ref u0), (1, .int (iI mn))]) (by decide) (Nat.le_of_ble_eq_true rfl) rfl (fun p e s m below meth c ls F hr hlk hin hW hS hl => ?_)
  have hZ0 := hW.2.2
  have hB9 := hW.1.2
  clear hin
  refine lv_aload_n F.1 F.2.1 dJ5_ensureCapacityInternal_d00df_0 rfl (lv_at hl 0 rfl) ?_
  refine gf_RJ5_15 F hW hu rfl dJ5_ensureCapacityInternal_d00df_1 ?_
  refine h_alen (k := 2) (n := cp) F hW rfl hb0 dJ5_ensureCapacityInternal_d00df_4 ?_
  refine lv_aload_n F.1 F.2.1 dJ5_ensureCapacityInternal_d00df_5 rfl (lv_at hl 0 rfl) ?_
  refine gf_RJ5_22 F hW hu rfl dJ5_ensureCapacityInternal_d00df_6 ?_
  refine h_ishr (z := iI ((cp : Nat) : Int)) F dJ5_ensureCapacityInternal_d00df_9 (sh0 (by omega)) ?_
  refine lv_istore_n (lv' := [(2, .int (iI ((cp : Nat) : Int))), (0, .ref u0), (1, .int (iI mn))]) F.1 F.2.1 dJ5_ensureCapacityInternal_d00df_10 rfl hl (by decide) rfl (fun ls hl => ?_)
  refine lv_iload_n F.1 F.2.1 dJ5_ensureCapacityInternal_d00df_11 rfl (lv_at hl 2 rfl) ?_
  refine lv_iload_n F.1 F.2.1 dJ5_ensureCapacityInternal_d00df_12 rfl (lv_at hl 0 rfl) ?_
  refine h_isub (a := mn) (b := ((cp : Nat) : Int)) F dJ5_ensureCapacityInternal_d00df_13 ?_
  refine h_ifle (tgt := 38) F dJ5_ensureCapacityInternal_d00df_14 (by decide) (by omega) (fun c1 => ?_) (fun c1 => ?_)
  · refine W.wd (mc := 1) (ms := C9) (by omega) (by omega) ?_
    exact h_vret F hr hlk hW hS rfl dJ5_ensureCapacityInternal_d00df_38
  · exfalso; omega
set_option maxHeartbeats 4000000 in
set_option maxRecDepth 100000 in
theorem c_ens_g (l : Launch) (X : Cx) (w : Wo) (u0 b : Nat) (ml : Int32) (n : Int) (cp : Nat) (f : Int → Int) (mn : Int) (C9 : Nat) (hu : w u0 = some (.inr (12, [.ref b, .int (iI 0), .int ml, .int (iI n)]))) (hb0 : w b = some (aY X cp f)) (hby : ∀ j, 0 ≤ j → j < (cp : Int) → 0 ≤ f j ∧ f j < 128) (hm : 0 ≤ n ∧ n ≤ (cp : Int) ∧ n ≤ mn ∧ 2 * mn ≤ (C9 : Int) ∧ cp ≤ C9 ∧ C9 < 100000) (hlt : (cp : Int) < mn) : CM l X yJ5_ensureCapacityInternal_d00df cJ5_ensureCapacityInternal_d00df 3 none (rmG 3 1 C9 72) [.ref u0, .int (iI mn)] w none (fun w' => ∃ (b9 cp9 : Nat), ∃ (f9 : Int → Int), w' u0 = some (.inr (12, [.ref b9, .int (iI 0), .int ml, .int (iI n)])) ∧ w' b9 = some (aY X cp9 f9) ∧ (mn ≤ (cp9 : Int) ∧ n ≤ (cp9 : Int) ∧ cp9 ≤ C9) ∧ (∀ j, 0 ≤ j → j < n → f9 j = f j) ∧ (∀ j, 0 ≤ j → j < (cp9 : Int) → 0 ≤ f9 j ∧ f9 j < 128) ∧ (b9 = b ∨ frs w b9) ∧ (u0 ≠ b9) ∧ ∀ (q : Nat) (e : va_E), w q = some e → q ≠ u0 → w' q = some e) := by
  refine CM.of (lv := [(0, .ref u0), (1, .int (iI mn))]) (by decide) (Nat.le_of_ble_eq_true rfl) rfl (fun p e s m below meth c ls F hr hlk hin hW hS hl => ?_)
  have hZ0 := hW.2.2
  have hB9 := hW.1.2
  clear hin
  have hub : u0 ≠ b := fun e9 => by rw [e9, hb0] at hu; cases hu
  obtain ⟨N, hN⟩ : ∃ N : Nat, (N : Int) = (cp : Int) + max (mn - (cp : Int)) ((cp : Int) + 2) := ⟨((cp : Int) + max (mn - (cp : Int)) ((cp : Int) + 2)).toNat, by omega⟩
  refine lv_aload_n F.1 F.2.1 dJ5_ensureCapacityInternal_d00df_0 rfl (lv_at hl 0 rfl) ?_
  refine gf_RJ5_15 F hW hu rfl dJ5_ensureCapacityInternal_d00df_1 ?_
  refine h_alen (k := 2) (n := cp) F hW rfl hb0 dJ5_ensureCapacityInternal_d00df_4 ?_
  refine lv_aload_n F.1 F.2.1 dJ5_ensureCapacityInternal_d00df_5 rfl (lv_at hl 0 rfl) ?_
  refine gf_RJ5_22 F hW hu rfl dJ5_ensureCapacityInternal_d00df_6 ?_
  refine h_ishr (z := iI ((cp : Nat) : Int)) F dJ5_ensureCapacityInternal_d00df_9 (sh0 (by omega)) ?_
  refine lv_istore_n (lv' := [(2, .int (iI ((cp : Nat) : Int))), (0, .ref u0), (1, .int (iI mn))]) F.1 F.2.1 dJ5_ensureCapacityInternal_d00df_10 rfl hl (by decide) rfl (fun ls hl => ?_)
  refine lv_iload_n F.1 F.2.1 dJ5_ensureCapacityInternal_d00df_11 rfl (lv_at hl 2 rfl) ?_
  refine lv_iload_n F.1 F.2.1 dJ5_ensureCapacityInternal_d00df_12 rfl (lv_at hl 0 rfl) ?_
  refine h_isub (a := mn) (b := ((cp : Nat) : Int)) F dJ5_ensureCapacityInternal_d00df_13 ?_
  refine h_ifle (tgt := 38) F dJ5_ensureCapacityInternal_d00df_14 (by decide) (by omega) (fun c1 => ?_) (fun c1 => ?_)
  · exfalso; omega
  · refine lv_aload_n F.1 F.2.1 dJ5_ensureCapacityInternal_d00df_17 rfl (lv_at hl 1 rfl) ?_
    refine lv_aload_n F.1 F.2.1 dJ5_ensureCapacityInternal_d00df_18 rfl (lv_at hl 1 rfl) ?_
    refine gf_RJ5_15 F hW hu rfl dJ5_ensureCapacityInternal_d00df_19 ?_
    refine lv_aload_n F.1 F.2.1 dJ5_ensureCapacityInternal_d00df_22 rfl (lv_at hl 1 rfl) ?_
    refine lv_iload_n F.1 F.2.1 dJ5_ensureCapacityInternal_d00df_23 rfl (lv_at hl 2 rfl) ?_
    refine cl_RJ5_104 (As := [.int (iI mn)]) (rest := [.ref b, .ref u0]) F hl (c_J5_newCapacity_0f7a4 l X w u0 b ml n cp f mn hu hb0 (by omega)) hW hS hu rfl rfl ⟨Nat.le_of_ble_eq_true rfl, Nat.le_of_ble_eq_true rfl⟩ (Nat.le_of_ble_eq_true rfl) ⟨(by show 0 + 0 ≤ 1; omega), (by show 0 + 0 ≤ C9; omega)⟩ dJ5_ensureCapacityInternal_d00df_24 (fun w1 H locs hp2 hW hS => ?_)
    rw [hp2] at hW; clear hp2; clear w1
    refine lv_aload_n F.1 F.2.1 dJ5_ensureCapacityInternal_d00df_27 rfl (lv_at hl 1 rfl) ?_
    refine gf_RJ5_22 F hW hu rfl dJ5_ensureCapacityInternal_d00df_28 ?_
    refine h_ishl (z := iI ((N : Nat) : Int)) F dJ5_ensureCapacityInternal_d00df_31 (by rw [hN]; exact shl0) ?_
    refine cr_RJ5_108 (As := [.ref b, .int (iI ((N : Nat) : Int))]) (rest := [.ref u0]) F hl (c_J7_copyOf_9075b l X w b cp N f hb0 hby (by omega)) hW hS rfl rfl ⟨Nat.le_of_ble_eq_true rfl, Nat.le_of_ble_eq_true rfl⟩ (Nat.le_of_ble_eq_true rfl) ⟨(by show 0 + 0 + 1 ≤ 1; omega), (by show 0 + 0 + N ≤ C9; omega)⟩ dJ5_ensureCapacityInternal_d00df_32 (fun v5 w3 H locs hp4 hW hS => ?_)
    obtain ⟨q9, rfl, hfr6, ha7, hx8⟩ := hp4
    have hb9 := hfr6 _ _ hu
    have hb10 := hfr6 _ _ hb0
    have hu := hx8 _ _ hu 
    have hb0 := hx8 _ _ hb0 
    refine pf_RJ5_15 F hW hS hZ0 hB9 hu (Nat.le_of_ble_eq_true rfl) dJ5_ensureCapacityInternal_d00df_35 (fun w11 H locs ho13 hn12 hW hS => ?_)
    have ho13 : w11 u0 = some (.inr (12, [.ref q9, .int (iI 0), .int ml, .int (iI n)])) := ho13
    have hb0 := (hn12 _ (by omega)).trans hb0
    have ha7 := (hn12 _ (by omega)).trans ha7
    refine W.wd (mc := 1) (ms := C9) (by omega) (by omega) ?_
    have hX9 : ∀ (q : Nat) (e : va_E), w q = some e → q ≠ u0 → w11 q = some e := fun q e h9 h09 => by
      have z9_14 := hfr6 q e h9
      have h9 := hx8 q e h9 
      have h9 := (hn12 q (by omega)).trans h9
      exact h9
    exact h_vret F hr hlk hW hS ⟨_, _, _, (by (rw [ho13]) <;> (rfl)), (by (rw [ha7]) <;> (rfl)), ⟨by omega, by omega, by omega⟩, (fun j h1 h2 => by unfold cpY; rw [if_pos (by omega)]; congr 1; omega), (cpY_b hby), (Or.inr hfr6), (by omega), hX9⟩ dJ5_ensureCapacityInternal_d00df_38
theorem c_ens (l : Launch) (X : Cx) (w : Wo) (u0 b : Nat) (ml : Int32) (n : Int) (cp : Nat) (f : Int → Int) (mn : Int) (C9 : Nat) (hu : w u0 = some (.inr (12, [.ref b, .int (iI 0), .int ml, .int (iI n)]))) (hb0 : w b = some (aY X cp f)) (hby : ∀ j, 0 ≤ j → j < (cp : Int) → 0 ≤ f j ∧ f j < 128) (hm : 0 ≤ n ∧ n ≤ (cp : Int) ∧ n ≤ mn ∧ 2 * mn ≤ (C9 : Int) ∧ cp ≤ C9 ∧ C9 < 100000) : CM l X yJ5_ensureCapacityInternal_d00df cJ5_ensureCapacityInternal_d00df 3 none (rmG 3 1 C9 72) [.ref u0, .int (iI mn)] w none (fun w' => ∃ (b9 cp9 : Nat), ∃ (f9 : Int → Int), w' u0 = some (.inr (12, [.ref b9, .int (iI 0), .int ml, .int (iI n)])) ∧ w' b9 = some (aY X cp9 f9) ∧ (mn ≤ (cp9 : Int) ∧ n ≤ (cp9 : Int) ∧ cp9 ≤ C9) ∧ (∀ j, 0 ≤ j → j < n → f9 j = f j) ∧ (∀ j, 0 ≤ j → j < (cp9 : Int) → 0 ≤ f9 j ∧ f9 j < 128) ∧ (b9 = b ∨ frs w b9) ∧ (u0 ≠ b9) ∧ ∀ (q : Nat) (e : va_E), w q = some e → q ≠ u0 → w' q = some e) := by
  by_cases hz : mn ≤ (cp : Int)
  · refine CM.mono (c_ens_e l X w u0 b ml n cp f mn C9 hu hb0 hby hm hz) (fun w' hp => ?_)
    subst hp
    exact ⟨b, cp, f, hu, hb0, ⟨hz, by omega, by omega⟩, fun _ _ _ => rfl, hby, Or.inl rfl, (fun e9 => by rw [e9, hb0] at hu; cases hu), fun _ _ h _ => h⟩
  · exact c_ens_g l X w u0 b ml n cp f mn C9 hu hb0 hby hm (by omega)
theorem cS_coder (l : Launch) (X : Cx) (w : Wo) (q n : Nat) (f : Int → Int) (hs : str X w q n f) : CM l X yJ0_coder_7d493 cJ0_coder_7d493 1 (some (.byte)) (rmG 0 0 0 0) [.ref q] w (some (.int (iI 0))) (fun w' => w' = w) := by
  rcases hs with ⟨b, h, z, h1, h2⟩ | ⟨k, hk, rfl, rfl, rfl⟩
  · exact cW_coder l X w q b h z h1
  · exact cK_coder l X w k hk
set_option maxHeartbeats 4000000 in
set_option maxRecDepth 100000 in
theorem c_J5_inflateIfNeededFor_a7421 (l : Launch) (X : Cx) (w : Wo) (u0 b : Nat) (ml : Int32) (n : Int) (q mz : Nat) (g : Int → Int) (hu : w u0 = some (.inr (12, [.ref b, .int (iI 0), .int ml, .int (iI n)]))) (hs : str X w q mz g) : CM l X yJ5_inflateIfNeededFor_a7421 cJ5_inflateIfNeededFor_a7421 2 none (rmG 1 0 0 20) [.ref u0, .ref q] w none (fun w' => w' = w) := by
  refine CM.of (lv := [(0, .ref u0), (1, .ref q)]) (by decide) (Nat.le_of_ble_eq_true rfl) rfl (fun p e s m below meth c ls F hr hlk hin hW hS hl => ?_)
  have hZ0 := hW.2.2
  have hB9 := hW.1.2
  clear hin
  refine h_gstat F hZ0.2.2.1 hS kf_RJ5_18 dJ5_inflateIfNeededFor_a7421_0 ?_
  refine h_topv (show (Value.int 1 : Value) = .int (iI 1) from rfl) ?_
  refine h_ifeq (tgt := 21) F dJ5_inflateIfNeededFor_a7421_3 (by decide) (by decide) (fun c9 => absurd c9 (by decide)) (fun _ => ?_)
  refine lv_aload_n F.1 F.2.1 dJ5_inflateIfNeededFor_a7421_6 rfl (lv_at hl 0 rfl) ?_
  refine gf_RJ5_22 F hW hu rfl dJ5_inflateIfNeededFor_a7421_7 ?_
  refine lv_aload_n F.1 F.2.1 dJ5_inflateIfNeededFor_a7421_10 rfl (lv_at hl 1 rfl) ?_
  refine cs_RJ5_40 (As := []) (rest := [.int (iI 0)]) F hl (cS_coder l X w q mz g hs) hW hS (str.rc (n := mz) (f := g) hs hW hZ0 hS) rfl rfl ⟨Nat.le_of_ble_eq_true rfl, Nat.le_of_ble_eq_true rfl⟩ (Nat.le_of_ble_eq_true rfl) ⟨(by show 0 + 0 ≤ 0; omega), (by show 0 + 0 ≤ 0; omega)⟩ dJ5_inflateIfNeededFor_a7421_11 (fun w1 H locs hp2 hW hS => ?_)
  rw [hp2] at hW; clear hp2; clear w1
  refine h_iceq (tgt := 21) F dJ5_inflateIfNeededFor_a7421_14 (by decide) (by decide) (fun _ => ?_) (fun c9 => absurd c9 (by decide))
  exact h_vret F hr hlk hW hS rfl dJ5_inflateIfNeededFor_a7421_21
set_option maxHeartbeats 4000000 in
set_option maxRecDepth 100000 in
theorem cW_gb (l : Launch) (X : Cx) (w : Wo) (z0 bb : Nat) (h z : Int32) (mz : Nat) (g : Int → Int) (d9 cp : Nat) (f : Int → Int) (at9 : Int) (hz0 : w z0 = some (.inr (11, [.ref bb, .int (iI 0), .int h, .int z]))) (hbb : w bb = some (aY X mz g)) (hd9 : w d9 = some (aY X cp f)) (hg : ∀ j, 0 ≤ j → j < (mz : Int) → 0 ≤ g j ∧ g j < 128) (hat : 0 ≤ at9 ∧ at9 + (mz : Int) ≤ (cp : Int) ∧ cp < 100000 ∧ mz < 100000) : CM l X yJ0_getBytes_840e7 cJ0_getBytes_840e7 4 none (rmG 1 0 0 44) [.ref z0, .ref d9, .int (iI at9), .int (iI 0)] w none (fun w' => w' d9 = some (aY X cp (cpY g f 0 at9 ((mz : Nat) : Int))) ∧ ∀ q : Nat, q ≠ d9 → w' q = w q) := by
  refine CM.of (lv := [(0, .ref z0), (1, .ref d9), (2, .int (iI at9)), (3, .int (iI 0))]) (by decide) (Nat.le_of_ble_eq_true rfl) rfl (fun p e s m below meth c ls F hr hlk hin hW hS hl => ?_)
  have hZ0 := hW.2.2
  have hB9 := hW.1.2
  clear hin
  refine lv_aload_n F.1 F.2.1 dJ0_getBytes_840e7_0 rfl (lv_at hl 0 rfl) ?_
  refine cw_RJ0_335 (As := []) (rest := []) F hl (cW_coder l X w z0 bb h z hz0) hW hS hz0 rfl rfl ⟨Nat.le_of_ble_eq_true rfl, Nat.le_of_ble_eq_true rfl⟩ (Nat.le_of_ble_eq_true rfl) ⟨(by show 0 + 0 ≤ 0; omega), (by show 0 + 0 ≤ 0; omega)⟩ dJ0_getBytes_840e7_1 (fun w1 H locs hp1 hW hS => ?_)
  rw [hp1] at hW; clear hp1; clear w1
  refine lv_iload_n F.1 F.2.1 dJ0_getBytes_840e7_4 rfl (lv_at hl 3 rfl) ?_
  refine h_icne (tgt := 28) F dJ0_getBytes_840e7_5 (by decide) (by decide) (fun c9 => absurd c9 (by decide)) (fun _ => ?_)
  refine lv_aload_n F.1 F.2.1 dJ0_getBytes_840e7_8 rfl (lv_at hl 0 rfl) ?_
  refine gf_RJ0_9 F hW hz0 rfl dJ0_getBytes_840e7_9 ?_
  refine h_iconst F dJ0_getBytes_840e7_12 ?_
  refine lv_aload_n F.1 F.2.1 dJ0_getBytes_840e7_13 rfl (lv_at hl 1 rfl) ?_
  refine lv_iload_n F.1 F.2.1 dJ0_getBytes_840e7_14 rfl (lv_at hl 2 rfl) ?_
  refine lv_iload_n F.1 F.2.1 dJ0_getBytes_840e7_15 rfl (lv_at hl 3 rfl) ?_
  refine h_ishl (z := iI at9) F dJ0_getBytes_840e7_16 (shl0) ?_
  refine lv_aload_n F.1 F.2.1 dJ0_getBytes_840e7_17 rfl (lv_at hl 0 rfl) ?_
  refine gf_RJ0_9 F hW hz0 rfl dJ0_getBytes_840e7_18 ?_
  refine h_alen (k := 2) (n := mz) F hW rfl hbb dJ0_getBytes_840e7_21 ?_
  refine h_copyb (index := 212) F hl hW hZ0 hB9 hS km_RJ0_212 hbb hd9 (by omega) (fun j h1 h2 => by have := hg j h1 (by omega); omega) (Nat.le_of_ble_eq_true rfl) (Nat.le_of_ble_eq_true rfl) dJ0_getBytes_840e7_22 (fun w3 H locs ha5 hn4 hW hS => ?_)
  refine h_goto (tgt := 43) F dJ0_getBytes_840e7_25 (by decide) ?_
  exact h_vret F hr hlk hW hS ⟨ha5, (fun q h09 => by rw [hn4 q (by omega)])⟩ dJ0_getBytes_840e7_43
set_option maxHeartbeats 4000000 in
set_option maxRecDepth 100000 in
theorem cK_gb (l : Launch) (X : Cx) (w : Wo) (k : Nat) (d9 cp : Nat) (f : Int → Int) (at9 : Int) (hk : k < 15) (hd9 : w d9 = some (aY X cp f)) (hat : 0 ≤ at9 ∧ at9 + ((lwN.getD k 0 : Nat) : Int) ≤ (cp : Int) ∧ cp < 100000) : CM l X yJ0_getBytes_840e7 cJ0_getBytes_840e7 4 none (rmG 1 0 0 44) [.ref (X.2.2 (60 + k)), .ref d9, .int (iI at9), .int (iI 0)] w none (fun w' => w' d9 = some (aY X cp (cpY (lw k) f 0 at9 ((lwN.getD k 0 : Nat) : Int))) ∧ ∀ q : Nat, q ≠ d9 → w' q = w q) := by
  refine CM.of (lv := [(0, .ref (X.2.2 (60 + k))), (1, .ref d9), (2, .int (iI at9)), (3, .int (iI 0))]) (by decide) (Nat.le_of_ble_eq_true rfl) rfl (fun p e s m below meth c ls F hr hlk hin hW hS hl => ?_)
  have hZ0 := hW.2.2
  have hB9 := hW.1.2
  clear hin
  have hln := lwN_r k hk
  refine lv_aload_n F.1 F.2.1 dJ0_getBytes_840e7_0 rfl (lv_at hl 0 rfl) ?_
  refine cs_RJ0_335 (As := []) (rest := []) F hl (cK_coder l X w k hk) hW hS (vk_recv (i := k) hZ0.2.2.2.2.2.1 hk hS) rfl rfl ⟨Nat.le_of_ble_eq_true rfl, Nat.le_of_ble_eq_true rfl⟩ (Nat.le_of_ble_eq_true rfl) ⟨(by show 0 + 0 ≤ 0; omega), (by show 0 + 0 ≤ 0; omega)⟩ dJ0_getBytes_840e7_1 (fun w1 H locs hp1 hW hS => ?_)
  rw [hp1] at hW; clear hp1; clear w1
  refine lv_iload_n F.1 F.2.1 dJ0_getBytes_840e7_4 rfl (lv_at hl 3 rfl) ?_
  refine h_icne (tgt := 28) F dJ0_getBytes_840e7_5 (by decide) (by decide) (fun c9 => absurd c9 (by decide)) (fun _ => ?_)
  refine lv_aload_n F.1 F.2.1 dJ0_getBytes_840e7_8 rfl (lv_at hl 0 rfl) ?_
  refine vk_getf F.1 F.2.1 (hZ0.2.2.2.2.2.1.1 k hk).2.2.1 hS F.2.2.2.1 (F.2.2.2.2 _ kf_RJ0_9) (fun _ h => h) dJ0_getBytes_840e7_9 ?_
  refine h_iconst F dJ0_getBytes_840e7_12 ?_
  refine lv_aload_n F.1 F.2.1 dJ0_getBytes_840e7_13 rfl (lv_at hl 1 rfl) ?_
  refine lv_iload_n F.1 F.2.1 dJ0_getBytes_840e7_14 rfl (lv_at hl 2 rfl) ?_
  refine lv_iload_n F.1 F.2.1 dJ0_getBytes_840e7_15 rfl (lv_at hl 3 rfl) ?_
  refine h_ishl (z := iI at9) F dJ0_getBytes_840e7_16 (shl0) ?_
  refine lv_aload_n F.1 F.2.1 dJ0_getBytes_840e7_17 rfl (lv_at hl 0 rfl) ?_
  refine vk_getf F.1 F.2.1 (hZ0.2.2.2.2.2.1.1 k hk).2.2.1 hS F.2.2.2.1 (F.2.2.2.2 _ kf_RJ0_9) (fun _ h => h) dJ0_getBytes_840e7_18 ?_
  refine va_tlen F.1 F.2.1 (lw_T hZ0 hk) hS (v := iI (((lwN.getD k 0) : Nat) : Int)) (iI_nI _) dJ0_getBytes_840e7_21 ?_
  refine h_copyt (index := 212) F hl hW hZ0 hB9 hS km_RJ0_212 (lw_T hZ0 hk) hd9 (by omega) (fun j h1 h2 => by have := lw_r k j; omega) (Nat.le_of_ble_eq_true rfl) (Nat.le_of_ble_eq_true rfl) dJ0_getBytes_840e7_22 (fun w3 H locs ha5 hn4 hW hS => ?_)
  refine h_goto (tgt := 43) F dJ0_getBytes_840e7_25 (by decide) ?_
  exact h_vret F hr hlk hW hS ⟨(by (rw [ha5]) <;> (rfl)), (fun q h09 => by rw [hn4 q (by omega)])⟩ dJ0_getBytes_840e7_43
theorem cS_gb (l : Launch) (X : Cx) (w : Wo) (z0 mz : Nat) (g : Int → Int) (d9 cp : Nat) (f : Int → Int) (at9 : Int) (hs : str X w z0 mz g) (hd9 : w d9 = some (aY X cp f)) (hg : ∀ j, 0 ≤ j → j < (mz : Int) → 0 ≤ g j ∧ g j < 128) (hat : 0 ≤ at9 ∧ at9 + (mz : Int) ≤ (cp : Int) ∧ cp < 100000 ∧ mz < 100000) : CM l X yJ0_getBytes_840e7 cJ0_getBytes_840e7 4 none (rmG 1 0 0 44) [.ref z0, .ref d9, .int (iI at9), .int (iI 0)] w none (fun w' => w' d9 = some (aY X cp (cpY g f 0 at9 ((mz : Nat) : Int))) ∧ ∀ q : Nat, q ≠ d9 → w' q = w q) := by
  rcases hs with ⟨bb, h, z, h1, h2⟩ | ⟨k, hk, rfl, rfl, rfl⟩
  · exact cW_gb l X w z0 bb h z mz g d9 cp f at9 h1 h2 hd9 hg hat
  · exact cK_gb l X w k d9 cp f at9 hk hd9 ⟨hat.1, hat.2.1, hat.2.2.1⟩
set_option maxHeartbeats 4000000 in
set_option maxRecDepth 100000 in
theorem c_J5_putStringAt_47b60 (l : Launch) (X : Cx) (w : Wo) (u0 b : Nat) (ml : Int32) (n : Int) (cp : Nat) (f : Int → Int) (at9 : Int) (z0 mz : Nat) (g : Int → Int) (hu : w u0 = some (.inr (12, [.ref b, .int (iI 0), .int ml, .int (iI n)]))) (hb0 : w b = some (aY X cp f)) (hs : str X w z0 mz g) (hg : ∀ j, 0 ≤ j → j < (mz : Int) → 0 ≤ g j ∧ g j < 128) (hat : 0 ≤ at9 ∧ at9 + (mz : Int) ≤ (cp : Int) ∧ cp < 100000 ∧ mz < 100000) : CM l X yJ5_putStringAt_47b60 cJ5_putStringAt_47b60 3 none (rmG 2 0 0 67) [.ref u0, .int (iI at9), .ref z0] w none (fun w' => w' b = some (aY X cp (cpY g f 0 at9 ((mz : Nat) : Int))) ∧ ∀ q : Nat, q ≠ b → w' q = w q) := by
  refine CM.of (lv := [(0, .ref u0), (1, .int (iI at9)), (2, .ref z0)]) (by decide) (Nat.le_of_ble_eq_true rfl) rfl (fun p e s m below meth c ls F hr hlk hin hW hS hl => ?_)
  have hZ0 := hW.2.2
  have hB9 := hW.1.2
  clear hin
  have hub : u0 ≠ b := fun e9 => by rw [e9, hb0] at hu; cases hu
  refine lv_aload_n F.1 F.2.1 dJ5_putStringAt_47b60_0 rfl (lv_at hl 0 rfl) ?_
  refine lv_aload_n F.1 F.2.1 dJ5_putStringAt_47b60_1 rfl (lv_at hl 2 rfl) ?_
  refine cl_RJ5_397 (As := [.ref z0]) (rest := []) F hl (c_J5_inflateIfNeededFor_a7421 l X w u0 b ml n z0 mz g hu hs) hW hS hu rfl rfl ⟨Nat.le_of_ble_eq_true rfl, Nat.le_of_ble_eq_true rfl⟩ (Nat.le_of_ble_eq_true rfl) ⟨(by show 0 + 0 ≤ 0; omega), (by show 0 + 0 ≤ 0; omega)⟩ dJ5_putStringAt_47b60_2 (fun w1 H locs hp1 hW hS => ?_)
  rw [hp1] at hW; clear hp1; clear w1
  refine lv_aload_n F.1 F.2.1 dJ5_putStringAt_47b60_5 rfl (lv_at hl 2 rfl) ?_
  refine lv_aload_n F.1 F.2.1 dJ5_putStringAt_47b60_6 rfl (lv_at hl 0 rfl) ?_
  refine gf_RJ5_15 F hW hu rfl dJ5_putStringAt_47b60_7 ?_
  refine lv_iload_n F.1 F.2.1 dJ5_putStringAt_47b60_10 rfl (lv_at hl 1 rfl) ?_
  refine lv_aload_n F.1 F.2.1 dJ5_putStringAt_47b60_11 rfl (lv_at hl 0 rfl) ?_
  refine gf_RJ5_22 F hW hu rfl dJ5_putStringAt_47b60_12 ?_
  refine cs_RJ5_399 (As := [.ref b, .int (iI at9), .int (iI 0)]) (rest := []) F hl (cS_gb l X w z0 mz g b cp f at9 hs hb0 hg hat) hW hS (str.rc (n := mz) (f := g) hs hW hZ0 hS) rfl rfl ⟨Nat.le_of_ble_eq_true rfl, Nat.le_of_ble_eq_true rfl⟩ (Nat.le_of_ble_eq_true rfl) ⟨(by show 0 + 0 + 0 ≤ 0; omega), (by show 0 + 0 + 0 ≤ 0; omega)⟩ dJ5_putStringAt_47b60_15 (fun w2 H locs hp3 hW hS => ?_)
  obtain ⟨ha4, hn5⟩ := hp3
  have hu := (hn5 _ (by omega)).trans hu
  exact h_vret F hr hlk hW hS ⟨ha4, (fun q h09 => by rw [hn5 q (by omega)])⟩ dJ5_putStringAt_47b60_18
