set_option maxHeartbeats 4000000 in
set_option maxRecDepth 100000 in
theorem cW_coder (l : Launch) (X : Cx) (w : Wo) (q b : Nat) (h z : Int32) (ho : w q = some (.inr (11, [.ref b, .int (iI 0), .int h, .int z]))) : CM l X yJ0_coder_7d493 cJ0_coder_7d493 1 (some (.byte)) (rmG 0 0 0 0) [.ref q] w (some (.int (iI 0))) (fun w' => w' = w) := by
  refine CM.of (lv := [(0, .ref q)]) (by decide) (Nat.le_of_ble_eq_true rfl) rfl (fun p e s m below meth c ls F hr hlk hin hW hS hl => ?_)
  have hZ0 := hW.2.2
  have hB9 := hW.1.2
  clear hin
  refine h_gstat F hZ0.2.2.1 hS kf_RJ0_38 dJ0_coder_7d493_0 ?_
  refine h_topv (show (Value.int 1 : Value) = .int (iI 1) from rfl) ?_
  refine h_ifeq (tgt := 13) F dJ0_coder_7d493_3 (by decide) (by decide) (fun c9 => absurd c9 (by decide)) (fun _ => ?_)
  refine lv_aload_n F.1 F.2.1 dJ0_coder_7d493_6 rfl (lv_at hl 0 rfl) ?_
  refine gf_RJ0_15 F hW ho rfl dJ0_coder_7d493_7 ?_
  refine h_goto (tgt := 14) F dJ0_coder_7d493_10 (by decide) ?_
  exact h_irety F hr hlk rfl hW hS rfl dJ0_coder_7d493_14
set_option maxHeartbeats 4000000 in
set_option maxRecDepth 100000 in
theorem cW_lat (l : Launch) (X : Cx) (w : Wo) (q b : Nat) (h z : Int32) (ho : w q = some (.inr (11, [.ref b, .int (iI 0), .int h, .int z]))) : CM l X yJ0_isLatin1_aae02 cJ0_isLatin1_aae02 1 (some (.boolean)) (rmG 0 0 0 0) [.ref q] w (some (.int (iI (bz true)))) (fun w' => w' = w) := by
  refine CM.of (lv := [(0, .ref q)]) (by decide) (Nat.le_of_ble_eq_true rfl) rfl (fun p e s m below meth c ls F hr hlk hin hW hS hl => ?_)
  have hZ0 := hW.2.2
  have hB9 := hW.1.2
  clear hin
  refine h_gstat F hZ0.2.2.1 hS kf_RJ0_38 dJ0_isLatin1_aae02_0 ?_
  refine h_topv (show (Value.int 1 : Value) = .int (iI 1) from rfl) ?_
  refine h_ifeq (tgt := 17) F dJ0_isLatin1_aae02_3 (by decide) (by decide) (fun c9 => absurd c9 (by decide)) (fun _ => ?_)
  refine lv_aload_n F.1 F.2.1 dJ0_isLatin1_aae02_6 rfl (lv_at hl 0 rfl) ?_
  refine gf_RJ0_15 F hW ho rfl dJ0_isLatin1_aae02_7 ?_
  refine h_ifne (tgt := 17) F dJ0_isLatin1_aae02_10 (by decide) (by decide) (fun c9 => absurd c9 (by decide)) (fun _ => ?_)
  refine h_iconst F dJ0_isLatin1_aae02_13 ?_
  refine h_goto (tgt := 18) F dJ0_isLatin1_aae02_14 (by decide) ?_
  refine h_top (show (1 : Int) = bz true from rfl) ?_
  exact h_iretz F hr hlk hW hS rfl dJ0_isLatin1_aae02_18
set_option maxHeartbeats 4000000 in
set_option maxRecDepth 100000 in
theorem cW_len (l : Launch) (X : Cx) (w : Wo) (q b : Nat) (h z : Int32) (n : Nat) (f : Int → Int) (ho : w q = some (.inr (11, [.ref b, .int (iI 0), .int h, .int z]))) (hb : w b = some (aY X n f)) (hn9 : n < 1000000) : CM l X yJ0_length_8abf5 cJ0_length_8abf5 1 (some (.int)) (rmG 1 0 0 20) [.ref q] w (some (.int (iI ((n : Nat) : Int)))) (fun w' => w' = w) := by
  refine CM.of (lv := [(0, .ref q)]) (by decide) (Nat.le_of_ble_eq_true rfl) rfl (fun p e s m below meth c ls F hr hlk hin hW hS hl => ?_)
  have hZ0 := hW.2.2
  have hB9 := hW.1.2
  clear hin
  refine lv_aload_n F.1 F.2.1 dJ0_length_8abf5_0 rfl (lv_at hl 0 rfl) ?_
  refine gf_RJ0_9 F hW ho rfl dJ0_length_8abf5_1 ?_
  refine h_alen (k := 2) (n := n) F hW rfl hb dJ0_length_8abf5_4 ?_
  refine lv_aload_n F.1 F.2.1 dJ0_length_8abf5_5 rfl (lv_at hl 0 rfl) ?_
  refine cw_RJ0_335 (As := []) (rest := [.int (iI ((n : Nat) : Int))]) F hl (cW_coder l X w q b h z ho) hW hS ho rfl rfl ⟨Nat.le_of_ble_eq_true rfl, Nat.le_of_ble_eq_true rfl⟩ (Nat.le_of_ble_eq_true rfl) ⟨(by show 0 + 0 ≤ 0; omega), (by show 0 + 0 ≤ 0; omega)⟩ dJ0_length_8abf5_6 (fun w1 H locs hp1 hW hS => ?_)
  rw [hp1] at hW; clear hp1; clear w1
  refine h_ishr (z := iI ((n : Nat) : Int)) F dJ0_length_8abf5_9 (sh0 (by omega)) ?_
  exact h_ireti F hr hlk hW hS rfl dJ0_length_8abf5_10
set_option maxHeartbeats 4000000 in
set_option maxRecDepth 100000 in
theorem cW_b (l : Launch) (X : Cx) (w : Wo) (b n : Nat) (f : Int → Int) (j : Int) (hb : w b = some (aY X n f)) (hf : ∀ j, 0 ≤ j → j < (n : Int) → 0 ≤ f j ∧ f j < 128) (hj : 0 ≤ j ∧ j < (n : Int) ∧ n < 1000000) : CM l X yJ1_charAt_3b067 cJ1_charAt_3b067 2 (some (.char)) (rmG 2 0 0 43) [.ref b, .int (iI j)] w (some (.int (iI (f j)))) (fun w' => w' = w) := by
  refine CM.of (lv := [(0, .ref b), (1, .int (iI j))]) (by decide) (Nat.le_of_ble_eq_true rfl) rfl (fun p e s m below meth c ls F hr hlk hin hW hS hl => ?_)
  have hZ0 := hW.2.2
  have hB9 := hW.1.2
  clear hin
  have hfj := hf j hj.1 hj.2.1
  refine lv_iload_n F.1 F.2.1 dJ1_charAt_3b067_0 rfl (lv_at hl 1 rfl) ?_
  refine lv_aload_n F.1 F.2.1 dJ1_charAt_3b067_1 rfl (lv_at hl 0 rfl) ?_
  refine h_alen (k := 2) (n := n) F hW rfl hb dJ1_charAt_3b067_2 ?_
  refine cl_RJ1_9 (As := [.int (iI j), .int (iI ((n : Nat) : Int))]) (rest := []) F hl (c_J0_checkIndex_df160 l X w j ((n : Nat) : Int) (by omega)) hW hS rfl rfl ⟨Nat.le_of_ble_eq_true rfl, Nat.le_of_ble_eq_true rfl⟩ (Nat.le_of_ble_eq_true rfl) ⟨Nat.zero_le _, Nat.zero_le _⟩ dJ1_charAt_3b067_3 (fun w1 H locs hp1 hW hS => ?_)
  rw [hp1] at hW; clear hp1; clear w1
  refine lv_aload_n F.1 F.2.1 dJ1_charAt_3b067_6 rfl (lv_at hl 0 rfl) ?_
  refine lv_iload_n F.1 F.2.1 dJ1_charAt_3b067_7 rfl (lv_at hl 1 rfl) ?_
  refine h_yald F hW hb (by omega) (by omega) dJ1_charAt_3b067_8 ?_
  refine h_sipush F dJ1_charAt_3b067_9 rfl ?_
  refine h_iand (z := iI (f j)) F dJ1_charAt_3b067_12 (y255 (by omega)) ?_
  refine lv_i2c (v := iI (f j)) F.1 F.2.1 dJ1_charAt_3b067_13 (i2c_id (by omega)) ?_
  exact h_irety F hr hlk (narC (by omega)) hW hS rfl dJ1_charAt_3b067_14
set_option maxHeartbeats 4000000 in
set_option maxRecDepth 100000 in
theorem cW_chr (l : Launch) (X : Cx) (w : Wo) (q b : Nat) (h z : Int32) (n : Nat) (f : Int → Int) (j : Int) (ho : w q = some (.inr (11, [.ref b, .int (iI 0), .int h, .int z]))) (hb : w b = some (aY X n f)) (hf : ∀ j, 0 ≤ j → j < (n : Int) → 0 ≤ f j ∧ f j < 128) (hj : 0 ≤ j ∧ j < (n : Int) ∧ n < 1000000) : CM l X yJ0_charAt_5068e cJ0_charAt_5068e 2 (some (.char)) (rmG 3 0 0 64) [.ref q, .int (iI j)] w (some (.int (iI (f j)))) (fun w' => w' = w) := by
  refine CM.of (lv := [(0, .ref q), (1, .int (iI j))]) (by decide) (Nat.le_of_ble_eq_true rfl) rfl (fun p e s m below meth c ls F hr hlk hin hW hS hl => ?_)
  have hZ0 := hW.2.2
  have hB9 := hW.1.2
  clear hin
  have hfj := hf j hj.1 hj.2.1
  refine lv_aload_n F.1 F.2.1 dJ0_charAt_5068e_0 rfl (lv_at hl 0 rfl) ?_
  refine cw_RJ0_492 (As := []) (rest := []) F hl (cW_lat l X w q b h z ho) hW hS ho rfl rfl ⟨Nat.le_of_ble_eq_true rfl, Nat.le_of_ble_eq_true rfl⟩ (Nat.le_of_ble_eq_true rfl) ⟨(by show 0 + 0 ≤ 0; omega), (by show 0 + 0 ≤ 0; omega)⟩ dJ0_charAt_5068e_1 (fun w1 H locs hp1 hW hS => ?_)
  rw [hp1] at hW; clear hp1; clear w1
  refine h_ifeqb (tgt := 16) F dJ0_charAt_5068e_4 (by decide) (fun c9 => absurd c9 (by decide)) (fun _ => ?_)
  refine lv_aload_n F.1 F.2.1 dJ0_charAt_5068e_7 rfl (lv_at hl 0 rfl) ?_
  refine gf_RJ0_9 F hW ho rfl dJ0_charAt_5068e_8 ?_
  refine lv_iload_n F.1 F.2.1 dJ0_charAt_5068e_11 rfl (lv_at hl 1 rfl) ?_
  refine cl_RJ0_495 (As := [.ref b, .int (iI j)]) (rest := []) F hl (cW_b l X w b n f j hb hf (by omega)) hW hS rfl rfl ⟨Nat.le_of_ble_eq_true rfl, Nat.le_of_ble_eq_true rfl⟩ (Nat.le_of_ble_eq_true rfl) ⟨Nat.zero_le _, Nat.zero_le _⟩ dJ0_charAt_5068e_12 (fun w1 H locs hp3 hW hS => ?_)
  rw [hp3] at hW; clear hp3; clear w1
  exact h_irety F hr hlk (narC (by omega)) hW hS rfl dJ0_charAt_5068e_15
set_option maxHeartbeats 4000000 in
set_option maxRecDepth 100000 in
theorem cK_coder (l : Launch) (X : Cx) (w : Wo) (k : Nat) (hk : k < 15) : CM l X yJ0_coder_7d493 cJ0_coder_7d493 1 (some (.byte)) (rmG 0 0 0 0) [.ref (X.2.2 (60 + k))] w (some (.int (iI 0))) (fun w' => w' = w) := by
  refine CM.of (lv := [(0, .ref (X.2.2 (60 + k)))]) (by decide) (Nat.le_of_ble_eq_true rfl) rfl (fun p e s m below meth c ls F hr hlk hin hW hS hl => ?_)
  have hZ0 := hW.2.2
  have hB9 := hW.1.2
  clear hin
  refine h_gstat F hZ0.2.2.1 hS kf_RJ0_38 dJ0_coder_7d493_0 ?_
  refine h_topv (show (Value.int 1 : Value) = .int (iI 1) from rfl) ?_
  refine h_ifeq (tgt := 13) F dJ0_coder_7d493_3 (by decide) (by decide) (fun c9 => absurd c9 (by decide)) (fun _ => ?_)
  refine lv_aload_n F.1 F.2.1 dJ0_coder_7d493_6 rfl (lv_at hl 0 rfl) ?_
  refine vk_getf F.1 F.2.1 (hZ0.2.2.2.2.2.1.1 k hk).2.1 hS F.2.2.2.1 (F.2.2.2.2 _ kf_RJ0_15) (fun _ h => h) dJ0_coder_7d493_7 ?_
  refine h_topv (show (Value.int 0 : Value) = .int (iI 0) from rfl) ?_
  refine h_goto (tgt := 14) F dJ0_coder_7d493_10 (by decide) ?_
  exact h_irety F hr hlk rfl hW hS rfl dJ0_coder_7d493_14
set_option maxHeartbeats 4000000 in
set_option maxRecDepth 100000 in
theorem cK_lat (l : Launch) (X : Cx) (w : Wo) (k : Nat) (hk : k < 15) : CM l X yJ0_isLatin1_aae02 cJ0_isLatin1_aae02 1 (some (.boolean)) (rmG 0 0 0 0) [.ref (X.2.2 (60 + k))] w (some (.int (iI (bz true)))) (fun w' => w' = w) := by
  refine CM.of (lv := [(0, .ref (X.2.2 (60 + k)))]) (by decide) (Nat.le_of_ble_eq_true rfl) rfl (fun p e s m below meth c ls F hr hlk hin hW hS hl => ?_)
  have hZ0 := hW.2.2
  have hB9 := hW.1.2
  clear hin
  refine h_gstat F hZ0.2.2.1 hS kf_RJ0_38 dJ0_isLatin1_aae02_0 ?_
  refine h_topv (show (Value.int 1 : Value) = .int (iI 1) from rfl) ?_
  refine h_ifeq (tgt := 17) F dJ0_isLatin1_aae02_3 (by decide) (by decide) (fun c9 => absurd c9 (by decide)) (fun _ => ?_)
  refine lv_aload_n F.1 F.2.1 dJ0_isLatin1_aae02_6 rfl (lv_at hl 0 rfl) ?_
  refine vk_getf F.1 F.2.1 (hZ0.2.2.2.2.2.1.1 k hk).2.1 hS F.2.2.2.1 (F.2.2.2.2 _ kf_RJ0_15) (fun _ h => h) dJ0_isLatin1_aae02_7 ?_
  refine h_topv (show (Value.int 0 : Value) = .int (iI 0) from rfl) ?_
  refine h_ifne (tgt := 17) F dJ0_isLatin1_aae02_10 (by decide) (by decide) (fun c9 => absurd c9 (by decide)) (fun _ => ?_)
  refine h_iconst F dJ0_isLatin1_aae02_13 ?_
  refine h_goto (tgt := 18) F dJ0_isLatin1_aae02_14 (by decide) ?_
  refine h_top (show (1 : Int) = bz true from rfl) ?_
  exact h_iretz F hr hlk hW hS rfl dJ0_isLatin1_aae02_18
set_option maxHeartbeats 4000000 in
set_option maxRecDepth 100000 in
theorem cK_len (l : Launch) (X : Cx) (w : Wo) (k : Nat) (hk : k < 15) : CM l X yJ0_length_8abf5 cJ0_length_8abf5 1 (some (.int)) (rmG 1 0 0 20) [.ref (X.2.2 (60 + k))] w (some (.int (iI ((lwN.getD k 0 : Nat) : Int)))) (fun w' => w' = w) := by
  refine CM.of (lv := [(0, .ref (X.2.2 (60 + k)))]) (by decide) (Nat.le_of_ble_eq_true rfl) rfl (fun p e s m below meth c ls F hr hlk hin hW hS hl => ?_)
  have hZ0 := hW.2.2
  have hB9 := hW.1.2
  clear hin
  have hln := lwN_r k hk
  refine lv_aload_n F.1 F.2.1 dJ0_length_8abf5_0 rfl (lv_at hl 0 rfl) ?_
  refine vk_getf F.1 F.2.1 (hZ0.2.2.2.2.2.1.1 k hk).2.2.1 hS F.2.2.2.1 (F.2.2.2.2 _ kf_RJ0_9) (fun _ h => h) dJ0_length_8abf5_1 ?_
  refine va_tlen F.1 F.2.1 (lw_T hZ0 hk) hS (v := iI (((lwN.getD k 0) : Nat) : Int)) (iI_nI _) dJ0_length_8abf5_4 ?_
  refine lv_aload_n F.1 F.2.1 dJ0_length_8abf5_5 rfl (lv_at hl 0 rfl) ?_
  refine cs_RJ0_335 (As := []) (rest := [.int (iI (((lwN.getD k 0) : Nat) : Int))]) F hl (cK_coder l X w k hk) hW hS (vk_recv (i := k) hZ0.2.2.2.2.2.1 hk hS) rfl rfl ⟨Nat.le_of_ble_eq_true rfl, Nat.le_of_ble_eq_true rfl⟩ (Nat.le_of_ble_eq_true rfl) ⟨(by show 0 + 0 ≤ 0; omega), (by show 0 + 0 ≤ 0; omega)⟩ dJ0_length_8abf5_6 (fun w1 H locs hp1 hW hS => ?_)
  rw [hp1] at hW; clear hp1; clear w1
  refine h_ishr (z := iI (((lwN.getD k 0) : Nat) : Int)) F dJ0_length_8abf5_9 (sh0 (by omega)) ?_
  refine h_top (show ((((lwN.getD k 0) : Nat) : Int) : Int) = ((lwN.getD k 0 : Nat) : Int) from by first | rfl | omega | (simp_all; done)) ?_
  exact h_ireti F hr hlk hW hS rfl dJ0_length_8abf5_10
set_option maxHeartbeats 4000000 in
set_option maxRecDepth 100000 in
theorem cK_b (l : Launch) (X : Cx) (w : Wo) (k : Nat) (j : Int) (hk : k < 15) (hj : 0 ≤ j ∧ j < ((lwN.getD k 0 : Nat) : Int)) : CM l X yJ1_charAt_3b067 cJ1_charAt_3b067 2 (some (.char)) (rmG 2 0 0 43) [.ref (X.2.2 (80 + k)), .int (iI j)] w (some (.int (iI (lw k j)))) (fun w' => w' = w) := by
  refine CM.of (lv := [(0, .ref (X.2.2 (80 + k))), (1, .int (iI j))]) (by decide) (Nat.le_of_ble_eq_true rfl) rfl (fun p e s m below meth c ls F hr hlk hin hW hS hl => ?_)
  have hZ0 := hW.2.2
  have hB9 := hW.1.2
  clear hin
  have hln := lwN_r k hk
  have hfj := lw_r k j
  refine lv_iload_n F.1 F.2.1 dJ1_charAt_3b067_0 rfl (lv_at hl 1 rfl) ?_
  refine lv_aload_n F.1 F.2.1 dJ1_charAt_3b067_1 rfl (lv_at hl 0 rfl) ?_
  refine va_tlen F.1 F.2.1 (lw_T hZ0 hk) hS (v := iI (((lwN.getD k 0) : Nat) : Int)) (iI_nI _) dJ1_charAt_3b067_2 ?_
  refine cl_RJ1_9 (As := [.int (iI j), .int (iI (((lwN.getD k 0) : Nat) : Int))]) (rest := []) F hl (c_J0_checkIndex_df160 l X w j (((lwN.getD k 0) : Nat) : Int) (by omega)) hW hS rfl rfl ⟨Nat.le_of_ble_eq_true rfl, Nat.le_of_ble_eq_true rfl⟩ (Nat.le_of_ble_eq_true rfl) ⟨Nat.zero_le _, Nat.zero_le _⟩ dJ1_charAt_3b067_3 (fun w1 H locs hp1 hW hS => ?_)
  rw [hp1] at hW; clear hp1; clear w1
  refine lv_aload_n F.1 F.2.1 dJ1_charAt_3b067_6 rfl (lv_at hl 0 rfl) ?_
  refine lv_iload_n F.1 F.2.1 dJ1_charAt_3b067_7 rfl (lv_at hl 1 rfl) ?_
  refine h_ytld F hS (lw_T hZ0 hk) (by omega) (by omega) dJ1_charAt_3b067_8 ?_
  refine h_sipush F dJ1_charAt_3b067_9 rfl ?_
  refine h_iand (z := iI ((lw k) j)) F dJ1_charAt_3b067_12 (y255 (by omega)) ?_
  refine lv_i2c (v := iI ((lw k) j)) F.1 F.2.1 dJ1_charAt_3b067_13 (i2c_id (by omega)) ?_
  refine h_top (show ((lw k) j : Int) = lw k j from by first | rfl | omega | (simp_all; done)) ?_
  exact h_irety F hr hlk (narC (by omega)) hW hS rfl dJ1_charAt_3b067_14
set_option maxHeartbeats 4000000 in
set_option maxRecDepth 100000 in
theorem cK_chr (l : Launch) (X : Cx) (w : Wo) (k : Nat) (j : Int) (hk : k < 15) (hj : 0 ≤ j ∧ j < ((lwN.getD k 0 : Nat) : Int)) : CM l X yJ0_charAt_5068e cJ0_charAt_5068e 2 (some (.char)) (rmG 3 0 0 64) [.ref (X.2.2 (60 + k)), .int (iI j)] w (some (.int (iI (lw k j)))) (fun w' => w' = w) := by
  refine CM.of (lv := [(0, .ref (X.2.2 (60 + k))), (1, .int (iI j))]) (by decide) (Nat.le_of_ble_eq_true rfl) rfl (fun p e s m below meth c ls F hr hlk hin hW hS hl => ?_)
  have hZ0 := hW.2.2
  have hB9 := hW.1.2
  clear hin
  have hln := lwN_r k hk
  have hfj := lw_r k j
  refine lv_aload_n F.1 F.2.1 dJ0_charAt_5068e_0 rfl (lv_at hl 0 rfl) ?_
  refine cs_RJ0_492 (As := []) (rest := []) F hl (cK_lat l X w k hk) hW hS (vk_recv (i := k) hZ0.2.2.2.2.2.1 hk hS) rfl rfl ⟨Nat.le_of_ble_eq_true rfl, Nat.le_of_ble_eq_true rfl⟩ (Nat.le_of_ble_eq_true rfl) ⟨(by show 0 + 0 ≤ 0; omega), (by show 0 + 0 ≤ 0; omega)⟩ dJ0_charAt_5068e_1 (fun w1 H locs hp1 hW hS => ?_)
  rw [hp1] at hW; clear hp1; clear w1
  refine h_ifeqb (tgt := 16) F dJ0_charAt_5068e_4 (by decide) (fun c9 => absurd c9 (by decide)) (fun _ => ?_)
  refine lv_aload_n F.1 F.2.1 dJ0_charAt_5068e_7 rfl (lv_at hl 0 rfl) ?_
  refine vk_getf F.1 F.2.1 (hZ0.2.2.2.2.2.1.1 k hk).2.2.1 hS F.2.2.2.1 (F.2.2.2.2 _ kf_RJ0_9) (fun _ h => h) dJ0_charAt_5068e_8 ?_
  refine lv_iload_n F.1 F.2.1 dJ0_charAt_5068e_11 rfl (lv_at hl 1 rfl) ?_
  refine cl_RJ0_495 (As := [.ref (X.2.2 (80 + k)), .int (iI j)]) (rest := []) F hl (cK_b l X w k j hk (by omega)) hW hS rfl rfl ⟨Nat.le_of_ble_eq_true rfl, Nat.le_of_ble_eq_true rfl⟩ (Nat.le_of_ble_eq_true rfl) ⟨Nat.zero_le _, Nat.zero_le _⟩ dJ0_charAt_5068e_12 (fun w1 H locs hp3 hW hS => ?_)
  rw [hp3] at hW; clear hp3; clear w1
  exact h_irety F hr hlk (narC (by omega)) hW hS rfl dJ0_charAt_5068e_15
theorem cS_len (l : Launch) (X : Cx) (w : Wo) (q n : Nat) (f : Int → Int) (hs : str X w q n f) (hn9 : n < 1000000) : CM l X yJ0_length_8abf5 cJ0_length_8abf5 1 (some (.int)) (rmG 1 0 0 20) [.ref q] w (some (.int (iI ((n : Nat) : Int)))) (fun w' => w' = w) := by
  rcases hs with ⟨b, h, z, h1, h2⟩ | ⟨k, hk, rfl, rfl, rfl⟩
  · exact cW_len l X w q b h z n f h1 h2 hn9
  · exact cK_len l X w k hk
theorem cS_chr (l : Launch) (X : Cx) (w : Wo) (q n : Nat) (f : Int → Int) (j : Int) (hs : str X w q n f) (hf : ∀ j, 0 ≤ j → j < (n : Int) → 0 ≤ f j ∧ f j < 128) (hj : 0 ≤ j ∧ j < (n : Int) ∧ n < 1000000) : CM l X yJ0_charAt_5068e cJ0_charAt_5068e 2 (some (.char)) (rmG 3 0 0 64) [.ref q, .int (iI j)] w (some (.int (iI (f j)))) (fun w' => w' = w) := by
  rcases hs with ⟨b, h, z, h1, h2⟩ | ⟨k, hk, rfl, rfl, rfl⟩
  · exact cW_chr l X w q b h z n f j h1 h2 hf hj
  · exact cK_chr l X w k j hk ⟨hj.1, hj.2.1⟩
