set_option maxHeartbeats 4000000 in
set_option maxRecDepth 100000 in
theorem c_J15_checkIndex_7cf53 (l : Launch) (X : Cx) (w : Wo) (i n : Int) (hi : 0 ≤ i ∧ i < n ∧ n < 2147483648) : CM l X yJ15_checkIndex_7cf53 cJ15_checkIndex_7cf53 2 (some (.int)) (rmG 1 0 0 22) [.int (iI i), .int (iI n)] w (some (.int (iI i))) (fun w' => w' = w) := by
  refine CM.of (lv := [(0, .int (iI i)), (1, .int (iI n))]) (by decide) (Nat.le_of_ble_eq_true rfl) rfl (fun p e s m below meth c ls F hr hlk hin hW hS hl => ?_)
  have hZ0 := hW.2.2
  have hB9 := hW.1.2
  clear hin
  refine lv_iload_n F.1 F.2.1 dJ15_checkIndex_7cf53_0 rfl (lv_at hl 0 rfl) ?_
  refine lv_iload_n F.1 F.2.1 dJ15_checkIndex_7cf53_1 rfl (lv_at hl 1 rfl) ?_
  refine lv_null F.1 F.2.1 dJ15_checkIndex_7cf53_2 ?_
  refine cl_RJ15_105 (As := [.int (iI i), .int (iI n), .null]) (rest := []) F hl (c_chk_n l X w i n (by omega)) hW hS rfl rfl ⟨Nat.le_of_ble_eq_true rfl, Nat.le_of_ble_eq_true rfl⟩ (Nat.le_of_ble_eq_true rfl) ⟨(by show 0 + 0 ≤ 0; omega), (by show 0 + 0 ≤ 0; omega)⟩ dJ15_checkIndex_7cf53_3 (fun w1 H locs hp1 hW hS => ?_)
  rw [hp1] at hW; clear hp1; clear w1
  exact h_ireti F hr hlk hW hS rfl dJ15_checkIndex_7cf53_6
set_option maxHeartbeats 4000000 in
set_option maxRecDepth 100000 in
theorem c_Jx4a65c_size_8abf5 (l : Launch) (X : Cx) (w : Wo) (a : Nat) (md : Int32) (ea : Nat) (n : Int) (ho : w a = some (.inr (14, [.int md, .ref ea, .int (iI n)]))) : CM l X yJx4a65c_size_8abf5 cJx4a65c_size_8abf5 1 (some (.int)) (rmG 0 0 0 0) [.ref a] w (some (.int (iI n))) (fun w' => w' = w) := by
  refine CM.of (lv := [(0, .ref a)]) (by decide) (Nat.le_of_ble_eq_true rfl) rfl (fun p e s m below meth c ls F hr hlk hin hW hS hl => ?_)
  have hZ0 := hW.2.2
  have hB9 := hW.1.2
  clear hin
  refine lv_aload_n F.1 F.2.1 dJx4a65c_size_8abf5_0 rfl (lv_at hl 0 rfl) ?_
  refine gf_RJx4a65c_48 F hW ho rfl dJx4a65c_size_8abf5_1 ?_
  exact h_ireti F hr hlk hW hS rfl dJx4a65c_size_8abf5_4
set_option maxHeartbeats 4000000 in
set_option maxRecDepth 100000 in
theorem c_Jx4a65c_isEmpty_aae02 (l : Launch) (X : Cx) (w : Wo) (a : Nat) (md : Int32) (ea : Nat) (n : Int) (ho : w a = some (.inr (14, [.int md, .ref ea, .int (iI n)]))) (hr : 0 ≤ n ∧ n < 1000000) : CM l X yJx4a65c_isEmpty_aae02 cJx4a65c_isEmpty_aae02 1 (some (.boolean)) (rmG 0 0 0 0) [.ref a] w (some (.int (iI (bz (decide (n = 0)))))) (fun w' => w' = w) := by
  refine CM.of (lv := [(0, .ref a)]) (by decide) (Nat.le_of_ble_eq_true rfl) rfl (fun p e s m below meth c ls F hr hlk hin hW hS hl => ?_)
  have hZ0 := hW.2.2
  have hB9 := hW.1.2
  clear hin
  refine lv_aload_n F.1 F.2.1 dJx4a65c_isEmpty_aae02_0 rfl (lv_at hl 0 rfl) ?_
  refine gf_RJx4a65c_48 F hW ho rfl dJx4a65c_isEmpty_aae02_1 ?_
  refine h_ifne (tgt := 11) F dJx4a65c_isEmpty_aae02_4 (by decide) (by omega) (fun c1 => ?_) (fun c1 => ?_)
  · refine h_iconst F dJx4a65c_isEmpty_aae02_11 ?_
    refine h_top (show (0 : Int) = bz (decide (n = 0)) from bzf (by first | exact decide_eq_false (by omega) | (simp only [Bool.and_eq_false_iff, Bool.or_eq_false_iff, decide_eq_false_iff_not]; omega) | simp_all)) ?_
    exact h_iretz F hr hlk hW hS rfl dJx4a65c_isEmpty_aae02_12
  · refine h_iconst F dJx4a65c_isEmpty_aae02_7 ?_
    refine h_goto (tgt := 12) F dJx4a65c_isEmpty_aae02_8 (by decide) ?_
    refine h_top (show (1 : Int) = bz (decide (n = 0)) from bzt (by first | exact decide_eq_true (by omega) | (simp only [Bool.and_eq_true, Bool.or_eq_true, decide_eq_true_eq]; omega) | simp_all)) ?_
    exact h_iretz F hr hlk hW hS rfl dJx4a65c_isEmpty_aae02_12
set_option maxHeartbeats 4000000 in
set_option maxRecDepth 100000 in
theorem c_Jx4a65c_elementData_915e3 (l : Launch) (X : Cx) (w : Wo) (a : Nat) (md : Int32) (ea : Nat) (n : Int) (cp : Nat) (gg : Nat → Option Nat) (i : Int) (x : Nat) (ho : w a = some (.inr (14, [.int md, .ref ea, .int (iI n)]))) (hea : w ea = some (aR X 5 cp gg)) (hi : 0 ≤ i ∧ i < (cp : Int) ∧ cp < 1000000) (hg : gg i.toNat = some x) : CM l X yJx4a65c_elementData_915e3 cJx4a65c_elementData_915e3 2 (some (.object "java/lang/Object")) (rmG 0 0 0 0) [.ref a, .int (iI i)] w (some (.ref x)) (fun w' => w' = w) := by
  refine CM.of (lv := [(0, .ref a), (1, .int (iI i))]) (by decide) (Nat.le_of_ble_eq_true rfl) rfl (fun p e s m below meth c ls F hr hlk hin hW hS hl => ?_)
  have hZ0 := hW.2.2
  have hB9 := hW.1.2
  clear hin
  refine lv_aload_n F.1 F.2.1 dJx4a65c_elementData_915e3_0 rfl (lv_at hl 0 rfl) ?_
  refine gf_RJx4a65c_9 F hW ho rfl dJx4a65c_elementData_915e3_1 ?_
  refine lv_iload_n F.1 F.2.1 dJx4a65c_elementData_915e3_4 rfl (lv_at hl 1 rfl) ?_
  refine h_aald (k := 5) F hW rfl hea (by omega) (by omega) hg dJx4a65c_elementData_915e3_5 ?_
  exact h_aret F hr hlk hW hS rfl dJx4a65c_elementData_915e3_6
set_option maxHeartbeats 4000000 in
set_option maxRecDepth 100000 in
theorem c_Jx4a65c_get_915e3 (l : Launch) (X : Cx) (w : Wo) (a : Nat) (md : Int32) (ea : Nat) (n : Int) (cp : Nat) (gg : Nat → Option Nat) (i : Int) (x : Nat) (ho : w a = some (.inr (14, [.int md, .ref ea, .int (iI n)]))) (hea : w ea = some (aR X 5 cp gg)) (hi : 0 ≤ i ∧ i < n ∧ n ≤ (cp : Int) ∧ cp < 1000000) (hg : gg i.toNat = some x) : CM l X yJx4a65c_get_915e3 cJx4a65c_get_915e3 2 (some (.object "java/lang/Object")) (rmG 2 0 0 43) [.ref a, .int (iI i)] w (some (.ref x)) (fun w' => w' = w) := by
  refine CM.of (lv := [(0, .ref a), (1, .int (iI i))]) (by decide) (Nat.le_of_ble_eq_true rfl) rfl (fun p e s m below meth c ls F hr hlk hin hW hS hl => ?_)
  have hZ0 := hW.2.2
  have hB9 := hW.1.2
  clear hin
  refine lv_iload_n F.1 F.2.1 dJx4a65c_get_915e3_0 rfl (lv_at hl 1 rfl) ?_
  refine lv_aload_n F.1 F.2.1 dJx4a65c_get_915e3_1 rfl (lv_at hl 0 rfl) ?_
  refine gf_RJx4a65c_48 F hW ho rfl dJx4a65c_get_915e3_2 ?_
  refine cl_RJx4a65c_118 (As := [.int (iI i), .int (iI n)]) (rest := []) F hl (c_J15_checkIndex_7cf53 l X w i n (by omega)) hW hS rfl rfl ⟨Nat.le_of_ble_eq_true rfl, Nat.le_of_ble_eq_true rfl⟩ (Nat.le_of_ble_eq_true rfl) ⟨(by show 0 + 0 ≤ 0; omega), (by show 0 + 0 ≤ 0; omega)⟩ dJx4a65c_get_915e3_5 (fun w1 H locs hp1 hW hS => ?_)
  rw [hp1] at hW; clear hp1; clear w1
  refine lv_pop F.1 F.2.1 dJx4a65c_get_915e3_8 rfl ?_
  refine lv_aload_n F.1 F.2.1 dJx4a65c_get_915e3_9 rfl (lv_at hl 0 rfl) ?_
  refine lv_iload_n F.1 F.2.1 dJx4a65c_get_915e3_10 rfl (lv_at hl 1 rfl) ?_
  refine cl_RJx4a65c_123 (As := [.int (iI i)]) (rest := []) F hl (c_Jx4a65c_elementData_915e3 l X w a md ea n cp gg i x ho hea (by omega) hg) hW hS ho rfl rfl ⟨Nat.le_of_ble_eq_true rfl, Nat.le_of_ble_eq_true rfl⟩ (Nat.le_of_ble_eq_true rfl) ⟨(by show 0 + 0 + 0 ≤ 0; omega), (by show 0 + 0 + 0 ≤ 0; omega)⟩ dJx4a65c_get_915e3_11 (fun w1 H locs hp2 hW hS => ?_)
  rw [hp2] at hW; clear hp2; clear w1
  exact h_aret F hr hlk hW hS rfl dJx4a65c_get_915e3_14
set_option maxHeartbeats 4000000 in
set_option maxRecDepth 100000 in
theorem c_Jx35411_init_45d68 (l : Launch) (X : Cx) (w : Wo) (it a : Nat) (md : Int32) (ea : Nat) (n : Int) (ho : w a = some (.inr (14, [.int md, .ref ea, .int (iI n)]))) (hio : w it = some (.inr (13, [.int (iI 0), .int (iI 0), .int (iI 0), .null]))) (hne : it ≠ a) : CM l X yJx35411_init_45d68 cJx35411_init_45d68 2 none (rmG 1 0 0 24) [.ref it, .ref a] w none (fun w' => w' it = some (.inr (13, [.int (iI 0), .int (iI (-1)), .int md, .ref a])) ∧ ∀ q : Nat, q ≠ it → w' q = w q) := by
  refine CM.of (lv := [(0, .ref it), (1, .ref a)]) (by decide) (Nat.le_of_ble_eq_true rfl) rfl (fun p e s m below meth c ls F hr hlk hin hW hS hl => ?_)
  have hZ0 := hW.2.2
  have hB9 := hW.1.2
  skip
  refine lv_aload_n F.1 F.2.1 dJx35411_init_45d68_0 rfl (lv_at hl 0 rfl) ?_
  refine lv_aload_n F.1 F.2.1 dJx35411_init_45d68_1 rfl (lv_at hl 1 rfl) ?_
  refine pf_RJx35411_1 F hW hS hio (Nat.le_of_ble_eq_true rfl) hin dJx35411_init_45d68_2 (fun w1 H locs ho3 hn2 hW hS => ?_)
  have ho3 : w1 it = some (.inr (13, [.int (iI 0), .int (iI 0), .int (iI 0), .ref a])) := ho3
  have ho := (hn2 _ (by omega)).trans ho
  refine lv_aload_n F.1 F.2.1 dJx35411_init_45d68_5 rfl (lv_at hl 0 rfl) ?_
  refine h_obj F hl hoM_RJx35411 hoI dJx35411_init_45d68_6 ⟨Nat.le_of_ble_eq_true rfl, Nat.le_of_ble_eq_true rfl⟩ ?_
  refine lv_aload_n F.1 F.2.1 dJx35411_init_45d68_9 rfl (lv_at hl 0 rfl) ?_
  refine h_iconst F dJx35411_init_45d68_10 ?_
  refine pf_RJx35411_13 F hW hS hZ0 hB9 ho3 (Nat.le_of_ble_eq_true rfl) dJx35411_init_45d68_11 (fun w4 H locs ho6 hn5 hW hS => ?_)
  have ho6 : w4 it = some (.inr (13, [.int (iI 0), .int (iI (-1)), .int (iI 0), .ref a])) := ho6
  have ho := (hn5 _ (by omega)).trans ho
  refine lv_aload_n F.1 F.2.1 dJx35411_init_45d68_14 rfl (lv_at hl 0 rfl) ?_
  refine lv_aload_n F.1 F.2.1 dJx35411_init_45d68_15 rfl (lv_at hl 0 rfl) ?_
  refine gf_RJx35411_1 F hW ho6 rfl dJx35411_init_45d68_16 ?_
  refine gf_RJx35411_17 F hW ho rfl dJx35411_init_45d68_19 ?_
  refine pf_RJx35411_22 F hW hS hZ0 hB9 ho6 (Nat.le_of_ble_eq_true rfl) dJx35411_init_45d68_22 (fun w7 H locs ho9 hn8 hW hS => ?_)
  have ho9 : w7 it = some (.inr (13, [.int (iI 0), .int (iI (-1)), .int md, .ref a])) := ho9
  have ho := (hn8 _ (by omega)).trans ho
  exact h_vret F hr hlk hW hS ⟨ho9, (fun q h09 => by rw [hn8 q (by omega), hn5 q (by omega), hn2 q (by omega)])⟩ dJx35411_init_45d68_25
set_option maxHeartbeats 4000000 in
set_option maxRecDepth 100000 in
theorem c_Jx4a65c_iterator_32c93 (l : Launch) (X : Cx) (w : Wo) (a : Nat) (md : Int32) (ea : Nat) (n : Int) (ho : w a = some (.inr (14, [.int md, .ref ea, .int (iI n)]))) : CR l X yJx4a65c_iterator_32c93 cJx4a65c_iterator_32c93 1 (some (.object "java/util/Iterator")) (rmG 2 1 4 45) [.ref a] w (fun v' w' => ∃ (it : Nat), v' = .ref it ∧ frs w it ∧ w' it = some (.inr (13, [.int (iI 0), .int (iI (-1)), .int md, .ref a])) ∧ ∀ (q : Nat) (e : va_E), w q = some e → w' q = some e) := by
  refine CR.of (lv := [(0, .ref a)]) (by decide) (Nat.le_of_ble_eq_true rfl) rfl (fun p e s m below meth c ls F hr hlk hin hW hS hl => ?_)
  have hZ0 := hW.2.2
  have hB9 := hW.1.2
  clear hin
  refine q_new (ci := 13) (fs := [.int (iI 0), .int (iI 0), .int (iI 0), .null]) F hW hS inJx35411 tyJx35411 tyJx35411_ok kl_RJx4a65c_267 kb_RJx35411 kn_RJx35411 rfl (by intro j hj; rcases (show j = 0 ∨ j = 1 ∨ j = 2 ∨ j = 3 by omega) with hj | hj | hj | hj <;> subst hj <;> rfl) ⟨(by show 0 + 1 ≤ 1; omega), (by show 0 + 4 ≤ 4; omega)⟩ dJx4a65c_iterator_32c93_0 (fun it w1 H hfr4 hcx5 ho3 hn2 hW hS => ?_)
  have hb6 := hfr4 _ _ ho
  have ho := (hn2 _ (by omega)).trans ho
  refine lv_dup F.1 F.2.1 dJx4a65c_iterator_32c93_3 rfl ?_
  refine lv_aload_n F.1 F.2.1 dJx4a65c_iterator_32c93_4 rfl (lv_at hl 0 rfl) ?_
  refine cl_RJx4a65c_269 (As := [.ref a]) (rest := [.ref it]) F hl (c_Jx35411_init_45d68 l X w1 it a md ea n ho ho3 (by omega)) hW hS rfl rfl ⟨Nat.le_of_ble_eq_true rfl, Nat.le_of_ble_eq_true rfl⟩ (Nat.le_of_ble_eq_true rfl) ⟨(by show 0 + 1 + 0 ≤ 1; omega), (by show 0 + 4 + 0 ≤ 4; omega)⟩ dJx4a65c_iterator_32c93_5 (fun w7 H locs hp8 hW hS => ?_)
  obtain ⟨ho9, hn10⟩ := hp8
  have ho := (hn10 _ (by omega)).trans ho
  refine W.wd (mc := 1) (ms := 4) (by omega) (by omega) ?_
  have hX9 : ∀ (q : Nat) (e : va_E), w q = some e → w7 q = some e := fun q e h9  => by
    have z9_11 := hfr4 q e h9
    have h9 := (hn2 q (by omega)).trans h9
    have h9 := (hn10 q (by omega)).trans h9
    exact h9
  exact r_aret F (Or.inl ⟨_, hr⟩) hlk hW hS ⟨_, rfl, hfr4, ho9, hX9⟩ dJx4a65c_iterator_32c93_8
set_option maxHeartbeats 4000000 in
set_option maxRecDepth 100000 in
theorem c_Jx35411_hasNext_aae02 (l : Launch) (X : Cx) (w : Wo) (it a : Nat) (cu : Int) (lr xm md : Int32) (ea : Nat) (n : Int) (hio : w it = some (.inr (13, [.int (iI cu), .int lr, .int xm, .ref a]))) (ho : w a = some (.inr (14, [.int md, .ref ea, .int (iI n)]))) (hr : 0 ≤ cu ∧ cu ≤ n ∧ n < 1000000) : CM l X yJx35411_hasNext_aae02 cJx35411_hasNext_aae02 1 (some (.boolean)) (rmG 0 0 0 0) [.ref it] w (some (.int (iI (bz (decide (cu < n)))))) (fun w' => w' = w) := by
  refine CM.of (lv := [(0, .ref it)]) (by decide) (Nat.le_of_ble_eq_true rfl) rfl (fun p e s m below meth c ls F hr hlk hin hW hS hl => ?_)
  have hZ0 := hW.2.2
  have hB9 := hW.1.2
  clear hin
  refine lv_aload_n F.1 F.2.1 dJx35411_hasNext_aae02_0 rfl (lv_at hl 0 rfl) ?_
  refine gf_RJx35411_25 F hW hio rfl dJx35411_hasNext_aae02_1 ?_
  refine lv_aload_n F.1 F.2.1 dJx35411_hasNext_aae02_4 rfl (lv_at hl 0 rfl) ?_
  refine gf_RJx35411_1 F hW hio rfl dJx35411_hasNext_aae02_5 ?_
  refine gf_RJx35411_28 F hW ho rfl dJx35411_hasNext_aae02_8 ?_
  refine h_iceq (tgt := 18) F dJx35411_hasNext_aae02_11 (by decide) (by omega) (fun c1 => ?_) (fun c1 => ?_)
  · refine h_iconst F dJx35411_hasNext_aae02_18 ?_
    refine h_top (show (0 : Int) = bz (decide (cu < n)) from bzf (by first | exact decide_eq_false (by omega) | (simp only [Bool.and_eq_false_iff, Bool.or_eq_false_iff, decide_eq_false_iff_not]; omega) | simp_all)) ?_
    exact h_iretz F hr hlk hW hS rfl dJx35411_hasNext_aae02_19
  · refine h_iconst F dJx35411_hasNext_aae02_14 ?_
    refine h_goto (tgt := 19) F dJx35411_hasNext_aae02_15 (by decide) ?_
    refine h_top (show (1 : Int) = bz (decide (cu < n)) from bzt (by first | exact decide_eq_true (by omega) | (simp only [Bool.and_eq_true, Bool.or_eq_true, decide_eq_true_eq]; omega) | simp_all)) ?_
    exact h_iretz F hr hlk hW hS rfl dJx35411_hasNext_aae02_19
set_option maxHeartbeats 4000000 in
set_option maxRecDepth 100000 in
theorem c_Jx35411_checkForComodification_da8c8 (l : Launch) (X : Cx) (w : Wo) (it a : Nat) (cu : Int) (lr md : Int32) (ea : Nat) (n : Int) (hio : w it = some (.inr (13, [.int (iI cu), .int lr, .int md, .ref a]))) (ho : w a = some (.inr (14, [.int md, .ref ea, .int (iI n)]))) : CM l X yJx35411_checkForComodification_da8c8 cJx35411_checkForComodification_da8c8 1 none (rmG 0 0 0 0) [.ref it] w none (fun w' => w' = w) := by
  refine CM.of (lv := [(0, .ref it)]) (by decide) (Nat.le_of_ble_eq_true rfl) rfl (fun p e s m below meth c ls F hr hlk hin hW hS hl => ?_)
  have hZ0 := hW.2.2
  have hB9 := hW.1.2
  clear hin
  refine lv_aload_n F.1 F.2.1 dJx35411_checkForComodification_da8c8_0 rfl (lv_at hl 0 rfl) ?_
  refine gf_RJx35411_1 F hW hio rfl dJx35411_checkForComodification_da8c8_1 ?_
  refine gf_RJx35411_17 F hW ho rfl dJx35411_checkForComodification_da8c8_4 ?_
  refine lv_aload_n F.1 F.2.1 dJx35411_checkForComodification_da8c8_7 rfl (lv_at hl 0 rfl) ?_
  refine gf_RJx35411_22 F hW hio rfl dJx35411_checkForComodification_da8c8_8 ?_
  refine lv_icmp_eq (tgt := 22) F.1 F.2.1 dJx35411_checkForComodification_da8c8_11 (by decide) (fun _ => ?_) (fun c9 => absurd rfl c9)
  exact h_vret F hr hlk hW hS rfl dJx35411_checkForComodification_da8c8_22
set_option maxHeartbeats 4000000 in
set_option maxRecDepth 100000 in
theorem c_Jx35411_next_0502b (l : Launch) (X : Cx) (w : Wo) (it a : Nat) (cu : Int) (lr md : Int32) (ea : Nat) (n : Int) (cp : Nat) (gg : Nat → Option Nat) (x : Nat) (hio : w it = some (.inr (13, [.int (iI cu), .int lr, .int md, .ref a]))) (ho : w a = some (.inr (14, [.int md, .ref ea, .int (iI n)]))) (hea : w ea = some (aR X 5 cp gg)) (hi : 0 ≤ cu ∧ cu < n ∧ n ≤ (cp : Int) ∧ cp < 1000000) (hg : gg cu.toNat = some x) (hne : it ≠ a ∧ it ≠ ea) : CM l X yJx35411_next_0502b cJx35411_next_0502b 3 (some (.object "java/lang/Object")) (rmG 1 0 0 20) [.ref it] w (some (.ref x)) (fun w' => w' it = some (.inr (13, [.int (iI (cu + 1)), .int (iI cu), .int md, .ref a])) ∧ ∀ q : Nat, q ≠ it → w' q = w q) := by
  refine CM.of (lv := [(0, .ref it)]) (by decide) (Nat.le_of_ble_eq_true rfl) rfl (fun p e s m below meth c ls F hr hlk hin hW hS hl => ?_)
  have hZ0 := hW.2.2
  have hB9 := hW.1.2
  clear hin
  refine lv_aload_n F.1 F.2.1 dJx35411_next_0502b_0 rfl (lv_at hl 0 rfl) ?_
  refine cl_RJx35411_31 (As := []) (rest := []) F hl (c_Jx35411_checkForComodification_da8c8 l X w it a cu lr md ea n hio ho) hW hS hio rfl rfl ⟨Nat.le_of_ble_eq_true rfl, Nat.le_of_ble_eq_true rfl⟩ (Nat.le_of_ble_eq_true rfl) ⟨(by show 0 + 0 ≤ 0; omega), (by show 0 + 0 ≤ 0; omega)⟩ dJx35411_next_0502b_1 (fun w1 H locs hp1 hW hS => ?_)
  rw [hp1] at hW; clear hp1; clear w1
  refine lv_aload_n F.1 F.2.1 dJx35411_next_0502b_4 rfl (lv_at hl 0 rfl) ?_
  refine gf_RJx35411_25 F hW hio rfl dJx35411_next_0502b_5 ?_
  refine lv_istore_n (lv' := [(1, .int (iI cu)), (0, .ref it)]) F.1 F.2.1 dJx35411_next_0502b_8 rfl hl (by decide) rfl (fun ls hl => ?_)
  refine lv_iload_n F.1 F.2.1 dJx35411_next_0502b_9 rfl (lv_at hl 0 rfl) ?_
  refine lv_aload_n F.1 F.2.1 dJx35411_next_0502b_10 rfl (lv_at hl 1 rfl) ?_
  refine gf_RJx35411_1 F hW hio rfl dJx35411_next_0502b_11 ?_
  refine gf_RJx35411_28 F hW ho rfl dJx35411_next_0502b_14 ?_
  refine h_iclt (tgt := 28) F dJx35411_next_0502b_17 (by decide) (by omega) (fun c2 => ?_) (fun c2 => ?_)
  · refine lv_aload_n F.1 F.2.1 dJx35411_next_0502b_28 rfl (lv_at hl 1 rfl) ?_
    refine gf_RJx35411_1 F hW hio rfl dJx35411_next_0502b_29 ?_
    refine gf_RJx35411_37 F hW ho rfl dJx35411_next_0502b_32 ?_
    refine lv_astore_n (lv' := [(2, .ref ea), (1, .int (iI cu)), (0, .ref it)]) F.1 F.2.1 dJx35411_next_0502b_35 rfl hl (by decide) rfl (fun ls hl => ?_)
    refine lv_iload_n F.1 F.2.1 dJx35411_next_0502b_36 rfl (lv_at hl 1 rfl) ?_
    refine lv_aload_n F.1 F.2.1 dJx35411_next_0502b_37 rfl (lv_at hl 0 rfl) ?_
    refine h_alen (k := 5) (n := cp) F hW rfl hea dJx35411_next_0502b_38 ?_
    refine h_iclt (tgt := 50) F dJx35411_next_0502b_39 (by decide) (by omega) (fun c3 => ?_) (fun c3 => ?_)
    · refine lv_aload_n F.1 F.2.1 dJx35411_next_0502b_50 rfl (lv_at hl 2 rfl) ?_
      refine lv_iload_n F.1 F.2.1 dJx35411_next_0502b_51 rfl (lv_at hl 1 rfl) ?_
      refine h_iconst F dJx35411_next_0502b_52 ?_
      refine h_iadd (a := cu) (b := 1) F dJx35411_next_0502b_53 ?_
      refine pf_RJx35411_25 F hW hS hZ0 hB9 hio (Nat.le_of_ble_eq_true rfl) dJx35411_next_0502b_54 (fun w4 H locs ho6 hn5 hW hS => ?_)
      have ho6 : w4 it = some (.inr (13, [.int (iI (cu + 1)), .int lr, .int md, .ref a])) := ho6
      have ho := (hn5 _ (by omega)).trans ho
      have hea := (hn5 _ (by omega)).trans hea
      refine lv_aload_n F.1 F.2.1 dJx35411_next_0502b_57 rfl (lv_at hl 0 rfl) ?_
      refine lv_aload_n F.1 F.2.1 dJx35411_next_0502b_58 rfl (lv_at hl 2 rfl) ?_
      refine lv_iload_n F.1 F.2.1 dJx35411_next_0502b_59 rfl (lv_at hl 1 rfl) ?_
      refine lv_dup_x1 F.1 F.2.1 dJx35411_next_0502b_60 rfl rfl ?_
      refine pf_RJx35411_13 F hW hS hZ0 hB9 ho6 (Nat.le_of_ble_eq_true rfl) dJx35411_next_0502b_61 (fun w7 H locs ho9 hn8 hW hS => ?_)
      have ho9 : w7 it = some (.inr (13, [.int (iI (cu + 1)), .int (iI cu), .int md, .ref a])) := ho9
      have ho := (hn8 _ (by omega)).trans ho
      have hea := (hn8 _ (by omega)).trans hea
      refine h_aald (k := 5) F hW rfl hea (by omega) (by omega) hg dJx35411_next_0502b_64 ?_
      exact h_aret F hr hlk hW hS ⟨ho9, (fun q h09 => by rw [hn8 q (by omega), hn5 q (by omega)])⟩ dJx35411_next_0502b_65
    · exfalso; omega
  · exfalso; omega
