set_option maxHeartbeats 4000000 in
set_option maxRecDepth 100000 in
theorem c_cft_n (l : Launch) (X : Cx) (w : Wo) (a b : Int) (hab : 0 ≤ a ∧ a ≤ b ∧ b < 100000) : CM l X yJ3_checkFromToIndex_8c36e cJ3_checkFromToIndex_8c36e 4 (some (.int)) (rmG 0 0 0 0) [.int (iI 0), .int (iI a), .int (iI b), .null] w (some (.int (iI 0))) (fun w' => w' = w) := by
  refine CM.of (lv := [(0, .int (iI 0)), (1, .int (iI a)), (2, .int (iI b)), (3, .null)]) (by decide) (Nat.le_of_ble_eq_true rfl) rfl (fun p e s m below meth c ls F hr hlk hin hW hS hl => ?_)
  have hZ0 := hW.2.2
  have hB9 := hW.1.2
  clear hin
  refine lv_iload_n F.1 F.2.1 dJ3_checkFromToIndex_8c36e_0 rfl (lv_at hl 0 rfl) ?_
  refine h_iflt (tgt := 14) F dJ3_checkFromToIndex_8c36e_1 (by decide) (by decide) (fun c9 => absurd c9 (by decide)) (fun _ => ?_)
  refine lv_iload_n F.1 F.2.1 dJ3_checkFromToIndex_8c36e_4 rfl (lv_at hl 0 rfl) ?_
  refine lv_iload_n F.1 F.2.1 dJ3_checkFromToIndex_8c36e_5 rfl (lv_at hl 1 rfl) ?_
  refine h_icgt (tgt := 14) F dJ3_checkFromToIndex_8c36e_6 (by decide) (by omega) (fun c2 => ?_) (fun c2 => ?_)
  · exfalso; omega
  · refine lv_iload_n F.1 F.2.1 dJ3_checkFromToIndex_8c36e_9 rfl (lv_at hl 1 rfl) ?_
    refine lv_iload_n F.1 F.2.1 dJ3_checkFromToIndex_8c36e_10 rfl (lv_at hl 2 rfl) ?_
    refine h_icle (tgt := 22) F dJ3_checkFromToIndex_8c36e_11 (by decide) (by omega) (fun c3 => ?_) (fun c3 => ?_)
    · refine lv_iload_n F.1 F.2.1 dJ3_checkFromToIndex_8c36e_22 rfl (lv_at hl 0 rfl) ?_
      exact h_ireti F hr hlk hW hS rfl dJ3_checkFromToIndex_8c36e_23
    · exfalso; omega
set_option maxHeartbeats 4000000 in
set_option maxRecDepth 100000 in
theorem c_J0_checkBoundsBeginEnd_23922 (l : Launch) (X : Cx) (w : Wo) (a b : Int) (hab : 0 ≤ a ∧ a ≤ b ∧ b < 100000) : CM l X yJ0_checkBoundsBeginEnd_23922 cJ0_checkBoundsBeginEnd_23922 3 none (rmG 1 0 0 23) [.int (iI 0), .int (iI a), .int (iI b)] w none (fun w' => w' = w) := by
  refine CM.of (lv := [(0, .int (iI 0)), (1, .int (iI a)), (2, .int (iI b))]) (by decide) (Nat.le_of_ble_eq_true rfl) rfl (fun p e s m below meth c ls F hr hlk hin hW hS hl => ?_)
  have hZ0 := hW.2.2
  have hB9 := hW.1.2
  clear hin
  refine lv_iload_n F.1 F.2.1 dJ0_checkBoundsBeginEnd_23922_0 rfl (lv_at hl 0 rfl) ?_
  refine lv_iload_n F.1 F.2.1 dJ0_checkBoundsBeginEnd_23922_1 rfl (lv_at hl 1 rfl) ?_
  refine lv_iload_n F.1 F.2.1 dJ0_checkBoundsBeginEnd_23922_2 rfl (lv_at hl 2 rfl) ?_
  rcases hZ0.2.2.2.2.1 with hz | ⟨tq, hz⟩
  · refine va_gets F.1 F.2.1 hz hS F.2.2.2.1 (F.2.2.2.2 _ kf_RJ0_1053) (fun _ h => h) dJ0_checkBoundsBeginEnd_23922_3 ?_
    refine cl_RJ0_1062 (As := [.int (iI 0), .int (iI a), .int (iI b), .null]) (rest := []) F hl (c_cft_n l X w a b (by omega)) hW hS rfl rfl ⟨Nat.le_of_ble_eq_true rfl, Nat.le_of_ble_eq_true rfl⟩ (Nat.le_of_ble_eq_true rfl) ⟨(by show 0 + 0 ≤ 0; omega), (by show 0 + 0 ≤ 0; omega)⟩ dJ0_checkBoundsBeginEnd_23922_6 (fun w1 H locs hp1 hW hS => ?_)
    rw [hp1] at hW; clear hp1; clear w1
    refine lv_pop F.1 F.2.1 dJ0_checkBoundsBeginEnd_23922_9 rfl ?_
    exact h_vret F hr hlk hW hS rfl dJ0_checkBoundsBeginEnd_23922_10
  · refine va_gets F.1 F.2.1 hz hS F.2.2.2.1 (F.2.2.2.2 _ kf_RJ0_1053) (fun _ h => h) dJ0_checkBoundsBeginEnd_23922_3 ?_
    refine cl_RJ0_1062 (As := [.int (iI 0), .int (iI a), .int (iI b), .ref tq]) (rest := []) F hl (c_J3_checkFromToIndex_8c36e l X w a b tq (by omega)) hW hS rfl rfl ⟨Nat.le_of_ble_eq_true rfl, Nat.le_of_ble_eq_true rfl⟩ (Nat.le_of_ble_eq_true rfl) ⟨(by show 0 + 0 ≤ 0; omega), (by show 0 + 0 ≤ 0; omega)⟩ dJ0_checkBoundsBeginEnd_23922_6 (fun w1 H locs hp2 hW hS => ?_)
    rw [hp2] at hW; clear hp2; clear w1
    refine lv_pop F.1 F.2.1 dJ0_checkBoundsBeginEnd_23922_9 rfl ?_
    exact h_vret F hr hlk hW hS rfl dJ0_checkBoundsBeginEnd_23922_10
set_option maxHeartbeats 4000000 in
set_option maxRecDepth 100000 in
theorem cK_corb (l : Launch) (X : Cx) (w : Wo) (k N : Nat) (hk : k < 15) (hN : 1 ≤ N ∧ N < lwN.getD k 0) : CR l X yJ7_copyOfRangeByte_39247 cJ7_copyOfRangeByte_39247 5 (some (.array .byte)) (rmG 1 1 N 44) [.ref (X.2.2 (80 + k)), .int (iI 0), .int (iI ((N : Nat) : Int))] w (fun v' w' => ∃ (q9 : Nat), ∃ (f9 : Int → Int), v' = .ref q9 ∧ nkn w q9 ∧ w' q9 = some (aY X N f9) ∧ (∀ j, 0 ≤ j → j < ((N : Nat) : Int) → f9 j = lw k j) ∧ ∀ (q : Nat) (e : va_E), w q = some e → w' q = some e) := by
  refine CR.of (lv := [(0, .ref (X.2.2 (80 + k))), (1, .int (iI 0)), (2, .int (iI ((N : Nat) : Int)))]) (by decide) (Nat.le_of_ble_eq_true rfl) rfl (fun p e s m below meth c ls F hr hlk hin hW hS hl => ?_)
  have hZ0 := hW.2.2
  have hB9 := hW.1.2
  clear hin
  have hln := lwN_r k hk
  refine lv_iload_n F.1 F.2.1 dJ7_copyOfRangeByte_39247_0 rfl (lv_at hl 1 rfl) ?_
  refine lv_iload_n F.1 F.2.1 dJ7_copyOfRangeByte_39247_1 rfl (lv_at hl 2 rfl) ?_
  refine cl_RJ7_343 (As := [.int (iI 0), .int (iI ((N : Nat) : Int))]) (rest := []) F hl (c_J7_checkLength_df160 l X w ((N : Nat) : Int) (by omega)) hW hS rfl rfl ⟨Nat.le_of_ble_eq_true rfl, Nat.le_of_ble_eq_true rfl⟩ (Nat.le_of_ble_eq_true rfl) ⟨(by show 0 + 0 ≤ 1; omega), (by show 0 + 0 ≤ N; omega)⟩ dJ7_copyOfRangeByte_39247_2 (fun w1 H locs hp1 hW hS => ?_)
  rw [hp1] at hW; clear hp1; clear w1
  refine lv_iload_n F.1 F.2.1 dJ7_copyOfRangeByte_39247_5 rfl (lv_at hl 2 rfl) ?_
  refine lv_iload_n F.1 F.2.1 dJ7_copyOfRangeByte_39247_6 rfl (lv_at hl 1 rfl) ?_
  refine h_isub (a := ((N : Nat) : Int)) (b := 0) F dJ7_copyOfRangeByte_39247_7 ?_
  refine lv_istore_n (lv' := [(3, .int (iI (((N : Nat) : Int) - 0))), (0, .ref (X.2.2 (80 + k))), (1, .int (iI 0)), (2, .int (iI ((N : Nat) : Int)))]) F.1 F.2.1 dJ7_copyOfRangeByte_39247_8 rfl hl (by decide) rfl (fun ls hl => ?_)
  refine lv_iload_n F.1 F.2.1 dJ7_copyOfRangeByte_39247_9 rfl (lv_at hl 0 rfl) ?_
  refine q_newP (N := N) (k := 2) (atype := .byte) (x := .inl (fun j : Nat => iI ((fun _ : Int => 0) (j : Int)))) F hW hS haCY rfl (hxY _) (by omega) (by omega) ⟨(by show 0 + 0 + 1 ≤ 1; omega), (by show 0 + 0 + N ≤ N; omega)⟩ dJ7_copyOfRangeByte_39247_10 (fun q9 w2 H hfr5 hcx6 ha4 hn3 hW hS => ?_)
  have ha4 : w2 q9 = some (aY X N (fun _ => 0)) := ha4
  refine lv_astore (lv' := [(4, .ref q9), (3, .int (iI (((N : Nat) : Int) - 0))), (0, .ref (X.2.2 (80 + k))), (1, .int (iI 0)), (2, .int (iI ((N : Nat) : Int)))]) F.1 F.2.1 dJ7_copyOfRangeByte_39247_12 hl (by decide) rfl (fun ls hl => ?_)
  refine lv_aload_n F.1 F.2.1 dJ7_copyOfRangeByte_39247_14 rfl (lv_at hl 2 rfl) ?_
  refine lv_iload_n F.1 F.2.1 dJ7_copyOfRangeByte_39247_15 rfl (lv_at hl 3 rfl) ?_
  refine lv_aload F.1 F.2.1 dJ7_copyOfRangeByte_39247_16 (lv_at hl 0 rfl) ?_
  refine h_iconst F dJ7_copyOfRangeByte_39247_18 ?_
  refine lv_aload_n F.1 F.2.1 dJ7_copyOfRangeByte_39247_19 rfl (lv_at hl 2 rfl) ?_
  refine va_tlen F.1 F.2.1 (lw_T hZ0 hk) hS (v := iI (((lwN.getD k 0) : Nat) : Int)) (iI_nI _) dJ7_copyOfRangeByte_39247_20 ?_
  refine lv_iload_n F.1 F.2.1 dJ7_copyOfRangeByte_39247_21 rfl (lv_at hl 3 rfl) ?_
  refine h_isub (a := (((lwN.getD k 0) : Nat) : Int)) (b := 0) F dJ7_copyOfRangeByte_39247_22 ?_
  refine lv_iload_n F.1 F.2.1 dJ7_copyOfRangeByte_39247_23 rfl (lv_at hl 1 rfl) ?_
  refine h_mmin (index := 304) (a := (((lwN.getD k 0) : Nat) : Int) - 0) (b := ((N : Nat) : Int) - 0) F hl km_RJ7_304 (Nat.le_of_ble_eq_true rfl) (Nat.le_of_ble_eq_true rfl) (by show 0 + 0 + 1 ≤ 1; omega) (by show 0 + 0 + N ≤ N; omega) (by omega) dJ7_copyOfRangeByte_39247_24 ?_
  refine h_top (show (min ((((lwN.getD k 0) : Nat) : Int) - 0) (((N : Nat) : Int) - 0) : Int) = ((N : Nat) : Int) from by omega) ?_
  refine h_copyt (index := 150) F hl hW hZ0 hB9 hS km_RJ7_150 (lw_T hZ0 hk) ha4 (by omega) (fun j h1 h2 => by have := lw_r k j; omega) (Nat.le_of_ble_eq_true rfl) (Nat.le_of_ble_eq_true rfl) dJ7_copyOfRangeByte_39247_27 (fun w7 H locs ha9 hn8 hW hS => ?_)
  refine lv_aload F.1 F.2.1 dJ7_copyOfRangeByte_39247_30 (lv_at hl 0 rfl) ?_
  refine W.wd (mc := 1) (ms := N) (by omega) (by omega) ?_
  have hX9 : ∀ (q : Nat) (e : va_E), w q = some e → w7 q = some e := fun q e h9  => by
    have z9_10 := hfr5 q e h9
    have h9 := (hn3 q (by omega)).trans h9
    have h9 := (hn8 q (by omega)).trans h9
    exact h9
  exact r_aret F (Or.inr ⟨_, hr⟩) hlk hW hS ⟨_, _, rfl, (frs.nk hfr5), (by (rw [ha9]) <;> (rfl)), (fun j h1 h2 => by unfold cpY; rw [if_pos (by omega)]; congr 1; omega), hX9⟩ dJ7_copyOfRangeByte_39247_32
set_option maxHeartbeats 4000000 in
set_option maxRecDepth 100000 in
theorem cK_cor (l : Launch) (X : Cx) (w : Wo) (k N : Nat) (hk : k < 15) (hN : 1 ≤ N ∧ N < lwN.getD k 0) : CR l X yJ7_copyOfRange_39247 cJ7_copyOfRange_39247 3 (some (.array .byte)) (rmG 2 1 N 68) [.ref (X.2.2 (80 + k)), .int (iI 0), .int (iI ((N : Nat) : Int))] w (fun v' w' => ∃ (q9 : Nat), ∃ (f9 : Int → Int), v' = .ref q9 ∧ nkn w q9 ∧ w' q9 = some (aY X N f9) ∧ (∀ j, 0 ≤ j → j < ((N : Nat) : Int) → f9 j = lw k j) ∧ ∀ (q : Nat) (e : va_E), w q = some e → w' q = some e) := by
  refine CR.of (lv := [(0, .ref (X.2.2 (80 + k))), (1, .int (iI 0)), (2, .int (iI ((N : Nat) : Int)))]) (by decide) (Nat.le_of_ble_eq_true rfl) rfl (fun p e s m below meth c ls F hr hlk hin hW hS hl => ?_)
  have hZ0 := hW.2.2
  have hB9 := hW.1.2
  clear hin
  have hln := lwN_r k hk
  refine lv_iload_n F.1 F.2.1 dJ7_copyOfRange_39247_0 rfl (lv_at hl 1 rfl) ?_
  refine h_ifne (tgt := 10) F dJ7_copyOfRange_39247_1 (by decide) (by decide) (fun c9 => absurd c9 (by decide)) (fun _ => ?_)
  refine lv_iload_n F.1 F.2.1 dJ7_copyOfRange_39247_4 rfl (lv_at hl 2 rfl) ?_
  refine lv_aload_n F.1 F.2.1 dJ7_copyOfRange_39247_5 rfl (lv_at hl 0 rfl) ?_
  refine va_tlen F.1 F.2.1 (lw_T hZ0 hk) hS (v := iI (((lwN.getD k 0) : Nat) : Int)) (iI_nI _) dJ7_copyOfRange_39247_6 ?_
  refine h_iceq (tgt := 17) F dJ7_copyOfRange_39247_7 (by decide) (by omega) (fun c2 => ?_) (fun c2 => ?_)
  · exfalso; omega
  · refine lv_aload_n F.1 F.2.1 dJ7_copyOfRange_39247_10 rfl (lv_at hl 0 rfl) ?_
    refine lv_iload_n F.1 F.2.1 dJ7_copyOfRange_39247_11 rfl (lv_at hl 1 rfl) ?_
    refine lv_iload_n F.1 F.2.1 dJ7_copyOfRange_39247_12 rfl (lv_at hl 2 rfl) ?_
    refine cr_RJ7_339 (As := [.ref (X.2.2 (80 + k)), .int (iI 0), .int (iI ((N : Nat) : Int))]) (rest := []) F hl (cK_corb l X w k N hk (by omega)) hW hS rfl rfl ⟨Nat.le_of_ble_eq_true rfl, Nat.le_of_ble_eq_true rfl⟩ (Nat.le_of_ble_eq_true rfl) ⟨(by show 0 + 1 ≤ 1; omega), (by show 0 + N ≤ N; omega)⟩ dJ7_copyOfRange_39247_13 (fun v5 w3 H locs hp4 hW hS => ?_)
    obtain ⟨q9, f9, rfl, hfr6, ha7, hm9, hx8⟩ := hp4
    refine W.wd (mc := 1) (ms := N) (by omega) (by omega) ?_
    have hX9 : ∀ (q : Nat) (e : va_E), w q = some e → w3 q = some e := fun q e h9  => by
      have z9_9 := hfr6 q e h9
      have h9 := hx8 q e h9 
      exact h9
    exact r_aret F (Or.inr ⟨_, hr⟩) hlk hW hS ⟨_, _, rfl, hfr6, ha7, hm9, hX9⟩ dJ7_copyOfRange_39247_16
set_option maxHeartbeats 4000000 in
set_option maxRecDepth 100000 in
theorem c_J0_init_031fb (l : Launch) (X : Cx) (w : Wo) (z0 b : Nat) (hz0 : w z0 = some (.inr (11, [.null, .int (iI 0), .int (iI 0), .int (iI (bz false))]))) : CM l X yJ0_init_031fb cJ0_init_031fb 3 none (rmG 1 0 0 24) [.ref z0, .ref b, .int (iI 0)] w none (fun w' => w' z0 = some (.inr (11, [.ref b, .int (iI 0), .int (iI 0), .int (iI (bz false))])) ∧ ∀ q : Nat, q ≠ z0 → w' q = w q) := by
  refine CM.of (lv := [(0, .ref z0), (1, .ref b), (2, .int (iI 0))]) (by decide) (Nat.le_of_ble_eq_true rfl) rfl (fun p e s m below meth c ls F hr hlk hin hW hS hl => ?_)
  have hZ0 := hW.2.2
  have hB9 := hW.1.2
  skip
  refine lv_aload_n F.1 F.2.1 dJ0_init_031fb_0 rfl (lv_at hl 0 rfl) ?_
  refine h_obj F hl hoM_RJ0 hoI dJ0_init_031fb_1 ⟨Nat.le_of_ble_eq_true rfl, Nat.le_of_ble_eq_true rfl⟩ ?_
  refine lv_aload_n F.1 F.2.1 dJ0_init_031fb_4 rfl (lv_at hl 0 rfl) ?_
  refine lv_aload_n F.1 F.2.1 dJ0_init_031fb_5 rfl (lv_at hl 1 rfl) ?_
  refine pf_RJ0_9 F hW hS hz0 (Nat.le_of_ble_eq_true rfl) hin dJ0_init_031fb_6 (fun w1 H locs ho3 hn2 hW hS => ?_)
  have ho3 : w1 z0 = some (.inr (11, [.ref b, .int (iI 0), .int (iI 0), .int (iI (bz false))])) := ho3
  refine lv_aload_n F.1 F.2.1 dJ0_init_031fb_9 rfl (lv_at hl 0 rfl) ?_
  refine lv_iload_n F.1 F.2.1 dJ0_init_031fb_10 rfl (lv_at hl 2 rfl) ?_
  refine pf_RJ0_15 F hW hS ho3 (Nat.le_of_ble_eq_true rfl) hin dJ0_init_031fb_11 (fun w4 H locs ho6 hn5 hW hS => ?_)
  have ho6 : w4 z0 = some (.inr (11, [.ref b, .int (iI 0), .int (iI 0), .int (iI (bz false))])) := ho6
  exact h_vret F hr hlk hW hS ⟨ho6, (fun q h09 => by rw [hn5 q (by omega), hn2 q (by omega)])⟩ dJ0_init_031fb_14
set_option maxHeartbeats 4000000 in
set_option maxRecDepth 100000 in
theorem c_J1_newString_b4f7a (l : Launch) (X : Cx) (w : Wo) (k N : Nat) (hk : k < 15) (hN : 1 ≤ N ∧ N < lwN.getD k 0) : CR l X yJ1_newString_b4f7a cJ1_newString_b4f7a 3 (some (.object "java/lang/String")) (rmG 3 2 14 90) [.ref (X.2.2 (80 + k)), .int (iI 0), .int (iI ((N : Nat) : Int))] w (fun v' w' => ∃ (z9 : Nat), ∃ (f9 : Int → Int), v' = .ref z9 ∧ (str X w' z9 N f9) ∧ (∀ j, 0 ≤ j → j < ((N : Nat) : Int) → f9 j = lw k j) ∧ ∀ (q : Nat) (e : va_E), w q = some e → w' q = some e) := by
  refine CR.of (lv := [(0, .ref (X.2.2 (80 + k))), (1, .int (iI 0)), (2, .int (iI ((N : Nat) : Int)))]) (by decide) (Nat.le_of_ble_eq_true rfl) rfl (fun p e s m below meth c ls F hr hlk hin hW hS hl => ?_)
  have hZ0 := hW.2.2
  have hB9 := hW.1.2
  clear hin
  have hln := lwN_r k hk
  refine lv_iload_n F.1 F.2.1 dJ1_newString_b4f7a_0 rfl (lv_at hl 2 rfl) ?_
  refine h_ifne (tgt := 7) F dJ1_newString_b4f7a_1 (by decide) (by omega) (fun c1 => ?_) (fun c1 => ?_)
  · refine q_new (ci := 11) (fs := [.null, .int (iI 0), .int (iI 0), .int (iI (bz false))]) F hW hS inJ0 tyJ0 tyJ0_ok kl_RJ1_1 kb_RJ0 kn_RJ0 rfl (by intro j hj; rcases (show j = 0 ∨ j = 1 ∨ j = 2 ∨ j = 3 by omega) with hj | hj | hj | hj <;> subst hj <;> rfl) ⟨(by show 0 + 1 ≤ 2; omega), (by show 0 + 4 ≤ 14; omega)⟩ dJ1_newString_b4f7a_7 (fun z9 w2 H hfr5 hcx6 ho4 hn3 hW hS => ?_)
    refine lv_dup F.1 F.2.1 dJ1_newString_b4f7a_10 rfl ?_
    refine lv_aload_n F.1 F.2.1 dJ1_newString_b4f7a_11 rfl (lv_at hl 0 rfl) ?_
    refine lv_iload_n F.1 F.2.1 dJ1_newString_b4f7a_12 rfl (lv_at hl 1 rfl) ?_
    refine lv_iload_n F.1 F.2.1 dJ1_newString_b4f7a_13 rfl (lv_at hl 1 rfl) ?_
    refine lv_iload_n F.1 F.2.1 dJ1_newString_b4f7a_14 rfl (lv_at hl 2 rfl) ?_
    refine h_iadd (a := 0) (b := ((N : Nat) : Int)) F dJ1_newString_b4f7a_15 ?_
    refine h_top (show (0 + ((N : Nat) : Int) : Int) = ((N : Nat) : Int) from by omega) ?_
    refine cr_RJ1_232 (As := [.ref (X.2.2 (80 + k)), .int (iI 0), .int (iI ((N : Nat) : Int))]) (rest := [.ref z9, .ref z9]) F hl (cK_cor l X w2 k N hk (by omega)) hW hS rfl rfl ⟨Nat.le_of_ble_eq_true rfl, Nat.le_of_ble_eq_true rfl⟩ (Nat.le_of_ble_eq_true rfl) ⟨(by show 0 + 1 + 1 ≤ 2; omega), (by show 0 + 4 + N ≤ 14; omega)⟩ dJ1_newString_b4f7a_16 (fun v9 w7 H locs hp8 hW hS => ?_)
    obtain ⟨q9, f9, rfl, hfr10, ha11, hm9, hx12⟩ := hp8
    have hb13 := hfr10 _ _ ho4
    have ho4 := hx12 _ _ ho4 
    refine h_iconst F dJ1_newString_b4f7a_19 ?_
    refine cl_RJ1_112 (As := [.ref q9, .int (iI 0)]) (rest := [.ref z9]) F hl (c_J0_init_031fb l X w7 z9 q9 ho4) hW hS rfl rfl ⟨Nat.le_of_ble_eq_true rfl, Nat.le_of_ble_eq_true rfl⟩ (Nat.le_of_ble_eq_true rfl) ⟨(by show 0 + 1 + 1 + 0 ≤ 2; omega), (by show 0 + 4 + N + 0 ≤ 14; omega)⟩ dJ1_newString_b4f7a_20 (fun w14 H locs hp15 hW hS => ?_)
    obtain ⟨ho16, hn17⟩ := hp15
    have ha11 := (hn17 _ (by omega)).trans ha11
    refine W.wd (mc := 2) (ms := 14) (by omega) (by omega) ?_
    have hX9 : ∀ (q : Nat) (e : va_E), w q = some e → w14 q = some e := fun q e h9  => by
      have z9_18 := hfr5 q e h9
      have h9 := (hn3 q (by omega)).trans h9
      have z9_19 := hfr10 q e h9
      have h9 := hx12 q e h9 
      have h9 := (hn17 q (by omega)).trans h9
      exact h9
    exact r_aret F (Or.inl ⟨_, hr⟩) hlk hW hS ⟨_, _, rfl, (str.W ho16 ha11), hm9, hX9⟩ dJ1_newString_b4f7a_23
  · exfalso; omega
set_option maxHeartbeats 4000000 in
set_option maxRecDepth 100000 in
theorem c_sub_l (l : Launch) (X : Cx) (w : Wo) (k N : Nat) (hk : k < 15) (hN : 1 ≤ N ∧ N < lwN.getD k 0) : CR l X yJ0_substring_37a41 cJ0_substring_37a41 5 (some (.object "java/lang/String")) (rmG 4 2 14 112) [.ref (X.2.2 (60 + k)), .int (iI 0), .int (iI ((N : Nat) : Int))] w (fun v' w' => ∃ (z9 : Nat), ∃ (f9 : Int → Int), v' = .ref z9 ∧ (str X w' z9 N f9) ∧ (∀ j, 0 ≤ j → j < ((N : Nat) : Int) → f9 j = lw k j) ∧ ∀ (q : Nat) (e : va_E), w q = some e → w' q = some e) := by
  refine CR.of (lv := [(0, .ref (X.2.2 (60 + k))), (1, .int (iI 0)), (2, .int (iI ((N : Nat) : Int)))]) (by decide) (Nat.le_of_ble_eq_true rfl) rfl (fun p e s m below meth c ls F hr hlk hin hW hS hl => ?_)
  have hZ0 := hW.2.2
  have hB9 := hW.1.2
  clear hin
  have hln := lwN_r k hk
  refine lv_aload_n F.1 F.2.1 dJ0_substring_37a41_0 rfl (lv_at hl 0 rfl) ?_
  refine cs_RJ0_505 (As := []) (rest := []) F hl (cK_len l X w k hk) hW hS (vk_recv (i := k) hZ0.2.2.2.2.2.1 hk hS) rfl rfl ⟨Nat.le_of_ble_eq_true rfl, Nat.le_of_ble_eq_true rfl⟩ (Nat.le_of_ble_eq_true rfl) ⟨(by show 0 + 0 ≤ 2; omega), (by show 0 + 0 ≤ 14; omega)⟩ dJ0_substring_37a41_1 (fun w1 H locs hp1 hW hS => ?_)
  rw [hp1] at hW; clear hp1; clear w1
  refine lv_istore_n (lv' := [(3, .int (iI ((lwN.getD k 0 : Nat) : Int))), (0, .ref (X.2.2 (60 + k))), (1, .int (iI 0)), (2, .int (iI ((N : Nat) : Int)))]) F.1 F.2.1 dJ0_substring_37a41_4 rfl hl (by decide) rfl (fun ls hl => ?_)
  refine lv_iload_n F.1 F.2.1 dJ0_substring_37a41_5 rfl (lv_at hl 2 rfl) ?_
  refine lv_iload_n F.1 F.2.1 dJ0_substring_37a41_6 rfl (lv_at hl 3 rfl) ?_
  refine lv_iload_n F.1 F.2.1 dJ0_substring_37a41_7 rfl (lv_at hl 0 rfl) ?_
  refine cl_RJ0_521 (As := [.int (iI 0), .int (iI ((N : Nat) : Int)), .int (iI ((lwN.getD k 0 : Nat) : Int))]) (rest := []) F hl (c_J0_checkBoundsBeginEnd_23922 l X w ((N : Nat) : Int) ((lwN.getD k 0 : Nat) : Int) (by omega)) hW hS rfl rfl ⟨Nat.le_of_ble_eq_true rfl, Nat.le_of_ble_eq_true rfl⟩ (Nat.le_of_ble_eq_true rfl) ⟨(by show 0 + 0 + 0 ≤ 2; omega), (by show 0 + 0 + 0 ≤ 14; omega)⟩ dJ0_substring_37a41_8 (fun w1 H locs hp2 hW hS => ?_)
  rw [hp2] at hW; clear hp2; clear w1
  refine lv_iload_n F.1 F.2.1 dJ0_substring_37a41_11 rfl (lv_at hl 2 rfl) ?_
  refine h_ifne (tgt := 22) F dJ0_substring_37a41_12 (by decide) (by decide) (fun c9 => absurd c9 (by decide)) (fun _ => ?_)
  refine lv_iload_n F.1 F.2.1 dJ0_substring_37a41_15 rfl (lv_at hl 3 rfl) ?_
  refine lv_iload_n F.1 F.2.1 dJ0_substring_37a41_16 rfl (lv_at hl 0 rfl) ?_
  refine h_icne (tgt := 22) F dJ0_substring_37a41_17 (by decide) (by omega) (fun c4 => ?_) (fun c4 => ?_)
  · refine lv_iload_n F.1 F.2.1 dJ0_substring_37a41_22 rfl (lv_at hl 3 rfl) ?_
    refine lv_iload_n F.1 F.2.1 dJ0_substring_37a41_23 rfl (lv_at hl 2 rfl) ?_
    refine h_isub (a := ((N : Nat) : Int)) (b := 0) F dJ0_substring_37a41_24 ?_
    refine h_top (show (((N : Nat) : Int) - 0 : Int) = ((N : Nat) : Int) from by omega) ?_
    refine lv_istore (lv' := [(4, .int (iI ((N : Nat) : Int))), (3, .int (iI ((lwN.getD k 0 : Nat) : Int))), (0, .ref (X.2.2 (60 + k))), (1, .int (iI 0)), (2, .int (iI ((N : Nat) : Int)))]) F.1 F.2.1 dJ0_substring_37a41_25 hl (by decide) rfl (fun ls hl => ?_)
    refine lv_aload_n F.1 F.2.1 dJ0_substring_37a41_27 rfl (lv_at hl 2 rfl) ?_
    refine cs_RJ0_492 (As := []) (rest := []) F hl (cK_lat l X w k hk) hW hS (vk_recv (i := k) hZ0.2.2.2.2.2.1 hk hS) rfl rfl ⟨Nat.le_of_ble_eq_true rfl, Nat.le_of_ble_eq_true rfl⟩ (Nat.le_of_ble_eq_true rfl) ⟨(by show 0 + 0 + 0 + 0 ≤ 2; omega), (by show 0 + 0 + 0 + 0 ≤ 14; omega)⟩ dJ0_substring_37a41_28 (fun w1 H locs hp5 hW hS => ?_)
    rw [hp5] at hW; clear hp5; clear w1
    refine h_ifeqb (tgt := 47) F dJ0_substring_37a41_31 (by decide) (fun c9 => absurd c9 (by decide)) (fun _ => ?_)
    refine lv_aload_n F.1 F.2.1 dJ0_substring_37a41_34 rfl (lv_at hl 2 rfl) ?_
    refine vk_getf F.1 F.2.1 (hZ0.2.2.2.2.2.1.1 k hk).2.2.1 hS F.2.2.2.1 (F.2.2.2.2 _ kf_RJ0_9) (fun _ h => h) dJ0_substring_37a41_35 ?_
    refine lv_iload_n F.1 F.2.1 dJ0_substring_37a41_38 rfl (lv_at hl 3 rfl) ?_
    refine lv_iload F.1 F.2.1 dJ0_substring_37a41_39 (lv_at hl 0 rfl) ?_
    refine cr_RJ0_685 (As := [.ref (X.2.2 (80 + k)), .int (iI 0), .int (iI ((N : Nat) : Int))]) (rest := []) F hl (c_J1_newString_b4f7a l X w k N hk (by omega)) hW hS rfl rfl ⟨Nat.le_of_ble_eq_true rfl, Nat.le_of_ble_eq_true rfl⟩ (Nat.le_of_ble_eq_true rfl) ⟨(by show 0 + 0 + 0 + 0 + 2 ≤ 2; omega), (by show 0 + 0 + 0 + 0 + 14 ≤ 14; omega)⟩ dJ0_substring_37a41_41 (fun v9 w7 H locs hp8 hW hS => ?_)
    obtain ⟨z9, f9, rfl, hm8, hm9, hx10⟩ := hp8
    refine h_goto (tgt := 57) F dJ0_substring_37a41_44 (by decide) ?_
    refine W.wd (mc := 2) (ms := 14) (by omega) (by omega) ?_
    have hX9 : ∀ (q : Nat) (e : va_E), w q = some e → w7 q = some e := fun q e h9  => by
      have h9 := hx10 q e h9 
      exact h9
    exact r_aret F (Or.inl ⟨_, hr⟩) hlk hW hS ⟨_, _, rfl, hm8, hm9, hX9⟩ dJ0_substring_37a41_57
  · exfalso; omega
set_option maxHeartbeats 4000000 in
set_option maxRecDepth 100000 in
theorem c_sub_e (l : Launch) (X : Cx) (w : Wo) (k : Nat) (hk : k < 15) : CR l X yJ0_substring_37a41 cJ0_substring_37a41 5 (some (.object "java/lang/String")) (rmG 4 2 14 112) [.ref (X.2.2 (60 + k)), .int (iI 0), .int (iI ((lwN.getD k 0 : Nat) : Int))] w (fun v' w' => ∃ (z9 : Nat), ∃ (f9 : Int → Int), v' = .ref z9 ∧ (str X w' z9 (lwN.getD k 0) f9) ∧ (∀ j, 0 ≤ j → j < ((lwN.getD k 0 : Nat) : Int) → f9 j = lw k j) ∧ ∀ (q : Nat) (e : va_E), w q = some e → w' q = some e) := by
  refine CR.of (lv := [(0, .ref (X.2.2 (60 + k))), (1, .int (iI 0)), (2, .int (iI ((lwN.getD k 0 : Nat) : Int)))]) (by decide) (Nat.le_of_ble_eq_true rfl) rfl (fun p e s m below meth c ls F hr hlk hin hW hS hl => ?_)
  have hZ0 := hW.2.2
  have hB9 := hW.1.2
  clear hin
  have hln := lwN_r k hk
  refine lv_aload_n F.1 F.2.1 dJ0_substring_37a41_0 rfl (lv_at hl 0 rfl) ?_
  refine cs_RJ0_505 (As := []) (rest := []) F hl (cK_len l X w k hk) hW hS (vk_recv (i := k) hZ0.2.2.2.2.2.1 hk hS) rfl rfl ⟨Nat.le_of_ble_eq_true rfl, Nat.le_of_ble_eq_true rfl⟩ (Nat.le_of_ble_eq_true rfl) ⟨(by show 0 + 0 ≤ 2; omega), (by show 0 + 0 ≤ 14; omega)⟩ dJ0_substring_37a41_1 (fun w1 H locs hp1 hW hS => ?_)
  rw [hp1] at hW; clear hp1; clear w1
  refine lv_istore_n (lv' := [(3, .int (iI ((lwN.getD k 0 : Nat) : Int))), (0, .ref (X.2.2 (60 + k))), (1, .int (iI 0)), (2, .int (iI ((lwN.getD k 0 : Nat) : Int)))]) F.1 F.2.1 dJ0_substring_37a41_4 rfl hl (by decide) rfl (fun ls hl => ?_)
  refine lv_iload_n F.1 F.2.1 dJ0_substring_37a41_5 rfl (lv_at hl 2 rfl) ?_
  refine lv_iload_n F.1 F.2.1 dJ0_substring_37a41_6 rfl (lv_at hl 3 rfl) ?_
  refine lv_iload_n F.1 F.2.1 dJ0_substring_37a41_7 rfl (lv_at hl 0 rfl) ?_
  refine cl_RJ0_521 (As := [.int (iI 0), .int (iI ((lwN.getD k 0 : Nat) : Int)), .int (iI ((lwN.getD k 0 : Nat) : Int))]) (rest := []) F hl (c_J0_checkBoundsBeginEnd_23922 l X w ((lwN.getD k 0 : Nat) : Int) ((lwN.getD k 0 : Nat) : Int) (by omega)) hW hS rfl rfl ⟨Nat.le_of_ble_eq_true rfl, Nat.le_of_ble_eq_true rfl⟩ (Nat.le_of_ble_eq_true rfl) ⟨(by show 0 + 0 + 0 ≤ 2; omega), (by show 0 + 0 + 0 ≤ 14; omega)⟩ dJ0_substring_37a41_8 (fun w1 H locs hp2 hW hS => ?_)
  rw [hp2] at hW; clear hp2; clear w1
  refine lv_iload_n F.1 F.2.1 dJ0_substring_37a41_11 rfl (lv_at hl 2 rfl) ?_
  refine h_ifne (tgt := 22) F dJ0_substring_37a41_12 (by decide) (by decide) (fun c9 => absurd c9 (by decide)) (fun _ => ?_)
  refine lv_iload_n F.1 F.2.1 dJ0_substring_37a41_15 rfl (lv_at hl 3 rfl) ?_
  refine lv_iload_n F.1 F.2.1 dJ0_substring_37a41_16 rfl (lv_at hl 0 rfl) ?_
  refine h_icne (tgt := 22) F dJ0_substring_37a41_17 (by decide) (by omega) (fun c4 => ?_) (fun c4 => ?_)
  · exact absurd rfl c4
  · refine lv_aload_n F.1 F.2.1 dJ0_substring_37a41_20 rfl (lv_at hl 1 rfl) ?_
    refine W.wd (mc := 2) (ms := 14) (by omega) (by omega) ?_
    have hX9 : ∀ (q : Nat) (e : va_E), w q = some e → w q = some e := fun q e h9  => by
      exact h9
    exact r_aret F (Or.inl ⟨_, hr⟩) hlk hW hS ⟨_, _, rfl, (Or.inr ⟨k, hk, rfl, rfl, rfl⟩), (fun j h1 h2 => rfl), hX9⟩ dJ0_substring_37a41_21
theorem c_sub (l : Launch) (X : Cx) (w : Wo) (k N : Nat) (hk : k < 15) (hN : 1 ≤ N ∧ N ≤ lwN.getD k 0) : CR l X yJ0_substring_37a41 cJ0_substring_37a41 5 (some (.object "java/lang/String")) (rmG 4 2 14 112) [.ref (X.2.2 (60 + k)), .int (iI 0), .int (iI ((N : Nat) : Int))] w (fun v' w' => ∃ (z9 : Nat), ∃ (f9 : Int → Int), v' = .ref z9 ∧ (str X w' z9 N f9) ∧ (∀ j, 0 ≤ j → j < ((N : Nat) : Int) → f9 j = lw k j) ∧ ∀ (q : Nat) (e : va_E), w q = some e → w' q = some e) := by
  by_cases hz : N = lwN.getD k 0
  · subst hz
    exact c_sub_e l X w k hk
  · exact c_sub_l l X w k N hk ⟨hN.1, by omega⟩
