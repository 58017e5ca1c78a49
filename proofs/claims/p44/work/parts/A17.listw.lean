set_option maxHeartbeats 4000000 in
set_option maxRecDepth 100000 in
theorem c_J8_newLength_cabcc (l : Launch) (X : Cx) (w : Wo) (o mg pg : Int) (hr9 : 0 ≤ o ∧ o < 1000000 ∧ 1 ≤ mg ∧ mg < 1000000 ∧ 0 ≤ pg ∧ pg < 1000000) : CM l X yJ8_newLength_cabcc cJ8_newLength_cabcc 4 (some (.int)) (rmG 1 0 0 24) [.int (iI o), .int (iI mg), .int (iI pg)] w (some (.int (iI (o + max mg pg)))) (fun w' => w' = w) := by
  refine CM.of (lv := [(0, .int (iI o)), (1, .int (iI mg)), (2, .int (iI pg))]) (by decide) (Nat.le_of_ble_eq_true rfl) rfl (fun p e s m below meth c ls F hr hlk hin hW hS hl => ?_)
  have hZ0 := hW.2.2
  have hB9 := hW.1.2
  clear hin
  refine lv_iload_n F.1 F.2.1 dJ8_newLength_cabcc_0 rfl (lv_at hl 0 rfl) ?_
  refine lv_iload_n F.1 F.2.1 dJ8_newLength_cabcc_1 rfl (lv_at hl 1 rfl) ?_
  refine lv_iload_n F.1 F.2.1 dJ8_newLength_cabcc_2 rfl (lv_at hl 2 rfl) ?_
  refine h_mmax (index := 194) (a := mg) (b := pg) F hl km_RJ8_194 (Nat.le_of_ble_eq_true rfl) (Nat.le_of_ble_eq_true rfl) (by show 0 ≤ 0; omega) (by show 0 ≤ 0; omega) (by omega) dJ8_newLength_cabcc_3 ?_
  refine h_iadd (a := o) (b := max mg pg) F dJ8_newLength_cabcc_6 ?_
  refine lv_istore_n (lv' := [(3, .int (iI (o + (max mg pg)))), (0, .int (iI o)), (1, .int (iI mg)), (2, .int (iI pg))]) F.1 F.2.1 dJ8_newLength_cabcc_7 rfl hl (by decide) rfl (fun ls hl => ?_)
  refine h_iconst F dJ8_newLength_cabcc_8 ?_
  refine lv_iload_n F.1 F.2.1 dJ8_newLength_cabcc_9 rfl (lv_at hl 0 rfl) ?_
  refine h_icge (tgt := 21) F dJ8_newLength_cabcc_10 (by decide) (by omega) (fun c1 => ?_) (fun c1 => ?_)
  · exfalso; omega
  · refine lv_iload_n F.1 F.2.1 dJ8_newLength_cabcc_13 rfl (lv_at hl 0 rfl) ?_
    refine h_ldc (n := 2147483639) F kk_RJ8_200 dJ8_newLength_cabcc_14 ?_
    refine h_icgt (tgt := 21) F dJ8_newLength_cabcc_16 (by decide) (by omega) (fun c2 => ?_) (fun c2 => ?_)
    · exfalso; omega
    · refine lv_iload_n F.1 F.2.1 dJ8_newLength_cabcc_19 rfl (lv_at hl 0 rfl) ?_
      refine h_top (show (o + (max mg pg) : Int) = o + max mg pg from by first | rfl | omega | (simp_all; done)) ?_
      exact h_ireti F hr hlk hW hS rfl dJ8_newLength_cabcc_20
set_option maxHeartbeats 4000000 in
set_option maxRecDepth 100000 in
theorem c_J7_copyOf_6403c (l : Launch) (X : Cx) (w : Wo) (og n0 N : Nat) (g0 : Nat → Option Nat) (hog : w og = some (aR X 5 n0 g0)) (hn0 : n0 ≤ N ∧ N ≤ 21) (hel : ∀ i y, i < n0 → g0 i = some y → elO X w y) : CR l X yJ7_copyOf_6403c cJ7_copyOf_6403c 4 (some (.array (.object "java/lang/Object"))) (rmG 1 1 21 44) [.ref og, .int (iI ((N : Nat) : Int)), .ref (X.2.2 6)] w (fun v' w' => ∃ (q9 : Nat), v' = .ref q9 ∧ frs w q9 ∧ w' q9 = some (aR X 5 N (va_cpy g0 (fun _ => none) 0 0 n0)) ∧ ∀ (q : Nat) (e : va_E), w q = some e → w' q = some e) := by
  refine CR.of (lv := [(0, .ref og), (1, .int (iI ((N : Nat) : Int))), (2, .ref (X.2.2 6))]) (by decide) (Nat.le_of_ble_eq_true rfl) rfl (fun p e s m below meth c ls F hr hlk hin hW hS hl => ?_)
  have hZ0 := hW.2.2
  have hB9 := hW.1.2
  clear hin
  refine lv_aload_n F.1 F.2.1 dJ7_copyOf_6403c_0 rfl (lv_at hl 2 rfl) ?_
  refine h_ldcM7 F hW dJ7_copyOf_6403c_1 ?_
  refine lv_acmp_ne (rx := some (X.2.2 6)) (ry := some (X.2.2 6)) (tgt := 13) F.1 F.2.1 dJ7_copyOf_6403c_3 (by decide) (fun c1 => ?_) (fun c1 => ?_)
  · exact absurd rfl c1
  · refine lv_iload_n F.1 F.2.1 dJ7_copyOf_6403c_6 rfl (lv_at hl 1 rfl) ?_
    refine q_newR (N := N) (k := 5) (C := "java/lang/Object") F hW hS rfl hW.2.1.2.2.2.2.2.2.2.1 kl_RJ7_2 rfl (by omega) ⟨(by show 0 + 1 ≤ 1; omega), (by show 0 + N ≤ 21; omega)⟩ dJ7_copyOf_6403c_7 (fun q9 w2 H hfr5 hcx6 ha4 hn3 hW hS => ?_)
    have hb7 := hfr5 _ _ hog
    have hog := (hn3 _ (by omega)).trans hog
    refine h_goto (tgt := 24) F dJ7_copyOf_6403c_10 (by decide) ?_
    refine lv_astore_n (lv' := [(3, .ref q9), (0, .ref og), (1, .int (iI ((N : Nat) : Int))), (2, .ref (X.2.2 6))]) F.1 F.2.1 dJ7_copyOf_6403c_24 rfl hl (by decide) rfl (fun ls hl => ?_)
    refine lv_aload_n F.1 F.2.1 dJ7_copyOf_6403c_25 rfl (lv_at hl 1 rfl) ?_
    refine h_iconst F dJ7_copyOf_6403c_26 ?_
    refine lv_aload_n F.1 F.2.1 dJ7_copyOf_6403c_27 rfl (lv_at hl 0 rfl) ?_
    refine h_iconst F dJ7_copyOf_6403c_28 ?_
    refine lv_aload_n F.1 F.2.1 dJ7_copyOf_6403c_29 rfl (lv_at hl 1 rfl) ?_
    refine h_alen (k := 5) (n := n0) F hW rfl hog dJ7_copyOf_6403c_30 ?_
    refine lv_iload_n F.1 F.2.1 dJ7_copyOf_6403c_31 rfl (lv_at hl 2 rfl) ?_
    refine h_mmin (index := 304) (a := ((n0 : Nat) : Int)) (b := ((N : Nat) : Int)) F hl km_RJ7_304 (Nat.le_of_ble_eq_true rfl) (Nat.le_of_ble_eq_true rfl) (by show 0 + 1 ≤ 1; omega) (by show 0 + N ≤ 21; omega) (by omega) dJ7_copyOf_6403c_32 ?_
    refine h_top (show (min ((n0 : Nat) : Int) ((N : Nat) : Int) : Int) = ((n0 : Nat) : Int) from by omega) ?_
    refine h_copyM2 (index := 150) F hl hW hZ0 hB9 hS km_RJ7_150 hog ha4 (by omega) (fun i hi y hy => ((hel _ y (by omega) hy).ex (show ext w w2 from fun q e h9 => by have z9_1 := hfr5 q e h9; have h9 := (hn3 q (by omega)).trans h9; exact h9)).any hW) (Nat.le_of_ble_eq_true rfl) (Nat.le_of_ble_eq_true rfl) dJ7_copyOf_6403c_35 (fun w8 H locs ha10 hn9 hW hS => ?_)
    have hog := (hn9 _ (by omega)).trans hog
    refine lv_aload_n F.1 F.2.1 dJ7_copyOf_6403c_38 rfl (lv_at hl 0 rfl) ?_
    refine W.wd (mc := 1) (ms := 21) (by omega) (by omega) ?_
    have hX9 : ∀ (q : Nat) (e : va_E), w q = some e → w8 q = some e := fun q e h9  => by
      have z9_11 := hfr5 q e h9
      have h9 := (hn3 q (by omega)).trans h9
      have h9 := (hn9 q (by omega)).trans h9
      exact h9
    exact r_aret F (Or.inr ⟨_, hr⟩) hlk hW hS ⟨_, rfl, hfr5, (by (rw [ha10]) <;> (rfl)), hX9⟩ dJ7_copyOf_6403c_39
set_option maxHeartbeats 4000000 in
set_option maxRecDepth 100000 in
theorem c_J7_copyOf_1904c (l : Launch) (X : Cx) (w : Wo) (og n0 N : Nat) (g0 : Nat → Option Nat) (hog : w og = some (aR X 5 n0 g0)) (hn0 : n0 ≤ N ∧ N ≤ 21) (hel : ∀ i y, i < n0 → g0 i = some y → elO X w y) : CR l X yJ7_copyOf_1904c cJ7_copyOf_1904c 2 (some (.array (.object "java/lang/Object"))) (rmG 2 1 21 67) [.ref og, .int (iI ((N : Nat) : Int))] w (fun v' w' => ∃ (q9 : Nat), v' = .ref q9 ∧ frs w q9 ∧ w' q9 = some (aR X 5 N (va_cpy g0 (fun _ => none) 0 0 n0)) ∧ ∀ (q : Nat) (e : va_E), w q = some e → w' q = some e) := by
  refine CR.of (lv := [(0, .ref og), (1, .int (iI ((N : Nat) : Int)))]) (by decide) (Nat.le_of_ble_eq_true rfl) rfl (fun p e s m below meth c ls F hr hlk hin hW hS hl => ?_)
  have hZ0 := hW.2.2
  have hB9 := hW.1.2
  clear hin
  refine lv_aload_n F.1 F.2.1 dJ7_copyOf_1904c_0 rfl (lv_at hl 0 rfl) ?_
  refine lv_iload_n F.1 F.2.1 dJ7_copyOf_1904c_1 rfl (lv_at hl 1 rfl) ?_
  refine lv_aload_n F.1 F.2.1 dJ7_copyOf_1904c_2 rfl (lv_at hl 0 rfl) ?_
  refine h_getC7 F hl hW hog (Nat.le_of_ble_eq_true rfl) (Nat.le_of_ble_eq_true rfl) dJ7_copyOf_1904c_3 ?_
  refine cr_RJ7_300 (As := [.ref og, .int (iI ((N : Nat) : Int)), .ref (X.2.2 6)]) (rest := []) F hl (c_J7_copyOf_6403c l X w og n0 N g0 hog (by omega) hel) hW hS rfl rfl ⟨Nat.le_of_ble_eq_true rfl, Nat.le_of_ble_eq_true rfl⟩ (Nat.le_of_ble_eq_true rfl) ⟨(by show 0 + 1 ≤ 1; omega), (by show 0 + 21 ≤ 21; omega)⟩ dJ7_copyOf_1904c_6 (fun v3 w1 H locs hp2 hW hS => ?_)
  obtain ⟨q9, rfl, hfr4, ha5, hx6⟩ := hp2
  have hb7 := hfr4 _ _ hog
  have hog := hx6 _ _ hog 
  refine W.wd (mc := 1) (ms := 21) (by omega) (by omega) ?_
  have hX9 : ∀ (q : Nat) (e : va_E), w q = some e → w1 q = some e := fun q e h9  => by
    have z9_8 := hfr4 q e h9
    have h9 := hx6 q e h9 
    exact h9
  exact r_aret F (Or.inr ⟨_, hr⟩) hlk hW hS ⟨_, rfl, hfr4, ha5, hX9⟩ dJ7_copyOf_1904c_9
set_option maxHeartbeats 4000000 in
set_option maxRecDepth 100000 in
theorem c_grow_f (l : Launch) (X : Cx) (w : Wo) (a : Nat) (md : Int32) (ho : w a = some (.inr (14, [.int md, .ref (X.2.2 3), .int (iI 0)]))) : CR l X yJx4a65c_grow_92f84 cJx4a65c_grow_92f84 4 (some (.array (.object "java/lang/Object"))) (rmG 3 1 21 88) [.ref a, .int (iI 1)] w (fun v' w' => ∃ (q9 : Nat), v' = .ref q9 ∧ frs w q9 ∧ w' a = some (.inr (14, [.int md, .ref q9, .int (iI 0)])) ∧ w' q9 = some (aR X 5 10 (fun _ => none)) ∧ ∀ (q : Nat) (e : va_E), w q = some e → q ≠ a → w' q = some e) := by
  refine CR.of (lv := [(0, .ref a), (1, .int (iI 1))]) (by decide) (Nat.le_of_ble_eq_true rfl) rfl (fun p e s m below meth c ls F hr hlk hin hW hS hl => ?_)
  have hZ0 := hW.2.2
  have hB9 := hW.1.2
  clear hin
  refine lv_aload_n F.1 F.2.1 dJx4a65c_grow_92f84_0 rfl (lv_at hl 0 rfl) ?_
  refine gf_RJx4a65c_9 F hW ho rfl dJx4a65c_grow_92f84_1 ?_
  refine va_tlen F.1 F.2.1 hZ0.2.2.2.2.2.2.1.2 hS (v := iI 0) rfl dJx4a65c_grow_92f84_4 ?_
  refine lv_istore_n (lv' := [(2, .int (iI 0)), (0, .ref a), (1, .int (iI 1))]) F.1 F.2.1 dJx4a65c_grow_92f84_5 rfl hl (by decide) rfl (fun ls hl => ?_)
  refine lv_iload_n F.1 F.2.1 dJx4a65c_grow_92f84_6 rfl (lv_at hl 0 rfl) ?_
  refine h_ifgt (tgt := 20) F dJx4a65c_grow_92f84_7 (by decide) (by decide) (fun c9 => absurd c9 (by decide)) (fun _ => ?_)
  refine lv_aload_n F.1 F.2.1 dJx4a65c_grow_92f84_10 rfl (lv_at hl 1 rfl) ?_
  refine gf_RJx4a65c_9 F hW ho rfl dJx4a65c_grow_92f84_11 ?_
  refine h_gstat F hZ0.2.2.2.2.2.2.1.1 hS kf_RJx4a65c_39 dJx4a65c_grow_92f84_14 ?_
  refine lv_acmp_eq (rx := some (X.2.2 3)) (ry := some (X.2.2 3)) (tgt := 45) F.1 F.2.1 dJx4a65c_grow_92f84_17 (by decide) (fun c2 => ?_) (fun c2 => ?_)
  · refine lv_aload_n F.1 F.2.1 dJx4a65c_grow_92f84_45 rfl (lv_at hl 1 rfl) ?_
    refine h_bipush F dJx4a65c_grow_92f84_46 rfl ?_
    refine lv_iload_n F.1 F.2.1 dJx4a65c_grow_92f84_48 rfl (lv_at hl 2 rfl) ?_
    refine h_mmax (index := 79) (a := 10) (b := 1) F hl km_RJx4a65c_79 (Nat.le_of_ble_eq_true rfl) (Nat.le_of_ble_eq_true rfl) (by show 0 ≤ 1; omega) (by show 0 ≤ 21; omega) (by omega) dJx4a65c_grow_92f84_49 ?_
    refine q_newR (N := 10) (k := 5) (C := "java/lang/Object") F hW hS rfl hW.2.1.2.2.2.2.2.2.2.1 kl_RJx4a65c_7 (by omega) (by omega) ⟨(by show 0 + 1 ≤ 1; omega), (by show 0 + 10 ≤ 21; omega)⟩ dJx4a65c_grow_92f84_52 (fun q9 w3 H hfr6 hcx7 ha5 hn4 hW hS => ?_)
    have hb8 := hfr6 _ _ ho
    have ho := (hn4 _ (by omega)).trans ho
    refine lv_dup_x1 F.1 F.2.1 dJx4a65c_grow_92f84_55 rfl rfl ?_
    refine pf_RJx4a65c_9 F hW hS hZ0 hB9 ho (Nat.le_of_ble_eq_true rfl) dJx4a65c_grow_92f84_56 (fun w9 H locs ho11 hn10 hW hS => ?_)
    have ho11 : w9 a = some (.inr (14, [.int md, .ref q9, .int (iI 0)])) := ho11
    have ha5 := (hn10 _ (by omega)).trans ha5
    refine W.wd (mc := 1) (ms := 21) (by omega) (by omega) ?_
    have hX9 : ∀ (q : Nat) (e : va_E), w q = some e → q ≠ a → w9 q = some e := fun q e h9 h09 => by
      have z9_12 := hfr6 q e h9
      have h9 := (hn4 q (by omega)).trans h9
      have h9 := (hn10 q (by omega)).trans h9
      exact h9
    exact r_aret F (Or.inr ⟨_, hr⟩) hlk hW hS ⟨_, rfl, hfr6, ho11, ha5, hX9⟩ dJx4a65c_grow_92f84_59
  · exact absurd rfl c2
set_option maxHeartbeats 4000000 in
set_option maxRecDepth 100000 in
theorem c_grow_g (l : Launch) (X : Cx) (w : Wo) (a ea : Nat) (md : Int32) (g0 : Nat → Option Nat) (ho : w a = some (.inr (14, [.int md, .ref ea, .int (iI 10)]))) (hea : w ea = some (aR X 5 10 g0)) (hel : ∀ i y, i < 10 → g0 i = some y → elO X w y) : CR l X yJx4a65c_grow_92f84 cJx4a65c_grow_92f84 4 (some (.array (.object "java/lang/Object"))) (rmG 3 1 21 88) [.ref a, .int (iI 11)] w (fun v' w' => ∃ (q9 : Nat), v' = .ref q9 ∧ frs w q9 ∧ w' a = some (.inr (14, [.int md, .ref q9, .int (iI 10)])) ∧ w' q9 = some (aR X 5 15 (va_cpy g0 (fun _ => none) 0 0 10)) ∧ ∀ (q : Nat) (e : va_E), w q = some e → q ≠ a → w' q = some e) := by
  refine CR.of (lv := [(0, .ref a), (1, .int (iI 11))]) (by decide) (Nat.le_of_ble_eq_true rfl) rfl (fun p e s m below meth c ls F hr hlk hin hW hS hl => ?_)
  have hZ0 := hW.2.2
  have hB9 := hW.1.2
  clear hin
  have hae : a ≠ ea := fun e9 => by rw [e9, hea] at ho; cases ho
  refine lv_aload_n F.1 F.2.1 dJx4a65c_grow_92f84_0 rfl (lv_at hl 0 rfl) ?_
  refine gf_RJx4a65c_9 F hW ho rfl dJx4a65c_grow_92f84_1 ?_
  refine h_alen (k := 5) (n := 10) F hW rfl hea dJx4a65c_grow_92f84_4 ?_
  refine h_top (show (((10 : Nat) : Int) : Int) = 10 from rfl) ?_
  refine lv_istore_n (lv' := [(2, .int (iI 10)), (0, .ref a), (1, .int (iI 11))]) F.1 F.2.1 dJx4a65c_grow_92f84_5 rfl hl (by decide) rfl (fun ls hl => ?_)
  refine lv_iload_n F.1 F.2.1 dJx4a65c_grow_92f84_6 rfl (lv_at hl 0 rfl) ?_
  refine h_ifgt (tgt := 20) F dJx4a65c_grow_92f84_7 (by decide) (by decide) (fun _ => ?_) (fun c9 => absurd c9 (by decide))
  refine lv_iload_n F.1 F.2.1 dJx4a65c_grow_92f84_20 rfl (lv_at hl 0 rfl) ?_
  refine lv_iload_n F.1 F.2.1 dJx4a65c_grow_92f84_21 rfl (lv_at hl 2 rfl) ?_
  refine lv_iload_n F.1 F.2.1 dJx4a65c_grow_92f84_22 rfl (lv_at hl 0 rfl) ?_
  refine h_isub (a := 11) (b := 10) F dJx4a65c_grow_92f84_23 ?_
  refine h_top (show (11 - 10 : Int) = 1 from by omega) ?_
  refine lv_iload_n F.1 F.2.1 dJx4a65c_grow_92f84_24 rfl (lv_at hl 0 rfl) ?_
  refine h_iconst F dJx4a65c_grow_92f84_25 ?_
  refine h_ishr (z := iI 5) F dJx4a65c_grow_92f84_26 (by decide +kernel) ?_
  refine cl_RJx4a65c_73 (As := [.int (iI 10), .int (iI 1), .int (iI 5)]) (rest := []) F hl (c_J8_newLength_cabcc l X w 10 1 5 (by omega)) hW hS rfl rfl ⟨Nat.le_of_ble_eq_true rfl, Nat.le_of_ble_eq_true rfl⟩ (Nat.le_of_ble_eq_true rfl) ⟨(by show 0 + 0 ≤ 1; omega), (by show 0 + 0 ≤ 21; omega)⟩ dJx4a65c_grow_92f84_27 (fun w1 H locs hp2 hW hS => ?_)
  rw [hp2] at hW; clear hp2; clear w1
  refine h_top (show (10 + max 1 5 : Int) = ((15 : Nat) : Int) from by omega) ?_
  refine lv_istore_n (lv' := [(3, .int (iI ((15 : Nat) : Int))), (2, .int (iI 10)), (0, .ref a), (1, .int (iI 11))]) F.1 F.2.1 dJx4a65c_grow_92f84_30 rfl hl (by decide) rfl (fun ls hl => ?_)
  refine lv_aload_n F.1 F.2.1 dJx4a65c_grow_92f84_31 rfl (lv_at hl 2 rfl) ?_
  refine lv_aload_n F.1 F.2.1 dJx4a65c_grow_92f84_32 rfl (lv_at hl 2 rfl) ?_
  refine gf_RJx4a65c_9 F hW ho rfl dJx4a65c_grow_92f84_33 ?_
  refine lv_iload_n F.1 F.2.1 dJx4a65c_grow_92f84_36 rfl (lv_at hl 0 rfl) ?_
  refine cr_RJx4a65c_66 (As := [.ref ea, .int (iI ((15 : Nat) : Int))]) (rest := [.ref a]) F hl (c_J7_copyOf_1904c l X w ea 10 15 g0 hea (by omega) hel) hW hS rfl rfl ⟨Nat.le_of_ble_eq_true rfl, Nat.le_of_ble_eq_true rfl⟩ (Nat.le_of_ble_eq_true rfl) ⟨(by show 0 + 0 + 1 ≤ 1; omega), (by show 0 + 0 + 21 ≤ 21; omega)⟩ dJx4a65c_grow_92f84_37 (fun v5 w3 H locs hp4 hW hS => ?_)
  obtain ⟨q9, rfl, hfr6, ha7, hx8⟩ := hp4
  have hb9 := hfr6 _ _ ho
  have hb10 := hfr6 _ _ hea
  have ho := hx8 _ _ ho 
  have hea := hx8 _ _ hea 
  refine lv_dup_x1 F.1 F.2.1 dJx4a65c_grow_92f84_40 rfl rfl ?_
  refine pf_RJx4a65c_9 F hW hS hZ0 hB9 ho (Nat.le_of_ble_eq_true rfl) dJx4a65c_grow_92f84_41 (fun w11 H locs ho13 hn12 hW hS => ?_)
  have ho13 : w11 a = some (.inr (14, [.int md, .ref q9, .int (iI 10)])) := ho13
  have hea := (hn12 _ (by omega)).trans hea
  have ha7 := (hn12 _ (by omega)).trans ha7
  refine W.wd (mc := 1) (ms := 21) (by omega) (by omega) ?_
  have hX9 : ∀ (q : Nat) (e : va_E), w q = some e → q ≠ a → w11 q = some e := fun q e h9 h09 => by
    have z9_14 := hfr6 q e h9
    have h9 := hx8 q e h9 
    have h9 := (hn12 q (by omega)).trans h9
    exact h9
  exact r_aret F (Or.inr ⟨_, hr⟩) hlk hW hS ⟨_, rfl, hfr6, ho13, ha7, hX9⟩ dJx4a65c_grow_92f84_44
set_option maxHeartbeats 4000000 in
set_option maxRecDepth 100000 in
theorem c_grw_f (l : Launch) (X : Cx) (w : Wo) (a : Nat) (md : Int32) (ho : w a = some (.inr (14, [.int md, .ref (X.2.2 3), .int (iI 0)]))) : CR l X yJx4a65c_grow_d5877 cJx4a65c_grow_d5877 1 (some (.array (.object "java/lang/Object"))) (rmG 4 1 21 111) [.ref a] w (fun v' w' => ∃ (q9 : Nat), v' = .ref q9 ∧ frs w q9 ∧ w' a = some (.inr (14, [.int md, .ref q9, .int (iI 0)])) ∧ w' q9 = some (aR X 5 10 (fun _ => none)) ∧ ∀ (q : Nat) (e : va_E), w q = some e → q ≠ a → w' q = some e) := by
  refine CR.of (lv := [(0, .ref a)]) (by decide) (Nat.le_of_ble_eq_true rfl) rfl (fun p e s m below meth c ls F hr hlk hin hW hS hl => ?_)
  have hZ0 := hW.2.2
  have hB9 := hW.1.2
  clear hin
  refine lv_aload_n F.1 F.2.1 dJx4a65c_grow_d5877_0 rfl (lv_at hl 0 rfl) ?_
  refine lv_aload_n F.1 F.2.1 dJx4a65c_grow_d5877_1 rfl (lv_at hl 0 rfl) ?_
  refine gf_RJx4a65c_48 F hW ho rfl dJx4a65c_grow_d5877_2 ?_
  refine h_iconst F dJx4a65c_grow_d5877_5 ?_
  refine h_iadd (a := 0) (b := 1) F dJx4a65c_grow_d5877_6 ?_
  refine h_top (show (0 + 1 : Int) = 1 from rfl) ?_
  refine cr_RJx4a65c_69 (As := [.int (iI 1)]) (rest := []) F hl (c_grow_f l X w a md ho) hW hS ho rfl rfl ⟨Nat.le_of_ble_eq_true rfl, Nat.le_of_ble_eq_true rfl⟩ (Nat.le_of_ble_eq_true rfl) ⟨(by show 0 + 1 ≤ 1; omega), (by show 0 + 21 ≤ 21; omega)⟩ dJx4a65c_grow_d5877_7 (fun v3 w1 H locs hp2 hW hS => ?_)
  obtain ⟨q9, rfl, hfr4, ho5, ha6, hx7⟩ := hp2
  have hb8 := hfr4 _ _ ho
  refine W.wd (mc := 1) (ms := 21) (by omega) (by omega) ?_
  have hX9 : ∀ (q : Nat) (e : va_E), w q = some e → q ≠ a → w1 q = some e := fun q e h9 h09 => by
    have z9_9 := hfr4 q e h9
    have h9 := hx7 q e h9 (by omega)
    exact h9
  exact r_aret F (Or.inr ⟨_, hr⟩) hlk hW hS ⟨_, rfl, hfr4, ho5, ha6, hX9⟩ dJx4a65c_grow_d5877_10
set_option maxHeartbeats 4000000 in
set_option maxRecDepth 100000 in
theorem c_grw_g (l : Launch) (X : Cx) (w : Wo) (a ea : Nat) (md : Int32) (g0 : Nat → Option Nat) (ho : w a = some (.inr (14, [.int md, .ref ea, .int (iI 10)]))) (hea : w ea = some (aR X 5 10 g0)) (hel : ∀ i y, i < 10 → g0 i = some y → elO X w y) : CR l X yJx4a65c_grow_d5877 cJx4a65c_grow_d5877 1 (some (.array (.object "java/lang/Object"))) (rmG 4 1 21 111) [.ref a] w (fun v' w' => ∃ (q9 : Nat), v' = .ref q9 ∧ frs w q9 ∧ w' a = some (.inr (14, [.int md, .ref q9, .int (iI 10)])) ∧ w' q9 = some (aR X 5 15 (va_cpy g0 (fun _ => none) 0 0 10)) ∧ ∀ (q : Nat) (e : va_E), w q = some e → q ≠ a → w' q = some e) := by
  refine CR.of (lv := [(0, .ref a)]) (by decide) (Nat.le_of_ble_eq_true rfl) rfl (fun p e s m below meth c ls F hr hlk hin hW hS hl => ?_)
  have hZ0 := hW.2.2
  have hB9 := hW.1.2
  clear hin
  have hae : a ≠ ea := fun e9 => by rw [e9, hea] at ho; cases ho
  refine lv_aload_n F.1 F.2.1 dJx4a65c_grow_d5877_0 rfl (lv_at hl 0 rfl) ?_
  refine lv_aload_n F.1 F.2.1 dJx4a65c_grow_d5877_1 rfl (lv_at hl 0 rfl) ?_
  refine gf_RJx4a65c_48 F hW ho rfl dJx4a65c_grow_d5877_2 ?_
  refine h_iconst F dJx4a65c_grow_d5877_5 ?_
  refine h_iadd (a := 10) (b := 1) F dJx4a65c_grow_d5877_6 ?_
  refine h_top (show (10 + 1 : Int) = 11 from rfl) ?_
  refine cr_RJx4a65c_69 (As := [.int (iI 11)]) (rest := []) F hl (c_grow_g l X w a ea md g0 ho hea hel) hW hS ho rfl rfl ⟨Nat.le_of_ble_eq_true rfl, Nat.le_of_ble_eq_true rfl⟩ (Nat.le_of_ble_eq_true rfl) ⟨(by show 0 + 1 ≤ 1; omega), (by show 0 + 21 ≤ 21; omega)⟩ dJx4a65c_grow_d5877_7 (fun v3 w1 H locs hp2 hW hS => ?_)
  obtain ⟨q9, rfl, hfr4, ho5, ha6, hx7⟩ := hp2
  have hb8 := hfr4 _ _ ho
  have hb9 := hfr4 _ _ hea
  have hea := hx7 _ _ hea (by omega)
  refine W.wd (mc := 1) (ms := 21) (by omega) (by omega) ?_
  have hX9 : ∀ (q : Nat) (e : va_E), w q = some e → q ≠ a → w1 q = some e := fun q e h9 h09 => by
    have z9_10 := hfr4 q e h9
    have h9 := hx7 q e h9 (by omega)
    exact h9
  exact r_aret F (Or.inr ⟨_, hr⟩) hlk hW hS ⟨_, rfl, hfr4, ho5, ha6, hX9⟩ dJx4a65c_grow_d5877_10
set_option maxHeartbeats 4000000 in
set_option maxRecDepth 100000 in
theorem c_add0_r (l : Launch) (X : Cx) (w : Wo) (a v ea : Nat) (md : Int32) (n : Int) (cp : Nat) (g0 : Nat → Option Nat) (ho : w a = some (.inr (14, [.int md, .ref ea, .int (iI n)]))) (hea : w ea = some (aR X 5 cp g0)) (hi9 : 0 ≤ n ∧ n < (cp : Int) ∧ cp < 1000) (hv : elO X w v) : CM l X yJx4a65c_add_72be8 cJx4a65c_add_72be8 4 none (rmG 5 0 0 131) [.ref a, .ref v, .ref ea, .int (iI n)] w none (fun w' => w' a = some (.inr (14, [.int md, .ref ea, .int (iI (n + 1))])) ∧ w' ea = some (aR X 5 cp (va_up g0 n.toNat (some v))) ∧ ∀ q : Nat, q ≠ a → q ≠ ea → w' q = w q) := by
  refine CM.of (lv := [(0, .ref a), (1, .ref v), (2, .ref ea), (3, .int (iI n))]) (by decide) (Nat.le_of_ble_eq_true rfl) rfl (fun p e s m below meth c ls F hr hlk hin hW hS hl => ?_)
  have hZ0 := hW.2.2
  have hB9 := hW.1.2
  clear hin
  have hae : a ≠ ea := fun e9 => by rw [e9, hea] at ho; cases ho
  refine lv_iload_n F.1 F.2.1 dJx4a65c_add_72be8_0 rfl (lv_at hl 3 rfl) ?_
  refine lv_aload_n F.1 F.2.1 dJx4a65c_add_72be8_1 rfl (lv_at hl 2 rfl) ?_
  refine h_alen (k := 5) (n := cp) F hW rfl hea dJx4a65c_add_72be8_2 ?_
  refine h_icne (tgt := 11) F dJx4a65c_add_72be8_3 (by decide) (by omega) (fun c1 => ?_) (fun c1 => ?_)
  · refine lv_aload_n F.1 F.2.1 dJx4a65c_add_72be8_11 rfl (lv_at hl 2 rfl) ?_
    refine lv_iload_n F.1 F.2.1 dJx4a65c_add_72be8_12 rfl (lv_at hl 3 rfl) ?_
    refine lv_aload_n F.1 F.2.1 dJx4a65c_add_72be8_13 rfl (lv_at hl 1 rfl) ?_
    refine h_aastM F hW hS hZ0 hB9 hea (hv.any hW) (by omega) (by omega) dJx4a65c_add_72be8_14 (fun w2 H locs ha4 hn3 hW hS => ?_)
    have ho := (hn3 _ (by omega)).trans ho
    refine lv_aload_n F.1 F.2.1 dJx4a65c_add_72be8_15 rfl (lv_at hl 0 rfl) ?_
    refine lv_iload_n F.1 F.2.1 dJx4a65c_add_72be8_16 rfl (lv_at hl 3 rfl) ?_
    refine h_iconst F dJx4a65c_add_72be8_17 ?_
    refine h_iadd (a := n) (b := 1) F dJx4a65c_add_72be8_18 ?_
    refine pf_RJx4a65c_48 F hW hS hZ0 hB9 ho (Nat.le_of_ble_eq_true rfl) dJx4a65c_add_72be8_19 (fun w5 H locs ho7 hn6 hW hS => ?_)
    have ho7 : w5 a = some (.inr (14, [.int md, .ref ea, .int (iI (n + 1))])) := ho7
    have ha4 := (hn6 _ (by omega)).trans ha4
    exact h_vret F hr hlk hW hS ⟨ho7, (by (rw [ha4]) <;> (rfl)), (fun q h09 h19 => by rw [hn6 q (by omega), hn3 q (by omega)])⟩ dJx4a65c_add_72be8_22
  · exfalso; omega
set_option maxHeartbeats 4000000 in
set_option maxRecDepth 100000 in
theorem c_add0_f (l : Launch) (X : Cx) (w : Wo) (a v : Nat) (md : Int32) (ho : w a = some (.inr (14, [.int md, .ref (X.2.2 3), .int (iI 0)]))) (hv : elO X w v) : CM l X yJx4a65c_add_72be8 cJx4a65c_add_72be8 4 none (rmG 5 1 21 131) [.ref a, .ref v, .ref (X.2.2 3), .int (iI 0)] w none (fun w' => ∃ (q9 : Nat), w' a = some (.inr (14, [.int md, .ref q9, .int (iI 1)])) ∧ w' q9 = some (aR X 5 10 (va_up (fun _ => none) 0 (some v))) ∧ (frs w q9) ∧ ∀ (q : Nat) (e : va_E), w q = some e → q ≠ a → w' q = some e) := by
  refine CM.of (lv := [(0, .ref a), (1, .ref v), (2, .ref (X.2.2 3)), (3, .int (iI 0))]) (by decide) (Nat.le_of_ble_eq_true rfl) rfl (fun p e s m below meth c ls F hr hlk hin hW hS hl => ?_)
  have hZ0 := hW.2.2
  have hB9 := hW.1.2
  clear hin
  have hva := hv.ne ho
  refine lv_iload_n F.1 F.2.1 dJx4a65c_add_72be8_0 rfl (lv_at hl 3 rfl) ?_
  refine lv_aload_n F.1 F.2.1 dJx4a65c_add_72be8_1 rfl (lv_at hl 2 rfl) ?_
  refine va_tlen F.1 F.2.1 hZ0.2.2.2.2.2.2.1.2 hS (v := iI 0) rfl dJx4a65c_add_72be8_2 ?_
  refine h_icne (tgt := 11) F dJx4a65c_add_72be8_3 (by decide) (by decide) (fun c9 => absurd c9 (by decide)) (fun _ => ?_)
  refine lv_aload_n F.1 F.2.1 dJx4a65c_add_72be8_6 rfl (lv_at hl 0 rfl) ?_
  refine cr_RJx4a65c_129 (As := []) (rest := []) F hl (c_grw_f l X w a md ho) hW hS ho rfl rfl ⟨Nat.le_of_ble_eq_true rfl, Nat.le_of_ble_eq_true rfl⟩ (Nat.le_of_ble_eq_true rfl) ⟨(by show 0 + 1 ≤ 1; omega), (by show 0 + 21 ≤ 21; omega)⟩ dJx4a65c_add_72be8_7 (fun v4 w2 H locs hp3 hW hS => ?_)
  obtain ⟨q9, rfl, hfr5, ho6, ha7, hx8⟩ := hp3
  have hb9 := hfr5 _ _ ho
  refine lv_astore_n (lv' := [(2, .ref q9), (0, .ref a), (1, .ref v), (3, .int (iI 0))]) F.1 F.2.1 dJx4a65c_add_72be8_10 rfl hl (by decide) rfl (fun ls hl => ?_)
  refine lv_aload_n F.1 F.2.1 dJx4a65c_add_72be8_11 rfl (lv_at hl 0 rfl) ?_
  refine lv_iload_n F.1 F.2.1 dJx4a65c_add_72be8_12 rfl (lv_at hl 3 rfl) ?_
  refine lv_aload_n F.1 F.2.1 dJx4a65c_add_72be8_13 rfl (lv_at hl 2 rfl) ?_
  refine h_aastM F hW hS hZ0 hB9 ha7 ((hv.k (fun e h9 => by have z9_0 := hfr5 _ e h9; have h9 := hx8 _ e h9 (by omega); exact h9)).any hW) (by omega) (by omega) dJx4a65c_add_72be8_14 (fun w10 H locs ha12 hn11 hW hS => ?_)
  have ho6 := (hn11 _ (by omega)).trans ho6
  refine lv_aload_n F.1 F.2.1 dJx4a65c_add_72be8_15 rfl (lv_at hl 1 rfl) ?_
  refine lv_iload_n F.1 F.2.1 dJx4a65c_add_72be8_16 rfl (lv_at hl 3 rfl) ?_
  refine h_iconst F dJx4a65c_add_72be8_17 ?_
  refine h_iadd (a := 0) (b := 1) F dJx4a65c_add_72be8_18 ?_
  refine h_top (show (0 + 1 : Int) = 1 from rfl) ?_
  refine pf_RJx4a65c_48 F hW hS hZ0 hB9 ho6 (Nat.le_of_ble_eq_true rfl) dJx4a65c_add_72be8_19 (fun w13 H locs ho15 hn14 hW hS => ?_)
  have ho15 : w13 a = some (.inr (14, [.int md, .ref q9, .int (iI 1)])) := ho15
  have ha12 := (hn14 _ (by omega)).trans ha12
  refine W.wd (mc := 1) (ms := 21) (by omega) (by omega) ?_
  have hX9 : ∀ (q : Nat) (e : va_E), w q = some e → q ≠ a → w13 q = some e := fun q e h9 h09 => by
    have z9_16 := hfr5 q e h9
    have h9 := hx8 q e h9 (by omega)
    have h9 := (hn11 q (by omega)).trans h9
    have h9 := (hn14 q (by omega)).trans h9
    exact h9
  exact h_vret F hr hlk hW hS ⟨_, ho15, (by (rw [ha12]) <;> (rfl)), hfr5, hX9⟩ dJx4a65c_add_72be8_22
set_option maxHeartbeats 4000000 in
set_option maxRecDepth 100000 in
theorem c_add0_g (l : Launch) (X : Cx) (w : Wo) (a v ea : Nat) (md : Int32) (g0 : Nat → Option Nat) (ho : w a = some (.inr (14, [.int md, .ref ea, .int (iI 10)]))) (hea : w ea = some (aR X 5 10 g0)) (hel : ∀ i y, i < 10 → g0 i = some y → elO X w y) (hv : elO X w v) : CM l X yJx4a65c_add_72be8 cJx4a65c_add_72be8 4 none (rmG 5 1 21 131) [.ref a, .ref v, .ref ea, .int (iI 10)] w none (fun w' => ∃ (q9 : Nat), w' a = some (.inr (14, [.int md, .ref q9, .int (iI 11)])) ∧ w' q9 = some (aR X 5 15 (va_up (va_cpy g0 (fun _ => none) 0 0 10) 10 (some v))) ∧ (frs w q9) ∧ ∀ (q : Nat) (e : va_E), w q = some e → q ≠ a → w' q = some e) := by
  refine CM.of (lv := [(0, .ref a), (1, .ref v), (2, .ref ea), (3, .int (iI 10))]) (by decide) (Nat.le_of_ble_eq_true rfl) rfl (fun p e s m below meth c ls F hr hlk hin hW hS hl => ?_)
  have hZ0 := hW.2.2
  have hB9 := hW.1.2
  clear hin
  have hva := hv.ne ho
  have hae : a ≠ ea := fun e9 => by rw [e9, hea] at ho; cases ho
  refine lv_iload_n F.1 F.2.1 dJx4a65c_add_72be8_0 rfl (lv_at hl 3 rfl) ?_
  refine lv_aload_n F.1 F.2.1 dJx4a65c_add_72be8_1 rfl (lv_at hl 2 rfl) ?_
  refine h_alen (k := 5) (n := 10) F hW rfl hea dJx4a65c_add_72be8_2 ?_
  refine h_top (show (((10 : Nat) : Int) : Int) = 10 from rfl) ?_
  refine h_icne (tgt := 11) F dJx4a65c_add_72be8_3 (by decide) (by decide) (fun c9 => absurd c9 (by decide)) (fun _ => ?_)
  refine lv_aload_n F.1 F.2.1 dJx4a65c_add_72be8_6 rfl (lv_at hl 0 rfl) ?_
  refine cr_RJx4a65c_129 (As := []) (rest := []) F hl (c_grw_g l X w a ea md g0 ho hea hel) hW hS ho rfl rfl ⟨Nat.le_of_ble_eq_true rfl, Nat.le_of_ble_eq_true rfl⟩ (Nat.le_of_ble_eq_true rfl) ⟨(by show 0 + 1 ≤ 1; omega), (by show 0 + 21 ≤ 21; omega)⟩ dJx4a65c_add_72be8_7 (fun v4 w2 H locs hp3 hW hS => ?_)
  obtain ⟨q9, rfl, hfr5, ho6, ha7, hx8⟩ := hp3
  have hb9 := hfr5 _ _ ho
  have hb10 := hfr5 _ _ hea
  have hea := hx8 _ _ hea (by omega)
  refine lv_astore_n (lv' := [(2, .ref q9), (0, .ref a), (1, .ref v), (3, .int (iI 10))]) F.1 F.2.1 dJx4a65c_add_72be8_10 rfl hl (by decide) rfl (fun ls hl => ?_)
  refine lv_aload_n F.1 F.2.1 dJx4a65c_add_72be8_11 rfl (lv_at hl 0 rfl) ?_
  refine lv_iload_n F.1 F.2.1 dJx4a65c_add_72be8_12 rfl (lv_at hl 3 rfl) ?_
  refine lv_aload_n F.1 F.2.1 dJx4a65c_add_72be8_13 rfl (lv_at hl 2 rfl) ?_
  refine h_aastM F hW hS hZ0 hB9 ha7 ((hv.k (fun e h9 => by have z9_0 := hfr5 _ e h9; have h9 := hx8 _ e h9 (by omega); exact h9)).any hW) (by omega) (by omega) dJx4a65c_add_72be8_14 (fun w11 H locs ha13 hn12 hW hS => ?_)
  have ho6 := (hn12 _ (by omega)).trans ho6
  have hea := (hn12 _ (by omega)).trans hea
  refine lv_aload_n F.1 F.2.1 dJx4a65c_add_72be8_15 rfl (lv_at hl 1 rfl) ?_
  refine lv_iload_n F.1 F.2.1 dJx4a65c_add_72be8_16 rfl (lv_at hl 3 rfl) ?_
  refine h_iconst F dJx4a65c_add_72be8_17 ?_
  refine h_iadd (a := 10) (b := 1) F dJx4a65c_add_72be8_18 ?_
  refine h_top (show (10 + 1 : Int) = 11 from rfl) ?_
  refine pf_RJx4a65c_48 F hW hS hZ0 hB9 ho6 (Nat.le_of_ble_eq_true rfl) dJx4a65c_add_72be8_19 (fun w14 H locs ho16 hn15 hW hS => ?_)
  have ho16 : w14 a = some (.inr (14, [.int md, .ref q9, .int (iI 11)])) := ho16
  have hea := (hn15 _ (by omega)).trans hea
  have ha13 := (hn15 _ (by omega)).trans ha13
  refine W.wd (mc := 1) (ms := 21) (by omega) (by omega) ?_
  have hX9 : ∀ (q : Nat) (e : va_E), w q = some e → q ≠ a → w14 q = some e := fun q e h9 h09 => by
    have z9_17 := hfr5 q e h9
    have h9 := hx8 q e h9 (by omega)
    have h9 := (hn12 q (by omega)).trans h9
    have h9 := (hn15 q (by omega)).trans h9
    exact h9
  exact h_vret F hr hlk hW hS ⟨_, ho16, (by (rw [ha13]) <;> (rfl)), hfr5, hX9⟩ dJx4a65c_add_72be8_22
set_option maxHeartbeats 4000000 in
set_option maxRecDepth 100000 in
theorem c_lad_r (l : Launch) (X : Cx) (w : Wo) (a v ea : Nat) (md : Int32) (n : Int) (cp : Nat) (g0 : Nat → Option Nat) (ho : w a = some (.inr (14, [.int md, .ref ea, .int (iI n)]))) (hea : w ea = some (aR X 5 cp g0)) (hi9 : 0 ≤ n ∧ n < (cp : Int) ∧ cp < 1000) (hv : elO X w v) : CM l X yJx4a65c_add_9ea2d cJx4a65c_add_9ea2d 2 (some (.boolean)) (rmG 6 1 21 154) [.ref a, .ref v] w (some (.int (iI (bz true)))) (fun w' => w' a = some (.inr (14, [.int (md + iI 1), .ref ea, .int (iI (n + 1))])) ∧ w' ea = some (aR X 5 cp (va_up g0 n.toNat (some v))) ∧ ∀ q : Nat, q ≠ a → q ≠ ea → w' q = w q) := by
  refine CM.of (lv := [(0, .ref a), (1, .ref v)]) (by decide) (Nat.le_of_ble_eq_true rfl) rfl (fun p e s m below meth c ls F hr hlk hin hW hS hl => ?_)
  have hZ0 := hW.2.2
  have hB9 := hW.1.2
  clear hin
  have hae : a ≠ ea := fun e9 => by rw [e9, hea] at ho; cases ho
  have hva := hv.ne ho
  refine lv_aload_n F.1 F.2.1 dJx4a65c_add_9ea2d_0 rfl (lv_at hl 0 rfl) ?_
  refine lv_dup F.1 F.2.1 dJx4a65c_add_9ea2d_1 rfl ?_
  refine gf_RJx4a65c_63 F hW ho rfl dJx4a65c_add_9ea2d_2 ?_
  refine h_iconst F dJx4a65c_add_9ea2d_5 ?_
  refine lv_iadd F.1 F.2.1 dJx4a65c_add_9ea2d_6 ?_
  refine pf_RJx4a65c_63 F hW hS hZ0 hB9 ho (Nat.le_of_ble_eq_true rfl) dJx4a65c_add_9ea2d_7 (fun w1 H locs ho3 hn2 hW hS => ?_)
  have ho3 : w1 a = some (.inr (14, [.int (md + iI 1), .ref ea, .int (iI n)])) := ho3
  have hea := (hn2 _ (by omega)).trans hea
  refine lv_aload_n F.1 F.2.1 dJx4a65c_add_9ea2d_10 rfl (lv_at hl 0 rfl) ?_
  refine lv_aload_n F.1 F.2.1 dJx4a65c_add_9ea2d_11 rfl (lv_at hl 1 rfl) ?_
  refine lv_aload_n F.1 F.2.1 dJx4a65c_add_9ea2d_12 rfl (lv_at hl 0 rfl) ?_
  refine gf_RJx4a65c_9 F hW ho3 rfl dJx4a65c_add_9ea2d_13 ?_
  refine lv_aload_n F.1 F.2.1 dJx4a65c_add_9ea2d_16 rfl (lv_at hl 0 rfl) ?_
  refine gf_RJx4a65c_48 F hW ho3 rfl dJx4a65c_add_9ea2d_17 ?_
  refine cl_RJx4a65c_131 (As := [.ref v, .ref ea, .int (iI n)]) (rest := []) F hl (c_add0_r l X w1 a v ea (md + iI 1) n cp g0 ho3 hea (by omega) (hv.k (fun e h9 => by have h9 := (hn2 v (by omega)).trans h9; exact h9))) hW hS ho3 rfl rfl ⟨Nat.le_of_ble_eq_true rfl, Nat.le_of_ble_eq_true rfl⟩ (Nat.le_of_ble_eq_true rfl) ⟨(by show 0 + 0 ≤ 1; omega), (by show 0 + 0 ≤ 21; omega)⟩ dJx4a65c_add_9ea2d_20 (fun w4 H locs hp5 hW hS => ?_)
  obtain ⟨ho6, ha7, hn8⟩ := hp5
  refine h_iconst F dJx4a65c_add_9ea2d_23 ?_
  refine W.wd (mc := 1) (ms := 21) (by omega) (by omega) ?_
  refine h_top (show (1 : Int) = bz true from rfl) ?_
  exact h_iretz F hr hlk hW hS ⟨ho6, ha7, (fun q h09 h19 => by rw [hn8 q (by omega) (by omega), hn2 q (by omega)])⟩ dJx4a65c_add_9ea2d_24
set_option maxHeartbeats 4000000 in
set_option maxRecDepth 100000 in
theorem c_lad_f (l : Launch) (X : Cx) (w : Wo) (a v : Nat) (md : Int32) (ho : w a = some (.inr (14, [.int md, .ref (X.2.2 3), .int (iI 0)]))) (hv : elO X w v) : CM l X yJx4a65c_add_9ea2d cJx4a65c_add_9ea2d 2 (some (.boolean)) (rmG 6 1 21 154) [.ref a, .ref v] w (some (.int (iI (bz true)))) (fun w' => ∃ (q9 : Nat), w' a = some (.inr (14, [.int (md + iI 1), .ref q9, .int (iI 1)])) ∧ w' q9 = some (aR X 5 10 (va_up (fun _ => none) 0 (some v))) ∧ (frs w q9) ∧ ∀ (q : Nat) (e : va_E), w q = some e → q ≠ a → w' q = some e) := by
  refine CM.of (lv := [(0, .ref a), (1, .ref v)]) (by decide) (Nat.le_of_ble_eq_true rfl) rfl (fun p e s m below meth c ls F hr hlk hin hW hS hl => ?_)
  have hZ0 := hW.2.2
  have hB9 := hW.1.2
  clear hin
  have hva := hv.ne ho
  refine lv_aload_n F.1 F.2.1 dJx4a65c_add_9ea2d_0 rfl (lv_at hl 0 rfl) ?_
  refine lv_dup F.1 F.2.1 dJx4a65c_add_9ea2d_1 rfl ?_
  refine gf_RJx4a65c_63 F hW ho rfl dJx4a65c_add_9ea2d_2 ?_
  refine h_iconst F dJx4a65c_add_9ea2d_5 ?_
  refine lv_iadd F.1 F.2.1 dJx4a65c_add_9ea2d_6 ?_
  refine pf_RJx4a65c_63 F hW hS hZ0 hB9 ho (Nat.le_of_ble_eq_true rfl) dJx4a65c_add_9ea2d_7 (fun w1 H locs ho3 hn2 hW hS => ?_)
  have ho3 : w1 a = some (.inr (14, [.int (md + iI 1), .ref (X.2.2 3), .int (iI 0)])) := ho3
  have ho7 := ho3
  have hn7 := hn2
  refine lv_aload_n F.1 F.2.1 dJx4a65c_add_9ea2d_10 rfl (lv_at hl 0 rfl) ?_
  refine lv_aload_n F.1 F.2.1 dJx4a65c_add_9ea2d_11 rfl (lv_at hl 1 rfl) ?_
  refine lv_aload_n F.1 F.2.1 dJx4a65c_add_9ea2d_12 rfl (lv_at hl 0 rfl) ?_
  refine gf_RJx4a65c_9 F hW ho3 rfl dJx4a65c_add_9ea2d_13 ?_
  refine lv_aload_n F.1 F.2.1 dJx4a65c_add_9ea2d_16 rfl (lv_at hl 0 rfl) ?_
  refine gf_RJx4a65c_48 F hW ho3 rfl dJx4a65c_add_9ea2d_17 ?_
  refine cl_RJx4a65c_131 (As := [.ref v, .ref (X.2.2 3), .int (iI 0)]) (rest := []) F hl (c_add0_f l X w1 a v (md + iI 1) ho3 (hv.k (fun e h9 => by have h9 := (hn2 v (by omega)).trans h9; exact h9))) hW hS ho3 rfl rfl ⟨Nat.le_of_ble_eq_true rfl, Nat.le_of_ble_eq_true rfl⟩ (Nat.le_of_ble_eq_true rfl) ⟨(by show 0 + 1 ≤ 1; omega), (by show 0 + 21 ≤ 21; omega)⟩ dJx4a65c_add_9ea2d_20 (fun w4 H locs hp5 hW hS => ?_)
  obtain ⟨q9, ho6, ha7, hfr20, hx8⟩ := hp5
  refine h_iconst F dJx4a65c_add_9ea2d_23 ?_
  refine W.wd (mc := 1) (ms := 21) (by omega) (by omega) ?_
  have hX9 : ∀ (q : Nat) (e : va_E), w q = some e → q ≠ a → w4 q = some e := fun q e h9 h09 => by
    have h9 := (hn2 q (by omega)).trans h9
    have h9 := hx8 q e h9 (by omega)
    exact h9
  refine h_top (show (1 : Int) = bz true from by first | rfl | omega) ?_
  exact h_iretz F hr hlk hW hS ⟨_, ho6, ha7, (frp hfr20 hn7 ho7), hX9⟩ dJx4a65c_add_9ea2d_24
set_option maxHeartbeats 4000000 in
set_option maxRecDepth 100000 in
theorem c_lad_g (l : Launch) (X : Cx) (w : Wo) (a v ea : Nat) (md : Int32) (g0 : Nat → Option Nat) (ho : w a = some (.inr (14, [.int md, .ref ea, .int (iI 10)]))) (hea : w ea = some (aR X 5 10 g0)) (hel : ∀ i y, i < 10 → g0 i = some y → elO X w y) (hv : elO X w v) : CM l X yJx4a65c_add_9ea2d cJx4a65c_add_9ea2d 2 (some (.boolean)) (rmG 6 1 21 154) [.ref a, .ref v] w (some (.int (iI (bz true)))) (fun w' => ∃ (q9 : Nat), w' a = some (.inr (14, [.int (md + iI 1), .ref q9, .int (iI 11)])) ∧ w' q9 = some (aR X 5 15 (va_up (va_cpy g0 (fun _ => none) 0 0 10) 10 (some v))) ∧ (frs w q9) ∧ ∀ (q : Nat) (e : va_E), w q = some e → q ≠ a → w' q = some e) := by
  refine CM.of (lv := [(0, .ref a), (1, .ref v)]) (by decide) (Nat.le_of_ble_eq_true rfl) rfl (fun p e s m below meth c ls F hr hlk hin hW hS hl => ?_)
  have hZ0 := hW.2.2
  have hB9 := hW.1.2
  clear hin
  have ho0 := ho
  have hva := hv.ne ho
  have hae : a ≠ ea := fun e9 => by rw [e9, hea] at ho; cases ho
  refine lv_aload_n F.1 F.2.1 dJx4a65c_add_9ea2d_0 rfl (lv_at hl 0 rfl) ?_
  refine lv_dup F.1 F.2.1 dJx4a65c_add_9ea2d_1 rfl ?_
  refine gf_RJx4a65c_63 F hW ho rfl dJx4a65c_add_9ea2d_2 ?_
  refine h_iconst F dJx4a65c_add_9ea2d_5 ?_
  refine lv_iadd F.1 F.2.1 dJx4a65c_add_9ea2d_6 ?_
  refine pf_RJx4a65c_63 F hW hS hZ0 hB9 ho (Nat.le_of_ble_eq_true rfl) dJx4a65c_add_9ea2d_7 (fun w1 H locs ho3 hn2 hW hS => ?_)
  have ho3 : w1 a = some (.inr (14, [.int (md + iI 1), .ref ea, .int (iI 10)])) := ho3
  have hea := (hn2 _ (by omega)).trans hea
  have ho7 := ho3
  have hn7 := hn2
  refine lv_aload_n F.1 F.2.1 dJx4a65c_add_9ea2d_10 rfl (lv_at hl 0 rfl) ?_
  refine lv_aload_n F.1 F.2.1 dJx4a65c_add_9ea2d_11 rfl (lv_at hl 1 rfl) ?_
  refine lv_aload_n F.1 F.2.1 dJx4a65c_add_9ea2d_12 rfl (lv_at hl 0 rfl) ?_
  refine gf_RJx4a65c_9 F hW ho3 rfl dJx4a65c_add_9ea2d_13 ?_
  refine lv_aload_n F.1 F.2.1 dJx4a65c_add_9ea2d_16 rfl (lv_at hl 0 rfl) ?_
  refine gf_RJx4a65c_48 F hW ho3 rfl dJx4a65c_add_9ea2d_17 ?_
  refine cl_RJx4a65c_131 (As := [.ref v, .ref ea, .int (iI 10)]) (rest := []) F hl (c_add0_g l X w1 a v ea (md + iI 1) g0 ho3 hea (fun i y hi hy => (hel i y hi hy).k (fun e h9 => (hn7 y ((hel i y hi hy).ne ho0)).trans h9)) (hv.k (fun e h9 => by have h9 := (hn2 v (by omega)).trans h9; exact h9))) hW hS ho3 rfl rfl ⟨Nat.le_of_ble_eq_true rfl, Nat.le_of_ble_eq_true rfl⟩ (Nat.le_of_ble_eq_true rfl) ⟨(by show 0 + 1 ≤ 1; omega), (by show 0 + 21 ≤ 21; omega)⟩ dJx4a65c_add_9ea2d_20 (fun w4 H locs hp5 hW hS => ?_)
  obtain ⟨q9, ho6, ha7, hfr20, hx8⟩ := hp5
  have hea := hx8 _ _ hea (by omega)
  refine h_iconst F dJx4a65c_add_9ea2d_23 ?_
  refine W.wd (mc := 1) (ms := 21) (by omega) (by omega) ?_
  have hX9 : ∀ (q : Nat) (e : va_E), w q = some e → q ≠ a → w4 q = some e := fun q e h9 h09 => by
    have h9 := (hn2 q (by omega)).trans h9
    have h9 := hx8 q e h9 (by omega)
    exact h9
  refine h_top (show (1 : Int) = bz true from by first | rfl | omega) ?_
  exact h_iretz F hr hlk hW hS ⟨_, ho6, ha7, (frp hfr20 hn7 ho7), hX9⟩ dJx4a65c_add_9ea2d_24
set_option maxHeartbeats 4000000 in
set_option maxRecDepth 100000 in
theorem c_Jx4a65c_set_bcc79 (l : Launch) (X : Cx) (w : Wo) (a v ea : Nat) (md : Int32) (n : Int) (cp : Nat) (g0 : Nat → Option Nat) (i : Int) (x : Nat) (ho : w a = some (.inr (14, [.int md, .ref ea, .int (iI n)]))) (hea : w ea = some (aR X 5 cp g0)) (hi9 : 0 ≤ i ∧ i < n ∧ n ≤ (cp : Int) ∧ cp < 1000) (hg : g0 i.toNat = some x) (hv : elO X w v) : CM l X yJx4a65c_set_bcc79 cJx4a65c_set_bcc79 4 (some (.object "java/lang/Object")) (rmG 2 0 0 43) [.ref a, .int (iI i), .ref v] w (some (.ref x)) (fun w' => w' ea = some (aR X 5 cp (va_up g0 i.toNat (some v))) ∧ ∀ q : Nat, q ≠ ea → w' q = w q) := by
  refine CM.of (lv := [(0, .ref a), (1, .int (iI i)), (2, .ref v)]) (by decide) (Nat.le_of_ble_eq_true rfl) rfl (fun p e s m below meth c ls F hr hlk hin hW hS hl => ?_)
  have hZ0 := hW.2.2
  have hB9 := hW.1.2
  clear hin
  have hae : a ≠ ea := fun e9 => by rw [e9, hea] at ho; cases ho
  refine lv_iload_n F.1 F.2.1 dJx4a65c_set_bcc79_0 rfl (lv_at hl 1 rfl) ?_
  refine lv_aload_n F.1 F.2.1 dJx4a65c_set_bcc79_1 rfl (lv_at hl 0 rfl) ?_
  refine gf_RJx4a65c_48 F hW ho rfl dJx4a65c_set_bcc79_2 ?_
  refine cl_RJx4a65c_118 (As := [.int (iI i), .int (iI n)]) (rest := []) F hl (c_J15_checkIndex_7cf53 l X w i n (by omega)) hW hS rfl rfl ⟨Nat.le_of_ble_eq_true rfl, Nat.le_of_ble_eq_true rfl⟩ (Nat.le_of_ble_eq_true rfl) ⟨(by show 0 + 0 ≤ 0; omega), (by show 0 + 0 ≤ 0; omega)⟩ dJx4a65c_set_bcc79_5 (fun w1 H locs hp1 hW hS => ?_)
  rw [hp1] at hW; clear hp1; clear w1
  refine lv_pop F.1 F.2.1 dJx4a65c_set_bcc79_8 rfl ?_
  refine lv_aload_n F.1 F.2.1 dJx4a65c_set_bcc79_9 rfl (lv_at hl 0 rfl) ?_
  refine lv_iload_n F.1 F.2.1 dJx4a65c_set_bcc79_10 rfl (lv_at hl 1 rfl) ?_
  refine cl_RJx4a65c_123 (As := [.int (iI i)]) (rest := []) F hl (c_Jx4a65c_elementData_915e3 l X w a md ea n cp g0 i x ho hea (by omega) hg) hW hS ho rfl rfl ⟨Nat.le_of_ble_eq_true rfl, Nat.le_of_ble_eq_true rfl⟩ (Nat.le_of_ble_eq_true rfl) ⟨(by show 0 + 0 + 0 ≤ 0; omega), (by show 0 + 0 + 0 ≤ 0; omega)⟩ dJx4a65c_set_bcc79_11 (fun w1 H locs hp2 hW hS => ?_)
  rw [hp2] at hW; clear hp2; clear w1
  refine lv_astore_n (lv' := [(3, .ref x), (0, .ref a), (1, .int (iI i)), (2, .ref v)]) F.1 F.2.1 dJx4a65c_set_bcc79_14 rfl hl (by decide) rfl (fun ls hl => ?_)
  refine lv_aload_n F.1 F.2.1 dJx4a65c_set_bcc79_15 rfl (lv_at hl 1 rfl) ?_
  refine gf_RJx4a65c_9 F hW ho rfl dJx4a65c_set_bcc79_16 ?_
  refine lv_iload_n F.1 F.2.1 dJx4a65c_set_bcc79_19 rfl (lv_at hl 2 rfl) ?_
  refine lv_aload_n F.1 F.2.1 dJx4a65c_set_bcc79_20 rfl (lv_at hl 3 rfl) ?_
  refine h_aastM F hW hS hZ0 hB9 hea (hv.any hW) (by omega) (by omega) dJx4a65c_set_bcc79_21 (fun w3 H locs ha5 hn4 hW hS => ?_)
  have ho := (hn4 _ (by omega)).trans ho
  refine lv_aload_n F.1 F.2.1 dJx4a65c_set_bcc79_22 rfl (lv_at hl 0 rfl) ?_
  exact h_aret F hr hlk hW hS ⟨(by (rw [ha5]) <;> (rfl)), (fun q h09 => by rw [hn4 q (by omega)])⟩ dJx4a65c_set_bcc79_23
set_option maxHeartbeats 4000000 in
set_option maxRecDepth 100000 in
theorem c_Jx4a65c_fastRemove_b59b0 (l : Launch) (X : Cx) (w : Wo) (a ea : Nat) (md : Int32) (n : Int) (cp : Nat) (g0 : Nat → Option Nat) (i : Int) (ho : w a = some (.inr (14, [.int md, .ref ea, .int (iI n)]))) (hea : w ea = some (aR X 5 cp g0)) (hi9 : 0 ≤ i ∧ i < n ∧ n ≤ (cp : Int) ∧ cp < 1000) (hel : ∀ (i y : Nat), (i : Int) < n → g0 i = some y → elO X w y) : CM l X yJx4a65c_fastRemove_b59b0 cJx4a65c_fastRemove_b59b0 4 none (rmG 1 0 0 44) [.ref a, .ref ea, .int (iI i)] w none (fun w' => ∃ (g9 : Nat → Option Nat), w' a = some (.inr (14, [.int (md + iI 1), .ref ea, .int (iI (n - 1))])) ∧ w' ea = some (aR X 5 cp g9) ∧ (∀ j : Int, 0 ≤ j → j < n - 1 → g9 j.toNat = if j < i then g0 j.toNat else g0 (j + 1).toNat) ∧ ∀ (q : Nat) (e : va_E), w q = some e → q ≠ a → q ≠ ea → w' q = some e) := by
  refine CM.of (lv := [(0, .ref a), (1, .ref ea), (2, .int (iI i))]) (by decide) (Nat.le_of_ble_eq_true rfl) rfl (fun p e s m below meth c ls F hr hlk hin hW hS hl => ?_)
  have hZ0 := hW.2.2
  have hB9 := hW.1.2
  clear hin
  have ho0 := ho
  have hae : a ≠ ea := fun e9 => by rw [e9, hea] at ho; cases ho
  refine lv_aload_n F.1 F.2.1 dJx4a65c_fastRemove_b59b0_0 rfl (lv_at hl 0 rfl) ?_
  refine lv_dup F.1 F.2.1 dJx4a65c_fastRemove_b59b0_1 rfl ?_
  refine gf_RJx4a65c_63 F hW ho rfl dJx4a65c_fastRemove_b59b0_2 ?_
  refine h_iconst F dJx4a65c_fastRemove_b59b0_5 ?_
  refine lv_iadd F.1 F.2.1 dJx4a65c_fastRemove_b59b0_6 ?_
  refine pf_RJx4a65c_63 F hW hS hZ0 hB9 ho (Nat.le_of_ble_eq_true rfl) dJx4a65c_fastRemove_b59b0_7 (fun w1 H locs ho3 hn2 hW hS => ?_)
  have ho3 : w1 a = some (.inr (14, [.int (md + iI 1), .ref ea, .int (iI n)])) := ho3
  have hea := (hn2 _ (by omega)).trans hea
  refine lv_aload_n F.1 F.2.1 dJx4a65c_fastRemove_b59b0_10 rfl (lv_at hl 0 rfl) ?_
  refine gf_RJx4a65c_48 F hW ho3 rfl dJx4a65c_fastRemove_b59b0_11 ?_
  refine h_iconst F dJx4a65c_fastRemove_b59b0_14 ?_
  refine h_isub (a := n) (b := 1) F dJx4a65c_fastRemove_b59b0_15 ?_
  refine lv_dup F.1 F.2.1 dJx4a65c_fastRemove_b59b0_16 rfl ?_
  refine lv_istore_n (lv' := [(3, .int (iI (n - 1))), (0, .ref a), (1, .ref ea), (2, .int (iI i))]) F.1 F.2.1 dJx4a65c_fastRemove_b59b0_17 rfl hl (by decide) rfl (fun ls hl => ?_)
  refine lv_iload_n F.1 F.2.1 dJx4a65c_fastRemove_b59b0_18 rfl (lv_at hl 3 rfl) ?_
  refine h_icle (tgt := 34) F dJx4a65c_fastRemove_b59b0_19 (by decide) (by omega) (fun c4 => ?_) (fun c4 => ?_)
  · refine lv_aload_n F.1 F.2.1 dJx4a65c_fastRemove_b59b0_34 rfl (lv_at hl 2 rfl) ?_
    refine lv_aload_n F.1 F.2.1 dJx4a65c_fastRemove_b59b0_35 rfl (lv_at hl 1 rfl) ?_
    refine lv_iload_n F.1 F.2.1 dJx4a65c_fastRemove_b59b0_36 rfl (lv_at hl 0 rfl) ?_
    refine lv_dup_x1 F.1 F.2.1 dJx4a65c_fastRemove_b59b0_37 rfl rfl ?_
    refine pf_RJx4a65c_48 F hW hS hZ0 hB9 ho3 (Nat.le_of_ble_eq_true rfl) dJx4a65c_fastRemove_b59b0_38 (fun w5 H locs ho7 hn6 hW hS => ?_)
    have ho7 : w5 a = some (.inr (14, [.int (md + iI 1), .ref ea, .int (iI (n - 1))])) := ho7
    have hea := (hn6 _ (by omega)).trans hea
    refine lv_null F.1 F.2.1 dJx4a65c_fastRemove_b59b0_41 ?_
    refine h_aastN F hW hS hZ0 hB9 hea (by omega) (by omega) dJx4a65c_fastRemove_b59b0_42 (fun w8 H locs ha10 hn9 hW hS => ?_)
    have ho7 := (hn9 _ (by omega)).trans ho7
    refine W.wd (mc := 0) (ms := 0) (by omega) (by omega) ?_
    have hX9 : ∀ (q : Nat) (e : va_E), w q = some e → q ≠ a → q ≠ ea → w8 q = some e := fun q e h9 h09 h19 => by
      have h9 := (hn2 q (by omega)).trans h9
      have h9 := (hn6 q (by omega)).trans h9
      have h9 := (hn9 q (by omega)).trans h9
      exact h9
    exact h_vret F hr hlk hW hS ⟨_, ho7, (by (rw [ha10]) <;> (rfl)), (by first | exact rm_0 (by omega) | exact rm_c (by omega)), hX9⟩ dJx4a65c_fastRemove_b59b0_43
  · refine lv_aload_n F.1 F.2.1 dJx4a65c_fastRemove_b59b0_22 rfl (lv_at hl 2 rfl) ?_
    refine lv_iload_n F.1 F.2.1 dJx4a65c_fastRemove_b59b0_23 rfl (lv_at hl 3 rfl) ?_
    refine h_iconst F dJx4a65c_fastRemove_b59b0_24 ?_
    refine h_iadd (a := i) (b := 1) F dJx4a65c_fastRemove_b59b0_25 ?_
    refine lv_aload_n F.1 F.2.1 dJx4a65c_fastRemove_b59b0_26 rfl (lv_at hl 2 rfl) ?_
    refine lv_iload_n F.1 F.2.1 dJx4a65c_fastRemove_b59b0_27 rfl (lv_at hl 3 rfl) ?_
    refine lv_iload_n F.1 F.2.1 dJx4a65c_fastRemove_b59b0_28 rfl (lv_at hl 0 rfl) ?_
    refine lv_iload_n F.1 F.2.1 dJx4a65c_fastRemove_b59b0_29 rfl (lv_at hl 3 rfl) ?_
    refine h_isub (a := n - 1) (b := i) F dJx4a65c_fastRemove_b59b0_30 ?_
    refine h_copyM2 (index := 112) F hl hW hZ0 hB9 hS km_RJx4a65c_112 hea hea (by omega) (fun i9 hi y hy => ((hel _ y (by omega) hy).k (fun e h9 => (hn2 y ((hel _ y (by omega) hy).ne ho0)).trans h9)).any hW) (Nat.le_of_ble_eq_true rfl) (Nat.le_of_ble_eq_true rfl) dJx4a65c_fastRemove_b59b0_31 (fun w11 H locs ha13 hn12 hW hS => ?_)
    have ho3 := (hn12 _ (by omega)).trans ho3
    refine lv_aload_n F.1 F.2.1 dJx4a65c_fastRemove_b59b0_34 rfl (lv_at hl 2 rfl) ?_
    refine lv_aload_n F.1 F.2.1 dJx4a65c_fastRemove_b59b0_35 rfl (lv_at hl 1 rfl) ?_
    refine lv_iload_n F.1 F.2.1 dJx4a65c_fastRemove_b59b0_36 rfl (lv_at hl 0 rfl) ?_
    refine lv_dup_x1 F.1 F.2.1 dJx4a65c_fastRemove_b59b0_37 rfl rfl ?_
    refine pf_RJx4a65c_48 F hW hS hZ0 hB9 ho3 (Nat.le_of_ble_eq_true rfl) dJx4a65c_fastRemove_b59b0_38 (fun w14 H locs ho16 hn15 hW hS => ?_)
    have ho16 : w14 a = some (.inr (14, [.int (md + iI 1), .ref ea, .int (iI (n - 1))])) := ho16
    have ha13 := (hn15 _ (by omega)).trans ha13
    refine lv_null F.1 F.2.1 dJx4a65c_fastRemove_b59b0_41 ?_
    refine h_aastN F hW hS hZ0 hB9 ha13 (by omega) (by omega) dJx4a65c_fastRemove_b59b0_42 (fun w17 H locs ha19 hn18 hW hS => ?_)
    have ho16 := (hn18 _ (by omega)).trans ho16
    refine W.wd (mc := 0) (ms := 0) (by omega) (by omega) ?_
    have hX9 : ∀ (q : Nat) (e : va_E), w q = some e → q ≠ a → q ≠ ea → w17 q = some e := fun q e h9 h09 h19 => by
      have h9 := (hn2 q (by omega)).trans h9
      have h9 := (hn12 q (by omega)).trans h9
      have h9 := (hn15 q (by omega)).trans h9
      have h9 := (hn18 q (by omega)).trans h9
      exact h9
    exact h_vret F hr hlk hW hS ⟨_, ho16, (by (rw [ha19]) <;> (rfl)), (by first | exact rm_0 (by omega) | exact rm_c (by omega)), hX9⟩ dJx4a65c_fastRemove_b59b0_43
set_option maxHeartbeats 4000000 in
set_option maxRecDepth 100000 in
theorem c_Jx4a65c_remove_915e3 (l : Launch) (X : Cx) (w : Wo) (a ea : Nat) (md : Int32) (n : Int) (cp : Nat) (g0 : Nat → Option Nat) (i : Int) (x : Nat) (ho : w a = some (.inr (14, [.int md, .ref ea, .int (iI n)]))) (hea : w ea = some (aR X 5 cp g0)) (hi9 : 0 ≤ i ∧ i < n ∧ n ≤ (cp : Int) ∧ cp < 1000) (hg : g0 i.toNat = some x) (hel : ∀ (i y : Nat), (i : Int) < n → g0 i = some y → elO X w y) : CM l X yJx4a65c_remove_915e3 cJx4a65c_remove_915e3 4 (some (.object "java/lang/Object")) (rmG 2 0 0 67) [.ref a, .int (iI i)] w (some (.ref x)) (fun w' => ∃ (g9 : Nat → Option Nat), w' a = some (.inr (14, [.int (md + iI 1), .ref ea, .int (iI (n - 1))])) ∧ w' ea = some (aR X 5 cp g9) ∧ (∀ j : Int, 0 ≤ j → j < n - 1 → g9 j.toNat = if j < i then g0 j.toNat else g0 (j + 1).toNat) ∧ ∀ (q : Nat) (e : va_E), w q = some e → q ≠ a → q ≠ ea → w' q = some e) := by
  refine CM.of (lv := [(0, .ref a), (1, .int (iI i))]) (by decide) (Nat.le_of_ble_eq_true rfl) rfl (fun p e s m below meth c ls F hr hlk hin hW hS hl => ?_)
  have hZ0 := hW.2.2
  have hB9 := hW.1.2
  clear hin
  have hae : a ≠ ea := fun e9 => by rw [e9, hea] at ho; cases ho
  refine lv_iload_n F.1 F.2.1 dJx4a65c_remove_915e3_0 rfl (lv_at hl 1 rfl) ?_
  refine lv_aload_n F.1 F.2.1 dJx4a65c_remove_915e3_1 rfl (lv_at hl 0 rfl) ?_
  refine gf_RJx4a65c_48 F hW ho rfl dJx4a65c_remove_915e3_2 ?_
  refine cl_RJx4a65c_118 (As := [.int (iI i), .int (iI n)]) (rest := []) F hl (c_J15_checkIndex_7cf53 l X w i n (by omega)) hW hS rfl rfl ⟨Nat.le_of_ble_eq_true rfl, Nat.le_of_ble_eq_true rfl⟩ (Nat.le_of_ble_eq_true rfl) ⟨(by show 0 + 0 ≤ 0; omega), (by show 0 + 0 ≤ 0; omega)⟩ dJx4a65c_remove_915e3_5 (fun w1 H locs hp1 hW hS => ?_)
  rw [hp1] at hW; clear hp1; clear w1
  refine lv_pop F.1 F.2.1 dJx4a65c_remove_915e3_8 rfl ?_
  refine lv_aload_n F.1 F.2.1 dJx4a65c_remove_915e3_9 rfl (lv_at hl 0 rfl) ?_
  refine gf_RJx4a65c_9 F hW ho rfl dJx4a65c_remove_915e3_10 ?_
  refine lv_astore_n (lv' := [(2, .ref ea), (0, .ref a), (1, .int (iI i))]) F.1 F.2.1 dJx4a65c_remove_915e3_13 rfl hl (by decide) rfl (fun ls hl => ?_)
  refine lv_aload_n F.1 F.2.1 dJx4a65c_remove_915e3_14 rfl (lv_at hl 0 rfl) ?_
  refine lv_iload_n F.1 F.2.1 dJx4a65c_remove_915e3_15 rfl (lv_at hl 2 rfl) ?_
  refine h_aald (k := 5) F hW rfl hea (by omega) (by omega) hg dJx4a65c_remove_915e3_16 ?_
  refine lv_astore_n (lv' := [(3, .ref x), (2, .ref ea), (0, .ref a), (1, .int (iI i))]) F.1 F.2.1 dJx4a65c_remove_915e3_17 rfl hl (by decide) rfl (fun ls hl => ?_)
  refine lv_aload_n F.1 F.2.1 dJx4a65c_remove_915e3_18 rfl (lv_at hl 2 rfl) ?_
  refine lv_aload_n F.1 F.2.1 dJx4a65c_remove_915e3_19 rfl (lv_at hl 1 rfl) ?_
  refine lv_iload_n F.1 F.2.1 dJx4a65c_remove_915e3_20 rfl (lv_at hl 3 rfl) ?_
  refine cl_RJx4a65c_144 (As := [.ref ea, .int (iI i)]) (rest := []) F hl (c_Jx4a65c_fastRemove_b59b0 l X w a ea md n cp g0 i ho hea (by omega) hel) hW hS ho rfl rfl ⟨Nat.le_of_ble_eq_true rfl, Nat.le_of_ble_eq_true rfl⟩ (Nat.le_of_ble_eq_true rfl) ⟨(by show 0 + 0 + 0 ≤ 0; omega), (by show 0 + 0 + 0 ≤ 0; omega)⟩ dJx4a65c_remove_915e3_21 (fun w2 H locs hp3 hW hS => ?_)
  obtain ⟨g9, ho4, ha5, hrm9, hx6⟩ := hp3
  refine lv_aload_n F.1 F.2.1 dJx4a65c_remove_915e3_24 rfl (lv_at hl 0 rfl) ?_
  refine W.wd (mc := 0) (ms := 0) (by omega) (by omega) ?_
  have hX9 : ∀ (q : Nat) (e : va_E), w q = some e → q ≠ a → q ≠ ea → w2 q = some e := fun q e h9 h09 h19 => by
    have h9 := hx6 q e h9 (by omega) (by omega)
    exact h9
  exact h_aret F hr hlk hW hS ⟨_, ho4, ha5, hrm9, hX9⟩ dJx4a65c_remove_915e3_25
set_option maxHeartbeats 4000000 in
set_option maxRecDepth 100000 in
theorem c_Jxa1e45_init_da8c8 (l : Launch) (X : Cx) (w : Wo) (a : Nat)  : CM l X yJxa1e45_init_da8c8 cJxa1e45_init_da8c8 1 none (rmG 1 0 0 24) [.ref a] w none (fun w' => w' = w) := by
  refine CM.of (lv := [(0, .ref a)]) (by decide) (Nat.le_of_ble_eq_true rfl) rfl (fun p e s m below meth c ls F hr hlk hin hW hS hl => ?_)
  have hZ0 := hW.2.2
  have hB9 := hW.1.2
  skip
  refine lv_aload_n F.1 F.2.1 dJxa1e45_init_da8c8_0 rfl (lv_at hl 0 rfl) ?_
  refine h_obj F hl hoM_RJxa1e45 hoI dJxa1e45_init_da8c8_1 ⟨Nat.le_of_ble_eq_true rfl, Nat.le_of_ble_eq_true rfl⟩ ?_
  exact h_vret F hr hlk hW hS rfl dJxa1e45_init_da8c8_4
set_option maxHeartbeats 4000000 in
set_option maxRecDepth 100000 in
theorem c_Jxc12de_init_da8c8 (l : Launch) (X : Cx) (w : Wo) (a : Nat) (ho : w a = some (.inr (14, [.int (iI 0), .null, .int (iI 0)]))) : CM l X yJxc12de_init_da8c8 cJxc12de_init_da8c8 1 none (rmG 2 0 0 44) [.ref a] w none (fun w' => w' a = some (.inr (14, [.int (iI 0), .null, .int (iI 0)])) ∧ ∀ q : Nat, q ≠ a → w' q = w q) := by
  refine CM.of (lv := [(0, .ref a)]) (by decide) (Nat.le_of_ble_eq_true rfl) rfl (fun p e s m below meth c ls F hr hlk hin hW hS hl => ?_)
  have hZ0 := hW.2.2
  have hB9 := hW.1.2
  skip
  refine lv_aload_n F.1 F.2.1 dJxc12de_init_da8c8_0 rfl (lv_at hl 0 rfl) ?_
  refine cl_RJxc12de_1 (As := []) (rest := []) F hl (c_Jxa1e45_init_da8c8 l X w a ) hW hS rfl rfl ⟨Nat.le_of_ble_eq_true rfl, Nat.le_of_ble_eq_true rfl⟩ (Nat.le_of_ble_eq_true rfl) ⟨(by show 0 + 0 ≤ 0; omega), (by show 0 + 0 ≤ 0; omega)⟩ dJxc12de_init_da8c8_1 (fun w1 H locs hp1 hW hS => ?_)
  rw [hp1] at hW; clear hp1; clear w1
  refine lv_aload_n F.1 F.2.1 dJxc12de_init_da8c8_4 rfl (lv_at hl 0 rfl) ?_
  refine h_iconst F dJxc12de_init_da8c8_5 ?_
  refine pf_RJxc12de_7 F hW hS hZ0 hB9 ho (Nat.le_of_ble_eq_true rfl) dJxc12de_init_da8c8_6 (fun w2 H locs ho4 hn3 hW hS => ?_)
  have ho4 : w2 a = some (.inr (14, [.int (iI 0), .null, .int (iI 0)])) := ho4
  exact h_vret F hr hlk hW hS ⟨ho4, (fun q h09 => by rw [hn3 q (by omega)])⟩ dJxc12de_init_da8c8_9
set_option maxHeartbeats 4000000 in
set_option maxRecDepth 100000 in
theorem c_Jx4a65c_init_da8c8 (l : Launch) (X : Cx) (w : Wo) (a : Nat) (ho : w a = some (.inr (14, [.int (iI 0), .null, .int (iI 0)]))) : CM l X yJx4a65c_init_da8c8 cJx4a65c_init_da8c8 1 none (rmG 3 0 0 64) [.ref a] w none (fun w' => w' a = some (.inr (14, [.int (iI 0), .ref (X.2.2 3), .int (iI 0)])) ∧ ∀ q : Nat, q ≠ a → w' q = w q) := by
  refine CM.of (lv := [(0, .ref a)]) (by decide) (Nat.le_of_ble_eq_true rfl) rfl (fun p e s m below meth c ls F hr hlk hin hW hS hl => ?_)
  have hZ0 := hW.2.2
  have hB9 := hW.1.2
  skip
  refine lv_aload_n F.1 F.2.1 dJx4a65c_init_da8c8_0 rfl (lv_at hl 0 rfl) ?_
  refine cl_RJx4a65c_1 (As := []) (rest := []) F hl (c_Jxc12de_init_da8c8 l X w a ho) hW hS rfl rfl ⟨Nat.le_of_ble_eq_true rfl, Nat.le_of_ble_eq_true rfl⟩ (Nat.le_of_ble_eq_true rfl) ⟨(by show 0 + 0 ≤ 0; omega), (by show 0 + 0 ≤ 0; omega)⟩ dJx4a65c_init_da8c8_1 (fun w1 H locs hp2 hW hS => ?_)
  obtain ⟨ho3, hn4⟩ := hp2
  refine lv_aload_n F.1 F.2.1 dJx4a65c_init_da8c8_4 rfl (lv_at hl 0 rfl) ?_
  refine h_gstat F hZ0.2.2.2.2.2.2.1.1 hS kf_RJx4a65c_39 dJx4a65c_init_da8c8_5 ?_
  refine pf_RJx4a65c_9 F hW hS hZ0 hB9 ho3 (Nat.le_of_ble_eq_true rfl) dJx4a65c_init_da8c8_8 (fun w5 H locs ho7 hn6 hW hS => ?_)
  have ho7 : w5 a = some (.inr (14, [.int (iI 0), .ref (X.2.2 3), .int (iI 0)])) := ho7
  exact h_vret F hr hlk hW hS ⟨ho7, (fun q h09 => by rw [hn6 q (by omega), hn4 q (by omega)])⟩ dJx4a65c_init_da8c8_11
set_option maxHeartbeats 4000000 in
set_option maxRecDepth 100000 in
theorem c_X9_init (l : Launch) (X : Cx) (w : Wo) (z0 wd : Nat) (sd x y co : Int) (hq : w z0 = some (.inr (9, [.null, .int (iI 0), .int (iI 0), .int (iI 0), .int (iI 0)]))) : CM l X yX9_init cX9_init 6 none (rmG 1 0 0 24) [.ref z0, .ref wd, .int (iI sd), .int (iI x), .int (iI y), .int (iI co)] w none (fun w' => w' z0 = some (.inr (9, [.ref wd, .int (iI sd), .int (iI co), .int (iI x), .int (iI y)])) ∧ ∀ q : Nat, q ≠ z0 → w' q = w q) := by
  refine CM.of (lv := [(0, .ref z0), (1, .ref wd), (2, .int (iI sd)), (3, .int (iI x)), (4, .int (iI y)), (5, .int (iI co))]) (by decide) (Nat.le_of_ble_eq_true rfl) rfl (fun p e s m below meth c ls F hr hlk hin hW hS hl => ?_)
  have hZ0 := hW.2.2
  have hB9 := hW.1.2
  skip
  refine lv_aload_n F.1 F.2.1 dX9_init_0 rfl (lv_at hl 0 rfl) ?_
  refine h_obj F hl hoM_RX9 hoI dX9_init_1 ⟨Nat.le_of_ble_eq_true rfl, Nat.le_of_ble_eq_true rfl⟩ ?_
  refine lv_aload_n F.1 F.2.1 dX9_init_4 rfl (lv_at hl 0 rfl) ?_
  refine lv_aload_n F.1 F.2.1 dX9_init_5 rfl (lv_at hl 1 rfl) ?_
  refine pf_RX9_7 F hW hS hq (Nat.le_of_ble_eq_true rfl) hin dX9_init_6 (fun w1 H locs ho3 hn2 hW hS => ?_)
  have ho3 : w1 z0 = some (.inr (9, [.ref wd, .int (iI 0), .int (iI 0), .int (iI 0), .int (iI 0)])) := ho3
  refine lv_aload_n F.1 F.2.1 dX9_init_9 rfl (lv_at hl 0 rfl) ?_
  refine lv_iload_n F.1 F.2.1 dX9_init_10 rfl (lv_at hl 2 rfl) ?_
  refine pf_RX9_13 F hW hS ho3 (Nat.le_of_ble_eq_true rfl) hin dX9_init_11 (fun w4 H locs ho6 hn5 hW hS => ?_)
  have ho6 : w4 z0 = some (.inr (9, [.ref wd, .int (iI sd), .int (iI 0), .int (iI 0), .int (iI 0)])) := ho6
  refine lv_aload_n F.1 F.2.1 dX9_init_14 rfl (lv_at hl 0 rfl) ?_
  refine lv_iload_n F.1 F.2.1 dX9_init_15 rfl (lv_at hl 3 rfl) ?_
  refine pf_RX9_17 F hW hS ho6 (Nat.le_of_ble_eq_true rfl) hin dX9_init_16 (fun w7 H locs ho9 hn8 hW hS => ?_)
  have ho9 : w7 z0 = some (.inr (9, [.ref wd, .int (iI sd), .int (iI 0), .int (iI x), .int (iI 0)])) := ho9
  refine lv_aload_n F.1 F.2.1 dX9_init_19 rfl (lv_at hl 0 rfl) ?_
  refine lv_iload F.1 F.2.1 dX9_init_20 (lv_at hl 4 rfl) ?_
  refine pf_RX9_20 F hW hS ho9 (Nat.le_of_ble_eq_true rfl) hin dX9_init_22 (fun w10 H locs ho12 hn11 hW hS => ?_)
  have ho12 : w10 z0 = some (.inr (9, [.ref wd, .int (iI sd), .int (iI 0), .int (iI x), .int (iI y)])) := ho12
  refine lv_aload_n F.1 F.2.1 dX9_init_25 rfl (lv_at hl 0 rfl) ?_
  refine lv_iload F.1 F.2.1 dX9_init_26 (lv_at hl 5 rfl) ?_
  refine pf_RX9_23 F hW hS ho12 (Nat.le_of_ble_eq_true rfl) hin dX9_init_28 (fun w13 H locs ho15 hn14 hW hS => ?_)
  have ho15 : w13 z0 = some (.inr (9, [.ref wd, .int (iI sd), .int (iI co), .int (iI x), .int (iI y)])) := ho15
  exact h_vret F hr hlk hW hS ⟨ho15, (fun q h09 => by rw [hn14 q (by omega), hn11 q (by omega), hn8 q (by omega), hn5 q (by omega), hn2 q (by omega)])⟩ dX9_init_31
set_option maxHeartbeats 4000000 in
set_option maxRecDepth 100000 in
theorem c_X10_init (l : Launch) (X : Cx) (w : Wo) (h : Nat) (hh : w h = some (.inr (10, [.int (iI 0), .int (iI 0), .int (iI 0), .int (iI 0), .null, .null, .null, .int (iI (bz false))]))) : CM l X yX10_init cX10_init 1 none (rmG 4 3 13 84) [.ref h] w none (fun w' => ∃ (st lc lr : Nat), ∃ (fs : Int → Int), w' h = some (.inr (10, [.int (iI 0), .int (iI 0), .int (iI 4), .int (iI 0), .ref st, .ref lc, .ref lr, .int (iI (bz false))])) ∧ w' lc = some (.inr (14, [.int (iI 0), .ref (X.2.2 3), .int (iI 0)])) ∧ w' lr = some (.inr (14, [.int (iI 0), .ref (X.2.2 3), .int (iI 0)])) ∧ w' st = some (aZ X 7 fs) ∧ (∀ c, 0 ≤ c → c < 7 → fs c = 500) ∧ (frs w st ∧ st < lc ∧ lc < lr) ∧ ∀ (q : Nat) (e : va_E), w q = some e → q ≠ h → w' q = some e) := by
  refine CM.of (lv := [(0, .ref h)]) (by decide) (Nat.le_of_ble_eq_true rfl) rfl (fun p e s m below meth c ls F hr hlk hin hW hS hl => ?_)
  have hZ0 := hW.2.2
  have hB9 := hW.1.2
  skip
  refine lv_aload_n F.1 F.2.1 dX10_init_0 rfl (lv_at hl 0 rfl) ?_
  refine h_obj F hl hoM_RX10 hoI dX10_init_1 ⟨Nat.le_of_ble_eq_true rfl, Nat.le_of_ble_eq_true rfl⟩ ?_
  refine lv_aload_n F.1 F.2.1 dX10_init_4 rfl (lv_at hl 0 rfl) ?_
  refine h_iconst F dX10_init_5 ?_
  refine pf_RX10_7 F hW hS hZ0 hB9 hh (Nat.le_of_ble_eq_true rfl) dX10_init_6 (fun w1 H locs ho3 hn2 hW hS => ?_)
  have ho3 : w1 h = some (.inr (10, [.int (iI 0), .int (iI 0), .int (iI 4), .int (iI 0), .null, .null, .null, .int (iI (bz false))])) := ho3
  refine lv_aload_n F.1 F.2.1 dX10_init_9 rfl (lv_at hl 0 rfl) ?_
  refine h_bipush F dX10_init_10 rfl ?_
  have ho7 := ho3
  have hn7 := hn2
  refine q_newP (N := 7) (k := 0) (atype := .int) (x := .inl (fun j : Nat => iI ((fun _ : Int => 0) (j : Int)))) F hW hS haCI rfl (hxI _) rfl (by omega) ⟨(by show 0 + 1 ≤ 3; omega), (by show 0 + 7 ≤ 13; omega)⟩ dX10_init_12 (fun st w4 H hfr7 hcx8 ha6 hn5 hW hS => ?_)
  have ha6 : w4 st = some (aZ X 7 (fun _ => 0)) := ha6
  have hb9 := hfr7 _ _ ho3
  have ho3 := (hn5 _ (by omega)).trans ho3
  have hfrS := hfr7
  refine lv_dup F.1 F.2.1 dX10_init_14 rfl ?_
  refine h_iconst F dX10_init_15 ?_
  refine h_sipush F dX10_init_16 rfl ?_
  refine h_iast F hW hS ha6 (by omega) (by omega) dX10_init_19 (fun w10 H locs ho12 hn11 hW hS => ?_)
  have ho3 := (hn11 _ (by omega)).trans ho3
  refine lv_dup F.1 F.2.1 dX10_init_20 rfl ?_
  refine h_iconst F dX10_init_21 ?_
  refine h_sipush F dX10_init_22 rfl ?_
  refine h_iast F hW hS ho12 (by omega) (by omega) dX10_init_25 (fun w13 H locs ho15 hn14 hW hS => ?_)
  have ho3 := (hn14 _ (by omega)).trans ho3
  refine lv_dup F.1 F.2.1 dX10_init_26 rfl ?_
  refine h_iconst F dX10_init_27 ?_
  refine h_sipush F dX10_init_28 rfl ?_
  refine h_iast F hW hS ho15 (by omega) (by omega) dX10_init_31 (fun w16 H locs ho18 hn17 hW hS => ?_)
  have ho3 := (hn17 _ (by omega)).trans ho3
  refine lv_dup F.1 F.2.1 dX10_init_32 rfl ?_
  refine h_iconst F dX10_init_33 ?_
  refine h_sipush F dX10_init_34 rfl ?_
  refine h_iast F hW hS ho18 (by omega) (by omega) dX10_init_37 (fun w19 H locs ho21 hn20 hW hS => ?_)
  have ho3 := (hn20 _ (by omega)).trans ho3
  refine lv_dup F.1 F.2.1 dX10_init_38 rfl ?_
  refine h_iconst F dX10_init_39 ?_
  refine h_sipush F dX10_init_40 rfl ?_
  refine h_iast F hW hS ho21 (by omega) (by omega) dX10_init_43 (fun w22 H locs ho24 hn23 hW hS => ?_)
  have ho3 := (hn23 _ (by omega)).trans ho3
  refine lv_dup F.1 F.2.1 dX10_init_44 rfl ?_
  refine h_iconst F dX10_init_45 ?_
  refine h_sipush F dX10_init_46 rfl ?_
  refine h_iast F hW hS ho24 (by omega) (by omega) dX10_init_49 (fun w25 H locs ho27 hn26 hW hS => ?_)
  have ho3 := (hn26 _ (by omega)).trans ho3
  refine lv_dup F.1 F.2.1 dX10_init_50 rfl ?_
  refine h_bipush F dX10_init_51 rfl ?_
  refine h_sipush F dX10_init_53 rfl ?_
  refine h_iast F hW hS ho27 (by omega) (by omega) dX10_init_56 (fun w28 H locs ho30 hn29 hW hS => ?_)
  have ho3 := (hn29 _ (by omega)).trans ho3
  refine pf_RX10_13 F hW hS ho3 (Nat.le_of_ble_eq_true rfl) hin dX10_init_57 (fun w31 H locs ho33 hn32 hW hS => ?_)
  have ho33 : w31 h = some (.inr (10, [.int (iI 0), .int (iI 0), .int (iI 4), .int (iI 0), .ref st, .null, .null, .int (iI (bz false))])) := ho33
  have ho30 := (hn32 _ (by omega)).trans ho30
  refine lv_aload_n F.1 F.2.1 dX10_init_60 rfl (lv_at hl 0 rfl) ?_
  refine q_new (ci := 14) (fs := [.int (iI 0), .null, .int (iI 0)]) F hW hS inJx4a65c tyJx4a65c tyJx4a65c_ok kl_RX10_17 kb_RJx4a65c kn_RJx4a65c rfl (by intro j hj; rcases (show j = 0 ∨ j = 1 ∨ j = 2 by omega) with hj | hj | hj <;> subst hj <;> rfl) ⟨(by show 0 + 1 + 1 ≤ 3; omega), (by show 0 + 7 + 3 ≤ 13; omega)⟩ dX10_init_61 (fun lc w34 H hfr37 hcx38 ho36 hn35 hW hS => ?_)
  have hb39 := hfr37 _ _ ho33
  have hb40 := hfr37 _ _ ho30
  have ho33 := (hn35 _ (by omega)).trans ho33
  have ho30 := (hn35 _ (by omega)).trans ho30
  refine lv_dup F.1 F.2.1 dX10_init_64 rfl ?_
  refine cl_RX10_19 (As := []) (rest := [.ref lc, .ref h]) F hl (c_Jx4a65c_init_da8c8 l X w34 lc ho36) hW hS rfl rfl ⟨Nat.le_of_ble_eq_true rfl, Nat.le_of_ble_eq_true rfl⟩ (Nat.le_of_ble_eq_true rfl) ⟨(by show 0 + 1 + 1 + 0 ≤ 3; omega), (by show 0 + 7 + 3 + 0 ≤ 13; omega)⟩ dX10_init_65 (fun w41 H locs hp42 hW hS => ?_)
  obtain ⟨ho43, hn44⟩ := hp42
  have ho33 := (hn44 _ (by omega)).trans ho33
  have ho30 := (hn44 _ (by omega)).trans ho30
  refine pf_RX10_20 F hW hS ho33 (Nat.le_of_ble_eq_true rfl) hin dX10_init_68 (fun w45 H locs ho47 hn46 hW hS => ?_)
  have ho47 : w45 h = some (.inr (10, [.int (iI 0), .int (iI 0), .int (iI 4), .int (iI 0), .ref st, .ref lc, .null, .int (iI (bz false))])) := ho47
  have ho43 := (hn46 _ (by omega)).trans ho43
  have ho30 := (hn46 _ (by omega)).trans ho30
  refine lv_aload_n F.1 F.2.1 dX10_init_71 rfl (lv_at hl 0 rfl) ?_
  refine q_new (ci := 14) (fs := [.int (iI 0), .null, .int (iI 0)]) F hW hS inJx4a65c tyJx4a65c tyJx4a65c_ok kl_RX10_17 kb_RJx4a65c kn_RJx4a65c rfl (by intro j hj; rcases (show j = 0 ∨ j = 1 ∨ j = 2 by omega) with hj | hj | hj <;> subst hj <;> rfl) ⟨(by show 0 + 1 + 1 + 0 + 1 ≤ 3; omega), (by show 0 + 7 + 3 + 0 + 3 ≤ 13; omega)⟩ dX10_init_72 (fun lr w48 H hfr51 hcx52 ho50 hn49 hW hS => ?_)
  have hb53 := hfr51 _ _ ho47
  have hb54 := hfr51 _ _ ho43
  have hb55 := hfr51 _ _ ho30
  have ho47 := (hn49 _ (by omega)).trans ho47
  have ho43 := (hn49 _ (by omega)).trans ho43
  have ho30 := (hn49 _ (by omega)).trans ho30
  refine lv_dup F.1 F.2.1 dX10_init_75 rfl ?_
  refine cl_RX10_19 (As := []) (rest := [.ref lr, .ref h]) F hl (c_Jx4a65c_init_da8c8 l X w48 lr ho50) hW hS rfl rfl ⟨Nat.le_of_ble_eq_true rfl, Nat.le_of_ble_eq_true rfl⟩ (Nat.le_of_ble_eq_true rfl) ⟨(by show 0 + 1 + 1 + 0 + 1 + 0 ≤ 3; omega), (by show 0 + 7 + 3 + 0 + 3 + 0 ≤ 13; omega)⟩ dX10_init_76 (fun w56 H locs hp57 hW hS => ?_)
  obtain ⟨ho58, hn59⟩ := hp57
  have ho47 := (hn59 _ (by omega)).trans ho47
  have ho43 := (hn59 _ (by omega)).trans ho43
  have ho30 := (hn59 _ (by omega)).trans ho30
  refine pf_RX10_24 F hW hS ho47 (Nat.le_of_ble_eq_true rfl) hin dX10_init_79 (fun w60 H locs ho62 hn61 hW hS => ?_)
  have ho62 : w60 h = some (.inr (10, [.int (iI 0), .int (iI 0), .int (iI 4), .int (iI 0), .ref st, .ref lc, .ref lr, .int (iI (bz false))])) := ho62
  have ho43 := (hn61 _ (by omega)).trans ho43
  have ho58 := (hn61 _ (by omega)).trans ho58
  have ho30 := (hn61 _ (by omega)).trans ho30
  refine W.wd (mc := 3) (ms := 13) (by omega) (by omega) ?_
  have hX9 : ∀ (q : Nat) (e : va_E), w q = some e → q ≠ h → w60 q = some e := fun q e h9 h09 => by
    have h9 := (hn2 q (by omega)).trans h9
    have z9_63 := hfr7 q e h9
    have h9 := (hn5 q (by omega)).trans h9
    have h9 := (hn11 q (by omega)).trans h9
    have h9 := (hn14 q (by omega)).trans h9
    have h9 := (hn17 q (by omega)).trans h9
    have h9 := (hn20 q (by omega)).trans h9
    have h9 := (hn23 q (by omega)).trans h9
    have h9 := (hn26 q (by omega)).trans h9
    have h9 := (hn29 q (by omega)).trans h9
    have h9 := (hn32 q (by omega)).trans h9
    have z9_64 := hfr37 q e h9
    have h9 := (hn35 q (by omega)).trans h9
    have h9 := (hn44 q (by omega)).trans h9
    have h9 := (hn46 q (by omega)).trans h9
    have z9_65 := hfr51 q e h9
    have h9 := (hn49 q (by omega)).trans h9
    have h9 := (hn59 q (by omega)).trans h9
    have h9 := (hn61 q (by omega)).trans h9
    exact h9
  exact h_vret F hr hlk hW hS ⟨_, _, _, _, ho62, ho43, ho58, (by (rw [ho30]) <;> (rfl)), (fun c h1 h2 => by rcases (show c = 0 ∨ c = 1 ∨ c = 2 ∨ c = 3 ∨ c = 4 ∨ c = 5 ∨ c = 6 by omega) with rfl | rfl | rfl | rfl | rfl | rfl | rfl <;> rfl), ⟨frp hfrS hn7 ho7, by omega, by omega⟩, hX9⟩ dX10_init_82
