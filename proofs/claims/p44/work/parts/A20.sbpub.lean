set_option maxHeartbeats 4000000 in
set_option maxRecDepth 100000 in
theorem c_J4_append_15ec4 (l : Launch) (X : Cx) (w : Wo) (u0 b : Nat) (ml : Int32) (n : Int) (cp : Nat) (f0 f : Int → Int) (C9 : Nat) (z0 mz : Nat) (g : Int → Int) (hu : w u0 = some (.inr (12, [.ref b, .int (iI 0), .int ml, .int (iI n)]))) (hb0 : w b = some (aY X cp f0)) (hP : sbP cp f0 n f C9) (hR : 2 * (n + ((mz : Nat) : Int)) ≤ (C9 : Int) ∧ C9 < 100000) (hub : u0 < b) (hs : str X w z0 mz g) (hg : ∀ j, 0 ≤ j → j < (mz : Int) → 0 ≤ g j ∧ g j < 128) : CM l X yJ4_append_15ec4 cJ4_append_15ec4 2 (some (.object "java/lang/StringBuilder")) (rmG 5 1 C9 116) [.ref u0, .ref z0] w (some (.ref u0)) (fun w' => ∃ (b9 cp9 : Nat), ∃ (f9 : Int → Int), w' u0 = some (.inr (12, [.ref b9, .int (iI 0), .int ml, .int (iI (n + ((mz : Nat) : Int)))])) ∧ w' b9 = some (aY X cp9 f9) ∧ (sbP cp9 f9 (n + ((mz : Nat) : Int)) (apS f n g) C9) ∧ (b9 = b ∨ frs w b9) ∧ (u0 < b9) ∧ ∀ (q : Nat) (e : va_E), w q = some e → q ≠ u0 → q ≠ b → w' q = some e) := by
  refine CM.of (lv := [(0, .ref u0), (1, .ref z0)]) (by decide) (Nat.le_of_ble_eq_true rfl) rfl (fun p e s m below meth c ls F hr hlk hin hW hS hl => ?_)
  have hZ0 := hW.2.2
  have hB9 := hW.1.2
  clear hin
  have hu00 := hu
  have hP1 := hP.1
  refine lv_aload_n F.1 F.2.1 dJ4_append_15ec4_0 rfl (lv_at hl 0 rfl) ?_
  refine lv_aload_n F.1 F.2.1 dJ4_append_15ec4_1 rfl (lv_at hl 1 rfl) ?_
  refine cl_RJ4_29 (As := [.ref z0]) (rest := []) F hl (c_J5_append_cf1ce l X w u0 b ml n cp f0 C9 z0 mz g hu hb0 hP.2.1 (by omega) hs hg) hW hS hu rfl rfl ⟨Nat.le_of_ble_eq_true rfl, Nat.le_of_ble_eq_true rfl⟩ (Nat.le_of_ble_eq_true rfl) ⟨(by show 0 + 1 ≤ 1; omega), (by show 0 + C9 ≤ C9; omega)⟩ dJ4_append_15ec4_2 (fun w1 H locs hp2 hW hS => ?_)
  obtain ⟨bx, cx, fx, ho3, ha4, hm1, hm2, hm3, hm4, hm5, hm6, hx5⟩ := hp2
  refine lv_pop F.1 F.2.1 dJ4_append_15ec4_5 rfl ?_
  refine lv_aload_n F.1 F.2.1 dJ4_append_15ec4_6 rfl (lv_at hl 0 rfl) ?_
  refine W.wd (mc := 1) (ms := C9) (by omega) (by omega) ?_
  have hX9 : ∀ (q : Nat) (e : va_E), w q = some e → q ≠ u0 → q ≠ b → w1 q = some e := fun q e h9 h09 h19 => by
    have h9 := hx5 q e h9 (by omega) (by omega)
    exact h9
  exact h_aret F hr hlk hW hS ⟨_, _, _, (by (rw [ho3]) <;> (rfl)), (by (rw [ha4]) <;> (rfl)), (sbP.ap hP (by omega) (by omega) hm2 hm3 hm4), hm5, (hm5.elim (fun e9 => by omega) (fun z9 => z9 _ _ hu00)), hX9⟩ dJ4_append_15ec4_7
set_option maxHeartbeats 4000000 in
set_option maxRecDepth 100000 in
theorem c_J4_append_cf1ce (l : Launch) (X : Cx) (w : Wo) (u0 b : Nat) (ml : Int32) (n : Int) (cp : Nat) (f0 f : Int → Int) (C9 : Nat) (z0 mz : Nat) (g : Int → Int) (hu : w u0 = some (.inr (12, [.ref b, .int (iI 0), .int ml, .int (iI n)]))) (hb0 : w b = some (aY X cp f0)) (hP : sbP cp f0 n f C9) (hR : 2 * (n + ((mz : Nat) : Int)) ≤ (C9 : Int) ∧ C9 < 100000) (hub : u0 < b) (hs : str X w z0 mz g) (hg : ∀ j, 0 ≤ j → j < (mz : Int) → 0 ≤ g j ∧ g j < 128) : CM l X yJ4_append_cf1ce cJ4_append_cf1ce 2 (some (.object "java/lang/AbstractStringBuilder")) (rmG 6 1 C9 137) [.ref u0, .ref z0] w (some (.ref u0)) (fun w' => ∃ (b9 cp9 : Nat), ∃ (f9 : Int → Int), w' u0 = some (.inr (12, [.ref b9, .int (iI 0), .int ml, .int (iI (n + ((mz : Nat) : Int)))])) ∧ w' b9 = some (aY X cp9 f9) ∧ (sbP cp9 f9 (n + ((mz : Nat) : Int)) (apS f n g) C9) ∧ (b9 = b ∨ frs w b9) ∧ (u0 < b9) ∧ ∀ (q : Nat) (e : va_E), w q = some e → q ≠ u0 → q ≠ b → w' q = some e) := by
  refine CM.of (lv := [(0, .ref u0), (1, .ref z0)]) (by decide) (Nat.le_of_ble_eq_true rfl) rfl (fun p e s m below meth c ls F hr hlk hin hW hS hl => ?_)
  have hZ0 := hW.2.2
  have hB9 := hW.1.2
  clear hin
  have hu00 := hu
  have hP1 := hP.1
  refine lv_aload_n F.1 F.2.1 dJ4_append_cf1ce_0 rfl (lv_at hl 0 rfl) ?_
  refine lv_aload_n F.1 F.2.1 dJ4_append_cf1ce_1 rfl (lv_at hl 1 rfl) ?_
  refine cl_RJ4_23 (As := [.ref z0]) (rest := []) F hl (c_J4_append_15ec4 l X w u0 b ml n cp f0 f C9 z0 mz g hu hb0 hP (by omega) (by omega) hs hg) hW hS hu rfl rfl ⟨Nat.le_of_ble_eq_true rfl, Nat.le_of_ble_eq_true rfl⟩ (Nat.le_of_ble_eq_true rfl) ⟨(by show 0 + 1 ≤ 1; omega), (by show 0 + C9 ≤ C9; omega)⟩ dJ4_append_cf1ce_2 (fun w1 H locs hp2 hW hS => ?_)
  obtain ⟨bx, cx, fx, ho3, ha4, hm1, hm2, hm3, hx5⟩ := hp2
  refine W.wd (mc := 1) (ms := C9) (by omega) (by omega) ?_
  have hX9 : ∀ (q : Nat) (e : va_E), w q = some e → q ≠ u0 → q ≠ b → w1 q = some e := fun q e h9 h09 h19 => by
    have h9 := hx5 q e h9 (by omega) (by omega)
    exact h9
  exact h_aret F hr hlk hW hS ⟨_, _, _, (by (rw [ho3]) <;> (rfl)), (by (rw [ha4]) <;> (rfl)), hm1, hm2, hm3, hX9⟩ dJ4_append_cf1ce_5
set_option maxHeartbeats 4000000 in
set_option maxRecDepth 100000 in
theorem c_J4_append_cf468 (l : Launch) (X : Cx) (w : Wo) (u0 b : Nat) (ml : Int32) (n : Int) (cp : Nat) (f0 f : Int → Int) (C9 : Nat) (x : Int) (hu : w u0 = some (.inr (12, [.ref b, .int (iI 0), .int ml, .int (iI n)]))) (hb0 : w b = some (aY X cp f0)) (hP : sbP cp f0 n f C9) (hR : 2 * (n + 1) ≤ (C9 : Int) ∧ C9 < 100000) (hub : u0 < b) (hx9 : 0 ≤ x ∧ x < 128) : CM l X yJ4_append_cf468 cJ4_append_cf468 2 (some (.object "java/lang/StringBuilder")) (rmG 5 1 C9 115) [.ref u0, .int (iI x)] w (some (.ref u0)) (fun w' => ∃ (b9 cp9 : Nat), ∃ (f9 : Int → Int), w' u0 = some (.inr (12, [.ref b9, .int (iI 0), .int ml, .int (iI (n + 1))])) ∧ w' b9 = some (aY X cp9 f9) ∧ (sbP cp9 f9 (n + 1) (apS f n (fun _ => x)) C9) ∧ (b9 = b ∨ frs w b9) ∧ (u0 < b9) ∧ ∀ (q : Nat) (e : va_E), w q = some e → q ≠ u0 → q ≠ b → w' q = some e) := by
  refine CM.of (lv := [(0, .ref u0), (1, .int (iI x))]) (by decide) (Nat.le_of_ble_eq_true rfl) rfl (fun p e s m below meth c ls F hr hlk hin hW hS hl => ?_)
  have hZ0 := hW.2.2
  have hB9 := hW.1.2
  clear hin
  have hu00 := hu
  have hP1 := hP.1
  refine lv_aload_n F.1 F.2.1 dJ4_append_cf468_0 rfl (lv_at hl 0 rfl) ?_
  refine lv_iload_n F.1 F.2.1 dJ4_append_cf468_1 rfl (lv_at hl 1 rfl) ?_
  refine cl_RJ4_50 (As := [.int (iI x)]) (rest := []) F hl (c_J5_append_3fe6f l X w u0 b ml n cp f0 C9 x hu hb0 hP.2.1 (by omega) (by omega)) hW hS hu rfl rfl ⟨Nat.le_of_ble_eq_true rfl, Nat.le_of_ble_eq_true rfl⟩ (Nat.le_of_ble_eq_true rfl) ⟨(by show 0 + 1 ≤ 1; omega), (by show 0 + C9 ≤ C9; omega)⟩ dJ4_append_cf468_2 (fun w1 H locs hp2 hW hS => ?_)
  obtain ⟨bx, cx, fx, ho3, ha4, hm1, hm2, hm3, hm4, hm5, hm6, hx5⟩ := hp2
  refine lv_pop F.1 F.2.1 dJ4_append_cf468_5 rfl ?_
  refine lv_aload_n F.1 F.2.1 dJ4_append_cf468_6 rfl (lv_at hl 0 rfl) ?_
  refine W.wd (mc := 1) (ms := C9) (by omega) (by omega) ?_
  have hX9 : ∀ (q : Nat) (e : va_E), w q = some e → q ≠ u0 → q ≠ b → w1 q = some e := fun q e h9 h09 h19 => by
    have h9 := hx5 q e h9 (by omega) (by omega)
    exact h9
  exact h_aret F hr hlk hW hS ⟨_, _, _, (by (rw [ho3]) <;> (rfl)), (by (rw [ha4]) <;> (rfl)), (sbP.ap hP (by omega) (by omega) hm2 hm3 hm4), hm5, (hm5.elim (fun e9 => by omega) (fun z9 => z9 _ _ hu00)), hX9⟩ dJ4_append_cf468_7
set_option maxHeartbeats 4000000 in
set_option maxRecDepth 100000 in
theorem c_J4_append_bf812 (l : Launch) (X : Cx) (w : Wo) (u0 b : Nat) (ml : Int32) (n : Int) (cp : Nat) (f0 f : Int → Int) (C9 : Nat) (x : Int) (hu : w u0 = some (.inr (12, [.ref b, .int (iI 0), .int ml, .int (iI n)]))) (hb0 : w b = some (aY X cp f0)) (hP : sbP cp f0 n f C9) (hR : 2 * (n + dlN x) ≤ (C9 : Int) ∧ C9 < 100000) (hub : u0 < b) (hx9 : 0 ≤ x ∧ x < 1000) : CM l X yJ4_append_bf812 cJ4_append_bf812 2 (some (.object "java/lang/StringBuilder")) (rmG 5 1 C9 117) [.ref u0, .int (iI x)] w (some (.ref u0)) (fun w' => ∃ (b9 cp9 : Nat), ∃ (f9 : Int → Int), w' u0 = some (.inr (12, [.ref b9, .int (iI 0), .int ml, .int (iI (n + dlN x))])) ∧ w' b9 = some (aY X cp9 f9) ∧ (sbP cp9 f9 (n + dlN x) (apS f n (dgC x)) C9) ∧ (b9 = b ∨ frs w b9) ∧ (u0 < b9) ∧ ∀ (q : Nat) (e : va_E), w q = some e → q ≠ u0 → q ≠ b → w' q = some e) := by
  refine CM.of (lv := [(0, .ref u0), (1, .int (iI x))]) (by decide) (Nat.le_of_ble_eq_true rfl) rfl (fun p e s m below meth c ls F hr hlk hin hW hS hl => ?_)
  have hZ0 := hW.2.2
  have hB9 := hW.1.2
  clear hin
  have hu00 := hu
  have hP1 := hP.1
  have hdl : 1 ≤ dlN x ∧ dlN x ≤ 3 := by unfold dlN; (repeat split) <;> omega
  refine lv_aload_n F.1 F.2.1 dJ4_append_bf812_0 rfl (lv_at hl 0 rfl) ?_
  refine lv_iload_n F.1 F.2.1 dJ4_append_bf812_1 rfl (lv_at hl 1 rfl) ?_
  refine cl_RJ4_53 (As := [.int (iI x)]) (rest := []) F hl (c_J5_append_c97b9 l X w u0 b ml n cp f0 C9 x hu hb0 hP.2.1 (by omega) (by omega)) hW hS hu rfl rfl ⟨Nat.le_of_ble_eq_true rfl, Nat.le_of_ble_eq_true rfl⟩ (Nat.le_of_ble_eq_true rfl) ⟨(by show 0 + 1 ≤ 1; omega), (by show 0 + C9 ≤ C9; omega)⟩ dJ4_append_bf812_2 (fun w1 H locs hp2 hW hS => ?_)
  obtain ⟨bx, cx, fx, ho3, ha4, hm1, hm2, hm3, hm4, hm5, hm6, hx5⟩ := hp2
  refine lv_pop F.1 F.2.1 dJ4_append_bf812_5 rfl ?_
  refine lv_aload_n F.1 F.2.1 dJ4_append_bf812_6 rfl (lv_at hl 0 rfl) ?_
  refine W.wd (mc := 1) (ms := C9) (by omega) (by omega) ?_
  have hX9 : ∀ (q : Nat) (e : va_E), w q = some e → q ≠ u0 → q ≠ b → w1 q = some e := fun q e h9 h09 h19 => by
    have h9 := hx5 q e h9 (by omega) (by omega)
    exact h9
  exact h_aret F hr hlk hW hS ⟨_, _, _, (by (rw [ho3]) <;> (rfl)), (by (rw [ha4]) <;> (rfl)), (sbP.ap hP (by omega) (by omega) hm2 hm3 hm4), hm5, (hm5.elim (fun e9 => by omega) (fun z9 => z9 _ _ hu00)), hX9⟩ dJ4_append_bf812_7
set_option maxHeartbeats 4000000 in
set_option maxRecDepth 100000 in
theorem c_sb_at (l : Launch) (X : Cx) (w : Wo) (u0 b : Nat) (ml : Int32) (n : Int) (cp : Nat) (f0 f : Int → Int) (C9 : Nat) (j : Int) (hu : w u0 = some (.inr (12, [.ref b, .int (iI 0), .int ml, .int (iI n)]))) (hb0 : w b = some (aY X cp f0)) (hP : sbP cp f0 n f C9) (hj : 0 ≤ j ∧ j < n ∧ C9 < 100000) : CM l X yJ4_charAt_5068e cJ4_charAt_5068e 2 (some (.char)) (rmG 3 0 0 67) [.ref u0, .int (iI j)] w (some (.int (iI (f j)))) (fun w' => w' = w) := by
  refine CM.of (lv := [(0, .ref u0), (1, .int (iI j))]) (by decide) (Nat.le_of_ble_eq_true rfl) rfl (fun p e s m below meth c ls F hr hlk hin hW hS hl => ?_)
  have hZ0 := hW.2.2
  have hB9 := hW.1.2
  clear hin
  have hP1 := hP.1
  have hfj := hP.rd hj.1 hj.2.1
  refine lv_aload_n F.1 F.2.1 dJ4_charAt_5068e_0 rfl (lv_at hl 0 rfl) ?_
  refine lv_iload_n F.1 F.2.1 dJ4_charAt_5068e_1 rfl (lv_at hl 1 rfl) ?_
  refine cl_RJ4_329 (As := [.int (iI j)]) (rest := []) F hl (c_J5_charAt_5068e l X w u0 b ml n cp f0 j hu hb0 hP.2.1 (by omega)) hW hS hu rfl rfl ⟨Nat.le_of_ble_eq_true rfl, Nat.le_of_ble_eq_true rfl⟩ (Nat.le_of_ble_eq_true rfl) ⟨(by show 0 + 0 ≤ 0; omega), (by show 0 + 0 ≤ 0; omega)⟩ dJ4_charAt_5068e_2 (fun w1 H locs hp1 hW hS => ?_)
  rw [hp1] at hW; clear hp1; clear w1
  refine h_top (show (f0 j : Int) = f j from hP.2.2 j hj.1 hj.2.1) ?_
  exact h_irety F hr hlk (narC (by omega)) hW hS rfl dJ4_charAt_5068e_5
set_option maxHeartbeats 4000000 in
set_option maxRecDepth 100000 in
theorem c_J5_init_d00df (l : Launch) (X : Cx) (w : Wo) (u0 : Nat) (hu : w u0 = some (.inr (12, [.null, .int (iI 0), .int (iI (bz false)), .int (iI 0)]))) : CM l X yJ5_init_d00df cJ5_init_d00df 2 none (rmG 1 1 16 24) [.ref u0, .int (iI 16)] w none (fun w' => ∃ (b9 : Nat), w' u0 = some (.inr (12, [.ref b9, .int (iI 0), .int (iI (bz false)), .int (iI 0)])) ∧ w' b9 = some (aY X 16 (fun _ => 0)) ∧ (frs w b9) ∧ ∀ (q : Nat) (e : va_E), w q = some e → q ≠ u0 → w' q = some e) := by
  refine CM.of (lv := [(0, .ref u0), (1, .int (iI 16))]) (by decide) (Nat.le_of_ble_eq_true rfl) rfl (fun p e s m below meth c ls F hr hlk hin hW hS hl => ?_)
  have hZ0 := hW.2.2
  have hB9 := hW.1.2
  skip
  refine lv_aload_n F.1 F.2.1 dJ5_init_d00df_0 rfl (lv_at hl 0 rfl) ?_
  refine h_obj F hl hoM_RJ5 hoI dJ5_init_d00df_1 ⟨Nat.le_of_ble_eq_true rfl, Nat.le_of_ble_eq_true rfl⟩ ?_
  refine h_gstat F hZ0.2.2.1 hS kf_RJ5_18 dJ5_init_d00df_4 ?_
  refine h_topv (show (Value.int 1 : Value) = .int (iI 1) from rfl) ?_
  refine h_ifeq (tgt := 25) F dJ5_init_d00df_7 (by decide) (by decide) (fun c9 => absurd c9 (by decide)) (fun _ => ?_)
  refine lv_aload_n F.1 F.2.1 dJ5_init_d00df_10 rfl (lv_at hl 0 rfl) ?_
  refine lv_iload_n F.1 F.2.1 dJ5_init_d00df_11 rfl (lv_at hl 1 rfl) ?_
  refine q_newP (N := 16) (k := 2) (atype := .byte) (x := .inl (fun j : Nat => iI ((fun _ : Int => 0) (j : Int)))) F hW hS haCY rfl (hxY _) rfl (by omega) ⟨(by show 0 + 1 ≤ 1; omega), (by show 0 + 16 ≤ 16; omega)⟩ dJ5_init_d00df_12 (fun b9 w2 H hfr5 hcx6 ha4 hn3 hW hS => ?_)
  have ha4 : w2 b9 = some (aY X 16 (fun _ => 0)) := ha4
  have hb7 := hfr5 _ _ hu
  have hu := (hn3 _ (by omega)).trans hu
  have hfrS := hfr5
  refine pf_RJ5_15 F hW hS hZ0 hB9 hu (Nat.le_of_ble_eq_true rfl) dJ5_init_d00df_14 (fun w8 H locs ho10 hn9 hW hS => ?_)
  have ho10 : w8 u0 = some (.inr (12, [.ref b9, .int (iI 0), .int (iI (bz false)), .int (iI 0)])) := ho10
  have ha4 := (hn9 _ (by omega)).trans ha4
  refine lv_aload_n F.1 F.2.1 dJ5_init_d00df_17 rfl (lv_at hl 0 rfl) ?_
  refine h_iconst F dJ5_init_d00df_18 ?_
  refine pf_RJ5_22 F hW hS hZ0 hB9 ho10 (Nat.le_of_ble_eq_true rfl) dJ5_init_d00df_19 (fun w11 H locs ho13 hn12 hW hS => ?_)
  have ho13 : w11 u0 = some (.inr (12, [.ref b9, .int (iI 0), .int (iI (bz false)), .int (iI 0)])) := ho13
  have ha4 := (hn12 _ (by omega)).trans ha4
  refine h_goto (tgt := 38) F dJ5_init_d00df_22 (by decide) ?_
  refine W.wd (mc := 1) (ms := 16) (by omega) (by omega) ?_
  have hX9 : ∀ (q : Nat) (e : va_E), w q = some e → q ≠ u0 → w11 q = some e := fun q e h9 h09 => by
    have z9_14 := hfr5 q e h9
    have h9 := (hn3 q (by omega)).trans h9
    have h9 := (hn9 q (by omega)).trans h9
    have h9 := (hn12 q (by omega)).trans h9
    exact h9
  exact h_vret F hr hlk hW hS ⟨_, ho13, ha4, hfrS, hX9⟩ dJ5_init_d00df_38
set_option maxHeartbeats 4000000 in
set_option maxRecDepth 100000 in
theorem c_J4_init_da8c8 (l : Launch) (X : Cx) (w : Wo) (u0 : Nat) (hu : w u0 = some (.inr (12, [.null, .int (iI 0), .int (iI (bz false)), .int (iI 0)]))) : CM l X yJ4_init_da8c8 cJ4_init_da8c8 1 none (rmG 2 1 16 45) [.ref u0] w none (fun w' => ∃ (b9 : Nat), w' u0 = some (.inr (12, [.ref b9, .int (iI 0), .int (iI (bz false)), .int (iI 0)])) ∧ w' b9 = some (aY X 16 (fun _ => 0)) ∧ (frs w b9) ∧ ∀ (q : Nat) (e : va_E), w q = some e → q ≠ u0 → w' q = some e) := by
  refine CM.of (lv := [(0, .ref u0)]) (by decide) (Nat.le_of_ble_eq_true rfl) rfl (fun p e s m below meth c ls F hr hlk hin hW hS hl => ?_)
  have hZ0 := hW.2.2
  have hB9 := hW.1.2
  skip
  refine lv_aload_n F.1 F.2.1 dJ4_init_da8c8_0 rfl (lv_at hl 0 rfl) ?_
  refine h_bipush F dJ4_init_da8c8_1 rfl ?_
  refine cl_RJ4_1 (As := [.int (iI 16)]) (rest := []) F hl (c_J5_init_d00df l X w u0 hu) hW hS rfl rfl ⟨Nat.le_of_ble_eq_true rfl, Nat.le_of_ble_eq_true rfl⟩ (Nat.le_of_ble_eq_true rfl) ⟨(by show 0 + 1 ≤ 1; omega), (by show 0 + 16 ≤ 16; omega)⟩ dJ4_init_da8c8_3 (fun w1 H locs hp2 hW hS => ?_)
  obtain ⟨b9, ho3, ha4, hfrS, hx5⟩ := hp2
  refine W.wd (mc := 1) (ms := 16) (by omega) (by omega) ?_
  have hX9 : ∀ (q : Nat) (e : va_E), w q = some e → q ≠ u0 → w1 q = some e := fun q e h9 h09 => by
    have h9 := hx5 q e h9 (by omega)
    exact h9
  exact h_vret F hr hlk hW hS ⟨_, ho3, ha4, hfrS, hX9⟩ dJ4_init_da8c8_6
set_option maxHeartbeats 4000000 in
set_option maxRecDepth 100000 in
theorem c_J5_init_a7421 (l : Launch) (X : Cx) (w : Wo) (u0 : Nat) (z0 mz : Nat) (g : Int → Int) (C9 : Nat) (hu : w u0 = some (.inr (12, [.null, .int (iI 0), .int (iI (bz false)), .int (iI 0)]))) (hs : str X w z0 mz g) (hg : ∀ j, 0 ≤ j → j < (mz : Int) → 0 ≤ g j ∧ g j < 128) (hC9 : 2 * (mz : Int) ≤ (C9 : Int) ∧ (mz : Int) + 16 ≤ (C9 : Int) ∧ C9 < 100000) : CM l X yJ5_init_a7421 cJ5_init_a7421 5 none (rmG 7 2 (C9 + C9) 158) [.ref u0, .ref z0] w none (fun w' => ∃ (b9 cp9 : Nat), ∃ (f9 : Int → Int), w' u0 = some (.inr (12, [.ref b9, .int (iI 0), .int (iI (bz false)), .int (iI ((mz : Nat) : Int))])) ∧ w' b9 = some (aY X cp9 f9) ∧ (sbP cp9 f9 ((mz : Nat) : Int) g C9) ∧ (frs w b9) ∧ ∀ (q : Nat) (e : va_E), w q = some e → q ≠ u0 → w' q = some e) := by
  refine CM.of (lv := [(0, .ref u0), (1, .ref z0)]) (by decide) (Nat.le_of_ble_eq_true rfl) rfl (fun p e s m below meth c ls F hr hlk hin hW hS hl => ?_)
  have hZ0 := hW.2.2
  have hB9 := hW.1.2
  skip
  have hu00 := hu
  refine lv_aload_n F.1 F.2.1 dJ5_init_a7421_0 rfl (lv_at hl 0 rfl) ?_
  refine h_obj F hl hoM_RJ5 hoI dJ5_init_a7421_1 ⟨Nat.le_of_ble_eq_true rfl, Nat.le_of_ble_eq_true rfl⟩ ?_
  refine lv_aload_n F.1 F.2.1 dJ5_init_a7421_4 rfl (lv_at hl 1 rfl) ?_
  refine cs_RJ5_32 (As := []) (rest := []) F hl (cS_len l X w z0 mz g hs (by omega)) hW hS (str.rc (n := mz) (f := g) hs hW hZ0 hS) rfl rfl ⟨Nat.le_of_ble_eq_true rfl, Nat.le_of_ble_eq_true rfl⟩ (Nat.le_of_ble_eq_true rfl) ⟨(by show 0 + 0 ≤ 2; omega), (by show 0 + 0 ≤ (C9 + C9); omega)⟩ dJ5_init_a7421_5 (fun w1 H locs hp1 hW hS => ?_)
  rw [hp1] at hW; clear hp1; clear w1
  refine lv_istore_n (lv' := [(2, .int (iI ((mz : Nat) : Int))), (0, .ref u0), (1, .ref z0)]) F.1 F.2.1 dJ5_init_a7421_8 rfl hl (by decide) rfl (fun ls hl => ?_)
  refine lv_iload_n F.1 F.2.1 dJ5_init_a7421_9 rfl (lv_at hl 0 rfl) ?_
  refine h_ldc (n := 2147483631) F kk_RJ5_38 dJ5_init_a7421_10 ?_
  refine h_icge (tgt := 22) F dJ5_init_a7421_12 (by decide) (by omega) (fun c2 => ?_) (fun c2 => ?_)
  · exfalso; omega
  · refine lv_iload_n F.1 F.2.1 dJ5_init_a7421_15 rfl (lv_at hl 0 rfl) ?_
    refine h_bipush F dJ5_init_a7421_16 rfl ?_
    refine h_iadd (a := ((mz : Nat) : Int)) (b := 16) F dJ5_init_a7421_18 ?_
    refine h_goto (tgt := 24) F dJ5_init_a7421_19 (by decide) ?_
    refine lv_istore_n (lv' := [(3, .int (iI (((mz : Nat) : Int) + 16))), (2, .int (iI ((mz : Nat) : Int))), (0, .ref u0), (1, .ref z0)]) F.1 F.2.1 dJ5_init_a7421_24 rfl hl (by decide) rfl (fun ls hl => ?_)
    refine lv_aload_n F.1 F.2.1 dJ5_init_a7421_25 rfl (lv_at hl 3 rfl) ?_
    refine cs_RJ5_40 (As := []) (rest := []) F hl (cS_coder l X w z0 mz g hs) hW hS (str.rc (n := mz) (f := g) hs hW hZ0 hS) rfl rfl ⟨Nat.le_of_ble_eq_true rfl, Nat.le_of_ble_eq_true rfl⟩ (Nat.le_of_ble_eq_true rfl) ⟨(by show 0 + 0 + 0 ≤ 2; omega), (by show 0 + 0 + 0 ≤ (C9 + C9); omega)⟩ dJ5_init_a7421_26 (fun w1 H locs hp3 hW hS => ?_)
    rw [hp3] at hW; clear hp3; clear w1
    refine lv_istore (lv' := [(4, .int (iI 0)), (3, .int (iI (((mz : Nat) : Int) + 16))), (2, .int (iI ((mz : Nat) : Int))), (0, .ref u0), (1, .ref z0)]) F.1 F.2.1 dJ5_init_a7421_29 hl (by decide) rfl (fun ls hl => ?_)
    refine lv_aload_n F.1 F.2.1 dJ5_init_a7421_31 rfl (lv_at hl 3 rfl) ?_
    refine lv_iload F.1 F.2.1 dJ5_init_a7421_32 (lv_at hl 0 rfl) ?_
    refine pf_RJ5_22 F hW hS hZ0 hB9 hu (Nat.le_of_ble_eq_true rfl) dJ5_init_a7421_34 (fun w4 H locs ho6 hn5 hW hS => ?_)
    have ho6 : w4 u0 = some (.inr (12, [.null, .int (iI 0), .int (iI (bz false)), .int (iI 0)])) := ho6
    refine lv_aload_n F.1 F.2.1 dJ5_init_a7421_37 rfl (lv_at hl 3 rfl) ?_
    refine lv_iload F.1 F.2.1 dJ5_init_a7421_38 (lv_at hl 0 rfl) ?_
    refine h_ifne (tgt := 49) F dJ5_init_a7421_40 (by decide) (by decide) (fun c9 => absurd c9 (by decide)) (fun _ => ?_)
    refine lv_iload_n F.1 F.2.1 dJ5_init_a7421_43 rfl (lv_at hl 1 rfl) ?_
    have hgb0 : ∀ (q : Nat) (e : va_E), w q = some e → q ≠ u0 → w4 q = some e := fun q e h9 h19 => by have h9 := (hn5 q (by omega)).trans h9; exact h9
    have hu44 := ho6
    refine q_newP (N := (mz + 16)) (k := 2) (atype := .byte) (x := .inl (fun j : Nat => iI ((fun _ : Int => 0) (j : Int)))) F hW hS haCY rfl (hxY _) (by omega) (by omega) ⟨(by show 0 + 0 + 0 + 1 ≤ 2; omega), (by show 0 + 0 + 0 + (mz + 16) ≤ (C9 + C9); omega)⟩ dJ5_init_a7421_44 (fun b8 w8 H hfr11 hcx12 ha10 hn9 hW hS => ?_)
    have ha10 : w8 b8 = some (aY X (mz + 16) (fun _ => 0)) := ha10
    have hb13 := hfr11 _ _ ho6
    have ho6 := (hn9 _ (by omega)).trans ho6
    have hfrS := frq hfr11 hgb0 hu44
    refine h_goto (tgt := 53) F dJ5_init_a7421_46 (by decide) ?_
    refine pf_RJ5_15 F hW hS hZ0 hB9 ho6 (Nat.le_of_ble_eq_true rfl) dJ5_init_a7421_53 (fun w14 H locs ho16 hn15 hW hS => ?_)
    have ho16 : w14 u0 = some (.inr (12, [.ref b8, .int (iI 0), .int (iI (bz false)), .int (iI 0)])) := ho16
    have ha10 := (hn15 _ (by omega)).trans ha10
    refine lv_aload_n F.1 F.2.1 dJ5_init_a7421_56 rfl (lv_at hl 3 rfl) ?_
    refine lv_aload_n F.1 F.2.1 dJ5_init_a7421_57 rfl (lv_at hl 4 rfl) ?_
    have hgb : ∀ (q : Nat) (e : va_E), w q = some e → q ≠ u0 → w14 q = some e := fun q e h9 h19 => by have h9 := (hn5 q (by omega)).trans h9; have z9_1 := hfr11 q e h9; have h9 := (hn9 q (by omega)).trans h9; have h9 := (hn15 q (by omega)).trans h9; exact h9
    have hub9 := ho16
    refine cl_RJ5_43 (As := [.ref z0]) (rest := []) F hl (c_J4_append_cf1ce l X w14 u0 b8 (iI (bz false)) 0 (mz + 16) (fun _ => 0) (fun _ => 0) C9 z0 mz g ho16 ha10 (sbP.z (by omega)) (by omega) (by omega) (hs.x12 hgb hu00) hg) hW hS ho16 rfl rfl ⟨Nat.le_of_ble_eq_true rfl, Nat.le_of_ble_eq_true rfl⟩ (Nat.le_of_ble_eq_true rfl) ⟨(by show 0 + 0 + 0 + 1 + 1 ≤ 2; omega), (by show 0 + 0 + 0 + (mz + 16) + C9 ≤ (C9 + C9); omega)⟩ dJ5_init_a7421_58 (fun w17 H locs hp18 hW hS => ?_)
    obtain ⟨b9, cp9, f9, ho19, ha20, hm1, hm2, hm3, hx21⟩ := hp18
    have hbz : frs w b9 := hm2.elim (fun e9 => by rw [e9]; exact hfrS) (fun z9 => frq z9 hgb hub9)
    have hq9 := sbP.cg hm1 (f := _) (g := g) (fun j h1 h2 => by unfold apS; rw [if_neg (by omega), Int.sub_zero])
    rw [Int.zero_add] at hq9
    refine lv_pop F.1 F.2.1 dJ5_init_a7421_61 rfl ?_
    refine W.wd (mc := 2) (ms := (C9 + C9)) (by omega) (by omega) ?_
    have hX9 : ∀ (q : Nat) (e : va_E), w q = some e → q ≠ u0 → w17 q = some e := fun q e h9 h09 => by
      have h9 := (hn5 q (by omega)).trans h9
      have z9_22 := hfr11 q e h9
      have h9 := (hn9 q (by omega)).trans h9
      have h9 := (hn15 q (by omega)).trans h9
      have h9 := hx21 q e h9 (by omega) (by omega)
      exact h9
    exact h_vret F hr hlk hW hS ⟨_, _, _, (by (rw [ho19]) <;> (rw [Int.zero_add])), ha20, hq9, hbz, hX9⟩ dJ5_init_a7421_62
set_option maxHeartbeats 4000000 in
set_option maxRecDepth 100000 in
theorem c_J4_init_a7421 (l : Launch) (X : Cx) (w : Wo) (u0 : Nat) (z0 mz : Nat) (g : Int → Int) (C9 : Nat) (hu : w u0 = some (.inr (12, [.null, .int (iI 0), .int (iI (bz false)), .int (iI 0)]))) (hs : str X w z0 mz g) (hg : ∀ j, 0 ≤ j → j < (mz : Int) → 0 ≤ g j ∧ g j < 128) (hC9 : 2 * (mz : Int) ≤ (C9 : Int) ∧ (mz : Int) + 16 ≤ (C9 : Int) ∧ C9 < 100000) : CM l X yJ4_init_a7421 cJ4_init_a7421 2 none (rmG 8 2 (C9 + C9) 182) [.ref u0, .ref z0] w none (fun w' => ∃ (b9 cp9 : Nat), ∃ (f9 : Int → Int), w' u0 = some (.inr (12, [.ref b9, .int (iI 0), .int (iI (bz false)), .int (iI ((mz : Nat) : Int))])) ∧ w' b9 = some (aY X cp9 f9) ∧ (sbP cp9 f9 ((mz : Nat) : Int) g C9) ∧ (frs w b9) ∧ ∀ (q : Nat) (e : va_E), w q = some e → q ≠ u0 → w' q = some e) := by
  refine CM.of (lv := [(0, .ref u0), (1, .ref z0)]) (by decide) (Nat.le_of_ble_eq_true rfl) rfl (fun p e s m below meth c ls F hr hlk hin hW hS hl => ?_)
  have hZ0 := hW.2.2
  have hB9 := hW.1.2
  skip
  refine lv_aload_n F.1 F.2.1 dJ4_init_a7421_0 rfl (lv_at hl 0 rfl) ?_
  refine lv_aload_n F.1 F.2.1 dJ4_init_a7421_1 rfl (lv_at hl 1 rfl) ?_
  refine cl_RJ4_7 (As := [.ref z0]) (rest := []) F hl (c_J5_init_a7421 l X w u0 z0 mz g C9 hu hs hg (by omega)) hW hS rfl rfl ⟨Nat.le_of_ble_eq_true rfl, Nat.le_of_ble_eq_true rfl⟩ (Nat.le_of_ble_eq_true rfl) ⟨(by show 0 + 2 ≤ 2; omega), (by show 0 + (C9 + C9) ≤ (C9 + C9); omega)⟩ dJ4_init_a7421_2 (fun w1 H locs hp2 hW hS => ?_)
  obtain ⟨b9, cp9, f9, ho3, ha4, hm1, hm2, hx5⟩ := hp2
  refine W.wd (mc := 2) (ms := (C9 + C9)) (by omega) (by omega) ?_
  have hX9 : ∀ (q : Nat) (e : va_E), w q = some e → q ≠ u0 → w1 q = some e := fun q e h9 h09 => by
    have h9 := hx5 q e h9 (by omega)
    exact h9
  exact h_vret F hr hlk hW hS ⟨_, _, _, ho3, ha4, hm1, hm2, hX9⟩ dJ4_init_a7421_5
set_option maxHeartbeats 4000000 in
set_option maxRecDepth 100000 in
theorem c_J7_checkLength_df160 (l : Launch) (X : Cx) (w : Wo) (n : Int) (hn : 0 ≤ n ∧ n < 100000) : CM l X yJ7_checkLength_df160 cJ7_checkLength_df160 2 none (rmG 0 0 0 0) [.int (iI 0), .int (iI n)] w none (fun w' => w' = w) := by
  refine CM.of (lv := [(0, .int (iI 0)), (1, .int (iI n))]) (by decide) (Nat.le_of_ble_eq_true rfl) rfl (fun p e s m below meth c ls F hr hlk hin hW hS hl => ?_)
  have hZ0 := hW.2.2
  have hB9 := hW.1.2
  clear hin
  refine lv_iload_n F.1 F.2.1 dJ7_checkLength_df160_0 rfl (lv_at hl 1 rfl) ?_
  refine lv_iload_n F.1 F.2.1 dJ7_checkLength_df160_1 rfl (lv_at hl 0 rfl) ?_
  refine h_icge (tgt := 37) F dJ7_checkLength_df160_2 (by decide) (by omega) (fun c1 => ?_) (fun c1 => ?_)
  · exact h_vret F hr hlk hW hS rfl dJ7_checkLength_df160_37
  · exfalso; omega
set_option maxHeartbeats 4000000 in
set_option maxRecDepth 100000 in
theorem c_J7_copyOfRangeByte_39247 (l : Launch) (X : Cx) (w : Wo) (b cp : Nat) (f : Int → Int) (N : Nat) (hb0 : w b = some (aY X cp f)) (hby : ∀ j, 0 ≤ j → j < (cp : Int) → 0 ≤ f j ∧ f j < 128) (hN : N ≤ cp ∧ cp < 100000) : CR l X yJ7_copyOfRangeByte_39247 cJ7_copyOfRangeByte_39247 5 (some (.array .byte)) (rmG 1 1 N 44) [.ref b, .int (iI 0), .int (iI ((N : Nat) : Int))] w (fun v' w' => ∃ (q9 : Nat), ∃ (f9 : Int → Int), v' = .ref q9 ∧ nkn w q9 ∧ w' q9 = some (aY X N f9) ∧ (∀ j, 0 ≤ j → j < ((N : Nat) : Int) → f9 j = f j) ∧ ∀ (q : Nat) (e : va_E), w q = some e → w' q = some e) := by
  refine CR.of (lv := [(0, .ref b), (1, .int (iI 0)), (2, .int (iI ((N : Nat) : Int)))]) (by decide) (Nat.le_of_ble_eq_true rfl) rfl (fun p e s m below meth c ls F hr hlk hin hW hS hl => ?_)
  have hZ0 := hW.2.2
  have hB9 := hW.1.2
  clear hin
  refine lv_iload_n F.1 F.2.1 dJ7_copyOfRangeByte_39247_0 rfl (lv_at hl 1 rfl) ?_
  refine lv_iload_n F.1 F.2.1 dJ7_copyOfRangeByte_39247_1 rfl (lv_at hl 2 rfl) ?_
  refine cl_RJ7_343 (As := [.int (iI 0), .int (iI ((N : Nat) : Int))]) (rest := []) F hl (c_J7_checkLength_df160 l X w ((N : Nat) : Int) (by omega)) hW hS rfl rfl ⟨Nat.le_of_ble_eq_true rfl, Nat.le_of_ble_eq_true rfl⟩ (Nat.le_of_ble_eq_true rfl) ⟨(by show 0 + 0 ≤ 1; omega), (by show 0 + 0 ≤ N; omega)⟩ dJ7_copyOfRangeByte_39247_2 (fun w1 H locs hp1 hW hS => ?_)
  rw [hp1] at hW; clear hp1; clear w1
  refine lv_iload_n F.1 F.2.1 dJ7_copyOfRangeByte_39247_5 rfl (lv_at hl 2 rfl) ?_
  refine lv_iload_n F.1 F.2.1 dJ7_copyOfRangeByte_39247_6 rfl (lv_at hl 1 rfl) ?_
  refine h_isub (a := ((N : Nat) : Int)) (b := 0) F dJ7_copyOfRangeByte_39247_7 ?_
  refine lv_istore_n (lv' := [(3, .int (iI (((N : Nat) : Int) - 0))), (0, .ref b), (1, .int (iI 0)), (2, .int (iI ((N : Nat) : Int)))]) F.1 F.2.1 dJ7_copyOfRangeByte_39247_8 rfl hl (by decide) rfl (fun ls hl => ?_)
  refine lv_iload_n F.1 F.2.1 dJ7_copyOfRangeByte_39247_9 rfl (lv_at hl 0 rfl) ?_
  refine q_newP (N := N) (k := 2) (atype := .byte) (x := .inl (fun j : Nat => iI ((fun _ : Int => 0) (j : Int)))) F hW hS haCY rfl (hxY _) (by omega) (by omega) ⟨(by show 0 + 0 + 1 ≤ 1; omega), (by show 0 + 0 + N ≤ N; omega)⟩ dJ7_copyOfRangeByte_39247_10 (fun q9 w2 H hfr5 hcx6 ha4 hn3 hW hS => ?_)
  have ha4 : w2 q9 = some (aY X N (fun _ => 0)) := ha4
  have hb7 := hfr5 _ _ hb0
  have hb0 := (hn3 _ (by omega)).trans hb0
  refine lv_astore (lv' := [(4, .ref q9), (3, .int (iI (((N : Nat) : Int) - 0))), (0, .ref b), (1, .int (iI 0)), (2, .int (iI ((N : Nat) : Int)))]) F.1 F.2.1 dJ7_copyOfRangeByte_39247_12 hl (by decide) rfl (fun ls hl => ?_)
  refine lv_aload_n F.1 F.2.1 dJ7_copyOfRangeByte_39247_14 rfl (lv_at hl 2 rfl) ?_
  refine lv_iload_n F.1 F.2.1 dJ7_copyOfRangeByte_39247_15 rfl (lv_at hl 3 rfl) ?_
  refine lv_aload F.1 F.2.1 dJ7_copyOfRangeByte_39247_16 (lv_at hl 0 rfl) ?_
  refine h_iconst F dJ7_copyOfRangeByte_39247_18 ?_
  refine lv_aload_n F.1 F.2.1 dJ7_copyOfRangeByte_39247_19 rfl (lv_at hl 2 rfl) ?_
  refine h_alen (k := 2) (n := cp) F hW rfl hb0 dJ7_copyOfRangeByte_39247_20 ?_
  refine lv_iload_n F.1 F.2.1 dJ7_copyOfRangeByte_39247_21 rfl (lv_at hl 3 rfl) ?_
  refine h_isub (a := ((cp : Nat) : Int)) (b := 0) F dJ7_copyOfRangeByte_39247_22 ?_
  refine lv_iload_n F.1 F.2.1 dJ7_copyOfRangeByte_39247_23 rfl (lv_at hl 1 rfl) ?_
  refine h_mmin (index := 304) (a := ((cp : Nat) : Int) - 0) (b := ((N : Nat) : Int) - 0) F hl km_RJ7_304 (Nat.le_of_ble_eq_true rfl) (Nat.le_of_ble_eq_true rfl) (by show 0 + 0 + 1 ≤ 1; omega) (by show 0 + 0 + N ≤ N; omega) (by omega) dJ7_copyOfRangeByte_39247_24 ?_
  refine h_top (show (min (((cp : Nat) : Int) - 0) (((N : Nat) : Int) - 0) : Int) = ((N : Nat) : Int) from by omega) ?_
  refine h_copyb (index := 150) F hl hW hZ0 hB9 hS km_RJ7_150 hb0 ha4 (by omega) (fun j h1 h2 => by have := hby j h1 (by omega); omega) (Nat.le_of_ble_eq_true rfl) (Nat.le_of_ble_eq_true rfl) dJ7_copyOfRangeByte_39247_27 (fun w8 H locs ha10 hn9 hW hS => ?_)
  have hb0 := (hn9 _ (by omega)).trans hb0
  refine lv_aload F.1 F.2.1 dJ7_copyOfRangeByte_39247_30 (lv_at hl 0 rfl) ?_
  refine W.wd (mc := 1) (ms := N) (by omega) (by omega) ?_
  have hX9 : ∀ (q : Nat) (e : va_E), w q = some e → w8 q = some e := fun q e h9  => by
    have z9_11 := hfr5 q e h9
    have h9 := (hn3 q (by omega)).trans h9
    have h9 := (hn9 q (by omega)).trans h9
    exact h9
  exact r_aret F (Or.inr ⟨_, hr⟩) hlk hW hS ⟨_, _, rfl, (frs.nk hfr5), (by (rw [ha10]) <;> (rfl)), (fun j h1 h2 => by unfold cpY; rw [if_pos (by omega)]; congr 1; omega), hX9⟩ dJ7_copyOfRangeByte_39247_32
set_option maxHeartbeats 4000000 in
set_option maxRecDepth 100000 in
theorem c_cor_e (l : Launch) (X : Cx) (w : Wo) (b cp : Nat) (f : Int → Int) (hb0 : w b = some (aY X cp f)) (hby : ∀ j, 0 ≤ j → j < (cp : Int) → 0 ≤ f j ∧ f j < 128) (hN : cp < 100000) : CR l X yJ7_copyOfRange_39247 cJ7_copyOfRange_39247 3 (some (.array .byte)) (rmG 2 1 cp 68) [.ref b, .int (iI 0), .int (iI ((cp : Nat) : Int))] w (fun v' w' => ∃ (q9 : Nat), ∃ (f9 : Int → Int), v' = .ref q9 ∧ nkn w q9 ∧ w' q9 = some (aY X cp f9) ∧ (∀ j, 0 ≤ j → j < ((cp : Nat) : Int) → f9 j = f j) ∧ ∀ (q : Nat) (e : va_E), w q = some e → w' q = some e) := by
  refine CR.of (lv := [(0, .ref b), (1, .int (iI 0)), (2, .int (iI ((cp : Nat) : Int)))]) (by decide) (Nat.le_of_ble_eq_true rfl) rfl (fun p e s m below meth c ls F hr hlk hin hW hS hl => ?_)
  have hZ0 := hW.2.2
  have hB9 := hW.1.2
  clear hin
  refine lv_iload_n F.1 F.2.1 dJ7_copyOfRange_39247_0 rfl (lv_at hl 1 rfl) ?_
  refine h_ifne (tgt := 10) F dJ7_copyOfRange_39247_1 (by decide) (by decide) (fun c9 => absurd c9 (by decide)) (fun _ => ?_)
  refine lv_iload_n F.1 F.2.1 dJ7_copyOfRange_39247_4 rfl (lv_at hl 2 rfl) ?_
  refine lv_aload_n F.1 F.2.1 dJ7_copyOfRange_39247_5 rfl (lv_at hl 0 rfl) ?_
  refine h_alen (k := 2) (n := cp) F hW rfl hb0 dJ7_copyOfRange_39247_6 ?_
  refine h_iceq (tgt := 17) F dJ7_copyOfRange_39247_7 (by decide) (by omega) (fun c2 => ?_) (fun c2 => ?_)
  · refine lv_aload_n F.1 F.2.1 dJ7_copyOfRange_39247_17 rfl (lv_at hl 0 rfl) ?_
    refine h_cloneB (index := 310) F hl hW hZ0 hB9 hS hb0 hby km_RJ7_310 (Nat.le_of_ble_eq_true rfl) (Nat.le_of_ble_eq_true rfl) ⟨(by show 0 + 1 ≤ 1; omega), (by show 0 + cp ≤ cp; omega)⟩ dJ7_copyOfRange_39247_18 (fun q9 w3 H hnk6 ha5 hn4 hW hS => ?_)
    have hb7 := hnk6 _ _ hb0
    have hb0 := (hn4 _ (by omega)).trans hb0
    refine h_castB F hW ha5 kl_RJ7_311 dJ7_copyOfRange_39247_21 ?_
    refine W.wd (mc := 1) (ms := cp) (by omega) (by omega) ?_
    have hX9 : ∀ (q : Nat) (e : va_E), w q = some e → w3 q = some e := fun q e h9  => by
      have z9_8 := hnk6 q e h9
      have h9 := (hn4 q (by omega)).trans h9
      exact h9
    exact r_aret F (Or.inr ⟨_, hr⟩) hlk hW hS ⟨_, _, rfl, hnk6, (by (rw [ha5]) <;> (rfl)), (fun j h1 h2 => rfl), hX9⟩ dJ7_copyOfRange_39247_24
  · exact absurd rfl c2
set_option maxHeartbeats 4000000 in
set_option maxRecDepth 100000 in
theorem c_cor_l (l : Launch) (X : Cx) (w : Wo) (b cp : Nat) (f : Int → Int) (N : Nat) (hb0 : w b = some (aY X cp f)) (hby : ∀ j, 0 ≤ j → j < (cp : Int) → 0 ≤ f j ∧ f j < 128) (hN : N < cp ∧ cp < 100000) : CR l X yJ7_copyOfRange_39247 cJ7_copyOfRange_39247 3 (some (.array .byte)) (rmG 2 1 N 68) [.ref b, .int (iI 0), .int (iI ((N : Nat) : Int))] w (fun v' w' => ∃ (q9 : Nat), ∃ (f9 : Int → Int), v' = .ref q9 ∧ nkn w q9 ∧ w' q9 = some (aY X N f9) ∧ (∀ j, 0 ≤ j → j < ((N : Nat) : Int) → f9 j = f j) ∧ ∀ (q : Nat) (e : va_E), w q = some e → w' q = some e) := by
  refine CR.of (lv := [(0, .ref b), (1, .int (iI 0)), (2, .int (iI ((N : Nat) : Int)))]) (by decide) (Nat.le_of_ble_eq_true rfl) rfl (fun p e s m below meth c ls F hr hlk hin hW hS hl => ?_)
  have hZ0 := hW.2.2
  have hB9 := hW.1.2
  clear hin
  refine lv_iload_n F.1 F.2.1 dJ7_copyOfRange_39247_0 rfl (lv_at hl 1 rfl) ?_
  refine h_ifne (tgt := 10) F dJ7_copyOfRange_39247_1 (by decide) (by decide) (fun c9 => absurd c9 (by decide)) (fun _ => ?_)
  refine lv_iload_n F.1 F.2.1 dJ7_copyOfRange_39247_4 rfl (lv_at hl 2 rfl) ?_
  refine lv_aload_n F.1 F.2.1 dJ7_copyOfRange_39247_5 rfl (lv_at hl 0 rfl) ?_
  refine h_alen (k := 2) (n := cp) F hW rfl hb0 dJ7_copyOfRange_39247_6 ?_
  refine h_iceq (tgt := 17) F dJ7_copyOfRange_39247_7 (by decide) (by omega) (fun c2 => ?_) (fun c2 => ?_)
  · exfalso; omega
  · refine lv_aload_n F.1 F.2.1 dJ7_copyOfRange_39247_10 rfl (lv_at hl 0 rfl) ?_
    refine lv_iload_n F.1 F.2.1 dJ7_copyOfRange_39247_11 rfl (lv_at hl 1 rfl) ?_
    refine lv_iload_n F.1 F.2.1 dJ7_copyOfRange_39247_12 rfl (lv_at hl 2 rfl) ?_
    refine cr_RJ7_339 (As := [.ref b, .int (iI 0), .int (iI ((N : Nat) : Int))]) (rest := []) F hl (c_J7_copyOfRangeByte_39247 l X w b cp f N hb0 hby (by omega)) hW hS rfl rfl ⟨Nat.le_of_ble_eq_true rfl, Nat.le_of_ble_eq_true rfl⟩ (Nat.le_of_ble_eq_true rfl) ⟨(by show 0 + 1 ≤ 1; omega), (by show 0 + N ≤ N; omega)⟩ dJ7_copyOfRange_39247_13 (fun v5 w3 H locs hp4 hW hS => ?_)
    obtain ⟨q9, f9, rfl, hfr6, ha7, hm9, hx8⟩ := hp4
    have hb9 := hfr6 _ _ hb0
    have hb0 := hx8 _ _ hb0 
    refine W.wd (mc := 1) (ms := N) (by omega) (by omega) ?_
    have hX9 : ∀ (q : Nat) (e : va_E), w q = some e → w3 q = some e := fun q e h9  => by
      have z9_10 := hfr6 q e h9
      have h9 := hx8 q e h9 
      exact h9
    exact r_aret F (Or.inr ⟨_, hr⟩) hlk hW hS ⟨_, _, rfl, hfr6, ha7, hm9, hX9⟩ dJ7_copyOfRange_39247_16
theorem c_cor (l : Launch) (X : Cx) (w : Wo) (b cp : Nat) (f : Int → Int) (N : Nat) (hb0 : w b = some (aY X cp f)) (hby : ∀ j, 0 ≤ j → j < (cp : Int) → 0 ≤ f j ∧ f j < 128) (hN : N ≤ cp ∧ cp < 100000) : CR l X yJ7_copyOfRange_39247 cJ7_copyOfRange_39247 3 (some (.array .byte)) (rmG 2 1 N 68) [.ref b, .int (iI 0), .int (iI ((N : Nat) : Int))] w (fun v' w' => ∃ (q9 : Nat), ∃ (f9 : Int → Int), v' = .ref q9 ∧ nkn w q9 ∧ w' q9 = some (aY X N f9) ∧ (∀ j, 0 ≤ j → j < ((N : Nat) : Int) → f9 j = f j) ∧ ∀ (q : Nat) (e : va_E), w q = some e → w' q = some e) := by
  by_cases hz : N = cp
  · subst hz
    exact c_cor_e l X w b N f hb0 hby hN.2
  · exact c_cor_l l X w b cp f N hb0 hby ⟨by omega, hN.2⟩
set_option maxHeartbeats 4000000 in
set_option maxRecDepth 100000 in
theorem c_J0_init_db425 (l : Launch) (X : Cx) (w : Wo) (z0 u0 b : Nat) (ml : Int32) (cp : Nat) (f : Int → Int) (N : Nat) (hz0 : w z0 = some (.inr (11, [.null, .int (iI 0), .int (iI 0), .int (iI (bz false))]))) (hu : w u0 = some (.inr (12, [.ref b, .int (iI 0), .int ml, .int (iI ((N : Nat) : Int))]))) (hb0 : w b = some (aY X cp f)) (hby : ∀ j, 0 ≤ j → j < (cp : Int) → 0 ≤ f j ∧ f j < 128) (hN : N ≤ cp ∧ cp < 100000) : CM l X yJ0_init_db425 cJ0_init_db425 5 none (rmG 3 1 N 90) [.ref z0, .ref u0, .null] w none (fun w' => ∃ (q9 : Nat), ∃ (f9 : Int → Int), w' z0 = some (.inr (11, [.ref q9, .int (iI 0), .int (iI 0), .int (iI (bz false))])) ∧ w' q9 = some (aY X N f9) ∧ (∀ j, 0 ≤ j → j < ((N : Nat) : Int) → f9 j = f j) ∧ (nkn w q9) ∧ ∀ (q : Nat) (e : va_E), w q = some e → q ≠ z0 → w' q = some e) := by
  refine CM.of (lv := [(0, .ref z0), (1, .ref u0), (2, .null)]) (by decide) (Nat.le_of_ble_eq_true rfl) rfl (fun p e s m below meth c ls F hr hlk hin hW hS hl => ?_)
  have hZ0 := hW.2.2
  have hB9 := hW.1.2
  skip
  have hzu : z0 ≠ u0 := fun e9 => by rw [e9, hu] at hz0; cases hz0
  have hzb : z0 ≠ b := fun e9 => by rw [e9, hb0] at hz0; cases hz0
  refine lv_aload_n F.1 F.2.1 dJ0_init_db425_0 rfl (lv_at hl 0 rfl) ?_
  refine h_obj F hl hoM_RJ0 hoI dJ0_init_db425_1 ⟨Nat.le_of_ble_eq_true rfl, Nat.le_of_ble_eq_true rfl⟩ ?_
  refine lv_aload_n F.1 F.2.1 dJ0_init_db425_4 rfl (lv_at hl 1 rfl) ?_
  refine cl_RJ0_552 (As := []) (rest := []) F hl (c_J5_getValue_6d5f1 l X w u0 b ml ((N : Nat) : Int) hu) hW hS hu rfl rfl ⟨Nat.le_of_ble_eq_true rfl, Nat.le_of_ble_eq_true rfl⟩ (Nat.le_of_ble_eq_true rfl) ⟨(by show 0 + 0 ≤ 1; omega), (by show 0 + 0 ≤ N; omega)⟩ dJ0_init_db425_5 (fun w1 H locs hp1 hW hS => ?_)
  rw [hp1] at hW; clear hp1; clear w1
  refine lv_astore_n (lv' := [(3, .ref b), (0, .ref z0), (1, .ref u0), (2, .null)]) F.1 F.2.1 dJ0_init_db425_8 rfl hl (by decide) rfl (fun ls hl => ?_)
  refine lv_aload_n F.1 F.2.1 dJ0_init_db425_9 rfl (lv_at hl 2 rfl) ?_
  refine cl_RJ0_549 (As := []) (rest := []) F hl (c_J4_length_8abf5 l X w u0 b ml ((N : Nat) : Int) hu) hW hS hu rfl rfl ⟨Nat.le_of_ble_eq_true rfl, Nat.le_of_ble_eq_true rfl⟩ (Nat.le_of_ble_eq_true rfl) ⟨(by show 0 + 0 + 0 ≤ 1; omega), (by show 0 + 0 + 0 ≤ N; omega)⟩ dJ0_init_db425_10 (fun w1 H locs hp2 hW hS => ?_)
  rw [hp2] at hW; clear hp2; clear w1
  refine lv_istore (lv' := [(4, .int (iI ((N : Nat) : Int))), (3, .ref b), (0, .ref z0), (1, .ref u0), (2, .null)]) F.1 F.2.1 dJ0_init_db425_13 hl (by decide) rfl (fun ls hl => ?_)
  refine lv_aload_n F.1 F.2.1 dJ0_init_db425_15 rfl (lv_at hl 3 rfl) ?_
  refine cl_RJ0_1047 (As := []) (rest := []) F hl (c_J5_isLatin1_aae02 l X w u0 b ml ((N : Nat) : Int) hu) hW hS hu rfl rfl ⟨Nat.le_of_ble_eq_true rfl, Nat.le_of_ble_eq_true rfl⟩ (Nat.le_of_ble_eq_true rfl) ⟨(by show 0 + 0 + 0 + 0 ≤ 1; omega), (by show 0 + 0 + 0 + 0 ≤ N; omega)⟩ dJ0_init_db425_16 (fun w1 H locs hp3 hW hS => ?_)
  rw [hp3] at hW; clear hp3; clear w1
  refine h_ifeqb (tgt := 41) F dJ0_init_db425_19 (by decide) (fun c9 => absurd c9 (by decide)) (fun _ => ?_)
  refine lv_aload_n F.1 F.2.1 dJ0_init_db425_22 rfl (lv_at hl 2 rfl) ?_
  refine h_iconst F dJ0_init_db425_23 ?_
  refine pf_RJ0_15 F hW hS hz0 (Nat.le_of_ble_eq_true rfl) hin dJ0_init_db425_24 (fun w5 H locs ho7 hn6 hW hS => ?_)
  have ho7 : w5 z0 = some (.inr (11, [.null, .int (iI 0), .int (iI 0), .int (iI (bz false))])) := ho7
  have hu := (hn6 _ (by omega)).trans hu
  have hb0 := (hn6 _ (by omega)).trans hb0
  refine lv_aload_n F.1 F.2.1 dJ0_init_db425_27 rfl (lv_at hl 2 rfl) ?_
  refine lv_aload_n F.1 F.2.1 dJ0_init_db425_28 rfl (lv_at hl 1 rfl) ?_
  refine h_iconst F dJ0_init_db425_29 ?_
  refine lv_iload F.1 F.2.1 dJ0_init_db425_30 (lv_at hl 0 rfl) ?_
  have hz32 := ho7
  refine cr_RJ0_54 (As := [.ref b, .int (iI 0), .int (iI ((N : Nat) : Int))]) (rest := [.ref z0]) F hl (c_cor l X w5 b cp f N hb0 hby (by omega)) hW hS rfl rfl ⟨Nat.le_of_ble_eq_true rfl, Nat.le_of_ble_eq_true rfl⟩ (Nat.le_of_ble_eq_true rfl) ⟨(by show 0 + 0 + 0 + 0 + 1 ≤ 1; omega), (by show 0 + 0 + 0 + 0 + N ≤ N; omega)⟩ dJ0_init_db425_32 (fun v10 w8 H locs hp9 hW hS => ?_)
  obtain ⟨q9, f9, rfl, hfr11, ha12, hm9, hx13⟩ := hp9
  have hb14 := hfr11 _ _ ho7
  have hb15 := hfr11 _ _ hu
  have hb16 := hfr11 _ _ hb0
  have ho7 := hx13 _ _ ho7 
  have hu := hx13 _ _ hu 
  have hb0 := hx13 _ _ hb0 
  have hnkq : nkn w q9 := nkq hfr11 (fun q e h9 h19 => by have h9 := (hn6 q (by omega)).trans h9; exact h9) hz32
  refine pf_RJ0_9 F hW hS ho7 (Nat.le_of_ble_eq_true rfl) hin dJ0_init_db425_35 (fun w17 H locs ho19 hn18 hW hS => ?_)
  have ho19 : w17 z0 = some (.inr (11, [.ref q9, .int (iI 0), .int (iI 0), .int (iI (bz false))])) := ho19
  have hu := (hn18 _ (by omega)).trans hu
  have hb0 := (hn18 _ (by omega)).trans hb0
  have ha12 := (hn18 _ (by omega)).trans ha12
  refine h_goto (tgt := 97) F dJ0_init_db425_38 (by decide) ?_
  refine W.wd (mc := 1) (ms := N) (by omega) (by omega) ?_
  have hX9 : ∀ (q : Nat) (e : va_E), w q = some e → q ≠ z0 → w17 q = some e := fun q e h9 h09 => by
    have h9 := (hn6 q (by omega)).trans h9
    have z9_20 := hfr11 q e h9
    have h9 := hx13 q e h9 
    have h9 := (hn18 q (by omega)).trans h9
    exact h9
  exact h_vret F hr hlk hW hS ⟨_, _, ho19, ha12, hm9, hnkq, hX9⟩ dJ0_init_db425_97
set_option maxHeartbeats 4000000 in
set_option maxRecDepth 100000 in
theorem c_J0_init_81219 (l : Launch) (X : Cx) (w : Wo) (z0 u0 b : Nat) (ml : Int32) (cp : Nat) (f : Int → Int) (N : Nat) (hz0 : w z0 = some (.inr (11, [.null, .int (iI 0), .int (iI 0), .int (iI (bz false))]))) (hu : w u0 = some (.inr (12, [.ref b, .int (iI 0), .int ml, .int (iI ((N : Nat) : Int))]))) (hb0 : w b = some (aY X cp f)) (hby : ∀ j, 0 ≤ j → j < (cp : Int) → 0 ≤ f j ∧ f j < 128) (hN : N ≤ cp ∧ cp < 100000) : CM l X yJ0_init_81219 cJ0_init_81219 2 none (rmG 4 1 N 114) [.ref z0, .ref u0] w none (fun w' => ∃ (q9 : Nat), ∃ (f9 : Int → Int), w' z0 = some (.inr (11, [.ref q9, .int (iI 0), .int (iI 0), .int (iI (bz false))])) ∧ w' q9 = some (aY X N f9) ∧ (∀ j, 0 ≤ j → j < ((N : Nat) : Int) → f9 j = f j) ∧ (nkn w q9) ∧ ∀ (q : Nat) (e : va_E), w q = some e → q ≠ z0 → w' q = some e) := by
  refine CM.of (lv := [(0, .ref z0), (1, .ref u0)]) (by decide) (Nat.le_of_ble_eq_true rfl) rfl (fun p e s m below meth c ls F hr hlk hin hW hS hl => ?_)
  have hZ0 := hW.2.2
  have hB9 := hW.1.2
  skip
  have hzu : z0 ≠ u0 := fun e9 => by rw [e9, hu] at hz0; cases hz0
  have hzb : z0 ≠ b := fun e9 => by rw [e9, hb0] at hz0; cases hz0
  refine lv_aload_n F.1 F.2.1 dJ0_init_81219_0 rfl (lv_at hl 0 rfl) ?_
  refine lv_aload_n F.1 F.2.1 dJ0_init_81219_1 rfl (lv_at hl 1 rfl) ?_
  refine lv_null F.1 F.2.1 dJ0_init_81219_2 ?_
  refine cl_RJ0_489 (As := [.ref u0, .null]) (rest := []) F hl (c_J0_init_db425 l X w z0 u0 b ml cp f N hz0 hu hb0 hby (by omega)) hW hS rfl rfl ⟨Nat.le_of_ble_eq_true rfl, Nat.le_of_ble_eq_true rfl⟩ (Nat.le_of_ble_eq_true rfl) ⟨(by show 0 + 1 ≤ 1; omega), (by show 0 + N ≤ N; omega)⟩ dJ0_init_81219_3 (fun w1 H locs hp2 hW hS => ?_)
  obtain ⟨q9, f9, ho3, ha4, hm9, hnkq, hx5⟩ := hp2
  have hu := hx5 _ _ hu (by omega)
  have hb0 := hx5 _ _ hb0 (by omega)
  refine W.wd (mc := 1) (ms := N) (by omega) (by omega) ?_
  have hX9 : ∀ (q : Nat) (e : va_E), w q = some e → q ≠ z0 → w1 q = some e := fun q e h9 h09 => by
    have h9 := hx5 q e h9 (by omega)
    exact h9
  exact h_vret F hr hlk hW hS ⟨_, _, ho3, ha4, hm9, hnkq, hX9⟩ dJ0_init_81219_6
set_option maxHeartbeats 4000000 in
set_option maxRecDepth 100000 in
theorem c_toS_N (l : Launch) (X : Cx) (w : Wo) (u0 b : Nat) (ml : Int32) (cp : Nat) (f0 f : Int → Int) (N C9 : Nat) (hu : w u0 = some (.inr (12, [.ref b, .int (iI 0), .int ml, .int (iI ((N : Nat) : Int))]))) (hb0 : w b = some (aY X cp f0)) (hP : sbP cp f0 ((N : Nat) : Int) f C9) (hN : C9 < 100000) : CR l X yJ4_toString_0e30d cJ4_toString_0e30d 1 (some (.object "java/lang/String")) (rmG 5 2 (4 + C9) 135) [.ref u0] w (fun v' w' => ∃ (z9 : Nat), ∃ (f9 : Int → Int), v' = .ref z9 ∧ frs w z9 ∧ (str X (wr w' (fun q => w q ≠ none)) z9 N f9) ∧ (∀ j, 0 ≤ j → j < ((N : Nat) : Int) → f9 j = f j) ∧ ∀ (q : Nat) (e : va_E), w q = some e → w' q = some e) := by
  refine CR.of (lv := [(0, .ref u0)]) (by decide) (Nat.le_of_ble_eq_true rfl) rfl (fun p e s m below meth c ls F hr hlk hin hW hS hl => ?_)
  have hZ0 := hW.2.2
  have hB9 := hW.1.2
  clear hin
  have hP1 := hP.1
  refine q_new (ci := 11) (fs := [.null, .int (iI 0), .int (iI 0), .int (iI (bz false))]) F hW hS inJ0 tyJ0 tyJ0_ok kl_RJ4_18 kb_RJ0 kn_RJ0 rfl (by intro j hj; rcases (show j = 0 ∨ j = 1 ∨ j = 2 ∨ j = 3 by omega) with hj | hj | hj | hj <;> subst hj <;> rfl) ⟨(by show 0 + 1 ≤ 2; omega), (by show 0 + 4 ≤ (4 + C9); omega)⟩ dJ4_toString_0e30d_0 (fun z9 w1 H hfr4 hcx5 ho3 hn2 hW hS => ?_)
  have hb6 := hfr4 _ _ hu
  have hb7 := hfr4 _ _ hb0
  have hu := (hn2 _ (by omega)).trans hu
  have hb0 := (hn2 _ (by omega)).trans hb0
  have hfrS := hfr4
  refine lv_dup F.1 F.2.1 dJ4_toString_0e30d_3 rfl ?_
  refine lv_aload_n F.1 F.2.1 dJ4_toString_0e30d_4 rfl (lv_at hl 0 rfl) ?_
  have hE5 : ext w w1 := (show ext w w1 from fun q e h9 => by have z9_1 := hfr4 q e h9; have h9 := (hn2 q (by omega)).trans h9; exact h9)
  refine cl_RJ4_137 (As := [.ref u0]) (rest := [.ref z9]) F hl (c_J0_init_81219 l X w1 z9 u0 b ml cp f0 N ho3 hu hb0 hP.2.1 (by omega)) hW hS rfl rfl ⟨Nat.le_of_ble_eq_true rfl, Nat.le_of_ble_eq_true rfl⟩ (Nat.le_of_ble_eq_true rfl) ⟨(by show 0 + 1 + 1 ≤ 2; omega), (by show 0 + 4 + N ≤ (4 + C9); omega)⟩ dJ4_toString_0e30d_5 (fun w8 H locs hp9 hW hS => ?_)
  obtain ⟨q9, f9, ho10, ha11, hm9, hnkq, hx12⟩ := hp9
  have hu := hx12 _ _ hu (by omega)
  have hb0 := hx12 _ _ hb0 (by omega)
  refine W.wd (mc := 2) (ms := (4 + C9)) (by omega) (by omega) ?_
  have hX9 : ∀ (q : Nat) (e : va_E), w q = some e → w8 q = some e := fun q e h9  => by
    have z9_13 := hfr4 q e h9
    have h9 := (hn2 q (by omega)).trans h9
    have h9 := hx12 q e h9 (by omega)
    exact h9
  exact r_aret F (Or.inl ⟨_, hr⟩) hlk hW hS ⟨_, _, rfl, hfrS, (str.W (wr_some.mpr ⟨frs.un hfrS, ho10⟩) (wr_some.mpr ⟨nkn.un (nkn.dn hnkq hE5), ha11⟩)), (fun j h1 h2 => (hm9 j h1 h2).trans (hP.2.2 j h1 h2)), hX9⟩ dJ4_toString_0e30d_8
theorem c_toS (l : Launch) (X : Cx) (w : Wo) (u0 b : Nat) (ml : Int32) (n : Int) (cp : Nat) (f0 f : Int → Int) (C9 : Nat) (hu : w u0 = some (.inr (12, [.ref b, .int (iI 0), .int ml, .int (iI n)]))) (hb0 : w b = some (aY X cp f0)) (hP : sbP cp f0 n f C9) (hN : C9 < 100000) : CR l X yJ4_toString_0e30d cJ4_toString_0e30d 1 (some (.object "java/lang/String")) (rmG 5 2 (4 + C9) 135) [.ref u0] w (fun v' w' => ∃ (z9 : Nat), ∃ (f9 : Int → Int), v' = .ref z9 ∧ frs w z9 ∧ (str X (wr w' (fun q => w q ≠ none)) z9 n.toNat f9) ∧ (∀ j, 0 ≤ j → j < n → f9 j = f j) ∧ ∀ (q : Nat) (e : va_E), w q = some e → w' q = some e) := by
  obtain ⟨N, rfl⟩ : ∃ N : Nat, n = (N : Int) := ⟨n.toNat, by have := hP.1; omega⟩
  rw [show ((N : Nat) : Int).toNat = N by omega]
  exact c_toS_N l X w u0 b ml cp f0 f N C9 hu hb0 hP hN
set_option maxHeartbeats 4000000 in
set_option maxRecDepth 100000 in
theorem c_J3_checkFromToIndex_8c36e (l : Launch) (X : Cx) (w : Wo) (a b : Int) (q : Nat) (hab : 0 ≤ a ∧ a ≤ b ∧ b < 100000) : CM l X yJ3_checkFromToIndex_8c36e cJ3_checkFromToIndex_8c36e 4 (some (.int)) (rmG 0 0 0 0) [.int (iI 0), .int (iI a), .int (iI b), .ref q] w (some (.int (iI 0))) (fun w' => w' = w) := by
  refine CM.of (lv := [(0, .int (iI 0)), (1, .int (iI a)), (2, .int (iI b)), (3, .ref q)]) (by decide) (Nat.le_of_ble_eq_true rfl) rfl (fun p e s m below meth c ls F hr hlk hin hW hS hl => ?_)
  have hZ0 := hW.2.2
  have hB9 := hW.1.2
  clear hin
  refine lv_iload_n F.1 F.2.1 dJ3_checkFromToIndex_8c36e_0 rfl (lv_at hl 0 rfl) ?_
  refine h_iflt (tgt := 14) F dJ3_checkFromToIndex_8c36e_1 (by decide) (by decide) (fun c9 => absurd c9 (by decide)) (fun _ => ?_)
  refine lv_iload_n F.1 F.2.1 dJ3_checkFromToIndex_8c36e_4 rfl (lv_at hl 0 rfl) ?_
  refine lv_iload_n F.1 F.2.1 dJ3_checkFromToIndex_8c36e_5 rfl (lv_at hl 1 rfl) ?_
  refine h_icgt (tgt := 14) F dJ3_checkFromToIndex_8c36e_6 (by decide) (by omega) (fun c2 => ?_) (fun c2 => ?_)
  · exfalso; omega
  · refine lv_iload_n F.1 F.2.1 dJ3_checkFromToIndex_8c36e_9 rfl (lv_at hl 1 rfl) ?_
    refine lv_iload_n F.1 F.2.1 dJ3_checkFromToIndex_8c36e_10 rfl (lv_at hl 2 rfl) ?_
    refine h_icle (tgt := 22) F dJ3_checkFromToIndex_8c36e_11 (by decide) (by omega) (fun c3 => ?_) (fun c3 => ?_)
    · refine lv_iload_n F.1 F.2.1 dJ3_checkFromToIndex_8c36e_22 rfl (lv_at hl 0 rfl) ?_
      exact h_ireti F hr hlk hW hS rfl dJ3_checkFromToIndex_8c36e_23
    · exfalso; omega
