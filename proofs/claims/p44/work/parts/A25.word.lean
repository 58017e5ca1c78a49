set_option maxHeartbeats 4000000 in
set_option maxRecDepth 100000 in
theorem c_L_word (l : Launch) (X : Cx) (w : Wo) (gq : Nat) (gf : Int → Int) (hg9 : w gq = some (aZ X 1 gf)) : CR l X yL_word cL_word 5 (some (.object "java/lang/String")) (rmG 6 8 110 155) [.ref gq, .int (iI 3)] w (fun v' w' => ∃ (z9 n9 : Nat), ∃ (f9 gf2 : Int → Int), v' = .ref z9 ∧ frs w z9 ∧ w' gq = some (aZ X 1 gf2) ∧ (str X (wr w' (fun q => w q ≠ none)) z9 n9 f9) ∧ (1 ≤ n9 ∧ n9 ≤ 3) ∧ (∀ j, 0 ≤ j → j < (n9 : Int) → 97 ≤ f9 j ∧ f9 j ≤ 122) ∧ ∀ (q : Nat) (e : va_E), w q = some e → q ≠ gq → w' q = some e) := by
  refine CR.of (lv := [(0, .ref gq), (1, .int (iI 3))]) (by decide) (Nat.le_of_ble_eq_true rfl) rfl (fun p e s m below meth c ls F hr hlk hin hW hS hl => ?_)
  have hZ0 := hW.2.2
  have hB9 := hW.1.2
  clear hin
  have hg0 := hg9
  refine q_new (ci := 12) (fs := [.null, .int (iI 0), .int (iI (bz false)), .int (iI 0)]) F hW hS inJ4 tyJ4 tyJ4_ok kl_RL_40 kb_RJ4 kn_RJ4 rfl (by intro j hj; rcases (show j = 0 ∨ j = 1 ∨ j = 2 ∨ j = 3 by omega) with hj | hj | hj | hj <;> subst hj <;> rfl) ⟨(by show 0 + 1 ≤ 8; omega), (by show 0 + 4 ≤ 110; omega)⟩ dL_word_0 (fun u0 w1 H hfr4 hcx5 ho3 hn2 hW hS => ?_)
  have hb6 := hfr4 _ _ hg9
  have hg9 := (hn2 _ (by omega)).trans hg9
  refine lv_dup F.1 F.2.1 dL_word_3 rfl ?_
  have hu9a := ho3
  refine cl_RL_42 (As := []) (rest := [.ref u0]) F hl (c_J4_init_da8c8 l X w1 u0 ho3) hW hS rfl rfl ⟨Nat.le_of_ble_eq_true rfl, Nat.le_of_ble_eq_true rfl⟩ (Nat.le_of_ble_eq_true rfl) ⟨(by show 0 + 1 + 1 ≤ 8; omega), (by show 0 + 4 + 16 ≤ 110; omega)⟩ dL_word_4 (fun w7 H locs hp8 hW hS => ?_)
  obtain ⟨b9, ho9, ha10, hfrS, hx11⟩ := hp8
  have hg9 := hx11 _ _ hg9 (by omega)
  have hub9 : u0 < b9 := hfrS _ _ hu9a
  refine lv_astore_n (lv' := [(2, .ref u0), (0, .ref gq), (1, .int (iI 3))]) F.1 F.2.1 dL_word_7 rfl hl (by decide) rfl (fun ls hl => ?_)
  refine h_ldcL (tx := "ahitoxbedz") (i := 14) F hW (by decide +kernel) dL_word_8 ?_
  refine lv_astore_n (lv' := [(3, .ref (X.2.2 (60 + 14))), (2, .ref u0), (0, .ref gq), (1, .int (iI 3))]) F.1 F.2.1 dL_word_10 rfl hl (by decide) rfl (fun ls hl => ?_)
  refine lv_aload_n F.1 F.2.1 dL_word_11 rfl (lv_at hl 2 rfl) ?_
  refine lv_iload_n F.1 F.2.1 dL_word_12 rfl (lv_at hl 3 rfl) ?_
  refine cr_RL_45 (As := [.ref gq, .int (iI 3)]) (rest := []) F hl (c_L_draw l X w7 gq gf 3 hg9 (by omega)) hW hS rfl rfl ⟨Nat.le_of_ble_eq_true rfl, Nat.le_of_ble_eq_true rfl⟩ (Nat.le_of_ble_eq_true rfl) ⟨(by show 0 + 1 + 1 + 0 ≤ 8; omega), (by show 0 + 4 + 16 + 0 ≤ 110; omega)⟩ dL_word_13 (fun v14 w12 H locs hp13 hW hS => ?_)
  obtain ⟨d, g1, rfl, hm15, ha16, hx17⟩ := hp13
  have ho9 := hx17 _ _ ho9 (by omega)
  have ha10 := hx17 _ _ ha10 (by omega)
  refine lv_istore (lv' := [(4, .int (iI d)), (3, .ref (X.2.2 (60 + 14))), (2, .ref u0), (0, .ref gq), (1, .int (iI 3))]) F.1 F.2.1 dL_word_16 hl (by decide) rfl (fun ls hl => ?_)
  have loop18 : ∀ (n9 : Nat) (k : Int) (kc18 ks18 : Nat) (bk cpk : Nat) (f0k fk gk : Int → Int), (hrg : 0 ≤ k ∧ k ≤ d + 1) → (hms : d + 1 - k < (n9 : Int)) → (w6 : Wo) → (hF18 : ∀ (q : Nat) (e : va_E), w12 q = some e → q < u0 → q ≠ gq → w6 q = some e) → (hkc18 : ((kc18 : Nat) : Int) ≤ ((0 + 1 + 1 + 0 : Nat) : Int) + 1 * k) → (hks18 : ((ks18 : Nat) : Int) ≤ ((0 + 4 + 16 + 0 : Nat) : Int) + 16 * k) → (hu9 : w6 u0 = some (.inr (12, [.ref bk, .int (iI 0), .int (iI (bz false)), .int (iI (k))]))) → (hb9 : w6 bk = some (aY X cpk f0k)) → (hg8 : w6 gq = some (aZ X 1 gk)) → (hP9 : sbP cpk f0k k fk 16) → (hub8 : u0 < bk) → (hr9 : ∀ j, 0 ≤ j → j < k → 97 ≤ fk j ∧ fk j ≤ 122) → (H : Heap) → (locs : List Loc) → (ls : Array Slot) → Wd X w6 s H → va_S (cxA X) s.heap H locs → lv_has ls 5 [(4, .int (iI (d - k))), (3, .ref (X.2.2 (60 + 14))), (2, .ref u0), (0, .ref gq), (1, .int (iI 3))] → W p l e (rmG 6 8 110 155) s m (List.toArray [.ref gq, .int (iI 3)]) below meth c H locs kc18 ks18 (MR X below (List.toArray [.ref gq, .int (iI 3)]) s 8 110 (fun v' w' => ∃ (z9 n9 : Nat), ∃ (f9 gf2 : Int → Int), v' = .ref z9 ∧ frs w z9 ∧ w' gq = some (aZ X 1 gf2) ∧ (str X (wr w' (fun q => w q ≠ none)) z9 n9 f9) ∧ (1 ≤ n9 ∧ n9 ≤ 3) ∧ (∀ j, 0 ≤ j → j < (n9 : Int) → 97 ≤ f9 j ∧ f9 j ≤ 122) ∧ ∀ (q : Nat) (e : va_E), w q = some e → q ≠ gq → w' q = some e)) (F0 m 18 ls []) := by
    intro n9
    induction n9 with
    | zero => intro k kc18 ks18  bk cpk  f0k fk gk  hrg hms; exfalso; omega
    | succ n9 ih18 =>
      intro k kc18 ks18  bk cpk  f0k fk gk  hrg hms w6 hF18 hkc18 hks18 hu9 hb9 hg8 hP9 hub8 hr9 H locs ls hW hS hl
      refine lv_iload F.1 F.2.1 dL_word_18 (lv_at hl 0 rfl) ?_
      refine h_iflt (tgt := 44) F dL_word_20 (by decide) (by omega) (fun c18 => ?_) (fun c18 => ?_)
      · refine lv_aload_n F.1 F.2.1 dL_word_44 rfl (lv_at hl 2 rfl) ?_
        have hke : k = d + 1 := by omega
        have hgb : ∀ (q : Nat) (e : va_E), w q = some e → q ≠ gq →  w6 q = some e := fun q e h9 h09 => by have z9_1 := hfr4 q e h9; have h9 := (hn2 q (by omega)).trans h9; have h9 := hx11 q e h9 (by omega); have h9 := hx17 q e h9 (by omega); have h9 := hF18 q e h9 (by omega) (by omega); exact h9
        have hgz := hg8
        refine cr_RL_52 (As := []) (rest := []) F hl (c_toS l X w6 u0 bk (iI (bz false)) k cpk f0k fk 16 hu9 hb9 hP9 (by omega)) hW hS hu9 rfl rfl ⟨Nat.le_of_ble_eq_true rfl, Nat.le_of_ble_eq_true rfl⟩ (Nat.le_of_ble_eq_true rfl) ⟨(by show kc18 + 2 ≤ 8; omega), (by show ks18 + (4 + 16) ≤ 110; omega)⟩ dL_word_45 (fun v21 w19 H locs hp20 hW hS => ?_)
        obtain ⟨z9, fz, rfl, hfr22, hstr, hfz, hx23⟩ := hp20
        have hb24 := hfr22 _ _ hu9
        have hb25 := hfr22 _ _ hb9
        have hb26 := hfr22 _ _ hg8
        have hu9 := hx23 _ _ hu9 
        have hb9 := hx23 _ _ hb9 
        have hg8 := hx23 _ _ hg8 
        refine W.wd (mc := 8) (ms := 110) (by omega) (by omega) ?_
        have hX9 : ∀ (q : Nat) (e : va_E), w q = some e → q ≠ gq → w19 q = some e := fun q e h9 h09 => by
          have z9_27 := hfr4 q e h9
          have h9 := (hn2 q (by omega)).trans h9
          have h9 := hx11 q e h9 (by omega)
          have h9 := hx17 q e h9 (by omega)
          have h9 := hF18 q e h9 (by omega) (by omega)
          have z9_28 := hfr22 q e h9
          have h9 := hx23 q e h9 
          exact h9
        exact r_aret F (Or.inl ⟨_, hr⟩) hlk hW hS ⟨_, _, _, _, rfl, (frq hfr22 hgb hgz), (by (rw [hg8]) <;> (rfl)), (hstr.ex (wr_sub2 (kn_of hgb hgz))), ⟨(by omega), (by omega)⟩, (fun j h1 h2 => by rw [hfz j h1 (by omega)]; exact hr9 j h1 (by omega)), hX9⟩ dL_word_48
      · refine lv_aload_n F.1 F.2.1 dL_word_23 rfl (lv_at hl 2 rfl) ?_
        refine lv_aload_n F.1 F.2.1 dL_word_24 rfl (lv_at hl 1 rfl) ?_
        refine lv_aload_n F.1 F.2.1 dL_word_25 rfl (lv_at hl 3 rfl) ?_
        refine h_bipush F dL_word_26 rfl ?_
        refine cr_RL_45 (As := [.ref gq, .int (iI 10)]) (rest := [.ref (X.2.2 (60 + 14)), .ref u0]) F hl (c_L_draw l X w6 gq gk 10 hg8 (by omega)) hW hS rfl rfl ⟨Nat.le_of_ble_eq_true rfl, Nat.le_of_ble_eq_true rfl⟩ (Nat.le_of_ble_eq_true rfl) ⟨(by show kc18 + 0 ≤ 8; omega), (by show ks18 + 0 ≤ 110; omega)⟩ dL_word_28 (fun v31 w29 H locs hp30 hW hS => ?_)
        obtain ⟨dx, gx, rfl, hm32, ha33, hx34⟩ := hp30
        have hu9 := hx34 _ _ hu9 (by omega)
        have hb9 := hx34 _ _ hb9 (by omega)
        have hlr := lw14 (j := dx) (by omega)
        refine cs_RL_13 (As := [.int (iI dx)]) (rest := [.ref u0]) F hl (cK_chr l X w29 14 dx (by decide) (by rw [show lwN.getD 14 0 = 10 from rfl]; omega)) hW hS (vk_recv (i := 14) hZ0.2.2.2.2.2.1 (by decide) hS) rfl rfl ⟨Nat.le_of_ble_eq_true rfl, Nat.le_of_ble_eq_true rfl⟩ (Nat.le_of_ble_eq_true rfl) ⟨(by show kc18 + 0 + 0 ≤ 8; omega), (by show ks18 + 0 + 0 ≤ 110; omega)⟩ dL_word_31 (fun w1 H locs hp35 hW hS => ?_)
        rw [hp35] at hW; clear hp35; clear w1
        refine cl_RL_49 (As := [.int (iI (lw 14 dx))]) (rest := []) F hl (c_J4_append_cf468 l X w29 u0 bk (iI (bz false)) k cpk f0k fk 16 (lw 14 dx) hu9 hb9 hP9 (by omega) (by omega) (by omega)) hW hS hu9 rfl rfl ⟨Nat.le_of_ble_eq_true rfl, Nat.le_of_ble_eq_true rfl⟩ (Nat.le_of_ble_eq_true rfl) ⟨(by show kc18 + 0 + 0 + 1 ≤ 8; omega), (by show ks18 + 0 + 0 + 16 ≤ 110; omega)⟩ dL_word_34 (fun w36 H locs hp37 hW hS => ?_)
        obtain ⟨bx, cx, fx, ho38, ha39, hPx, hbx, hubx, hx40⟩ := hp37
        have ha33 := hx40 _ _ ha33 (by omega) (by omega)
        refine lv_pop F.1 F.2.1 dL_word_37 rfl ?_
        refine h_iinc (k := 0) (a := d - k) (lv' := [(4, .int (iI ((d - k) + (-1)))), (3, .ref (X.2.2 (60 + 14))), (2, .ref u0), (0, .ref gq), (1, .int (iI 3))]) F dL_word_38 hl rfl (by decide) rfl (fun ls hl => ?_)
        refine h_goto (tgt := 18) F dL_word_41 (by decide) ?_
        have eq41 : (d - (k + 1) : Int) = (d - k) + (-1) := by first | rfl | omega | simp
        exact ih18 (k + 1) (kc18 + 0 + 0 + 1) (ks18 + 0 + 0 + 16) bx cx fx (apS fk k (fun _ => lw 14 dx)) gx (by omega) (by omega) w36 (fun q e h9 h09 h19 => by
            have h9 := hF18 q e h9 (by omega) (by omega)
            have h9 := hx34 q e h9 (by omega)
            have h9 := hx40 q e h9 (by omega) (by omega)
            exact h9) (by omega) (by omega) ho38 ha39 ha33 hPx hubx (apS_r hr9 (fun j h1 h2 => hlr)) _ _ ls hW hS (by rw [eq41]; exact lv_sub hl [0, 1, 2, 3, 4] rfl)
  have eq42 : (d - 0 : Int) = d := by first | rfl | omega | simp
  exact loop18 ((d + 1 - 0) + 1 : Int).toNat 0 (0 + 1 + 1 + 0) (0 + 4 + 16 + 0) b9 16 (fun _ => 0) (fun _ => 0) g1  (by omega) (by omega) w12 (fun q e h9 h09 h19 => by
      exact h9) (by omega) (by omega) ho9 ha10 ha16 (sbP.z (by omega)) hub9 (fun j h1 h2 => by omega) _ _ ls hW hS (by rw [eq42]; exact lv_sub hl [0, 1, 2, 3, 4] rfl)
