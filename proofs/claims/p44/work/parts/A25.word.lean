set_option maxHeartbeats 4000000 in
set_option maxRecDepth 100000 in
theorem c_L_word (l : Launch) (X : Cx) (w : Wo) (gq : Nat) (gf : Int → Int) (hg9 : w gq = some (aZ X 1 gf)) : CR l X yL_word cL_word 5 (some (.object "java/lang/String")) (rmG 6 8 110 155) [.ref gq, .int (iI 3)] w (fun v' w' => ∃ (z9 n9 : Nat), ∃ (f9 gf2 : Int → Int), v' = .ref z9 ∧ frs w z9 ∧ w' gq = some (aZ X 1 gf2) ∧ (str X (wr w' (fun q => w q ≠ none)) z9 n9 f9) ∧ (1 ≤ n9 ∧ n9 ≤ 3) ∧ (∀ j, 0 ≤ j → j < (n9 : Int) → 97 ≤ f9 j ∧ f9 j ≤ 122) ∧ ∀ (q : Nat) (e : va_E), w q = some e → q ≠ gq → w' q = some e) := by
  refine CR.of (lv := [(0, .ref gq), (1, .int (iI 3))]) (by decide) (Nat.le_of_ble_eq_true rfl) rfl (fun p e s m below meth c ls F hr hlk hin hW hS hl => ?_)
  have hZ0 := hW.2.2
  have hB9 := hW.1.2
  clear hin
  have hg0 := hg9
  refine q_new (ci := 12) (fs := [.null, .int (iI 0), .int (iI (bz false)), .int (iI 0)]) F hW hS inJ4 tyJ4 tyJ4_ok kl_RL_40 kb_RJ4 kn_RJ4 rfl (by intro j hj; rcases (show j = 0 ∨ j = 1 ∨ j = 2 ∨ j = 3 by omega) with hj | hj | hj | hj <;> subst hj <;> rfl) ⟨(by show 0 + 1 ≤ 8; omega), (by show 0 + 4 ≤ 110; omega)⟩ dL_word_0 (fun u0 w1 H hfr4 hcx5 ho3 hn2 hW hS => ?_)
  have hb6 := hfr4 _ _ hg9
  have hg9 := (hn2 _ (by omega)).trans hg9
  refine lv_dup F.1 F.2.1 dL_word_3 rfl ?_
  have hu9a := ho3
  refine cl_RL_42 (As := []) (rest := [.ref u0]) F hl (c_J4_init_da8c8 l X w1 u0 ho3) hW hS rfl rfl ⟨Nat.le_of_ble_eq_true rfl, Nat.le_of_ble_eq_true rfl⟩ (Nat.le_of_ble_eq_true rfl) ⟨(by show 0 + 1 + 1 ≤ 8; omega), (by show 0 + 4 + 16 ≤ 110; omega)⟩ dL_word_4 (fun w7 H locs hp8 hW hS => ?_)
  obtain ⟨b9, ho9, ha10, hfrS, hx11⟩ := hp8
  have hg9 := hx11 _ _ hg9 (by omega)
  have hub9 : u0 < b9 := hfrS _ _ hu9a
  refine lv_astore_n (lv' := [(2, .ref u0), (0, .ref gq), (1, .int (iI 3))]) F.1 F.2.1 dL_word_7 rfl hl (by decide) rfl (fun ls hl => ?_)
  refine h_ldcL (tx := "ahitoxbedz") (i := 14) F hW (by decide +kernel) dL_word_8 ?_
  refine lv_astore_n (lv' := [(3, .ref (X.2.2 (60 + 14))), (2, .ref u0), (0, .ref gq), (1, .int (iI 3))]) F.1 F.2.1 dL_word_10 rfl hl (by decide) rfl (fun ls hl => ?_)
  refine lv_aload_n F.1 F.2.1 dL_word_11 rfl (lv_at hl 2 rfl) ?_
  refine lv_iload_n F.1 F.2.1 dL_word_12 rfl (lv_at hl 3 rfl) ?_
  refine cr_RL_45 (As := [.ref gq, .int (iI 3)]) (rest := []) F hl (c_L_draw l X w7 gq gf 3 hg9 (by omega)) hW hS rfl rfl ⟨Nat.le_of_ble_eq_true rfl, Nat.le_of_ble_eq_true rfl⟩ (Nat.le_of_ble_eq_true rfl) ⟨(by show 0 + 1 + 1 + 0 ≤ 8; omega), (by show 0 + 4 + 16 + 0 ≤ 110; omega)⟩ dL_word_13 (fun v14 w12 H locs hp13 hW hS => ?_)
  obtain ⟨d, g1, rfl, hm15, ha16, hx17⟩ := hp13
  have ho9 := hx17 _ _ ho9 (by omega)
  have ha10 := hx17 _ _ ha10 (by omega)
  refine lv_istore (lv' := [(4, .int (iI d)), (3, .ref (X.2.2 (60 + 14))), (2, .ref u0), (0, .ref gq), (1, .int (iI 3))]) F.1 F.2.1 dL_word_16 hl (by decide) rfl (fun ls hl => ?_)
  have loop18 : ∀ (n9 : Nat) (k : Int) (kc18 ks18 : Nat) (bk cpk : Nat) (f0k fk gk : Int → Int), (hrg : 0 ≤ k ∧ k ≤ d + 1) → (hms : d + 1 - k < (n9 : Int)) → (w6 : Wo) → (hF18 : ∀ (q : Nat) (e : va_E), w12 q = some e → q < u0 → q ≠ gq → w6 q = some e) → (hkc18 : ((kc18 : Nat) : Int) ≤ ((0 + 1 + 1 + 0 : Nat) : Int) + 1 * k) → (hks18 : ((ks18 : Nat) : Int) ≤ ((0 + 4 + 16 + 0 : Nat) : Int) + 16 * k) → (hu9 : w6 u0 = some (.inr (12, [.ref bk, .int (iI 0), .int (iI (bz false)), .int (iI (k))]))) → (hb9 : w6 bk = some (aY X cpk f0k)) → (hg8 : w6 gq = some (aZ X 1 gk)) → (hP9 : sbP cpk f0k k fk 16) → (hub8 : u0 < bk) → (hr9 : ∀ j, 0 ≤ j → j < k → 97 ≤ fk j ∧ fk j ≤ 122) → (H : Heap) → (locs : List Loc) → (ls : Array Slot) → Wd X w6 s H → va_S (cxA X) s.heap H locs → lv_has ls 5 [(4, .int (iI (d - k))), (3, .ref (X.2.2 (60 + 14))), (2, .ref u0), (0, .ref gq), (1, .int (iI 3))] → W p l e (rmG 6 8 110 155) s m (List.toArray [.ref gq, .int (iI 3)]) below meth c H locs kc18 ks18 (MR X below (List.toArray [.ref gq, .int (iI 3)]) s 8 110 (fun v' w' => ∃ (z9 n9 : Nat), ∃ (f9 gf2 : Int → Int), v' = .ref z9 ∧ frs w z9 ∧ w' gq = some (aZ X 1 gf2) ∧ (str X (wr w' (fun q => w q ≠ none)) z9 n9 f9) ∧ (1 ≤ n9 ∧ n9 ≤ 3) ∧ (∀ j, 0 ≤ j → j < (n9 : Int) → 97 ≤ f9 j ∧ f9 j ≤ 122) ∧ ∀ (q : Nat) (e : va_E), w q = some e → q ≠ gq → w' q = some e)) (F0 m 18 ls []) := by
    intro n9
    induction n9 with
    | zero => intro k kc18 ks18  bk cpk  f0k fk gk  hrg hms; exfalso; omega
    | succ n9 ih18 =>
      intro k kc18 ks18  bk cpk  f0k fk gk  hrg hms w6 hF18 hkc18 hks18 hu9 hb9 hg8 hP9 hub8 hr9 H locs ls hW hS hl
      refine lv_iload F.1 F.2.1 dL_word_18 (lv_at hl 0 rfl) ?_
      refine h_iflt (tgt := 44) F dL_word_20 (by decide) (by omega) (fun c18 => ?_) (fun c18 => ?_)
      · refine lv_aload_n F.1 F.2.1 dL_word_44 rfl (lv_at hl 2 rfl) ?_
        have hke : k = d + 1 := by omega
        have hgb : ∀ (q : Nat) (e : va_E), w q = some e → q ≠ gq →  w6 q = some e := fun q e h9 h09 => by have z9_1 := hfr4 q e h9; have h9 := (hn2 q (by omega)).trans h9; have h9 := hx11 q e h9 (by omega); have h9 := hx17 q e h9 (by omega); have h9 := hF18 q e h9 (by omega) (by omega); exact h9
        have hgz := hg8
        refine cr_RL_52 (As := []) (rest := []) F hl (c_toS l X w6 u0 bk (iI (bz false)) k cpk f0k fk 16 hu9 hb9 hP9 (by omega)) hW hS hu9 rfl rfl ⟨Nat.le_of_ble_eq_true rfl, Nat.le_of_ble_eq_true rfl⟩ (Nat.le_of_ble_eq_true rfl) ⟨(by show kc18 + 2 ≤ 8; omega), (by show ks18 + (4 + 16) ≤ 110; omega)⟩ dL_word_45 (fun v21 w19 H locs hp20 hW hS => ?_)
        obtain ⟨z9, fz, rfl, hfr22, hstr, hfz, hx23⟩ := hp20
        have hb24 := hfr22 _ _ hu9
        have hb25 := hfr22 _ _ hb9
        have hb26 := hfr22 _ _ hg8
        have hu9 := hx23 _ _ hu9 
        have hb9 := hx23 _ _ hb9 
        have hg8 := hx23 _ _ hg8 
        refine W.wd (mc := 8) (ms := 110) (by omega) (by omega) ?_
        have hX9 : ∀ (q : Nat) (e : va_E), w q = some e → q ≠ gq → w19 q = some e := fun q e h9 h09 => by
          have z9_27 := hfr4 q e h9
          have h9 := (hn2 q (by omega)).trans h9
          have h9 := hx11 q e h9 (by omega)
          have h9 := hx17 q e h9 (by omega)
          have h9 := hF18 q e h9 (by omega) (by omega)
          have z9_28 := hfr22 q e h9
          have h9 := hx23 q e h9 
          exact h9
        exact r_aret F (Or.inl ⟨_, hr⟩) hlk hW hS ⟨_, _, _, _, rfl, (frq hfr22 hgb hgz), (by (rw [hg8]) <;> (rfl)), (hstr.ex (wr_sub2 (kn_of hgb hgz))), ⟨(by omega), (by omega)⟩, (fun j h1 h2 => by rw [hfz j h1 (by omega)]; exact hr9 j h1 (by omega)), hX9⟩ dL_word_48
      · refine lv_aload_n F.1 F.2.1 dL_word_23 rfl (lv_at hl 2 rfl) ?_
        refine lv_aload_n F.1 F.2.1 dL_word_24 rfl (lv_at hl 1 rfl) ?_
        refine lv_aload_n F.1 F.2.1 dL_word_25 rfl (lv_at hl 3 rfl) ?_
        refine h_bipush F dL_word_26 rfl ?_
        refine cr_RL_45 (As := [.ref gq, .int (iI 10)]) (rest := [.ref (X.2.2 (60 + 14)), .ref u0]) F hl (c_L_draw l X w6 gq gk 10 hg8 (by omega)) hW hS rfl rfl ⟨Nat.le_of_ble_eq_true rfl, Nat.le_of_ble_eq_true rfl⟩ (Nat.le_of_ble_eq_true rfl) ⟨(by show kc18 + 0 ≤ 8; omega), (by show ks18 + 0 ≤ 110; omega)⟩ dL_word_28 (fun v31 w29 H locs hp30 hW hS => ?_)
        obtain ⟨dx, gx, rfl, hm32, ha33, hx34⟩ := hp30
        have hu9 := hx34 _ _ hu9 (by omega)
        have hb9 := hx34 _ _ hb9 (by omega)
        have hlr := lw14 (j := dx) (by omega)
        refine cs_RL_13 (As := [.int (iI dx)]) (rest := [.ref u0]) F hl (cK_chr l X w29 14 dx (by decide) (by rw [show lwN.getD 14 0 = 10 from rfl]; omega)) hW hS (vk_recv (i := 14) hZ0.2.2.2.2.2.1 (by decide) hS) rfl rfl ⟨Nat.le_of_ble_eq_true rfl, Nat.le_of_ble_eq_true rfl⟩ (Nat.le_of_ble_eq_true rfl) ⟨(by show kc18 + 0 + 0 ≤ 8; omega), (by show ks18 + 0 + 0 ≤ 110; omega)⟩ dL_word_31 (fun w1 H locs hp35 hW hS => ?_)
        rw [hp35] at hW; clear hp35; clear w1
        refine cl_RL_49 (As := [.int (iI (lw 14 dx))]) (rest := []) F hl (c_J4_append_cf468 l X w29 u0 bk (iI (bz false)) k cpk f0k fk 16 (lw 14 dx) hu9 hb9 hP9 (by omega) (by omega) (by omega)) hW hS hu9 rfl rfl ⟨Nat.le_of_ble_eq_true rfl, Nat.le_of_ble_eq_true rfl⟩ (Nat.le_of_ble_eq_true rfl) ⟨(by show kc18 + 0 + 0 + 1 ≤ 8; omega), (by show ks18 + 0 + 0 + 16 ≤ 110; omega)⟩ dL_word_34 (fun w36 H locs hp37 hW hS => ?_)
        obtain ⟨bx, cx, fx, ho38, ha39, hPx, hbx, hubx, hx40⟩ := hp37
        have ha33 := hx40 _ _ ha33 (by omega) (by omega)
        refine lv_pop F.1 F.2.1 dL_word_37 rfl ?_
        refine h_iinc (k := 0) (a := d - k) (lv' := [(4, .int (iI ((d - k) + (-1)))), (3, .ref (X.2.2 (60 + 14))), (2, .ref u0), (0, .ref gq), (1, .int (iI 3))]) F dL_word_38 hl rfl (by decide) rfl (fun ls hl => ?_)
        refine h_goto (tgt := 18) F dL_word_41 (by decide) ?_
        have eq41 : (d - (k + 1) : Int) = (d - k) + (-1) := by first | rfl | omega | simp
        exact ih18 (k + 1) (kc18 + 0 + 0 + 1) (ks18 + 0 + 0 + 16) bx cx fx (apS fk k (fun _ => lw 14 dx)) gx (by omega) (by omega) w36 (fun q e h9 h09 h19 => by
            have h9 := hF18 q e h9 (by omega) (by omega)
            have h9 := hx34 q e h9 (by omega)
            have h9 := hx40 q e h9 (by omega) (by omega)
            exact h9) (by omega) (by omega) ho38 ha39 ha33 hPx hubx (apS_r hr9 (fun j h1 h2 => hlr)) _ _ ls hW hS (by rw [eq41]; exact lv_sub hl [0, 1, 2, 3, 4] rfl)
  have eq42 : (d - 0 : Int) = d := by first | rfl | omega | simp
  exact loop18 ((d + 1 - 0) + 1 : Int).toNat 0 (0 + 1 + 1 + 0) (0 + 4 + 16 + 0) b9 16 (fun _ => 0) (fun _ => 0) g1  (by omega) (by omega) w12 (fun q e h9 h09 h19 => by
      exact h9) (by omega) (by omega) ho9 ha10 ha16 (sbP.z (by omega)) hub9 (fun j h1 h2 => by omega) _ _ ls hW hS (by rw [eq42]; exact lv_sub hl [0, 1, 2, 3, 4] rfl)
set_option maxHeartbeats 4000000 in
set_option maxRecDepth 100000 in
theorem c_L_some (l : Launch) (X : Cx) (w : Wo) (h gq : Nat) (N : Nat → Prop) (σ gf : Int → Int) (hO : ownN X w N h σ) (hNg : N gq) (hg9 : w gq = some (aZ X 1 gf)) : CR l X yL_some cL_some 7 (some (.object "CaptionLoomLaw$Caption")) (rmG 7 90 1000 179) [.ref h, .ref gq] w (fun v' w' => ∃ (v9 : Value), ∃ (gf2 : Int → Int), v' = v9 ∧ w' gq = some (aZ X 1 gf2) ∧ (v9 = .null ∨ ∃ (c9 n9 : Nat) (sd co x y : Int) (f9 : Int → Int), v9 = .ref c9 ∧ frs w c9 ∧ capO X (wr w' (fun q => w q ≠ none)) c9 n9 sd co x y f9 ∧ (1 ≤ n9 ∧ n9 ≤ 3) ∧ (∀ j, 0 ≤ j → j < (n9 : Int) → 97 ≤ f9 j ∧ f9 j ≤ 122) ∧ (sd = 0 ∨ sd = 1) ∧ (1 ≤ co ∧ co ≤ 6) ∧ (0 ≤ x ∧ x < σ 0 ∧ 0 ≤ y ∧ y < σ 1) ∧ liesS σ n9 x y = true ∧ meetS σ n9 sd x y (-1) = false) ∧ ∀ (q : Nat) (e : va_E), w q = some e → q ≠ gq → w' q = some e) := by
  refine CR.of (lv := [(0, .ref h), (1, .ref gq)]) (by decide) (Nat.le_of_ble_eq_true rfl) rfl (fun p e s m below meth c ls F hr hlk hin hW hS hl => ?_)
  have hZ0 := hW.2.2
  have hB9 := hW.1.2
  clear hin
  have hO0 := hO
  obtain ⟨st, lc, ec, kc, lr, er, kr, cd, rwa, hPw0, hern⟩ := hO.1.P
  have hh0 := (wr_some.mp hPw0.1).2
  have hhn := (wr_some.mp hPw0.1).1
  have hWF := hPw0.2.2.2.2.2.2.2.2.2.1
  obtain ⟨wf0, wf1, wf2, wf3, wf4, wf5⟩ := hWF.1.1
  have hwb := hWF.2
  have hgh : h ≠ gq := fun e9 => hhn (e9 ▸ hNg)
  clear hern
  refine h_iconst F dL_some_0 ?_
  refine lv_istore_n (lv' := [(2, .int (iI 0)), (0, .ref h), (1, .ref gq)]) F.1 F.2.1 dL_some_1 rfl hl (by decide) rfl (fun ls hl => ?_)
  have loop2 : ∀ (n9 : Nat) (k : Int) (kc2 ks2 : Nat) (gk : Int → Int), (hrg : 0 ≤ k ∧ k ≤ 8) → (hms : 8 - k < (n9 : Int)) → (w6 : Wo) → (hF2 : ∀ (q : Nat) (e : va_E), w q = some e → q ≠ gq → w6 q = some e) → (hkc2 : ((kc2 : Nat) : Int) ≤ ((0 : Nat) : Int) + 11 * k) → (hks2 : ((ks2 : Nat) : Int) ≤ ((0 : Nat) : Int) + 120 * k) → (hg8 : w6 gq = some (aZ X 1 gk)) → (H : Heap) → (locs : List Loc) → (ls : Array Slot) → Wd X w6 s H → va_S (cxA X) s.heap H locs → lv_has ls 7 [(2, .int (iI k)), (0, .ref h), (1, .ref gq)] → W p l e (rmG 7 90 1000 179) s m (List.toArray [.ref h, .ref gq]) below meth c H locs kc2 ks2 (MR X below (List.toArray [.ref h, .ref gq]) s 90 1000 (fun v' w' => ∃ (v9 : Value), ∃ (gf2 : Int → Int), v' = v9 ∧ w' gq = some (aZ X 1 gf2) ∧ (v9 = .null ∨ ∃ (c9 n9 : Nat) (sd co x y : Int) (f9 : Int → Int), v9 = .ref c9 ∧ frs w c9 ∧ capO X (wr w' (fun q => w q ≠ none)) c9 n9 sd co x y f9 ∧ (1 ≤ n9 ∧ n9 ≤ 3) ∧ (∀ j, 0 ≤ j → j < (n9 : Int) → 97 ≤ f9 j ∧ f9 j ≤ 122) ∧ (sd = 0 ∨ sd = 1) ∧ (1 ≤ co ∧ co ≤ 6) ∧ (0 ≤ x ∧ x < σ 0 ∧ 0 ≤ y ∧ y < σ 1) ∧ liesS σ n9 x y = true ∧ meetS σ n9 sd x y (-1) = false) ∧ ∀ (q : Nat) (e : va_E), w q = some e → q ≠ gq → w' q = some e)) (F0 m 2 ls []) := by
    intro n9
    induction n9 with
    | zero => intro k kc2 ks2  gk  hrg hms; exfalso; omega
    | succ n9 ih2 =>
      intro k kc2 ks2  gk  hrg hms w6 hF2 hkc2 hks2 hg8 H locs ls hW hS hl
      have hh0 := hF2 _ _ hh0 (by omega)
      refine lv_iload_n F.1 F.2.1 dL_some_2 rfl (lv_at hl 0 rfl) ?_
      refine h_bipush F dL_some_3 rfl ?_
      refine h_icge (tgt := 95) F dL_some_5 (by decide) (by omega) (fun c1 => ?_) (fun c1 => ?_)
      · refine lv_null F.1 F.2.1 dL_some_95 ?_
        refine W.wd (mc := 90) (ms := 1000) (by omega) (by omega) ?_
        have hX9 : ∀ (q : Nat) (e : va_E), w q = some e → q ≠ gq → w6 q = some e := fun q e h9 h09 => by
          have h9 := hF2 q e h9 (by omega)
          exact h9
        exact r_nret F hr hlk hW hS ⟨_, _, rfl, (by (rw [hg8]) <;> (rfl)), (Or.inl rfl), hX9⟩ dL_some_96
      · refine lv_aload_n F.1 F.2.1 dL_some_8 rfl (lv_at hl 2 rfl) ?_
        refine h_iconst F dL_some_9 ?_
        refine cr_RL_56 (As := [.ref gq, .int (iI 3)]) (rest := []) F hl (c_L_word l X w6 gq gk hg8) hW hS rfl rfl ⟨Nat.le_of_ble_eq_true rfl, Nat.le_of_ble_eq_true rfl⟩ (Nat.le_of_ble_eq_true rfl) ⟨(by show kc2 + 8 ≤ 90; omega), (by show ks2 + 110 ≤ 1000; omega)⟩ dL_some_10 (fun v4 w2 H locs hp3 hW hS => ?_)
        obtain ⟨zw, nw, fw, g1, rfl, hfr5, ha6, hsw, hnw, hfw, hx7⟩ := hp3
        have hb8 := hfr5 _ _ hh0
        have hb9 := hfr5 _ _ hg8
        have hh0 := hx7 _ _ hh0 (by omega)
        skip
        refine lv_astore_n (lv' := [(3, .ref zw), (2, .int (iI k)), (0, .ref h), (1, .ref gq)]) F.1 F.2.1 dL_some_13 rfl hl (by decide) rfl (fun ls hl => ?_)
        refine lv_aload_n F.1 F.2.1 dL_some_14 rfl (lv_at hl 3 rfl) ?_
        refine lv_aload_n F.1 F.2.1 dL_some_15 rfl (lv_at hl 2 rfl) ?_
        refine gf_RL_60 F hW hh0 rfl dL_some_16 ?_
        refine cr_RL_45 (As := [.ref gq, .int (iI (σ 0))]) (rest := []) F hl (c_L_draw l X w2 gq g1 (σ 0) ha6 (by omega)) hW hS rfl rfl ⟨Nat.le_of_ble_eq_true rfl, Nat.le_of_ble_eq_true rfl⟩ (Nat.le_of_ble_eq_true rfl) ⟨(by show kc2 + 8 + 0 ≤ 90; omega), (by show ks2 + 110 + 0 ≤ 1000; omega)⟩ dL_some_19 (fun v12 w10 H locs hp11 hW hS => ?_)
        obtain ⟨dx, g2, rfl, hm13, ha14, hx15⟩ := hp11
        have hh0 := hx15 _ _ hh0 (by omega)
        refine lv_istore (lv' := [(4, .int (iI dx)), (3, .ref zw), (2, .int (iI k)), (0, .ref h), (1, .ref gq)]) F.1 F.2.1 dL_some_22 hl (by decide) rfl (fun ls hl => ?_)
        refine lv_aload_n F.1 F.2.1 dL_some_24 rfl (lv_at hl 4 rfl) ?_
        refine lv_aload_n F.1 F.2.1 dL_some_25 rfl (lv_at hl 3 rfl) ?_
        refine gf_RL_66 F hW hh0 rfl dL_some_26 ?_
        refine cr_RL_45 (As := [.ref gq, .int (iI (σ 1))]) (rest := []) F hl (c_L_draw l X w10 gq g2 (σ 1) ha14 (by omega)) hW hS rfl rfl ⟨Nat.le_of_ble_eq_true rfl, Nat.le_of_ble_eq_true rfl⟩ (Nat.le_of_ble_eq_true rfl) ⟨(by show kc2 + 8 + 0 + 0 ≤ 90; omega), (by show ks2 + 110 + 0 + 0 ≤ 1000; omega)⟩ dL_some_29 (fun v18 w16 H locs hp17 hW hS => ?_)
        obtain ⟨dy, g3, rfl, hm19, ha20, hx21⟩ := hp17
        have hh0 := hx21 _ _ hh0 (by omega)
        refine lv_istore (lv' := [(5, .int (iI dy)), (4, .int (iI dx)), (3, .ref zw), (2, .int (iI k)), (0, .ref h), (1, .ref gq)]) F.1 F.2.1 dL_some_32 hl (by decide) rfl (fun ls hl => ?_)
        have hgb : ∀ (q : Nat) (e : va_E), w q = some e → q ≠ gq →  w16 q = some e := fun q e h9 h09 => by have h9 := hF2 q e h9 (by omega); have z9_1 := hfr5 q e h9; have h9 := hx7 q e h9 (by omega); have h9 := hx15 q e h9 (by omega); have h9 := hx21 q e h9 (by omega); exact h9
        have hgz := ha20
        refine q_new (ci := 9) (fs := [.null, .int (iI 0), .int (iI 0), .int (iI 0), .int (iI 0)]) F hW hS inX9 tyX9 tyX9_ok kl_RL_69 kb_RX9 kn_RX9 rfl (by intro j hj; rcases (show j = 0 ∨ j = 1 ∨ j = 2 ∨ j = 3 ∨ j = 4 by omega) with hj | hj | hj | hj | hj <;> subst hj <;> rfl) ⟨(by show kc2 + 8 + 0 + 0 + 1 ≤ 90; omega), (by show ks2 + 110 + 0 + 0 + 5 ≤ 1000; omega)⟩ dL_some_34 (fun c9 w22 H hfr25 hcx26 ho24 hn23 hW hS => ?_)
        have hb27 := hfr25 _ _ hh0
        have hb28 := hfr25 _ _ ha20
        have hh0 := (hn23 _ (by omega)).trans hh0
        have ha20 := (hn23 _ (by omega)).trans ha20
        have hfrc : frs w c9 := frq hfr25 hgb hgz
        refine lv_dup F.1 F.2.1 dL_some_37 rfl ?_
        refine lv_aload_n F.1 F.2.1 dL_some_38 rfl (lv_at hl 2 rfl) ?_
        refine lv_aload_n F.1 F.2.1 dL_some_39 rfl (lv_at hl 5 rfl) ?_
        refine h_iconst F dL_some_40 ?_
        refine cr_RL_45 (As := [.ref gq, .int (iI 2)]) (rest := [.ref zw, .ref c9, .ref c9]) F hl (c_L_draw l X w22 gq g3 2 ha20 (by omega)) hW hS rfl rfl ⟨Nat.le_of_ble_eq_true rfl, Nat.le_of_ble_eq_true rfl⟩ (Nat.le_of_ble_eq_true rfl) ⟨(by show kc2 + 8 + 0 + 0 + 1 + 0 ≤ 90; omega), (by show ks2 + 110 + 0 + 0 + 5 + 0 ≤ 1000; omega)⟩ dL_some_41 (fun v31 w29 H locs hp30 hW hS => ?_)
        obtain ⟨ds, g4, rfl, hm32, ha33, hx34⟩ := hp30
        have hh0 := hx34 _ _ hh0 (by omega)
        have ho24 := hx34 _ _ ho24 (by omega)
        refine lv_iload F.1 F.2.1 dL_some_44 (lv_at hl 1 rfl) ?_
        refine lv_iload F.1 F.2.1 dL_some_46 (lv_at hl 0 rfl) ?_
        refine h_iconst F dL_some_48 ?_
        refine lv_aload_n F.1 F.2.1 dL_some_49 rfl (lv_at hl 5 rfl) ?_
        refine h_bipush F dL_some_50 rfl ?_
        refine cr_RL_45 (As := [.ref gq, .int (iI 6)]) (rest := [.int (iI 1), .int (iI dy), .int (iI dx), .int (iI ds), .ref zw, .ref c9, .ref c9]) F hl (c_L_draw l X w29 gq g4 6 ha33 (by omega)) hW hS rfl rfl ⟨Nat.le_of_ble_eq_true rfl, Nat.le_of_ble_eq_true rfl⟩ (Nat.le_of_ble_eq_true rfl) ⟨(by show kc2 + 8 + 0 + 0 + 1 + 0 + 0 ≤ 90; omega), (by show ks2 + 110 + 0 + 0 + 5 + 0 + 0 ≤ 1000; omega)⟩ dL_some_52 (fun v37 w35 H locs hp36 hW hS => ?_)
        obtain ⟨dc, g5, rfl, hm38, ha39, hx40⟩ := hp36
        have hh0 := hx40 _ _ hh0 (by omega)
        have ho24 := hx40 _ _ ho24 (by omega)
        refine h_iadd (a := 1) (b := dc) F dL_some_55 ?_
        refine cl_RL_71 (As := [.ref zw, .int (iI ds), .int (iI dx), .int (iI dy), .int (iI (1 + dc))]) (rest := [.ref c9]) F hl (c_X9_init l X w35 c9 zw ds dx dy (1 + dc) ho24) hW hS rfl rfl ⟨Nat.le_of_ble_eq_true rfl, Nat.le_of_ble_eq_true rfl⟩ (Nat.le_of_ble_eq_true rfl) ⟨(by show kc2 + 8 + 0 + 0 + 1 + 0 + 0 + 0 ≤ 90; omega), (by show ks2 + 110 + 0 + 0 + 5 + 0 + 0 + 0 ≤ 1000; omega)⟩ dL_some_56 (fun w41 H locs hp42 hW hS => ?_)
        obtain ⟨ho43, hn44⟩ := hp42
        have hh0 := (hn44 _ (by omega)).trans hh0
        have ha39 := (hn44 _ (by omega)).trans ha39
        refine lv_astore (lv' := [(6, .ref c9), (5, .int (iI dy)), (4, .int (iI dx)), (3, .ref zw), (2, .int (iI k)), (0, .ref h), (1, .ref gq)]) F.1 F.2.1 dL_some_59 hl (by decide) rfl (fun ls hl => ?_)
        have hEK : ext (wr w2 (fun q => w6 q ≠ none)) (wr w41 (fun q => w6 q ≠ none)) := fun q e h9 => by have hk9 := (wr_some.mp h9).1; have hqg : q ≠ gq := fun e9 => hk9 (by rw [e9, hg8]; simp); have h9 := (wr_some.mp h9).2; have h9 := hx15 q e h9 (by omega); have h9 := hx21 q e h9 (by omega); have z9_1 := hfr25 q e h9; have h9 := (hn23 q (by omega)).trans h9; have h9 := hx34 q e h9 (by omega); have h9 := hx40 q e h9 (by omega); have h9 := (hn44 q (by omega)).trans h9; exact wr_some.mpr ⟨hk9, h9⟩
        have hsK := hsw.ex hEK
        have hsn := hsK.ex (wr_sub _ _)
        have hAw : ownA X w41 h σ := hO0.1.ex (fun q e h9 => by have hN9 := (wr_some.mp h9).1; have hqg : q ≠ gq := fun e9 => hN9 (e9 ▸ hNg); have h9 := (wr_some.mp h9).2; have h9 := hF2 q e h9 (by omega); have z9_1 := hfr5 q e h9; have h9 := hx7 q e h9 (by omega); have h9 := hx15 q e h9 (by omega); have h9 := hx21 q e h9 (by omega); have z9_2 := hfr25 q e h9; have h9 := (hn23 q (by omega)).trans h9; have h9 := hx34 q e h9 (by omega); have h9 := hx40 q e h9 (by omega); have h9 := (hn44 q (by omega)).trans h9; exact h9)
        refine lv_aload_n F.1 F.2.1 dL_some_61 rfl (lv_at hl 5 rfl) ?_
        refine lv_aload_n F.1 F.2.1 dL_some_62 rfl (lv_at hl 3 rfl) ?_
        refine cs_RL_7 (As := []) (rest := [.ref h]) F hl (cS_len l X w41 zw nw fw hsn (by omega)) hW hS (str.rc (n := nw) (f := fw) hsn hW hZ0 hS) rfl rfl ⟨Nat.le_of_ble_eq_true rfl, Nat.le_of_ble_eq_true rfl⟩ (Nat.le_of_ble_eq_true rfl) ⟨(by show kc2 + 8 + 0 + 0 + 1 + 0 + 0 + 0 + 0 ≤ 90; omega), (by show ks2 + 110 + 0 + 0 + 5 + 0 + 0 + 0 + 0 ≤ 1000; omega)⟩ dL_some_63 (fun w1 H locs hp45 hW hS => ?_)
        rw [hp45] at hW; clear hp45; clear w1
        refine lv_iload F.1 F.2.1 dL_some_66 (lv_at hl 2 rfl) ?_
        refine lv_iload F.1 F.2.1 dL_some_68 (lv_at hl 1 rfl) ?_
        refine cl_RL_74 (As := [.int (iI ((nw : Nat) : Int)), .int (iI dx), .int (iI dy)]) (rest := []) F hl (c_X10_lies l X w41 h σ ((nw : Nat) : Int) dx dy hAw (by omega) (by omega)) hW hS hh0 rfl rfl ⟨Nat.le_of_ble_eq_true rfl, Nat.le_of_ble_eq_true rfl⟩ (Nat.le_of_ble_eq_true rfl) ⟨(by show kc2 + 8 + 0 + 0 + 1 + 0 + 0 + 0 + 0 + 0 ≤ 90; omega), (by show ks2 + 110 + 0 + 0 + 5 + 0 + 0 + 0 + 0 + 0 ≤ 1000; omega)⟩ dL_some_70 (fun w1 H locs hp46 hW hS => ?_)
        rw [hp46] at hW; clear hp46; clear w1
        refine h_ifeqb (tgt := 89) F dL_some_73 (by decide) (fun c47 => ?_) (fun c47 => ?_)
        · refine h_iinc (k := 4) (a := k) (lv' := [(2, .int (iI (k + 1))), (6, .ref c9), (5, .int (iI dy)), (4, .int (iI dx)), (3, .ref zw), (0, .ref h), (1, .ref gq)]) F dL_some_89 hl rfl (by decide) rfl (fun ls hl => ?_)
          refine h_goto (tgt := 2) F dL_some_92 (by decide) ?_
          have eq48 : ((k + 1) : Int) = k + 1 := by first | rfl | omega | simp
          exact ih2 (k + 1) (kc2 + 8 + 0 + 0 + 1 + 0 + 0 + 0 + 0 + 0) (ks2 + 110 + 0 + 0 + 5 + 0 + 0 + 0 + 0 + 0) g5 (by omega) (by omega) w41 (fun q e h9 h09 => by
              have h9 := hF2 q e h9 (by omega)
              have z9_1 := hfr5 q e h9
              have h9 := hx7 q e h9 (by omega)
              have h9 := hx15 q e h9 (by omega)
              have h9 := hx21 q e h9 (by omega)
              have z9_2 := hfr25 q e h9
              have h9 := (hn23 q (by omega)).trans h9
              have h9 := hx34 q e h9 (by omega)
              have h9 := hx40 q e h9 (by omega)
              have h9 := (hn44 q (by omega)).trans h9
              exact h9) (by omega) (by omega) ha39 _ _ ls hW hS (by rw [eq48]; exact lv_sub hl [0, 5, 6] rfl)
        · have hlt9 := c47
          have hli : 0 ≤ dx ∧ 0 ≤ dy ∧ dx + 4 * ((nw : Nat) : Int) - 2 < σ 0 ∧ dy + 4 < σ 1 := of_decide_eq_true c47
          refine lv_aload_n F.1 F.2.1 dL_some_76 rfl (lv_at hl 5 rfl) ?_
          refine lv_aload F.1 F.2.1 dL_some_77 (lv_at hl 0 rfl) ?_
          refine lv_null F.1 F.2.1 dL_some_79 ?_
          refine cl_RL_78 (As := [.ref c9, .null]) (rest := []) F hl (c_meets_n l X w41 h c9 zw nw σ ((nw : Nat) : Int) ds (1 + dc) dx dy (-1) fw hAw ho43 hsn (by omega) (by omega) (Or.inl ⟨rfl, rfl⟩)) hW hS hh0 rfl rfl ⟨Nat.le_of_ble_eq_true rfl, Nat.le_of_ble_eq_true rfl⟩ (Nat.le_of_ble_eq_true rfl) ⟨(by show kc2 + 8 + 0 + 0 + 1 + 0 + 0 + 0 + 0 + 0 + 1 ≤ 90; omega), (by show ks2 + 110 + 0 + 0 + 5 + 0 + 0 + 0 + 0 + 0 + 4 ≤ 1000; omega)⟩ dL_some_80 (fun w1 H locs hp49 hW hS => ?_)
          rw [hp49] at hW; clear hp49; clear w1
          refine h_ifneb (tgt := 89) F dL_some_83 (by decide) (fun c50 => ?_) (fun c50 => ?_)
          · refine h_iinc (k := 4) (a := k) (lv' := [(2, .int (iI (k + 1))), (6, .ref c9), (5, .int (iI dy)), (4, .int (iI dx)), (3, .ref zw), (0, .ref h), (1, .ref gq)]) F dL_some_89 hl rfl (by decide) rfl (fun ls hl => ?_)
            refine h_goto (tgt := 2) F dL_some_92 (by decide) ?_
            have eq51 : ((k + 1) : Int) = k + 1 := by first | rfl | omega | simp
            exact ih2 (k + 1) (kc2 + 8 + 0 + 0 + 1 + 0 + 0 + 0 + 0 + 0 + 1) (ks2 + 110 + 0 + 0 + 5 + 0 + 0 + 0 + 0 + 0 + 4) g5 (by omega) (by omega) w41 (fun q e h9 h09 => by
                have h9 := hF2 q e h9 (by omega)
                have z9_1 := hfr5 q e h9
                have h9 := hx7 q e h9 (by omega)
                have h9 := hx15 q e h9 (by omega)
                have h9 := hx21 q e h9 (by omega)
                have z9_2 := hfr25 q e h9
                have h9 := (hn23 q (by omega)).trans h9
                have h9 := hx34 q e h9 (by omega)
                have h9 := hx40 q e h9 (by omega)
                have h9 := (hn44 q (by omega)).trans h9
                exact h9) (by omega) (by omega) ha39 _ _ ls hW hS (by rw [eq51]; exact lv_sub hl [0, 5, 6] rfl)
          · have hmt9 := c50
            refine lv_aload F.1 F.2.1 dL_some_86 (lv_at hl 0 rfl) ?_
            refine W.wd (mc := 90) (ms := 1000) (by omega) (by omega) ?_
            have hX9 : ∀ (q : Nat) (e : va_E), w q = some e → q ≠ gq → w41 q = some e := fun q e h9 h09 => by
              have h9 := hF2 q e h9 (by omega)
              have z9_52 := hfr5 q e h9
              have h9 := hx7 q e h9 (by omega)
              have h9 := hx15 q e h9 (by omega)
              have h9 := hx21 q e h9 (by omega)
              have z9_53 := hfr25 q e h9
              have h9 := (hn23 q (by omega)).trans h9
              have h9 := hx34 q e h9 (by omega)
              have h9 := hx40 q e h9 (by omega)
              have h9 := (hn44 q (by omega)).trans h9
              exact h9
            exact r_aret F (Or.inl ⟨_, hr⟩) hlk hW hS ⟨_, _, rfl, (by (rw [ha39]) <;> (rfl)), (Or.inr ⟨c9, nw, ds, 1 + dc, dx, dy, fw, rfl, hfrc, ⟨zw, wr_some.mpr ⟨hfrc.un, ho43⟩, hsK.ex (wr_sub2 (kn_of hF2 hg8))⟩, hnw, hfw, (by omega), (by omega), (by omega), hlt9, hmt9⟩), hX9⟩ dL_some_88
  exact loop2 ((8 - 0) + 1 : Int).toNat 0 (0) (0) gf  (by omega) (by omega) w (fun q e h9 h09 => by
      exact h9) (by omega) (by omega) hg9 _ _ ls hW hS (lv_sub hl [0, 1, 2] rfl)
