set_option maxHeartbeats 4000000 in
set_option maxRecDepth 100000 in
theorem c_L_writes (l : Launch) (X : Cx) (w : Wo) (y h : Nat) (N : Nat → Prop) (su : Int) (σ : Int → Int) (M : Int) (ob : Int → Int) (rn : Int) (rr : Bool) (hO : ownN X w N h σ) (hNy : ∀ q, y ≤ q → q < y + 321 → N q) (hY : clO X w y su) (hL : loomAt X w (y + 1) σ) (hWB : w (y + 309) = some (.inr (0, [.ref (y + 310), .int (iI M)]))) (hWT : w (y + 310) = some (aZ X 400 ob)) (hrn9 : 0 ≤ rn ∧ rn < σ 1) : CM l X yL_writes cL_writes 7 (some (.boolean)) (rmG 7 70 3300 156) [.ref y, .ref h, .int (iI rn), .int (iI (bz rr))] w (some (.int (iI (bz true)))) (fun w' => ∃ (M9 : Int), ∃ (ob9 : Int → Int), w' (y + 309) = some (.inr (0, [.ref (y + 310), .int (iI M9)])) ∧ w' (y + 310) = some (aZ X 400 ob9) ∧ (0 ≤ M9 ∧ M9 ≤ 80) ∧ ∀ (q : Nat) (e : va_E), w q = some e → q ≠ y + 309 → q ≠ y + 310 → w' q = some e) := by
  refine CM.of (lv := [(0, .ref y), (1, .ref h), (2, .int (iI rn)), (3, .int (iI (bz rr)))]) (by decide) (Nat.le_of_ble_eq_true rfl) rfl (fun p e s m below meth c ls F hr hlk hin hW hS hl => ?_)
  have hZ0 := hW.2.2
  have hB9 := hW.1.2
  clear hin
  have hO0 := hO
  have hWB0 := hWB
  have hWT0 := hWT
  obtain ⟨st, lc, ec, kc, lr, er, kr, cd, rwa, hPw0, hern⟩ := hO.1.P
  have hh0 := (wr_some.mp hPw0.1).2
  have hWF := hPw0.2.2.2.2.2.2.2.2.2.1
  obtain ⟨wf0, wf1, wf2, wf3, wf4, wf5⟩ := hWF.1.1
  have hwb := hWF.2
  clear hern
  refine q_new (ci := 12) (fs := [.null, .int (iI 0), .int (iI (bz false)), .int (iI 0)]) F hW hS inJ4 tyJ4 tyJ4_ok kl_RL_40 kb_RJ4 kn_RJ4 rfl (by intro j hj; rcases (show j = 0 ∨ j = 1 ∨ j = 2 ∨ j = 3 by omega) with hj | hj | hj | hj <;> subst hj <;> rfl) ⟨(by show 0 + 1 ≤ 70; omega), (by show 0 + 4 ≤ 3300; omega)⟩ dL_writes_0 (fun u0 w1 H hfr4 hcx5 ho3 hn2 hW hS => ?_)
  have hb6 := hfr4 _ _ hh0
  have hb7 := hfr4 _ _ hWB
  have hb8 := hfr4 _ _ hWT
  have hh0 := (hn2 _ (by omega)).trans hh0
  have hWB := (hn2 _ (by omega)).trans hWB
  have hWT := (hn2 _ (by omega)).trans hWT
  refine lv_dup F.1 F.2.1 dL_writes_3 rfl ?_
  have hu9a := ho3
  refine cl_RL_42 (As := []) (rest := [.ref u0]) F hl (c_J4_init_da8c8 l X w1 u0 ho3) hW hS rfl rfl ⟨Nat.le_of_ble_eq_true rfl, Nat.le_of_ble_eq_true rfl⟩ (Nat.le_of_ble_eq_true rfl) ⟨(by show 0 + 1 + 1 ≤ 70; omega), (by show 0 + 4 + 16 ≤ 3300; omega)⟩ dL_writes_4 (fun w9 H locs hp10 hW hS => ?_)
  obtain ⟨b9, ho11, ha12, hfrS, hx13⟩ := hp10
  have hh0 := hx13 _ _ hh0 (by omega)
  have hWB := hx13 _ _ hWB (by omega)
  have hWT := hx13 _ _ hWT (by omega)
  have hub9 : u0 < b9 := hfrS _ _ hu9a
  refine lv_astore (lv' := [(4, .ref u0), (0, .ref y), (1, .ref h), (2, .int (iI rn)), (3, .int (iI (bz rr)))]) F.1 F.2.1 dL_writes_7 hl (by decide) rfl (fun ls hl => ?_)
  refine h_iconst F dL_writes_9 ?_
  refine lv_istore (lv' := [(5, .int (iI 0)), (4, .ref u0), (0, .ref y), (1, .ref h), (2, .int (iI rn)), (3, .int (iI (bz rr)))]) F.1 F.2.1 dL_writes_10 hl (by decide) rfl (fun ls hl => ?_)
  have loop12 : ∀ (n9 : Nat) (k : Int) (kc12 ks12 : Nat) (bk cpk : Nat) (f0k : Int → Int), (hrg : 0 ≤ k ∧ k ≤ σ 0) → (hms : σ 0 - k < (n9 : Int)) → (w6 : Wo) → (hF12 : ∀ (q : Nat) (e : va_E), w9 q = some e → q < u0 → w6 q = some e) → (hkc12 : ((kc12 : Nat) : Int) ≤ ((0 + 1 + 1 : Nat) : Int) + 3 * k) → (hks12 : ((ks12 : Nat) : Int) ≤ ((0 + 4 + 16 : Nat) : Int) + 164 * k) → (hu9 : w6 u0 = some (.inr (12, [.ref bk, .int (iI 0), .int (iI (bz false)), .int (iI (wrL σ rn rr k.toNat))]))) → (hb9 : w6 bk = some (aY X cpk f0k)) → (hP9 : sbP cpk f0k (wrL σ rn rr k.toNat) (wrF ob σ rn rr k.toNat) 80) → (hub8 : u0 < bk) → (H : Heap) → (locs : List Loc) → (ls : Array Slot) → Wd X w6 s H → va_S (cxA X) s.heap H locs → lv_has ls 7 [(5, .int (iI k)), (4, .ref u0), (0, .ref y), (1, .ref h), (2, .int (iI rn)), (3, .int (iI (bz rr)))] → W p l e (rmG 7 70 3300 156) s m (List.toArray [.ref y, .ref h, .int (iI rn), .int (iI (bz rr))]) below meth c H locs kc12 ks12 (MX X below (List.toArray [.ref y, .ref h, .int (iI rn), .int (iI (bz rr))]) s 70 3300 (some (.int (iI (bz true)))) (fun w' => ∃ (M9 : Int), ∃ (ob9 : Int → Int), w' (y + 309) = some (.inr (0, [.ref (y + 310), .int (iI M9)])) ∧ w' (y + 310) = some (aZ X 400 ob9) ∧ (0 ≤ M9 ∧ M9 ≤ 80) ∧ ∀ (q : Nat) (e : va_E), w q = some e → q ≠ y + 309 → q ≠ y + 310 → w' q = some e)) (F0 m 12 ls []) := by
    intro n9
    induction n9 with
    | zero => intro k kc12 ks12  bk cpk  f0k  hrg hms; exfalso; omega
    | succ n9 ih12 =>
      intro k kc12 ks12  bk cpk  f0k  hrg hms w6 hF12 hkc12 hks12 hu9 hb9 hP9 hub8 H locs ls hW hS hl
      have hh0 := hF12 _ _ hh0 (by omega)
      have hWB := hF12 _ _ hWB (by omega)
      have hWT := hF12 _ _ hWT (by omega)
      have hwl := wrL_r σ rn rr k.toNat
      have hAk : ownA X w6 h σ := hO0.A.ex (show ext w w6 from fun q e h9 => by have z9_1 := hfr4 q e h9; have h9 := (hn2 q (by omega)).trans h9; have h9 := hx13 q e h9 (by omega); have h9 := hF12 q e h9 (by omega); exact h9)
      have hEk : ext w w6 := (show ext w w6 from fun q e h9 => by have z9_1 := hfr4 q e h9; have h9 := (hn2 q (by omega)).trans h9; have h9 := hx13 q e h9 (by omega); have h9 := hF12 q e h9 (by omega); exact h9)
      refine lv_iload F.1 F.2.1 dL_writes_12 (lv_at hl 0 rfl) ?_
      refine lv_aload_n F.1 F.2.1 dL_writes_14 rfl (lv_at hl 3 rfl) ?_
      refine gf_RL_60 F hW hh0 rfl dL_writes_15 ?_
      refine h_icge (tgt := 107) F dL_writes_18 (by decide) (by omega) (fun c14 => ?_) (fun c14 => ?_)
      · have hke : k = σ 0 := by omega
        have hEq : ∀ q, y ≤ q → q < y + 321 → w6 q = w q := fun q h1 h2 => hEk.eqN hO0.2.1 q (hNy q h1 h2)
        have hYk : clO X w6 y su := (hEq y (by omega) (by omega)).trans hY
        have hLk := hL.mv (w2 := w6) (fun q h1 h2 => hEq q (by omega) (by omega))
        have hBk := (hEq (y + 309) (by omega) (by omega)).trans hWB0
        have hTk := (hEq (y + 310) (by omega) (by omega)).trans hWT0
        have hkt : k.toNat = (σ 0).toNat := by rw [hke]
        rw [hkt] at hP9
        have ho107 := hu9; rw [hkt] at ho107
        refine lv_aload_n F.1 F.2.1 dL_writes_107 rfl (lv_at hl 2 rfl) ?_
        refine lv_iload_n F.1 F.2.1 dL_writes_108 rfl (lv_at hl 4 rfl) ?_
        refine lv_iload_n F.1 F.2.1 dL_writes_109 rfl (lv_at hl 5 rfl) ?_
        refine cl_RL_306 (As := [.int (iI rn), .int (iI (bz rr))]) (rest := []) F hl (c_X8_writeRow l X w6 y su σ M ob rn rr hYk hLk hBk hTk (by omega)) hW hS hYk rfl rfl ⟨Nat.le_of_ble_eq_true rfl, Nat.le_of_ble_eq_true rfl⟩ (Nat.le_of_ble_eq_true rfl) ⟨(by show kc12 + 0 ≤ 70; omega), (by show ks12 + 0 ≤ 3300; omega)⟩ dL_writes_110 (fun w15 H locs hp16 hW hS => ?_)
        obtain ⟨ho17, ha18, hn19⟩ := hp16
        have ho107 := (hn19 _ (by omega) (by omega)).trans ho107
        have hb9 := (hn19 _ (by omega) (by omega)).trans hb9
        have hYo : clO X w15 y su := (hn19 y (by omega) (by omega)).trans hYk
        have hwn := wrL_r σ rn rr (σ 0).toNat
        refine lv_aload F.1 F.2.1 dL_writes_113 (lv_at hl 1 rfl) ?_
        refine cl_RL_310 (As := []) (rest := [.int (iI (wrL σ rn rr (σ 0).toNat))]) F hl (c_J4_length_8abf5 l X w15 u0 bk (iI (bz false)) (wrL σ rn rr (σ 0).toNat) ho107) hW hS ho107 rfl rfl ⟨Nat.le_of_ble_eq_true rfl, Nat.le_of_ble_eq_true rfl⟩ (Nat.le_of_ble_eq_true rfl) ⟨(by show kc12 + 0 + 0 ≤ 70; omega), (by show ks12 + 0 + 0 ≤ 3300; omega)⟩ dL_writes_115 (fun w1 H locs hp20 hW hS => ?_)
        rw [hp20] at hW; clear hp20; clear w1
        refine h_iceq (tgt := 123) F dL_writes_118 (by decide) (by omega) (fun c21 => ?_) (fun c21 => ?_)
        · have hwn := wrL_r σ rn rr (σ 0).toNat
          have hM9 : 0 ≤ wrL σ rn rr (σ 0).toNat ∧ wrL σ rn rr (σ 0).toNat ≤ 80 := by omega
          refine h_iconst F dL_writes_123 ?_
          refine lv_istore (lv' := [(5, .int (iI 0)), (4, .ref u0), (0, .ref y), (1, .ref h), (2, .int (iI rn)), (3, .int (iI (bz rr)))]) F.1 F.2.1 dL_writes_124 hl (by decide) rfl (fun ls hl => ?_)
          have loop126 : ∀ (n9 : Nat) (kj : Int), (hrg : 0 ≤ kj ∧ kj ≤ wrL σ rn rr (σ 0).toNat + 1) → (hms : wrL σ rn rr (σ 0).toNat + 1 - kj < (n9 : Int)) → (H : Heap) → (locs : List Loc) → (ls : Array Slot) → Wd X w15 s H → va_S (cxA X) s.heap H locs → lv_has ls 7 [(5, .int (iI kj)), (4, .ref u0), (0, .ref y), (1, .ref h), (2, .int (iI rn)), (3, .int (iI (bz rr)))] → W p l e (rmG 7 70 3300 156) s m (List.toArray [.ref y, .ref h, .int (iI rn), .int (iI (bz rr))]) below meth c H locs (kc12 + 0 + 0) (ks12 + 0 + 0) (MX X below (List.toArray [.ref y, .ref h, .int (iI rn), .int (iI (bz rr))]) s 70 3300 (some (.int (iI (bz true)))) (fun w' => ∃ (M9 : Int), ∃ (ob9 : Int → Int), w' (y + 309) = some (.inr (0, [.ref (y + 310), .int (iI M9)])) ∧ w' (y + 310) = some (aZ X 400 ob9) ∧ (0 ≤ M9 ∧ M9 ≤ 80) ∧ ∀ (q : Nat) (e : va_E), w q = some e → q ≠ y + 309 → q ≠ y + 310 → w' q = some e)) (F0 m 126 ls []) := by
            intro n9
            induction n9 with
            | zero => intro kj  hrg hms; exfalso; omega
            | succ n9 ih126 =>
              intro kj  hrg hms   H locs ls hW hS hl
              refine lv_iload F.1 F.2.1 dL_writes_126 (lv_at hl 0 rfl) ?_
              refine lv_aload F.1 F.2.1 dL_writes_128 (lv_at hl 1 rfl) ?_
              refine cl_RL_310 (As := []) (rest := [.int (iI kj)]) F hl (c_J4_length_8abf5 l X w15 u0 bk (iI (bz false)) (wrL σ rn rr (σ 0).toNat) ho107) hW hS ho107 rfl rfl ⟨Nat.le_of_ble_eq_true rfl, Nat.le_of_ble_eq_true rfl⟩ (Nat.le_of_ble_eq_true rfl) ⟨(by show kc12 + 0 + 0 + 0 ≤ 70; omega), (by show ks12 + 0 + 0 + 0 ≤ 3300; omega)⟩ dL_writes_130 (fun w1 H locs hp22 hW hS => ?_)
              rw [hp22] at hW; clear hp22; clear w1
              refine h_icgt (tgt := 174) F dL_writes_133 (by decide) (by omega) (fun c23 => ?_) (fun c23 => ?_)
              · refine h_iconst F dL_writes_174 ?_
                refine W.wd (mc := 70) (ms := 3300) (by omega) (by omega) ?_
                have hX9 : ∀ (q : Nat) (e : va_E), w q = some e → q ≠ y + 309 → q ≠ y + 310 → w15 q = some e := fun q e h9 h09 h19 => by
                  have z9_24 := hfr4 q e h9
                  have h9 := (hn2 q (by omega)).trans h9
                  have h9 := hx13 q e h9 (by omega)
                  have h9 := hF12 q e h9 (by omega)
                  have h9 := (hn19 q (by omega) (by omega)).trans h9
                  exact h9
                refine h_top (show (1 : Int) = bz true from by first | rfl | omega) ?_
                exact h_iretz F hr hlk hW hS ⟨_, _, (by (rw [ho17]) <;> (first | rfl | simp)), (by (rw [ha18]) <;> (rfl)), hM9, hX9⟩ dL_writes_175
              · refine lv_aload_n F.1 F.2.1 dL_writes_136 rfl (lv_at hl 2 rfl) ?_
                refine lv_iload F.1 F.2.1 dL_writes_137 (lv_at hl 0 rfl) ?_
                refine cl_RL_311 (As := [.int (iI kj)]) (rest := []) F hl (c_X8_output l X w15 y su (wrL σ rn rr (σ 0).toNat) (wrF ob σ rn rr (σ 0).toNat) kj hYo ho17 ha18 (by omega) (by omega)) hW hS hYo rfl rfl ⟨Nat.le_of_ble_eq_true rfl, Nat.le_of_ble_eq_true rfl⟩ (Nat.le_of_ble_eq_true rfl) ⟨(by show kc12 + 0 + 0 + 0 + 0 ≤ 70; omega), (by show ks12 + 0 + 0 + 0 + 0 ≤ 3300; omega)⟩ dL_writes_139 (fun w1 H locs hp25 hW hS => ?_)
                rw [hp25] at hW; clear hp25; clear w1
                refine lv_iload F.1 F.2.1 dL_writes_142 (lv_at hl 0 rfl) ?_
                refine lv_aload F.1 F.2.1 dL_writes_144 (lv_at hl 1 rfl) ?_
                refine cl_RL_310 (As := []) (rest := [.int (iI kj), .int (iI (byS (wrF ob σ rn rr (σ 0).toNat) (wrL σ rn rr (σ 0).toNat) kj))]) F hl (c_J4_length_8abf5 l X w15 u0 bk (iI (bz false)) (wrL σ rn rr (σ 0).toNat) ho107) hW hS ho107 rfl rfl ⟨Nat.le_of_ble_eq_true rfl, Nat.le_of_ble_eq_true rfl⟩ (Nat.le_of_ble_eq_true rfl) ⟨(by show kc12 + 0 + 0 + 0 + 0 + 0 ≤ 70; omega), (by show ks12 + 0 + 0 + 0 + 0 + 0 ≤ 3300; omega)⟩ dL_writes_146 (fun w1 H locs hp26 hW hS => ?_)
                rw [hp26] at hW; clear hp26; clear w1
                refine h_icge (tgt := 162) F dL_writes_149 (by decide) (by omega) (fun c27 => ?_) (fun c27 => ?_)
                · have hbv : byS (wrF ob σ rn rr (σ 0).toNat) (wrL σ rn rr (σ 0).toNat) kj = -1 := by unfold byS; rw [if_neg (by omega)]
                  refine h_iconst F dL_writes_162 ?_
                  refine h_iceq (tgt := 168) F dL_writes_163 (by decide) (by omega) (fun c28 => ?_) (fun c28 => ?_)
                  · refine h_iinc (k := 0) (a := kj) (lv' := [(5, .int (iI (kj + 1))), (4, .ref u0), (0, .ref y), (1, .ref h), (2, .int (iI rn)), (3, .int (iI (bz rr)))]) F dL_writes_168 hl rfl (by decide) rfl (fun ls hl => ?_)
                    refine h_goto (tgt := 126) F dL_writes_171 (by decide) ?_
                    have eq29 : ((kj + 1) : Int) = kj + 1 := by first | rfl | omega | simp
                    exact ih126 (kj + 1)  (by omega) (by omega)   _ _ ls hW hS (by rw [eq29]; exact lv_sub hl [0, 1, 2, 3, 4, 5] rfl)
                  · exfalso; omega
                · have hbv : byS (wrF ob σ rn rr (σ 0).toNat) (wrL σ rn rr (σ 0).toNat) kj = wrF ob σ rn rr (σ 0).toNat kj := by unfold byS; rw [if_pos (by omega)]
                  have hfr9 := hP9.rd (j := kj) (by omega) (by omega)
                  refine lv_aload F.1 F.2.1 dL_writes_152 (lv_at hl 1 rfl) ?_
                  refine lv_iload F.1 F.2.1 dL_writes_154 (lv_at hl 0 rfl) ?_
                  refine cl_RL_314 (As := [.int (iI kj)]) (rest := [.int (iI (byS (wrF ob σ rn rr (σ 0).toNat) (wrL σ rn rr (σ 0).toNat) kj))]) F hl (c_sb_at l X w15 u0 bk (iI (bz false)) (wrL σ rn rr (σ 0).toNat) cpk f0k (wrF ob σ rn rr (σ 0).toNat) 80 kj ho107 hb9 hP9 (by omega)) hW hS ho107 rfl rfl ⟨Nat.le_of_ble_eq_true rfl, Nat.le_of_ble_eq_true rfl⟩ (Nat.le_of_ble_eq_true rfl) ⟨(by show kc12 + 0 + 0 + 0 + 0 + 0 + 0 ≤ 70; omega), (by show ks12 + 0 + 0 + 0 + 0 + 0 + 0 ≤ 3300; omega)⟩ dL_writes_156 (fun w1 H locs hp30 hW hS => ?_)
                  rw [hp30] at hW; clear hp30; clear w1
                  refine h_goto (tgt := 163) F dL_writes_159 (by decide) ?_
                  refine h_iceq (tgt := 168) F dL_writes_163 (by decide) (by omega) (fun c31 => ?_) (fun c31 => ?_)
                  · refine h_iinc (k := 0) (a := kj) (lv' := [(5, .int (iI (kj + 1))), (4, .ref u0), (0, .ref y), (1, .ref h), (2, .int (iI rn)), (3, .int (iI (bz rr)))]) F dL_writes_168 hl rfl (by decide) rfl (fun ls hl => ?_)
                    refine h_goto (tgt := 126) F dL_writes_171 (by decide) ?_
                    have eq32 : ((kj + 1) : Int) = kj + 1 := by first | rfl | omega | simp
                    exact ih126 (kj + 1)  (by omega) (by omega)   _ _ ls hW hS (by rw [eq32]; exact lv_sub hl [0, 1, 2, 3, 4, 5] rfl)
                  · exfalso; omega
          exact loop126 ((wrL σ rn rr (σ 0).toNat + 1 - 0) + 1 : Int).toNat 0   (by omega) (by omega)   _ _ ls hW hS (lv_sub hl [0, 1, 2, 3, 4, 5] rfl)
        · exact absurd rfl c21
      · have join39 : ∀ (H : Heap) (locs : List Loc) (ls : Array Slot), Wd X w6 s H → va_S (cxA X) s.heap H locs → lv_has ls 7 [(5, .int (iI k)), (4, .ref u0), (0, .ref y), (1, .ref h), (2, .int (iI rn)), (3, .int (iI (bz rr)))] → W p l e (rmG 7 70 3300 156) s m (List.toArray [.ref y, .ref h, .int (iI rn), .int (iI (bz rr))]) below meth c H locs (kc12) (ks12) (MX X below (List.toArray [.ref y, .ref h, .int (iI rn), .int (iI (bz rr))]) s 70 3300 (some (.int (iI (bz true)))) (fun w' => ∃ (M9 : Int), ∃ (ob9 : Int → Int), w' (y + 309) = some (.inr (0, [.ref (y + 310), .int (iI M9)])) ∧ w' (y + 310) = some (aZ X 400 ob9) ∧ (0 ≤ M9 ∧ M9 ≤ 80) ∧ ∀ (q : Nat) (e : va_E), w q = some e → q ≠ y + 309 → q ≠ y + 310 → w' q = some e)) (F0 m 39 ls [.int (iI (wcol σ rr k))]) := by
          intro  H locs ls  hW hS hl
          refine lv_istore (lv' := [(6, .int (iI (wcol σ rr k))), (5, .int (iI k)), (4, .ref u0), (0, .ref y), (1, .ref h), (2, .int (iI rn)), (3, .int (iI (bz rr)))]) F.1 F.2.1 dL_writes_39 hl (by decide) rfl (fun ls hl => ?_)
          have hcol : 0 ≤ wcol σ rr k ∧ wcol σ rr k < σ 0 := by unfold wcol turnS; split <;> omega
          have hce := hWF.1.2.2.2.1 (wcol σ rr k) rn hcol.1 hcol.2 hrn9.1 hrn9.2
          refine lv_aload_n F.1 F.2.1 dL_writes_41 rfl (lv_at hl 4 rfl) ?_
          refine lv_iload F.1 F.2.1 dL_writes_42 (lv_at hl 0 rfl) ?_
          refine lv_iload_n F.1 F.2.1 dL_writes_44 rfl (lv_at hl 5 rfl) ?_
          refine cl_RL_175 (As := [.int (iI (wcol σ rr k)), .int (iI rn)]) (rest := []) F hl (c_X10_at l X w6 h σ (wcol σ rr k) rn hAk (by omega) (by omega)) hW hS hh0 rfl rfl ⟨Nat.le_of_ble_eq_true rfl, Nat.le_of_ble_eq_true rfl⟩ (Nat.le_of_ble_eq_true rfl) ⟨(by show kc12 + 0 ≤ 70; omega), (by show ks12 + 0 ≤ 3300; omega)⟩ dL_writes_45 (fun w1 H locs hp33 hW hS => ?_)
          rw [hp33] at hW; clear hp33; clear w1
          refine h_ifge (tgt := 62) F dL_writes_48 (by decide) (by omega) (fun c34 => ?_) (fun c34 => ?_)
          · have hdg := dg1 (x := cellS σ (wcol σ rr k) rn) (by omega)
            refine lv_aload F.1 F.2.1 dL_writes_62 (lv_at hl 2 rfl) ?_
            refine lv_aload_n F.1 F.2.1 dL_writes_64 rfl (lv_at hl 4 rfl) ?_
            refine lv_iload F.1 F.2.1 dL_writes_65 (lv_at hl 0 rfl) ?_
            refine lv_iload_n F.1 F.2.1 dL_writes_67 rfl (lv_at hl 5 rfl) ?_
            refine cl_RL_175 (As := [.int (iI (wcol σ rr k)), .int (iI rn)]) (rest := [.ref u0]) F hl (c_X10_at l X w6 h σ (wcol σ rr k) rn hAk (by omega) (by omega)) hW hS hh0 rfl rfl ⟨Nat.le_of_ble_eq_true rfl, Nat.le_of_ble_eq_true rfl⟩ (Nat.le_of_ble_eq_true rfl) ⟨(by show kc12 + 0 + 0 ≤ 70; omega), (by show ks12 + 0 + 0 ≤ 3300; omega)⟩ dL_writes_68 (fun w1 H locs hp35 hW hS => ?_)
            rw [hp35] at hW; clear hp35; clear w1
            refine cl_RL_102 (As := [.int (iI (cellS σ (wcol σ rr k) rn))]) (rest := []) F hl (c_J4_append_bf812 l X w6 u0 bk (iI (bz false)) (wrL σ rn rr k.toNat) cpk f0k (wrF ob σ rn rr k.toNat) 80 (cellS σ (wcol σ rr k) rn) hu9 hb9 hP9 (by omega) (by omega) (by omega)) hW hS hu9 rfl rfl ⟨Nat.le_of_ble_eq_true rfl, Nat.le_of_ble_eq_true rfl⟩ (Nat.le_of_ble_eq_true rfl) ⟨(by show kc12 + 0 + 0 + 1 ≤ 70; omega), (by show ks12 + 0 + 0 + 80 ≤ 3300; omega)⟩ dL_writes_71 (fun w36 H locs hp37 hW hS => ?_)
            obtain ⟨bx, cx, fx, ho38, ha39, hP8, hbx, hubx, hx40⟩ := hp37
            have hh0 := hx40 _ _ hh0 (by omega) (by omega)
            have hWB := hx40 _ _ hWB (by omega) (by omega)
            have hWT := hx40 _ _ hWT (by omega) (by omega)
            have hg1 : dgC (cellS σ (wcol σ rr k) rn) 0 = wchr (cellS σ (wcol σ rr k) rn) := by unfold wchr; rw [if_neg (by omega)]; exact hdg.2
            rw [hdg.1] at hP8
            refine lv_pop F.1 F.2.1 dL_writes_74 rfl ?_
            have hE75 : ext w w36 := (show ext w w36 from fun q e h9 => by have z9_1 := hfr4 q e h9; have h9 := (hn2 q (by omega)).trans h9; have h9 := hx13 q e h9 (by omega); have h9 := hF12 q e h9 (by omega); have h9 := hx40 q e h9 (by omega) (by omega); exact h9)
            have hA75 := hO0.A.ex hE75
            have ho75 := ho38; rw [hdg.1] at ho75
            refine lv_aload_n F.1 F.2.1 dL_writes_75 rfl (lv_at hl 4 rfl) ?_
            refine lv_iload F.1 F.2.1 dL_writes_76 (lv_at hl 0 rfl) ?_
            refine lv_iload_n F.1 F.2.1 dL_writes_78 rfl (lv_at hl 5 rfl) ?_
            refine cl_RL_254 (As := [.int (iI (wcol σ rr k)), .int (iI rn)]) (rest := []) F hl (c_X10_wrong l X w36 h σ (wcol σ rr k) rn hA75 (by omega) (by omega)) hW hS hh0 rfl rfl ⟨Nat.le_of_ble_eq_true rfl, Nat.le_of_ble_eq_true rfl⟩ (Nat.le_of_ble_eq_true rfl) ⟨(by show kc12 + 0 + 0 + 1 + 1 ≤ 70; omega), (by show ks12 + 0 + 0 + 80 + 4 ≤ 3300; omega)⟩ dL_writes_79 (fun w1 H locs hp41 hW hS => ?_)
            rw [hp41] at hW; clear hp41; clear w1
            refine h_ifeqb (tgt := 101) F dL_writes_82 (by decide) (fun c42 => ?_) (fun c42 => ?_)
            · have hfl : wflg σ rn rr k = false := by unfold wflg; rw [c42, Bool.and_false]
              have hq7 := hP8
              have hLs : wrL σ rn rr (k + 1).toNat = wrL σ rn rr k.toNat + 1 := by rw [wrL_s _ _ _ (by omega), hfl]; exact Int.add_zero _
              have hq8 := hq7.cg (g := wrF ob σ rn rr (k + 1).toNat) (fun j h1 h2 => by rw [wrF_f _ _ _ _ (by omega) hfl]; exact ap_up hg1 j h2)
              refine h_iinc (k := 1) (a := k) (lv' := [(5, .int (iI (k + 1))), (6, .int (iI (wcol σ rr k))), (4, .ref u0), (0, .ref y), (1, .ref h), (2, .int (iI rn)), (3, .int (iI (bz rr)))]) F dL_writes_101 hl rfl (by decide) rfl (fun ls hl => ?_)
              refine h_goto (tgt := 12) F dL_writes_104 (by decide) ?_
              have eq43 : ((k + 1) : Int) = k + 1 := by first | rfl | omega | simp
              exact ih12 (k + 1) (kc12 + 0 + 0 + 1 + 1) (ks12 + 0 + 0 + 80 + 4) bx cx fx (by omega) (by omega) w36 (fun q e h9 h09 => by
                  have h9 := hF12 q e h9 (by omega)
                  have h9 := hx40 q e h9 (by omega) (by omega)
                  exact h9) (by omega) (by omega) (by rw [hLs]; exact ho75) ha39 (by rw [hLs]; exact hq8) hubx _ _ ls hW hS (by rw [eq43]; exact lv_sub hl [0, 2, 3, 4, 5, 6] rfl)
            · have hms := c42
              refine lv_aload_n F.1 F.2.1 dL_writes_85 rfl (lv_at hl 4 rfl) ?_
              refine lv_iload_n F.1 F.2.1 dL_writes_86 rfl (lv_at hl 5 rfl) ?_
              refine cl_RL_215 (As := [.int (iI rn)]) (rest := []) F hl (c_X10_seen l X w36 h σ rn hA75 (by omega)) hW hS hh0 rfl rfl ⟨Nat.le_of_ble_eq_true rfl, Nat.le_of_ble_eq_true rfl⟩ (Nat.le_of_ble_eq_true rfl) ⟨(by show kc12 + 0 + 0 + 1 + 1 + 0 ≤ 70; omega), (by show ks12 + 0 + 0 + 80 + 4 + 0 ≤ 3300; omega)⟩ dL_writes_87 (fun w1 H locs hp44 hW hS => ?_)
              rw [hp44] at hW; clear hp44; clear w1
              refine h_ifeqb (tgt := 101) F dL_writes_90 (by decide) (fun c45 => ?_) (fun c45 => ?_)
              · have hfl : wflg σ rn rr k = false := by unfold wflg; rw [c45]; rfl
                have hq7 := hP8
                have hLs : wrL σ rn rr (k + 1).toNat = wrL σ rn rr k.toNat + 1 := by rw [wrL_s _ _ _ (by omega), hfl]; exact Int.add_zero _
                have hq8 := hq7.cg (g := wrF ob σ rn rr (k + 1).toNat) (fun j h1 h2 => by rw [wrF_f _ _ _ _ (by omega) hfl]; exact ap_up hg1 j h2)
                refine h_iinc (k := 1) (a := k) (lv' := [(5, .int (iI (k + 1))), (6, .int (iI (wcol σ rr k))), (4, .ref u0), (0, .ref y), (1, .ref h), (2, .int (iI rn)), (3, .int (iI (bz rr)))]) F dL_writes_101 hl rfl (by decide) rfl (fun ls hl => ?_)
                refine h_goto (tgt := 12) F dL_writes_104 (by decide) ?_
                have eq46 : ((k + 1) : Int) = k + 1 := by first | rfl | omega | simp
                exact ih12 (k + 1) (kc12 + 0 + 0 + 1 + 1 + 0) (ks12 + 0 + 0 + 80 + 4 + 0) bx cx fx (by omega) (by omega) w36 (fun q e h9 h09 => by
                    have h9 := hF12 q e h9 (by omega)
                    have h9 := hx40 q e h9 (by omega) (by omega)
                    exact h9) (by omega) (by omega) (by rw [hLs]; exact ho75) ha39 (by rw [hLs]; exact hq8) hubx _ _ ls hW hS (by rw [eq46]; exact lv_sub hl [0, 2, 3, 4, 5, 6] rfl)
              · have hfl : wflg σ rn rr k = true := by unfold wflg; rw [c45, hms]; rfl
                refine lv_aload F.1 F.2.1 dL_writes_93 (lv_at hl 2 rfl) ?_
                refine h_bipush F dL_writes_95 rfl ?_
                refine cl_RL_49 (As := [.int (iI 33)]) (rest := []) F hl (c_J4_append_cf468 l X w36 u0 bx (iI (bz false)) (wrL σ rn rr k.toNat + 1) cx fx (apS (wrF ob σ rn rr k.toNat) (wrL σ rn rr k.toNat) (dgC (cellS σ (wcol σ rr k) rn))) 80 33 ho75 ha39 hP8 (by omega) (by omega) (by omega)) hW hS ho75 rfl rfl ⟨Nat.le_of_ble_eq_true rfl, Nat.le_of_ble_eq_true rfl⟩ (Nat.le_of_ble_eq_true rfl) ⟨(by show kc12 + 0 + 0 + 1 + 1 + 0 + 1 ≤ 70; omega), (by show ks12 + 0 + 0 + 80 + 4 + 0 + 80 ≤ 3300; omega)⟩ dL_writes_97 (fun w47 H locs hp48 hW hS => ?_)
                obtain ⟨by9, cy, fy, ho49, ha50, hP7, hby, huby, hx51⟩ := hp48
                have hh0 := hx51 _ _ hh0 (by omega) (by omega)
                have hWB := hx51 _ _ hWB (by omega) (by omega)
                have hWT := hx51 _ _ hWT (by omega) (by omega)
                refine lv_pop F.1 F.2.1 dL_writes_100 rfl ?_
                have hq7 := hP7
                have hLs : wrL σ rn rr (k + 1).toNat = wrL σ rn rr k.toNat + 1 + 1 := by rw [wrL_s _ _ _ (by omega), hfl]; rfl
                have hq8 := hq7.cg (g := wrF ob σ rn rr (k + 1).toNat) (fun j h1 h2 => by rw [wrF_t _ _ _ _ (by omega) hfl]; exact ap_up2 hg1 rfl j h2)
                refine h_iinc (k := 1) (a := k) (lv' := [(5, .int (iI (k + 1))), (6, .int (iI (wcol σ rr k))), (4, .ref u0), (0, .ref y), (1, .ref h), (2, .int (iI rn)), (3, .int (iI (bz rr)))]) F dL_writes_101 hl rfl (by decide) rfl (fun ls hl => ?_)
                refine h_goto (tgt := 12) F dL_writes_104 (by decide) ?_
                have eq52 : ((k + 1) : Int) = k + 1 := by first | rfl | omega | simp
                exact ih12 (k + 1) (kc12 + 0 + 0 + 1 + 1 + 0 + 1) (ks12 + 0 + 0 + 80 + 4 + 0 + 80) by9 cy fy (by omega) (by omega) w47 (fun q e h9 h09 => by
                    have h9 := hF12 q e h9 (by omega)
                    have h9 := hx40 q e h9 (by omega) (by omega)
                    have h9 := hx51 q e h9 (by omega) (by omega)
                    exact h9) (by omega) (by omega) (by rw [hLs]; exact ho49) ha50 (by rw [hLs]; exact hq8) huby _ _ ls hW hS (by rw [eq52]; exact lv_sub hl [0, 2, 3, 4, 5, 6] rfl)
          · have hcm : cellS σ (wcol σ rr k) rn = -1 := by omega
            refine lv_aload F.1 F.2.1 dL_writes_51 (lv_at hl 2 rfl) ?_
            refine h_bipush F dL_writes_53 rfl ?_
            refine cl_RL_49 (As := [.int (iI 46)]) (rest := []) F hl (c_J4_append_cf468 l X w6 u0 bk (iI (bz false)) (wrL σ rn rr k.toNat) cpk f0k (wrF ob σ rn rr k.toNat) 80 46 hu9 hb9 hP9 (by omega) (by omega) (by omega)) hW hS hu9 rfl rfl ⟨Nat.le_of_ble_eq_true rfl, Nat.le_of_ble_eq_true rfl⟩ (Nat.le_of_ble_eq_true rfl) ⟨(by show kc12 + 0 + 1 ≤ 70; omega), (by show ks12 + 0 + 80 ≤ 3300; omega)⟩ dL_writes_55 (fun w53 H locs hp54 hW hS => ?_)
            obtain ⟨bx, cx, fx, ho55, ha56, hP8, hbx, hubx, hx57⟩ := hp54
            have hh0 := hx57 _ _ hh0 (by omega) (by omega)
            have hWB := hx57 _ _ hWB (by omega) (by omega)
            have hWT := hx57 _ _ hWT (by omega) (by omega)
            have hg1 : (fun _ : Int => (46 : Int)) 0 = wchr (cellS σ (wcol σ rr k) rn) := by unfold wchr; rw [if_pos hcm]
            refine lv_pop F.1 F.2.1 dL_writes_58 rfl ?_
            refine h_goto (tgt := 75) F dL_writes_59 (by decide) ?_
            have hE75 : ext w w53 := (show ext w w53 from fun q e h9 => by have z9_1 := hfr4 q e h9; have h9 := (hn2 q (by omega)).trans h9; have h9 := hx13 q e h9 (by omega); have h9 := hF12 q e h9 (by omega); have h9 := hx57 q e h9 (by omega) (by omega); exact h9)
            have hA75 := hO0.A.ex hE75
            skip
            refine lv_aload_n F.1 F.2.1 dL_writes_75 rfl (lv_at hl 4 rfl) ?_
            refine lv_iload F.1 F.2.1 dL_writes_76 (lv_at hl 0 rfl) ?_
            refine lv_iload_n F.1 F.2.1 dL_writes_78 rfl (lv_at hl 5 rfl) ?_
            refine cl_RL_254 (As := [.int (iI (wcol σ rr k)), .int (iI rn)]) (rest := []) F hl (c_X10_wrong l X w53 h σ (wcol σ rr k) rn hA75 (by omega) (by omega)) hW hS hh0 rfl rfl ⟨Nat.le_of_ble_eq_true rfl, Nat.le_of_ble_eq_true rfl⟩ (Nat.le_of_ble_eq_true rfl) ⟨(by show kc12 + 0 + 1 + 1 ≤ 70; omega), (by show ks12 + 0 + 80 + 4 ≤ 3300; omega)⟩ dL_writes_79 (fun w1 H locs hp58 hW hS => ?_)
            rw [hp58] at hW; clear hp58; clear w1
            refine h_ifeqb (tgt := 101) F dL_writes_82 (by decide) (fun c59 => ?_) (fun c59 => ?_)
            · have hfl : wflg σ rn rr k = false := by unfold wflg; rw [c59, Bool.and_false]
              have hq7 := hP8
              have hLs : wrL σ rn rr (k + 1).toNat = wrL σ rn rr k.toNat + 1 := by rw [wrL_s _ _ _ (by omega), hfl]; exact Int.add_zero _
              have hq8 := hq7.cg (g := wrF ob σ rn rr (k + 1).toNat) (fun j h1 h2 => by rw [wrF_f _ _ _ _ (by omega) hfl]; exact ap_up hg1 j h2)
              refine h_iinc (k := 1) (a := k) (lv' := [(5, .int (iI (k + 1))), (6, .int (iI (wcol σ rr k))), (4, .ref u0), (0, .ref y), (1, .ref h), (2, .int (iI rn)), (3, .int (iI (bz rr)))]) F dL_writes_101 hl rfl (by decide) rfl (fun ls hl => ?_)
              refine h_goto (tgt := 12) F dL_writes_104 (by decide) ?_
              have eq60 : ((k + 1) : Int) = k + 1 := by first | rfl | omega | simp
              exact ih12 (k + 1) (kc12 + 0 + 1 + 1) (ks12 + 0 + 80 + 4) bx cx fx (by omega) (by omega) w53 (fun q e h9 h09 => by
                  have h9 := hF12 q e h9 (by omega)
                  have h9 := hx57 q e h9 (by omega) (by omega)
                  exact h9) (by omega) (by omega) (by rw [hLs]; exact ho55) ha56 (by rw [hLs]; exact hq8) hubx _ _ ls hW hS (by rw [eq60]; exact lv_sub hl [0, 2, 3, 4, 5, 6] rfl)
            · have hms := c59
              refine lv_aload_n F.1 F.2.1 dL_writes_85 rfl (lv_at hl 4 rfl) ?_
              refine lv_iload_n F.1 F.2.1 dL_writes_86 rfl (lv_at hl 5 rfl) ?_
              refine cl_RL_215 (As := [.int (iI rn)]) (rest := []) F hl (c_X10_seen l X w53 h σ rn hA75 (by omega)) hW hS hh0 rfl rfl ⟨Nat.le_of_ble_eq_true rfl, Nat.le_of_ble_eq_true rfl⟩ (Nat.le_of_ble_eq_true rfl) ⟨(by show kc12 + 0 + 1 + 1 + 0 ≤ 70; omega), (by show ks12 + 0 + 80 + 4 + 0 ≤ 3300; omega)⟩ dL_writes_87 (fun w1 H locs hp61 hW hS => ?_)
              rw [hp61] at hW; clear hp61; clear w1
              refine h_ifeqb (tgt := 101) F dL_writes_90 (by decide) (fun c62 => ?_) (fun c62 => ?_)
              · have hfl : wflg σ rn rr k = false := by unfold wflg; rw [c62]; rfl
                have hq7 := hP8
                have hLs : wrL σ rn rr (k + 1).toNat = wrL σ rn rr k.toNat + 1 := by rw [wrL_s _ _ _ (by omega), hfl]; exact Int.add_zero _
                have hq8 := hq7.cg (g := wrF ob σ rn rr (k + 1).toNat) (fun j h1 h2 => by rw [wrF_f _ _ _ _ (by omega) hfl]; exact ap_up hg1 j h2)
                refine h_iinc (k := 1) (a := k) (lv' := [(5, .int (iI (k + 1))), (6, .int (iI (wcol σ rr k))), (4, .ref u0), (0, .ref y), (1, .ref h), (2, .int (iI rn)), (3, .int (iI (bz rr)))]) F dL_writes_101 hl rfl (by decide) rfl (fun ls hl => ?_)
                refine h_goto (tgt := 12) F dL_writes_104 (by decide) ?_
                have eq63 : ((k + 1) : Int) = k + 1 := by first | rfl | omega | simp
                exact ih12 (k + 1) (kc12 + 0 + 1 + 1 + 0) (ks12 + 0 + 80 + 4 + 0) bx cx fx (by omega) (by omega) w53 (fun q e h9 h09 => by
                    have h9 := hF12 q e h9 (by omega)
                    have h9 := hx57 q e h9 (by omega) (by omega)
                    exact h9) (by omega) (by omega) (by rw [hLs]; exact ho55) ha56 (by rw [hLs]; exact hq8) hubx _ _ ls hW hS (by rw [eq63]; exact lv_sub hl [0, 2, 3, 4, 5, 6] rfl)
              · have hfl : wflg σ rn rr k = true := by unfold wflg; rw [c62, hms]; rfl
                refine lv_aload F.1 F.2.1 dL_writes_93 (lv_at hl 2 rfl) ?_
                refine h_bipush F dL_writes_95 rfl ?_
                refine cl_RL_49 (As := [.int (iI 33)]) (rest := []) F hl (c_J4_append_cf468 l X w53 u0 bx (iI (bz false)) ((wrL σ rn rr k.toNat) + 1) cx fx (apS (wrF ob σ rn rr k.toNat) (wrL σ rn rr k.toNat) (fun _ => 46)) 80 33 ho55 ha56 hP8 (by omega) (by omega) (by omega)) hW hS ho55 rfl rfl ⟨Nat.le_of_ble_eq_true rfl, Nat.le_of_ble_eq_true rfl⟩ (Nat.le_of_ble_eq_true rfl) ⟨(by show kc12 + 0 + 1 + 1 + 0 + 1 ≤ 70; omega), (by show ks12 + 0 + 80 + 4 + 0 + 80 ≤ 3300; omega)⟩ dL_writes_97 (fun w64 H locs hp65 hW hS => ?_)
                obtain ⟨by9, cy, fy, ho66, ha67, hP7, hby, huby, hx68⟩ := hp65
                have hh0 := hx68 _ _ hh0 (by omega) (by omega)
                have hWB := hx68 _ _ hWB (by omega) (by omega)
                have hWT := hx68 _ _ hWT (by omega) (by omega)
                refine lv_pop F.1 F.2.1 dL_writes_100 rfl ?_
                have hq7 := hP7
                have hLs : wrL σ rn rr (k + 1).toNat = wrL σ rn rr k.toNat + 1 + 1 := by rw [wrL_s _ _ _ (by omega), hfl]; rfl
                have hq8 := hq7.cg (g := wrF ob σ rn rr (k + 1).toNat) (fun j h1 h2 => by rw [wrF_t _ _ _ _ (by omega) hfl]; exact ap_up2 hg1 rfl j h2)
                refine h_iinc (k := 1) (a := k) (lv' := [(5, .int (iI (k + 1))), (6, .int (iI (wcol σ rr k))), (4, .ref u0), (0, .ref y), (1, .ref h), (2, .int (iI rn)), (3, .int (iI (bz rr)))]) F dL_writes_101 hl rfl (by decide) rfl (fun ls hl => ?_)
                refine h_goto (tgt := 12) F dL_writes_104 (by decide) ?_
                have eq69 : ((k + 1) : Int) = k + 1 := by first | rfl | omega | simp
                exact ih12 (k + 1) (kc12 + 0 + 1 + 1 + 0 + 1) (ks12 + 0 + 80 + 4 + 0 + 80) by9 cy fy (by omega) (by omega) w64 (fun q e h9 h09 => by
                    have h9 := hF12 q e h9 (by omega)
                    have h9 := hx57 q e h9 (by omega) (by omega)
                    have h9 := hx68 q e h9 (by omega) (by omega)
                    exact h9) (by omega) (by omega) (by rw [hLs]; exact ho66) ha67 (by rw [hLs]; exact hq8) huby _ _ ls hW hS (by rw [eq69]; exact lv_sub hl [0, 2, 3, 4, 5, 6] rfl)
        refine lv_iload_n F.1 F.2.1 dL_writes_21 rfl (lv_at hl 5 rfl) ?_
        refine h_ifeqb (tgt := 37) F dL_writes_22 (by decide) (fun c70 => ?_) (fun c70 => ?_)
        · have hbb := c70
          refine lv_iload F.1 F.2.1 dL_writes_37 (lv_at hl 0 rfl) ?_
          refine h_top (show (k : Int) = wcol σ rr k from by unfold wcol; rw [hbb]; rfl) ?_
          exact join39  _ _ ls  hW hS (lv_sub hl [0, 1, 2, 3, 4, 5] rfl)
        · have hbb := c70
          refine lv_aload_n F.1 F.2.1 dL_writes_25 rfl (lv_at hl 3 rfl) ?_
          refine gf_RL_60 F hW hh0 rfl dL_writes_26 ?_
          refine h_iconst F dL_writes_29 ?_
          refine h_isub (a := σ 0) (b := 1) F dL_writes_30 ?_
          refine lv_iload F.1 F.2.1 dL_writes_31 (lv_at hl 0 rfl) ?_
          refine h_isub (a := (σ 0) - 1) (b := k) F dL_writes_33 ?_
          refine h_goto (tgt := 39) F dL_writes_34 (by decide) ?_
          refine h_top (show (((σ 0) - 1) - k : Int) = wcol σ rr k from by unfold wcol; rw [hbb]; rfl) ?_
          exact join39  _ _ ls  hW hS (lv_sub hl [0, 1, 2, 3, 4, 5] rfl)
  exact loop12 ((σ 0 - 0) + 1 : Int).toNat 0 (0 + 1 + 1) (0 + 4 + 16) b9 16 (fun _ => 0)  (by omega) (by omega) w9 (fun q e h9 h09 => by
      exact h9) (by omega) (by omega) ho11 ha12 (sbP.z (by omega)) hub9 _ _ ls hW hS (lv_sub hl [0, 1, 2, 3, 4, 5] rfl)
