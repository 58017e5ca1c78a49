set_option maxHeartbeats 4000000 in
set_option maxRecDepth 100000 in
theorem c_L_would (l : Launch) (X : Cx) (w : Wo) (y h gq : Nat) (N : Nat → Prop) (σ gf : Int → Int) (nx sz : Int) (pas : Int → Int → Int) (ac : Int → Int) (hO : ownN X w N h σ) (hNy : ∀ q, y ≤ q → q < y + 321 → N q) (hNg : N gq) (hgy : gq < y ∨ y + 321 ≤ gq) (hg9 : w gq = some (aZ X 1 gf)) (hK : KS X w y σ nx sz pas ac) : CM l X yL_would cL_would 13 (some (.boolean)) (rmG 8 4900 25000 184) [.ref y, .ref h, .ref gq] w (some (.int (iI (bz true)))) (fun w' => (KS X w' y σ nx sz pas ac) ∧ (∃ gf2, w' gq = some (aZ X 1 gf2)) ∧ ∀ (q : Nat) (e : va_E), w q = some e → q ≠ gq → q < y ∨ y + 321 ≤ q → w' q = some e) := by
  refine CM.of (lv := [(0, .ref y), (1, .ref h), (2, .ref gq)]) (by decide) (Nat.le_of_ble_eq_true rfl) rfl (fun p e s m below meth c ls F hr hlk hin hW hS hl => ?_)
  have hZ0 := hW.2.2
  have hB9 := hW.1.2
  clear hin
  have hO0 := hO
  obtain ⟨st, lc, ec, kc, lr, er, kr, cd, rwa, hPw0, hern⟩ := hO.1.P
  have hh0 := (wr_some.mp hPw0.1).2
  have hWF := hPw0.2.2.2.2.2.2.2.2.2.1
  obtain ⟨wf0, wf1, wf2, wf3, wf4, wf5⟩ := hWF.1.1
  have hwb := hWF.2
  clear hern
  have hWF0 := hWF.1
  obtain ⟨su, tx, M, ob, rv, hKC⟩ := hK
  have hKC0 := hKC
  obtain ⟨hY, hL, hH, hac, hB, hT, hWB, hWT, hR, hds, hsc, ⟨am, ham⟩, ⟨n0, sd0, x0, y0, co0, f0, hv⟩, hM, hsv⟩ := hKC
  have hY0 := hY
  have hL0 := hL
  have hva := hv.1
  have hvb := hv.2
  clear hv
  have hgz : gq ≠ y + 306 ∧ gq ≠ y + 51 ∧ gq ≠ y + 51 + 1 ∧ gq ≠ y + 309 ∧ gq ≠ y + 310 ∧ gq ≠ y := by omega
  have hgh : h ≠ gq := fun e9 => (wr_some.mp hPw0.1).1 (e9 ▸ hNg)
  have hhy : ∀ j : Nat, j < 321 → h ≠ y + j := fun j hj e9 => (wr_some.mp hPw0.1).1 (e9 ▸ hNy _ (by omega) (by omega))
  have hh1 := hhy 51 (by omega)
  have hh2 := hhy 52 (by omega)
  have hh3 := hhy 306 (by omega)
  have hh4 := hhy 309 (by omega)
  have hh5 := hhy 310 (by omega)
  have hgI := hgy
  clear hgy
  have join32 : ∀ (H : Heap) (locs : List Loc) (ls : Array Slot), Wd X w s H → va_S (cxA X) s.heap H locs → lv_has ls 13 [(3, .int (iI (fi (lastsP σ) 0 (σ 1 - σ 4)))), (0, .ref y), (1, .ref h), (2, .ref gq)] → W p l e (rmG 8 4900 25000 184) s m (List.toArray [.ref y, .ref h, .ref gq]) below meth c H locs (3224) (12935) (MX X below (List.toArray [.ref y, .ref h, .ref gq]) s 4900 25000 (some (.int (iI (bz true)))) (fun w' => (KS X w' y σ nx sz pas ac) ∧ (∃ gf2, w' gq = some (aZ X 1 gf2)) ∧ ∀ (q : Nat) (e : va_E), w q = some e → q ≠ gq → q < y ∨ y + 321 ≤ q → w' q = some e)) (F0 m 32 ls []) := by
    intro  H locs ls  hW hS hl
    refine lv_aload_n F.1 F.2.1 dL_would_32 rfl (lv_at hl 3 rfl) ?_
    refine h_bipush F dL_would_33 rfl ?_
    refine cr_RL_45 (As := [.ref gq, .int (iI 8)]) (rest := []) F hl (c_L_draw l X w gq gf 8 hg9 (by omega)) hW hS rfl rfl ⟨Nat.le_of_ble_eq_true rfl, Nat.le_of_ble_eq_true rfl⟩ (Nat.le_of_ble_eq_true rfl) ⟨(by show 3224 + 0 ≤ 4900; omega), (by show 12935 + 0 ≤ 25000; omega)⟩ dL_would_35 (fun v3 w1 H locs hp2 hW hS => ?_)
    obtain ⟨dr, g1, rfl, hm4, ha5, hx6⟩ := hp2
    have hh0 := hx6 _ _ hh0 (by omega)
    have hWB := hx6 _ _ hWB (by omega)
    have hva := hx6 _ _ hva (by omega)
    have hWT := hx6 _ _ hWT (by omega)
    have ham := hx6 _ _ ham (by omega)
    have hvb := hx6 _ _ hvb (by omega)
    refine lv_istore (lv' := [(4, .int (iI dr)), (3, .int (iI (fi (lastsP σ) 0 (σ 1 - σ 4)))), (0, .ref y), (1, .ref h), (2, .ref gq)]) F.1 F.2.1 dL_would_38 hl (by decide) rfl (fun ls hl => ?_)
    refine h_iconst F dL_would_40 ?_
    refine lv_istore (lv' := [(5, .int (iI 0)), (4, .int (iI dr)), (3, .int (iI (fi (lastsP σ) 0 (σ 1 - σ 4)))), (0, .ref y), (1, .ref h), (2, .ref gq)]) F.1 F.2.1 dL_would_41 hl (by decide) rfl (fun ls hl => ?_)
    have join147 : ∀ (H : Heap) (locs : List Loc) (ls : Array Slot), Wd X w1 s H → va_S (cxA X) s.heap H locs → lv_has ls 13 [(5, .int (iI (minQ σ dr))), (4, .int (iI dr)), (3, .int (iI (fi (lastsP σ) 0 (σ 1 - σ 4)))), (0, .ref y), (1, .ref h), (2, .ref gq)] → W p l e (rmG 8 4900 25000 184) s m (List.toArray [.ref y, .ref h, .ref gq]) below meth c H locs (3692) (14807) (MX X below (List.toArray [.ref y, .ref h, .ref gq]) s 4900 25000 (some (.int (iI (bz true)))) (fun w' => (KS X w' y σ nx sz pas ac) ∧ (∃ gf2, w' gq = some (aZ X 1 gf2)) ∧ ∀ (q : Nat) (e : va_E), w q = some e → q ≠ gq → q < y ∨ y + 321 ≤ q → w' q = some e)) (F0 m 147 ls []) := by
      intro  H locs ls  hW hS hl
      refine lv_aload_n F.1 F.2.1 dL_would_147 rfl (lv_at hl 5 rfl) ?_
      refine lv_aload_n F.1 F.2.1 dL_would_148 rfl (lv_at hl 4 rfl) ?_
      refine gf_RL_66 F hW hh0 rfl dL_would_149 ?_
      refine cr_RL_45 (As := [.ref gq, .int (iI (σ 1))]) (rest := []) F hl (c_L_draw l X w1 gq g1 (σ 1) ha5 (by omega)) hW hS rfl rfl ⟨Nat.le_of_ble_eq_true rfl, Nat.le_of_ble_eq_true rfl⟩ (Nat.le_of_ble_eq_true rfl) ⟨(by show 3692 + 0 ≤ 4900; omega), (by show 14807 + 0 ≤ 25000; omega)⟩ dL_would_152 (fun v9 w7 H locs hp8 hW hS => ?_)
      obtain ⟨rn, g2, rfl, hm10, ha11, hx12⟩ := hp8
      have hh0 := hx12 _ _ hh0 (by omega)
      have hWB := hx12 _ _ hWB (by omega)
      have hva := hx12 _ _ hva (by omega)
      have hWT := hx12 _ _ hWT (by omega)
      have ham := hx12 _ _ ham (by omega)
      have hvb := hx12 _ _ hvb (by omega)
      refine lv_istore (lv' := [(6, .int (iI rn)), (5, .int (iI (minQ σ dr))), (4, .int (iI dr)), (3, .int (iI (fi (lastsP σ) 0 (σ 1 - σ 4)))), (0, .ref y), (1, .ref h), (2, .ref gq)]) F.1 F.2.1 dL_would_155 hl (by decide) rfl (fun ls hl => ?_)
      have hgb : ∀ (q : Nat) (e : va_E), w q = some e → q ≠ gq → q ≠ y + 51 → q ≠ y + 306 → q ≠ y + 309 → q ≠ y + 310 → w7 q = some e := fun q e h9 h09 h19 h29 h39 h49 => by have h9 := hx6 q e h9 (by omega); have h9 := hx12 q e h9 (by omega); exact h9
      have hAw : ownA X (wr w7 N) h σ := hO0.1.ex (fun q e h9 => by have hN9 := (wr_some.mp h9).1; exact wr_some.mpr ⟨hN9, hgb q e (wr_some.mp h9).2 (fun e9 => hN9 (e9 ▸ hNg)) (fun e9 => hN9 (e9 ▸ hNy _ (by omega) (by omega))) (fun e9 => hN9 (e9 ▸ hNy _ (by omega) (by omega))) (fun e9 => hN9 (e9 ▸ hNy _ (by omega) (by omega))) (fun e9 => hN9 (e9 ▸ hNy _ (by omega) (by omega)))⟩)
      have hAk : ownA X w7 h σ := hAw.ex (wr_sub _ _)
      refine h_iconst F dL_would_157 ?_
      refine lv_istore (lv' := [(7, .int (iI 0)), (6, .int (iI rn)), (5, .int (iI (minQ σ dr))), (4, .int (iI dr)), (3, .int (iI (fi (lastsP σ) 0 (σ 1 - σ 4)))), (0, .ref y), (1, .ref h), (2, .ref gq)]) F.1 F.2.1 dL_would_158 hl (by decide) rfl (fun ls hl => ?_)
      refine h_iconst F dL_would_160 ?_
      refine lv_istore (lv' := [(8, .int (iI 0)), (7, .int (iI 0)), (6, .int (iI rn)), (5, .int (iI (minQ σ dr))), (4, .int (iI dr)), (3, .int (iI (fi (lastsP σ) 0 (σ 1 - σ 4)))), (0, .ref y), (1, .ref h), (2, .ref gq)]) F.1 F.2.1 dL_would_161 hl (by decide) rfl (fun ls hl => ?_)
      have loop163 : ∀ (n9 : Nat) (cz : Int) (kc163 ks163 : Nat), (hrg : 0 ≤ cz ∧ cz ≤ σ 0) → (hms : σ 0 - cz < (n9 : Int)) → (hkc163 : ((kc163 : Nat) : Int) ≤ ((3692 + 0 : Nat) : Int) + 2 * cz) → (hks163 : ((ks163 : Nat) : Int) ≤ ((14807 + 0 : Nat) : Int) + 8 * cz) → (H : Heap) → (locs : List Loc) → (ls : Array Slot) → Wd X w7 s H → va_S (cxA X) s.heap H locs → lv_has ls 13 [(7, .int (iI (cnt (fun z => decide (desS σ (turnS σ z) rn ≠ desS σ z rn)) 0 cz))), (8, .int (iI cz)), (6, .int (iI rn)), (5, .int (iI (minQ σ dr))), (4, .int (iI dr)), (3, .int (iI (fi (lastsP σ) 0 (σ 1 - σ 4)))), (0, .ref y), (1, .ref h), (2, .ref gq)] → W p l e (rmG 8 4900 25000 184) s m (List.toArray [.ref y, .ref h, .ref gq]) below meth c H locs kc163 ks163 (MX X below (List.toArray [.ref y, .ref h, .ref gq]) s 4900 25000 (some (.int (iI (bz true)))) (fun w' => (KS X w' y σ nx sz pas ac) ∧ (∃ gf2, w' gq = some (aZ X 1 gf2)) ∧ ∀ (q : Nat) (e : va_E), w q = some e → q ≠ gq → q < y ∨ y + 321 ≤ q → w' q = some e)) (F0 m 163 ls []) := by
        intro n9
        induction n9 with
        | zero => intro cz kc163 ks163  hrg hms; exfalso; omega
        | succ n9 ih163 =>
          intro cz kc163 ks163  hrg hms  hkc163 hks163 H locs ls hW hS hl
          refine lv_iload F.1 F.2.1 dL_would_163 (lv_at hl 1 rfl) ?_
          refine lv_aload_n F.1 F.2.1 dL_would_165 rfl (lv_at hl 7 rfl) ?_
          refine gf_RL_60 F hW hh0 rfl dL_would_166 ?_
          refine h_icge (tgt := 214) F dL_would_169 (by decide) (by omega) (fun c13 => ?_) (fun c13 => ?_)
          · have hgb : ∀ (q : Nat) (e : va_E), w q = some e → q ≠ gq → q ≠ y + 51 → q ≠ y + 306 → q ≠ y + 309 → q ≠ y + 310 → w7 q = some e := fun q e h9 h09 h19 h29 h39 h49 => by have h9 := hx6 q e h9 (by omega); have h9 := hx12 q e h9 (by omega); exact h9
            have hEq : ∀ q : Nat, y ≤ q → q < y + 321 → q ≠ y + 51 → q ≠ y + 306 → q ≠ y + 309 → q ≠ y + 310 → w7 q = w q := fun q q0 q1 q2 q3 q4 q5 => eqK (hO0.2.1 q (hNy q q0 q1)) (fun e h9 => hgb q e h9 (by omega) q2 q3 q4 q5)
            have hYc : clO X w7 y su := (hEq y (by omega) (by omega) (by omega) (by omega) (by omega) (by omega)).trans hY0
            have hLc := hL0.mv (w2 := w7) (fun q9 h1 h2 => hEq q9 (by omega) (by omega) (by omega) (by omega) (by omega) (by omega))
            have hce : cz = σ 0 := by omega
            refine lv_aload_n F.1 F.2.1 dL_would_214 rfl (lv_at hl 6 rfl) ?_
            refine cl_RL_272 (As := []) (rest := []) F hl (c_X8_lasts l X w7 y su σ am hYc hLc ham) hW hS hYc rfl rfl ⟨Nat.le_of_ble_eq_true rfl, Nat.le_of_ble_eq_true rfl⟩ (Nat.le_of_ble_eq_true rfl) ⟨(by show kc163 + 0 ≤ 4900; omega), (by show ks163 + 0 ≤ 25000; omega)⟩ dL_would_215 (fun w14 H locs hp15 hW hS => ?_)
            obtain ⟨hmA, hn16⟩ := hp15
            have hh0 := (hn16 _ (by omega)).trans hh0
            have hWB := (hn16 _ (by omega)).trans hWB
            have hva := (hn16 _ (by omega)).trans hva
            have hWT := (hn16 _ (by omega)).trans hWT
            have ha11 := (hn16 _ (by omega)).trans ha11
            have hvb := (hn16 _ (by omega)).trans hvb
            obtain ⟨am9, ham9⟩ := hmA
            have hgb : ∀ (q : Nat) (e : va_E), w q = some e → q ≠ gq → q ≠ y + 51 → q ≠ y + 306 → q ≠ y + 309 → q ≠ y + 310 → w14 q = some e := fun q e h9 h09 h19 h29 h39 h49 => by have h9 := hx6 q e h9 (by omega); have h9 := hx12 q e h9 (by omega); have h9 := (hn16 q (by omega)).trans h9; exact h9
            have hEq : ∀ q : Nat, y ≤ q → q < y + 321 → q ≠ y + 51 → q ≠ y + 306 → q ≠ y + 309 → q ≠ y + 310 → w14 q = w q := fun q q0 q1 q2 q3 q4 q5 => eqK (hO0.2.1 q (hNy q q0 q1)) (fun e h9 => hgb q e h9 (by omega) q2 q3 q4 q5)
            have hYc : clO X w14 y su := (hEq y (by omega) (by omega) (by omega) (by omega) (by omega) (by omega)).trans hY0
            have hLc := hL0.mv (w2 := w14) (fun q9 h1 h2 => hEq q9 (by omega) (by omega) (by omega) (by omega) (by omega) (by omega))
            have hfl := fi_spec (lastsP σ) (lo := 0) (hi := σ 1 - σ 4) (by omega)
            have hmq := minQ_r hWF0 (d := dr) (by omega)
            refine lv_iload_n F.1 F.2.1 dL_would_218 rfl (lv_at hl 5 rfl) ?_
            refine h_icne (tgt := 244) F dL_would_219 (by decide) (by omega) (fun c17 => ?_) (fun c17 => ?_)
            · exact absurd rfl c17
            · refine lv_aload_n F.1 F.2.1 dL_would_222 rfl (lv_at hl 6 rfl) ?_
              refine lv_iload F.1 F.2.1 dL_would_223 (lv_at hl 4 rfl) ?_
              refine cl_RL_275 (As := [.int (iI dr)]) (rest := []) F hl (c_X8_minutes l X w14 y su σ dr hYc hLc (by omega)) hW hS hYc rfl rfl ⟨Nat.le_of_ble_eq_true rfl, Nat.le_of_ble_eq_true rfl⟩ (Nat.le_of_ble_eq_true rfl) ⟨(by show kc163 + 0 + 0 ≤ 4900; omega), (by show ks163 + 0 + 0 ≤ 25000; omega)⟩ dL_would_225 (fun w1 H locs hp18 hW hS => ?_)
              rw [hp18] at hW; clear hp18; clear w1
              refine lv_iload F.1 F.2.1 dL_would_228 (lv_at hl 3 rfl) ?_
              refine h_icne (tgt := 244) F dL_would_230 (by decide) (by omega) (fun c19 => ?_) (fun c19 => ?_)
              · exact absurd rfl c19
              · refine lv_aload_n F.1 F.2.1 dL_would_233 rfl (lv_at hl 6 rfl) ?_
                refine lv_iload F.1 F.2.1 dL_would_234 (lv_at hl 2 rfl) ?_
                refine cl_RL_278 (As := [.int (iI rn)]) (rest := []) F hl (c_X8_wouldErr l X w14 y su σ rn hYc hLc (by omega)) hW hS hYc rfl rfl ⟨Nat.le_of_ble_eq_true rfl, Nat.le_of_ble_eq_true rfl⟩ (Nat.le_of_ble_eq_true rfl) ⟨(by show kc163 + 0 + 0 + 0 ≤ 4900; omega), (by show ks163 + 0 + 0 + 0 ≤ 25000; omega)⟩ dL_would_236 (fun w1 H locs hp20 hW hS => ?_)
                rw [hp20] at hW; clear hp20; clear w1
                refine h_top (show (cnt (fun z => decide (desS σ (turnS σ z) rn ≠ desS σ z rn)) 0 (σ 0) : Int) = cnt (fun z => decide (desS σ (turnS σ z) rn ≠ desS σ z rn)) 0 cz from by rw [hce]) ?_
                have hcr := cnt_r (fun z => decide (desS σ (turnS σ z) rn ≠ desS σ z rn)) (lo := 0) (hi := cz) (by omega)
                refine lv_iload F.1 F.2.1 dL_would_239 (lv_at hl 0 rfl) ?_
                refine h_iceq (tgt := 246) F dL_would_241 (by decide) (by omega) (fun c21 => ?_) (fun c21 => ?_)
                · refine h_iconst F dL_would_246 ?_
                  refine lv_aload_n F.1 F.2.1 dL_would_247 rfl (lv_at hl 8 rfl) ?_
                  refine h_iconst F dL_would_248 ?_
                  refine cr_RL_45 (As := [.ref gq, .int (iI 3)]) (rest := [.int (iI 1)]) F hl (c_L_draw l X w14 gq g2 3 ha11 (by omega)) hW hS rfl rfl ⟨Nat.le_of_ble_eq_true rfl, Nat.le_of_ble_eq_true rfl⟩ (Nat.le_of_ble_eq_true rfl) ⟨(by show kc163 + 0 + 0 + 0 + 0 ≤ 4900; omega), (by show ks163 + 0 + 0 + 0 + 0 ≤ 25000; omega)⟩ dL_would_249 (fun v24 w22 H locs hp23 hW hS => ?_)
                  obtain ⟨dn, g3, rfl, hm25, ha26, hx27⟩ := hp23
                  have hh0 := hx27 _ _ hh0 (by omega)
                  have hWB := hx27 _ _ hWB (by omega)
                  have hva := hx27 _ _ hva (by omega)
                  have hWT := hx27 _ _ hWT (by omega)
                  have hvb := hx27 _ _ hvb (by omega)
                  have ham9 := hx27 _ _ ham9 (by omega)
                  obtain ⟨nn, hnn⟩ : ∃ nn : Nat, ((nn : Nat) : Int) = 1 + dn := ⟨(1 + dn).toNat, by omega⟩
                  refine h_iadd (a := 1) (b := dn) F dL_would_252 ?_
                  refine h_top (show (1 + dn : Int) = ((nn : Nat) : Int) from hnn.symm) ?_
                  refine lv_istore (lv' := [(8, .int (iI ((nn : Nat) : Int))), (7, .int (iI (cnt (fun z => decide (desS σ (turnS σ z) rn ≠ desS σ z rn)) 0 cz))), (6, .int (iI rn)), (5, .int (iI (minQ σ dr))), (4, .int (iI dr)), (3, .int (iI (fi (lastsP σ) 0 (σ 1 - σ 4)))), (0, .ref y), (1, .ref h), (2, .ref gq)]) F.1 F.2.1 dL_would_253 hl (by decide) rfl (fun ls hl => ?_)
                  refine lv_aload_n F.1 F.2.1 dL_would_255 rfl (lv_at hl 8 rfl) ?_
                  refine h_iconst F dL_would_256 ?_
                  refine cr_RL_45 (As := [.ref gq, .int (iI 2)]) (rest := []) F hl (c_L_draw l X w22 gq g3 2 ha26 (by omega)) hW hS rfl rfl ⟨Nat.le_of_ble_eq_true rfl, Nat.le_of_ble_eq_true rfl⟩ (Nat.le_of_ble_eq_true rfl) ⟨(by show kc163 + 0 + 0 + 0 + 0 + 0 ≤ 4900; omega), (by show ks163 + 0 + 0 + 0 + 0 + 0 ≤ 25000; omega)⟩ dL_would_257 (fun v30 w28 H locs hp29 hW hS => ?_)
                  obtain ⟨ds, g4, rfl, hm31, ha32, hx33⟩ := hp29
                  have hh0 := hx33 _ _ hh0 (by omega)
                  have hWB := hx33 _ _ hWB (by omega)
                  have hva := hx33 _ _ hva (by omega)
                  have hWT := hx33 _ _ hWT (by omega)
                  have hvb := hx33 _ _ hvb (by omega)
                  have ham9 := hx33 _ _ ham9 (by omega)
                  refine lv_istore (lv' := [(9, .int (iI ds)), (8, .int (iI ((nn : Nat) : Int))), (7, .int (iI (cnt (fun z => decide (desS σ (turnS σ z) rn ≠ desS σ z rn)) 0 cz))), (6, .int (iI rn)), (5, .int (iI (minQ σ dr))), (4, .int (iI dr)), (3, .int (iI (fi (lastsP σ) 0 (σ 1 - σ 4)))), (0, .ref y), (1, .ref h), (2, .ref gq)]) F.1 F.2.1 dL_would_260 hl (by decide) rfl (fun ls hl => ?_)
                  refine h_iconst F dL_would_262 ?_
                  refine lv_istore (lv' := [(10, .int (iI (-1))), (9, .int (iI ds)), (8, .int (iI ((nn : Nat) : Int))), (7, .int (iI (cnt (fun z => decide (desS σ (turnS σ z) rn ≠ desS σ z rn)) 0 cz))), (6, .int (iI rn)), (5, .int (iI (minQ σ dr))), (4, .int (iI dr)), (3, .int (iI (fi (lastsP σ) 0 (σ 1 - σ 4)))), (0, .ref y), (1, .ref h), (2, .ref gq)]) F.1 F.2.1 dL_would_263 hl (by decide) rfl (fun ls hl => ?_)
                  refine lv_aload_n F.1 F.2.1 dL_would_265 rfl (lv_at hl 9 rfl) ?_
                  refine gf_RL_66 F hW hh0 rfl dL_would_266 ?_
                  refine h_iconst F dL_would_269 ?_
                  refine h_isub (a := σ 1) (b := 1) F dL_would_270 ?_
                  refine lv_istore (lv' := [(11, .int (iI ((σ 1) - 1))), (10, .int (iI (-1))), (9, .int (iI ds)), (8, .int (iI ((nn : Nat) : Int))), (7, .int (iI (cnt (fun z => decide (desS σ (turnS σ z) rn ≠ desS σ z rn)) 0 cz))), (6, .int (iI rn)), (5, .int (iI (minQ σ dr))), (4, .int (iI dr)), (3, .int (iI (fi (lastsP σ) 0 (σ 1 - σ 4)))), (0, .ref y), (1, .ref h), (2, .ref gq)]) F.1 F.2.1 dL_would_271 hl (by decide) rfl (fun ls hl => ?_)
                  have loop273 : ∀ (n9 : Nat) (yy : Int) (kc273 ks273 : Nat), (hrg : σ 4 - 1 ≤ yy ∧ yy ≤ σ 1 - 1) → (hms : yy + 1 < (n9 : Int)) → (w7 : Wo) → (hF273 : ∀ (q : Nat) (e : va_E), w28 q = some e → w7 q = some e) → (hkc273 : ((kc273 : Nat) : Int) ≤ ((kc163 + 0 + 0 + 0 + 0 + 0 : Nat) : Int) + 76 * (σ 1 - 1 - yy)) → (hks273 : ((ks273 : Nat) : Int) ≤ ((ks163 + 0 + 0 + 0 + 0 + 0 : Nat) : Int) + 460 * (σ 1 - 1 - yy)) → (H : Heap) → (locs : List Loc) → (ls : Array Slot) → Wd X w7 s H → va_S (cxA X) s.heap H locs → lv_has ls 13 [(10, .int (iI (plS σ ((nn : Nat) : Int) ds (yy + 1)))), (11, .int (iI yy)), (9, .int (iI ds)), (8, .int (iI ((nn : Nat) : Int))), (7, .int (iI (cnt (fun z => decide (desS σ (turnS σ z) rn ≠ desS σ z rn)) 0 cz))), (6, .int (iI rn)), (5, .int (iI (minQ σ dr))), (4, .int (iI dr)), (3, .int (iI (fi (lastsP σ) 0 (σ 1 - σ 4)))), (0, .ref y), (1, .ref h), (2, .ref gq)] → W p l e (rmG 8 4900 25000 184) s m (List.toArray [.ref y, .ref h, .ref gq]) below meth c H locs kc273 ks273 (MX X below (List.toArray [.ref y, .ref h, .ref gq]) s 4900 25000 (some (.int (iI (bz true)))) (fun w' => (KS X w' y σ nx sz pas ac) ∧ (∃ gf2, w' gq = some (aZ X 1 gf2)) ∧ ∀ (q : Nat) (e : va_E), w q = some e → q ≠ gq → q < y ∨ y + 321 ≤ q → w' q = some e)) (F0 m 273 ls []) := by
                    intro n9
                    induction n9 with
                    | zero => intro yy kc273 ks273  hrg hms; exfalso; omega
                    | succ n9 ih273 =>
                      intro yy kc273 ks273  hrg hms w7 hF273 hkc273 hks273 H locs ls hW hS hl
                      have hh0 := hF273 _ _ hh0 
                      have hWB := hF273 _ _ hWB 
                      have hva := hF273 _ _ hva 
                      have hWT := hF273 _ _ hWT 
                      have ha32 := hF273 _ _ ha32 
                      have hvb := hF273 _ _ hvb 
                      have ham9 := hF273 _ _ ham9 
                      have hgb : ∀ (q : Nat) (e : va_E), w q = some e → q ≠ gq → q ≠ y + 51 → q ≠ y + 306 → q ≠ y + 309 → q ≠ y + 310 → w7 q = some e := fun q e h9 h09 h19 h29 h39 h49 => by have h9 := hx6 q e h9 (by omega); have h9 := hx12 q e h9 (by omega); have h9 := (hn16 q (by omega)).trans h9; have h9 := hx27 q e h9 (by omega); have h9 := hx33 q e h9 (by omega); have h9 := hF273 q e h9 ; exact h9
                      have hAw : ownA X (wr w7 N) h σ := hO0.1.ex (fun q e h9 => by have hN9 := (wr_some.mp h9).1; exact wr_some.mpr ⟨hN9, hgb q e (wr_some.mp h9).2 (fun e9 => hN9 (e9 ▸ hNg)) (fun e9 => hN9 (e9 ▸ hNy _ (by omega) (by omega))) (fun e9 => hN9 (e9 ▸ hNy _ (by omega) (by omega))) (fun e9 => hN9 (e9 ▸ hNy _ (by omega) (by omega))) (fun e9 => hN9 (e9 ▸ hNy _ (by omega) (by omega)))⟩)
                      have hAk : ownA X w7 h σ := hAw.ex (wr_sub _ _)
                      refine lv_iload F.1 F.2.1 dL_would_273 (lv_at hl 1 rfl) ?_
                      refine lv_aload_n F.1 F.2.1 dL_would_275 rfl (lv_at hl 10 rfl) ?_
                      refine cl_RL_186 (As := []) (rest := [.int (iI yy)]) F hl (c_X10_rows l X w7 h σ hAk) hW hS hh0 rfl rfl ⟨Nat.le_of_ble_eq_true rfl, Nat.le_of_ble_eq_true rfl⟩ (Nat.le_of_ble_eq_true rfl) ⟨(by show kc273 + 0 ≤ 4900; omega), (by show ks273 + 0 ≤ 25000; omega)⟩ dL_would_276 (fun w1 H locs hp34 hW hS => ?_)
                      rw [hp34] at hW; clear hp34; clear w1
                      refine h_iclt (tgt := 361) F dL_would_279 (by decide) (by omega) (fun c35 => ?_) (fun c35 => ?_)
                      · have hgb : ∀ (q : Nat) (e : va_E), w q = some e → q ≠ gq → q ≠ y + 51 → q ≠ y + 306 → q ≠ y + 309 → q ≠ y + 310 → w7 q = some e := fun q e h9 h09 h19 h29 h39 h49 => by have h9 := hx6 q e h9 (by omega); have h9 := hx12 q e h9 (by omega); have h9 := (hn16 q (by omega)).trans h9; have h9 := hx27 q e h9 (by omega); have h9 := hx33 q e h9 (by omega); have h9 := hF273 q e h9 ; exact h9
                        have hEq : ∀ q : Nat, y ≤ q → q < y + 321 → q ≠ y + 51 → q ≠ y + 306 → q ≠ y + 309 → q ≠ y + 310 → w7 q = w q := fun q q0 q1 q2 q3 q4 q5 => eqK (hO0.2.1 q (hNy q q0 q1)) (fun e h9 => hgb q e h9 (by omega) q2 q3 q4 q5)
                        have hYc : clO X w7 y su := (hEq y (by omega) (by omega) (by omega) (by omega) (by omega) (by omega)).trans hY0
                        have hLc := hL0.mv (w2 := w7) (fun q9 h1 h2 => hEq q9 (by omega) (by omega) (by omega) (by omega) (by omega) (by omega))
                        have hpr := plS_r hWF0 ((nn : Nat) : Int) ds (lo := yy + 1) (by omega)
                        refine lv_aload_n F.1 F.2.1 dL_would_361 rfl (lv_at hl 9 rfl) ?_
                        refine lv_iload F.1 F.2.1 dL_would_362 (lv_at hl 3 rfl) ?_
                        refine lv_iload F.1 F.2.1 dL_would_364 (lv_at hl 2 rfl) ?_
                        refine cl_RL_287 (As := [.int (iI ((nn : Nat) : Int)), .int (iI ds)]) (rest := []) F hl (c_X8_place l X w7 y su σ n0 sd0 x0 y0 co0 f0 ((nn : Nat) : Int) ds hYc hLc (⟨hva, hvb⟩) (by omega) (by omega)) hW hS hYc rfl rfl ⟨Nat.le_of_ble_eq_true rfl, Nat.le_of_ble_eq_true rfl⟩ (Nat.le_of_ble_eq_true rfl) ⟨(by show kc273 + 0 + 0 ≤ 4900; omega), (by show ks273 + 0 + 0 ≤ 25000; omega)⟩ dL_would_366 (fun w36 H locs hp37 hW hS => ?_)
                        obtain ⟨hmC, hn38⟩ := hp37
                        have hh0 := (hn38 _ (by omega)).trans hh0
                        have hWB := (hn38 _ (by omega)).trans hWB
                        have hWT := (hn38 _ (by omega)).trans hWT
                        have ha32 := (hn38 _ (by omega)).trans ha32
                        have hvb := (hn38 _ (by omega)).trans hvb
                        have ham9 := (hn38 _ (by omega)).trans ham9
                        obtain ⟨n1, sd1, x1, y1, co1, f1, hvc⟩ := hmC
                        have hv1a := hvc.1
                        have hv1b := hvc.2
                        refine h_top (show (plQ σ ((nn : Nat) : Int) ds : Int) = plS σ ((nn : Nat) : Int) ds (yy + 1) from by rw [show yy + 1 = σ 4 by omega]; rfl) ?_
                        refine lv_iload F.1 F.2.1 dL_would_369 (lv_at hl 0 rfl) ?_
                        refine h_icne (tgt := 409) F dL_would_371 (by decide) (by omega) (fun c39 => ?_) (fun c39 => ?_)
                        · exact absurd rfl c39
                        · have hgb : ∀ (q : Nat) (e : va_E), w q = some e → q ≠ gq → q ≠ y + 51 → q ≠ y + 306 → q ≠ y + 309 → q ≠ y + 310 → w36 q = some e := fun q e h9 h09 h19 h29 h39 h49 => by have h9 := hx6 q e h9 (by omega); have h9 := hx12 q e h9 (by omega); have h9 := (hn16 q (by omega)).trans h9; have h9 := hx27 q e h9 (by omega); have h9 := hx33 q e h9 (by omega); have h9 := hF273 q e h9 ; have h9 := (hn38 q (by omega)).trans h9; exact h9
                          have hAw : ownA X (wr w36 N) h σ := hO0.1.ex (fun q e h9 => by have hN9 := (wr_some.mp h9).1; exact wr_some.mpr ⟨hN9, hgb q e (wr_some.mp h9).2 (fun e9 => hN9 (e9 ▸ hNg)) (fun e9 => hN9 (e9 ▸ hNy _ (by omega) (by omega))) (fun e9 => hN9 (e9 ▸ hNy _ (by omega) (by omega))) (fun e9 => hN9 (e9 ▸ hNy _ (by omega) (by omega))) (fun e9 => hN9 (e9 ▸ hNy _ (by omega) (by omega)))⟩)
                          have hAk : ownA X w36 h σ := hAw.ex (wr_sub _ _)
                          have hEq : ∀ q : Nat, y ≤ q → q < y + 321 → q ≠ y + 51 → q ≠ y + 306 → q ≠ y + 309 → q ≠ y + 310 → w36 q = w q := fun q q0 q1 q2 q3 q4 q5 => eqK (hO0.2.1 q (hNy q q0 q1)) (fun e h9 => hgb q e h9 (by omega) q2 q3 q4 q5)
                          have hYc : clO X w36 y su := (hEq y (by omega) (by omega) (by omega) (by omega) (by omega) (by omega)).trans hY0
                          have hLc := hL0.mv (w2 := w36) (fun q9 h1 h2 => hEq q9 (by omega) (by omega) (by omega) (by omega) (by omega) (by omega))
                          have hOn : ownN X w36 N h σ := ⟨hAw, fun q hq => kn_s (hO0.2.1 q hq) ha32 ham9 hv1a hWB hWT (hgb q), hO0.2.2⟩
                          refine lv_aload_n F.1 F.2.1 dL_would_374 rfl (lv_at hl 9 rfl) ?_
                          refine lv_aload_n F.1 F.2.1 dL_would_375 rfl (lv_at hl 10 rfl) ?_
                          refine cl_RL_290 (As := [.ref y, .ref h]) (rest := []) F hl (c_L_slits l X w36 y h N su σ hOn hNy hYc hLc) hW hS rfl rfl ⟨Nat.le_of_ble_eq_true rfl, Nat.le_of_ble_eq_true rfl⟩ (Nat.le_of_ble_eq_true rfl) ⟨(by show kc273 + 0 + 0 + 1 ≤ 4900; omega), (by show ks273 + 0 + 0 + 32 ≤ 25000; omega)⟩ dL_would_376 (fun w1 H locs hp40 hW hS => ?_)
                          rw [hp40] at hW; clear hp40; clear w1
                          refine h_ifeqb (tgt := 409) F dL_would_379 (by decide) (fun c9 => absurd c9 (by decide)) (fun _ => ?_)
                          refine lv_aload_n F.1 F.2.1 dL_would_382 rfl (lv_at hl 9 rfl) ?_
                          refine lv_aload_n F.1 F.2.1 dL_would_383 rfl (lv_at hl 10 rfl) ?_
                          refine lv_iload F.1 F.2.1 dL_would_384 (lv_at hl 5 rfl) ?_
                          refine lv_aload_n F.1 F.2.1 dL_would_386 rfl (lv_at hl 11 rfl) ?_
                          refine h_iconst F dL_would_387 ?_
                          refine cr_RL_45 (As := [.ref gq, .int (iI 2)]) (rest := [.int (iI rn), .ref h, .ref y]) F hl (c_L_draw l X w36 gq g4 2 ha32 (by omega)) hW hS rfl rfl ⟨Nat.le_of_ble_eq_true rfl, Nat.le_of_ble_eq_true rfl⟩ (Nat.le_of_ble_eq_true rfl) ⟨(by show kc273 + 0 + 0 + 1 + 0 ≤ 4900; omega), (by show ks273 + 0 + 0 + 32 + 0 ≤ 25000; omega)⟩ dL_would_388 (fun v44 w42 H locs hp43 hW hS => ?_)
                          obtain ⟨dq, g5, rfl, hm45, ha46, hx47⟩ := hp43
                          have hh0 := hx47 _ _ hh0 (by omega)
                          have hWB := hx47 _ _ hWB (by omega)
                          have hv1a := hx47 _ _ hv1a (by omega)
                          have hWT := hx47 _ _ hWT (by omega)
                          have hv1b := hx47 _ _ hv1b (by omega)
                          have ham9 := hx47 _ _ ham9 (by omega)
                          have join399 : ∀ (H : Heap) (locs : List Loc) (ls : Array Slot), Wd X w42 s H → va_S (cxA X) s.heap H locs → lv_has ls 13 [(10, .int (iI (plS σ ((nn : Nat) : Int) ds (yy + 1)))), (11, .int (iI yy)), (9, .int (iI ds)), (8, .int (iI ((nn : Nat) : Int))), (7, .int (iI (cnt (fun z => decide (desS σ (turnS σ z) rn ≠ desS σ z rn)) 0 cz))), (6, .int (iI rn)), (5, .int (iI (minQ σ dr))), (4, .int (iI dr)), (3, .int (iI (fi (lastsP σ) 0 (σ 1 - σ 4)))), (0, .ref y), (1, .ref h), (2, .ref gq)] → W p l e (rmG 8 4900 25000 184) s m (List.toArray [.ref y, .ref h, .ref gq]) below meth c H locs (kc273 + 0 + 0 + 1 + 0) (ks273 + 0 + 0 + 32 + 0) (MX X below (List.toArray [.ref y, .ref h, .ref gq]) s 4900 25000 (some (.int (iI (bz true)))) (fun w' => (KS X w' y σ nx sz pas ac) ∧ (∃ gf2, w' gq = some (aZ X 1 gf2)) ∧ ∀ (q : Nat) (e : va_E), w q = some e → q ≠ gq → q < y ∨ y + 321 ≤ q → w' q = some e)) (F0 m 399 ls [.int (iI (bz (decide (dq = 0)))), .int (iI rn), .ref h, .ref y]) := by
                            intro  H locs ls  hW hS hl
                            have hgb : ∀ (q : Nat) (e : va_E), w q = some e → q ≠ gq → q ≠ y + 51 → q ≠ y + 306 → q ≠ y + 309 → q ≠ y + 310 → w42 q = some e := fun q e h9 h09 h19 h29 h39 h49 => by have h9 := hx6 q e h9 (by omega); have h9 := hx12 q e h9 (by omega); have h9 := (hn16 q (by omega)).trans h9; have h9 := hx27 q e h9 (by omega); have h9 := hx33 q e h9 (by omega); have h9 := hF273 q e h9 ; have h9 := (hn38 q (by omega)).trans h9; have h9 := hx47 q e h9 (by omega); exact h9
                            have hAw : ownA X (wr w42 N) h σ := hO0.1.ex (fun q e h9 => by have hN9 := (wr_some.mp h9).1; exact wr_some.mpr ⟨hN9, hgb q e (wr_some.mp h9).2 (fun e9 => hN9 (e9 ▸ hNg)) (fun e9 => hN9 (e9 ▸ hNy _ (by omega) (by omega))) (fun e9 => hN9 (e9 ▸ hNy _ (by omega) (by omega))) (fun e9 => hN9 (e9 ▸ hNy _ (by omega) (by omega))) (fun e9 => hN9 (e9 ▸ hNy _ (by omega) (by omega)))⟩)
                            have hAk : ownA X w42 h σ := hAw.ex (wr_sub _ _)
                            have hEq : ∀ q : Nat, y ≤ q → q < y + 321 → q ≠ y + 51 → q ≠ y + 306 → q ≠ y + 309 → q ≠ y + 310 → w42 q = w q := fun q q0 q1 q2 q3 q4 q5 => eqK (hO0.2.1 q (hNy q q0 q1)) (fun e h9 => hgb q e h9 (by omega) q2 q3 q4 q5)
                            have hYc : clO X w42 y su := (hEq y (by omega) (by omega) (by omega) (by omega) (by omega) (by omega)).trans hY0
                            have hLc := hL0.mv (w2 := w42) (fun q9 h1 h2 => hEq q9 (by omega) (by omega) (by omega) (by omega) (by omega) (by omega))
                            have hOm : ownN X w42 N h σ := ⟨hAw, fun q hq => kn_s (hO0.2.1 q hq) ha46 ham9 hv1a hWB hWT (hgb q), hO0.2.2⟩
                            refine cl_RL_293 (As := [.ref y, .ref h, .int (iI rn), .int (iI (bz (decide (dq = 0))))]) (rest := []) F hl (c_L_writes l X w42 y h N su σ M ob rn (decide (dq = 0)) hOm hNy hYc hLc hWB hWT (by omega)) hW hS rfl rfl ⟨Nat.le_of_ble_eq_true rfl, Nat.le_of_ble_eq_true rfl⟩ (Nat.le_of_ble_eq_true rfl) ⟨(by show kc273 + 0 + 0 + 1 + 0 + 70 ≤ 4900; omega), (by show ks273 + 0 + 0 + 32 + 0 + 3300 ≤ 25000; omega)⟩ dL_would_399 (fun w48 H locs hp49 hW hS => ?_)
                            obtain ⟨M9, ob9, ho50, ha51, hM9, hx52⟩ := hp49
                            have hv1a := hx52 _ _ hv1a (by omega) (by omega)
                            have ha46 := hx52 _ _ ha46 (by omega) (by omega)
                            have hv1b := hx52 _ _ hv1b (by omega) (by omega)
                            have ham9 := hx52 _ _ ham9 (by omega) (by omega)
                            refine h_ifeqb (tgt := 409) F dL_would_402 (by decide) (fun c9 => absurd c9 (by decide)) (fun _ => ?_)
                            refine h_iconst F dL_would_405 ?_
                            refine h_goto (tgt := 410) F dL_would_406 (by decide) ?_
                            have hgb : ∀ (q : Nat) (e : va_E), w q = some e → q ≠ gq → q ≠ y + 51 → q ≠ y + 306 → q ≠ y + 309 → q ≠ y + 310 → w48 q = some e := fun q e h9 h09 h19 h29 h39 h49 => by have h9 := hx6 q e h9 (by omega); have h9 := hx12 q e h9 (by omega); have h9 := (hn16 q (by omega)).trans h9; have h9 := hx27 q e h9 (by omega); have h9 := hx33 q e h9 (by omega); have h9 := hF273 q e h9 ; have h9 := (hn38 q (by omega)).trans h9; have h9 := hx47 q e h9 (by omega); have h9 := hx52 q e h9 (by omega) (by omega); exact h9
                            have hEq : ∀ q : Nat, y ≤ q → q < y + 321 → q ≠ y + 51 → q ≠ y + 306 → q ≠ y + 309 → q ≠ y + 310 → w48 q = w q := fun q q0 q1 q2 q3 q4 q5 => eqK (hO0.2.1 q (hNy q q0 q1)) (fun e h9 => hgb q e h9 (by omega) q2 q3 q4 q5)
                            have hEqF := hEq
                            have hw9a := ho50
                            have hw9b := ha51
                            have hw9c := ham9
                            have hw9d := hv1a
                            have hw9e := hv1b
                            refine W.wd (mc := 4900) (ms := 25000) (by omega) (by omega) ?_
                            have hX9 : ∀ (q : Nat) (e : va_E), w q = some e → q ≠ gq → q < y ∨ y + 321 ≤ q → w48 q = some e := fun q e h9 h09 h19 => by
                              have h9 := hx6 q e h9 (by omega)
                              have h9 := hx12 q e h9 (by omega)
                              have h9 := (hn16 q (by omega)).trans h9
                              have h9 := hx27 q e h9 (by omega)
                              have h9 := hx33 q e h9 (by omega)
                              have h9 := hF273 q e h9 
                              have h9 := (hn38 q (by omega)).trans h9
                              have h9 := hx47 q e h9 (by omega)
                              have h9 := hx52 q e h9 (by omega) (by omega)
                              exact h9
                            refine h_top (show (1 : Int) = bz true from by first | rfl | omega) ?_
                            exact h_iretz F hr hlk hW hS ⟨⟨su, tx, M9, ob9, rv, hKC0.rd hEqF hw9a hw9b ⟨_, hw9c⟩ ⟨_, _, _, _, _, _, ⟨hw9d, hw9e⟩⟩ hM9⟩, ⟨_, ha46⟩, hX9⟩ dL_would_410
                          refine h_ifne (tgt := 398) F dL_would_391 (by decide) (by omega) (fun c54 => ?_) (fun c54 => ?_)
                          · refine h_iconst F dL_would_398 ?_
                            refine h_top (show (0 : Int) = bz (decide (dq = 0)) from bzf (by first | exact decide_eq_false (by omega) | (simp only [Bool.and_eq_false_iff, Bool.or_eq_false_iff, decide_eq_false_iff_not]; omega) | simp_all)) ?_
                            exact join399  _ _ ls  hW hS (lv_sub hl [0, 1, 2, 3, 4, 5, 6, 7, 8, 9, 10, 11] rfl)
                          · refine h_iconst F dL_would_394 ?_
                            refine h_goto (tgt := 399) F dL_would_395 (by decide) ?_
                            refine h_top (show (1 : Int) = bz (decide (dq = 0)) from bzt (by first | exact decide_eq_true (by omega) | (simp only [Bool.and_eq_true, Bool.or_eq_true, decide_eq_true_eq]; omega) | simp_all)) ?_
                            exact join399  _ _ ls  hW hS (lv_sub hl [0, 1, 2, 3, 4, 5, 6, 7, 8, 9, 10, 11] rfl)
                      · refine lv_aload_n F.1 F.2.1 dL_would_282 rfl (lv_at hl 10 rfl) ?_
                        refine gf_RL_60 F hW hh0 rfl dL_would_283 ?_
                        refine h_iconst F dL_would_286 ?_
                        refine h_isub (a := σ 0) (b := 1) F dL_would_287 ?_
                        refine lv_istore (lv' := [(12, .int (iI ((σ 0) - 1))), (10, .int (iI (plS σ ((nn : Nat) : Int) ds (yy + 1)))), (11, .int (iI yy)), (9, .int (iI ds)), (8, .int (iI ((nn : Nat) : Int))), (7, .int (iI (cnt (fun z => decide (desS σ (turnS σ z) rn ≠ desS σ z rn)) 0 cz))), (6, .int (iI rn)), (5, .int (iI (minQ σ dr))), (4, .int (iI dr)), (3, .int (iI (fi (lastsP σ) 0 (σ 1 - σ 4)))), (0, .ref y), (1, .ref h), (2, .ref gq)]) F.1 F.2.1 dL_would_288 hl (by decide) rfl (fun ls hl => ?_)
                        have loop290 : ∀ (n9 : Nat) (xx : Int) (kc290 ks290 : Nat), (hrg : -1 ≤ xx ∧ xx ≤ σ 0 - 1) → (hms : xx + 1 < (n9 : Int)) → (w8 : Wo) → (hF290 : ∀ (q : Nat) (e : va_E), w7 q = some e → w8 q = some e) → (hkc290 : ((kc290 : Nat) : Int) ≤ ((kc273 + 0 : Nat) : Int) + 4 * (σ 0 - 1 - xx)) → (hks290 : ((ks290 : Nat) : Int) ≤ ((ks273 + 0 : Nat) : Int) + 24 * (σ 0 - 1 - xx)) → (H : Heap) → (locs : List Loc) → (ls : Array Slot) → Wd X w8 s H → va_S (cxA X) s.heap H locs → lv_has ls 13 [(10, .int (iI (plX σ ((nn : Nat) : Int) ds yy (xx + 1)))), (12, .int (iI xx)), (11, .int (iI yy)), (9, .int (iI ds)), (8, .int (iI ((nn : Nat) : Int))), (7, .int (iI (cnt (fun z => decide (desS σ (turnS σ z) rn ≠ desS σ z rn)) 0 cz))), (6, .int (iI rn)), (5, .int (iI (minQ σ dr))), (4, .int (iI dr)), (3, .int (iI (fi (lastsP σ) 0 (σ 1 - σ 4)))), (0, .ref y), (1, .ref h), (2, .ref gq)] → W p l e (rmG 8 4900 25000 184) s m (List.toArray [.ref y, .ref h, .ref gq]) below meth c H locs kc290 ks290 (MX X below (List.toArray [.ref y, .ref h, .ref gq]) s 4900 25000 (some (.int (iI (bz true)))) (fun w' => (KS X w' y σ nx sz pas ac) ∧ (∃ gf2, w' gq = some (aZ X 1 gf2)) ∧ ∀ (q : Nat) (e : va_E), w q = some e → q ≠ gq → q < y ∨ y + 321 ≤ q → w' q = some e)) (F0 m 290 ls []) := by
                          intro n9
                          induction n9 with
                          | zero => intro xx kc290 ks290  hrg hms; exfalso; omega
                          | succ n9 ih290 =>
                            intro xx kc290 ks290  hrg hms w8 hF290 hkc290 hks290 H locs ls hW hS hl
                            have hh0 := hF290 _ _ hh0 
                            have hWB := hF290 _ _ hWB 
                            have hva := hF290 _ _ hva 
                            have hWT := hF290 _ _ hWT 
                            have ha32 := hF290 _ _ ha32 
                            have hvb := hF290 _ _ hvb 
                            have ham9 := hF290 _ _ ham9 
                            have hgb : ∀ (q : Nat) (e : va_E), w q = some e → q ≠ gq → q ≠ y + 51 → q ≠ y + 306 → q ≠ y + 309 → q ≠ y + 310 → w8 q = some e := fun q e h9 h09 h19 h29 h39 h49 => by have h9 := hx6 q e h9 (by omega); have h9 := hx12 q e h9 (by omega); have h9 := (hn16 q (by omega)).trans h9; have h9 := hx27 q e h9 (by omega); have h9 := hx33 q e h9 (by omega); have h9 := hF273 q e h9 ; have h9 := hF290 q e h9 ; exact h9
                            have hAw : ownA X (wr w8 N) h σ := hO0.1.ex (fun q e h9 => by have hN9 := (wr_some.mp h9).1; exact wr_some.mpr ⟨hN9, hgb q e (wr_some.mp h9).2 (fun e9 => hN9 (e9 ▸ hNg)) (fun e9 => hN9 (e9 ▸ hNy _ (by omega) (by omega))) (fun e9 => hN9 (e9 ▸ hNy _ (by omega) (by omega))) (fun e9 => hN9 (e9 ▸ hNy _ (by omega) (by omega))) (fun e9 => hN9 (e9 ▸ hNy _ (by omega) (by omega)))⟩)
                            have hAk : ownA X w8 h σ := hAw.ex (wr_sub _ _)
                            refine lv_iload F.1 F.2.1 dL_would_290 (lv_at hl 1 rfl) ?_
                            refine h_iflt (tgt := 355) F dL_would_292 (by decide) (by omega) (fun c55 => ?_) (fun c55 => ?_)
                            · refine h_iinc (k := 2) (a := yy) (lv' := [(11, .int (iI (yy + (-1)))), (10, .int (iI (plX σ ((nn : Nat) : Int) ds yy (xx + 1)))), (12, .int (iI xx)), (9, .int (iI ds)), (8, .int (iI ((nn : Nat) : Int))), (7, .int (iI (cnt (fun z => decide (desS σ (turnS σ z) rn ≠ desS σ z rn)) 0 cz))), (6, .int (iI rn)), (5, .int (iI (minQ σ dr))), (4, .int (iI dr)), (3, .int (iI (fi (lastsP σ) 0 (σ 1 - σ 4)))), (0, .ref y), (1, .ref h), (2, .ref gq)]) F dL_would_355 hl rfl (by decide) rfl (fun ls hl => ?_)
                              refine h_goto (tgt := 273) F dL_would_358 (by decide) ?_
                              have eq56 : (plS σ ((nn : Nat) : Int) ds ((yy - 1) + 1) : Int) = plX σ ((nn : Nat) : Int) ds yy (xx + 1) := by rw [show yy - 1 + 1 = yy by omega, show xx + 1 = 0 by omega]; exact (plX_0 (by omega) (by omega)).symm
                              have eq57 : ((yy - 1) : Int) = yy + (-1) := by first | rfl | omega | simp
                              exact ih273 (yy - 1) (kc290) (ks290)  (by omega) (by omega) w8 (fun q e h9  => by
                                  have h9 := hF273 q e h9 
                                  have h9 := hF290 q e h9 
                                  exact h9) (by omega) (by omega) _ _ ls hW hS (by rw [eq56, eq57]; exact lv_sub hl [1, 0, 3, 4, 5, 6, 7, 8, 9, 10, 11, 12] rfl)
                            · refine lv_aload_n F.1 F.2.1 dL_would_295 rfl (lv_at hl 11 rfl) ?_
                              refine lv_iload F.1 F.2.1 dL_would_296 (lv_at hl 4 rfl) ?_
                              refine lv_iload F.1 F.2.1 dL_would_298 (lv_at hl 1 rfl) ?_
                              refine lv_iload F.1 F.2.1 dL_would_300 (lv_at hl 2 rfl) ?_
                              refine cl_RL_74 (As := [.int (iI ((nn : Nat) : Int)), .int (iI xx), .int (iI yy)]) (rest := []) F hl (c_X10_lies l X w8 h σ ((nn : Nat) : Int) xx yy hAk (by omega) (by omega)) hW hS hh0 rfl rfl ⟨Nat.le_of_ble_eq_true rfl, Nat.le_of_ble_eq_true rfl⟩ (Nat.le_of_ble_eq_true rfl) ⟨(by show kc290 + 0 ≤ 4900; omega), (by show ks290 + 0 ≤ 25000; omega)⟩ dL_would_302 (fun w1 H locs hp58 hW hS => ?_)
                              rw [hp58] at hW; clear hp58; clear w1
                              refine h_ifeqb (tgt := 349) F dL_would_305 (by decide) (fun c59 => ?_) (fun c59 => ?_)
                              · have hstp : plX σ ((nn : Nat) : Int) ds yy xx = plX σ ((nn : Nat) : Int) ds yy (xx + 1) := plX_f (by omega) (by unfold plP; rw [c59]; rfl)
                                refine h_iinc (k := 1) (a := xx) (lv' := [(12, .int (iI (xx + (-1)))), (10, .int (iI (plX σ ((nn : Nat) : Int) ds yy (xx + 1)))), (11, .int (iI yy)), (9, .int (iI ds)), (8, .int (iI ((nn : Nat) : Int))), (7, .int (iI (cnt (fun z => decide (desS σ (turnS σ z) rn ≠ desS σ z rn)) 0 cz))), (6, .int (iI rn)), (5, .int (iI (minQ σ dr))), (4, .int (iI dr)), (3, .int (iI (fi (lastsP σ) 0 (σ 1 - σ 4)))), (0, .ref y), (1, .ref h), (2, .ref gq)]) F dL_would_349 hl rfl (by decide) rfl (fun ls hl => ?_)
                                refine h_goto (tgt := 290) F dL_would_352 (by decide) ?_
                                have eq60 : (plX σ ((nn : Nat) : Int) ds yy ((xx - 1) + 1) : Int) = plX σ ((nn : Nat) : Int) ds yy (xx + 1) := by rw [show xx - 1 + 1 = xx by omega]; exact hstp
                                have eq61 : ((xx - 1) : Int) = xx + (-1) := by first | rfl | omega | simp
                                exact ih290 (xx - 1) (kc290 + 0) (ks290 + 0)  (by omega) (by omega) w8 (fun q e h9  => by
                                    have h9 := hF290 q e h9 
                                    exact h9) (by omega) (by omega) _ _ ls hW hS (by rw [eq60, eq61]; exact lv_sub hl [1, 0, 2, 3, 4, 5, 6, 7, 8, 9, 10, 11, 12] rfl)
                              · have hlt9 := c59
                                have hli : 0 ≤ xx ∧ 0 ≤ yy ∧ xx + 4 * ((nn : Nat) : Int) - 2 < σ 0 ∧ yy + 4 < σ 1 := of_decide_eq_true c59
                                refine lv_aload_n F.1 F.2.1 dL_would_308 rfl (lv_at hl 11 rfl) ?_
                                refine q_new (ci := 9) (fs := [.null, .int (iI 0), .int (iI 0), .int (iI 0), .int (iI 0)]) F hW hS inX9 tyX9 tyX9_ok kl_RL_69 kb_RX9 kn_RX9 rfl (by intro j hj; rcases (show j = 0 ∨ j = 1 ∨ j = 2 ∨ j = 3 ∨ j = 4 by omega) with hj | hj | hj | hj | hj <;> subst hj <;> rfl) ⟨(by show kc290 + 0 + 1 ≤ 4900; omega), (by show ks290 + 0 + 5 ≤ 25000; omega)⟩ dL_would_309 (fun c9 w62 H hfr65 hcx66 ho64 hn63 hW hS => ?_)
                                have hb67 := hfr65 _ _ hh0
                                have hb68 := hfr65 _ _ hWB
                                have hb69 := hfr65 _ _ hva
                                have hb70 := hfr65 _ _ hWT
                                have hb71 := hfr65 _ _ ha32
                                have hb72 := hfr65 _ _ hvb
                                have hb73 := hfr65 _ _ ham9
                                have hh0 := (hn63 _ (by omega)).trans hh0
                                have hWB := (hn63 _ (by omega)).trans hWB
                                have hva := (hn63 _ (by omega)).trans hva
                                have hWT := (hn63 _ (by omega)).trans hWT
                                have ha32 := (hn63 _ (by omega)).trans ha32
                                have hvb := (hn63 _ (by omega)).trans hvb
                                have ham9 := (hn63 _ (by omega)).trans ham9
                                refine lv_dup F.1 F.2.1 dL_would_312 rfl ?_
                                refine h_ldcLW (tx := "aaa") (i := 8) F hW (by decide +kernel) dL_would_313 ?_
                                refine h_iconst F dL_would_316 ?_
                                refine lv_iload F.1 F.2.1 dL_would_317 (lv_at hl 4 rfl) ?_
                                refine ct_RL_283 (As := [.int (iI 0), .int (iI ((nn : Nat) : Int))]) (rest := [.ref c9, .ref c9, .ref h]) F hl (c_sub l X w62 8 nn (by decide) (⟨by omega, (show nn ≤ 3 by omega)⟩)) hW hS (vk_recv (i := 8) hZ0.2.2.2.2.2.1 (by decide) hS) rfl rfl ⟨Nat.le_of_ble_eq_true rfl, Nat.le_of_ble_eq_true rfl⟩ (Nat.le_of_ble_eq_true rfl) ⟨(by show kc290 + 0 + 1 + 2 ≤ 4900; omega), (by show ks290 + 0 + 5 + 14 ≤ 25000; omega)⟩ dL_would_319 (fun v76 w74 H locs hp75 hW hS => ?_)
                                obtain ⟨zw, fw, rfl, hsw, hfw, hx77⟩ := hp75
                                have hh0 := hx77 _ _ hh0 
                                have hWB := hx77 _ _ hWB 
                                have hva := hx77 _ _ hva 
                                have ho64 := hx77 _ _ ho64 
                                have hWT := hx77 _ _ hWT 
                                have ha32 := hx77 _ _ ha32 
                                have hvb := hx77 _ _ hvb 
                                have ham9 := hx77 _ _ ham9 
                                have hsw1 := hsw
                                have hc9k := ho64
                                have hw322 : w74 = w74 := rfl
                                skip
                                refine lv_iload F.1 F.2.1 dL_would_322 (lv_at hl 3 rfl) ?_
                                refine lv_iload F.1 F.2.1 dL_would_324 (lv_at hl 1 rfl) ?_
                                refine lv_iload F.1 F.2.1 dL_would_326 (lv_at hl 2 rfl) ?_
                                refine h_iconst F dL_would_328 ?_
                                refine cl_RL_71 (As := [.ref zw, .int (iI ds), .int (iI xx), .int (iI yy), .int (iI 1)]) (rest := [.ref c9, .ref h]) F hl (c_X9_init l X w74 c9 zw ds xx yy 1 ho64) hW hS rfl rfl ⟨Nat.le_of_ble_eq_true rfl, Nat.le_of_ble_eq_true rfl⟩ (Nat.le_of_ble_eq_true rfl) ⟨(by show kc290 + 0 + 1 + 2 + 0 ≤ 4900; omega), (by show ks290 + 0 + 5 + 14 + 0 ≤ 25000; omega)⟩ dL_would_329 (fun w78 H locs hp79 hW hS => ?_)
                                obtain ⟨ho80, hn81⟩ := hp79
                                have hh0 := (hn81 _ (by omega)).trans hh0
                                have hWB := (hn81 _ (by omega)).trans hWB
                                have hva := (hn81 _ (by omega)).trans hva
                                have hWT := (hn81 _ (by omega)).trans hWT
                                have ha32 := (hn81 _ (by omega)).trans ha32
                                have hvb := (hn81 _ (by omega)).trans hvb
                                have ham9 := (hn81 _ (by omega)).trans ham9
                                have hsn : str X w78 zw nn fw := hsw1.k (P := fun q => q = c9) (fun q e h9 hP9 => by have h9 := (hn81 q (by omega)).trans h9; exact h9) (fun q fs z9 e9 => by rw [e9, hc9k] at z9; cases z9) (fun q n9 f9 z9 e9 => by rw [e9, hc9k] at z9; cases z9)
                                have hgb : ∀ (q : Nat) (e : va_E), w q = some e → q ≠ gq → q ≠ y + 51 → q ≠ y + 306 → q ≠ y + 309 → q ≠ y + 310 → w78 q = some e := fun q e h9 h09 h19 h29 h39 h49 => by have h9 := hx6 q e h9 (by omega); have h9 := hx12 q e h9 (by omega); have h9 := (hn16 q (by omega)).trans h9; have h9 := hx27 q e h9 (by omega); have h9 := hx33 q e h9 (by omega); have h9 := hF273 q e h9 ; have h9 := hF290 q e h9 ; have z9_1 := hfr65 q e h9; have h9 := (hn63 q (by omega)).trans h9; have h9 := hx77 q e h9 ; have h9 := (hn81 q (by omega)).trans h9; exact h9
                                have hAw : ownA X (wr w78 N) h σ := hO0.1.ex (fun q e h9 => by have hN9 := (wr_some.mp h9).1; exact wr_some.mpr ⟨hN9, hgb q e (wr_some.mp h9).2 (fun e9 => hN9 (e9 ▸ hNg)) (fun e9 => hN9 (e9 ▸ hNy _ (by omega) (by omega))) (fun e9 => hN9 (e9 ▸ hNy _ (by omega) (by omega))) (fun e9 => hN9 (e9 ▸ hNy _ (by omega) (by omega))) (fun e9 => hN9 (e9 ▸ hNy _ (by omega) (by omega)))⟩)
                                have hAk : ownA X w78 h σ := hAw.ex (wr_sub _ _)
                                refine lv_null F.1 F.2.1 dL_would_332 ?_
                                refine cl_RL_78 (As := [.ref c9, .null]) (rest := []) F hl (c_meets_n l X w78 h c9 zw nn σ ((nn : Nat) : Int) ds 1 xx yy (-1) fw hAk ho80 hsn (by omega) (by omega) (Or.inl ⟨rfl, rfl⟩)) hW hS hh0 rfl rfl ⟨Nat.le_of_ble_eq_true rfl, Nat.le_of_ble_eq_true rfl⟩ (Nat.le_of_ble_eq_true rfl) ⟨(by show kc290 + 0 + 1 + 2 + 0 + 1 ≤ 4900; omega), (by show ks290 + 0 + 5 + 14 + 0 + 4 ≤ 25000; omega)⟩ dL_would_333 (fun w1 H locs hp82 hW hS => ?_)
                                rw [hp82] at hW; clear hp82; clear w1
                                refine h_ifneb (tgt := 349) F dL_would_336 (by decide) (fun c83 => ?_) (fun c83 => ?_)
                                · have hstp : plX σ ((nn : Nat) : Int) ds yy xx = plX σ ((nn : Nat) : Int) ds yy (xx + 1) := plX_f (by omega) (by unfold plP; rw [c83, Bool.not_true, Bool.and_false])
                                  refine h_iinc (k := 1) (a := xx) (lv' := [(12, .int (iI (xx + (-1)))), (10, .int (iI (plX σ ((nn : Nat) : Int) ds yy (xx + 1)))), (11, .int (iI yy)), (9, .int (iI ds)), (8, .int (iI ((nn : Nat) : Int))), (7, .int (iI (cnt (fun z => decide (desS σ (turnS σ z) rn ≠ desS σ z rn)) 0 cz))), (6, .int (iI rn)), (5, .int (iI (minQ σ dr))), (4, .int (iI dr)), (3, .int (iI (fi (lastsP σ) 0 (σ 1 - σ 4)))), (0, .ref y), (1, .ref h), (2, .ref gq)]) F dL_would_349 hl rfl (by decide) rfl (fun ls hl => ?_)
                                  refine h_goto (tgt := 290) F dL_would_352 (by decide) ?_
                                  have eq84 : (plX σ ((nn : Nat) : Int) ds yy ((xx - 1) + 1) : Int) = plX σ ((nn : Nat) : Int) ds yy (xx + 1) := by rw [show xx - 1 + 1 = xx by omega]; exact hstp
                                  have eq85 : ((xx - 1) : Int) = xx + (-1) := by first | rfl | omega | simp
                                  exact ih290 (xx - 1) (kc290 + 0 + 1 + 2 + 0 + 1) (ks290 + 0 + 5 + 14 + 0 + 4)  (by omega) (by omega) w78 (fun q e h9  => by
                                      have h9 := hF290 q e h9 
                                      have z9_1 := hfr65 q e h9
                                      have h9 := (hn63 q (by omega)).trans h9
                                      have h9 := hx77 q e h9 
                                      have h9 := (hn81 q (by omega)).trans h9
                                      exact h9) (by omega) (by omega) _ _ ls hW hS (by rw [eq84, eq85]; exact lv_sub hl [1, 0, 2, 3, 4, 5, 6, 7, 8, 9, 10, 11, 12] rfl)
                                · have hstp : plX σ ((nn : Nat) : Int) ds yy xx = 100 * yy + xx := plX_t (by omega) (by unfold plP; rw [hlt9, c83]; rfl)
                                  refine h_bipush F dL_would_339 rfl ?_
                                  refine lv_iload F.1 F.2.1 dL_would_341 (lv_at hl 2 rfl) ?_
                                  refine h_imul (a := 100) (b := yy) F dL_would_343 ?_
                                  refine lv_iload F.1 F.2.1 dL_would_344 (lv_at hl 1 rfl) ?_
                                  refine h_iadd (a := 100 * yy) (b := xx) F dL_would_346 ?_
                                  refine lv_istore (lv' := [(10, .int (iI ((100 * yy) + xx))), (12, .int (iI xx)), (11, .int (iI yy)), (9, .int (iI ds)), (8, .int (iI ((nn : Nat) : Int))), (7, .int (iI (cnt (fun z => decide (desS σ (turnS σ z) rn ≠ desS σ z rn)) 0 cz))), (6, .int (iI rn)), (5, .int (iI (minQ σ dr))), (4, .int (iI dr)), (3, .int (iI (fi (lastsP σ) 0 (σ 1 - σ 4)))), (0, .ref y), (1, .ref h), (2, .ref gq)]) F.1 F.2.1 dL_would_347 hl (by decide) rfl (fun ls hl => ?_)
                                  refine h_iinc (k := 1) (a := xx) (lv' := [(12, .int (iI (xx + (-1)))), (10, .int (iI ((100 * yy) + xx))), (11, .int (iI yy)), (9, .int (iI ds)), (8, .int (iI ((nn : Nat) : Int))), (7, .int (iI (cnt (fun z => decide (desS σ (turnS σ z) rn ≠ desS σ z rn)) 0 cz))), (6, .int (iI rn)), (5, .int (iI (minQ σ dr))), (4, .int (iI dr)), (3, .int (iI (fi (lastsP σ) 0 (σ 1 - σ 4)))), (0, .ref y), (1, .ref h), (2, .ref gq)]) F dL_would_349 hl rfl (by decide) rfl (fun ls hl => ?_)
                                  refine h_goto (tgt := 290) F dL_would_352 (by decide) ?_
                                  have eq86 : (plX σ ((nn : Nat) : Int) ds yy ((xx - 1) + 1) : Int) = (100 * yy) + xx := by rw [show xx - 1 + 1 = xx by omega]; exact hstp
                                  have eq87 : ((xx - 1) : Int) = xx + (-1) := by first | rfl | omega | simp
                                  exact ih290 (xx - 1) (kc290 + 0 + 1 + 2 + 0 + 1) (ks290 + 0 + 5 + 14 + 0 + 4)  (by omega) (by omega) w78 (fun q e h9  => by
                                      have h9 := hF290 q e h9 
                                      have z9_1 := hfr65 q e h9
                                      have h9 := (hn63 q (by omega)).trans h9
                                      have h9 := hx77 q e h9 
                                      have h9 := (hn81 q (by omega)).trans h9
                                      exact h9) (by omega) (by omega) _ _ ls hW hS (by rw [eq86, eq87]; exact lv_sub hl [1, 0, 2, 3, 4, 5, 6, 7, 8, 9, 10, 11, 12] rfl)
                        have eq88 : (plX σ ((nn : Nat) : Int) ds yy ((σ 0 - 1) + 1) : Int) = plS σ ((nn : Nat) : Int) ds (yy + 1) := by rw [show σ 0 - 1 + 1 = σ 0 by omega]; exact plX_e _ _ _ _
                        have eq89 : ((σ 0 - 1) : Int) = (σ 0) - 1 := by first | rfl | omega | simp
                        exact loop290 (((σ 0 - 1) + 1) + 1 : Int).toNat (σ 0 - 1) (kc273 + 0) (ks273 + 0)   (by omega) (by omega) w7 (fun q e h9  => by
                            exact h9) (by omega) (by omega) _ _ ls hW hS (by rw [eq88, eq89]; exact lv_sub hl [1, 0, 2, 3, 4, 5, 6, 7, 8, 9, 10, 11, 12] rfl)
                  have eq90 : (plS σ ((nn : Nat) : Int) ds ((σ 1 - 1) + 1) : Int) = (-1) := by rw [show σ 1 - 1 + 1 = σ 1 by omega]; exact plS_e _ _ _
                  have eq91 : ((σ 1 - 1) : Int) = (σ 1) - 1 := by first | rfl | omega | simp
                  exact loop273 (((σ 1 - 1) + 1) + 1 : Int).toNat (σ 1 - 1) (kc163 + 0 + 0 + 0 + 0 + 0) (ks163 + 0 + 0 + 0 + 0 + 0)   (by omega) (by omega) w28 (fun q e h9  => by
                      exact h9) (by omega) (by omega) _ _ ls hW hS (by rw [eq90, eq91]; exact lv_sub hl [1, 0, 2, 3, 4, 5, 6, 7, 8, 9, 10, 11] rfl)
                · exact absurd rfl c21
          · refine lv_iload F.1 F.2.1 dL_would_172 (lv_at hl 0 rfl) ?_
            have join205 : ∀ (H : Heap) (locs : List Loc) (ls : Array Slot), Wd X w7 s H → va_S (cxA X) s.heap H locs → lv_has ls 13 [(7, .int (iI (cnt (fun z => decide (desS σ (turnS σ z) rn ≠ desS σ z rn)) 0 cz))), (8, .int (iI cz)), (6, .int (iI rn)), (5, .int (iI (minQ σ dr))), (4, .int (iI dr)), (3, .int (iI (fi (lastsP σ) 0 (σ 1 - σ 4)))), (0, .ref y), (1, .ref h), (2, .ref gq)] → W p l e (rmG 8 4900 25000 184) s m (List.toArray [.ref y, .ref h, .ref gq]) below meth c H locs (kc163 + 2) (ks163 + 8) (MX X below (List.toArray [.ref y, .ref h, .ref gq]) s 4900 25000 (some (.int (iI (bz true)))) (fun w' => (KS X w' y σ nx sz pas ac) ∧ (∃ gf2, w' gq = some (aZ X 1 gf2)) ∧ ∀ (q : Nat) (e : va_E), w q = some e → q ≠ gq → q < y ∨ y + 321 ≤ q → w' q = some e)) (F0 m 205 ls [.int (iI (bz (decide (desS σ (turnS σ cz) rn ≠ desS σ cz rn)))), .int (iI (cnt (fun z => decide (desS σ (turnS σ z) rn ≠ desS σ z rn)) 0 cz))]) := by
              intro  H locs ls  hW hS hl
              refine h_iadd (a := cnt (fun z => decide (desS σ (turnS σ z) rn ≠ desS σ z rn)) 0 cz) (b := bz (decide (desS σ (turnS σ cz) rn ≠ desS σ cz rn))) F dL_would_205 ?_
              refine lv_istore (lv' := [(7, .int (iI ((cnt (fun z => decide (desS σ (turnS σ z) rn ≠ desS σ z rn)) 0 cz) + (bz (decide (desS σ (turnS σ cz) rn ≠ desS σ cz rn)))))), (8, .int (iI cz)), (6, .int (iI rn)), (5, .int (iI (minQ σ dr))), (4, .int (iI dr)), (3, .int (iI (fi (lastsP σ) 0 (σ 1 - σ 4)))), (0, .ref y), (1, .ref h), (2, .ref gq)]) F.1 F.2.1 dL_would_206 hl (by decide) rfl (fun ls hl => ?_)
              refine h_iinc (k := 1) (a := cz) (lv' := [(8, .int (iI (cz + 1))), (7, .int (iI ((cnt (fun z => decide (desS σ (turnS σ z) rn ≠ desS σ z rn)) 0 cz) + (bz (decide (desS σ (turnS σ cz) rn ≠ desS σ cz rn)))))), (6, .int (iI rn)), (5, .int (iI (minQ σ dr))), (4, .int (iI dr)), (3, .int (iI (fi (lastsP σ) 0 (σ 1 - σ 4)))), (0, .ref y), (1, .ref h), (2, .ref gq)]) F dL_would_208 hl rfl (by decide) rfl (fun ls hl => ?_)
              refine h_goto (tgt := 163) F dL_would_211 (by decide) ?_
              have eq92 : (cnt (fun z => decide (desS σ (turnS σ z) rn ≠ desS σ z rn)) 0 (cz + 1) : Int) = (cnt (fun z => decide (desS σ (turnS σ z) rn ≠ desS σ z rn)) 0 cz) + (bz (decide (desS σ (turnS σ cz) rn ≠ desS σ cz rn))) := cnt_s _ (by omega)
              have eq93 : ((cz + 1) : Int) = cz + 1 := by first | rfl | omega | simp
              exact ih163 (cz + 1) (kc163 + 2) (ks163 + 8)  (by omega) (by omega)  (by omega) (by omega) _ _ ls hW hS (by rw [eq92, eq93]; exact lv_sub hl [1, 0, 2, 3, 4, 5, 6, 7, 8] rfl)
            refine lv_aload_n F.1 F.2.1 dL_would_174 rfl (lv_at hl 7 rfl) ?_
            refine lv_iload F.1 F.2.1 dL_would_175 (lv_at hl 1 rfl) ?_
            refine lv_iload F.1 F.2.1 dL_would_177 (lv_at hl 2 rfl) ?_
            refine cl_RL_179 (As := [.int (iI cz), .int (iI rn)]) (rest := [.int (iI (cnt (fun z => decide (desS σ (turnS σ z) rn ≠ desS σ z rn)) 0 cz))]) F hl (c_X10_design l X w7 h σ cz rn hAk (by omega) (by omega)) hW hS hh0 rfl rfl ⟨Nat.le_of_ble_eq_true rfl, Nat.le_of_ble_eq_true rfl⟩ (Nat.le_of_ble_eq_true rfl) ⟨(by show kc163 + 1 ≤ 4900; omega), (by show ks163 + 4 ≤ 25000; omega)⟩ dL_would_179 (fun w1 H locs hp94 hW hS => ?_)
            rw [hp94] at hW; clear hp94; clear w1
            refine lv_aload_n F.1 F.2.1 dL_would_182 rfl (lv_at hl 7 rfl) ?_
            refine lv_aload_n F.1 F.2.1 dL_would_183 rfl (lv_at hl 7 rfl) ?_
            refine gf_RL_60 F hW hh0 rfl dL_would_184 ?_
            refine h_iconst F dL_would_187 ?_
            refine h_isub (a := σ 0) (b := 1) F dL_would_188 ?_
            refine lv_iload F.1 F.2.1 dL_would_189 (lv_at hl 1 rfl) ?_
            refine h_isub (a := (σ 0) - 1) (b := cz) F dL_would_191 ?_
            refine h_top (show (((σ 0) - 1) - cz : Int) = turnS σ cz from rfl) ?_
            refine lv_iload F.1 F.2.1 dL_would_192 (lv_at hl 2 rfl) ?_
            have htu : 0 ≤ turnS σ cz ∧ turnS σ cz < σ 0 := by unfold turnS; omega
            refine cl_RL_179 (As := [.int (iI (turnS σ cz)), .int (iI rn)]) (rest := [.int (iI (desS σ cz rn)), .int (iI (cnt (fun z => decide (desS σ (turnS σ z) rn ≠ desS σ z rn)) 0 cz))]) F hl (c_X10_design l X w7 h σ (turnS σ cz) rn hAk (by omega) (by omega)) hW hS hh0 rfl rfl ⟨Nat.le_of_ble_eq_true rfl, Nat.le_of_ble_eq_true rfl⟩ (Nat.le_of_ble_eq_true rfl) ⟨(by show kc163 + 1 + 1 ≤ 4900; omega), (by show ks163 + 4 + 4 ≤ 25000; omega)⟩ dL_would_194 (fun w1 H locs hp95 hW hS => ?_)
            rw [hp95] at hW; clear hp95; clear w1
            have hd1 := desS_r hWF0 cz rn
            have hd2 := desS_r hWF0 (turnS σ cz) rn
            refine h_icne (tgt := 204) F dL_would_197 (by decide) (by omega) (fun c96 => ?_) (fun c96 => ?_)
            · refine h_iconst F dL_would_204 ?_
              refine W.wd (mc := (kc163 + 2)) (ms := (ks163 + 8)) (by omega) (by omega) ?_
              refine h_top (show (1 : Int) = bz (decide (desS σ (turnS σ cz) rn ≠ desS σ cz rn)) from bzt (by first | exact decide_eq_true (by omega) | (simp only [Bool.and_eq_true, Bool.or_eq_true, decide_eq_true_eq]; omega) | simp_all)) ?_
              exact join205  _ _ ls  hW hS (lv_sub hl [0, 1, 2, 3, 4, 5, 6, 7, 8] rfl)
            · refine h_iconst F dL_would_200 ?_
              refine h_goto (tgt := 205) F dL_would_201 (by decide) ?_
              refine W.wd (mc := (kc163 + 2)) (ms := (ks163 + 8)) (by omega) (by omega) ?_
              refine h_top (show (0 : Int) = bz (decide (desS σ (turnS σ cz) rn ≠ desS σ cz rn)) from bzf (by first | exact decide_eq_false (by omega) | (simp only [Bool.and_eq_false_iff, Bool.or_eq_false_iff, decide_eq_false_iff_not]; omega) | simp_all)) ?_
              exact join205  _ _ ls  hW hS (lv_sub hl [0, 1, 2, 3, 4, 5, 6, 7, 8] rfl)
      have eq97 : (cnt (fun z => decide (desS σ (turnS σ z) rn ≠ desS σ z rn)) 0 0 : Int) = 0 := cnt_0 _ _
      exact loop163 ((σ 0 - 0) + 1 : Int).toNat 0 (3692 + 0) (14807 + 0)   (by omega) (by omega)  (by omega) (by omega) _ _ ls hW hS (by rw [eq97]; exact lv_sub hl [1, 0, 2, 3, 4, 5, 6, 7, 8] rfl)
    have hgb : ∀ (q : Nat) (e : va_E), w q = some e → q ≠ gq → q ≠ y + 51 → q ≠ y + 306 → q ≠ y + 309 → q ≠ y + 310 → w1 q = some e := fun q e h9 h09 h19 h29 h39 h49 => by have h9 := hx6 q e h9 (by omega); exact h9
    have hAw : ownA X (wr w1 N) h σ := hO0.1.ex (fun q e h9 => by have hN9 := (wr_some.mp h9).1; exact wr_some.mpr ⟨hN9, hgb q e (wr_some.mp h9).2 (fun e9 => hN9 (e9 ▸ hNg)) (fun e9 => hN9 (e9 ▸ hNy _ (by omega) (by omega))) (fun e9 => hN9 (e9 ▸ hNy _ (by omega) (by omega))) (fun e9 => hN9 (e9 ▸ hNy _ (by omega) (by omega))) (fun e9 => hN9 (e9 ▸ hNy _ (by omega) (by omega)))⟩)
    have hAk : ownA X w1 h σ := hAw.ex (wr_sub _ _)
    refine lv_aload_n F.1 F.2.1 dL_would_43 rfl (lv_at hl 4 rfl) ?_
    refine cl_RL_186 (As := []) (rest := []) F hl (c_X10_rows l X w1 h σ hAk) hW hS hh0 rfl rfl ⟨Nat.le_of_ble_eq_true rfl, Nat.le_of_ble_eq_true rfl⟩ (Nat.le_of_ble_eq_true rfl) ⟨(by show 3224 + 0 + 0 ≤ 4900; omega), (by show 12935 + 0 + 0 ≤ 25000; omega)⟩ dL_would_44 (fun w1 H locs hp98 hW hS => ?_)
    rw [hp98] at hW; clear hp98; clear w1
    refine lv_istore (lv' := [(6, .int (iI (σ 4))), (5, .int (iI 0)), (4, .int (iI dr)), (3, .int (iI (fi (lastsP σ) 0 (σ 1 - σ 4)))), (0, .ref y), (1, .ref h), (2, .ref gq)]) F.1 F.2.1 dL_would_47 hl (by decide) rfl (fun ls hl => ?_)
    have loop49 : ∀ (n9 : Nat) (r : Int) (kc49 ks49 : Nat), (hrg : σ 4 ≤ r ∧ r ≤ σ 1 ∧ r ≤ σ 4 + dr) → (hms : σ 1 - r < (n9 : Int)) → (hkc49 : ((kc49 : Nat) : Int) ≤ ((3224 + 0 + 0 : Nat) : Int) + 36 * (r - σ 4)) → (hks49 : ((ks49 : Nat) : Int) ≤ ((12935 + 0 + 0 : Nat) : Int) + 144 * (r - σ 4)) → (H : Heap) → (locs : List Loc) → (ls : Array Slot) → Wd X w1 s H → va_S (cxA X) s.heap H locs → lv_has ls 13 [(5, .int (iI (sm (fun z9 => minZ (σ 0) (jwS σ z9)) (σ 4) r))), (6, .int (iI r)), (4, .int (iI dr)), (3, .int (iI (fi (lastsP σ) 0 (σ 1 - σ 4)))), (0, .ref y), (1, .ref h), (2, .ref gq)] → W p l e (rmG 8 4900 25000 184) s m (List.toArray [.ref y, .ref h, .ref gq]) below meth c H locs kc49 ks49 (MX X below (List.toArray [.ref y, .ref h, .ref gq]) s 4900 25000 (some (.int (iI (bz true)))) (fun w' => (KS X w' y σ nx sz pas ac) ∧ (∃ gf2, w' gq = some (aZ X 1 gf2)) ∧ ∀ (q : Nat) (e : va_E), w q = some e → q ≠ gq → q < y ∨ y + 321 ≤ q → w' q = some e)) (F0 m 49 ls []) := by
      intro n9
      induction n9 with
      | zero => intro r kc49 ks49  hrg hms; exfalso; omega
      | succ n9 ih49 =>
        intro r kc49 ks49  hrg hms  hkc49 hks49 H locs ls hW hS hl
        refine lv_iload F.1 F.2.1 dL_would_49 (lv_at hl 1 rfl) ?_
        refine lv_aload_n F.1 F.2.1 dL_would_51 rfl (lv_at hl 5 rfl) ?_
        refine gf_RL_66 F hW hh0 rfl dL_would_52 ?_
        refine h_icge (tgt := 147) F dL_would_55 (by decide) (by omega) (fun c99 => ?_) (fun c99 => ?_)
        · refine W.wd (mc := 3692) (ms := 14807) (by omega) (by omega) ?_
          have eq100 : (minQ σ dr : Int) = sm (fun z9 => minZ (σ 0) (jwS σ z9)) (σ 4) r := by unfold minQ; rw [show min (σ 1) (σ 4 + dr) = r by omega]
          exact join147  _ _ ls  hW hS (by rw [eq100]; exact lv_sub hl [0, 2, 3, 4, 5, 6] rfl)
        · refine lv_iload F.1 F.2.1 dL_would_58 (lv_at hl 1 rfl) ?_
          refine lv_aload_n F.1 F.2.1 dL_would_60 rfl (lv_at hl 5 rfl) ?_
          refine cl_RL_186 (As := []) (rest := [.int (iI r)]) F hl (c_X10_rows l X w1 h σ hAk) hW hS hh0 rfl rfl ⟨Nat.le_of_ble_eq_true rfl, Nat.le_of_ble_eq_true rfl⟩ (Nat.le_of_ble_eq_true rfl) ⟨(by show kc49 + 0 ≤ 4900; omega), (by show ks49 + 0 ≤ 25000; omega)⟩ dL_would_61 (fun w1 H locs hp101 hW hS => ?_)
          rw [hp101] at hW; clear hp101; clear w1
          refine lv_iload F.1 F.2.1 dL_would_64 (lv_at hl 2 rfl) ?_
          refine h_iadd (a := σ 4) (b := dr) F dL_would_66 ?_
          refine h_icge (tgt := 147) F dL_would_67 (by decide) (by omega) (fun c102 => ?_) (fun c102 => ?_)
          · refine W.wd (mc := 3692) (ms := 14807) (by omega) (by omega) ?_
            have eq103 : (minQ σ dr : Int) = sm (fun z9 => minZ (σ 0) (jwS σ z9)) (σ 4) r := by unfold minQ; rw [show min (σ 1) (σ 4 + dr) = r by omega]
            exact join147  _ _ ls  hW hS (by rw [eq103]; exact lv_sub hl [0, 2, 3, 4, 5, 6] rfl)
          · refine h_iconst F dL_would_70 ?_
            refine lv_istore (lv' := [(7, .int (iI 0)), (5, .int (iI (sm (fun z9 => minZ (σ 0) (jwS σ z9)) (σ 4) r))), (6, .int (iI r)), (4, .int (iI dr)), (3, .int (iI (fi (lastsP σ) 0 (σ 1 - σ 4)))), (0, .ref y), (1, .ref h), (2, .ref gq)]) F.1 F.2.1 dL_would_71 hl (by decide) rfl (fun ls hl => ?_)
            refine h_iconst F dL_would_73 ?_
            refine lv_istore (lv' := [(8, .int (iI 1)), (7, .int (iI 0)), (5, .int (iI (sm (fun z9 => minZ (σ 0) (jwS σ z9)) (σ 4) r))), (6, .int (iI r)), (4, .int (iI dr)), (3, .int (iI (fi (lastsP σ) 0 (σ 1 - σ 4)))), (0, .ref y), (1, .ref h), (2, .ref gq)]) F.1 F.2.1 dL_would_74 hl (by decide) rfl (fun ls hl => ?_)
            have loop76 : ∀ (n9 : Nat) (k : Int) (kc76 ks76 : Nat), (hrg : 0 ≤ k ∧ k ≤ σ 0 - 1) → (hms : σ 0 - 1 - k < (n9 : Int)) → (hkc76 : ((kc76 : Nat) : Int) ≤ ((kc49 + 0 : Nat) : Int) + 2 * k) → (hks76 : ((ks76 : Nat) : Int) ≤ ((ks49 + 0 : Nat) : Int) + 8 * k) → (H : Heap) → (locs : List Loc) → (ls : Array Slot) → Wd X w1 s H → va_S (cxA X) s.heap H locs → lv_has ls 13 [(7, .int (iI (cnt (fun z => decide (wvS σ z r ≠ wvS σ (z + 1) r)) 0 k))), (8, .int (iI (k + 1))), (5, .int (iI (sm (fun z9 => minZ (σ 0) (jwS σ z9)) (σ 4) r))), (6, .int (iI r)), (4, .int (iI dr)), (3, .int (iI (fi (lastsP σ) 0 (σ 1 - σ 4)))), (0, .ref y), (1, .ref h), (2, .ref gq)] → W p l e (rmG 8 4900 25000 184) s m (List.toArray [.ref y, .ref h, .ref gq]) below meth c H locs kc76 ks76 (MX X below (List.toArray [.ref y, .ref h, .ref gq]) s 4900 25000 (some (.int (iI (bz true)))) (fun w' => (KS X w' y σ nx sz pas ac) ∧ (∃ gf2, w' gq = some (aZ X 1 gf2)) ∧ ∀ (q : Nat) (e : va_E), w q = some e → q ≠ gq → q < y ∨ y + 321 ≤ q → w' q = some e)) (F0 m 76 ls []) := by
              intro n9
              induction n9 with
              | zero => intro k kc76 ks76  hrg hms; exfalso; omega
              | succ n9 ih76 =>
                intro k kc76 ks76  hrg hms  hkc76 hks76 H locs ls hW hS hl
                refine lv_iload F.1 F.2.1 dL_would_76 (lv_at hl 1 rfl) ?_
                refine lv_aload_n F.1 F.2.1 dL_would_78 rfl (lv_at hl 7 rfl) ?_
                refine gf_RL_60 F hW hh0 rfl dL_would_79 ?_
                refine h_icge (tgt := 124) F dL_would_82 (by decide) (by omega) (fun c104 => ?_) (fun c104 => ?_)
                · have hjw : cnt (fun z => decide (wvS σ z r ≠ wvS σ (z + 1) r)) 0 k = jwS σ r := by rw [show k = σ 0 - 1 by omega]; rfl
                  have hjr := jwS_r hWF0 r
                  refine lv_iload F.1 F.2.1 dL_would_124 (lv_at hl 2 rfl) ?_
                  refine lv_aload_n F.1 F.2.1 dL_would_126 rfl (lv_at hl 7 rfl) ?_
                  refine gf_RL_60 F hW hh0 rfl dL_would_127 ?_
                  refine h_bipush F dL_would_130 rfl ?_
                  refine lv_iload F.1 F.2.1 dL_would_132 (lv_at hl 0 rfl) ?_
                  refine h_imul (a := 7) (b := cnt (fun z => decide (wvS σ z r ≠ wvS σ (z + 1) r)) 0 k) F dL_would_134 ?_
                  refine h_top (show (7 * (cnt (fun z => decide (wvS σ z r ≠ wvS σ (z + 1) r)) 0 k) : Int) = 7 * jwS σ r from by rw [hjw]) ?_
                  refine h_iadd (a := σ 0) (b := 7 * jwS σ r) F dL_would_135 ?_
                  refine h_iconst F dL_would_136 ?_
                  refine h_idiv F dL_would_137 (by omega) ?_
                  refine h_top (show (((σ 0) + (7 * jwS σ r)) / 4 : Int) = minZ (σ 0) (jwS σ r) from (min_e (by omega) hjr).symm) ?_
                  refine h_iadd (a := sm (fun z9 => minZ (σ 0) (jwS σ z9)) (σ 4) r) (b := minZ (σ 0) (jwS σ r)) F dL_would_138 ?_
                  refine lv_istore (lv' := [(5, .int (iI ((sm (fun z9 => minZ (σ 0) (jwS σ z9)) (σ 4) r) + (minZ (σ 0) (jwS σ r))))), (7, .int (iI (cnt (fun z => decide (wvS σ z r ≠ wvS σ (z + 1) r)) 0 k))), (8, .int (iI (k + 1))), (6, .int (iI r)), (4, .int (iI dr)), (3, .int (iI (fi (lastsP σ) 0 (σ 1 - σ 4)))), (0, .ref y), (1, .ref h), (2, .ref gq)]) F.1 F.2.1 dL_would_139 hl (by decide) rfl (fun ls hl => ?_)
                  refine h_iinc (k := 3) (a := r) (lv' := [(6, .int (iI (r + 1))), (5, .int (iI ((sm (fun z9 => minZ (σ 0) (jwS σ z9)) (σ 4) r) + (minZ (σ 0) (jwS σ r))))), (7, .int (iI (cnt (fun z => decide (wvS σ z r ≠ wvS σ (z + 1) r)) 0 k))), (8, .int (iI (k + 1))), (4, .int (iI dr)), (3, .int (iI (fi (lastsP σ) 0 (σ 1 - σ 4)))), (0, .ref y), (1, .ref h), (2, .ref gq)]) F dL_would_141 hl rfl (by decide) rfl (fun ls hl => ?_)
                  refine h_goto (tgt := 49) F dL_would_144 (by decide) ?_
                  have eq105 : (sm (fun z9 => minZ (σ 0) (jwS σ z9)) (σ 4) (r + 1) : Int) = (sm (fun z9 => minZ (σ 0) (jwS σ z9)) (σ 4) r) + (minZ (σ 0) (jwS σ r)) := sm_s _ (by omega)
                  have eq106 : ((r + 1) : Int) = r + 1 := by first | rfl | omega | simp
                  exact ih49 (r + 1) (kc76) (ks76)  (by omega) (by omega)  (by omega) (by omega) _ _ ls hW hS (by rw [eq105, eq106]; exact lv_sub hl [1, 0, 4, 5, 6, 7, 8] rfl)
                · refine lv_iload F.1 F.2.1 dL_would_85 (lv_at hl 0 rfl) ?_
                  have join115 : ∀ (H : Heap) (locs : List Loc) (ls : Array Slot), Wd X w1 s H → va_S (cxA X) s.heap H locs → lv_has ls 13 [(7, .int (iI (cnt (fun z => decide (wvS σ z r ≠ wvS σ (z + 1) r)) 0 k))), (8, .int (iI (k + 1))), (5, .int (iI (sm (fun z9 => minZ (σ 0) (jwS σ z9)) (σ 4) r))), (6, .int (iI r)), (4, .int (iI dr)), (3, .int (iI (fi (lastsP σ) 0 (σ 1 - σ 4)))), (0, .ref y), (1, .ref h), (2, .ref gq)] → W p l e (rmG 8 4900 25000 184) s m (List.toArray [.ref y, .ref h, .ref gq]) below meth c H locs (kc76 + 2) (ks76 + 8) (MX X below (List.toArray [.ref y, .ref h, .ref gq]) s 4900 25000 (some (.int (iI (bz true)))) (fun w' => (KS X w' y σ nx sz pas ac) ∧ (∃ gf2, w' gq = some (aZ X 1 gf2)) ∧ ∀ (q : Nat) (e : va_E), w q = some e → q ≠ gq → q < y ∨ y + 321 ≤ q → w' q = some e)) (F0 m 115 ls [.int (iI (bz (decide (wvS σ k r ≠ wvS σ (k + 1) r)))), .int (iI (cnt (fun z => decide (wvS σ z r ≠ wvS σ (z + 1) r)) 0 k))]) := by
                    intro  H locs ls  hW hS hl
                    refine h_iadd (a := cnt (fun z => decide (wvS σ z r ≠ wvS σ (z + 1) r)) 0 k) (b := bz (decide (wvS σ k r ≠ wvS σ (k + 1) r))) F dL_would_115 ?_
                    refine lv_istore (lv' := [(7, .int (iI ((cnt (fun z => decide (wvS σ z r ≠ wvS σ (z + 1) r)) 0 k) + (bz (decide (wvS σ k r ≠ wvS σ (k + 1) r)))))), (8, .int (iI (k + 1))), (5, .int (iI (sm (fun z9 => minZ (σ 0) (jwS σ z9)) (σ 4) r))), (6, .int (iI r)), (4, .int (iI dr)), (3, .int (iI (fi (lastsP σ) 0 (σ 1 - σ 4)))), (0, .ref y), (1, .ref h), (2, .ref gq)]) F.1 F.2.1 dL_would_116 hl (by decide) rfl (fun ls hl => ?_)
                    refine h_iinc (k := 1) (a := k + 1) (lv' := [(8, .int (iI ((k + 1) + 1))), (7, .int (iI ((cnt (fun z => decide (wvS σ z r ≠ wvS σ (z + 1) r)) 0 k) + (bz (decide (wvS σ k r ≠ wvS σ (k + 1) r)))))), (5, .int (iI (sm (fun z9 => minZ (σ 0) (jwS σ z9)) (σ 4) r))), (6, .int (iI r)), (4, .int (iI dr)), (3, .int (iI (fi (lastsP σ) 0 (σ 1 - σ 4)))), (0, .ref y), (1, .ref h), (2, .ref gq)]) F dL_would_118 hl rfl (by decide) rfl (fun ls hl => ?_)
                    refine h_goto (tgt := 76) F dL_would_121 (by decide) ?_
                    have eq107 : (cnt (fun z => decide (wvS σ z r ≠ wvS σ (z + 1) r)) 0 (k + 1) : Int) = (cnt (fun z => decide (wvS σ z r ≠ wvS σ (z + 1) r)) 0 k) + (bz (decide (wvS σ k r ≠ wvS σ (k + 1) r))) := cnt_s _ (by omega)
                    exact ih76 (k + 1) (kc76 + 2) (ks76 + 8)  (by omega) (by omega)  (by omega) (by omega) _ _ ls hW hS (by rw [eq107]; exact lv_sub hl [1, 0, 2, 3, 4, 5, 6, 7, 8] rfl)
                  refine lv_aload_n F.1 F.2.1 dL_would_87 rfl (lv_at hl 7 rfl) ?_
                  refine lv_iload F.1 F.2.1 dL_would_88 (lv_at hl 1 rfl) ?_
                  refine lv_iload F.1 F.2.1 dL_would_90 (lv_at hl 3 rfl) ?_
                  refine h_iconst F dL_would_92 ?_
                  refine cl_RL_268 (As := [.int (iI (k + 1)), .int (iI r), .int (iI 0)]) (rest := [.int (iI (cnt (fun z => decide (wvS σ z r ≠ wvS σ (z + 1) r)) 0 k))]) F hl (c_X10_due l X w1 h σ (k + 1) r false hAk (by omega) (by omega)) hW hS hh0 rfl rfl ⟨Nat.le_of_ble_eq_true rfl, Nat.le_of_ble_eq_true rfl⟩ (Nat.le_of_ble_eq_true rfl) ⟨(by show kc76 + 1 ≤ 4900; omega), (by show ks76 + 4 ≤ 25000; omega)⟩ dL_would_93 (fun w1 H locs hp108 hW hS => ?_)
                  rw [hp108] at hW; clear hp108; clear w1
                  refine h_top (show (dueS σ false (k + 1) r : Int) = wvS σ (k + 1) r from due_wv hWF0 (by omega) (by omega)) ?_
                  refine lv_aload_n F.1 F.2.1 dL_would_96 rfl (lv_at hl 7 rfl) ?_
                  refine lv_iload F.1 F.2.1 dL_would_97 (lv_at hl 1 rfl) ?_
                  refine h_iconst F dL_would_99 ?_
                  refine h_isub (a := k + 1) (b := 1) F dL_would_100 ?_
                  refine lv_iload F.1 F.2.1 dL_would_101 (lv_at hl 3 rfl) ?_
                  refine h_iconst F dL_would_103 ?_
                  refine cl_RL_268 (As := [.int (iI ((k + 1) - 1)), .int (iI r), .int (iI 0)]) (rest := [.int (iI (wvS σ (k + 1) r)), .int (iI (cnt (fun z => decide (wvS σ z r ≠ wvS σ (z + 1) r)) 0 k))]) F hl (c_X10_due l X w1 h σ ((k + 1) - 1) r false hAk (by omega) (by omega)) hW hS hh0 rfl rfl ⟨Nat.le_of_ble_eq_true rfl, Nat.le_of_ble_eq_true rfl⟩ (Nat.le_of_ble_eq_true rfl) ⟨(by show kc76 + 1 + 1 ≤ 4900; omega), (by show ks76 + 4 + 4 ≤ 25000; omega)⟩ dL_would_104 (fun w1 H locs hp109 hW hS => ?_)
                  rw [hp109] at hW; clear hp109; clear w1
                  refine h_top (show (dueS σ false ((k + 1) - 1) r : Int) = wvS σ k r from by rw [show k + 1 - 1 = k by omega]; exact due_wv hWF0 (by omega) (by omega)) ?_
                  have hv1 := wv_r hWF0 (c := k + 1) (r := r) (by omega) (by omega)
                  have hv2 := wv_r hWF0 (c := k) (r := r) (by omega) (by omega)
                  refine h_icne (tgt := 114) F dL_would_107 (by decide) (by omega) (fun c110 => ?_) (fun c110 => ?_)
                  · refine h_iconst F dL_would_114 ?_
                    refine W.wd (mc := (kc76 + 2)) (ms := (ks76 + 8)) (by omega) (by omega) ?_
                    refine h_top (show (1 : Int) = bz (decide (wvS σ k r ≠ wvS σ (k + 1) r)) from bzt (by first | exact decide_eq_true (by omega) | (simp only [Bool.and_eq_true, Bool.or_eq_true, decide_eq_true_eq]; omega) | simp_all)) ?_
                    exact join115  _ _ ls  hW hS (lv_sub hl [0, 1, 2, 3, 4, 5, 6, 7, 8] rfl)
                  · refine h_iconst F dL_would_110 ?_
                    refine h_goto (tgt := 115) F dL_would_111 (by decide) ?_
                    refine W.wd (mc := (kc76 + 2)) (ms := (ks76 + 8)) (by omega) (by omega) ?_
                    refine h_top (show (0 : Int) = bz (decide (wvS σ k r ≠ wvS σ (k + 1) r)) from bzf (by first | exact decide_eq_false (by omega) | (simp only [Bool.and_eq_false_iff, Bool.or_eq_false_iff, decide_eq_false_iff_not]; omega) | simp_all)) ?_
                    exact join115  _ _ ls  hW hS (lv_sub hl [0, 1, 2, 3, 4, 5, 6, 7, 8] rfl)
            have eq111 : (cnt (fun z => decide (wvS σ z r ≠ wvS σ (z + 1) r)) 0 0 : Int) = 0 := cnt_0 _ _
            have eq112 : (0 + 1 : Int) = 1 := by first | rfl | omega | simp
            exact loop76 ((σ 0 - 1 - 0) + 1 : Int).toNat 0 (kc49 + 0) (ks49 + 0)   (by omega) (by omega)  (by omega) (by omega) _ _ ls hW hS (by rw [eq111, eq112]; exact lv_sub hl [1, 0, 2, 3, 4, 5, 6, 7, 8] rfl)
    have eq113 : (sm (fun z9 => minZ (σ 0) (jwS σ z9)) (σ 4) (σ 4) : Int) = 0 := sm_0 _ _
    have eq114 : ((σ 4) : Int) = σ 4 := by first | rfl | omega | simp
    exact loop49 ((σ 1 - (σ 4)) + 1 : Int).toNat (σ 4) (3224 + 0 + 0) (12935 + 0 + 0)   (by omega) (by omega)  (by omega) (by omega) _ _ ls hW hS (by rw [eq113, eq114]; exact lv_sub hl [1, 0, 2, 3, 4, 5, 6] rfl)
  refine h_iconst F dL_would_0 ?_
  refine lv_istore_n (lv' := [(3, .int (iI 0)), (0, .ref y), (1, .ref h), (2, .ref gq)]) F.1 F.2.1 dL_would_1 rfl hl (by decide) rfl (fun ls hl => ?_)
  have loop2 : ∀ (n9 : Nat) (n : Int) (kc2 ks2 : Nat), (hrg : 0 ≤ n ∧ n ≤ σ 1 - σ 4) → (hms : σ 1 - σ 4 - n < (n9 : Int)) → (hkc2 : ((kc2 : Nat) : Int) ≤ ((0 : Nat) : Int) + 248 * n) → (hks2 : ((ks2 : Nat) : Int) ≤ ((0 : Nat) : Int) + 995 * n) → (hen : ∀ j, 0 ≤ j → j < n → enoS σ false (j + 1) = true) → (H : Heap) → (locs : List Loc) → (ls : Array Slot) → Wd X w s H → va_S (cxA X) s.heap H locs → lv_has ls 13 [(3, .int (iI n)), (0, .ref y), (1, .ref h), (2, .ref gq)] → W p l e (rmG 8 4900 25000 184) s m (List.toArray [.ref y, .ref h, .ref gq]) below meth c H locs kc2 ks2 (MX X below (List.toArray [.ref y, .ref h, .ref gq]) s 4900 25000 (some (.int (iI (bz true)))) (fun w' => (KS X w' y σ nx sz pas ac) ∧ (∃ gf2, w' gq = some (aZ X 1 gf2)) ∧ ∀ (q : Nat) (e : va_E), w q = some e → q ≠ gq → q < y ∨ y + 321 ≤ q → w' q = some e)) (F0 m 2 ls []) := by
    intro n9
    induction n9 with
    | zero => intro n kc2 ks2  hrg hms; exfalso; omega
    | succ n9 ih2 =>
      intro n kc2 ks2  hrg hms  hkc2 hks2 hen H locs ls hW hS hl
      refine lv_aload_n F.1 F.2.1 dL_would_2 rfl (lv_at hl 2 rfl) ?_
      refine cl_RL_186 (As := []) (rest := []) F hl (c_X10_rows l X w h σ hO0.A) hW hS hh0 rfl rfl ⟨Nat.le_of_ble_eq_true rfl, Nat.le_of_ble_eq_true rfl⟩ (Nat.le_of_ble_eq_true rfl) ⟨(by show kc2 + 0 ≤ 4900; omega), (by show ks2 + 0 ≤ 25000; omega)⟩ dL_would_3 (fun w1 H locs hp115 hW hS => ?_)
      rw [hp115] at hW; clear hp115; clear w1
      refine lv_iload_n F.1 F.2.1 dL_would_6 rfl (lv_at hl 0 rfl) ?_
      refine h_iadd (a := σ 4) (b := n) F dL_would_7 ?_
      refine lv_aload_n F.1 F.2.1 dL_would_8 rfl (lv_at hl 2 rfl) ?_
      refine gf_RL_66 F hW hh0 rfl dL_would_9 ?_
      refine h_icge (tgt := 32) F dL_would_12 (by decide) (by omega) (fun c116 => ?_) (fun c116 => ?_)
      · have hla9 : fi (lastsP σ) 0 (σ 1 - σ 4) = n := las_1 hen (by omega) (by omega)
        refine W.wd (mc := 3224) (ms := 12935) (by omega) (by omega) ?_
        have eq117 : (fi (lastsP σ) 0 (σ 1 - σ 4) : Int) = n := hla9
        exact join32  _ _ ls  hW hS (by rw [eq117]; exact lv_sub hl [0, 1, 2, 3] rfl)
      · refine lv_aload_n F.1 F.2.1 dL_would_15 rfl (lv_at hl 2 rfl) ?_
        refine lv_iload_n F.1 F.2.1 dL_would_16 rfl (lv_at hl 0 rfl) ?_
        refine h_iconst F dL_would_17 ?_
        refine h_iadd (a := n) (b := 1) F dL_would_18 ?_
        refine h_iconst F dL_would_19 ?_
        refine cl_RL_264 (As := [.int (iI (n + 1)), .int (iI 0)]) (rest := []) F hl (c_X10_enough l X w h σ (n + 1) false hO0.A (by omega)) hW hS hh0 rfl rfl ⟨Nat.le_of_ble_eq_true rfl, Nat.le_of_ble_eq_true rfl⟩ (Nat.le_of_ble_eq_true rfl) ⟨(by show kc2 + 0 + 248 ≤ 4900; omega), (by show ks2 + 0 + 995 ≤ 25000; omega)⟩ dL_would_20 (fun w1 H locs hp118 hW hS => ?_)
        rw [hp118] at hW; clear hp118; clear w1
        refine h_ifeqb (tgt := 32) F dL_would_23 (by decide) (fun c119 => ?_) (fun c119 => ?_)
        · have hla9 : fi (lastsP σ) 0 (σ 1 - σ 4) = n := las_2 hen (by omega) (by omega) c119
          refine W.wd (mc := 3224) (ms := 12935) (by omega) (by omega) ?_
          have eq120 : (fi (lastsP σ) 0 (σ 1 - σ 4) : Int) = n := hla9
          exact join32  _ _ ls  hW hS (by rw [eq120]; exact lv_sub hl [0, 1, 2, 3] rfl)
        · have he9 := c119
          refine h_iinc (k := 0) (a := n) (lv' := [(3, .int (iI (n + 1))), (0, .ref y), (1, .ref h), (2, .ref gq)]) F dL_would_26 hl rfl (by decide) rfl (fun ls hl => ?_)
          refine h_goto (tgt := 2) F dL_would_29 (by decide) ?_
          have eq121 : ((n + 1) : Int) = n + 1 := by first | rfl | omega | simp
          exact ih2 (n + 1) (kc2 + 0 + 248) (ks2 + 0 + 995)  (by omega) (by omega)  (by omega) (by omega) (fun j h1 h2 => if hj : j = n then (by rw [hj]; exact he9) else hen j h1 (by omega)) _ _ ls hW hS (by rw [eq121]; exact lv_sub hl [0, 1, 2, 3] rfl)
  exact loop2 ((σ 1 - σ 4 - 0) + 1 : Int).toNat 0 (0) (0)   (by omega) (by omega)  (by omega) (by omega) (fun j h1 h2 => by omega) _ _ ls hW hS (lv_sub hl [0, 1, 2, 3] rfl)
