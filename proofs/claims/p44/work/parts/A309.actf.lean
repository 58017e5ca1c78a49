set_option maxHeartbeats 4000000 in
set_option maxRecDepth 100000 in
theorem sg_acts_358 (l : Launch) (X : Cx) (w : Wo) (y h gq aq : Nat) (N : Nat → Prop) (σ af : Int → Int) (hLS : LwS X w N y h gq aq σ af) (hp8 : 0 ≤ af 8 ∧ af 8 ≤ 900000)   {p : Program} {e : Env} {s : State} {m : MethodId} {below : List Frame} {meth : Method} {c : Code} {H : Heap} {locs : List Loc} {ls : Array Slot} {kc0 ks0 : Nat} (F : Fx p m c cL_acts 14 s (List.toArray [.ref y, .ref h, .ref gq, .ref aq]) RL) (hr : meth.sig.returnType = (some (.boolean))) (hlk : meth.locks = false) (hZ0 : cxZ X s s.heap) (hB9 : cxB X ≤ s.heap.size) (hkc0 : kc0 ≤ 10) (hks0 : ks0 ≤ 20) (hW : Wd X w s H) (hS : va_S (cxA X) s.heap H locs) (hl : lv_has ls 14 [(0, .ref y), (1, .ref h), (2, .ref gq), (3, .ref aq), (4, .int (iI (bz (decide (σ 4 < σ 1)))))]) : W p l e (rmG 11 1500 6000 260) s m (List.toArray [.ref y, .ref h, .ref gq, .ref aq]) below meth c H locs kc0 ks0 (MX X below (List.toArray [.ref y, .ref h, .ref gq, .ref aq]) s 1500 6000 (some (.int (iI (bz true)))) (fun w' => ∃ σ2 af2 : Int → Int, LwS X w' N y h gq aq σ2 af2 ∧ (0 ≤ af2 8 ∧ af2 8 ≤ af 8 + 1000))) (F0 m 358 ls []) := by
  obtain ⟨hO, ⟨nx, sz, pas, ac, hK, hacc⟩, ⟨gf, hg9⟩, ha9, hout3, hNN⟩ := hLS
  have hNy := hNN.1
  have hog := hout3.1
  have hoa := hout3.2.1
  have hga := hout3.2.2
  have hO0 := hO
  obtain ⟨st, lc, ec, kc, lr, er, kr, cd, rwa, hPw0, hern⟩ := hO.1.P
  have hNE := hPw0.ne
  have hQ5 := hPw0.q5
  have hPw := hPw0
  obtain ⟨h1w, ⟨fs, h2w, h2f⟩, hLcw, hkc, hcaw, hLrw, hkr, hclw, hem, ⟨hWF, hw0, hw1⟩, hrs, hlne, hene⟩ := hPw
  have hWF0 := hWF.1
  obtain ⟨wf0, wf1, wf2, wf3, wf4, wf5⟩ := hWF0
  have hnc := nr_cases (show nrS σ = _ from rfl) wf4.2
  have hnr0 : σ 4 ≤ nrS σ ∧ nrS σ ≤ σ 4 + 1 ∧ nrS σ ≤ σ 1 := by omega
  clear hnc
  have hkrb : 10 ≤ kr ∧ kr ≤ 15 := by omega
  clear hkr hkc hlne hern
  have h1n := (wr_some.mp h1w).1
  have h1 := (wr_some.mp h1w).2
  have h2n := (wr_some.mp h2w).1
  have h2 := (wr_some.mp h2w).2
  have hLc := hLcw.ex (wr_sub w N)
  have hLr := hLrw.ex (wr_sub w N)
  have hNl := hLcw.nN hO.2.2
  have hNr := hLrw.nN hO.2.2
  obtain ⟨⟨mc, h3⟩, gc, h3b, h3c, h3d⟩ := hLc
  obtain ⟨⟨mr, h5⟩, gr, h5b, h5c, h5d⟩ := hLr
  have h5e : w er = some (aR X 5 kr gr) := h5b.elim (fun z => by omega) (fun z => z.1)
  clear h3b h5b
  have hLr := hLrw.ex (wr_sub w N)
  have hLc := hLcw.ex (wr_sub w N)
  have hQg := hQ5 gq hNN.2.1
  have hQa := hQ5 aq hNN.2.2
  have hoh := outY.nN hNy h1n
  have host := outY.nN hNy h2n
  have holc := outY.nN hNy hNl.1
  have holr := outY.nN hNy hNr.1
  have hoer := outY.nN hNy hNr.2
  have hXY := hW.zy
  have hene0 := hPw0.2.2.2.2.2.2.2.2.2.2.2.2
  have hrw9 : ∀ r, 0 ≤ r → r < nrS σ → rwa r ≠ lr ∧ rwa r ≠ er ∧ rwa r ≠ h ∧ ¬ N (rwa r) := fun r r0 r1 => (hclw.1 r r0 r1).elim (fun f z9 => ⟨fun e9 => (by have z8 := (wr_some.mp z9.1).2; rw [e9, h5] at z8; cases z8), fun e9 => (by have z8 := (wr_some.mp z9.1).2; rw [e9, h5e] at z8; exact aZ_aR (Option.some.inj z8.symm)), fun e9 => (by have z8 := (wr_some.mp z9.1).2; rw [e9, h1] at z8; cases z8), (wr_some.mp z9.1).1⟩)
  have pno1 : ∀ {q k : Nat} {f9 : List Value}, w q = some (.inr (k, f9)) → k ≠ 10 → k ≠ 14 → ¬ (q = h ∨ q = st ∨ q = lr ∨ q = er) := fun z9 a9 b9 => pno_o h1 h2 h5 h5e z9 a9 b9
  have pno2 : ∀ {q n : Nat} {f : Int → Int}, w q = some (aY X n f) → ¬ (q = h ∨ q = st ∨ q = lr ∨ q = er) := fun z9 => pno_y hXY h1 h2 h5 h5e z9
  have pno4 : ¬ (lc = h ∨ lc = st ∨ lc = lr ∨ lc = er) := by obtain ⟨z1, z2, z3, z4, z5, z6, z7, z8, z9, z10⟩ := id hNE; exact fun e9 => e9.elim (fun e8 => z3 e8.symm) (fun e8 => e8.elim z7 (fun e7 => e7.elim z10 z8))
  have pno5 : ∀ {n : Nat} {g9 : Nat → Option Nat}, 1 ≤ kc → w ec = some (aR X 5 n g9) → ¬ (ec = h ∨ ec = st ∨ ec = lr ∨ ec = er) := fun k9 z9 => pno_r h1 h2 h5 (hene0 k9) z9
  have pnor : ∀ r, 0 ≤ r → r < nrS σ → ¬ (rwa r = h ∨ rwa r = st ∨ rwa r = lr ∨ rwa r = er) := fun r r0 r1 => fun e9 => e9.elim (hrw9 r r0 r1).2.2.1 (fun e8 => e8.elim (hrs r r0 r1) (fun e7 => e7.elim (hrw9 r r0 r1).1 (hrw9 r r0 r1).2.1))
  have hlcw0 := hLcw
  have pno5x : 1 ≤ kc → ¬ (ec = h ∨ ec = st ∨ ec = lr ∨ ec = er) := fun k9 => by obtain ⟨-, gc9, z9, -⟩ := hLcw; exact z9.elim (fun z8 => absurd z8.2 (by omega)) (fun z8 => pno5 k9 (wr_some.mp z8.1).2)
  by_cases hop : σ 4 < σ 1
  · refine h_iconst F dL_acts_358 ?_
    refine lv_istore (lv' := [(5, .int (iI 0)), (0, .ref y), (1, .ref h), (2, .ref gq), (3, .ref aq), (4, .int (iI (bz (decide (σ 4 < σ 1)))))]) F.1 F.2.1 dL_acts_359 hl (by decide) rfl (fun ls hl => ?_)
    refine h_iconst F dL_acts_361 ?_
    refine lv_istore (lv' := [(6, .int (iI 0)), (5, .int (iI 0)), (0, .ref y), (1, .ref h), (2, .ref gq), (3, .ref aq), (4, .int (iI (bz (decide (σ 4 < σ 1)))))]) F.1 F.2.1 dL_acts_362 hl (by decide) rfl (fun ls hl => ?_)
    have loop364 : ∀ (n9 : Nat) (cz : Int), (hrg : 0 ≤ cz ∧ cz ≤ σ 0) → (hms : σ 0 - cz < (n9 : Int)) → (H : Heap) → (locs : List Loc) → (ls : Array Slot) → Wd X w s H → va_S (cxA X) s.heap H locs → lv_has ls 14 [(5, .int (iI (cnt (emB σ) 0 cz))), (6, .int (iI cz)), (0, .ref y), (1, .ref h), (2, .ref gq), (3, .ref aq), (4, .int (iI (bz (decide (σ 4 < σ 1)))))] → W p l e (rmG 11 1500 6000 260) s m (List.toArray [.ref y, .ref h, .ref gq, .ref aq]) below meth c H locs (kc0) (ks0) (MX X below (List.toArray [.ref y, .ref h, .ref gq, .ref aq]) s 1500 6000 (some (.int (iI (bz true)))) (fun w' => ∃ σ2 af2 : Int → Int, LwS X w' N y h gq aq σ2 af2 ∧ (0 ≤ af2 8 ∧ af2 8 ≤ af 8 + 1000))) (F0 m 364 ls []) := by
      intro n9
      induction n9 with
      | zero => intro cz  hrg hms; exfalso; omega
      | succ n9 ih364 =>
        intro cz  hrg hms   H locs ls hW hS hl
        have hAp : ownA X w h σ := hO0.1.ex (fun q e h9 => by have hN9 := (wr_some.mp h9).1; have h9 := (wr_some.mp h9).2; have hqg : q ≠ gq := fun e9 => hN9 (e9 ▸ hNN.2.1); have hqa : q ≠ aq := fun e9 => hN9 (e9 ▸ hNN.2.2); have hqy : outY y q := outY.nN hNy hN9; skip; exact h9)
        refine lv_iload F.1 F.2.1 dL_acts_364 (lv_at hl 1 rfl) ?_
        refine lv_aload_n F.1 F.2.1 dL_acts_366 rfl (lv_at hl 3 rfl) ?_
        refine gf_RL_60 F hW h1 rfl dL_acts_367 ?_
        refine h_icge (tgt := 407) F dL_acts_370 (by decide) (by omega) (fun c1 => ?_) (fun c1 => ?_)
        · have hcz : cz = σ 0 := by omega
          have hemp := emp_eq2 hop (by omega)
          have hs60 := h2f 0 (by decide) (by decide)
          have hst9 := hWF.2.1 0 (by decide) (by decide)
          rw [← hcz] at hemp
          have hemr := cnt_r (emB σ) (lo := 0) (hi := cz) (by omega)
          refine lv_iload F.1 F.2.1 dL_acts_407 (lv_at hl 6 rfl) ?_
          refine h_ifneb (tgt := 416) F dL_acts_409 (by decide) (fun _ => ?_) (fun c9 => by rw [decide_eq_true hop] at c9; cases c9)
          refine lv_aload_n F.1 F.2.1 dL_acts_416 rfl (lv_at hl 3 rfl) ?_
          refine gf_RL_145 F hW h1 rfl dL_acts_417 ?_
          refine h_iconst F dL_acts_420 ?_
          refine h_iald F hW h2 (by omega) (by omega) dL_acts_421 ?_
          refine h_top (show (fs 0 : Int) = σ (6 + 0) from hs60) ?_
          refine lv_iload F.1 F.2.1 dL_acts_422 (lv_at hl 0 rfl) ?_
          refine h_icge (tgt := 432) F dL_acts_424 (by decide) (by omega) (fun c2 => ?_) (fun c2 => ?_)
          · refine h_iconst F dL_acts_432 ?_
            refine lv_istore (lv' := [(6, .int (iI 0)), (5, .int (iI (cnt (emB σ) 0 cz))), (0, .ref y), (1, .ref h), (2, .ref gq), (3, .ref aq), (4, .int (iI (bz (decide (σ 4 < σ 1)))))]) F.1 F.2.1 dL_acts_433 hl (by decide) rfl (fun ls hl => ?_)
            refine lv_iload F.1 F.2.1 dL_acts_435 (lv_at hl 0 rfl) ?_
            refine h_ifge (tgt := 451) F dL_acts_437 (by decide) (by decide) (fun _ => ?_) (fun c9 => absurd c9 (by decide))
            have h66 : σ (6 + 0) = σ 6 := rfl
            have hemz : cnt (emB σ) 0 (σ 0) = cnt (emB σ) 0 cz := by rw [hcz]
            refine lv_aload_n F.1 F.2.1 dL_acts_451 rfl (lv_at hl 3 rfl) ?_
            have hAp : ownA X w h σ := hO0.1.ex (fun q e h9 => by have hN9 := (wr_some.mp h9).1; have h9 := (wr_some.mp h9).2; have hqg : q ≠ gq := fun e9 => hN9 (e9 ▸ hNN.2.1); have hqa : q ≠ aq := fun e9 => hN9 (e9 ▸ hNN.2.2); have hqy : outY y q := outY.nN hNy hN9; skip; exact h9)
            have hnr1 : nrS σ = σ 4 + 1 := by unfold nrS; rw [if_pos hop]
            refine cl_RL_186 (As := []) (rest := []) F hl (c_X10_rows l X w h σ hAp) hW hS h1 rfl rfl ⟨Nat.le_of_ble_eq_true rfl, Nat.le_of_ble_eq_true rfl⟩ (Nat.le_of_ble_eq_true rfl) ⟨(by show kc0 + 0 ≤ 1500; omega), (by show ks0 + 0 ≤ 6000; omega)⟩ dL_acts_452 (fun w1 H locs hp4 hW hS => ?_)
            rw [hp4] at hW; clear hp4; clear w1
            refine lv_istore (lv' := [(7, .int (iI (σ 4))), (6, .int (iI 0)), (5, .int (iI (cnt (emB σ) 0 cz))), (0, .ref y), (1, .ref h), (2, .ref gq), (3, .ref aq), (4, .int (iI (bz (decide (σ 4 < σ 1)))))]) F.1 F.2.1 dL_acts_455 hl (by decide) rfl (fun ls hl => ?_)
            obtain ⟨fr, hfr1, hfr2⟩ := hclw.1 (σ 4) (by omega) (by omega)
            have hrw8 := hrw9 (σ 4) (by omega) (by omega)
            have hrwl := hrw8.1
            have hrwe := hrw8.2.1
            have hrwh := hrw8.2.2.1
            have hrws := hrs (σ 4) (by omega) (by omega)
            have hrwg : rwa (σ 4) ≠ gq := fun e9 => hrw8.2.2.2 (e9 ▸ hNN.2.1)
            have hrwq : rwa (σ 4) ≠ aq := fun e9 => hrw8.2.2.2 (e9 ▸ hNN.2.2)
            have hrwN := hrw8.2.2.2
            have hrwn : w (rwa (σ 4)) = some (aZ X (σ 0).toNat fr) := (show ∀ (q : Nat) (e : va_E), wr w N q = some e → q ≠ lr → q ≠ er → q ≠ h → w q = some e from fun q e h9 hq1 hq2 hq3 => by have hN9 := (wr_some.mp h9).1; have h9 := (wr_some.mp h9).2; have hqg : q ≠ gq := fun e9 => hN9 (e9 ▸ hNN.2.1); have hqa : q ≠ aq := fun e9 => hN9 (e9 ▸ hNN.2.2); have hqy : outY y q := outY.nN hNy hN9; skip; exact h9) _ _ hfr1 hrwl hrwe hrwh
            skip
            refine h_iconst F dL_acts_457 ?_
            refine lv_istore (lv' := [(8, .int (iI 0)), (7, .int (iI (σ 4))), (6, .int (iI 0)), (5, .int (iI (cnt (emB σ) 0 cz))), (0, .ref y), (1, .ref h), (2, .ref gq), (3, .ref aq), (4, .int (iI (bz (decide (σ 4 < σ 1)))))]) F.1 F.2.1 dL_acts_458 hl (by decide) rfl (fun ls hl => ?_)
            have loop460 : ∀ (n9 : Nat) (k : Int) (fk : Int → Int), (hrg : 0 ≤ k ∧ k ≤ σ 0) → (hms : σ 0 - k < (n9 : Int)) → (w6 : Wo) → (hA460_0 : w6 (rwa (σ 4)) = some (aZ X ((σ 0).toNat) fk)) → (hF460 : ∀ q : Nat, q ≠ rwa (σ 4) → w6 q = w q) → (hfk : ∀ c9 : Int, 0 ≤ c9 → c9 < σ 0 → fk c9 = if σ 4 = σ 4 ∧ c9 < k ∧ cellS σ c9 (σ 4) = -1 then 0 else cellS σ c9 (σ 4)) → (H : Heap) → (locs : List Loc) → (ls : Array Slot) → Wd X w6 s H → va_S (cxA X) s.heap H locs → lv_has ls 14 [(8, .int (iI k)), (7, .int (iI (σ 4))), (6, .int (iI 0)), (5, .int (iI (cnt (emB σ) 0 cz))), (0, .ref y), (1, .ref h), (2, .ref gq), (3, .ref aq), (4, .int (iI (bz (decide (σ 4 < σ 1)))))] → W p l e (rmG 11 1500 6000 260) s m (List.toArray [.ref y, .ref h, .ref gq, .ref aq]) below meth c H locs (kc0 + 0) (ks0 + 0) (MX X below (List.toArray [.ref y, .ref h, .ref gq, .ref aq]) s 1500 6000 (some (.int (iI (bz true)))) (fun w' => ∃ σ2 af2 : Int → Int, LwS X w' N y h gq aq σ2 af2 ∧ (0 ≤ af2 8 ∧ af2 8 ≤ af 8 + 1000))) (F0 m 460 ls []) := by
              intro n9
              induction n9 with
              | zero => intro k fk  hrg hms; exfalso; omega
              | succ n9 ih460 =>
                intro k fk  hrg hms w6 hA460_0 hF460 hfk H locs ls hW hS hl
                have h1 := (hF460 _ (by first | assumption | (obtain ⟨y1, y2, y3, y4, y5⟩ := hQg; first | assumption | (apply Ne.symm; assumption)) | (obtain ⟨y1, y2, y3, y4, y5⟩ := hQa; first | assumption | (apply Ne.symm; assumption)) | (obtain ⟨z1, z2, z3, z4, z5, z6, z7, z8, z9, z10⟩ := hNE; first | assumption | (apply Ne.symm; assumption)) | (obtain ⟨y1, y2, y3, y4, y5⟩ := hq5; first | assumption | (apply Ne.symm; assumption)) | omega)).trans h1
                have h5 := (hF460 _ (by first | assumption | (obtain ⟨y1, y2, y3, y4, y5⟩ := hQg; first | assumption | (apply Ne.symm; assumption)) | (obtain ⟨y1, y2, y3, y4, y5⟩ := hQa; first | assumption | (apply Ne.symm; assumption)) | (obtain ⟨z1, z2, z3, z4, z5, z6, z7, z8, z9, z10⟩ := hNE; first | assumption | (apply Ne.symm; assumption)) | (obtain ⟨y1, y2, y3, y4, y5⟩ := hq5; first | assumption | (apply Ne.symm; assumption)) | omega)).trans h5
                have h5e := (hF460 _ (by first | assumption | (obtain ⟨y1, y2, y3, y4, y5⟩ := hQg; first | assumption | (apply Ne.symm; assumption)) | (obtain ⟨y1, y2, y3, y4, y5⟩ := hQa; first | assumption | (apply Ne.symm; assumption)) | (obtain ⟨z1, z2, z3, z4, z5, z6, z7, z8, z9, z10⟩ := hNE; first | assumption | (apply Ne.symm; assumption)) | (obtain ⟨y1, y2, y3, y4, y5⟩ := hq5; first | assumption | (apply Ne.symm; assumption)) | omega)).trans h5e
                have h2 := (hF460 _ (by first | assumption | (obtain ⟨y1, y2, y3, y4, y5⟩ := hQg; first | assumption | (apply Ne.symm; assumption)) | (obtain ⟨y1, y2, y3, y4, y5⟩ := hQa; first | assumption | (apply Ne.symm; assumption)) | (obtain ⟨z1, z2, z3, z4, z5, z6, z7, z8, z9, z10⟩ := hNE; first | assumption | (apply Ne.symm; assumption)) | (obtain ⟨y1, y2, y3, y4, y5⟩ := hq5; first | assumption | (apply Ne.symm; assumption)) | omega)).trans h2
                have hg9 := (hF460 _ (by first | assumption | (obtain ⟨y1, y2, y3, y4, y5⟩ := hQg; first | assumption | (apply Ne.symm; assumption)) | (obtain ⟨y1, y2, y3, y4, y5⟩ := hQa; first | assumption | (apply Ne.symm; assumption)) | (obtain ⟨z1, z2, z3, z4, z5, z6, z7, z8, z9, z10⟩ := hNE; first | assumption | (apply Ne.symm; assumption)) | (obtain ⟨y1, y2, y3, y4, y5⟩ := hq5; first | assumption | (apply Ne.symm; assumption)) | omega)).trans hg9
                have ha9 := (hF460 _ (by first | assumption | (obtain ⟨y1, y2, y3, y4, y5⟩ := hQg; first | assumption | (apply Ne.symm; assumption)) | (obtain ⟨y1, y2, y3, y4, y5⟩ := hQa; first | assumption | (apply Ne.symm; assumption)) | (obtain ⟨z1, z2, z3, z4, z5, z6, z7, z8, z9, z10⟩ := hNE; first | assumption | (apply Ne.symm; assumption)) | (obtain ⟨y1, y2, y3, y4, y5⟩ := hq5; first | assumption | (apply Ne.symm; assumption)) | omega)).trans ha9
                have hWk := beat_WF hWF hop (by omega) k.toNat (by omega)
                obtain ⟨τk, hτk⟩ : ∃ τk, τk = stkS (beatN σ (k).toNat) fs := ⟨_, rfl⟩
                have hWτk : WF τk := by rw [hτk]; exact stk_WF hWk (fun c9 c0 c1 => by rw [h2f c9 c0 c1]; exact hWF.2.1 c9 c0 c1)
                have hgm : ∀ (q : Nat) (e : va_E), wr w N q = some e → ¬ (q = st ∨ q = rwa (σ 4)) → wr w6 N q = some e := fun q e h9 hP9 => by have hN9 := (wr_some.mp h9).1; have h9 := (wr_some.mp h9).2; have hqg : q ≠ gq := fun e9 => hN9 (e9 ▸ hNN.2.1); have hqa : q ≠ aq := fun e9 => hN9 (e9 ▸ hNN.2.2); have hqy : outY y q := outY.nN hNy hN9; have hqr : q ≠ rwa (σ 4) := fun e8 => hP9 (Or.inr e8); have h9 := (hF460 q (by first | assumption | (obtain ⟨y1, y2, y3, y4, y5⟩ := hQg; first | assumption | (apply Ne.symm; assumption)) | (obtain ⟨y1, y2, y3, y4, y5⟩ := hQa; first | assumption | (apply Ne.symm; assumption)) | (obtain ⟨z1, z2, z3, z4, z5, z6, z7, z8, z9, z10⟩ := hNE; first | assumption | (apply Ne.symm; assumption)) | (obtain ⟨y1, y2, y3, y4, y5⟩ := hq5; first | assumption | (apply Ne.symm; assumption)) | omega)).trans h9; exact wr_some.mpr ⟨hN9, h9⟩
                have htk : ∀ p, p < 117 → (p < 6 ∨ 13 ≤ p) → τk p = σ p := fun p p0 p1 => by rw [hτk, stk_lo p1]; exact beat_lo (by omega) p0 (by omega) _
                have hck : ∀ c9 r, 0 ≤ c9 → c9 < σ 0 → 0 ≤ r → r < σ 1 → cellS τk c9 r = if r = σ 4 ∧ c9 < k ∧ cellS σ c9 r = -1 then 0 else cellS σ c9 r := fun c9 r c0 c1 r0 r1 => by rw [hτk, stk_ce c0 r0, beat_cell (by omega) ⟨r0, c0, by omega⟩ _ (by omega), show ((k.toNat : Nat) : Int) = k by omega]
                have hPk : ownP X (wr w6 N) h τk st lc ec kc lr er kr cd rwa := hPw0.sc (rn := σ 4) (fs2 := fs) (f9 := fk) hXY ⟨by omega, by omega⟩ hgm (wr_some.mpr ⟨h2n, h2⟩) (wr_some.mpr ⟨hrwN, hA460_0⟩) htk (fun c9 c0 c1 => by rw [hτk, stk_st ⟨c0, c1⟩]) (fun c9 r c0 c1 r0 r1 rn => by rw [hck c9 r c0 c1 r0 r1, if_neg (fun z9 => rn z9.1)]) (fun c9 c0 c1 => by rw [hck c9 (σ 4) c0 c1 (by omega) hop]; exact hfk c9 c0 c1) hWτk
                have hAk : ownA X w6 h τk := hPk.A.ex (wr_sub _ _)
                have htk0 := htk 0 (by decide) (by decide)
                have htk1 := htk 1 (by decide) (by decide)
                refine lv_iload F.1 F.2.1 dL_acts_460 (lv_at hl 0 rfl) ?_
                refine lv_aload_n F.1 F.2.1 dL_acts_462 rfl (lv_at hl 5 rfl) ?_
                refine gf_RL_60 F hW h1 rfl dL_acts_463 ?_
                refine h_icge (tgt := 504) F dL_acts_466 (by decide) (by omega) (fun c5 => ?_) (fun c5 => ?_)
                · have hk0 : k = σ 0 := by omega
                  have hs60b := h2f 0 (by decide) (by decide)
                  refine lv_aload_n F.1 F.2.1 dL_acts_504 rfl (lv_at hl 5 rfl) ?_
                  refine gf_RL_145 F hW h1 rfl dL_acts_505 ?_
                  refine h_iconst F dL_acts_508 ?_
                  refine lv_dup2_11 F.1 F.2.1 dL_acts_509 rfl rfl ?_
                  refine h_iald F hW h2 (by omega) (by omega) dL_acts_510 ?_
                  refine h_top (show (fs 0 : Int) = σ (6 + 0) from hs60b) ?_
                  refine lv_iload F.1 F.2.1 dL_acts_511 (lv_at hl 3 rfl) ?_
                  refine h_isub (a := σ (6 + 0)) (b := cnt (emB σ) 0 cz) F dL_acts_513 ?_
                  refine h_iast F hW hS h2 (by omega) (by omega) dL_acts_514 (fun w6 H locs ho8 hn7 hW hS => ?_)
                  have h1 := (hn7 _ (by first | assumption | (obtain ⟨y1, y2, y3, y4, y5⟩ := hQg; first | assumption | (apply Ne.symm; assumption)) | (obtain ⟨y1, y2, y3, y4, y5⟩ := hQa; first | assumption | (apply Ne.symm; assumption)) | (obtain ⟨z1, z2, z3, z4, z5, z6, z7, z8, z9, z10⟩ := hNE; first | assumption | (apply Ne.symm; assumption)) | (obtain ⟨y1, y2, y3, y4, y5⟩ := hq5; first | assumption | (apply Ne.symm; assumption)) | omega)).trans h1
                  have h5 := (hn7 _ (by first | assumption | (obtain ⟨y1, y2, y3, y4, y5⟩ := hQg; first | assumption | (apply Ne.symm; assumption)) | (obtain ⟨y1, y2, y3, y4, y5⟩ := hQa; first | assumption | (apply Ne.symm; assumption)) | (obtain ⟨z1, z2, z3, z4, z5, z6, z7, z8, z9, z10⟩ := hNE; first | assumption | (apply Ne.symm; assumption)) | (obtain ⟨y1, y2, y3, y4, y5⟩ := hq5; first | assumption | (apply Ne.symm; assumption)) | omega)).trans h5
                  have h5e := (hn7 _ (by first | assumption | (obtain ⟨y1, y2, y3, y4, y5⟩ := hQg; first | assumption | (apply Ne.symm; assumption)) | (obtain ⟨y1, y2, y3, y4, y5⟩ := hQa; first | assumption | (apply Ne.symm; assumption)) | (obtain ⟨z1, z2, z3, z4, z5, z6, z7, z8, z9, z10⟩ := hNE; first | assumption | (apply Ne.symm; assumption)) | (obtain ⟨y1, y2, y3, y4, y5⟩ := hq5; first | assumption | (apply Ne.symm; assumption)) | omega)).trans h5e
                  have hg9 := (hn7 _ (by first | assumption | (obtain ⟨y1, y2, y3, y4, y5⟩ := hQg; first | assumption | (apply Ne.symm; assumption)) | (obtain ⟨y1, y2, y3, y4, y5⟩ := hQa; first | assumption | (apply Ne.symm; assumption)) | (obtain ⟨z1, z2, z3, z4, z5, z6, z7, z8, z9, z10⟩ := hNE; first | assumption | (apply Ne.symm; assumption)) | (obtain ⟨y1, y2, y3, y4, y5⟩ := hq5; first | assumption | (apply Ne.symm; assumption)) | omega)).trans hg9
                  have ha9 := (hn7 _ (by first | assumption | (obtain ⟨y1, y2, y3, y4, y5⟩ := hQg; first | assumption | (apply Ne.symm; assumption)) | (obtain ⟨y1, y2, y3, y4, y5⟩ := hQa; first | assumption | (apply Ne.symm; assumption)) | (obtain ⟨z1, z2, z3, z4, z5, z6, z7, z8, z9, z10⟩ := hNE; first | assumption | (apply Ne.symm; assumption)) | (obtain ⟨y1, y2, y3, y4, y5⟩ := hq5; first | assumption | (apply Ne.symm; assumption)) | omega)).trans ha9
                  have hA460_0 := (hn7 _ (by first | assumption | (obtain ⟨y1, y2, y3, y4, y5⟩ := hQg; first | assumption | (apply Ne.symm; assumption)) | (obtain ⟨y1, y2, y3, y4, y5⟩ := hQa; first | assumption | (apply Ne.symm; assumption)) | (obtain ⟨z1, z2, z3, z4, z5, z6, z7, z8, z9, z10⟩ := hNE; first | assumption | (apply Ne.symm; assumption)) | (obtain ⟨y1, y2, y3, y4, y5⟩ := hq5; first | assumption | (apply Ne.symm; assumption)) | omega)).trans hA460_0
                  obtain ⟨τ, hτ⟩ : ∃ τ, τ = beatN σ (σ 0).toNat := ⟨_, rfl⟩
                  have hWτ : WF τ := by rw [hτ]; exact beat_WF hWF hop (by omega) _ (by omega)
                  have hgm : ∀ (q : Nat) (e : va_E), wr w N q = some e → ¬ (q = st ∨ q = rwa (σ 4)) → wr w6 N q = some e := fun q e h9 hP9 => by have hN9 := (wr_some.mp h9).1; have h9 := (wr_some.mp h9).2; have hqg : q ≠ gq := fun e9 => hN9 (e9 ▸ hNN.2.1); have hqa : q ≠ aq := fun e9 => hN9 (e9 ▸ hNN.2.2); have hqy : outY y q := outY.nN hNy hN9; have hqr : q ≠ rwa (σ 4) := fun e8 => hP9 (Or.inr e8); have h9 := (hF460 q (by first | assumption | (obtain ⟨y1, y2, y3, y4, y5⟩ := hQg; first | assumption | (apply Ne.symm; assumption)) | (obtain ⟨y1, y2, y3, y4, y5⟩ := hQa; first | assumption | (apply Ne.symm; assumption)) | (obtain ⟨z1, z2, z3, z4, z5, z6, z7, z8, z9, z10⟩ := hNE; first | assumption | (apply Ne.symm; assumption)) | (obtain ⟨y1, y2, y3, y4, y5⟩ := hq5; first | assumption | (apply Ne.symm; assumption)) | omega)).trans h9; have h9 := (hn7 q (by first | assumption | (obtain ⟨y1, y2, y3, y4, y5⟩ := hQg; first | assumption | (apply Ne.symm; assumption)) | (obtain ⟨y1, y2, y3, y4, y5⟩ := hQa; first | assumption | (apply Ne.symm; assumption)) | (obtain ⟨z1, z2, z3, z4, z5, z6, z7, z8, z9, z10⟩ := hNE; first | assumption | (apply Ne.symm; assumption)) | (obtain ⟨y1, y2, y3, y4, y5⟩ := hq5; first | assumption | (apply Ne.symm; assumption)) | omega)).trans h9; exact wr_some.mpr ⟨hN9, h9⟩
                  have htl : ∀ p, p < 117 → p ≠ 6 → τ p = σ p := fun p p0 p1 => by rw [hτ]; exact beat_lo (by omega) p0 p1 _
                  have ht6 : τ (6 + 0) = σ (6 + 0) - cnt (emB σ) 0 cz := by rw [hτ]; show beatN σ _ 6 = _; rw [beat_st (by omega) _ (by omega), show (((σ 0).toNat : Nat) : Int) = cz by omega]; rfl
                  have htc : ∀ c9 r, 0 ≤ c9 → c9 < σ 0 → 0 ≤ r → r < σ 1 → cellS τ c9 r = if r = σ 4 ∧ c9 < σ 0 ∧ cellS σ c9 r = -1 then 0 else cellS σ c9 r := fun c9 r c0 c1 r0 r1 => by rw [hτ, beat_cell (by omega) ⟨r0, c0, by omega⟩ _ (by omega), show (((σ 0).toNat : Nat) : Int) = σ 0 by omega]
                  have hPt : ownP X (wr w6 N) h τ st lc ec kc lr er kr cd rwa := hPw0.sc (rn := σ 4) (fs2 := up fs 0 ((σ (6 + 0)) - (cnt (emB σ) 0 cz))) (f9 := fk) hXY ⟨by omega, by omega⟩ hgm (wr_some.mpr ⟨h2n, ho8⟩) (wr_some.mpr ⟨hrwN, hA460_0⟩) (fun p p0 p1 => htl p p0 (by omega)) (fun c9 c0 c1 => if hj : c9 = 0 then (by rw [hj, up_s]; exact ht6.symm) else (by rw [up_n hj, htl (6 + c9) (by omega) (by omega)]; exact h2f c9 c0 c1)) (fun c9 r c0 c1 r0 r1 rn => by rw [htc c9 r c0 c1 r0 r1, if_neg (fun z9 => rn z9.1)]) (fun c9 c0 c1 => by rw [hfk c9 c0 c1, htc c9 (σ 4) c0 c1 (by omega) hop, hk0]) hWτ
                  have hmN : ∀ (q : Nat) (e : va_E), w q = some e → N q → q ≠ gq → w6 q = some e := fun q e h9 h09 h19 => by have hq5 := hQ5 q h09; have hqr9 : q ≠ rwa (σ 4) := fun e9 => hrwN (e9 ▸ h09); have hqe9 : q ≠ ec := fun e9 => hNl.2 (e9 ▸ h09); have hqe8 : q ≠ ec ∨ kc = 0 := Or.inl hqe9; have h9 := (hF460 q (by first | assumption | (obtain ⟨y1, y2, y3, y4, y5⟩ := hQg; first | assumption | (apply Ne.symm; assumption)) | (obtain ⟨y1, y2, y3, y4, y5⟩ := hQa; first | assumption | (apply Ne.symm; assumption)) | (obtain ⟨z1, z2, z3, z4, z5, z6, z7, z8, z9, z10⟩ := hNE; first | assumption | (apply Ne.symm; assumption)) | (obtain ⟨y1, y2, y3, y4, y5⟩ := hq5; first | assumption | (apply Ne.symm; assumption)) | omega)).trans h9; have h9 := (hn7 q (by first | assumption | (obtain ⟨y1, y2, y3, y4, y5⟩ := hQg; first | assumption | (apply Ne.symm; assumption)) | (obtain ⟨y1, y2, y3, y4, y5⟩ := hQa; first | assumption | (apply Ne.symm; assumption)) | (obtain ⟨z1, z2, z3, z4, z5, z6, z7, z8, z9, z10⟩ := hNE; first | assumption | (apply Ne.symm; assumption)) | (obtain ⟨y1, y2, y3, y4, y5⟩ := hq5; first | assumption | (apply Ne.symm; assumption)) | omega)).trans h9; exact h9
                  have hOn : ownN X w6 N h τ := hO0.of hPt.A hmN (kn_e hg9)
                  have hKn : KS X w6 y σ nx sz pas ac := hK.ex (fun q e q0 q1 h9 => by have hqg := hog.ne q0 q1; have hqa := hoa.ne q0 q1; have hq5 := hQ5 q (hNy q q0 q1); have hqr9 : q ≠ rwa (σ 4) := fun e9 => hrwN (e9 ▸ hNy q q0 q1); have hqe9 : q ≠ ec := fun e9 => hNl.2 (e9 ▸ hNy q q0 q1); have hqe8 : q ≠ ec ∨ kc = 0 := Or.inl hqe9; have h9 := (hF460 q (by first | assumption | (obtain ⟨y1, y2, y3, y4, y5⟩ := hQg; first | assumption | (apply Ne.symm; assumption)) | (obtain ⟨y1, y2, y3, y4, y5⟩ := hQa; first | assumption | (apply Ne.symm; assumption)) | (obtain ⟨z1, z2, z3, z4, z5, z6, z7, z8, z9, z10⟩ := hNE; first | assumption | (apply Ne.symm; assumption)) | (obtain ⟨y1, y2, y3, y4, y5⟩ := hq5; first | assumption | (apply Ne.symm; assumption)) | omega)).trans h9; have h9 := (hn7 q (by first | assumption | (obtain ⟨y1, y2, y3, y4, y5⟩ := hQg; first | assumption | (apply Ne.symm; assumption)) | (obtain ⟨y1, y2, y3, y4, y5⟩ := hQa; first | assumption | (apply Ne.symm; assumption)) | (obtain ⟨z1, z2, z3, z4, z5, z6, z7, z8, z9, z10⟩ := hNE; first | assumption | (apply Ne.symm; assumption)) | (obtain ⟨y1, y2, y3, y4, y5⟩ := hq5; first | assumption | (apply Ne.symm; assumption)) | omega)).trans h9; exact h9)
                  skip
                  obtain ⟨su9, tx9, M9, oo9, rv9, hC9⟩ := id hKn
                  have hYc := hC9.1
                  have ht0 := htl 0 (by decide) (by decide)
                  have ht1 := htl 1 (by decide) (by decide)
                  have ht4 := htl 4 (by decide) (by decide)
                  have hfu : ∀ c9, 0 ≤ c9 → c9 < τ 0 → 0 ≤ cellS τ c9 (τ 4) := fun c9 c0 c1 => by rw [ht4, htc c9 (σ 4) c0 (by omega) (by omega) hop]; have hce := hWF.2.2.2.1 c9 (σ 4) c0 (by omega) (by omega) hop; split <;> omega
                  have hjr := jcS_r hWτ.1 (σ 4)
                  have hmn : mnS τ (σ 4) = (σ 0 + 7 * jcS τ (σ 4)) / 4 := by unfold mnS; rw [jo_jc (by rw [← ht4]; exact hfu), ht0]; exact min_e (by omega) hjr
                  have hAt := hOn.A
                  refine lv_aload_n F.1 F.2.1 dL_acts_515 rfl (lv_at hl 7 rfl) ?_
                  refine h_bipush F dL_acts_516 rfl ?_
                  refine lv_dup2_11 F.1 F.2.1 dL_acts_518 rfl rfl ?_
                  refine h_iald F hW ha9 (by omega) (by omega) dL_acts_519 ?_
                  refine lv_aload_n F.1 F.2.1 dL_acts_520 rfl (lv_at hl 5 rfl) ?_
                  refine lv_iload F.1 F.2.1 dL_acts_521 (lv_at hl 1 rfl) ?_
                  refine cl_RL_319 (As := [.ref h, .int (iI (σ 4))]) (rest := [.int (iI (af 8)), .int (iI 8), .ref aq]) F hl (c_L_minutes l X w6 h τ (σ 4) hAt (by omega)) hW hS rfl rfl ⟨Nat.le_of_ble_eq_true rfl, Nat.le_of_ble_eq_true rfl⟩ (Nat.le_of_ble_eq_true rfl) ⟨(by show kc0 + 0 + 0 ≤ 1500; omega), (by show ks0 + 0 + 0 ≤ 6000; omega)⟩ dL_acts_523 (fun w1 H locs hp9 hW hS => ?_)
                  rw [hp9] at hW; clear hp9; clear w1
                  refine h_top (show ((τ 0 + 7 * jcS τ (σ 4)) / 4 : Int) = (σ 0 + 7 * jcS τ (σ 4)) / 4 from by rw [ht0]) ?_
                  refine h_iadd (a := af 8) (b := (σ 0 + 7 * jcS τ (σ 4)) / 4) F dL_acts_526 ?_
                  refine h_iast F hW hS ha9 (by omega) (by omega) dL_acts_527 (fun w10 H locs ho12 hn11 hW hS => ?_)
                  have h1 := (hn11 _ (by first | assumption | (obtain ⟨y1, y2, y3, y4, y5⟩ := hQg; first | assumption | (apply Ne.symm; assumption)) | (obtain ⟨y1, y2, y3, y4, y5⟩ := hQa; first | assumption | (apply Ne.symm; assumption)) | (obtain ⟨z1, z2, z3, z4, z5, z6, z7, z8, z9, z10⟩ := hNE; first | assumption | (apply Ne.symm; assumption)) | (obtain ⟨y1, y2, y3, y4, y5⟩ := hq5; first | assumption | (apply Ne.symm; assumption)) | omega)).trans h1
                  have h5 := (hn11 _ (by first | assumption | (obtain ⟨y1, y2, y3, y4, y5⟩ := hQg; first | assumption | (apply Ne.symm; assumption)) | (obtain ⟨y1, y2, y3, y4, y5⟩ := hQa; first | assumption | (apply Ne.symm; assumption)) | (obtain ⟨z1, z2, z3, z4, z5, z6, z7, z8, z9, z10⟩ := hNE; first | assumption | (apply Ne.symm; assumption)) | (obtain ⟨y1, y2, y3, y4, y5⟩ := hq5; first | assumption | (apply Ne.symm; assumption)) | omega)).trans h5
                  have h5e := (hn11 _ (by first | assumption | (obtain ⟨y1, y2, y3, y4, y5⟩ := hQg; first | assumption | (apply Ne.symm; assumption)) | (obtain ⟨y1, y2, y3, y4, y5⟩ := hQa; first | assumption | (apply Ne.symm; assumption)) | (obtain ⟨z1, z2, z3, z4, z5, z6, z7, z8, z9, z10⟩ := hNE; first | assumption | (apply Ne.symm; assumption)) | (obtain ⟨y1, y2, y3, y4, y5⟩ := hq5; first | assumption | (apply Ne.symm; assumption)) | omega)).trans h5e
                  have ho8 := (hn11 _ (by first | assumption | (obtain ⟨y1, y2, y3, y4, y5⟩ := hQg; first | assumption | (apply Ne.symm; assumption)) | (obtain ⟨y1, y2, y3, y4, y5⟩ := hQa; first | assumption | (apply Ne.symm; assumption)) | (obtain ⟨z1, z2, z3, z4, z5, z6, z7, z8, z9, z10⟩ := hNE; first | assumption | (apply Ne.symm; assumption)) | (obtain ⟨y1, y2, y3, y4, y5⟩ := hq5; first | assumption | (apply Ne.symm; assumption)) | omega)).trans ho8
                  have hg9 := (hn11 _ (by first | assumption | (obtain ⟨y1, y2, y3, y4, y5⟩ := hQg; first | assumption | (apply Ne.symm; assumption)) | (obtain ⟨y1, y2, y3, y4, y5⟩ := hQa; first | assumption | (apply Ne.symm; assumption)) | (obtain ⟨z1, z2, z3, z4, z5, z6, z7, z8, z9, z10⟩ := hNE; first | assumption | (apply Ne.symm; assumption)) | (obtain ⟨y1, y2, y3, y4, y5⟩ := hq5; first | assumption | (apply Ne.symm; assumption)) | omega)).trans hg9
                  have hA460_0 := (hn11 _ (by first | assumption | (obtain ⟨y1, y2, y3, y4, y5⟩ := hQg; first | assumption | (apply Ne.symm; assumption)) | (obtain ⟨y1, y2, y3, y4, y5⟩ := hQa; first | assumption | (apply Ne.symm; assumption)) | (obtain ⟨z1, z2, z3, z4, z5, z6, z7, z8, z9, z10⟩ := hNE; first | assumption | (apply Ne.symm; assumption)) | (obtain ⟨y1, y2, y3, y4, y5⟩ := hq5; first | assumption | (apply Ne.symm; assumption)) | omega)).trans hA460_0
                  refine lv_aload_n F.1 F.2.1 dL_acts_528 rfl (lv_at hl 5 rfl) ?_
                  have hNg := hNN.2.1
                  have hNa := hNN.2.2
                  have hOf : ownN X w10 N h τ := hOn.cl hNN (fun q e h9 hc1 hc2 hc3 => (hn11 q hc2).trans h9) hg9 ho12 (KS.kn (hKn.ex (fun q e q0 q1 h9 => (hn11 q (hoa.ne q0 q1)).trans h9)))
                  refine cl_RL_322 (As := []) (rest := []) F hl (c_X10_finishes l X w10 h N τ hOf (by omega) hfu) hW hS h1 rfl rfl ⟨Nat.le_of_ble_eq_true rfl, Nat.le_of_ble_eq_true rfl⟩ (Nat.le_of_ble_eq_true rfl) ⟨(by show kc0 + 0 + 0 + 2 ≤ 1500; omega), (by show ks0 + 0 + 0 + 40 ≤ 6000; omega)⟩ dL_acts_529 (fun w13 H locs hp14 hW hS => ?_)
                  obtain ⟨hOg, hx15⟩ := hp14
                  have hg9 := hx15 _ _ hg9 (by assumption)
                  have ho12 := hx15 _ _ ho12 (by assumption)
                  obtain ⟨τ2, hτ2⟩ : ∃ τ2, τ2 = btS σ := ⟨_, rfl⟩
                  have ht2e : up τ 4 (τ 4 + 1) = τ2 := by rw [hτ2, ht4, hτ]; rfl
                  rw [ht2e] at hOg
                  have ht21 : τ2 1 = σ 1 := by rw [← ht2e, up_n (by decide)]; exact ht1
                  have hW2 := hOg.wf
                  have hmr2 := misRow_r hW2 (σ 4)
                  obtain ⟨fh, hh9⟩ := hOg.rc
                  have hKn : KS X w13 y σ nx sz pas ac := hKn.ex (fun q e q0 q1 h9 => by have hqa := hoa.ne q0 q1; have hNq := hNy q q0 q1; have h9 := (hn11 q (by first | assumption | (obtain ⟨y1, y2, y3, y4, y5⟩ := hQg; first | assumption | (apply Ne.symm; assumption)) | (obtain ⟨y1, y2, y3, y4, y5⟩ := hQa; first | assumption | (apply Ne.symm; assumption)) | (obtain ⟨z1, z2, z3, z4, z5, z6, z7, z8, z9, z10⟩ := hNE; first | assumption | (apply Ne.symm; assumption)) | (obtain ⟨y1, y2, y3, y4, y5⟩ := hq5; first | assumption | (apply Ne.symm; assumption)) | omega)).trans h9; have h9 := hx15 q e h9 (by assumption); exact h9)
                  obtain ⟨su9, tx9, M9, oo9, rv9, hC9⟩ := id hKn
                  have hYc := hC9.1
                  have hOn := hOg
                  skip
                  refine lv_aload_n F.1 F.2.1 dL_acts_532 rfl (lv_at hl 4 rfl) ?_
                  refine cl_RL_345 (As := []) (rest := []) F hl (k_beat l X w13 y σ nx sz pas ac hKn (by omega) (by omega)) hW hS hYc rfl rfl ⟨Nat.le_of_ble_eq_true rfl, Nat.le_of_ble_eq_true rfl⟩ (Nat.le_of_ble_eq_true rfl) ⟨(by show kc0 + 0 + 0 + 2 + 0 ≤ 1500; omega), (by show ks0 + 0 + 0 + 40 + 0 ≤ 6000; omega)⟩ dL_acts_533 (fun w16 H locs hp17 hW hS => ?_)
                  obtain ⟨hK2, hx18⟩ := hp17
                  have hg9 := hx18 _ _ hg9 (by assumption)
                  have ho12 := hx18 _ _ ho12 (by assumption)
                  skip
                  have hh9b := hx18 _ _ hh9 hoh
                  rw [← hτ2, ← hτ, hmn] at hK2
                  have hOr : ownN X w16 N h τ2 := hOn.cl hNN (fun q e h9 hc1 hc2 hc3 => by have h9 := hx18 q e h9 (by assumption); exact h9) hg9 ho12 hK2.kn
                  refine lv_aload_n F.1 F.2.1 dL_acts_536 rfl (lv_at hl 5 rfl) ?_
                  refine lv_iload F.1 F.2.1 dL_acts_537 (lv_at hl 1 rfl) ?_
                  refine cl_RL_212 (As := [.int (iI (σ 4))]) (rest := [.int (iI (misRow (btS σ) (σ 4)))]) F hl (c_X10_wrongs l X w16 h τ2 (σ 4) hOr.A (by omega)) hW hS hh9b rfl rfl ⟨Nat.le_of_ble_eq_true rfl, Nat.le_of_ble_eq_true rfl⟩ (Nat.le_of_ble_eq_true rfl) ⟨(by show kc0 + 0 + 0 + 2 + 0 + 19 ≤ 1500; omega), (by show ks0 + 0 + 0 + 40 + 0 + 76 ≤ 6000; omega)⟩ dL_acts_539 (fun w1 H locs hp19 hW hS => ?_)
                  rw [hp19] at hW; clear hp19; clear w1
                  refine h_top (show (misRow τ2 (σ 4) : Int) = misRow (btS σ) (σ 4) from by rw [hτ2]) ?_
                  refine lv_aload_n F.1 F.2.1 dL_acts_542 rfl (lv_at hl 7 rfl) ?_
                  rw [hτ2] at hmr2
                  refine cl_RL_329 (As := [.int (iI (misRow (btS σ) (σ 4))), .int (iI (misRow (btS σ) (σ 4))), .ref aq]) (rest := []) F hl (c_L_is l X w16 aq (up af 8 ((af 8) + ((σ 0 + 7 * jcS τ (σ 4)) / 4))) (misRow (btS σ) (σ 4)) (misRow (btS σ) (σ 4)) ho12 (by omega)) hW hS rfl rfl ⟨Nat.le_of_ble_eq_true rfl, Nat.le_of_ble_eq_true rfl⟩ (Nat.le_of_ble_eq_true rfl) ⟨(by show kc0 + 0 + 0 + 2 + 0 + 19 + 0 ≤ 1500; omega), (by show ks0 + 0 + 0 + 40 + 0 + 76 + 0 ≤ 6000; omega)⟩ dL_acts_543 (fun w20 H locs hp21 hW hS => ?_)
                  obtain ⟨ha22, hn23⟩ := hp21
                  have hg9 := (hn23 _ (by first | assumption | (obtain ⟨y1, y2, y3, y4, y5⟩ := hQg; first | assumption | (apply Ne.symm; assumption)) | (obtain ⟨y1, y2, y3, y4, y5⟩ := hQa; first | assumption | (apply Ne.symm; assumption)) | (obtain ⟨z1, z2, z3, z4, z5, z6, z7, z8, z9, z10⟩ := hNE; first | assumption | (apply Ne.symm; assumption)) | (obtain ⟨y1, y2, y3, y4, y5⟩ := hq5; first | assumption | (apply Ne.symm; assumption)) | omega)).trans hg9
                  refine W.wd (mc := 1500) (ms := 6000) (by omega) (by omega) ?_
                  have hK3 := hK2.ex (w2 := w20) (fun q e q0 q1 h9 => by have hqg := hog.ne q0 q1; have hqa := hoa.ne q0 q1; have h9 := (hn23 q (by first | assumption | (obtain ⟨y1, y2, y3, y4, y5⟩ := hQg; first | assumption | (apply Ne.symm; assumption)) | (obtain ⟨y1, y2, y3, y4, y5⟩ := hQa; first | assumption | (apply Ne.symm; assumption)) | (obtain ⟨z1, z2, z3, z4, z5, z6, z7, z8, z9, z10⟩ := hNE; first | assumption | (apply Ne.symm; assumption)) | (obtain ⟨y1, y2, y3, y4, y5⟩ := hq5; first | assumption | (apply Ne.symm; assumption)) | omega)).trans h9; exact h9)
                  obtain ⟨M9, hM9⟩ : ∃ M9 : Int, M9 = (σ 0 + 7 * jcS τ (σ 4)) / 4 := ⟨_, rfl⟩
                  rw [← hM9] at hK3
                  have ha9f := ha22
                  rw [← hM9, if_neg (by omega)] at ha9f
                  have hfin : LwS X w20 N y h gq aq τ2 _ := LwS.fin hOn hNN hout3 (fun q e h9 hc1 hc2 hc3 => by have h9 := hx18 q e h9 (by assumption); have h9 := (hn23 q (by first | assumption | (obtain ⟨y1, y2, y3, y4, y5⟩ := hQg; first | assumption | (apply Ne.symm; assumption)) | (obtain ⟨y1, y2, y3, y4, y5⟩ := hQa; first | assumption | (apply Ne.symm; assumption)) | (obtain ⟨z1, z2, z3, z4, z5, z6, z7, z8, z9, z10⟩ := hNE; first | assumption | (apply Ne.symm; assumption)) | (obtain ⟨y1, y2, y3, y4, y5⟩ := hq5; first | assumption | (apply Ne.symm; assumption)) | omega)).trans h9; exact h9) hg9 ha9f hK3 (ac_8 hacc)
                  have hb8 : 0 ≤ (up (up af 8 (af 8 + M9)) 0 (up af 8 (af 8 + M9) 0 + 1)) 8 ∧ (up (up af 8 (af 8 + M9)) 0 (up af 8 (af 8 + M9) 0 + 1)) 8 ≤ af 8 + 1000 := by rw [up_n (by decide), up_s]; omega
                  refine h_top (show (bz (decide ((misRow (btS σ) (σ 4)) = (misRow (btS σ) (σ 4)))) : Int) = bz true from congrArg bz (decide_eq_true rfl)) ?_
                  exact h_iretz F hr hlk hW hS ⟨_, _, hfin, hb8⟩ dL_acts_546
                · refine lv_aload_n F.1 F.2.1 dL_acts_469 rfl (lv_at hl 5 rfl) ?_
                  refine lv_iload F.1 F.2.1 dL_acts_470 (lv_at hl 0 rfl) ?_
                  have hce := hWF.2.2.2.1 k (σ 4) (by omega) (by omega) (by omega) (by omega)
                  refine lv_iload F.1 F.2.1 dL_acts_472 (lv_at hl 1 rfl) ?_
                  refine cl_RL_175 (As := [.int (iI k), .int (iI (σ 4))]) (rest := []) F hl (c_X10_at l X w6 h τk k (σ 4) hAk (by omega) (by omega)) hW hS h1 rfl rfl ⟨Nat.le_of_ble_eq_true rfl, Nat.le_of_ble_eq_true rfl⟩ (Nat.le_of_ble_eq_true rfl) ⟨(by show kc0 + 0 + 0 ≤ 1500; omega), (by show ks0 + 0 + 0 ≤ 6000; omega)⟩ dL_acts_474 (fun w1 H locs hp24 hW hS => ?_)
                  rw [hp24] at hW; clear hp24; clear w1
                  refine h_top (show (cellS τk k (σ 4) : Int) = cellS σ k (σ 4) from by rw [hck k (σ 4) (by omega) (by omega) (by omega) hop, if_neg (by omega)]) ?_
                  refine h_ifge (tgt := 498) F dL_acts_477 (by decide) (by omega) (fun c25 => ?_) (fun c25 => ?_)
                  · have hfk2 : ∀ c9 : Int, 0 ≤ c9 → c9 < σ 0 → (fk) c9 = if σ 4 = σ 4 ∧ c9 < k + 1 ∧ cellS σ c9 (σ 4) = -1 then 0 else cellS σ c9 (σ 4) := fun c9 c0 c1 => (if hj : c9 = k then (by rw [hfk c9 c0 c1, hj, if_neg (by omega), if_neg (by omega)]) else (by rw [hfk c9 c0 c1]; exact if_c2 (by omega)))
                    refine h_iinc (k := 0) (a := k) (lv' := [(8, .int (iI (k + 1))), (7, .int (iI (σ 4))), (6, .int (iI 0)), (5, .int (iI (cnt (emB σ) 0 cz))), (0, .ref y), (1, .ref h), (2, .ref gq), (3, .ref aq), (4, .int (iI (bz (decide (σ 4 < σ 1)))))]) F dL_acts_498 hl rfl (by decide) rfl (fun ls hl => ?_)
                    refine h_goto (tgt := 460) F dL_acts_501 (by decide) ?_
                    have eq26 : ((k + 1) : Int) = k + 1 := by first | rfl | omega | simp
                    exact ih460 (k + 1)  fk (by omega) (by omega) w6 hA460_0 (fun q h09 => by rw [hF460 q (by omega)]) hfk2 _ _ ls hW hS (by rw [eq26]; exact lv_sub hl [0, 1, 2, 3, 4, 5, 6, 7, 8] rfl)
                  · refine lv_aload_n F.1 F.2.1 dL_acts_480 rfl (lv_at hl 5 rfl) ?_
                    refine gf_RL_83 F hW h1 rfl dL_acts_481 ?_
                    refine lv_iload F.1 F.2.1 dL_acts_484 (lv_at hl 1 rfl) ?_
                    refine cl_RL_195 (As := [.int (iI (σ 4))]) (rest := []) F hl (c_Jx4a65c_get_915e3 l X w6 lr mr er (nrS σ) kr gr (σ 4) (rwa (σ 4)) h5 h5e (by omega) (h5d (σ 4) (by omega) (by omega))) hW hS h5 rfl rfl ⟨Nat.le_of_ble_eq_true rfl, Nat.le_of_ble_eq_true rfl⟩ (Nat.le_of_ble_eq_true rfl) ⟨(by show kc0 + 0 + 0 + 0 ≤ 1500; omega), (by show ks0 + 0 + 0 + 0 ≤ 6000; omega)⟩ dL_acts_486 (fun w1 H locs hp27 hW hS => ?_)
                    rw [hp27] at hW; clear hp27; clear w1
                    refine h_castI F hW hA460_0 kl_RL_325 dL_acts_491 ?_
                    refine lv_iload F.1 F.2.1 dL_acts_494 (lv_at hl 0 rfl) ?_
                    refine h_iconst F dL_acts_496 ?_
                    refine h_iast F hW hS hA460_0 (by omega) (by omega) dL_acts_497 (fun w28 H locs ho30 hn29 hW hS => ?_)
                    have h1 := (hn29 _ (by first | assumption | (obtain ⟨y1, y2, y3, y4, y5⟩ := hQg; first | assumption | (apply Ne.symm; assumption)) | (obtain ⟨y1, y2, y3, y4, y5⟩ := hQa; first | assumption | (apply Ne.symm; assumption)) | (obtain ⟨z1, z2, z3, z4, z5, z6, z7, z8, z9, z10⟩ := hNE; first | assumption | (apply Ne.symm; assumption)) | (obtain ⟨y1, y2, y3, y4, y5⟩ := hq5; first | assumption | (apply Ne.symm; assumption)) | omega)).trans h1
                    have h5 := (hn29 _ (by first | assumption | (obtain ⟨y1, y2, y3, y4, y5⟩ := hQg; first | assumption | (apply Ne.symm; assumption)) | (obtain ⟨y1, y2, y3, y4, y5⟩ := hQa; first | assumption | (apply Ne.symm; assumption)) | (obtain ⟨z1, z2, z3, z4, z5, z6, z7, z8, z9, z10⟩ := hNE; first | assumption | (apply Ne.symm; assumption)) | (obtain ⟨y1, y2, y3, y4, y5⟩ := hq5; first | assumption | (apply Ne.symm; assumption)) | omega)).trans h5
                    have h5e := (hn29 _ (by first | assumption | (obtain ⟨y1, y2, y3, y4, y5⟩ := hQg; first | assumption | (apply Ne.symm; assumption)) | (obtain ⟨y1, y2, y3, y4, y5⟩ := hQa; first | assumption | (apply Ne.symm; assumption)) | (obtain ⟨z1, z2, z3, z4, z5, z6, z7, z8, z9, z10⟩ := hNE; first | assumption | (apply Ne.symm; assumption)) | (obtain ⟨y1, y2, y3, y4, y5⟩ := hq5; first | assumption | (apply Ne.symm; assumption)) | omega)).trans h5e
                    have h2 := (hn29 _ (by first | assumption | (obtain ⟨y1, y2, y3, y4, y5⟩ := hQg; first | assumption | (apply Ne.symm; assumption)) | (obtain ⟨y1, y2, y3, y4, y5⟩ := hQa; first | assumption | (apply Ne.symm; assumption)) | (obtain ⟨z1, z2, z3, z4, z5, z6, z7, z8, z9, z10⟩ := hNE; first | assumption | (apply Ne.symm; assumption)) | (obtain ⟨y1, y2, y3, y4, y5⟩ := hq5; first | assumption | (apply Ne.symm; assumption)) | omega)).trans h2
                    have hg9 := (hn29 _ (by first | assumption | (obtain ⟨y1, y2, y3, y4, y5⟩ := hQg; first | assumption | (apply Ne.symm; assumption)) | (obtain ⟨y1, y2, y3, y4, y5⟩ := hQa; first | assumption | (apply Ne.symm; assumption)) | (obtain ⟨z1, z2, z3, z4, z5, z6, z7, z8, z9, z10⟩ := hNE; first | assumption | (apply Ne.symm; assumption)) | (obtain ⟨y1, y2, y3, y4, y5⟩ := hq5; first | assumption | (apply Ne.symm; assumption)) | omega)).trans hg9
                    have ha9 := (hn29 _ (by first | assumption | (obtain ⟨y1, y2, y3, y4, y5⟩ := hQg; first | assumption | (apply Ne.symm; assumption)) | (obtain ⟨y1, y2, y3, y4, y5⟩ := hQa; first | assumption | (apply Ne.symm; assumption)) | (obtain ⟨z1, z2, z3, z4, z5, z6, z7, z8, z9, z10⟩ := hNE; first | assumption | (apply Ne.symm; assumption)) | (obtain ⟨y1, y2, y3, y4, y5⟩ := hq5; first | assumption | (apply Ne.symm; assumption)) | omega)).trans ha9
                    have hfk2 : ∀ c9 : Int, 0 ≤ c9 → c9 < σ 0 → (up fk k 0) c9 = if σ 4 = σ 4 ∧ c9 < k + 1 ∧ cellS σ c9 (σ 4) = -1 then 0 else cellS σ c9 (σ 4) := fun c9 c0 c1 => (if hj : c9 = k then (by rw [hj, up_s, if_pos (by omega)]) else (by rw [up_n hj, hfk c9 c0 c1]; exact if_c2 (by omega)))
                    refine h_iinc (k := 0) (a := k) (lv' := [(8, .int (iI (k + 1))), (7, .int (iI (σ 4))), (6, .int (iI 0)), (5, .int (iI (cnt (emB σ) 0 cz))), (0, .ref y), (1, .ref h), (2, .ref gq), (3, .ref aq), (4, .int (iI (bz (decide (σ 4 < σ 1)))))]) F dL_acts_498 hl rfl (by decide) rfl (fun ls hl => ?_)
                    refine h_goto (tgt := 460) F dL_acts_501 (by decide) ?_
                    have eq31 : ((k + 1) : Int) = k + 1 := by first | rfl | omega | simp
                    exact ih460 (k + 1)  (up fk k 0) (by omega) (by omega) w28 ho30 (fun q h09 => by rw [hn29 q (by omega), hF460 q (by omega)]) hfk2 _ _ ls hW hS (by rw [eq31]; exact lv_sub hl [0, 1, 2, 3, 4, 5, 6, 7, 8] rfl)
            exact loop460 ((σ 0 - 0) + 1 : Int).toNat 0  fr (by omega) (by omega) w hrwn (fun q _ => rfl) (fun c9 c0 c1 => by rw [if_neg (by omega)]; exact hfr2 c9 c0 c1) _ _ ls hW hS (lv_sub hl [0, 1, 2, 3, 4, 5, 6, 7, 8] rfl)
          · refine h_bipush F dL_acts_427 rfl ?_
            refine h_goto (tgt := 433) F dL_acts_429 (by decide) ?_
            refine lv_istore (lv' := [(6, .int (iI (-2))), (5, .int (iI (cnt (emB σ) 0 cz))), (0, .ref y), (1, .ref h), (2, .ref gq), (3, .ref aq), (4, .int (iI (bz (decide (σ 4 < σ 1)))))]) F.1 F.2.1 dL_acts_433 hl (by decide) rfl (fun ls hl => ?_)
            refine lv_iload F.1 F.2.1 dL_acts_435 (lv_at hl 0 rfl) ?_
            refine h_ifge (tgt := 451) F dL_acts_437 (by decide) (by decide) (fun c9 => absurd c9 (by decide)) (fun _ => ?_)
            have h66 : σ (6 + 0) = σ 6 := rfl
            have hKn : KS X w y σ nx sz pas ac := hK.ex (fun q e q0 q1 h9 => by have hqg := hog.ne q0 q1; have hqa := hoa.ne q0 q1; have hq5 := hQ5 q (hNy q q0 q1); have hqe9 : q ≠ ec := fun e9 => hNl.2 (e9 ▸ hNy q q0 q1); have hqe8 : q ≠ ec ∨ kc = 0 := Or.inl hqe9; skip; exact h9)
            obtain ⟨su9, tx9, M9, oo9, rv9, hC9⟩ := id hKn
            have hYc := hC9.1
            have hOn := hO0
            refine lv_aload_n F.1 F.2.1 dL_acts_440 rfl (lv_at hl 2 rfl) ?_
            refine cl_RL_345 (As := []) (rest := []) F hl (k_beat_r2 l X w y σ nx sz pas ac hKn (by omega) (by omega)) hW hS hYc rfl rfl ⟨Nat.le_of_ble_eq_true rfl, Nat.le_of_ble_eq_true rfl⟩ (Nat.le_of_ble_eq_true rfl) ⟨(by show kc0 + 0 ≤ 1500; omega), (by show ks0 + 0 ≤ 6000; omega)⟩ dL_acts_441 (fun w33 H locs hp34 hW hS => ?_)
            obtain ⟨hK2, hx35⟩ := hp34
            have h1 := hx35 _ _ h1 (by assumption)
            have h2 := hx35 _ _ h2 (by assumption)
            have hg9 := hx35 _ _ hg9 (by assumption)
            have ha9 := hx35 _ _ ha9 (by assumption)
            skip
            refine lv_iload F.1 F.2.1 dL_acts_444 (lv_at hl 0 rfl) ?_
            refine lv_aload_n F.1 F.2.1 dL_acts_446 rfl (lv_at hl 5 rfl) ?_
            refine cl_RL_329 (As := [.int (iI (-2)), .int (iI (-2)), .ref aq]) (rest := []) F hl (c_L_is l X w33 aq af (-2) (-2) ha9 (by omega)) hW hS rfl rfl ⟨Nat.le_of_ble_eq_true rfl, Nat.le_of_ble_eq_true rfl⟩ (Nat.le_of_ble_eq_true rfl) ⟨(by show kc0 + 0 + 0 ≤ 1500; omega), (by show ks0 + 0 + 0 ≤ 6000; omega)⟩ dL_acts_447 (fun w36 H locs hp37 hW hS => ?_)
            obtain ⟨ha38, hn39⟩ := hp37
            have h1 := (hn39 _ (by first | assumption | (obtain ⟨y1, y2, y3, y4, y5⟩ := hQg; first | assumption | (apply Ne.symm; assumption)) | (obtain ⟨y1, y2, y3, y4, y5⟩ := hQa; first | assumption | (apply Ne.symm; assumption)) | (obtain ⟨z1, z2, z3, z4, z5, z6, z7, z8, z9, z10⟩ := hNE; first | assumption | (apply Ne.symm; assumption)) | (obtain ⟨y1, y2, y3, y4, y5⟩ := hq5; first | assumption | (apply Ne.symm; assumption)) | omega)).trans h1
            have h2 := (hn39 _ (by first | assumption | (obtain ⟨y1, y2, y3, y4, y5⟩ := hQg; first | assumption | (apply Ne.symm; assumption)) | (obtain ⟨y1, y2, y3, y4, y5⟩ := hQa; first | assumption | (apply Ne.symm; assumption)) | (obtain ⟨z1, z2, z3, z4, z5, z6, z7, z8, z9, z10⟩ := hNE; first | assumption | (apply Ne.symm; assumption)) | (obtain ⟨y1, y2, y3, y4, y5⟩ := hq5; first | assumption | (apply Ne.symm; assumption)) | omega)).trans h2
            have hg9 := (hn39 _ (by first | assumption | (obtain ⟨y1, y2, y3, y4, y5⟩ := hQg; first | assumption | (apply Ne.symm; assumption)) | (obtain ⟨y1, y2, y3, y4, y5⟩ := hQa; first | assumption | (apply Ne.symm; assumption)) | (obtain ⟨z1, z2, z3, z4, z5, z6, z7, z8, z9, z10⟩ := hNE; first | assumption | (apply Ne.symm; assumption)) | (obtain ⟨y1, y2, y3, y4, y5⟩ := hq5; first | assumption | (apply Ne.symm; assumption)) | omega)).trans hg9
            refine W.wd (mc := 1500) (ms := 6000) (by omega) (by omega) ?_
            have hK3 := hK2.ex (w2 := w36) (fun q e q0 q1 h9 => by have hqg := hog.ne q0 q1; have hqa := hoa.ne q0 q1; have h9 := (hn39 q (by first | assumption | (obtain ⟨y1, y2, y3, y4, y5⟩ := hQg; first | assumption | (apply Ne.symm; assumption)) | (obtain ⟨y1, y2, y3, y4, y5⟩ := hQa; first | assumption | (apply Ne.symm; assumption)) | (obtain ⟨z1, z2, z3, z4, z5, z6, z7, z8, z9, z10⟩ := hNE; first | assumption | (apply Ne.symm; assumption)) | (obtain ⟨y1, y2, y3, y4, y5⟩ := hq5; first | assumption | (apply Ne.symm; assumption)) | omega)).trans h9; exact h9)
            have hfin : LwS X w36 N y h gq aq σ (up af (if (-2) < 0 then -(-2) else 0) (af (if (-2) < 0 then -(-2) else 0) + 1)) := LwS.fin hOn hNN hout3 (fun q e h9 hc1 hc2 hc3 => by have h9 := hx35 q e h9 (by assumption); have h9 := (hn39 q (by first | assumption | (obtain ⟨y1, y2, y3, y4, y5⟩ := hQg; first | assumption | (apply Ne.symm; assumption)) | (obtain ⟨y1, y2, y3, y4, y5⟩ := hQa; first | assumption | (apply Ne.symm; assumption)) | (obtain ⟨z1, z2, z3, z4, z5, z6, z7, z8, z9, z10⟩ := hNE; first | assumption | (apply Ne.symm; assumption)) | (obtain ⟨y1, y2, y3, y4, y5⟩ := hq5; first | assumption | (apply Ne.symm; assumption)) | omega)).trans h9; exact h9) hg9 ha38 hK3 (ac_is hacc (rfl) (by decide))
            have hb8 : 0 ≤ (up af (if (-2) < 0 then -(-2) else 0) (af (if (-2) < 0 then -(-2) else 0) + 1)) 8 ∧ (up af (if (-2) < 0 then -(-2) else 0) (af (if (-2) < 0 then -(-2) else 0) + 1)) 8 ≤ af 8 + 1000 := by rw [ac_1 (rfl) (by decide)]; omega
            refine h_top (show (bz (decide ((-2) = (-2))) : Int) = bz true from congrArg bz (decide_eq_true rfl)) ?_
            exact h_iretz F hr hlk hW hS ⟨_, _, hfin, hb8⟩ dL_acts_450
        · refine lv_iload F.1 F.2.1 dL_acts_373 (lv_at hl 6 rfl) ?_
          refine h_ifeqb (tgt := 407) F dL_acts_375 (by decide) (fun c9 => by rw [decide_eq_true hop] at c9; cases c9) (fun _ => ?_)
          refine lv_iload F.1 F.2.1 dL_acts_378 (lv_at hl 0 rfl) ?_
          have join398 : ∀ (H : Heap) (locs : List Loc) (ls : Array Slot), Wd X w s H → va_S (cxA X) s.heap H locs → lv_has ls 14 [(5, .int (iI (cnt (emB σ) 0 cz))), (6, .int (iI cz)), (0, .ref y), (1, .ref h), (2, .ref gq), (3, .ref aq), (4, .int (iI (bz (decide (σ 4 < σ 1)))))] → W p l e (rmG 11 1500 6000 260) s m (List.toArray [.ref y, .ref h, .ref gq, .ref aq]) below meth c H locs (kc0) (ks0) (MX X below (List.toArray [.ref y, .ref h, .ref gq, .ref aq]) s 1500 6000 (some (.int (iI (bz true)))) (fun w' => ∃ σ2 af2 : Int → Int, LwS X w' N y h gq aq σ2 af2 ∧ (0 ≤ af2 8 ∧ af2 8 ≤ af 8 + 1000))) (F0 m 398 ls [.int (iI (bz (emB σ cz))), .int (iI (cnt (emB σ) 0 cz))]) := by
            intro  H locs ls  hW hS hl
            refine h_iadd (a := cnt (emB σ) 0 cz) (b := bz (emB σ cz)) F dL_acts_398 ?_
            refine lv_istore (lv' := [(5, .int (iI ((cnt (emB σ) 0 cz) + (bz (emB σ cz))))), (6, .int (iI cz)), (0, .ref y), (1, .ref h), (2, .ref gq), (3, .ref aq), (4, .int (iI (bz (decide (σ 4 < σ 1)))))]) F.1 F.2.1 dL_acts_399 hl (by decide) rfl (fun ls hl => ?_)
            refine h_iinc (k := 1) (a := cz) (lv' := [(6, .int (iI (cz + 1))), (5, .int (iI ((cnt (emB σ) 0 cz) + (bz (emB σ cz))))), (0, .ref y), (1, .ref h), (2, .ref gq), (3, .ref aq), (4, .int (iI (bz (decide (σ 4 < σ 1)))))]) F dL_acts_401 hl rfl (by decide) rfl (fun ls hl => ?_)
            refine h_goto (tgt := 364) F dL_acts_404 (by decide) ?_
            have eq40 : (cnt (emB σ) 0 (cz + 1) : Int) = (cnt (emB σ) 0 cz) + (bz (emB σ cz)) := cnt_s _ (by omega)
            have eq41 : ((cz + 1) : Int) = cz + 1 := by first | rfl | omega | simp
            exact ih364 (cz + 1)  (by omega) (by omega)   _ _ ls hW hS (by rw [eq40, eq41]; exact lv_sub hl [1, 0, 2, 3, 4, 5, 6] rfl)
          refine lv_aload_n F.1 F.2.1 dL_acts_380 rfl (lv_at hl 3 rfl) ?_
          refine lv_iload F.1 F.2.1 dL_acts_381 (lv_at hl 1 rfl) ?_
          refine lv_aload_n F.1 F.2.1 dL_acts_383 rfl (lv_at hl 3 rfl) ?_
          refine cl_RL_186 (As := []) (rest := [.int (iI cz), .ref h, .int (iI (cnt (emB σ) 0 cz))]) F hl (c_X10_rows l X w h σ hAp) hW hS h1 rfl rfl ⟨Nat.le_of_ble_eq_true rfl, Nat.le_of_ble_eq_true rfl⟩ (Nat.le_of_ble_eq_true rfl) ⟨(by show kc0 + 0 ≤ 1500; omega), (by show ks0 + 0 ≤ 6000; omega)⟩ dL_acts_384 (fun w1 H locs hp42 hW hS => ?_)
          rw [hp42] at hW; clear hp42; clear w1
          have hce := hWF.2.2.2.1 cz (σ 4) (by omega) (by omega) (by omega) (by omega)
          refine cl_RL_175 (As := [.int (iI cz), .int (iI (σ 4))]) (rest := [.int (iI (cnt (emB σ) 0 cz))]) F hl (c_X10_at l X w h σ cz (σ 4) hAp (by omega) (by omega)) hW hS h1 rfl rfl ⟨Nat.le_of_ble_eq_true rfl, Nat.le_of_ble_eq_true rfl⟩ (Nat.le_of_ble_eq_true rfl) ⟨(by show kc0 + 0 + 0 ≤ 1500; omega), (by show ks0 + 0 + 0 ≤ 6000; omega)⟩ dL_acts_387 (fun w1 H locs hp43 hW hS => ?_)
          rw [hp43] at hW; clear hp43; clear w1
          refine h_ifge (tgt := 397) F dL_acts_390 (by decide) (by omega) (fun c44 => ?_) (fun c44 => ?_)
          · have hbt : (0 : Int) = bz (emB σ cz) := by unfold emB; rw [decide_eq_false (by omega)]; rfl
            refine h_iconst F dL_acts_397 ?_
            refine h_top (show (0 : Int) = bz (emB σ cz) from hbt) ?_
            exact join398  _ _ ls  hW hS (lv_sub hl [0, 1, 2, 3, 4, 5, 6] rfl)
          · have hbt : (1 : Int) = bz (emB σ cz) := by unfold emB; rw [decide_eq_true (by omega)]; rfl
            refine h_iconst F dL_acts_393 ?_
            refine h_goto (tgt := 398) F dL_acts_394 (by decide) ?_
            refine h_top (show (1 : Int) = bz (emB σ cz) from hbt) ?_
            exact join398  _ _ ls  hW hS (lv_sub hl [0, 1, 2, 3, 4, 5, 6] rfl)
    have eq45 : (cnt (emB σ) 0 0 : Int) = 0 := cnt_0 _ _
    exact loop364 ((σ 0 - 0) + 1 : Int).toNat 0   (by omega) (by omega)   _ _ ls hW hS (by rw [eq45]; exact lv_sub hl [1, 0, 2, 3, 4, 5, 6] rfl)
  · refine h_iconst F dL_acts_358 ?_
    refine lv_istore (lv' := [(5, .int (iI 0)), (0, .ref y), (1, .ref h), (2, .ref gq), (3, .ref aq), (4, .int (iI (bz (decide (σ 4 < σ 1)))))]) F.1 F.2.1 dL_acts_359 hl (by decide) rfl (fun ls hl => ?_)
    refine h_iconst F dL_acts_361 ?_
    refine lv_istore (lv' := [(6, .int (iI 0)), (5, .int (iI 0)), (0, .ref y), (1, .ref h), (2, .ref gq), (3, .ref aq), (4, .int (iI (bz (decide (σ 4 < σ 1)))))]) F.1 F.2.1 dL_acts_362 hl (by decide) rfl (fun ls hl => ?_)
    have loop364 : ∀ (n9 : Nat) (cz : Int), (hrg : 0 ≤ cz ∧ cz ≤ σ 0) → (hms : σ 0 - cz < (n9 : Int)) → (H : Heap) → (locs : List Loc) → (ls : Array Slot) → Wd X w s H → va_S (cxA X) s.heap H locs → lv_has ls 14 [(5, .int (iI (cnt (emB σ) 0 cz))), (6, .int (iI cz)), (0, .ref y), (1, .ref h), (2, .ref gq), (3, .ref aq), (4, .int (iI (bz (decide (σ 4 < σ 1)))))] → W p l e (rmG 11 1500 6000 260) s m (List.toArray [.ref y, .ref h, .ref gq, .ref aq]) below meth c H locs (kc0) (ks0) (MX X below (List.toArray [.ref y, .ref h, .ref gq, .ref aq]) s 1500 6000 (some (.int (iI (bz true)))) (fun w' => ∃ σ2 af2 : Int → Int, LwS X w' N y h gq aq σ2 af2 ∧ (0 ≤ af2 8 ∧ af2 8 ≤ af 8 + 1000))) (F0 m 364 ls []) := by
      intro n9
      induction n9 with
      | zero => intro cz  hrg hms; exfalso; omega
      | succ n9 ih364 =>
        intro cz  hrg hms   H locs ls hW hS hl
        have hAp : ownA X w h σ := hO0.1.ex (fun q e h9 => by have hN9 := (wr_some.mp h9).1; have h9 := (wr_some.mp h9).2; have hqg : q ≠ gq := fun e9 => hN9 (e9 ▸ hNN.2.1); have hqa : q ≠ aq := fun e9 => hN9 (e9 ▸ hNN.2.2); have hqy : outY y q := outY.nN hNy hN9; skip; exact h9)
        refine lv_iload F.1 F.2.1 dL_acts_364 (lv_at hl 1 rfl) ?_
        refine lv_aload_n F.1 F.2.1 dL_acts_366 rfl (lv_at hl 3 rfl) ?_
        refine gf_RL_60 F hW h1 rfl dL_acts_367 ?_
        refine h_icge (tgt := 407) F dL_acts_370 (by decide) (by omega) (fun c46 => ?_) (fun c46 => ?_)
        · have hop4 : σ 4 = σ 1 := by omega
          skip
          skip
          have hst9 := hWF.2.1 0 (by decide) (by decide)
          skip
          have hemr := cnt_r (emB σ) (lo := 0) (hi := cz) (by omega)
          refine lv_iload F.1 F.2.1 dL_acts_407 (lv_at hl 6 rfl) ?_
          refine h_ifneb (tgt := 416) F dL_acts_409 (by decide) (fun c9 => by rw [decide_eq_false hop] at c9; cases c9) (fun _ => ?_)
          refine h_iconst F dL_acts_412 ?_
          refine h_goto (tgt := 433) F dL_acts_413 (by decide) ?_
          refine lv_istore (lv' := [(6, .int (iI (-1))), (5, .int (iI (cnt (emB σ) 0 cz))), (0, .ref y), (1, .ref h), (2, .ref gq), (3, .ref aq), (4, .int (iI (bz (decide (σ 4 < σ 1)))))]) F.1 F.2.1 dL_acts_433 hl (by decide) rfl (fun ls hl => ?_)
          refine lv_iload F.1 F.2.1 dL_acts_435 (lv_at hl 0 rfl) ?_
          refine h_ifge (tgt := 451) F dL_acts_437 (by decide) (by decide) (fun c9 => absurd c9 (by decide)) (fun _ => ?_)
          have h66 : σ (6 + 0) = σ 6 := rfl
          have hKn : KS X w y σ nx sz pas ac := hK.ex (fun q e q0 q1 h9 => by have hqg := hog.ne q0 q1; have hqa := hoa.ne q0 q1; have hq5 := hQ5 q (hNy q q0 q1); have hqe9 : q ≠ ec := fun e9 => hNl.2 (e9 ▸ hNy q q0 q1); have hqe8 : q ≠ ec ∨ kc = 0 := Or.inl hqe9; skip; exact h9)
          obtain ⟨su9, tx9, M9, oo9, rv9, hC9⟩ := id hKn
          have hYc := hC9.1
          have hOn := hO0
          refine lv_aload_n F.1 F.2.1 dL_acts_440 rfl (lv_at hl 2 rfl) ?_
          refine cl_RL_345 (As := []) (rest := []) F hl (k_beat_r1 l X w y σ nx sz pas ac hKn (by omega)) hW hS hYc rfl rfl ⟨Nat.le_of_ble_eq_true rfl, Nat.le_of_ble_eq_true rfl⟩ (Nat.le_of_ble_eq_true rfl) ⟨(by show kc0 + 0 ≤ 1500; omega), (by show ks0 + 0 ≤ 6000; omega)⟩ dL_acts_441 (fun w48 H locs hp49 hW hS => ?_)
          obtain ⟨hK2, hx50⟩ := hp49
          have h1 := hx50 _ _ h1 (by assumption)
          have h2 := hx50 _ _ h2 (by assumption)
          have hg9 := hx50 _ _ hg9 (by assumption)
          have ha9 := hx50 _ _ ha9 (by assumption)
          skip
          refine lv_iload F.1 F.2.1 dL_acts_444 (lv_at hl 0 rfl) ?_
          refine lv_aload_n F.1 F.2.1 dL_acts_446 rfl (lv_at hl 5 rfl) ?_
          refine cl_RL_329 (As := [.int (iI (-1)), .int (iI (-1)), .ref aq]) (rest := []) F hl (c_L_is l X w48 aq af (-1) (-1) ha9 (by omega)) hW hS rfl rfl ⟨Nat.le_of_ble_eq_true rfl, Nat.le_of_ble_eq_true rfl⟩ (Nat.le_of_ble_eq_true rfl) ⟨(by show kc0 + 0 + 0 ≤ 1500; omega), (by show ks0 + 0 + 0 ≤ 6000; omega)⟩ dL_acts_447 (fun w51 H locs hp52 hW hS => ?_)
          obtain ⟨ha53, hn54⟩ := hp52
          have h1 := (hn54 _ (by first | assumption | (obtain ⟨y1, y2, y3, y4, y5⟩ := hQg; first | assumption | (apply Ne.symm; assumption)) | (obtain ⟨y1, y2, y3, y4, y5⟩ := hQa; first | assumption | (apply Ne.symm; assumption)) | (obtain ⟨z1, z2, z3, z4, z5, z6, z7, z8, z9, z10⟩ := hNE; first | assumption | (apply Ne.symm; assumption)) | (obtain ⟨y1, y2, y3, y4, y5⟩ := hq5; first | assumption | (apply Ne.symm; assumption)) | omega)).trans h1
          have h2 := (hn54 _ (by first | assumption | (obtain ⟨y1, y2, y3, y4, y5⟩ := hQg; first | assumption | (apply Ne.symm; assumption)) | (obtain ⟨y1, y2, y3, y4, y5⟩ := hQa; first | assumption | (apply Ne.symm; assumption)) | (obtain ⟨z1, z2, z3, z4, z5, z6, z7, z8, z9, z10⟩ := hNE; first | assumption | (apply Ne.symm; assumption)) | (obtain ⟨y1, y2, y3, y4, y5⟩ := hq5; first | assumption | (apply Ne.symm; assumption)) | omega)).trans h2
          have hg9 := (hn54 _ (by first | assumption | (obtain ⟨y1, y2, y3, y4, y5⟩ := hQg; first | assumption | (apply Ne.symm; assumption)) | (obtain ⟨y1, y2, y3, y4, y5⟩ := hQa; first | assumption | (apply Ne.symm; assumption)) | (obtain ⟨z1, z2, z3, z4, z5, z6, z7, z8, z9, z10⟩ := hNE; first | assumption | (apply Ne.symm; assumption)) | (obtain ⟨y1, y2, y3, y4, y5⟩ := hq5; first | assumption | (apply Ne.symm; assumption)) | omega)).trans hg9
          refine W.wd (mc := 1500) (ms := 6000) (by omega) (by omega) ?_
          have hK3 := hK2.ex (w2 := w51) (fun q e q0 q1 h9 => by have hqg := hog.ne q0 q1; have hqa := hoa.ne q0 q1; have h9 := (hn54 q (by first | assumption | (obtain ⟨y1, y2, y3, y4, y5⟩ := hQg; first | assumption | (apply Ne.symm; assumption)) | (obtain ⟨y1, y2, y3, y4, y5⟩ := hQa; first | assumption | (apply Ne.symm; assumption)) | (obtain ⟨z1, z2, z3, z4, z5, z6, z7, z8, z9, z10⟩ := hNE; first | assumption | (apply Ne.symm; assumption)) | (obtain ⟨y1, y2, y3, y4, y5⟩ := hq5; first | assumption | (apply Ne.symm; assumption)) | omega)).trans h9; exact h9)
          have hfin : LwS X w51 N y h gq aq σ (up af (if (-1) < 0 then -(-1) else 0) (af (if (-1) < 0 then -(-1) else 0) + 1)) := LwS.fin hOn hNN hout3 (fun q e h9 hc1 hc2 hc3 => by have h9 := hx50 q e h9 (by assumption); have h9 := (hn54 q (by first | assumption | (obtain ⟨y1, y2, y3, y4, y5⟩ := hQg; first | assumption | (apply Ne.symm; assumption)) | (obtain ⟨y1, y2, y3, y4, y5⟩ := hQa; first | assumption | (apply Ne.symm; assumption)) | (obtain ⟨z1, z2, z3, z4, z5, z6, z7, z8, z9, z10⟩ := hNE; first | assumption | (apply Ne.symm; assumption)) | (obtain ⟨y1, y2, y3, y4, y5⟩ := hq5; first | assumption | (apply Ne.symm; assumption)) | omega)).trans h9; exact h9) hg9 ha53 hK3 (ac_is hacc (rfl) (by decide))
          have hb8 : 0 ≤ (up af (if (-1) < 0 then -(-1) else 0) (af (if (-1) < 0 then -(-1) else 0) + 1)) 8 ∧ (up af (if (-1) < 0 then -(-1) else 0) (af (if (-1) < 0 then -(-1) else 0) + 1)) 8 ≤ af 8 + 1000 := by rw [ac_1 (rfl) (by decide)]; omega
          refine h_top (show (bz (decide ((-1) = (-1))) : Int) = bz true from congrArg bz (decide_eq_true rfl)) ?_
          exact h_iretz F hr hlk hW hS ⟨_, _, hfin, hb8⟩ dL_acts_450
        · refine lv_iload F.1 F.2.1 dL_acts_373 (lv_at hl 6 rfl) ?_
          refine h_ifeqb (tgt := 407) F dL_acts_375 (by decide) (fun _ => ?_) (fun c9 => by rw [decide_eq_false hop] at c9; cases c9)
          have hop4 : σ 4 = σ 1 := by omega
          skip
          skip
          have hst9 := hWF.2.1 0 (by decide) (by decide)
          skip
          have hemr := cnt_r (emB σ) (lo := 0) (hi := cz) (by omega)
          refine lv_iload F.1 F.2.1 dL_acts_407 (lv_at hl 6 rfl) ?_
          refine h_ifneb (tgt := 416) F dL_acts_409 (by decide) (fun c9 => by rw [decide_eq_false hop] at c9; cases c9) (fun _ => ?_)
          refine h_iconst F dL_acts_412 ?_
          refine h_goto (tgt := 433) F dL_acts_413 (by decide) ?_
          refine lv_istore (lv' := [(6, .int (iI (-1))), (5, .int (iI (cnt (emB σ) 0 cz))), (0, .ref y), (1, .ref h), (2, .ref gq), (3, .ref aq), (4, .int (iI (bz (decide (σ 4 < σ 1)))))]) F.1 F.2.1 dL_acts_433 hl (by decide) rfl (fun ls hl => ?_)
          refine lv_iload F.1 F.2.1 dL_acts_435 (lv_at hl 0 rfl) ?_
          refine h_ifge (tgt := 451) F dL_acts_437 (by decide) (by decide) (fun c9 => absurd c9 (by decide)) (fun _ => ?_)
          have h66 : σ (6 + 0) = σ 6 := rfl
          have hKn : KS X w y σ nx sz pas ac := hK.ex (fun q e q0 q1 h9 => by have hqg := hog.ne q0 q1; have hqa := hoa.ne q0 q1; have hq5 := hQ5 q (hNy q q0 q1); have hqe9 : q ≠ ec := fun e9 => hNl.2 (e9 ▸ hNy q q0 q1); have hqe8 : q ≠ ec ∨ kc = 0 := Or.inl hqe9; skip; exact h9)
          obtain ⟨su9, tx9, M9, oo9, rv9, hC9⟩ := id hKn
          have hYc := hC9.1
          have hOn := hO0
          refine lv_aload_n F.1 F.2.1 dL_acts_440 rfl (lv_at hl 2 rfl) ?_
          refine cl_RL_345 (As := []) (rest := []) F hl (k_beat_r1 l X w y σ nx sz pas ac hKn (by omega)) hW hS hYc rfl rfl ⟨Nat.le_of_ble_eq_true rfl, Nat.le_of_ble_eq_true rfl⟩ (Nat.le_of_ble_eq_true rfl) ⟨(by show kc0 + 0 ≤ 1500; omega), (by show ks0 + 0 ≤ 6000; omega)⟩ dL_acts_441 (fun w56 H locs hp57 hW hS => ?_)
          obtain ⟨hK2, hx58⟩ := hp57
          have h1 := hx58 _ _ h1 (by assumption)
          have h2 := hx58 _ _ h2 (by assumption)
          have hg9 := hx58 _ _ hg9 (by assumption)
          have ha9 := hx58 _ _ ha9 (by assumption)
          skip
          refine lv_iload F.1 F.2.1 dL_acts_444 (lv_at hl 0 rfl) ?_
          refine lv_aload_n F.1 F.2.1 dL_acts_446 rfl (lv_at hl 5 rfl) ?_
          refine cl_RL_329 (As := [.int (iI (-1)), .int (iI (-1)), .ref aq]) (rest := []) F hl (c_L_is l X w56 aq af (-1) (-1) ha9 (by omega)) hW hS rfl rfl ⟨Nat.le_of_ble_eq_true rfl, Nat.le_of_ble_eq_true rfl⟩ (Nat.le_of_ble_eq_true rfl) ⟨(by show kc0 + 0 + 0 ≤ 1500; omega), (by show ks0 + 0 + 0 ≤ 6000; omega)⟩ dL_acts_447 (fun w59 H locs hp60 hW hS => ?_)
          obtain ⟨ha61, hn62⟩ := hp60
          have h1 := (hn62 _ (by first | assumption | (obtain ⟨y1, y2, y3, y4, y5⟩ := hQg; first | assumption | (apply Ne.symm; assumption)) | (obtain ⟨y1, y2, y3, y4, y5⟩ := hQa; first | assumption | (apply Ne.symm; assumption)) | (obtain ⟨z1, z2, z3, z4, z5, z6, z7, z8, z9, z10⟩ := hNE; first | assumption | (apply Ne.symm; assumption)) | (obtain ⟨y1, y2, y3, y4, y5⟩ := hq5; first | assumption | (apply Ne.symm; assumption)) | omega)).trans h1
          have h2 := (hn62 _ (by first | assumption | (obtain ⟨y1, y2, y3, y4, y5⟩ := hQg; first | assumption | (apply Ne.symm; assumption)) | (obtain ⟨y1, y2, y3, y4, y5⟩ := hQa; first | assumption | (apply Ne.symm; assumption)) | (obtain ⟨z1, z2, z3, z4, z5, z6, z7, z8, z9, z10⟩ := hNE; first | assumption | (apply Ne.symm; assumption)) | (obtain ⟨y1, y2, y3, y4, y5⟩ := hq5; first | assumption | (apply Ne.symm; assumption)) | omega)).trans h2
          have hg9 := (hn62 _ (by first | assumption | (obtain ⟨y1, y2, y3, y4, y5⟩ := hQg; first | assumption | (apply Ne.symm; assumption)) | (obtain ⟨y1, y2, y3, y4, y5⟩ := hQa; first | assumption | (apply Ne.symm; assumption)) | (obtain ⟨z1, z2, z3, z4, z5, z6, z7, z8, z9, z10⟩ := hNE; first | assumption | (apply Ne.symm; assumption)) | (obtain ⟨y1, y2, y3, y4, y5⟩ := hq5; first | assumption | (apply Ne.symm; assumption)) | omega)).trans hg9
          refine W.wd (mc := 1500) (ms := 6000) (by omega) (by omega) ?_
          have hK3 := hK2.ex (w2 := w59) (fun q e q0 q1 h9 => by have hqg := hog.ne q0 q1; have hqa := hoa.ne q0 q1; have h9 := (hn62 q (by first | assumption | (obtain ⟨y1, y2, y3, y4, y5⟩ := hQg; first | assumption | (apply Ne.symm; assumption)) | (obtain ⟨y1, y2, y3, y4, y5⟩ := hQa; first | assumption | (apply Ne.symm; assumption)) | (obtain ⟨z1, z2, z3, z4, z5, z6, z7, z8, z9, z10⟩ := hNE; first | assumption | (apply Ne.symm; assumption)) | (obtain ⟨y1, y2, y3, y4, y5⟩ := hq5; first | assumption | (apply Ne.symm; assumption)) | omega)).trans h9; exact h9)
          have hfin : LwS X w59 N y h gq aq σ (up af (if (-1) < 0 then -(-1) else 0) (af (if (-1) < 0 then -(-1) else 0) + 1)) := LwS.fin hOn hNN hout3 (fun q e h9 hc1 hc2 hc3 => by have h9 := hx58 q e h9 (by assumption); have h9 := (hn62 q (by first | assumption | (obtain ⟨y1, y2, y3, y4, y5⟩ := hQg; first | assumption | (apply Ne.symm; assumption)) | (obtain ⟨y1, y2, y3, y4, y5⟩ := hQa; first | assumption | (apply Ne.symm; assumption)) | (obtain ⟨z1, z2, z3, z4, z5, z6, z7, z8, z9, z10⟩ := hNE; first | assumption | (apply Ne.symm; assumption)) | (obtain ⟨y1, y2, y3, y4, y5⟩ := hq5; first | assumption | (apply Ne.symm; assumption)) | omega)).trans h9; exact h9) hg9 ha61 hK3 (ac_is hacc (rfl) (by decide))
          have hb8 : 0 ≤ (up af (if (-1) < 0 then -(-1) else 0) (af (if (-1) < 0 then -(-1) else 0) + 1)) 8 ∧ (up af (if (-1) < 0 then -(-1) else 0) (af (if (-1) < 0 then -(-1) else 0) + 1)) 8 ≤ af 8 + 1000 := by rw [ac_1 (rfl) (by decide)]; omega
          refine h_top (show (bz (decide ((-1) = (-1))) : Int) = bz true from congrArg bz (decide_eq_true rfl)) ?_
          exact h_iretz F hr hlk hW hS ⟨_, _, hfin, hb8⟩ dL_acts_450
    have eq63 : (cnt (emB σ) 0 0 : Int) = 0 := cnt_0 _ _
    exact loop364 ((σ 0 - 0) + 1 : Int).toNat 0   (by omega) (by omega)   _ _ ls hW hS (by rw [eq63]; exact lv_sub hl [1, 0, 2, 3, 4, 5, 6] rfl)
