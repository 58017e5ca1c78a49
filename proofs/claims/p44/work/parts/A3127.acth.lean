set_option maxHeartbeats 4000000 in
set_option maxRecDepth 100000 in
theorem sg_acts_547 (l : Launch) (X : Cx) (w : Wo) (y h gq aq : Nat) (N : Nat → Prop) (σ af : Int → Int) (hLS : LwS X w N y h gq aq σ af) (hp8 : 0 ≤ af 8 ∧ af 8 ≤ 900000)   {p : Program} {e : Env} {s : State} {m : MethodId} {below : List Frame} {meth : Method} {c : Code} {H : Heap} {locs : List Loc} {ls : Array Slot} {kc0 ks0 : Nat} (F : Fx p m c cL_acts 14 s (List.toArray [.ref y, .ref h, .ref gq, .ref aq]) RL) (hr : meth.sig.returnType = (some (.boolean))) (hlk : meth.locks = false) (hZ0 : cxZ X s s.heap) (hB9 : cxB X ≤ s.heap.size) (hkc0 : kc0 ≤ 10) (hks0 : ks0 ≤ 20) (hW : Wd X w s H) (hS : va_S (cxA X) s.heap H locs) (hl : lv_has ls 14 [(0, .ref y), (1, .ref h), (2, .ref gq), (3, .ref aq), (4, .int (iI (bz (decide (σ 4 < σ 1)))))]) : W p l e (rmG 11 1500 6000 260) s m (List.toArray [.ref y, .ref h, .ref gq, .ref aq]) below meth c H locs kc0 ks0 (MX X below (List.toArray [.ref y, .ref h, .ref gq, .ref aq]) s 1500 6000 (some (.int (iI (bz true)))) (fun w' => ∃ σ2 af2 : Int → Int, LwS X w' N y h gq aq σ2 af2 ∧ (0 ≤ af2 8 ∧ af2 8 ≤ af 8 + 1000))) (F0 m 547 ls []) := by
  obtain ⟨hO, ⟨nx, sz, pas, ac, hK, hacc⟩, ⟨gf, hg9⟩, ha9, hout3, hNN⟩ := hLS
  have hNy := hNN.1
  have hog := hout3.1
  have hoa := hout3.2.1
  have hga := hout3.2.2
  have hO0 := hO
  obtain ⟨st, lc, ec, kc, lr, er, kr, cd, rwa, hPw0, hern⟩ := hO.1.P
  have hNE := hPw0.ne
  have hQ5 := hPw0.q5
  have hPw := hPw0
  obtain ⟨h1w, ⟨fs, h2w, h2f⟩, hLcw, hkc, hcaw, hLrw, hkr, hclw, hem, ⟨hWF, hw0, hw1⟩, hrs, hlne, hene⟩ := hPw
  have hWF0 := hWF.1
  obtain ⟨wf0, wf1, wf2, wf3, wf4, wf5⟩ := hWF0
  have hnc := nr_cases (show nrS σ = _ from rfl) wf4.2
  have hnr0 : σ 4 ≤ nrS σ ∧ nrS σ ≤ σ 4 + 1 ∧ nrS σ ≤ σ 1 := by omega
  clear hnc
  have hkrb : 10 ≤ kr ∧ kr ≤ 15 := by omega
  clear hkr hkc hlne hern
  have h1n := (wr_some.mp h1w).1
  have h1 := (wr_some.mp h1w).2
  have h2n := (wr_some.mp h2w).1
  have h2 := (wr_some.mp h2w).2
  have hLc := hLcw.ex (wr_sub w N)
  have hLr := hLrw.ex (wr_sub w N)
  have hNl := hLcw.nN hO.2.2
  have hNr := hLrw.nN hO.2.2
  obtain ⟨⟨mc, h3⟩, gc, h3b, h3c, h3d⟩ := hLc
  obtain ⟨⟨mr, h5⟩, gr, h5b, h5c, h5d⟩ := hLr
  have h5e : w er = some (aR X 5 kr gr) := h5b.elim (fun z => by omega) (fun z => z.1)
  clear h3b h5b
  have hLr := hLrw.ex (wr_sub w N)
  have hLc := hLcw.ex (wr_sub w N)
  have hQg := hQ5 gq hNN.2.1
  have hQa := hQ5 aq hNN.2.2
  have hoh := outY.nN hNy h1n
  have host := outY.nN hNy h2n
  have holc := outY.nN hNy hNl.1
  have holr := outY.nN hNy hNr.1
  have hoer := outY.nN hNy hNr.2
  have hXY := hW.zy
  refine h_iconst F dL_acts_547 ?_
  refine lv_aload_n F.1 F.2.1 dL_acts_548 rfl (lv_at hl 2 rfl) ?_
  refine h_iconst F dL_acts_549 ?_
  refine cr_RL_45 (As := [.ref gq, .int (iI 5)]) (rest := [.int (iI 1)]) F hl (c_L_draw l X w gq gf 5 hg9 (by omega)) hW hS rfl rfl ⟨Nat.le_of_ble_eq_true rfl, Nat.le_of_ble_eq_true rfl⟩ (Nat.le_of_ble_eq_true rfl) ⟨(by show kc0 + 0 ≤ 1500; omega), (by show ks0 + 0 ≤ 6000; omega)⟩ dL_acts_550 (fun v3 w1 H locs hp2 hW hS => ?_)
  obtain ⟨dm0, g1, rfl, hm4, ha5, hx6⟩ := hp2
  have h1 := hx6 _ _ h1 (by first | assumption | (obtain ⟨y1, y2, y3, y4, y5⟩ := hQg; first | assumption | (apply Ne.symm; assumption)) | (obtain ⟨y1, y2, y3, y4, y5⟩ := hQa; first | assumption | (apply Ne.symm; assumption)) | (obtain ⟨z1, z2, z3, z4, z5, z6, z7, z8, z9, z10⟩ := hNE; first | assumption | (apply Ne.symm; assumption)) | (obtain ⟨y1, y2, y3, y4, y5⟩ := hq5; first | assumption | (apply Ne.symm; assumption)) | omega)
  have h5 := hx6 _ _ h5 (by first | assumption | (obtain ⟨y1, y2, y3, y4, y5⟩ := hQg; first | assumption | (apply Ne.symm; assumption)) | (obtain ⟨y1, y2, y3, y4, y5⟩ := hQa; first | assumption | (apply Ne.symm; assumption)) | (obtain ⟨z1, z2, z3, z4, z5, z6, z7, z8, z9, z10⟩ := hNE; first | assumption | (apply Ne.symm; assumption)) | (obtain ⟨y1, y2, y3, y4, y5⟩ := hq5; first | assumption | (apply Ne.symm; assumption)) | omega)
  have h3 := hx6 _ _ h3 (by first | assumption | (obtain ⟨y1, y2, y3, y4, y5⟩ := hQg; first | assumption | (apply Ne.symm; assumption)) | (obtain ⟨y1, y2, y3, y4, y5⟩ := hQa; first | assumption | (apply Ne.symm; assumption)) | (obtain ⟨z1, z2, z3, z4, z5, z6, z7, z8, z9, z10⟩ := hNE; first | assumption | (apply Ne.symm; assumption)) | (obtain ⟨y1, y2, y3, y4, y5⟩ := hq5; first | assumption | (apply Ne.symm; assumption)) | omega)
  have h5e := hx6 _ _ h5e (by first | assumption | (obtain ⟨y1, y2, y3, y4, y5⟩ := hQg; first | assumption | (apply Ne.symm; assumption)) | (obtain ⟨y1, y2, y3, y4, y5⟩ := hQa; first | assumption | (apply Ne.symm; assumption)) | (obtain ⟨z1, z2, z3, z4, z5, z6, z7, z8, z9, z10⟩ := hNE; first | assumption | (apply Ne.symm; assumption)) | (obtain ⟨y1, y2, y3, y4, y5⟩ := hq5; first | assumption | (apply Ne.symm; assumption)) | omega)
  have h2 := hx6 _ _ h2 (by first | assumption | (obtain ⟨y1, y2, y3, y4, y5⟩ := hQg; first | assumption | (apply Ne.symm; assumption)) | (obtain ⟨y1, y2, y3, y4, y5⟩ := hQa; first | assumption | (apply Ne.symm; assumption)) | (obtain ⟨z1, z2, z3, z4, z5, z6, z7, z8, z9, z10⟩ := hNE; first | assumption | (apply Ne.symm; assumption)) | (obtain ⟨y1, y2, y3, y4, y5⟩ := hq5; first | assumption | (apply Ne.symm; assumption)) | omega)
  have ha9 := hx6 _ _ ha9 (by first | assumption | (obtain ⟨y1, y2, y3, y4, y5⟩ := hQg; first | assumption | (apply Ne.symm; assumption)) | (obtain ⟨y1, y2, y3, y4, y5⟩ := hQa; first | assumption | (apply Ne.symm; assumption)) | (obtain ⟨z1, z2, z3, z4, z5, z6, z7, z8, z9, z10⟩ := hNE; first | assumption | (apply Ne.symm; assumption)) | (obtain ⟨y1, y2, y3, y4, y5⟩ := hq5; first | assumption | (apply Ne.symm; assumption)) | omega)
  refine h_iadd (a := 1) (b := dm0) F dL_acts_553 ?_
  refine lv_istore (lv' := [(5, .int (iI (1 + dm0))), (0, .ref y), (1, .ref h), (2, .ref gq), (3, .ref aq), (4, .int (iI (bz (decide (σ 4 < σ 1)))))]) F.1 F.2.1 dL_acts_554 hl (by decide) rfl (fun ls hl => ?_)
  refine lv_aload_n F.1 F.2.1 dL_acts_556 rfl (lv_at hl 3 rfl) ?_
  refine h_iconst F dL_acts_557 ?_
  refine cr_RL_45 (As := [.ref gq, .int (iI 3)]) (rest := []) F hl (c_L_draw l X w1 gq g1 3 ha5 (by omega)) hW hS rfl rfl ⟨Nat.le_of_ble_eq_true rfl, Nat.le_of_ble_eq_true rfl⟩ (Nat.le_of_ble_eq_true rfl) ⟨(by show kc0 + 0 + 0 ≤ 1500; omega), (by show ks0 + 0 + 0 ≤ 6000; omega)⟩ dL_acts_558 (fun v9 w7 H locs hp8 hW hS => ?_)
  obtain ⟨db, g2, rfl, hm10, ha11, hx12⟩ := hp8
  have h1 := hx12 _ _ h1 (by first | assumption | (obtain ⟨y1, y2, y3, y4, y5⟩ := hQg; first | assumption | (apply Ne.symm; assumption)) | (obtain ⟨y1, y2, y3, y4, y5⟩ := hQa; first | assumption | (apply Ne.symm; assumption)) | (obtain ⟨z1, z2, z3, z4, z5, z6, z7, z8, z9, z10⟩ := hNE; first | assumption | (apply Ne.symm; assumption)) | (obtain ⟨y1, y2, y3, y4, y5⟩ := hq5; first | assumption | (apply Ne.symm; assumption)) | omega)
  have h5 := hx12 _ _ h5 (by first | assumption | (obtain ⟨y1, y2, y3, y4, y5⟩ := hQg; first | assumption | (apply Ne.symm; assumption)) | (obtain ⟨y1, y2, y3, y4, y5⟩ := hQa; first | assumption | (apply Ne.symm; assumption)) | (obtain ⟨z1, z2, z3, z4, z5, z6, z7, z8, z9, z10⟩ := hNE; first | assumption | (apply Ne.symm; assumption)) | (obtain ⟨y1, y2, y3, y4, y5⟩ := hq5; first | assumption | (apply Ne.symm; assumption)) | omega)
  have h3 := hx12 _ _ h3 (by first | assumption | (obtain ⟨y1, y2, y3, y4, y5⟩ := hQg; first | assumption | (apply Ne.symm; assumption)) | (obtain ⟨y1, y2, y3, y4, y5⟩ := hQa; first | assumption | (apply Ne.symm; assumption)) | (obtain ⟨z1, z2, z3, z4, z5, z6, z7, z8, z9, z10⟩ := hNE; first | assumption | (apply Ne.symm; assumption)) | (obtain ⟨y1, y2, y3, y4, y5⟩ := hq5; first | assumption | (apply Ne.symm; assumption)) | omega)
  have h5e := hx12 _ _ h5e (by first | assumption | (obtain ⟨y1, y2, y3, y4, y5⟩ := hQg; first | assumption | (apply Ne.symm; assumption)) | (obtain ⟨y1, y2, y3, y4, y5⟩ := hQa; first | assumption | (apply Ne.symm; assumption)) | (obtain ⟨z1, z2, z3, z4, z5, z6, z7, z8, z9, z10⟩ := hNE; first | assumption | (apply Ne.symm; assumption)) | (obtain ⟨y1, y2, y3, y4, y5⟩ := hq5; first | assumption | (apply Ne.symm; assumption)) | omega)
  have h2 := hx12 _ _ h2 (by first | assumption | (obtain ⟨y1, y2, y3, y4, y5⟩ := hQg; first | assumption | (apply Ne.symm; assumption)) | (obtain ⟨y1, y2, y3, y4, y5⟩ := hQa; first | assumption | (apply Ne.symm; assumption)) | (obtain ⟨z1, z2, z3, z4, z5, z6, z7, z8, z9, z10⟩ := hNE; first | assumption | (apply Ne.symm; assumption)) | (obtain ⟨y1, y2, y3, y4, y5⟩ := hq5; first | assumption | (apply Ne.symm; assumption)) | omega)
  have ha9 := hx12 _ _ ha9 (by first | assumption | (obtain ⟨y1, y2, y3, y4, y5⟩ := hQg; first | assumption | (apply Ne.symm; assumption)) | (obtain ⟨y1, y2, y3, y4, y5⟩ := hQa; first | assumption | (apply Ne.symm; assumption)) | (obtain ⟨z1, z2, z3, z4, z5, z6, z7, z8, z9, z10⟩ := hNE; first | assumption | (apply Ne.symm; assumption)) | (obtain ⟨y1, y2, y3, y4, y5⟩ := hq5; first | assumption | (apply Ne.symm; assumption)) | omega)
  have join569 : ∀ (H : Heap) (locs : List Loc) (ls : Array Slot), Wd X w7 s H → va_S (cxA X) s.heap H locs → lv_has ls 14 [(5, .int (iI (1 + dm0))), (0, .ref y), (1, .ref h), (2, .ref gq), (3, .ref aq), (4, .int (iI (bz (decide (σ 4 < σ 1)))))] → W p l e (rmG 11 1500 6000 260) s m (List.toArray [.ref y, .ref h, .ref gq, .ref aq]) below meth c H locs (kc0 + 0 + 0) (ks0 + 0 + 0) (MX X below (List.toArray [.ref y, .ref h, .ref gq, .ref aq]) s 1500 6000 (some (.int (iI (bz true)))) (fun w' => ∃ σ2 af2 : Int → Int, LwS X w' N y h gq aq σ2 af2 ∧ (0 ≤ af2 8 ∧ af2 8 ≤ af 8 + 1000))) (F0 m 569 ls [.int (iI (bz (decide (db = 0))))]) := by
    intro  H locs ls  hW hS hl
    refine lv_istore (lv' := [(6, .int (iI (bz (decide (db = 0))))), (5, .int (iI (1 + dm0))), (0, .ref y), (1, .ref h), (2, .ref gq), (3, .ref aq), (4, .int (iI (bz (decide (σ 4 < σ 1)))))]) F.1 F.2.1 dL_acts_569 hl (by decide) rfl (fun ls hl => ?_)
    have hAp : ownA X w7 h σ := hO0.1.ex (fun q e h9 => by have hN9 := (wr_some.mp h9).1; have h9 := (wr_some.mp h9).2; have hqg : q ≠ gq := fun e9 => hN9 (e9 ▸ hNN.2.1); have hqa : q ≠ aq := fun e9 => hN9 (e9 ▸ hNN.2.2); have hqy : outY y q := outY.nN hNy hN9; have h9 := hx6 q e h9 (by first | assumption | (obtain ⟨y1, y2, y3, y4, y5⟩ := hQg; first | assumption | (apply Ne.symm; assumption)) | (obtain ⟨y1, y2, y3, y4, y5⟩ := hQa; first | assumption | (apply Ne.symm; assumption)) | (obtain ⟨z1, z2, z3, z4, z5, z6, z7, z8, z9, z10⟩ := hNE; first | assumption | (apply Ne.symm; assumption)) | (obtain ⟨y1, y2, y3, y4, y5⟩ := hq5; first | assumption | (apply Ne.symm; assumption)) | omega); have h9 := hx12 q e h9 (by first | assumption | (obtain ⟨y1, y2, y3, y4, y5⟩ := hQg; first | assumption | (apply Ne.symm; assumption)) | (obtain ⟨y1, y2, y3, y4, y5⟩ := hQa; first | assumption | (apply Ne.symm; assumption)) | (obtain ⟨z1, z2, z3, z4, z5, z6, z7, z8, z9, z10⟩ := hNE; first | assumption | (apply Ne.symm; assumption)) | (obtain ⟨y1, y2, y3, y4, y5⟩ := hq5; first | assumption | (apply Ne.symm; assumption)) | omega); exact h9)
    refine lv_aload_n F.1 F.2.1 dL_acts_571 rfl (lv_at hl 3 rfl) ?_
    refine cl_RL_186 (As := []) (rest := []) F hl (c_X10_rows l X w7 h σ hAp) hW hS h1 rfl rfl ⟨Nat.le_of_ble_eq_true rfl, Nat.le_of_ble_eq_true rfl⟩ (Nat.le_of_ble_eq_true rfl) ⟨(by show kc0 + 0 + 0 + 0 ≤ 1500; omega), (by show ks0 + 0 + 0 + 0 ≤ 6000; omega)⟩ dL_acts_572 (fun w1 H locs hp13 hW hS => ?_)
    rw [hp13] at hW; clear hp13; clear w1
    refine lv_iload F.1 F.2.1 dL_acts_575 (lv_at hl 1 rfl) ?_
    refine h_iadd (a := σ 4) (b := 1 + dm0) F dL_acts_577 ?_
    refine lv_aload_n F.1 F.2.1 dL_acts_578 rfl (lv_at hl 3 rfl) ?_
    refine gf_RL_66 F hW h1 rfl dL_acts_579 ?_
    refine h_icle (tgt := 590) F dL_acts_582 (by decide) (by omega) (fun c14 => ?_) (fun c14 => ?_)
    · refine lv_aload_n F.1 F.2.1 dL_acts_590 rfl (lv_at hl 3 rfl) ?_
      refine lv_iload F.1 F.2.1 dL_acts_591 (lv_at hl 1 rfl) ?_
      refine lv_iload F.1 F.2.1 dL_acts_593 (lv_at hl 0 rfl) ?_
      refine cl_RL_264 (As := [.int (iI (1 + dm0)), .int (iI (bz (decide (db = 0))))]) (rest := []) F hl (c_X10_enough l X w7 h σ (1 + dm0) (decide (db = 0)) hAp (by omega)) hW hS h1 rfl rfl ⟨Nat.le_of_ble_eq_true rfl, Nat.le_of_ble_eq_true rfl⟩ (Nat.le_of_ble_eq_true rfl) ⟨(by show kc0 + 0 + 0 + 0 + 248 ≤ 1500; omega), (by show ks0 + 0 + 0 + 0 + 995 ≤ 6000; omega)⟩ dL_acts_595 (fun w1 H locs hp15 hW hS => ?_)
      rw [hp15] at hW; clear hp15; clear w1
      refine h_ifeqb (tgt := 605) F dL_acts_598 (by decide) (fun c16 => ?_) (fun c16 => ?_)
      · have hen := c16
        skip
        refine h_bipush F dL_acts_605 rfl ?_
        refine lv_istore (lv' := [(7, .int (iI (-2))), (6, .int (iI (bz (decide (db = 0))))), (5, .int (iI (1 + dm0))), (0, .ref y), (1, .ref h), (2, .ref gq), (3, .ref aq), (4, .int (iI (bz (decide (σ 4 < σ 1)))))]) F.1 F.2.1 dL_acts_607 hl (by decide) rfl (fun ls hl => ?_)
        skip
        skip
        skip
        skip
        skip
        skip
        refine h_iconst F dL_acts_609 ?_
        refine lv_istore (lv' := [(8, .int (iI 0)), (7, .int (iI (-2))), (6, .int (iI (bz (decide (db = 0))))), (5, .int (iI (1 + dm0))), (0, .ref y), (1, .ref h), (2, .ref gq), (3, .ref aq), (4, .int (iI (bz (decide (σ 4 < σ 1)))))]) F.1 F.2.1 dL_acts_610 hl (by decide) rfl (fun ls hl => ?_)
        refine lv_iload F.1 F.2.1 dL_acts_612 (lv_at hl 0 rfl) ?_
        refine lv_iload F.1 F.2.1 dL_acts_614 (lv_at hl 3 rfl) ?_
        refine h_icge (tgt := 642) F dL_acts_616 (by decide) (by omega) (fun c9 => absurd c9 (by omega)) (fun _ => ?_)
        refine lv_iload F.1 F.2.1 dL_acts_619 (lv_at hl 1 rfl) ?_
        refine h_iflt (tgt := 642) F dL_acts_621 (by decide) (by decide) (fun _ => ?_) (fun c9 => absurd c9 (by decide))
        skip
        skip
        skip
        skip
        skip
        skip
        have hOn := hO0
        skip
        skip
        skip
        skip
        skip
        refine lv_aload_n F.1 F.2.1 dL_acts_642 rfl (lv_at hl 6 rfl) ?_
        refine h_iconst F dL_acts_643 ?_
        refine cr_RL_45 (As := [.ref gq, .int (iI 3)]) (rest := []) F hl (c_L_draw l X w7 gq g2 3 ha11 (by omega)) hW hS rfl rfl ⟨Nat.le_of_ble_eq_true rfl, Nat.le_of_ble_eq_true rfl⟩ (Nat.le_of_ble_eq_true rfl) ⟨(by show kc0 + 0 + 0 + 0 + 248 + 0 ≤ 1500; omega), (by show ks0 + 0 + 0 + 0 + 995 + 0 ≤ 6000; omega)⟩ dL_acts_644 (fun v20 w18 H locs hp19 hW hS => ?_)
        obtain ⟨dq, g5, rfl, hm21, ha22, hx23⟩ := hp19
        have h1 := hx23 _ _ h1 (by first | assumption | (obtain ⟨y1, y2, y3, y4, y5⟩ := hQg; first | assumption | (apply Ne.symm; assumption)) | (obtain ⟨y1, y2, y3, y4, y5⟩ := hQa; first | assumption | (apply Ne.symm; assumption)) | (obtain ⟨z1, z2, z3, z4, z5, z6, z7, z8, z9, z10⟩ := hNE; first | assumption | (apply Ne.symm; assumption)) | (obtain ⟨y1, y2, y3, y4, y5⟩ := hq5; first | assumption | (apply Ne.symm; assumption)) | omega)
        have h5 := hx23 _ _ h5 (by first | assumption | (obtain ⟨y1, y2, y3, y4, y5⟩ := hQg; first | assumption | (apply Ne.symm; assumption)) | (obtain ⟨y1, y2, y3, y4, y5⟩ := hQa; first | assumption | (apply Ne.symm; assumption)) | (obtain ⟨z1, z2, z3, z4, z5, z6, z7, z8, z9, z10⟩ := hNE; first | assumption | (apply Ne.symm; assumption)) | (obtain ⟨y1, y2, y3, y4, y5⟩ := hq5; first | assumption | (apply Ne.symm; assumption)) | omega)
        have h3 := hx23 _ _ h3 (by first | assumption | (obtain ⟨y1, y2, y3, y4, y5⟩ := hQg; first | assumption | (apply Ne.symm; assumption)) | (obtain ⟨y1, y2, y3, y4, y5⟩ := hQa; first | assumption | (apply Ne.symm; assumption)) | (obtain ⟨z1, z2, z3, z4, z5, z6, z7, z8, z9, z10⟩ := hNE; first | assumption | (apply Ne.symm; assumption)) | (obtain ⟨y1, y2, y3, y4, y5⟩ := hq5; first | assumption | (apply Ne.symm; assumption)) | omega)
        have h5e := hx23 _ _ h5e (by first | assumption | (obtain ⟨y1, y2, y3, y4, y5⟩ := hQg; first | assumption | (apply Ne.symm; assumption)) | (obtain ⟨y1, y2, y3, y4, y5⟩ := hQa; first | assumption | (apply Ne.symm; assumption)) | (obtain ⟨z1, z2, z3, z4, z5, z6, z7, z8, z9, z10⟩ := hNE; first | assumption | (apply Ne.symm; assumption)) | (obtain ⟨y1, y2, y3, y4, y5⟩ := hq5; first | assumption | (apply Ne.symm; assumption)) | omega)
        have h2 := hx23 _ _ h2 (by first | assumption | (obtain ⟨y1, y2, y3, y4, y5⟩ := hQg; first | assumption | (apply Ne.symm; assumption)) | (obtain ⟨y1, y2, y3, y4, y5⟩ := hQa; first | assumption | (apply Ne.symm; assumption)) | (obtain ⟨z1, z2, z3, z4, z5, z6, z7, z8, z9, z10⟩ := hNE; first | assumption | (apply Ne.symm; assumption)) | (obtain ⟨y1, y2, y3, y4, y5⟩ := hq5; first | assumption | (apply Ne.symm; assumption)) | omega)
        have ha9 := hx23 _ _ ha9 (by first | assumption | (obtain ⟨y1, y2, y3, y4, y5⟩ := hQg; first | assumption | (apply Ne.symm; assumption)) | (obtain ⟨y1, y2, y3, y4, y5⟩ := hQa; first | assumption | (apply Ne.symm; assumption)) | (obtain ⟨z1, z2, z3, z4, z5, z6, z7, z8, z9, z10⟩ := hNE; first | assumption | (apply Ne.symm; assumption)) | (obtain ⟨y1, y2, y3, y4, y5⟩ := hq5; first | assumption | (apply Ne.symm; assumption)) | omega)
        refine h_ifle (tgt := 665) F dL_acts_647 (by decide) (by omega) (fun c24 => ?_) (fun c24 => ?_)
        · have hKn : KS X w18 y σ nx sz pas ac := hK.ex (fun q e q0 q1 h9 => by have hqg := hog.ne q0 q1; have hqa := hoa.ne q0 q1; have hq5 := hQ5 q (hNy q q0 q1); have hqe9 : q ≠ ec := fun e9 => hNl.2 (e9 ▸ hNy q q0 q1); have hqe8 : q ≠ ec ∨ kc = 0 := Or.inl hqe9; have h9 := hx6 q e h9 (by first | assumption | (obtain ⟨y1, y2, y3, y4, y5⟩ := hQg; first | assumption | (apply Ne.symm; assumption)) | (obtain ⟨y1, y2, y3, y4, y5⟩ := hQa; first | assumption | (apply Ne.symm; assumption)) | (obtain ⟨z1, z2, z3, z4, z5, z6, z7, z8, z9, z10⟩ := hNE; first | assumption | (apply Ne.symm; assumption)) | (obtain ⟨y1, y2, y3, y4, y5⟩ := hq5; first | assumption | (apply Ne.symm; assumption)) | omega); have h9 := hx12 q e h9 (by first | assumption | (obtain ⟨y1, y2, y3, y4, y5⟩ := hQg; first | assumption | (apply Ne.symm; assumption)) | (obtain ⟨y1, y2, y3, y4, y5⟩ := hQa; first | assumption | (apply Ne.symm; assumption)) | (obtain ⟨z1, z2, z3, z4, z5, z6, z7, z8, z9, z10⟩ := hNE; first | assumption | (apply Ne.symm; assumption)) | (obtain ⟨y1, y2, y3, y4, y5⟩ := hq5; first | assumption | (apply Ne.symm; assumption)) | omega); have h9 := hx23 q e h9 (by first | assumption | (obtain ⟨y1, y2, y3, y4, y5⟩ := hQg; first | assumption | (apply Ne.symm; assumption)) | (obtain ⟨y1, y2, y3, y4, y5⟩ := hQa; first | assumption | (apply Ne.symm; assumption)) | (obtain ⟨z1, z2, z3, z4, z5, z6, z7, z8, z9, z10⟩ := hNE; first | assumption | (apply Ne.symm; assumption)) | (obtain ⟨y1, y2, y3, y4, y5⟩ := hq5; first | assumption | (apply Ne.symm; assumption)) | omega); exact h9)
          obtain ⟨du, hdu9⟩ : ∃ du : Int, du = (-2) := ⟨_, rfl⟩
          obtain ⟨b, hb9⟩ : ∃ b : Bool, b = decide (db = 0) := ⟨_, rfl⟩
          skip
          have hdu0 : -3 ≤ du ∧ du ≤ 9999 := by omega
          have hag8 : 0 ≤ (af) 8 ∧ (af) 8 ≤ af 8 + 1000 := by omega
          have eq25 : (bz b : Int) = bz (decide (db = 0)) := by rw [hb9]
          have eq26 : (du : Int) = (-2) := hdu9
          exact sg_acts_665 l X w18 y h gq aq N σ af  σ ac af g5 nx sz dm0 du b pas hog hoa hga hNN (hOn.cl hNN (fun q e h9 hc1 hc2 hc3 => by have h9 := hx6 q e h9 (by first | assumption | (obtain ⟨y1, y2, y3, y4, y5⟩ := hQg; first | assumption | (apply Ne.symm; assumption)) | (obtain ⟨y1, y2, y3, y4, y5⟩ := hQa; first | assumption | (apply Ne.symm; assumption)) | (obtain ⟨z1, z2, z3, z4, z5, z6, z7, z8, z9, z10⟩ := hNE; first | assumption | (apply Ne.symm; assumption)) | (obtain ⟨y1, y2, y3, y4, y5⟩ := hq5; first | assumption | (apply Ne.symm; assumption)) | omega); have h9 := hx12 q e h9 (by first | assumption | (obtain ⟨y1, y2, y3, y4, y5⟩ := hQg; first | assumption | (apply Ne.symm; assumption)) | (obtain ⟨y1, y2, y3, y4, y5⟩ := hQa; first | assumption | (apply Ne.symm; assumption)) | (obtain ⟨z1, z2, z3, z4, z5, z6, z7, z8, z9, z10⟩ := hNE; first | assumption | (apply Ne.symm; assumption)) | (obtain ⟨y1, y2, y3, y4, y5⟩ := hq5; first | assumption | (apply Ne.symm; assumption)) | omega); have h9 := hx23 q e h9 (by first | assumption | (obtain ⟨y1, y2, y3, y4, y5⟩ := hQg; first | assumption | (apply Ne.symm; assumption)) | (obtain ⟨y1, y2, y3, y4, y5⟩ := hQa; first | assumption | (apply Ne.symm; assumption)) | (obtain ⟨z1, z2, z3, z4, z5, z6, z7, z8, z9, z10⟩ := hNE; first | assumption | (apply Ne.symm; assumption)) | (obtain ⟨y1, y2, y3, y4, y5⟩ := hq5; first | assumption | (apply Ne.symm; assumption)) | omega); exact h9) ha22 ha9 hKn.kn) hKn hacc ha22 ha9 hag8 (by omega) hdu0 (Or.inr (Or.inl ⟨by omega, by rw [hb9]; exact hen, hdu9, rfl, rfl⟩)) F hr hlk hZ0 hB9 (by omega) (by omega) hW hS (by rw [eq25, eq26]; exact lv_sub hl [4, 5, 6, 7, 3, 2, 1] rfl)
        · have hKn : KS X w18 y σ nx sz pas ac := hK.ex (fun q e q0 q1 h9 => by have hqg := hog.ne q0 q1; have hqa := hoa.ne q0 q1; have hq5 := hQ5 q (hNy q q0 q1); have hqe9 : q ≠ ec := fun e9 => hNl.2 (e9 ▸ hNy q q0 q1); have hqe8 : q ≠ ec ∨ kc = 0 := Or.inl hqe9; have h9 := hx6 q e h9 (by first | assumption | (obtain ⟨y1, y2, y3, y4, y5⟩ := hQg; first | assumption | (apply Ne.symm; assumption)) | (obtain ⟨y1, y2, y3, y4, y5⟩ := hQa; first | assumption | (apply Ne.symm; assumption)) | (obtain ⟨z1, z2, z3, z4, z5, z6, z7, z8, z9, z10⟩ := hNE; first | assumption | (apply Ne.symm; assumption)) | (obtain ⟨y1, y2, y3, y4, y5⟩ := hq5; first | assumption | (apply Ne.symm; assumption)) | omega); have h9 := hx12 q e h9 (by first | assumption | (obtain ⟨y1, y2, y3, y4, y5⟩ := hQg; first | assumption | (apply Ne.symm; assumption)) | (obtain ⟨y1, y2, y3, y4, y5⟩ := hQa; first | assumption | (apply Ne.symm; assumption)) | (obtain ⟨z1, z2, z3, z4, z5, z6, z7, z8, z9, z10⟩ := hNE; first | assumption | (apply Ne.symm; assumption)) | (obtain ⟨y1, y2, y3, y4, y5⟩ := hq5; first | assumption | (apply Ne.symm; assumption)) | omega); have h9 := hx23 q e h9 (by first | assumption | (obtain ⟨y1, y2, y3, y4, y5⟩ := hQg; first | assumption | (apply Ne.symm; assumption)) | (obtain ⟨y1, y2, y3, y4, y5⟩ := hQa; first | assumption | (apply Ne.symm; assumption)) | (obtain ⟨z1, z2, z3, z4, z5, z6, z7, z8, z9, z10⟩ := hNE; first | assumption | (apply Ne.symm; assumption)) | (obtain ⟨y1, y2, y3, y4, y5⟩ := hq5; first | assumption | (apply Ne.symm; assumption)) | omega); exact h9)
          obtain ⟨su9, tx9, M9, oo9, rv9, hC9⟩ := id hKn
          have hYc := hC9.1
          refine lv_aload_n F.1 F.2.1 dL_acts_650 rfl (lv_at hl 4 rfl) ?_
          refine lv_iload F.1 F.2.1 dL_acts_651 (lv_at hl 3 rfl) ?_
          refine lv_iload F.1 F.2.1 dL_acts_653 (lv_at hl 2 rfl) ?_
          refine cl_RL_352 (As := [.int (iI (1 + dm0)), .int (iI (bz (decide (db = 0))))]) (rest := []) F hl (k_weave_r2 l X w18 y σ nx sz pas ac (1 + dm0) (decide (db = 0)) hKn (by omega) (by omega) hen) hW hS hYc rfl rfl ⟨Nat.le_of_ble_eq_true rfl, Nat.le_of_ble_eq_true rfl⟩ (Nat.le_of_ble_eq_true rfl) ⟨(by show kc0 + 0 + 0 + 0 + 248 + 0 + 0 ≤ 1500; omega), (by show ks0 + 0 + 0 + 0 + 995 + 0 + 0 ≤ 6000; omega)⟩ dL_acts_655 (fun w27 H locs hp28 hW hS => ?_)
          obtain ⟨hK2, hx29⟩ := hp28
          have h1 := hx29 _ _ h1 (by assumption)
          have h2 := hx29 _ _ h2 (by assumption)
          have ha22 := hx29 _ _ ha22 (by assumption)
          have ha9 := hx29 _ _ ha9 (by assumption)
          skip
          skip
          refine lv_iload F.1 F.2.1 dL_acts_658 (lv_at hl 1 rfl) ?_
          refine lv_aload_n F.1 F.2.1 dL_acts_660 rfl (lv_at hl 7 rfl) ?_
          refine cl_RL_329 (As := [.int (iI (-2)), .int (iI (-2)), .ref aq]) (rest := []) F hl (c_L_is l X w27 aq af (-2) (-2) ha9 (by omega)) hW hS rfl rfl ⟨Nat.le_of_ble_eq_true rfl, Nat.le_of_ble_eq_true rfl⟩ (Nat.le_of_ble_eq_true rfl) ⟨(by show kc0 + 0 + 0 + 0 + 248 + 0 + 0 + 0 ≤ 1500; omega), (by show ks0 + 0 + 0 + 0 + 995 + 0 + 0 + 0 ≤ 6000; omega)⟩ dL_acts_661 (fun w30 H locs hp31 hW hS => ?_)
          obtain ⟨ha32, hn33⟩ := hp31
          have h1 := (hn33 _ (by first | assumption | (obtain ⟨y1, y2, y3, y4, y5⟩ := hQg; first | assumption | (apply Ne.symm; assumption)) | (obtain ⟨y1, y2, y3, y4, y5⟩ := hQa; first | assumption | (apply Ne.symm; assumption)) | (obtain ⟨z1, z2, z3, z4, z5, z6, z7, z8, z9, z10⟩ := hNE; first | assumption | (apply Ne.symm; assumption)) | (obtain ⟨y1, y2, y3, y4, y5⟩ := hq5; first | assumption | (apply Ne.symm; assumption)) | omega)).trans h1
          have h2 := (hn33 _ (by first | assumption | (obtain ⟨y1, y2, y3, y4, y5⟩ := hQg; first | assumption | (apply Ne.symm; assumption)) | (obtain ⟨y1, y2, y3, y4, y5⟩ := hQa; first | assumption | (apply Ne.symm; assumption)) | (obtain ⟨z1, z2, z3, z4, z5, z6, z7, z8, z9, z10⟩ := hNE; first | assumption | (apply Ne.symm; assumption)) | (obtain ⟨y1, y2, y3, y4, y5⟩ := hq5; first | assumption | (apply Ne.symm; assumption)) | omega)).trans h2
          have ha22 := (hn33 _ (by first | assumption | (obtain ⟨y1, y2, y3, y4, y5⟩ := hQg; first | assumption | (apply Ne.symm; assumption)) | (obtain ⟨y1, y2, y3, y4, y5⟩ := hQa; first | assumption | (apply Ne.symm; assumption)) | (obtain ⟨z1, z2, z3, z4, z5, z6, z7, z8, z9, z10⟩ := hNE; first | assumption | (apply Ne.symm; assumption)) | (obtain ⟨y1, y2, y3, y4, y5⟩ := hq5; first | assumption | (apply Ne.symm; assumption)) | omega)).trans ha22
          refine W.wd (mc := 1500) (ms := 6000) (by omega) (by omega) ?_
          skip
          have hK3 := hK2.ex (w2 := w30) (fun q e q0 q1 h9 => by have hqg := hog.ne q0 q1; have hqa := hoa.ne q0 q1; have h9 := (hn33 q (by first | assumption | (obtain ⟨y1, y2, y3, y4, y5⟩ := hQg; first | assumption | (apply Ne.symm; assumption)) | (obtain ⟨y1, y2, y3, y4, y5⟩ := hQa; first | assumption | (apply Ne.symm; assumption)) | (obtain ⟨z1, z2, z3, z4, z5, z6, z7, z8, z9, z10⟩ := hNE; first | assumption | (apply Ne.symm; assumption)) | (obtain ⟨y1, y2, y3, y4, y5⟩ := hq5; first | assumption | (apply Ne.symm; assumption)) | omega)).trans h9; exact h9)
          have hfin : LwS X w30 N y h gq aq σ (up af (if (-2) < 0 then -(-2) else 0) (af (if (-2) < 0 then -(-2) else 0) + 1)) := LwS.fin hOn hNN hout3 (fun q e h9 hc1 hc2 hc3 => by have h9 := hx6 q e h9 (by first | assumption | (obtain ⟨y1, y2, y3, y4, y5⟩ := hQg; first | assumption | (apply Ne.symm; assumption)) | (obtain ⟨y1, y2, y3, y4, y5⟩ := hQa; first | assumption | (apply Ne.symm; assumption)) | (obtain ⟨z1, z2, z3, z4, z5, z6, z7, z8, z9, z10⟩ := hNE; first | assumption | (apply Ne.symm; assumption)) | (obtain ⟨y1, y2, y3, y4, y5⟩ := hq5; first | assumption | (apply Ne.symm; assumption)) | omega); have h9 := hx12 q e h9 (by first | assumption | (obtain ⟨y1, y2, y3, y4, y5⟩ := hQg; first | assumption | (apply Ne.symm; assumption)) | (obtain ⟨y1, y2, y3, y4, y5⟩ := hQa; first | assumption | (apply Ne.symm; assumption)) | (obtain ⟨z1, z2, z3, z4, z5, z6, z7, z8, z9, z10⟩ := hNE; first | assumption | (apply Ne.symm; assumption)) | (obtain ⟨y1, y2, y3, y4, y5⟩ := hq5; first | assumption | (apply Ne.symm; assumption)) | omega); have h9 := hx23 q e h9 (by first | assumption | (obtain ⟨y1, y2, y3, y4, y5⟩ := hQg; first | assumption | (apply Ne.symm; assumption)) | (obtain ⟨y1, y2, y3, y4, y5⟩ := hQa; first | assumption | (apply Ne.symm; assumption)) | (obtain ⟨z1, z2, z3, z4, z5, z6, z7, z8, z9, z10⟩ := hNE; first | assumption | (apply Ne.symm; assumption)) | (obtain ⟨y1, y2, y3, y4, y5⟩ := hq5; first | assumption | (apply Ne.symm; assumption)) | omega); have h9 := hx29 q e h9 (by assumption); have h9 := (hn33 q (by first | assumption | (obtain ⟨y1, y2, y3, y4, y5⟩ := hQg; first | assumption | (apply Ne.symm; assumption)) | (obtain ⟨y1, y2, y3, y4, y5⟩ := hQa; first | assumption | (apply Ne.symm; assumption)) | (obtain ⟨z1, z2, z3, z4, z5, z6, z7, z8, z9, z10⟩ := hNE; first | assumption | (apply Ne.symm; assumption)) | (obtain ⟨y1, y2, y3, y4, y5⟩ := hq5; first | assumption | (apply Ne.symm; assumption)) | omega)).trans h9; exact h9) ha22 ha32 hK3 (ac_is hacc (rfl) (by decide))
          have hb8 : 0 ≤ (up af (if (-2) < 0 then -(-2) else 0) (af (if (-2) < 0 then -(-2) else 0) + 1)) 8 ∧ (up af (if (-2) < 0 then -(-2) else 0) (af (if (-2) < 0 then -(-2) else 0) + 1)) 8 ≤ af 8 + 1000 := by rw [ac_1 (rfl) (by decide)]; omega
          refine h_top (show (bz (decide ((-2) = (-2))) : Int) = bz true from congrArg bz (decide_eq_true (by omega))) ?_
          exact h_iretz F hr hlk hW hS ⟨_, _, hfin, hb8⟩ dL_acts_664
      · have hen := c16
        skip
        refine h_iconst F dL_acts_601 ?_
        refine h_goto (tgt := 607) F dL_acts_602 (by decide) ?_
        refine lv_istore (lv' := [(7, .int (iI 0)), (6, .int (iI (bz (decide (db = 0))))), (5, .int (iI (1 + dm0))), (0, .ref y), (1, .ref h), (2, .ref gq), (3, .ref aq), (4, .int (iI (bz (decide (σ 4 < σ 1)))))]) F.1 F.2.1 dL_acts_607 hl (by decide) rfl (fun ls hl => ?_)
        have hm9 : (((1 + dm0).toNat : Nat) : Int) = 1 + dm0 := by omega
        have hwa := wea_all (b := decide (db = 0)) hWF (1 + dm0).toNat (by omega) (by rw [hm9]; exact eno_he hen)
        have hNg := hNN.2.1
        have hNa := hNN.2.2
        have hNM9 : ∀ (q : Nat) (e : va_E), w q = some e → N q → q ≠ gq → w7 q = some e := fun q e h9 h09 h19 => by have hq5 := hQ5 q h09; have h9 := hx6 q e h9 (by first | assumption | (obtain ⟨y1, y2, y3, y4, y5⟩ := hQg; first | assumption | (apply Ne.symm; assumption)) | (obtain ⟨y1, y2, y3, y4, y5⟩ := hQa; first | assumption | (apply Ne.symm; assumption)) | (obtain ⟨z1, z2, z3, z4, z5, z6, z7, z8, z9, z10⟩ := hNE; first | assumption | (apply Ne.symm; assumption)) | (obtain ⟨y1, y2, y3, y4, y5⟩ := hq5; first | assumption | (apply Ne.symm; assumption)) | omega); have h9 := hx12 q e h9 (by first | assumption | (obtain ⟨y1, y2, y3, y4, y5⟩ := hQg; first | assumption | (apply Ne.symm; assumption)) | (obtain ⟨y1, y2, y3, y4, y5⟩ := hQa; first | assumption | (apply Ne.symm; assumption)) | (obtain ⟨z1, z2, z3, z4, z5, z6, z7, z8, z9, z10⟩ := hNE; first | assumption | (apply Ne.symm; assumption)) | (obtain ⟨y1, y2, y3, y4, y5⟩ := hq5; first | assumption | (apply Ne.symm; assumption)) | omega); exact h9
        have hOn0 : ownN X w7 N h σ := hO0.of (hO0.1.ex (fun q e h9 => by have hN9 := (wr_some.mp h9).1; have h9 := (wr_some.mp h9).2; have hqg : q ≠ gq := fun e9 => hN9 (e9 ▸ hNN.2.1); have hqa : q ≠ aq := fun e9 => hN9 (e9 ▸ hNN.2.2); have hqy : outY y q := outY.nN hNy hN9; have h9 := hx6 q e h9 (by first | assumption | (obtain ⟨y1, y2, y3, y4, y5⟩ := hQg; first | assumption | (apply Ne.symm; assumption)) | (obtain ⟨y1, y2, y3, y4, y5⟩ := hQa; first | assumption | (apply Ne.symm; assumption)) | (obtain ⟨z1, z2, z3, z4, z5, z6, z7, z8, z9, z10⟩ := hNE; first | assumption | (apply Ne.symm; assumption)) | (obtain ⟨y1, y2, y3, y4, y5⟩ := hq5; first | assumption | (apply Ne.symm; assumption)) | omega); have h9 := hx12 q e h9 (by first | assumption | (obtain ⟨y1, y2, y3, y4, y5⟩ := hQg; first | assumption | (apply Ne.symm; assumption)) | (obtain ⟨y1, y2, y3, y4, y5⟩ := hQa; first | assumption | (apply Ne.symm; assumption)) | (obtain ⟨z1, z2, z3, z4, z5, z6, z7, z8, z9, z10⟩ := hNE; first | assumption | (apply Ne.symm; assumption)) | (obtain ⟨y1, y2, y3, y4, y5⟩ := hq5; first | assumption | (apply Ne.symm; assumption)) | omega); exact wr_some.mpr ⟨hN9, h9⟩)) hNM9 (kn_e ha11)
        refine h_iconst F dL_acts_609 ?_
        refine lv_istore (lv' := [(8, .int (iI 0)), (7, .int (iI 0)), (6, .int (iI (bz (decide (db = 0))))), (5, .int (iI (1 + dm0))), (0, .ref y), (1, .ref h), (2, .ref gq), (3, .ref aq), (4, .int (iI (bz (decide (σ 4 < σ 1)))))]) F.1 F.2.1 dL_acts_610 hl (by decide) rfl (fun ls hl => ?_)
        have loop612 : ∀ (n9 : Nat) (k : Int) (kc612 ks612 : Nat), (hrg : 0 ≤ k ∧ k ≤ 1 + dm0) → (hms : 1 + dm0 - k < (n9 : Int)) → (w6 : Wo) → (hF612 : ∀ (q : Nat) (e : va_E), w7 q = some e → N q → q ≠ aq → w6 q = some e) → (hkc612 : ((kc612 : Nat) : Int) ≤ ((kc0 + 0 + 0 + 0 + 248 : Nat) : Int) + 50 * k) → (hks612 : ((ks612 : Nat) : Int) ≤ ((ks0 + 0 + 0 + 0 + 995 : Nat) : Int) + 220 * k) → (hOk : ownN X w6 N h (weaveN σ (decide (db = 0)) k.toNat)) → (ha9k : w6 aq = some (aZ X 9 (up af 8 (af 8 + macN σ (decide (db = 0)) (k).toNat)))) → (H : Heap) → (locs : List Loc) → (ls : Array Slot) → Wd X w6 s H → va_S (cxA X) s.heap H locs → lv_has ls 14 [(7, .int (iI (sm (fun z => misRow (weaveN σ (decide (db = 0)) (z.toNat + 1)) (σ 4 + z)) 0 k))), (8, .int (iI k)), (6, .int (iI (bz (decide (db = 0))))), (5, .int (iI (1 + dm0))), (0, .ref y), (1, .ref h), (2, .ref gq), (3, .ref aq), (4, .int (iI (bz (decide (σ 4 < σ 1)))))] → W p l e (rmG 11 1500 6000 260) s m (List.toArray [.ref y, .ref h, .ref gq, .ref aq]) below meth c H locs kc612 ks612 (MX X below (List.toArray [.ref y, .ref h, .ref gq, .ref aq]) s 1500 6000 (some (.int (iI (bz true)))) (fun w' => ∃ σ2 af2 : Int → Int, LwS X w' N y h gq aq σ2 af2 ∧ (0 ≤ af2 8 ∧ af2 8 ≤ af 8 + 1000))) (F0 m 612 ls []) := by
          intro n9
          induction n9 with
          | zero => intro k kc612 ks612  hrg hms; exfalso; omega
          | succ n9 ih612 =>
            intro k kc612 ks612  hrg hms w6 hF612 hkc612 hks612 hOk ha9k H locs ls hW hS hl
            have ha11 := hF612 _ _ ha11 (by first | assumption | (obtain ⟨y1, y2, y3, y4, y5⟩ := hQg; first | assumption | (apply Ne.symm; assumption)) | (obtain ⟨y1, y2, y3, y4, y5⟩ := hQa; first | assumption | (apply Ne.symm; assumption)) | (obtain ⟨z1, z2, z3, z4, z5, z6, z7, z8, z9, z10⟩ := hNE; first | assumption | (apply Ne.symm; assumption)) | (obtain ⟨y1, y2, y3, y4, y5⟩ := hq5; first | assumption | (apply Ne.symm; assumption)) | omega) (by first | assumption | (obtain ⟨y1, y2, y3, y4, y5⟩ := hQg; first | assumption | (apply Ne.symm; assumption)) | (obtain ⟨y1, y2, y3, y4, y5⟩ := hQa; first | assumption | (apply Ne.symm; assumption)) | (obtain ⟨z1, z2, z3, z4, z5, z6, z7, z8, z9, z10⟩ := hNE; first | assumption | (apply Ne.symm; assumption)) | (obtain ⟨y1, y2, y3, y4, y5⟩ := hq5; first | assumption | (apply Ne.symm; assumption)) | omega)
            have hls := sm_r (f := fun z => misRow (weaveN σ (decide (db = 0)) (z.toNat + 1)) (σ 4 + z)) (lo := 0) (hi := k) (M := 40) (by decide) (fun z z0 z1 => misRow_r (hwa (z.toNat + 1) (by omega)).1 _) (by omega)
            refine lv_iload F.1 F.2.1 dL_acts_612 (lv_at hl 1 rfl) ?_
            refine lv_iload F.1 F.2.1 dL_acts_614 (lv_at hl 3 rfl) ?_
            refine h_icge (tgt := 642) F dL_acts_616 (by decide) (by omega) (fun c34 => ?_) (fun c34 => ?_)
            · have hke : k = 1 + dm0 := by omega
              have hKn : KS X w6 y σ nx sz pas ac := hK.ex (fun q e q0 q1 h9 => by have hqg := hog.ne q0 q1; have hqa := hoa.ne q0 q1; have hq5 := hQ5 q (hNy q q0 q1); have hNq := hNy q q0 q1; have h9 := hx6 q e h9 (by first | assumption | (obtain ⟨y1, y2, y3, y4, y5⟩ := hQg; first | assumption | (apply Ne.symm; assumption)) | (obtain ⟨y1, y2, y3, y4, y5⟩ := hQa; first | assumption | (apply Ne.symm; assumption)) | (obtain ⟨z1, z2, z3, z4, z5, z6, z7, z8, z9, z10⟩ := hNE; first | assumption | (apply Ne.symm; assumption)) | (obtain ⟨y1, y2, y3, y4, y5⟩ := hq5; first | assumption | (apply Ne.symm; assumption)) | omega); have h9 := hx12 q e h9 (by first | assumption | (obtain ⟨y1, y2, y3, y4, y5⟩ := hQg; first | assumption | (apply Ne.symm; assumption)) | (obtain ⟨y1, y2, y3, y4, y5⟩ := hQa; first | assumption | (apply Ne.symm; assumption)) | (obtain ⟨z1, z2, z3, z4, z5, z6, z7, z8, z9, z10⟩ := hNE; first | assumption | (apply Ne.symm; assumption)) | (obtain ⟨y1, y2, y3, y4, y5⟩ := hq5; first | assumption | (apply Ne.symm; assumption)) | omega); have h9 := hF612 q e h9 (by first | assumption | (obtain ⟨y1, y2, y3, y4, y5⟩ := hQg; first | assumption | (apply Ne.symm; assumption)) | (obtain ⟨y1, y2, y3, y4, y5⟩ := hQa; first | assumption | (apply Ne.symm; assumption)) | (obtain ⟨z1, z2, z3, z4, z5, z6, z7, z8, z9, z10⟩ := hNE; first | assumption | (apply Ne.symm; assumption)) | (obtain ⟨y1, y2, y3, y4, y5⟩ := hq5; first | assumption | (apply Ne.symm; assumption)) | omega) (by first | assumption | (obtain ⟨y1, y2, y3, y4, y5⟩ := hQg; first | assumption | (apply Ne.symm; assumption)) | (obtain ⟨y1, y2, y3, y4, y5⟩ := hQa; first | assumption | (apply Ne.symm; assumption)) | (obtain ⟨z1, z2, z3, z4, z5, z6, z7, z8, z9, z10⟩ := hNE; first | assumption | (apply Ne.symm; assumption)) | (obtain ⟨y1, y2, y3, y4, y5⟩ := hq5; first | assumption | (apply Ne.symm; assumption)) | omega); exact h9)
              have hKr := hKn
              obtain ⟨τ, hτ⟩ : ∃ τ, τ = weaveN σ (decide (db = 0)) (1 + dm0).toNat := ⟨_, rfl⟩
              have hOn : ownN X w6 N h τ := by rw [hτ, ← hke]; exact hOk
              skip
              skip
              have hmf := wea_mf4 hWF hwa
              rw [hm9, ← hke] at hmf
              have hok := hwa (1 + dm0).toNat (Nat.le_refl _)
              have hmfr := misFrom_r hok.1 (lo := σ 4) (by omega) (by rw [hok.2.2.1]; omega)
              have hmk := mac_r4 hWF hwa (by omega) (1 + dm0).toNat (Nat.le_refl _)
              refine lv_aload_n F.1 F.2.1 dL_acts_642 rfl (lv_at hl 6 rfl) ?_
              refine h_iconst F dL_acts_643 ?_
              refine cr_RL_45 (As := [.ref gq, .int (iI 3)]) (rest := []) F hl (c_L_draw l X w6 gq g2 3 ha11 (by omega)) hW hS rfl rfl ⟨Nat.le_of_ble_eq_true rfl, Nat.le_of_ble_eq_true rfl⟩ (Nat.le_of_ble_eq_true rfl) ⟨(by show kc612 + 0 ≤ 1500; omega), (by show ks612 + 0 ≤ 6000; omega)⟩ dL_acts_644 (fun v37 w35 H locs hp36 hW hS => ?_)
              obtain ⟨dq, g5, rfl, hm38, ha39, hx40⟩ := hp36
              have ha9k := hx40 _ _ ha9k (by first | assumption | (obtain ⟨y1, y2, y3, y4, y5⟩ := hQg; first | assumption | (apply Ne.symm; assumption)) | (obtain ⟨y1, y2, y3, y4, y5⟩ := hQa; first | assumption | (apply Ne.symm; assumption)) | (obtain ⟨z1, z2, z3, z4, z5, z6, z7, z8, z9, z10⟩ := hNE; first | assumption | (apply Ne.symm; assumption)) | (obtain ⟨y1, y2, y3, y4, y5⟩ := hq5; first | assumption | (apply Ne.symm; assumption)) | omega)
              refine h_ifle (tgt := 665) F dL_acts_647 (by decide) (by omega) (fun c41 => ?_) (fun c41 => ?_)
              · have hKn : KS X w35 y σ nx sz pas ac := hKr.ex (fun q e q0 q1 h9 => by have hqg := hog.ne q0 q1; have hqa := hoa.ne q0 q1; have h9 := hx40 q e h9 (by first | assumption | (obtain ⟨y1, y2, y3, y4, y5⟩ := hQg; first | assumption | (apply Ne.symm; assumption)) | (obtain ⟨y1, y2, y3, y4, y5⟩ := hQa; first | assumption | (apply Ne.symm; assumption)) | (obtain ⟨z1, z2, z3, z4, z5, z6, z7, z8, z9, z10⟩ := hNE; first | assumption | (apply Ne.symm; assumption)) | (obtain ⟨y1, y2, y3, y4, y5⟩ := hq5; first | assumption | (apply Ne.symm; assumption)) | omega); exact h9)
                obtain ⟨du, hdu9⟩ : ∃ du : Int, du = sm (fun z => misRow (weaveN σ (decide (db = 0)) (z.toNat + 1)) (σ 4 + z)) 0 k := ⟨_, rfl⟩
                obtain ⟨b, hb9⟩ : ∃ b : Bool, b = decide (db = 0) := ⟨_, rfl⟩
                have hdu1 : 0 ≤ du := by rw [hdu9, hmf, hke]; omega
                have hdu0 : -3 ≤ du ∧ du ≤ 9999 := by rw [hdu9, hmf, hke]; omega
                have hag8 : 0 ≤ (up af 8 (af 8 + macN σ (decide (db = 0)) (k).toNat)) 8 ∧ (up af 8 (af 8 + macN σ (decide (db = 0)) (k).toNat)) 8 ≤ af 8 + 1000 := by rw [up_s, hke]; omega
                have eq42 : (bz b : Int) = bz (decide (db = 0)) := by rw [hb9]
                have eq43 : (du : Int) = sm (fun z => misRow (weaveN σ (decide (db = 0)) (z.toNat + 1)) (σ 4 + z)) 0 k := hdu9
                exact sg_acts_665 l X w35 y h gq aq N σ af  τ ac (up af 8 (af 8 + macN σ (decide (db = 0)) (k).toNat)) g5 nx sz dm0 du b pas hog hoa hga hNN (hOn.cl hNN (fun q e h9 hc1 hc2 hc3 => by have h9 := hx40 q e h9 (by first | assumption | (obtain ⟨y1, y2, y3, y4, y5⟩ := hQg; first | assumption | (apply Ne.symm; assumption)) | (obtain ⟨y1, y2, y3, y4, y5⟩ := hQa; first | assumption | (apply Ne.symm; assumption)) | (obtain ⟨z1, z2, z3, z4, z5, z6, z7, z8, z9, z10⟩ := hNE; first | assumption | (apply Ne.symm; assumption)) | (obtain ⟨y1, y2, y3, y4, y5⟩ := hq5; first | assumption | (apply Ne.symm; assumption)) | omega); exact h9) ha39 ha9k hKn.kn) hKn hacc ha39 ha9k hag8 (by omega) hdu0 (Or.inr (Or.inr ⟨by omega, by rw [hb9]; exact hen, by rw [hb9, hdu9, ← hke]; exact hmf, hdu1, by rw [hb9]; exact hτ, by rw [hb9, ← hke]⟩)) F hr hlk hZ0 hB9 (by omega) (by omega) hW hS (by rw [eq42, eq43]; exact lv_sub hl [4, 5, 6, 7, 3, 2, 0] rfl)
              · have hKn : KS X w35 y σ nx sz pas ac := hKr.ex (fun q e q0 q1 h9 => by have hqg := hog.ne q0 q1; have hqa := hoa.ne q0 q1; have h9 := hx40 q e h9 (by first | assumption | (obtain ⟨y1, y2, y3, y4, y5⟩ := hQg; first | assumption | (apply Ne.symm; assumption)) | (obtain ⟨y1, y2, y3, y4, y5⟩ := hQa; first | assumption | (apply Ne.symm; assumption)) | (obtain ⟨z1, z2, z3, z4, z5, z6, z7, z8, z9, z10⟩ := hNE; first | assumption | (apply Ne.symm; assumption)) | (obtain ⟨y1, y2, y3, y4, y5⟩ := hq5; first | assumption | (apply Ne.symm; assumption)) | omega); exact h9)
                obtain ⟨su9, tx9, M9, oo9, rv9, hC9⟩ := id hKn
                have hYc := hC9.1
                refine lv_aload_n F.1 F.2.1 dL_acts_650 rfl (lv_at hl 4 rfl) ?_
                refine lv_iload F.1 F.2.1 dL_acts_651 (lv_at hl 3 rfl) ?_
                refine lv_iload F.1 F.2.1 dL_acts_653 (lv_at hl 2 rfl) ?_
                refine cl_RL_352 (As := [.int (iI (1 + dm0)), .int (iI (bz (decide (db = 0))))]) (rest := []) F hl (k_weave l X w35 y σ nx sz pas ac (1 + dm0) (decide (db = 0)) hKn (by omega) (by omega) hen) hW hS hYc rfl rfl ⟨Nat.le_of_ble_eq_true rfl, Nat.le_of_ble_eq_true rfl⟩ (Nat.le_of_ble_eq_true rfl) ⟨(by show kc612 + 0 + 0 ≤ 1500; omega), (by show ks612 + 0 + 0 ≤ 6000; omega)⟩ dL_acts_655 (fun w44 H locs hp45 hW hS => ?_)
                obtain ⟨hK2, hx46⟩ := hp45
                have ha39 := hx46 _ _ ha39 (by assumption)
                have ha9k := hx46 _ _ ha9k (by assumption)
                skip
                refine h_top (show (misFrom (weaveN σ (decide (db = 0)) (1 + dm0).toNat) (σ 4) : Int) = sm (fun z => misRow (weaveN σ (decide (db = 0)) (z.toNat + 1)) (σ 4 + z)) 0 k from by rw [hmf, hke]) ?_
                rw [hke] at hmf
                refine lv_iload F.1 F.2.1 dL_acts_658 (lv_at hl 0 rfl) ?_
                refine lv_aload_n F.1 F.2.1 dL_acts_660 rfl (lv_at hl 7 rfl) ?_
                refine cl_RL_329 (As := [.int (iI (sm (fun z => misRow (weaveN σ (decide (db = 0)) (z.toNat + 1)) (σ 4 + z)) 0 k)), .int (iI (sm (fun z => misRow (weaveN σ (decide (db = 0)) (z.toNat + 1)) (σ 4 + z)) 0 k)), .ref aq]) (rest := []) F hl (c_L_is l X w44 aq (up af 8 (af 8 + macN σ (decide (db = 0)) (k).toNat)) (sm (fun z => misRow (weaveN σ (decide (db = 0)) (z.toNat + 1)) (σ 4 + z)) 0 k) (sm (fun z => misRow (weaveN σ (decide (db = 0)) (z.toNat + 1)) (σ 4 + z)) 0 k) ha9k (by omega)) hW hS rfl rfl ⟨Nat.le_of_ble_eq_true rfl, Nat.le_of_ble_eq_true rfl⟩ (Nat.le_of_ble_eq_true rfl) ⟨(by show kc612 + 0 + 0 + 0 ≤ 1500; omega), (by show ks612 + 0 + 0 + 0 ≤ 6000; omega)⟩ dL_acts_661 (fun w47 H locs hp48 hW hS => ?_)
                obtain ⟨ha49, hn50⟩ := hp48
                have ha39 := (hn50 _ (by first | assumption | (obtain ⟨y1, y2, y3, y4, y5⟩ := hQg; first | assumption | (apply Ne.symm; assumption)) | (obtain ⟨y1, y2, y3, y4, y5⟩ := hQa; first | assumption | (apply Ne.symm; assumption)) | (obtain ⟨z1, z2, z3, z4, z5, z6, z7, z8, z9, z10⟩ := hNE; first | assumption | (apply Ne.symm; assumption)) | (obtain ⟨y1, y2, y3, y4, y5⟩ := hq5; first | assumption | (apply Ne.symm; assumption)) | omega)).trans ha39
                refine W.wd (mc := 1500) (ms := 6000) (by omega) (by omega) ?_
                rw [← hτ] at hK2
                have hK3 := hK2.ex (w2 := w47) (fun q e q0 q1 h9 => by have hqg := hog.ne q0 q1; have hqa := hoa.ne q0 q1; have h9 := (hn50 q (by first | assumption | (obtain ⟨y1, y2, y3, y4, y5⟩ := hQg; first | assumption | (apply Ne.symm; assumption)) | (obtain ⟨y1, y2, y3, y4, y5⟩ := hQa; first | assumption | (apply Ne.symm; assumption)) | (obtain ⟨z1, z2, z3, z4, z5, z6, z7, z8, z9, z10⟩ := hNE; first | assumption | (apply Ne.symm; assumption)) | (obtain ⟨y1, y2, y3, y4, y5⟩ := hq5; first | assumption | (apply Ne.symm; assumption)) | omega)).trans h9; exact h9)
                have ha9f := ha49; rw [if_neg (by omega), hke] at ha9f; have hfin : LwS X w47 N y h gq aq τ _ := LwS.fin hOn hNN hout3 (fun q e h9 hc1 hc2 hc3 => by have h9 := hx40 q e h9 (by first | assumption | (obtain ⟨y1, y2, y3, y4, y5⟩ := hQg; first | assumption | (apply Ne.symm; assumption)) | (obtain ⟨y1, y2, y3, y4, y5⟩ := hQa; first | assumption | (apply Ne.symm; assumption)) | (obtain ⟨z1, z2, z3, z4, z5, z6, z7, z8, z9, z10⟩ := hNE; first | assumption | (apply Ne.symm; assumption)) | (obtain ⟨y1, y2, y3, y4, y5⟩ := hq5; first | assumption | (apply Ne.symm; assumption)) | omega); have h9 := hx46 q e h9 (by assumption); have h9 := (hn50 q (by first | assumption | (obtain ⟨y1, y2, y3, y4, y5⟩ := hQg; first | assumption | (apply Ne.symm; assumption)) | (obtain ⟨y1, y2, y3, y4, y5⟩ := hQa; first | assumption | (apply Ne.symm; assumption)) | (obtain ⟨z1, z2, z3, z4, z5, z6, z7, z8, z9, z10⟩ := hNE; first | assumption | (apply Ne.symm; assumption)) | (obtain ⟨y1, y2, y3, y4, y5⟩ := hq5; first | assumption | (apply Ne.symm; assumption)) | omega)).trans h9; exact h9) ha39 ha9f hK3 (ac_8 hacc)
                have hb8 : 0 ≤ (up (up af 8 (af 8 + macN σ (decide (db = 0)) (1 + dm0).toNat)) 0 ((up af 8 (af 8 + macN σ (decide (db = 0)) (1 + dm0).toNat)) 0 + 1)) 8 ∧ (up (up af 8 (af 8 + macN σ (decide (db = 0)) (1 + dm0).toNat)) 0 ((up af 8 (af 8 + macN σ (decide (db = 0)) (1 + dm0).toNat)) 0 + 1)) 8 ≤ af 8 + 1000 := by rw [up_n (by decide), up_s]; omega
                refine h_top (show (bz (decide ((sm (fun z => misRow (weaveN σ (decide (db = 0)) (z.toNat + 1)) (σ 4 + z)) 0 k) = (sm (fun z => misRow (weaveN σ (decide (db = 0)) (z.toNat + 1)) (σ 4 + z)) 0 k))) : Int) = bz true from congrArg bz (decide_eq_true (by omega))) ?_
                exact h_iretz F hr hlk hW hS ⟨_, _, hfin, hb8⟩ dL_acts_664
            · refine lv_iload F.1 F.2.1 dL_acts_619 (lv_at hl 0 rfl) ?_
              refine h_iflt (tgt := 642) F dL_acts_621 (by decide) (by omega) (fun c51 => ?_) (fun c51 => ?_)
              · exfalso; omega
              · refine lv_iload F.1 F.2.1 dL_acts_624 (lv_at hl 0 rfl) ?_
                have hok := hwa k.toNat (by omega)
                have hok2 := hwa (k.toNat + 1) (by omega)
                have hk4 := hok.2.2.1
                have hk0 := hok.2.1 0 (by decide) (by decide) (by decide)
                have hk1 := hok.2.1 1 (by decide) (by decide) (by decide)
                have hmk := mac_r4 hWF hwa (by omega) k.toNat (by omega)
                have hke : ((k.toNat : Nat) : Int) = k := by omega
                have hmr := misRow_r hok2.1 (σ 4 + k)
                have haf8 : (up af 8 (af 8 + macN σ (decide (db = 0)) (k).toNat)) 8 = af 8 + macN σ (decide (db = 0)) k.toNat := up_s _ _ _
                refine lv_aload_n F.1 F.2.1 dL_acts_626 rfl (lv_at hl 5 rfl) ?_
                refine lv_iload F.1 F.2.1 dL_acts_627 (lv_at hl 2 rfl) ?_
                refine lv_aload_n F.1 F.2.1 dL_acts_629 rfl (lv_at hl 7 rfl) ?_
                refine cl_RL_348 (As := [.ref h, .int (iI (bz (decide (db = 0)))), .ref aq]) (rest := [.int (iI (sm (fun z => misRow (weaveN σ (decide (db = 0)) (z.toNat + 1)) (σ 4 + z)) 0 k))]) F hl (c_L_weaves l X w6 h aq N (weaveN σ (decide (db = 0)) k.toNat) (up af 8 (af 8 + macN σ (decide (db = 0)) (k).toNat)) (decide (db = 0)) hOk ha9k hNa (by omega) (⟨by rw [haf8]; omega, by rw [haf8]; omega⟩) (wea_he (rows := (1 + dm0).toNat) hWF hok (by omega) (by rw [hm9]; exact eno_he hen))) hW hS rfl rfl ⟨Nat.le_of_ble_eq_true rfl, Nat.le_of_ble_eq_true rfl⟩ (Nat.le_of_ble_eq_true rfl) ⟨(by show kc612 + 50 ≤ 1500; omega), (by show ks612 + 220 ≤ 6000; omega)⟩ dL_acts_630 (fun w52 H locs hp53 hW hS => ?_)
                obtain ⟨ha54, hOk1, hx55⟩ := hp53
                have ha11 := hx55 _ _ ha11 (by assumption) (by omega)
                refine h_top (show (misRow (weaveN (weaveN σ (decide (db = 0)) k.toNat) (decide (db = 0)) 1) ((weaveN σ (decide (db = 0)) k.toNat) 4) : Int) = misRow (weaveN σ (decide (db = 0)) (k.toNat + 1)) (σ 4 + k) from by rw [hk4, hke]; rfl) ?_
                refine h_iadd (a := sm (fun z => misRow (weaveN σ (decide (db = 0)) (z.toNat + 1)) (σ 4 + z)) 0 k) (b := misRow (weaveN σ (decide (db = 0)) (k.toNat + 1)) (σ 4 + k)) F dL_acts_633 ?_
                refine lv_istore (lv' := [(7, .int (iI ((sm (fun z => misRow (weaveN σ (decide (db = 0)) (z.toNat + 1)) (σ 4 + z)) 0 k) + (misRow (weaveN σ (decide (db = 0)) (k.toNat + 1)) (σ 4 + k))))), (8, .int (iI k)), (6, .int (iI (bz (decide (db = 0))))), (5, .int (iI (1 + dm0))), (0, .ref y), (1, .ref h), (2, .ref gq), (3, .ref aq), (4, .int (iI (bz (decide (σ 4 < σ 1)))))]) F.1 F.2.1 dL_acts_634 hl (by decide) rfl (fun ls hl => ?_)
                refine h_iinc (k := 1) (a := k) (lv' := [(8, .int (iI (k + 1))), (7, .int (iI ((sm (fun z => misRow (weaveN σ (decide (db = 0)) (z.toNat + 1)) (σ 4 + z)) 0 k) + (misRow (weaveN σ (decide (db = 0)) (k.toNat + 1)) (σ 4 + k))))), (6, .int (iI (bz (decide (db = 0))))), (5, .int (iI (1 + dm0))), (0, .ref y), (1, .ref h), (2, .ref gq), (3, .ref aq), (4, .int (iI (bz (decide (σ 4 < σ 1)))))]) F dL_acts_636 hl rfl (by decide) rfl (fun ls hl => ?_)
                refine h_goto (tgt := 612) F dL_acts_639 (by decide) ?_
                have eq56 : (sm (fun z => misRow (weaveN σ (decide (db = 0)) (z.toNat + 1)) (σ 4 + z)) 0 (k + 1) : Int) = (sm (fun z => misRow (weaveN σ (decide (db = 0)) (z.toNat + 1)) (σ 4 + z)) 0 k) + (misRow (weaveN σ (decide (db = 0)) (k.toNat + 1)) (σ 4 + k)) := sm_s _ (by omega)
                have eq57 : ((k + 1) : Int) = k + 1 := by first | rfl | omega | simp
                exact ih612 (k + 1) (kc612 + 50) (ks612 + 220)  (by omega) (by omega) w52 (fun q e h9 h09 h19 => by
                    have h9 := hF612 q e h9 (by first | assumption | (obtain ⟨y1, y2, y3, y4, y5⟩ := hQg; first | assumption | (apply Ne.symm; assumption)) | (obtain ⟨y1, y2, y3, y4, y5⟩ := hQa; first | assumption | (apply Ne.symm; assumption)) | (obtain ⟨z1, z2, z3, z4, z5, z6, z7, z8, z9, z10⟩ := hNE; first | assumption | (apply Ne.symm; assumption)) | (obtain ⟨y1, y2, y3, y4, y5⟩ := hq5; first | assumption | (apply Ne.symm; assumption)) | omega) (by first | assumption | (obtain ⟨y1, y2, y3, y4, y5⟩ := hQg; first | assumption | (apply Ne.symm; assumption)) | (obtain ⟨y1, y2, y3, y4, y5⟩ := hQa; first | assumption | (apply Ne.symm; assumption)) | (obtain ⟨z1, z2, z3, z4, z5, z6, z7, z8, z9, z10⟩ := hNE; first | assumption | (apply Ne.symm; assumption)) | (obtain ⟨y1, y2, y3, y4, y5⟩ := hq5; first | assumption | (apply Ne.symm; assumption)) | omega)
                    have h9 := hx55 q e h9 (by assumption) (by omega)
                    exact h9) (by omega) (by omega) (by rw [show (k + 1).toNat = k.toNat + 1 by omega]; exact hOk1) (by have z9 := ha54; rw [up_up, haf8, show (weaveN (weaveN σ (decide (db = 0)) k.toNat) (decide (db = 0)) 1) = weaveN σ (decide (db = 0)) (k.toNat + 1) from rfl] at z9; rw [show (k + 1).toNat = k.toNat + 1 by omega, mac_s4 hWF hok hok2 (by omega), ← Int.add_assoc]; exact z9) _ _ ls hW hS (by rw [eq56, eq57]; exact lv_sub hl [1, 0, 2, 3, 4, 5, 6, 7, 8] rfl)
        have eq58 : (sm (fun z => misRow (weaveN σ (decide (db = 0)) (z.toNat + 1)) (σ 4 + z)) 0 0 : Int) = 0 := sm_0 _ _
        exact loop612 ((1 + dm0 - 0) + 1 : Int).toNat 0 (kc0 + 0 + 0 + 0 + 248) (ks0 + 0 + 0 + 0 + 995)   (by omega) (by omega) w7 (fun q e h9 h09 h19 => by
            exact h9) (by omega) (by omega) hOn0 (by rw [show (0 : Int).toNat = 0 from rfl, mac_04]; exact ha9) _ _ ls hW hS (by rw [eq58]; exact lv_sub hl [1, 0, 2, 3, 4, 5, 6, 7, 8] rfl)
    · skip
      refine h_bipush F dL_acts_585 rfl ?_
      refine h_goto (tgt := 607) F dL_acts_587 (by decide) ?_
      refine lv_istore (lv' := [(7, .int (iI (-3))), (6, .int (iI (bz (decide (db = 0))))), (5, .int (iI (1 + dm0))), (0, .ref y), (1, .ref h), (2, .ref gq), (3, .ref aq), (4, .int (iI (bz (decide (σ 4 < σ 1)))))]) F.1 F.2.1 dL_acts_607 hl (by decide) rfl (fun ls hl => ?_)
      skip
      skip
      skip
      skip
      skip
      skip
      refine h_iconst F dL_acts_609 ?_
      refine lv_istore (lv' := [(8, .int (iI 0)), (7, .int (iI (-3))), (6, .int (iI (bz (decide (db = 0))))), (5, .int (iI (1 + dm0))), (0, .ref y), (1, .ref h), (2, .ref gq), (3, .ref aq), (4, .int (iI (bz (decide (σ 4 < σ 1)))))]) F.1 F.2.1 dL_acts_610 hl (by decide) rfl (fun ls hl => ?_)
      refine lv_iload F.1 F.2.1 dL_acts_612 (lv_at hl 0 rfl) ?_
      refine lv_iload F.1 F.2.1 dL_acts_614 (lv_at hl 3 rfl) ?_
      refine h_icge (tgt := 642) F dL_acts_616 (by decide) (by omega) (fun c9 => absurd c9 (by omega)) (fun _ => ?_)
      refine lv_iload F.1 F.2.1 dL_acts_619 (lv_at hl 1 rfl) ?_
      refine h_iflt (tgt := 642) F dL_acts_621 (by decide) (by decide) (fun _ => ?_) (fun c9 => absurd c9 (by decide))
      skip
      skip
      skip
      skip
      skip
      skip
      have hOn := hO0
      skip
      skip
      skip
      skip
      skip
      refine lv_aload_n F.1 F.2.1 dL_acts_642 rfl (lv_at hl 6 rfl) ?_
      refine h_iconst F dL_acts_643 ?_
      refine cr_RL_45 (As := [.ref gq, .int (iI 3)]) (rest := []) F hl (c_L_draw l X w7 gq g2 3 ha11 (by omega)) hW hS rfl rfl ⟨Nat.le_of_ble_eq_true rfl, Nat.le_of_ble_eq_true rfl⟩ (Nat.le_of_ble_eq_true rfl) ⟨(by show kc0 + 0 + 0 + 0 + 0 ≤ 1500; omega), (by show ks0 + 0 + 0 + 0 + 0 ≤ 6000; omega)⟩ dL_acts_644 (fun v62 w60 H locs hp61 hW hS => ?_)
      obtain ⟨dq, g5, rfl, hm63, ha64, hx65⟩ := hp61
      have h1 := hx65 _ _ h1 (by first | assumption | (obtain ⟨y1, y2, y3, y4, y5⟩ := hQg; first | assumption | (apply Ne.symm; assumption)) | (obtain ⟨y1, y2, y3, y4, y5⟩ := hQa; first | assumption | (apply Ne.symm; assumption)) | (obtain ⟨z1, z2, z3, z4, z5, z6, z7, z8, z9, z10⟩ := hNE; first | assumption | (apply Ne.symm; assumption)) | (obtain ⟨y1, y2, y3, y4, y5⟩ := hq5; first | assumption | (apply Ne.symm; assumption)) | omega)
      have h5 := hx65 _ _ h5 (by first | assumption | (obtain ⟨y1, y2, y3, y4, y5⟩ := hQg; first | assumption | (apply Ne.symm; assumption)) | (obtain ⟨y1, y2, y3, y4, y5⟩ := hQa; first | assumption | (apply Ne.symm; assumption)) | (obtain ⟨z1, z2, z3, z4, z5, z6, z7, z8, z9, z10⟩ := hNE; first | assumption | (apply Ne.symm; assumption)) | (obtain ⟨y1, y2, y3, y4, y5⟩ := hq5; first | assumption | (apply Ne.symm; assumption)) | omega)
      have h3 := hx65 _ _ h3 (by first | assumption | (obtain ⟨y1, y2, y3, y4, y5⟩ := hQg; first | assumption | (apply Ne.symm; assumption)) | (obtain ⟨y1, y2, y3, y4, y5⟩ := hQa; first | assumption | (apply Ne.symm; assumption)) | (obtain ⟨z1, z2, z3, z4, z5, z6, z7, z8, z9, z10⟩ := hNE; first | assumption | (apply Ne.symm; assumption)) | (obtain ⟨y1, y2, y3, y4, y5⟩ := hq5; first | assumption | (apply Ne.symm; assumption)) | omega)
      have h5e := hx65 _ _ h5e (by first | assumption | (obtain ⟨y1, y2, y3, y4, y5⟩ := hQg; first | assumption | (apply Ne.symm; assumption)) | (obtain ⟨y1, y2, y3, y4, y5⟩ := hQa; first | assumption | (apply Ne.symm; assumption)) | (obtain ⟨z1, z2, z3, z4, z5, z6, z7, z8, z9, z10⟩ := hNE; first | assumption | (apply Ne.symm; assumption)) | (obtain ⟨y1, y2, y3, y4, y5⟩ := hq5; first | assumption | (apply Ne.symm; assumption)) | omega)
      have h2 := hx65 _ _ h2 (by first | assumption | (obtain ⟨y1, y2, y3, y4, y5⟩ := hQg; first | assumption | (apply Ne.symm; assumption)) | (obtain ⟨y1, y2, y3, y4, y5⟩ := hQa; first | assumption | (apply Ne.symm; assumption)) | (obtain ⟨z1, z2, z3, z4, z5, z6, z7, z8, z9, z10⟩ := hNE; first | assumption | (apply Ne.symm; assumption)) | (obtain ⟨y1, y2, y3, y4, y5⟩ := hq5; first | assumption | (apply Ne.symm; assumption)) | omega)
      have ha9 := hx65 _ _ ha9 (by first | assumption | (obtain ⟨y1, y2, y3, y4, y5⟩ := hQg; first | assumption | (apply Ne.symm; assumption)) | (obtain ⟨y1, y2, y3, y4, y5⟩ := hQa; first | assumption | (apply Ne.symm; assumption)) | (obtain ⟨z1, z2, z3, z4, z5, z6, z7, z8, z9, z10⟩ := hNE; first | assumption | (apply Ne.symm; assumption)) | (obtain ⟨y1, y2, y3, y4, y5⟩ := hq5; first | assumption | (apply Ne.symm; assumption)) | omega)
      refine h_ifle (tgt := 665) F dL_acts_647 (by decide) (by omega) (fun c66 => ?_) (fun c66 => ?_)
      · have hKn : KS X w60 y σ nx sz pas ac := hK.ex (fun q e q0 q1 h9 => by have hqg := hog.ne q0 q1; have hqa := hoa.ne q0 q1; have hq5 := hQ5 q (hNy q q0 q1); have hqe9 : q ≠ ec := fun e9 => hNl.2 (e9 ▸ hNy q q0 q1); have hqe8 : q ≠ ec ∨ kc = 0 := Or.inl hqe9; have h9 := hx6 q e h9 (by first | assumption | (obtain ⟨y1, y2, y3, y4, y5⟩ := hQg; first | assumption | (apply Ne.symm; assumption)) | (obtain ⟨y1, y2, y3, y4, y5⟩ := hQa; first | assumption | (apply Ne.symm; assumption)) | (obtain ⟨z1, z2, z3, z4, z5, z6, z7, z8, z9, z10⟩ := hNE; first | assumption | (apply Ne.symm; assumption)) | (obtain ⟨y1, y2, y3, y4, y5⟩ := hq5; first | assumption | (apply Ne.symm; assumption)) | omega); have h9 := hx12 q e h9 (by first | assumption | (obtain ⟨y1, y2, y3, y4, y5⟩ := hQg; first | assumption | (apply Ne.symm; assumption)) | (obtain ⟨y1, y2, y3, y4, y5⟩ := hQa; first | assumption | (apply Ne.symm; assumption)) | (obtain ⟨z1, z2, z3, z4, z5, z6, z7, z8, z9, z10⟩ := hNE; first | assumption | (apply Ne.symm; assumption)) | (obtain ⟨y1, y2, y3, y4, y5⟩ := hq5; first | assumption | (apply Ne.symm; assumption)) | omega); have h9 := hx65 q e h9 (by first | assumption | (obtain ⟨y1, y2, y3, y4, y5⟩ := hQg; first | assumption | (apply Ne.symm; assumption)) | (obtain ⟨y1, y2, y3, y4, y5⟩ := hQa; first | assumption | (apply Ne.symm; assumption)) | (obtain ⟨z1, z2, z3, z4, z5, z6, z7, z8, z9, z10⟩ := hNE; first | assumption | (apply Ne.symm; assumption)) | (obtain ⟨y1, y2, y3, y4, y5⟩ := hq5; first | assumption | (apply Ne.symm; assumption)) | omega); exact h9)
        obtain ⟨du, hdu9⟩ : ∃ du : Int, du = (-3) := ⟨_, rfl⟩
        obtain ⟨b, hb9⟩ : ∃ b : Bool, b = decide (db = 0) := ⟨_, rfl⟩
        skip
        have hdu0 : -3 ≤ du ∧ du ≤ 9999 := by omega
        have hag8 : 0 ≤ (af) 8 ∧ (af) 8 ≤ af 8 + 1000 := by omega
        have eq67 : (bz b : Int) = bz (decide (db = 0)) := by rw [hb9]
        have eq68 : (du : Int) = (-3) := hdu9
        exact sg_acts_665 l X w60 y h gq aq N σ af  σ ac af g5 nx sz dm0 du b pas hog hoa hga hNN (hOn.cl hNN (fun q e h9 hc1 hc2 hc3 => by have h9 := hx6 q e h9 (by first | assumption | (obtain ⟨y1, y2, y3, y4, y5⟩ := hQg; first | assumption | (apply Ne.symm; assumption)) | (obtain ⟨y1, y2, y3, y4, y5⟩ := hQa; first | assumption | (apply Ne.symm; assumption)) | (obtain ⟨z1, z2, z3, z4, z5, z6, z7, z8, z9, z10⟩ := hNE; first | assumption | (apply Ne.symm; assumption)) | (obtain ⟨y1, y2, y3, y4, y5⟩ := hq5; first | assumption | (apply Ne.symm; assumption)) | omega); have h9 := hx12 q e h9 (by first | assumption | (obtain ⟨y1, y2, y3, y4, y5⟩ := hQg; first | assumption | (apply Ne.symm; assumption)) | (obtain ⟨y1, y2, y3, y4, y5⟩ := hQa; first | assumption | (apply Ne.symm; assumption)) | (obtain ⟨z1, z2, z3, z4, z5, z6, z7, z8, z9, z10⟩ := hNE; first | assumption | (apply Ne.symm; assumption)) | (obtain ⟨y1, y2, y3, y4, y5⟩ := hq5; first | assumption | (apply Ne.symm; assumption)) | omega); have h9 := hx65 q e h9 (by first | assumption | (obtain ⟨y1, y2, y3, y4, y5⟩ := hQg; first | assumption | (apply Ne.symm; assumption)) | (obtain ⟨y1, y2, y3, y4, y5⟩ := hQa; first | assumption | (apply Ne.symm; assumption)) | (obtain ⟨z1, z2, z3, z4, z5, z6, z7, z8, z9, z10⟩ := hNE; first | assumption | (apply Ne.symm; assumption)) | (obtain ⟨y1, y2, y3, y4, y5⟩ := hq5; first | assumption | (apply Ne.symm; assumption)) | omega); exact h9) ha64 ha9 hKn.kn) hKn hacc ha64 ha9 hag8 (by omega) hdu0 (Or.inl ⟨by omega, hdu9, rfl, rfl⟩) F hr hlk hZ0 hB9 (by omega) (by omega) hW hS (by rw [eq67, eq68]; exact lv_sub hl [4, 5, 6, 7, 3, 2, 1] rfl)
      · have hKn : KS X w60 y σ nx sz pas ac := hK.ex (fun q e q0 q1 h9 => by have hqg := hog.ne q0 q1; have hqa := hoa.ne q0 q1; have hq5 := hQ5 q (hNy q q0 q1); have hqe9 : q ≠ ec := fun e9 => hNl.2 (e9 ▸ hNy q q0 q1); have hqe8 : q ≠ ec ∨ kc = 0 := Or.inl hqe9; have h9 := hx6 q e h9 (by first | assumption | (obtain ⟨y1, y2, y3, y4, y5⟩ := hQg; first | assumption | (apply Ne.symm; assumption)) | (obtain ⟨y1, y2, y3, y4, y5⟩ := hQa; first | assumption | (apply Ne.symm; assumption)) | (obtain ⟨z1, z2, z3, z4, z5, z6, z7, z8, z9, z10⟩ := hNE; first | assumption | (apply Ne.symm; assumption)) | (obtain ⟨y1, y2, y3, y4, y5⟩ := hq5; first | assumption | (apply Ne.symm; assumption)) | omega); have h9 := hx12 q e h9 (by first | assumption | (obtain ⟨y1, y2, y3, y4, y5⟩ := hQg; first | assumption | (apply Ne.symm; assumption)) | (obtain ⟨y1, y2, y3, y4, y5⟩ := hQa; first | assumption | (apply Ne.symm; assumption)) | (obtain ⟨z1, z2, z3, z4, z5, z6, z7, z8, z9, z10⟩ := hNE; first | assumption | (apply Ne.symm; assumption)) | (obtain ⟨y1, y2, y3, y4, y5⟩ := hq5; first | assumption | (apply Ne.symm; assumption)) | omega); have h9 := hx65 q e h9 (by first | assumption | (obtain ⟨y1, y2, y3, y4, y5⟩ := hQg; first | assumption | (apply Ne.symm; assumption)) | (obtain ⟨y1, y2, y3, y4, y5⟩ := hQa; first | assumption | (apply Ne.symm; assumption)) | (obtain ⟨z1, z2, z3, z4, z5, z6, z7, z8, z9, z10⟩ := hNE; first | assumption | (apply Ne.symm; assumption)) | (obtain ⟨y1, y2, y3, y4, y5⟩ := hq5; first | assumption | (apply Ne.symm; assumption)) | omega); exact h9)
        obtain ⟨su9, tx9, M9, oo9, rv9, hC9⟩ := id hKn
        have hYc := hC9.1
        refine lv_aload_n F.1 F.2.1 dL_acts_650 rfl (lv_at hl 4 rfl) ?_
        refine lv_iload F.1 F.2.1 dL_acts_651 (lv_at hl 3 rfl) ?_
        refine lv_iload F.1 F.2.1 dL_acts_653 (lv_at hl 2 rfl) ?_
        refine cl_RL_352 (As := [.int (iI (1 + dm0)), .int (iI (bz (decide (db = 0))))]) (rest := []) F hl (k_weave_r3 l X w60 y σ nx sz pas ac (1 + dm0) (decide (db = 0)) hKn (by omega) (by omega)) hW hS hYc rfl rfl ⟨Nat.le_of_ble_eq_true rfl, Nat.le_of_ble_eq_true rfl⟩ (Nat.le_of_ble_eq_true rfl) ⟨(by show kc0 + 0 + 0 + 0 + 0 + 0 ≤ 1500; omega), (by show ks0 + 0 + 0 + 0 + 0 + 0 ≤ 6000; omega)⟩ dL_acts_655 (fun w69 H locs hp70 hW hS => ?_)
        obtain ⟨hK2, hx71⟩ := hp70
        have h1 := hx71 _ _ h1 (by assumption)
        have h2 := hx71 _ _ h2 (by assumption)
        have ha64 := hx71 _ _ ha64 (by assumption)
        have ha9 := hx71 _ _ ha9 (by assumption)
        skip
        skip
        refine lv_iload F.1 F.2.1 dL_acts_658 (lv_at hl 1 rfl) ?_
        refine lv_aload_n F.1 F.2.1 dL_acts_660 rfl (lv_at hl 7 rfl) ?_
        refine cl_RL_329 (As := [.int (iI (-3)), .int (iI (-3)), .ref aq]) (rest := []) F hl (c_L_is l X w69 aq af (-3) (-3) ha9 (by omega)) hW hS rfl rfl ⟨Nat.le_of_ble_eq_true rfl, Nat.le_of_ble_eq_true rfl⟩ (Nat.le_of_ble_eq_true rfl) ⟨(by show kc0 + 0 + 0 + 0 + 0 + 0 + 0 ≤ 1500; omega), (by show ks0 + 0 + 0 + 0 + 0 + 0 + 0 ≤ 6000; omega)⟩ dL_acts_661 (fun w72 H locs hp73 hW hS => ?_)
        obtain ⟨ha74, hn75⟩ := hp73
        have h1 := (hn75 _ (by first | assumption | (obtain ⟨y1, y2, y3, y4, y5⟩ := hQg; first | assumption | (apply Ne.symm; assumption)) | (obtain ⟨y1, y2, y3, y4, y5⟩ := hQa; first | assumption | (apply Ne.symm; assumption)) | (obtain ⟨z1, z2, z3, z4, z5, z6, z7, z8, z9, z10⟩ := hNE; first | assumption | (apply Ne.symm; assumption)) | (obtain ⟨y1, y2, y3, y4, y5⟩ := hq5; first | assumption | (apply Ne.symm; assumption)) | omega)).trans h1
        have h2 := (hn75 _ (by first | assumption | (obtain ⟨y1, y2, y3, y4, y5⟩ := hQg; first | assumption | (apply Ne.symm; assumption)) | (obtain ⟨y1, y2, y3, y4, y5⟩ := hQa; first | assumption | (apply Ne.symm; assumption)) | (obtain ⟨z1, z2, z3, z4, z5, z6, z7, z8, z9, z10⟩ := hNE; first | assumption | (apply Ne.symm; assumption)) | (obtain ⟨y1, y2, y3, y4, y5⟩ := hq5; first | assumption | (apply Ne.symm; assumption)) | omega)).trans h2
        have ha64 := (hn75 _ (by first | assumption | (obtain ⟨y1, y2, y3, y4, y5⟩ := hQg; first | assumption | (apply Ne.symm; assumption)) | (obtain ⟨y1, y2, y3, y4, y5⟩ := hQa; first | assumption | (apply Ne.symm; assumption)) | (obtain ⟨z1, z2, z3, z4, z5, z6, z7, z8, z9, z10⟩ := hNE; first | assumption | (apply Ne.symm; assumption)) | (obtain ⟨y1, y2, y3, y4, y5⟩ := hq5; first | assumption | (apply Ne.symm; assumption)) | omega)).trans ha64
        refine W.wd (mc := 1500) (ms := 6000) (by omega) (by omega) ?_
        skip
        have hK3 := hK2.ex (w2 := w72) (fun q e q0 q1 h9 => by have hqg := hog.ne q0 q1; have hqa := hoa.ne q0 q1; have h9 := (hn75 q (by first | assumption | (obtain ⟨y1, y2, y3, y4, y5⟩ := hQg; first | assumption | (apply Ne.symm; assumption)) | (obtain ⟨y1, y2, y3, y4, y5⟩ := hQa; first | assumption | (apply Ne.symm; assumption)) | (obtain ⟨z1, z2, z3, z4, z5, z6, z7, z8, z9, z10⟩ := hNE; first | assumption | (apply Ne.symm; assumption)) | (obtain ⟨y1, y2, y3, y4, y5⟩ := hq5; first | assumption | (apply Ne.symm; assumption)) | omega)).trans h9; exact h9)
        have hfin : LwS X w72 N y h gq aq σ (up af (if (-3) < 0 then -(-3) else 0) (af (if (-3) < 0 then -(-3) else 0) + 1)) := LwS.fin hOn hNN hout3 (fun q e h9 hc1 hc2 hc3 => by have h9 := hx6 q e h9 (by first | assumption | (obtain ⟨y1, y2, y3, y4, y5⟩ := hQg; first | assumption | (apply Ne.symm; assumption)) | (obtain ⟨y1, y2, y3, y4, y5⟩ := hQa; first | assumption | (apply Ne.symm; assumption)) | (obtain ⟨z1, z2, z3, z4, z5, z6, z7, z8, z9, z10⟩ := hNE; first | assumption | (apply Ne.symm; assumption)) | (obtain ⟨y1, y2, y3, y4, y5⟩ := hq5; first | assumption | (apply Ne.symm; assumption)) | omega); have h9 := hx12 q e h9 (by first | assumption | (obtain ⟨y1, y2, y3, y4, y5⟩ := hQg; first | assumption | (apply Ne.symm; assumption)) | (obtain ⟨y1, y2, y3, y4, y5⟩ := hQa; first | assumption | (apply Ne.symm; assumption)) | (obtain ⟨z1, z2, z3, z4, z5, z6, z7, z8, z9, z10⟩ := hNE; first | assumption | (apply Ne.symm; assumption)) | (obtain ⟨y1, y2, y3, y4, y5⟩ := hq5; first | assumption | (apply Ne.symm; assumption)) | omega); have h9 := hx65 q e h9 (by first | assumption | (obtain ⟨y1, y2, y3, y4, y5⟩ := hQg; first | assumption | (apply Ne.symm; assumption)) | (obtain ⟨y1, y2, y3, y4, y5⟩ := hQa; first | assumption | (apply Ne.symm; assumption)) | (obtain ⟨z1, z2, z3, z4, z5, z6, z7, z8, z9, z10⟩ := hNE; first | assumption | (apply Ne.symm; assumption)) | (obtain ⟨y1, y2, y3, y4, y5⟩ := hq5; first | assumption | (apply Ne.symm; assumption)) | omega); have h9 := hx71 q e h9 (by assumption); have h9 := (hn75 q (by first | assumption | (obtain ⟨y1, y2, y3, y4, y5⟩ := hQg; first | assumption | (apply Ne.symm; assumption)) | (obtain ⟨y1, y2, y3, y4, y5⟩ := hQa; first | assumption | (apply Ne.symm; assumption)) | (obtain ⟨z1, z2, z3, z4, z5, z6, z7, z8, z9, z10⟩ := hNE; first | assumption | (apply Ne.symm; assumption)) | (obtain ⟨y1, y2, y3, y4, y5⟩ := hq5; first | assumption | (apply Ne.symm; assumption)) | omega)).trans h9; exact h9) ha64 ha74 hK3 (ac_is hacc (rfl) (by decide))
        have hb8 : 0 ≤ (up af (if (-3) < 0 then -(-3) else 0) (af (if (-3) < 0 then -(-3) else 0) + 1)) 8 ∧ (up af (if (-3) < 0 then -(-3) else 0) (af (if (-3) < 0 then -(-3) else 0) + 1)) 8 ≤ af 8 + 1000 := by rw [ac_1 (rfl) (by decide)]; omega
        refine h_top (show (bz (decide ((-3) = (-3))) : Int) = bz true from congrArg bz (decide_eq_true (by omega))) ?_
        exact h_iretz F hr hlk hW hS ⟨_, _, hfin, hb8⟩ dL_acts_664
  refine h_ifne (tgt := 568) F dL_acts_561 (by decide) (by omega) (fun c76 => ?_) (fun c76 => ?_)
  · refine h_iconst F dL_acts_568 ?_
    refine h_top (show (0 : Int) = bz (decide (db = 0)) from bzf (by first | exact decide_eq_false (by omega) | (simp only [Bool.and_eq_false_iff, Bool.or_eq_false_iff, decide_eq_false_iff_not]; omega) | simp_all)) ?_
    exact join569  _ _ ls  hW hS (lv_sub hl [0, 1, 2, 3, 4, 5] rfl)
  · refine h_iconst F dL_acts_564 ?_
    refine h_goto (tgt := 569) F dL_acts_565 (by decide) ?_
    refine h_top (show (1 : Int) = bz (decide (db = 0)) from bzt (by first | exact decide_eq_true (by omega) | (simp only [Bool.and_eq_true, Bool.or_eq_true, decide_eq_true_eq]; omega) | simp_all)) ?_
    exact join569  _ _ ls  hW hS (lv_sub hl [0, 1, 2, 3, 4, 5] rfl)
