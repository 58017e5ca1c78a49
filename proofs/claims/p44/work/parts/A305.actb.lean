set_option maxHeartbeats 4000000 in
set_option maxRecDepth 100000 in
theorem sg_acts_1582 (l : Launch) (X : Cx) (w : Wo) (y h gq aq : Nat) (N : Nat → Prop) (σ af : Int → Int) (hLS : LwS X w N y h gq aq σ af) (hp8 : 0 ≤ af 8 ∧ af 8 ≤ 900000)   {p : Program} {e : Env} {s : State} {m : MethodId} {below : List Frame} {meth : Method} {c : Code} {H : Heap} {locs : List Loc} {ls : Array Slot} {kc0 ks0 : Nat} (F : Fx p m c cL_acts 14 s (List.toArray [.ref y, .ref h, .ref gq, .ref aq]) RL) (hr : meth.sig.returnType = (some (.boolean))) (hlk : meth.locks = false) (hZ0 : cxZ X s s.heap) (hB9 : cxB X ≤ s.heap.size) (hkc0 : kc0 ≤ 10) (hks0 : ks0 ≤ 20) (hW : Wd X w s H) (hS : va_S (cxA X) s.heap H locs) (hl : lv_has ls 14 [(0, .ref y), (1, .ref h), (2, .ref gq), (3, .ref aq), (4, .int (iI (bz (decide (σ 4 < σ 1)))))]) : W p l e (rmG 11 1500 6000 260) s m (List.toArray [.ref y, .ref h, .ref gq, .ref aq]) below meth c H locs kc0 ks0 (MX X below (List.toArray [.ref y, .ref h, .ref gq, .ref aq]) s 1500 6000 (some (.int (iI (bz true)))) (fun w' => ∃ σ2 af2 : Int → Int, LwS X w' N y h gq aq σ2 af2 ∧ (0 ≤ af2 8 ∧ af2 8 ≤ af 8 + 1000))) (F0 m 1582 ls []) := by
  obtain ⟨hO, ⟨nx, sz, pas, ac, hK, hacc⟩, ⟨gf, hg9⟩, ha9, hout3, hNN⟩ := hLS
  have hNy := hNN.1
  have hog := hout3.1
  have hoa := hout3.2.1
  have hga := hout3.2.2
  have hO0 := hO
  obtain ⟨st, lc, ec, kc, lr, er, kr, cd, rwa, hPw0, hern⟩ := hO.1.P
  have hNE := hPw0.ne
  have hQ5 := hPw0.q5
  have hPw := hPw0
  obtain ⟨h1w, ⟨fs, h2w, h2f⟩, hLcw, hkc, hcaw, hLrw, hkr, hclw, hem, ⟨hWF, hw0, hw1⟩, hrs, hlne, hene⟩ := hPw
  have hWF0 := hWF.1
  obtain ⟨wf0, wf1, wf2, wf3, wf4, wf5⟩ := hWF0
  have hnc := nr_cases (show nrS σ = _ from rfl) wf4.2
  have hnr0 : σ 4 ≤ nrS σ ∧ nrS σ ≤ σ 4 + 1 ∧ nrS σ ≤ σ 1 := by omega
  clear hnc
  have hkrb : 10 ≤ kr ∧ kr ≤ 15 := by omega
  clear hkr hkc hlne hern
  have h1n := (wr_some.mp h1w).1
  have h1 := (wr_some.mp h1w).2
  have h2n := (wr_some.mp h2w).1
  have h2 := (wr_some.mp h2w).2
  have hLc := hLcw.ex (wr_sub w N)
  have hLr := hLrw.ex (wr_sub w N)
  have hNl := hLcw.nN hO.2.2
  have hNr := hLrw.nN hO.2.2
  obtain ⟨⟨mc, h3⟩, gc, h3b, h3c, h3d⟩ := hLc
  obtain ⟨⟨mr, h5⟩, gr, h5b, h5c, h5d⟩ := hLr
  have h5e : w er = some (aR X 5 kr gr) := h5b.elim (fun z => by omega) (fun z => z.1)
  clear h3b h5b
  have hLr := hLrw.ex (wr_sub w N)
  have hLc := hLcw.ex (wr_sub w N)
  have hQg := hQ5 gq hNN.2.1
  have hQa := hQ5 aq hNN.2.2
  have hoh := outY.nN hNy h1n
  have host := outY.nN hNy h2n
  have holc := outY.nN hNy hNl.1
  have holr := outY.nN hNy hNr.1
  have hoer := outY.nN hNy hNr.2
  have hXY := hW.zy
  have hKn := hK
  obtain ⟨su8, tx8, M8, oo8, rv8, hC8⟩ := id hKn
  have hYc := hC8.1
  have hLc := hC8.2.1
  have hHc := hC8.2.2.1
  have hsz := hHc.2.2.1.2
  have hs9 := hWF.2.1 3 (by decide) (by decide)
  have hfs3 : fs 3 = σ (6 + 3) := h2f 3 (by decide) (by decide)
  refine lv_aload_n F.1 F.2.1 dL_acts_1582 rfl (lv_at hl 0 rfl) ?_
  refine h_bipush F dL_acts_1583 rfl ?_
  refine cl_RL_209 (As := [.int (iI 8)]) (rest := []) F hl (c_X8_count l X w y su8 σ nx sz pas 8 hYc hLc hHc (by omega)) hW hS hYc rfl rfl ⟨Nat.le_of_ble_eq_true rfl, Nat.le_of_ble_eq_true rfl⟩ (Nat.le_of_ble_eq_true rfl) ⟨(by show kc0 + 0 ≤ 1500; omega), (by show ks0 + 0 ≤ 6000; omega)⟩ dL_acts_1585 (fun w1 H locs hp1 hW hS => ?_)
  rw [hp1] at hW; clear hp1; clear w1
  refine h_top (show (cntQ σ sz 8 : Int) = sz from rfl) ?_
  refine lv_istore (lv' := [(5, .int (iI sz)), (0, .ref y), (1, .ref h), (2, .ref gq), (3, .ref aq), (4, .int (iI (bz (decide (σ 4 < σ 1)))))]) F.1 F.2.1 dL_acts_1588 hl (by decide) rfl (fun ls hl => ?_)
  refine lv_aload_n F.1 F.2.1 dL_acts_1590 rfl (lv_at hl 4 rfl) ?_
  refine h_iconst F dL_acts_1591 ?_
  refine lv_dup2_11 F.1 F.2.1 dL_acts_1592 rfl rfl ?_
  refine h_iald F hW ha9 (by omega) (by omega) dL_acts_1593 ?_
  refine h_iconst F dL_acts_1594 ?_
  refine h_iadd (a := af 0) (b := 2) F dL_acts_1595 ?_
  refine h_iast F hW hS ha9 (by omega) (by omega) dL_acts_1596 (fun w2 H locs ho4 hn3 hW hS => ?_)
  have h1 := (hn3 _ (by first | assumption | (obtain ⟨y1, y2, y3, y4, y5⟩ := hQg; first | assumption | (apply Ne.symm; assumption)) | (obtain ⟨y1, y2, y3, y4, y5⟩ := hQa; first | assumption | (apply Ne.symm; assumption)) | (obtain ⟨z1, z2, z3, z4, z5, z6, z7, z8, z9, z10⟩ := hNE; first | assumption | (apply Ne.symm; assumption)) | (obtain ⟨y1, y2, y3, y4, y5⟩ := hq5; first | assumption | (apply Ne.symm; assumption)) | omega)).trans h1
  have h5 := (hn3 _ (by first | assumption | (obtain ⟨y1, y2, y3, y4, y5⟩ := hQg; first | assumption | (apply Ne.symm; assumption)) | (obtain ⟨y1, y2, y3, y4, y5⟩ := hQa; first | assumption | (apply Ne.symm; assumption)) | (obtain ⟨z1, z2, z3, z4, z5, z6, z7, z8, z9, z10⟩ := hNE; first | assumption | (apply Ne.symm; assumption)) | (obtain ⟨y1, y2, y3, y4, y5⟩ := hq5; first | assumption | (apply Ne.symm; assumption)) | omega)).trans h5
  have h3 := (hn3 _ (by first | assumption | (obtain ⟨y1, y2, y3, y4, y5⟩ := hQg; first | assumption | (apply Ne.symm; assumption)) | (obtain ⟨y1, y2, y3, y4, y5⟩ := hQa; first | assumption | (apply Ne.symm; assumption)) | (obtain ⟨z1, z2, z3, z4, z5, z6, z7, z8, z9, z10⟩ := hNE; first | assumption | (apply Ne.symm; assumption)) | (obtain ⟨y1, y2, y3, y4, y5⟩ := hq5; first | assumption | (apply Ne.symm; assumption)) | omega)).trans h3
  have h5e := (hn3 _ (by first | assumption | (obtain ⟨y1, y2, y3, y4, y5⟩ := hQg; first | assumption | (apply Ne.symm; assumption)) | (obtain ⟨y1, y2, y3, y4, y5⟩ := hQa; first | assumption | (apply Ne.symm; assumption)) | (obtain ⟨z1, z2, z3, z4, z5, z6, z7, z8, z9, z10⟩ := hNE; first | assumption | (apply Ne.symm; assumption)) | (obtain ⟨y1, y2, y3, y4, y5⟩ := hq5; first | assumption | (apply Ne.symm; assumption)) | omega)).trans h5e
  have h2 := (hn3 _ (by first | assumption | (obtain ⟨y1, y2, y3, y4, y5⟩ := hQg; first | assumption | (apply Ne.symm; assumption)) | (obtain ⟨y1, y2, y3, y4, y5⟩ := hQa; first | assumption | (apply Ne.symm; assumption)) | (obtain ⟨z1, z2, z3, z4, z5, z6, z7, z8, z9, z10⟩ := hNE; first | assumption | (apply Ne.symm; assumption)) | (obtain ⟨y1, y2, y3, y4, y5⟩ := hq5; first | assumption | (apply Ne.symm; assumption)) | omega)).trans h2
  have hg9 := (hn3 _ (by first | assumption | (obtain ⟨y1, y2, y3, y4, y5⟩ := hQg; first | assumption | (apply Ne.symm; assumption)) | (obtain ⟨y1, y2, y3, y4, y5⟩ := hQa; first | assumption | (apply Ne.symm; assumption)) | (obtain ⟨z1, z2, z3, z4, z5, z6, z7, z8, z9, z10⟩ := hNE; first | assumption | (apply Ne.symm; assumption)) | (obtain ⟨y1, y2, y3, y4, y5⟩ := hq5; first | assumption | (apply Ne.symm; assumption)) | omega)).trans hg9
  refine lv_aload_n F.1 F.2.1 dL_acts_1597 rfl (lv_at hl 2 rfl) ?_
  refine gf_RL_145 F hW h1 rfl dL_acts_1598 ?_
  refine h_iconst F dL_acts_1601 ?_
  refine h_iald F hW h2 (by omega) (by omega) dL_acts_1602 ?_
  refine h_top (show (fs 3 : Int) = σ (6 + 3) from hfs3) ?_
  refine h_iconst F dL_acts_1603 ?_
  refine h_iadd (a := σ (6 + 3)) (b := 1) F dL_acts_1604 ?_
  refine h_sipush F dL_acts_1605 rfl ?_
  refine h_irem F dL_acts_1608 (by omega) ?_
  refine lv_istore (lv' := [(6, .int (iI (((σ (6 + 3)) + 1) % 1000))), (5, .int (iI sz)), (0, .ref y), (1, .ref h), (2, .ref gq), (3, .ref aq), (4, .int (iI (bz (decide (σ 4 < σ 1)))))]) F.1 F.2.1 dL_acts_1609 hl (by decide) rfl (fun ls hl => ?_)
  have hKn : KS X w2 y σ nx sz pas ac := hK.ex (fun q e q0 q1 h9 => by have hqg := hog.ne q0 q1; have hqa := hoa.ne q0 q1; have hq5 := hQ5 q (hNy q q0 q1); have hqe9 : q ≠ ec := fun e9 => hNl.2 (e9 ▸ hNy q q0 q1); have hqe8 : q ≠ ec ∨ kc = 0 := Or.inl hqe9; have h9 := (hn3 q (by first | assumption | (obtain ⟨y1, y2, y3, y4, y5⟩ := hQg; first | assumption | (apply Ne.symm; assumption)) | (obtain ⟨y1, y2, y3, y4, y5⟩ := hQa; first | assumption | (apply Ne.symm; assumption)) | (obtain ⟨z1, z2, z3, z4, z5, z6, z7, z8, z9, z10⟩ := hNE; first | assumption | (apply Ne.symm; assumption)) | (obtain ⟨y1, y2, y3, y4, y5⟩ := hq5; first | assumption | (apply Ne.symm; assumption)) | omega)).trans h9; exact h9)
  obtain ⟨su9, tx9, M9, oo9, rv9, hC9⟩ := id hKn
  have hYc := hC9.1
  obtain ⟨σ1, hσ1⟩ : ∃ σ1, σ1 = up σ (6 + 3) ((σ (6 + 3) + 1) % 1000) := ⟨_, rfl⟩
  have hW1 : WF σ1 := by rw [hσ1]; exact st_W hWF (by omega) (by omega)
  have hml := misSeen_le hW1
  have hm1 := misSeen_rr hW1
  have hm2 := misSeen_rr (WF_fld hW1 3 (σ1 4) (Or.inr (Or.inl ⟨rfl, by rw [hσ1, up_n (by decide)]; omega⟩)) (fun z9 => absurd z9 (by decide)))
  refine lv_aload_n F.1 F.2.1 dL_acts_1611 rfl (lv_at hl 2 rfl) ?_
  refine h_iconst F dL_acts_1612 ?_
  refine lv_iload F.1 F.2.1 dL_acts_1613 (lv_at hl 0 rfl) ?_
  refine cl_RL_387 (As := [.int (iI 3), .int (iI (((σ (6 + 3)) + 1) % 1000))]) (rest := []) F hl (k_setStock l X w2 y σ nx sz pas ac 3 (((σ (6 + 3)) + 1) % 1000) hKn (by omega) (by omega)) hW hS hYc rfl rfl ⟨Nat.le_of_ble_eq_true rfl, Nat.le_of_ble_eq_true rfl⟩ (Nat.le_of_ble_eq_true rfl) ⟨(by show kc0 + 0 + 0 ≤ 1500; omega), (by show ks0 + 0 + 0 ≤ 6000; omega)⟩ dL_acts_1615 (fun w5 H locs hp6 hW hS => ?_)
  obtain ⟨hK2, hx7⟩ := hp6
  have h1 := hx7 _ _ h1 (by assumption)
  have h2 := hx7 _ _ h2 (by assumption)
  have hg9 := hx7 _ _ hg9 (by assumption)
  have ho4 := hx7 _ _ ho4 (by assumption)
  skip
  rw [← hσ1] at hK2
  refine lv_aload_n F.1 F.2.1 dL_acts_1618 rfl (lv_at hl 3 rfl) ?_
  refine gf_RL_145 F hW h1 rfl dL_acts_1619 ?_
  refine h_iconst F dL_acts_1622 ?_
  refine h_iald F hW h2 (by omega) (by omega) dL_acts_1623 ?_
  refine h_top (show (fs 3 : Int) = σ (6 + 3) from hfs3) ?_
  refine h_icne (tgt := 1652) F dL_acts_1624 (by decide) (by omega) (fun c8 => ?_) (fun c8 => ?_)
  · exact absurd rfl c8
  · obtain ⟨su9, tx9, M9, oo9, rv9, hC9⟩ := id hK2
    have hYc := hC9.1
    refine lv_aload_n F.1 F.2.1 dL_acts_1627 rfl (lv_at hl 2 rfl) ?_
    refine cl_RL_369 (As := []) (rest := []) F hl (k_look l X w5 y σ1 ((if nx = 8 then 0 else nx) + 1) (min 8 (sz + 1)) (keepP sz pas σ) (up ac 0 (ac 0 + 1)) hK2) hW hS hYc rfl rfl ⟨Nat.le_of_ble_eq_true rfl, Nat.le_of_ble_eq_true rfl⟩ (Nat.le_of_ble_eq_true rfl) ⟨(by show kc0 + 0 + 0 + 0 ≤ 1500; omega), (by show ks0 + 0 + 0 + 0 ≤ 6000; omega)⟩ dL_acts_1628 (fun w9 H locs hp10 hW hS => ?_)
    obtain ⟨hK3, hx11⟩ := hp10
    have h1 := hx11 _ _ h1 (by assumption)
    have h2 := hx11 _ _ h2 (by assumption)
    have hg9 := hx11 _ _ hg9 (by assumption)
    have ho4 := hx11 _ _ ho4 (by assumption)
    refine h_iflt (tgt := 1652) F dL_acts_1631 (by decide) (by omega) (fun c12 => ?_) (fun c12 => ?_)
    · exfalso; omega
    · have hKb := hK3
      obtain ⟨su9, tx9, M9, oo9, rv9, hC9⟩ := id hKb
      have hYc := hC9.1
      have hLc := hC9.2.1
      have hHc := hC9.2.2.1
      refine lv_aload_n F.1 F.2.1 dL_acts_1634 rfl (lv_at hl 2 rfl) ?_
      refine h_bipush F dL_acts_1635 rfl ?_
      refine cl_RL_209 (As := [.int (iI 8)]) (rest := []) F hl (c_X8_count l X w9 y su9 (up σ1 3 (σ1 4)) ((if ((if nx = 8 then 0 else nx) + 1) = 8 then 0 else ((if nx = 8 then 0 else nx) + 1)) + 1) (min 8 ((min 8 (sz + 1)) + 1)) (keepP (min 8 (sz + 1)) (keepP sz pas σ) σ1) 8 hYc hLc hHc (by omega)) hW hS hYc rfl rfl ⟨Nat.le_of_ble_eq_true rfl, Nat.le_of_ble_eq_true rfl⟩ (Nat.le_of_ble_eq_true rfl) ⟨(by show kc0 + 0 + 0 + 0 + 0 ≤ 1500; omega), (by show ks0 + 0 + 0 + 0 + 0 ≤ 6000; omega)⟩ dL_acts_1637 (fun w1 H locs hp13 hW hS => ?_)
      rw [hp13] at hW; clear hp13; clear w1
      refine h_top (show (cntQ (up σ1 3 (σ1 4)) (min 8 ((min 8 (sz + 1)) + 1)) 8 : Int) = min 8 (sz + 2) from by show (min 8 ((min 8 (sz + 1)) + 1)) = min 8 (sz + 2); omega) ?_
      refine h_bipush F dL_acts_1640 rfl ?_
      refine lv_iload F.1 F.2.1 dL_acts_1642 (lv_at hl 1 rfl) ?_
      refine h_iconst F dL_acts_1644 ?_
      refine h_iadd (a := sz) (b := 2) F dL_acts_1645 ?_
      refine h_mmin (index := 230) (a := 8) (b := sz + 2) F hl km_RL_230 (Nat.le_of_ble_eq_true rfl) (Nat.le_of_ble_eq_true rfl) (by show kc0 + 0 + 0 + 0 + 0 ≤ 1500; omega) (by show ks0 + 0 + 0 + 0 + 0 ≤ 6000; omega) (by omega) dL_acts_1646 ?_
      refine h_iceq (tgt := 1654) F dL_acts_1649 (by decide) (by omega) (fun c14 => ?_) (fun c14 => ?_)
      · refine lv_aload_n F.1 F.2.1 dL_acts_1654 rfl (lv_at hl 2 rfl) ?_
        refine cl_RL_390 (As := []) (rest := []) F hl (k_undo l X w9 y (up σ1 3 (σ1 4)) ((if ((if nx = 8 then 0 else nx) + 1) = 8 then 0 else ((if nx = 8 then 0 else nx) + 1)) + 1) (min 8 ((min 8 (sz + 1)) + 1)) (keepP (min 8 (sz + 1)) (keepP sz pas σ) σ1) (up (up ac 0 (ac 0 + 1)) 0 ((up ac 0 (ac 0 + 1)) 0 + 1)) hK3 (by omega)) hW hS hYc rfl rfl ⟨Nat.le_of_ble_eq_true rfl, Nat.le_of_ble_eq_true rfl⟩ (Nat.le_of_ble_eq_true rfl) ⟨(by show kc0 + 0 + 0 + 0 + 0 + 0 ≤ 1500; omega), (by show ks0 + 0 + 0 + 0 + 0 + 0 ≤ 6000; omega)⟩ dL_acts_1655 (fun w15 H locs hp16 hW hS => ?_)
        obtain ⟨hK4, hx17⟩ := hp16
        have h1 := hx17 _ _ h1 (by assumption)
        have h2 := hx17 _ _ h2 (by assumption)
        have hg9 := hx17 _ _ hg9 (by assumption)
        have ho4 := hx17 _ _ ho4 (by assumption)
        refine h_top (show ((min 8 ((min 8 (sz + 1)) + 1)) - 1 : Int) = (min 8 (sz + 2)) - 1 from by omega) ?_
        refine h_bipush F dL_acts_1658 rfl ?_
        refine lv_iload F.1 F.2.1 dL_acts_1660 (lv_at hl 1 rfl) ?_
        refine h_iconst F dL_acts_1662 ?_
        refine h_iadd (a := sz) (b := 2) F dL_acts_1663 ?_
        refine h_mmin (index := 230) (a := 8) (b := sz + 2) F hl km_RL_230 (Nat.le_of_ble_eq_true rfl) (Nat.le_of_ble_eq_true rfl) (by show kc0 + 0 + 0 + 0 + 0 + 0 ≤ 1500; omega) (by show ks0 + 0 + 0 + 0 + 0 + 0 ≤ 6000; omega) (by omega) dL_acts_1664 ?_
        refine h_iconst F dL_acts_1667 ?_
        refine h_isub (a := min 8 (sz + 2)) (b := 1) F dL_acts_1668 ?_
        refine h_icne (tgt := 1694) F dL_acts_1669 (by decide) (by omega) (fun c18 => ?_) (fun c18 => ?_)
        · exact absurd rfl c18
        · obtain ⟨sua, txa, Ma, ooa, rva, hCa⟩ := id hK4
          have hYc := hCa.1
          refine lv_aload_n F.1 F.2.1 dL_acts_1672 rfl (lv_at hl 2 rfl) ?_
          refine cl_RL_390 (As := []) (rest := []) F hl (k_undo l X w15 y ((keepP (min 8 (sz + 1)) (keepP sz pas σ) σ1) ((min 8 ((min 8 (sz + 1)) + 1)) - 1)) ((((if ((if nx = 8 then 0 else nx) + 1) = 8 then 0 else ((if nx = 8 then 0 else nx) + 1)) + 1) - 1) % 8) ((min 8 ((min 8 (sz + 1)) + 1)) - 1) (keepP (min 8 (sz + 1)) (keepP sz pas σ) σ1) (up (up ac 0 (ac 0 + 1)) 0 ((up ac 0 (ac 0 + 1)) 0 + 1)) hK4 (by omega)) hW hS hYc rfl rfl ⟨Nat.le_of_ble_eq_true rfl, Nat.le_of_ble_eq_true rfl⟩ (Nat.le_of_ble_eq_true rfl) ⟨(by show kc0 + 0 + 0 + 0 + 0 + 0 + 0 ≤ 1500; omega), (by show ks0 + 0 + 0 + 0 + 0 + 0 + 0 ≤ 6000; omega)⟩ dL_acts_1673 (fun w19 H locs hp20 hW hS => ?_)
          obtain ⟨hK5, hx21⟩ := hp20
          have h1 := hx21 _ _ h1 (by assumption)
          have h2 := hx21 _ _ h2 (by assumption)
          have hg9 := hx21 _ _ hg9 (by assumption)
          have ho4 := hx21 _ _ ho4 (by assumption)
          refine h_top (show (((min 8 ((min 8 (sz + 1)) + 1)) - 1) - 1 : Int) = (min 8 (sz + 2)) - 2 from by omega) ?_
          refine h_bipush F dL_acts_1676 rfl ?_
          refine lv_iload F.1 F.2.1 dL_acts_1678 (lv_at hl 1 rfl) ?_
          refine h_iconst F dL_acts_1680 ?_
          refine h_iadd (a := sz) (b := 2) F dL_acts_1681 ?_
          refine h_mmin (index := 230) (a := 8) (b := sz + 2) F hl km_RL_230 (Nat.le_of_ble_eq_true rfl) (Nat.le_of_ble_eq_true rfl) (by show kc0 + 0 + 0 + 0 + 0 + 0 + 0 ≤ 1500; omega) (by show ks0 + 0 + 0 + 0 + 0 + 0 + 0 ≤ 6000; omega) (by omega) dL_acts_1682 ?_
          refine h_iconst F dL_acts_1685 ?_
          refine h_isub (a := min 8 (sz + 2)) (b := 2) F dL_acts_1686 ?_
          refine h_icne (tgt := 1694) F dL_acts_1687 (by decide) (by omega) (fun c22 => ?_) (fun c22 => ?_)
          · exact absurd rfl c22
          · refine h_iconst F dL_acts_1690 ?_
            refine h_goto (tgt := 1695) F dL_acts_1691 (by decide) ?_
            refine W.wd (mc := 1500) (ms := 6000) (by omega) (by omega) ?_
            rw [keep_2 hsz] at hK5
            have hfin : LwS X w19 N y h gq aq σ (up af 0 (af 0 + 2)) := LwS.fin hO0 hNN hout3 (fun q e h9 hc1 hc2 hc3 => by have h9 := (hn3 q (by first | assumption | (obtain ⟨y1, y2, y3, y4, y5⟩ := hQg; first | assumption | (apply Ne.symm; assumption)) | (obtain ⟨y1, y2, y3, y4, y5⟩ := hQa; first | assumption | (apply Ne.symm; assumption)) | (obtain ⟨z1, z2, z3, z4, z5, z6, z7, z8, z9, z10⟩ := hNE; first | assumption | (apply Ne.symm; assumption)) | (obtain ⟨y1, y2, y3, y4, y5⟩ := hq5; first | assumption | (apply Ne.symm; assumption)) | omega)).trans h9; have h9 := hx7 q e h9 (by assumption); have h9 := hx11 q e h9 (by assumption); have h9 := hx17 q e h9 (by assumption); have h9 := hx21 q e h9 (by assumption); exact h9) hg9 ho4 hK5 (ac_2 hacc)
            have hb8 : 0 ≤ (up af 0 (af 0 + 2)) 8 ∧ (up af 0 (af 0 + 2)) 8 ≤ af 8 + 1000 := by rw [up_n (by decide)]; omega
            refine h_top (show (1 : Int) = bz true from rfl) ?_
            exact h_iretz F hr hlk hW hS ⟨_, _, hfin, hb8⟩ dL_acts_1695
      · exact absurd rfl c14
