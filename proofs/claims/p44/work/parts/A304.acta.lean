set_option maxHeartbeats 4000000 in
set_option maxRecDepth 100000 in
theorem sg_acts_992 (l : Launch) (X : Cx) (w : Wo) (y h gq aq : Nat) (N : Nat → Prop) (σ af : Int → Int) (hLS : LwS X w N y h gq aq σ af) (hp8 : 0 ≤ af 8 ∧ af 8 ≤ 900000)   {p : Program} {e : Env} {s : State} {m : MethodId} {below : List Frame} {meth : Method} {c : Code} {H : Heap} {locs : List Loc} {ls : Array Slot} {kc0 ks0 : Nat} (F : Fx p m c cL_acts 14 s (List.toArray [.ref y, .ref h, .ref gq, .ref aq]) RL) (hr : meth.sig.returnType = (some (.boolean))) (hlk : meth.locks = false) (hZ0 : cxZ X s s.heap) (hB9 : cxB X ≤ s.heap.size) (hkc0 : kc0 ≤ 10) (hks0 : ks0 ≤ 20) (hW : Wd X w s H) (hS : va_S (cxA X) s.heap H locs) (hl : lv_has ls 14 [(0, .ref y), (1, .ref h), (2, .ref gq), (3, .ref aq), (4, .int (iI (bz (decide (σ 4 < σ 1)))))]) : W p l e (rmG 11 1500 6000 260) s m (List.toArray [.ref y, .ref h, .ref gq, .ref aq]) below meth c H locs kc0 ks0 (MX X below (List.toArray [.ref y, .ref h, .ref gq, .ref aq]) s 1500 6000 (some (.int (iI (bz true)))) (fun w' => ∃ σ2 af2 : Int → Int, LwS X w' N y h gq aq σ2 af2 ∧ (0 ≤ af2 8 ∧ af2 8 ≤ af 8 + 1000))) (F0 m 992 ls []) := by
  obtain ⟨hO, ⟨nx, sz, pas, ac, hK, hacc⟩, ⟨gf, hg9⟩, ha9, hout3, hNN⟩ := hLS
  have hNy := hNN.1
  have hog := hout3.1
  have hoa := hout3.2.1
  have hga := hout3.2.2
  have hO0 := hO
  obtain ⟨st, lc, ec, kc, lr, er, kr, cd, rwa, hPw0, hern⟩ := hO.1.P
  have hNE := hPw0.ne
  have hQ5 := hPw0.q5
  have hPw := hPw0
  obtain ⟨h1w, ⟨fs, h2w, h2f⟩, hLcw, hkc, hcaw, hLrw, hkr, hclw, hem, ⟨hWF, hw0, hw1⟩, hrs, hlne, hene⟩ := hPw
  have hWF0 := hWF.1
  obtain ⟨wf0, wf1, wf2, wf3, wf4, wf5⟩ := hWF0
  have hnc := nr_cases (show nrS σ = _ from rfl) wf4.2
  have hnr0 : σ 4 ≤ nrS σ ∧ nrS σ ≤ σ 4 + 1 ∧ nrS σ ≤ σ 1 := by omega
  clear hnc
  have hkrb : 10 ≤ kr ∧ kr ≤ 15 := by omega
  clear hkr hkc hlne hern
  have h1n := (wr_some.mp h1w).1
  have h1 := (wr_some.mp h1w).2
  have h2n := (wr_some.mp h2w).1
  have h2 := (wr_some.mp h2w).2
  have hLc := hLcw.ex (wr_sub w N)
  have hLr := hLrw.ex (wr_sub w N)
  have hNl := hLcw.nN hO.2.2
  have hNr := hLrw.nN hO.2.2
  obtain ⟨⟨mc, h3⟩, gc, h3b, h3c, h3d⟩ := hLc
  obtain ⟨⟨mr, h5⟩, gr, h5b, h5c, h5d⟩ := hLr
  have h5e : w er = some (aR X 5 kr gr) := h5b.elim (fun z => by omega) (fun z => z.1)
  clear h3b h5b
  have hLr := hLrw.ex (wr_sub w N)
  have hLc := hLcw.ex (wr_sub w N)
  have hQg := hQ5 gq hNN.2.1
  have hQa := hQ5 aq hNN.2.2
  have hoh := outY.nN hNy h1n
  have host := outY.nN hNy h2n
  have holc := outY.nN hNy hNl.1
  have holr := outY.nN hNy hNr.1
  have hoer := outY.nN hNy hNr.2
  have hXY := hW.zy
  refine lv_aload_n F.1 F.2.1 dL_acts_992 rfl (lv_at hl 1 rfl) ?_
  refine h_iconst F dL_acts_993 ?_
  refine cl_RL_219 (As := [.int (iI 1)]) (rest := []) F hl (c_X10_allWrong l X w h σ true hO0.A) hW hS h1 rfl rfl ⟨Nat.le_of_ble_eq_true rfl, Nat.le_of_ble_eq_true rfl⟩ (Nat.le_of_ble_eq_true rfl) ⟨(by show kc0 + 247 ≤ 1500; omega), (by show ks0 + 988 ≤ 6000; omega)⟩ dL_acts_994 (fun w1 H locs hp1 hW hS => ?_)
  rw [hp1] at hW; clear hp1; clear w1
  refine h_top (show ((if true then misSeen σ else misFrom σ 0) : Int) = misSeen σ from rfl) ?_
  refine lv_istore (lv' := [(5, .int (iI (misSeen σ))), (0, .ref y), (1, .ref h), (2, .ref gq), (3, .ref aq), (4, .int (iI (bz (decide (σ 4 < σ 1)))))]) F.1 F.2.1 dL_acts_997 hl (by decide) rfl (fun ls hl => ?_)
  refine lv_aload_n F.1 F.2.1 dL_acts_999 rfl (lv_at hl 2 rfl) ?_
  refine lv_aload_n F.1 F.2.1 dL_acts_1000 rfl (lv_at hl 2 rfl) ?_
  refine cl_RL_186 (As := []) (rest := [.ref h]) F hl (c_X10_rows l X w h σ hO0.A) hW hS h1 rfl rfl ⟨Nat.le_of_ble_eq_true rfl, Nat.le_of_ble_eq_true rfl⟩ (Nat.le_of_ble_eq_true rfl) ⟨(by show kc0 + 247 + 0 ≤ 1500; omega), (by show ks0 + 988 + 0 ≤ 6000; omega)⟩ dL_acts_1001 (fun w1 H locs hp2 hW hS => ?_)
  rw [hp2] at hW; clear hp2; clear w1
  refine pf_RL_206 F hW hS hZ0 hB9 h1 (Nat.le_of_ble_eq_true rfl) dL_acts_1004 (fun w3 H locs ho5 hn4 hW hS => ?_)
  have ho5 : w3 h = some (.inr (10, [.int (iI (σ 0)), .int (iI (σ 1)), .int (iI (σ 2)), .int (iI (σ 4)), .ref st, .ref lc, .ref lr, .int (iI (bz (decide (σ 4 = σ 1))))])) := ho5
  have h5 := (hn4 _ (by first | assumption | (obtain ⟨y1, y2, y3, y4, y5⟩ := hQg; first | assumption | (apply Ne.symm; assumption)) | (obtain ⟨y1, y2, y3, y4, y5⟩ := hQa; first | assumption | (apply Ne.symm; assumption)) | (obtain ⟨z1, z2, z3, z4, z5, z6, z7, z8, z9, z10⟩ := hNE; first | assumption | (apply Ne.symm; assumption)) | (obtain ⟨y1, y2, y3, y4, y5⟩ := hq5; first | assumption | (apply Ne.symm; assumption)) | omega)).trans h5
  have h3 := (hn4 _ (by first | assumption | (obtain ⟨y1, y2, y3, y4, y5⟩ := hQg; first | assumption | (apply Ne.symm; assumption)) | (obtain ⟨y1, y2, y3, y4, y5⟩ := hQa; first | assumption | (apply Ne.symm; assumption)) | (obtain ⟨z1, z2, z3, z4, z5, z6, z7, z8, z9, z10⟩ := hNE; first | assumption | (apply Ne.symm; assumption)) | (obtain ⟨y1, y2, y3, y4, y5⟩ := hq5; first | assumption | (apply Ne.symm; assumption)) | omega)).trans h3
  have h5e := (hn4 _ (by first | assumption | (obtain ⟨y1, y2, y3, y4, y5⟩ := hQg; first | assumption | (apply Ne.symm; assumption)) | (obtain ⟨y1, y2, y3, y4, y5⟩ := hQa; first | assumption | (apply Ne.symm; assumption)) | (obtain ⟨z1, z2, z3, z4, z5, z6, z7, z8, z9, z10⟩ := hNE; first | assumption | (apply Ne.symm; assumption)) | (obtain ⟨y1, y2, y3, y4, y5⟩ := hq5; first | assumption | (apply Ne.symm; assumption)) | omega)).trans h5e
  have h2 := (hn4 _ (by first | assumption | (obtain ⟨y1, y2, y3, y4, y5⟩ := hQg; first | assumption | (apply Ne.symm; assumption)) | (obtain ⟨y1, y2, y3, y4, y5⟩ := hQa; first | assumption | (apply Ne.symm; assumption)) | (obtain ⟨z1, z2, z3, z4, z5, z6, z7, z8, z9, z10⟩ := hNE; first | assumption | (apply Ne.symm; assumption)) | (obtain ⟨y1, y2, y3, y4, y5⟩ := hq5; first | assumption | (apply Ne.symm; assumption)) | omega)).trans h2
  have hg9 := (hn4 _ (by first | assumption | (obtain ⟨y1, y2, y3, y4, y5⟩ := hQg; first | assumption | (apply Ne.symm; assumption)) | (obtain ⟨y1, y2, y3, y4, y5⟩ := hQa; first | assumption | (apply Ne.symm; assumption)) | (obtain ⟨z1, z2, z3, z4, z5, z6, z7, z8, z9, z10⟩ := hNE; first | assumption | (apply Ne.symm; assumption)) | (obtain ⟨y1, y2, y3, y4, y5⟩ := hq5; first | assumption | (apply Ne.symm; assumption)) | omega)).trans hg9
  have ha9 := (hn4 _ (by first | assumption | (obtain ⟨y1, y2, y3, y4, y5⟩ := hQg; first | assumption | (apply Ne.symm; assumption)) | (obtain ⟨y1, y2, y3, y4, y5⟩ := hQa; first | assumption | (apply Ne.symm; assumption)) | (obtain ⟨z1, z2, z3, z4, z5, z6, z7, z8, z9, z10⟩ := hNE; first | assumption | (apply Ne.symm; assumption)) | (obtain ⟨y1, y2, y3, y4, y5⟩ := hq5; first | assumption | (apply Ne.symm; assumption)) | omega)).trans ha9
  obtain ⟨τ, hτ⟩ : ∃ τ, τ = up σ 3 (σ 4) := ⟨_, rfl⟩
  have hgm : ∀ (q : Nat) (e : va_E), wr w N q = some e → ¬ (q = h) → wr w3 N q = some e := fun q e h9 hP9 => by have hN9 := (wr_some.mp h9).1; have h9 := (wr_some.mp h9).2; have hqg : q ≠ gq := fun e9 => hN9 (e9 ▸ hNN.2.1); have hqa : q ≠ aq := fun e9 => hN9 (e9 ▸ hNN.2.2); have hqy : outY y q := outY.nN hNy hN9; skip; have h9 := (hn4 q (by first | assumption | (obtain ⟨y1, y2, y3, y4, y5⟩ := hQg; first | assumption | (apply Ne.symm; assumption)) | (obtain ⟨y1, y2, y3, y4, y5⟩ := hQa; first | assumption | (apply Ne.symm; assumption)) | (obtain ⟨z1, z2, z3, z4, z5, z6, z7, z8, z9, z10⟩ := hNE; first | assumption | (apply Ne.symm; assumption)) | (obtain ⟨y1, y2, y3, y4, y5⟩ := hq5; first | assumption | (apply Ne.symm; assumption)) | omega)).trans h9; exact wr_some.mpr ⟨hN9, h9⟩
  have hWτ : WF τ := by rw [hτ]; exact WF_fld hWF 3 (σ 4) (Or.inr (Or.inl ⟨rfl, by omega, by omega⟩)) (fun z9 => absurd z9 (by decide))
  have hPt := hPw0.hd (τ := τ) hgm (fun p h2 h3 => by rw [hτ, up_n h3]) (wr_some.mpr ⟨h1n, (by rw [hτ, up_s, up_n (by decide), up_n (by decide), up_n (by decide), up_n (by decide)]; exact ho5)⟩) hWτ
  have hmN : ∀ (q : Nat) (e : va_E), w q = some e → N q → q ≠ gq → w3 q = some e := fun q e h9 h09 h19 => by have hq5 := hQ5 q h09; have hqe9 : q ≠ ec := fun e9 => hNl.2 (e9 ▸ h09); have hqe8 : q ≠ ec ∨ kc = 0 := Or.inl hqe9; have h9 := (hn4 q (by first | assumption | (obtain ⟨y1, y2, y3, y4, y5⟩ := hQg; first | assumption | (apply Ne.symm; assumption)) | (obtain ⟨y1, y2, y3, y4, y5⟩ := hQa; first | assumption | (apply Ne.symm; assumption)) | (obtain ⟨z1, z2, z3, z4, z5, z6, z7, z8, z9, z10⟩ := hNE; first | assumption | (apply Ne.symm; assumption)) | (obtain ⟨y1, y2, y3, y4, y5⟩ := hq5; first | assumption | (apply Ne.symm; assumption)) | omega)).trans h9; exact h9
  have hOn : ownN X w3 N h τ := hO0.of hPt.A hmN (kn_e hg9)
  have hKn : KS X w3 y σ nx sz pas ac := hK.ex (fun q e q0 q1 h9 => by have hqg := hog.ne q0 q1; have hqa := hoa.ne q0 q1; have hq5 := hQ5 q (hNy q q0 q1); have hqe9 : q ≠ ec := fun e9 => hNl.2 (e9 ▸ hNy q q0 q1); have hqe8 : q ≠ ec ∨ kc = 0 := Or.inl hqe9; have h9 := (hn4 q (by first | assumption | (obtain ⟨y1, y2, y3, y4, y5⟩ := hQg; first | assumption | (apply Ne.symm; assumption)) | (obtain ⟨y1, y2, y3, y4, y5⟩ := hQa; first | assumption | (apply Ne.symm; assumption)) | (obtain ⟨z1, z2, z3, z4, z5, z6, z7, z8, z9, z10⟩ := hNE; first | assumption | (apply Ne.symm; assumption)) | (obtain ⟨y1, y2, y3, y4, y5⟩ := hq5; first | assumption | (apply Ne.symm; assumption)) | omega)).trans h9; exact h9)
  obtain ⟨su9, tx9, M9, oo9, rv9, hC9⟩ := id hKn
  have hYc := hC9.1
  skip
  have hs0 := misSeen_rr hWF
  have hs1 := misSeen_rr hWτ
  rw [hτ] at hs1
  have hs2 := misSeen_le hWF
  refine lv_aload_n F.1 F.2.1 dL_acts_1007 rfl (lv_at hl 1 rfl) ?_
  refine cl_RL_369 (As := []) (rest := []) F hl (k_look l X w3 y σ nx sz pas ac hKn) hW hS hYc rfl rfl ⟨Nat.le_of_ble_eq_true rfl, Nat.le_of_ble_eq_true rfl⟩ (Nat.le_of_ble_eq_true rfl) ⟨(by show kc0 + 247 + 0 + 0 ≤ 1500; omega), (by show ks0 + 988 + 0 + 0 ≤ 6000; omega)⟩ dL_acts_1008 (fun w6 H locs hp7 hW hS => ?_)
  obtain ⟨hK2, hx8⟩ := hp7
  have ho5 := hx8 _ _ ho5 (by assumption)
  have hg9 := hx8 _ _ hg9 (by assumption)
  have ha9 := hx8 _ _ ha9 (by assumption)
  skip
  refine lv_aload_n F.1 F.2.1 dL_acts_1011 rfl (lv_at hl 2 rfl) ?_
  refine h_iconst F dL_acts_1012 ?_
  have hOr : ownN X w6 N h τ := hOn.cl hNN (fun q e h9 hc1 hc2 hc3 => by have h9 := hx8 q e h9 (by assumption); exact h9) hg9 ha9 hK2.kn
  refine cl_RL_219 (As := [.int (iI 1)]) (rest := [.int (iI (misSeen (up σ 3 (σ 4)) - misSeen σ))]) F hl (c_X10_allWrong l X w6 h τ true hOr.A) hW hS ho5 rfl rfl ⟨Nat.le_of_ble_eq_true rfl, Nat.le_of_ble_eq_true rfl⟩ (Nat.le_of_ble_eq_true rfl) ⟨(by show kc0 + 247 + 0 + 0 + 247 ≤ 1500; omega), (by show ks0 + 988 + 0 + 0 + 988 ≤ 6000; omega)⟩ dL_acts_1013 (fun w1 H locs hp9 hW hS => ?_)
  rw [hp9] at hW; clear hp9; clear w1
  refine h_top (show ((if true then misSeen τ else misFrom τ 0) : Int) = misSeen (up σ 3 (σ 4)) from by rw [hτ]; rfl) ?_
  refine lv_iload F.1 F.2.1 dL_acts_1016 (lv_at hl 0 rfl) ?_
  refine h_isub (a := misSeen (up σ 3 (σ 4))) (b := misSeen σ) F dL_acts_1018 ?_
  refine lv_aload_n F.1 F.2.1 dL_acts_1019 rfl (lv_at hl 4 rfl) ?_
  refine cl_RL_329 (As := [.int (iI (misSeen (up σ 3 (σ 4)) - misSeen σ)), .int (iI ((misSeen (up σ 3 (σ 4))) - (misSeen σ))), .ref aq]) (rest := []) F hl (c_L_is l X w6 aq af (misSeen (up σ 3 (σ 4)) - misSeen σ) ((misSeen (up σ 3 (σ 4))) - (misSeen σ)) ha9 (by omega)) hW hS rfl rfl ⟨Nat.le_of_ble_eq_true rfl, Nat.le_of_ble_eq_true rfl⟩ (Nat.le_of_ble_eq_true rfl) ⟨(by show kc0 + 247 + 0 + 0 + 247 + 0 ≤ 1500; omega), (by show ks0 + 988 + 0 + 0 + 988 + 0 ≤ 6000; omega)⟩ dL_acts_1020 (fun w10 H locs hp11 hW hS => ?_)
  obtain ⟨ha12, hn13⟩ := hp11
  have ho5 := (hn13 _ (by first | assumption | (obtain ⟨y1, y2, y3, y4, y5⟩ := hQg; first | assumption | (apply Ne.symm; assumption)) | (obtain ⟨y1, y2, y3, y4, y5⟩ := hQa; first | assumption | (apply Ne.symm; assumption)) | (obtain ⟨z1, z2, z3, z4, z5, z6, z7, z8, z9, z10⟩ := hNE; first | assumption | (apply Ne.symm; assumption)) | (obtain ⟨y1, y2, y3, y4, y5⟩ := hq5; first | assumption | (apply Ne.symm; assumption)) | omega)).trans ho5
  have hg9 := (hn13 _ (by first | assumption | (obtain ⟨y1, y2, y3, y4, y5⟩ := hQg; first | assumption | (apply Ne.symm; assumption)) | (obtain ⟨y1, y2, y3, y4, y5⟩ := hQa; first | assumption | (apply Ne.symm; assumption)) | (obtain ⟨z1, z2, z3, z4, z5, z6, z7, z8, z9, z10⟩ := hNE; first | assumption | (apply Ne.symm; assumption)) | (obtain ⟨y1, y2, y3, y4, y5⟩ := hq5; first | assumption | (apply Ne.symm; assumption)) | omega)).trans hg9
  refine W.wd (mc := 1500) (ms := 6000) (by omega) (by omega) ?_
  rw [← hτ] at hK2
  have hK3 := hK2.ex (w2 := w10) (fun q e q0 q1 h9 => by have hqg := hog.ne q0 q1; have hqa := hoa.ne q0 q1; have h9 := (hn13 q (by first | assumption | (obtain ⟨y1, y2, y3, y4, y5⟩ := hQg; first | assumption | (apply Ne.symm; assumption)) | (obtain ⟨y1, y2, y3, y4, y5⟩ := hQa; first | assumption | (apply Ne.symm; assumption)) | (obtain ⟨z1, z2, z3, z4, z5, z6, z7, z8, z9, z10⟩ := hNE; first | assumption | (apply Ne.symm; assumption)) | (obtain ⟨y1, y2, y3, y4, y5⟩ := hq5; first | assumption | (apply Ne.symm; assumption)) | omega)).trans h9; exact h9)
  have hfin : LwS X w10 N y h gq aq τ (up af (if ((misSeen (up σ 3 (σ 4))) - (misSeen σ)) < 0 then -((misSeen (up σ 3 (σ 4))) - (misSeen σ)) else 0) (af (if ((misSeen (up σ 3 (σ 4))) - (misSeen σ)) < 0 then -((misSeen (up σ 3 (σ 4))) - (misSeen σ)) else 0) + 1)) := LwS.fin hOn hNN hout3 (fun q e h9 hc1 hc2 hc3 => by have h9 := hx8 q e h9 (by assumption); have h9 := (hn13 q (by first | assumption | (obtain ⟨y1, y2, y3, y4, y5⟩ := hQg; first | assumption | (apply Ne.symm; assumption)) | (obtain ⟨y1, y2, y3, y4, y5⟩ := hQa; first | assumption | (apply Ne.symm; assumption)) | (obtain ⟨z1, z2, z3, z4, z5, z6, z7, z8, z9, z10⟩ := hNE; first | assumption | (apply Ne.symm; assumption)) | (obtain ⟨y1, y2, y3, y4, y5⟩ := hq5; first | assumption | (apply Ne.symm; assumption)) | omega)).trans h9; exact h9) hg9 ha12 hK3 (ac_is hacc (if_neg (by omega)) (by decide))
  have hb8 : 0 ≤ (up af (if ((misSeen (up σ 3 (σ 4))) - (misSeen σ)) < 0 then -((misSeen (up σ 3 (σ 4))) - (misSeen σ)) else 0) (af (if ((misSeen (up σ 3 (σ 4))) - (misSeen σ)) < 0 then -((misSeen (up σ 3 (σ 4))) - (misSeen σ)) else 0) + 1)) 8 ∧ (up af (if ((misSeen (up σ 3 (σ 4))) - (misSeen σ)) < 0 then -((misSeen (up σ 3 (σ 4))) - (misSeen σ)) else 0) (af (if ((misSeen (up σ 3 (σ 4))) - (misSeen σ)) < 0 then -((misSeen (up σ 3 (σ 4))) - (misSeen σ)) else 0) + 1)) 8 ≤ af 8 + 1000 := by rw [ac_1 (if_neg (by omega)) (by decide)]; omega
  refine h_top (show (bz (decide ((misSeen (up σ 3 (σ 4)) - misSeen σ) = ((misSeen (up σ 3 (σ 4))) - (misSeen σ)))) : Int) = bz true from congrArg bz (decide_eq_true rfl)) ?_
  exact h_iretz F hr hlk hW hS ⟨_, _, hfin, hb8⟩ dL_acts_1023
set_option maxHeartbeats 4000000 in
set_option maxRecDepth 100000 in
theorem sg_acts_1511 (l : Launch) (X : Cx) (w : Wo) (y h gq aq : Nat) (N : Nat → Prop) (σ af : Int → Int) (hLS : LwS X w N y h gq aq σ af) (hp8 : 0 ≤ af 8 ∧ af 8 ≤ 900000)   {p : Program} {e : Env} {s : State} {m : MethodId} {below : List Frame} {meth : Method} {c : Code} {H : Heap} {locs : List Loc} {ls : Array Slot} {kc0 ks0 : Nat} (F : Fx p m c cL_acts 14 s (List.toArray [.ref y, .ref h, .ref gq, .ref aq]) RL) (hr : meth.sig.returnType = (some (.boolean))) (hlk : meth.locks = false) (hZ0 : cxZ X s s.heap) (hB9 : cxB X ≤ s.heap.size) (hkc0 : kc0 ≤ 10) (hks0 : ks0 ≤ 20) (hW : Wd X w s H) (hS : va_S (cxA X) s.heap H locs) (hl : lv_has ls 14 [(0, .ref y), (1, .ref h), (2, .ref gq), (3, .ref aq), (4, .int (iI (bz (decide (σ 4 < σ 1)))))]) : W p l e (rmG 11 1500 6000 260) s m (List.toArray [.ref y, .ref h, .ref gq, .ref aq]) below meth c H locs kc0 ks0 (MX X below (List.toArray [.ref y, .ref h, .ref gq, .ref aq]) s 1500 6000 (some (.int (iI (bz true)))) (fun w' => ∃ σ2 af2 : Int → Int, LwS X w' N y h gq aq σ2 af2 ∧ (0 ≤ af2 8 ∧ af2 8 ≤ af 8 + 1000))) (F0 m 1511 ls []) := by
  obtain ⟨hO, ⟨nx, sz, pas, ac, hK, hacc⟩, ⟨gf, hg9⟩, ha9, hout3, hNN⟩ := hLS
  have hNy := hNN.1
  have hog := hout3.1
  have hoa := hout3.2.1
  have hga := hout3.2.2
  have hO0 := hO
  obtain ⟨st, lc, ec, kc, lr, er, kr, cd, rwa, hPw0, hern⟩ := hO.1.P
  have hNE := hPw0.ne
  have hQ5 := hPw0.q5
  have hPw := hPw0
  obtain ⟨h1w, ⟨fs, h2w, h2f⟩, hLcw, hkc, hcaw, hLrw, hkr, hclw, hem, ⟨hWF, hw0, hw1⟩, hrs, hlne, hene⟩ := hPw
  have hWF0 := hWF.1
  obtain ⟨wf0, wf1, wf2, wf3, wf4, wf5⟩ := hWF0
  have hnc := nr_cases (show nrS σ = _ from rfl) wf4.2
  have hnr0 : σ 4 ≤ nrS σ ∧ nrS σ ≤ σ 4 + 1 ∧ nrS σ ≤ σ 1 := by omega
  clear hnc
  have hkrb : 10 ≤ kr ∧ kr ≤ 15 := by omega
  clear hkr hkc hlne hern
  have h1n := (wr_some.mp h1w).1
  have h1 := (wr_some.mp h1w).2
  have h2n := (wr_some.mp h2w).1
  have h2 := (wr_some.mp h2w).2
  have hLc := hLcw.ex (wr_sub w N)
  have hLr := hLrw.ex (wr_sub w N)
  have hNl := hLcw.nN hO.2.2
  have hNr := hLrw.nN hO.2.2
  obtain ⟨⟨mc, h3⟩, gc, h3b, h3c, h3d⟩ := hLc
  obtain ⟨⟨mr, h5⟩, gr, h5b, h5c, h5d⟩ := hLr
  have h5e : w er = some (aR X 5 kr gr) := h5b.elim (fun z => by omega) (fun z => z.1)
  clear h3b h5b
  have hLr := hLrw.ex (wr_sub w N)
  have hLc := hLcw.ex (wr_sub w N)
  have hQg := hQ5 gq hNN.2.1
  have hQa := hQ5 aq hNN.2.2
  have hoh := outY.nN hNy h1n
  have host := outY.nN hNy h2n
  have holc := outY.nN hNy hNl.1
  have holr := outY.nN hNy hNr.1
  have hoer := outY.nN hNy hNr.2
  have hXY := hW.zy
  refine lv_aload_n F.1 F.2.1 dL_acts_1511 rfl (lv_at hl 2 rfl) ?_
  refine h_bipush F dL_acts_1512 rfl ?_
  refine cr_RL_45 (As := [.ref gq, .int (iI 7)]) (rest := []) F hl (c_L_draw l X w gq gf 7 hg9 (by omega)) hW hS rfl rfl ⟨Nat.le_of_ble_eq_true rfl, Nat.le_of_ble_eq_true rfl⟩ (Nat.le_of_ble_eq_true rfl) ⟨(by show kc0 + 0 ≤ 1500; omega), (by show ks0 + 0 ≤ 6000; omega)⟩ dL_acts_1514 (fun v3 w1 H locs hp2 hW hS => ?_)
  obtain ⟨dk, g1, rfl, hm4, ha5, hx6⟩ := hp2
  have h1 := hx6 _ _ h1 (by first | assumption | (obtain ⟨y1, y2, y3, y4, y5⟩ := hQg; first | assumption | (apply Ne.symm; assumption)) | (obtain ⟨y1, y2, y3, y4, y5⟩ := hQa; first | assumption | (apply Ne.symm; assumption)) | (obtain ⟨z1, z2, z3, z4, z5, z6, z7, z8, z9, z10⟩ := hNE; first | assumption | (apply Ne.symm; assumption)) | (obtain ⟨y1, y2, y3, y4, y5⟩ := hq5; first | assumption | (apply Ne.symm; assumption)) | omega)
  have h5 := hx6 _ _ h5 (by first | assumption | (obtain ⟨y1, y2, y3, y4, y5⟩ := hQg; first | assumption | (apply Ne.symm; assumption)) | (obtain ⟨y1, y2, y3, y4, y5⟩ := hQa; first | assumption | (apply Ne.symm; assumption)) | (obtain ⟨z1, z2, z3, z4, z5, z6, z7, z8, z9, z10⟩ := hNE; first | assumption | (apply Ne.symm; assumption)) | (obtain ⟨y1, y2, y3, y4, y5⟩ := hq5; first | assumption | (apply Ne.symm; assumption)) | omega)
  have h3 := hx6 _ _ h3 (by first | assumption | (obtain ⟨y1, y2, y3, y4, y5⟩ := hQg; first | assumption | (apply Ne.symm; assumption)) | (obtain ⟨y1, y2, y3, y4, y5⟩ := hQa; first | assumption | (apply Ne.symm; assumption)) | (obtain ⟨z1, z2, z3, z4, z5, z6, z7, z8, z9, z10⟩ := hNE; first | assumption | (apply Ne.symm; assumption)) | (obtain ⟨y1, y2, y3, y4, y5⟩ := hq5; first | assumption | (apply Ne.symm; assumption)) | omega)
  have h5e := hx6 _ _ h5e (by first | assumption | (obtain ⟨y1, y2, y3, y4, y5⟩ := hQg; first | assumption | (apply Ne.symm; assumption)) | (obtain ⟨y1, y2, y3, y4, y5⟩ := hQa; first | assumption | (apply Ne.symm; assumption)) | (obtain ⟨z1, z2, z3, z4, z5, z6, z7, z8, z9, z10⟩ := hNE; first | assumption | (apply Ne.symm; assumption)) | (obtain ⟨y1, y2, y3, y4, y5⟩ := hq5; first | assumption | (apply Ne.symm; assumption)) | omega)
  have h2 := hx6 _ _ h2 (by first | assumption | (obtain ⟨y1, y2, y3, y4, y5⟩ := hQg; first | assumption | (apply Ne.symm; assumption)) | (obtain ⟨y1, y2, y3, y4, y5⟩ := hQa; first | assumption | (apply Ne.symm; assumption)) | (obtain ⟨z1, z2, z3, z4, z5, z6, z7, z8, z9, z10⟩ := hNE; first | assumption | (apply Ne.symm; assumption)) | (obtain ⟨y1, y2, y3, y4, y5⟩ := hq5; first | assumption | (apply Ne.symm; assumption)) | omega)
  have ha9 := hx6 _ _ ha9 (by first | assumption | (obtain ⟨y1, y2, y3, y4, y5⟩ := hQg; first | assumption | (apply Ne.symm; assumption)) | (obtain ⟨y1, y2, y3, y4, y5⟩ := hQa; first | assumption | (apply Ne.symm; assumption)) | (obtain ⟨z1, z2, z3, z4, z5, z6, z7, z8, z9, z10⟩ := hNE; first | assumption | (apply Ne.symm; assumption)) | (obtain ⟨y1, y2, y3, y4, y5⟩ := hq5; first | assumption | (apply Ne.symm; assumption)) | omega)
  refine lv_istore (lv' := [(5, .int (iI dk)), (0, .ref y), (1, .ref h), (2, .ref gq), (3, .ref aq), (4, .int (iI (bz (decide (σ 4 < σ 1)))))]) F.1 F.2.1 dL_acts_1517 hl (by decide) rfl (fun ls hl => ?_)
  refine lv_aload_n F.1 F.2.1 dL_acts_1519 rfl (lv_at hl 2 rfl) ?_
  refine gf_RL_145 F hW h1 rfl dL_acts_1520 ?_
  refine lv_iload F.1 F.2.1 dL_acts_1523 (lv_at hl 0 rfl) ?_
  refine h_iald F hW h2 (by omega) (by omega) dL_acts_1525 ?_
  refine h_top (show (fs dk : Int) = σ (6 + dk) from h2f dk (by omega) (by omega)) ?_
  refine lv_istore (lv' := [(6, .int (iI (σ (6 + dk)))), (5, .int (iI dk)), (0, .ref y), (1, .ref h), (2, .ref gq), (3, .ref aq), (4, .int (iI (bz (decide (σ 4 < σ 1)))))]) F.1 F.2.1 dL_acts_1526 hl (by decide) rfl (fun ls hl => ?_)
  refine lv_aload_n F.1 F.2.1 dL_acts_1528 rfl (lv_at hl 3 rfl) ?_
  refine gf_RL_145 F hW h1 rfl dL_acts_1529 ?_
  refine lv_iload F.1 F.2.1 dL_acts_1532 (lv_at hl 1 rfl) ?_
  refine lv_aload_n F.1 F.2.1 dL_acts_1534 rfl (lv_at hl 4 rfl) ?_
  refine h_iconst F dL_acts_1535 ?_
  refine cr_RL_45 (As := [.ref gq, .int (iI 2)]) (rest := [.int (iI dk), .ref st]) F hl (c_L_draw l X w1 gq g1 2 ha5 (by omega)) hW hS rfl rfl ⟨Nat.le_of_ble_eq_true rfl, Nat.le_of_ble_eq_true rfl⟩ (Nat.le_of_ble_eq_true rfl) ⟨(by show kc0 + 0 + 0 ≤ 1500; omega), (by show ks0 + 0 + 0 ≤ 6000; omega)⟩ dL_acts_1536 (fun v9 w7 H locs hp8 hW hS => ?_)
  obtain ⟨dn, g2, rfl, hm10, ha11, hx12⟩ := hp8
  have h1 := hx12 _ _ h1 (by first | assumption | (obtain ⟨y1, y2, y3, y4, y5⟩ := hQg; first | assumption | (apply Ne.symm; assumption)) | (obtain ⟨y1, y2, y3, y4, y5⟩ := hQa; first | assumption | (apply Ne.symm; assumption)) | (obtain ⟨z1, z2, z3, z4, z5, z6, z7, z8, z9, z10⟩ := hNE; first | assumption | (apply Ne.symm; assumption)) | (obtain ⟨y1, y2, y3, y4, y5⟩ := hq5; first | assumption | (apply Ne.symm; assumption)) | omega)
  have h5 := hx12 _ _ h5 (by first | assumption | (obtain ⟨y1, y2, y3, y4, y5⟩ := hQg; first | assumption | (apply Ne.symm; assumption)) | (obtain ⟨y1, y2, y3, y4, y5⟩ := hQa; first | assumption | (apply Ne.symm; assumption)) | (obtain ⟨z1, z2, z3, z4, z5, z6, z7, z8, z9, z10⟩ := hNE; first | assumption | (apply Ne.symm; assumption)) | (obtain ⟨y1, y2, y3, y4, y5⟩ := hq5; first | assumption | (apply Ne.symm; assumption)) | omega)
  have h3 := hx12 _ _ h3 (by first | assumption | (obtain ⟨y1, y2, y3, y4, y5⟩ := hQg; first | assumption | (apply Ne.symm; assumption)) | (obtain ⟨y1, y2, y3, y4, y5⟩ := hQa; first | assumption | (apply Ne.symm; assumption)) | (obtain ⟨z1, z2, z3, z4, z5, z6, z7, z8, z9, z10⟩ := hNE; first | assumption | (apply Ne.symm; assumption)) | (obtain ⟨y1, y2, y3, y4, y5⟩ := hq5; first | assumption | (apply Ne.symm; assumption)) | omega)
  have h5e := hx12 _ _ h5e (by first | assumption | (obtain ⟨y1, y2, y3, y4, y5⟩ := hQg; first | assumption | (apply Ne.symm; assumption)) | (obtain ⟨y1, y2, y3, y4, y5⟩ := hQa; first | assumption | (apply Ne.symm; assumption)) | (obtain ⟨z1, z2, z3, z4, z5, z6, z7, z8, z9, z10⟩ := hNE; first | assumption | (apply Ne.symm; assumption)) | (obtain ⟨y1, y2, y3, y4, y5⟩ := hq5; first | assumption | (apply Ne.symm; assumption)) | omega)
  have h2 := hx12 _ _ h2 (by first | assumption | (obtain ⟨y1, y2, y3, y4, y5⟩ := hQg; first | assumption | (apply Ne.symm; assumption)) | (obtain ⟨y1, y2, y3, y4, y5⟩ := hQa; first | assumption | (apply Ne.symm; assumption)) | (obtain ⟨z1, z2, z3, z4, z5, z6, z7, z8, z9, z10⟩ := hNE; first | assumption | (apply Ne.symm; assumption)) | (obtain ⟨y1, y2, y3, y4, y5⟩ := hq5; first | assumption | (apply Ne.symm; assumption)) | omega)
  have ha9 := hx12 _ _ ha9 (by first | assumption | (obtain ⟨y1, y2, y3, y4, y5⟩ := hQg; first | assumption | (apply Ne.symm; assumption)) | (obtain ⟨y1, y2, y3, y4, y5⟩ := hQa; first | assumption | (apply Ne.symm; assumption)) | (obtain ⟨z1, z2, z3, z4, z5, z6, z7, z8, z9, z10⟩ := hNE; first | assumption | (apply Ne.symm; assumption)) | (obtain ⟨y1, y2, y3, y4, y5⟩ := hq5; first | assumption | (apply Ne.symm; assumption)) | omega)
  refine h_ifne (tgt := 1551) F dL_acts_1539 (by decide) (by omega) (fun c13 => ?_) (fun c13 => ?_)
  · refine h_bipush F dL_acts_1551 rfl ?_
    refine lv_aload_n F.1 F.2.1 dL_acts_1553 rfl (lv_at hl 4 rfl) ?_
    refine h_sipush F dL_acts_1554 rfl ?_
    refine cr_RL_45 (As := [.ref gq, .int (iI 400)]) (rest := [.int (iI 50), .int (iI dk), .ref st]) F hl (c_L_draw l X w7 gq g2 400 ha11 (by omega)) hW hS rfl rfl ⟨Nat.le_of_ble_eq_true rfl, Nat.le_of_ble_eq_true rfl⟩ (Nat.le_of_ble_eq_true rfl) ⟨(by show kc0 + 0 + 0 + 0 ≤ 1500; omega), (by show ks0 + 0 + 0 + 0 ≤ 6000; omega)⟩ dL_acts_1557 (fun v16 w14 H locs hp15 hW hS => ?_)
    obtain ⟨dv, g3, rfl, hm17, ha18, hx19⟩ := hp15
    have h1 := hx19 _ _ h1 (by first | assumption | (obtain ⟨y1, y2, y3, y4, y5⟩ := hQg; first | assumption | (apply Ne.symm; assumption)) | (obtain ⟨y1, y2, y3, y4, y5⟩ := hQa; first | assumption | (apply Ne.symm; assumption)) | (obtain ⟨z1, z2, z3, z4, z5, z6, z7, z8, z9, z10⟩ := hNE; first | assumption | (apply Ne.symm; assumption)) | (obtain ⟨y1, y2, y3, y4, y5⟩ := hq5; first | assumption | (apply Ne.symm; assumption)) | omega)
    have h5 := hx19 _ _ h5 (by first | assumption | (obtain ⟨y1, y2, y3, y4, y5⟩ := hQg; first | assumption | (apply Ne.symm; assumption)) | (obtain ⟨y1, y2, y3, y4, y5⟩ := hQa; first | assumption | (apply Ne.symm; assumption)) | (obtain ⟨z1, z2, z3, z4, z5, z6, z7, z8, z9, z10⟩ := hNE; first | assumption | (apply Ne.symm; assumption)) | (obtain ⟨y1, y2, y3, y4, y5⟩ := hq5; first | assumption | (apply Ne.symm; assumption)) | omega)
    have h3 := hx19 _ _ h3 (by first | assumption | (obtain ⟨y1, y2, y3, y4, y5⟩ := hQg; first | assumption | (apply Ne.symm; assumption)) | (obtain ⟨y1, y2, y3, y4, y5⟩ := hQa; first | assumption | (apply Ne.symm; assumption)) | (obtain ⟨z1, z2, z3, z4, z5, z6, z7, z8, z9, z10⟩ := hNE; first | assumption | (apply Ne.symm; assumption)) | (obtain ⟨y1, y2, y3, y4, y5⟩ := hq5; first | assumption | (apply Ne.symm; assumption)) | omega)
    have h5e := hx19 _ _ h5e (by first | assumption | (obtain ⟨y1, y2, y3, y4, y5⟩ := hQg; first | assumption | (apply Ne.symm; assumption)) | (obtain ⟨y1, y2, y3, y4, y5⟩ := hQa; first | assumption | (apply Ne.symm; assumption)) | (obtain ⟨z1, z2, z3, z4, z5, z6, z7, z8, z9, z10⟩ := hNE; first | assumption | (apply Ne.symm; assumption)) | (obtain ⟨y1, y2, y3, y4, y5⟩ := hq5; first | assumption | (apply Ne.symm; assumption)) | omega)
    have h2 := hx19 _ _ h2 (by first | assumption | (obtain ⟨y1, y2, y3, y4, y5⟩ := hQg; first | assumption | (apply Ne.symm; assumption)) | (obtain ⟨y1, y2, y3, y4, y5⟩ := hQa; first | assumption | (apply Ne.symm; assumption)) | (obtain ⟨z1, z2, z3, z4, z5, z6, z7, z8, z9, z10⟩ := hNE; first | assumption | (apply Ne.symm; assumption)) | (obtain ⟨y1, y2, y3, y4, y5⟩ := hq5; first | assumption | (apply Ne.symm; assumption)) | omega)
    have ha9 := hx19 _ _ ha9 (by first | assumption | (obtain ⟨y1, y2, y3, y4, y5⟩ := hQg; first | assumption | (apply Ne.symm; assumption)) | (obtain ⟨y1, y2, y3, y4, y5⟩ := hQa; first | assumption | (apply Ne.symm; assumption)) | (obtain ⟨z1, z2, z3, z4, z5, z6, z7, z8, z9, z10⟩ := hNE; first | assumption | (apply Ne.symm; assumption)) | (obtain ⟨y1, y2, y3, y4, y5⟩ := hq5; first | assumption | (apply Ne.symm; assumption)) | omega)
    refine h_iadd (a := 50) (b := dv) F dL_acts_1560 ?_
    refine h_iast F hW hS h2 (by omega) (by omega) dL_acts_1561 (fun w20 H locs ho22 hn21 hW hS => ?_)
    have h1 := (hn21 _ (by first | assumption | (obtain ⟨y1, y2, y3, y4, y5⟩ := hQg; first | assumption | (apply Ne.symm; assumption)) | (obtain ⟨y1, y2, y3, y4, y5⟩ := hQa; first | assumption | (apply Ne.symm; assumption)) | (obtain ⟨z1, z2, z3, z4, z5, z6, z7, z8, z9, z10⟩ := hNE; first | assumption | (apply Ne.symm; assumption)) | (obtain ⟨y1, y2, y3, y4, y5⟩ := hq5; first | assumption | (apply Ne.symm; assumption)) | omega)).trans h1
    have h5 := (hn21 _ (by first | assumption | (obtain ⟨y1, y2, y3, y4, y5⟩ := hQg; first | assumption | (apply Ne.symm; assumption)) | (obtain ⟨y1, y2, y3, y4, y5⟩ := hQa; first | assumption | (apply Ne.symm; assumption)) | (obtain ⟨z1, z2, z3, z4, z5, z6, z7, z8, z9, z10⟩ := hNE; first | assumption | (apply Ne.symm; assumption)) | (obtain ⟨y1, y2, y3, y4, y5⟩ := hq5; first | assumption | (apply Ne.symm; assumption)) | omega)).trans h5
    have h3 := (hn21 _ (by first | assumption | (obtain ⟨y1, y2, y3, y4, y5⟩ := hQg; first | assumption | (apply Ne.symm; assumption)) | (obtain ⟨y1, y2, y3, y4, y5⟩ := hQa; first | assumption | (apply Ne.symm; assumption)) | (obtain ⟨z1, z2, z3, z4, z5, z6, z7, z8, z9, z10⟩ := hNE; first | assumption | (apply Ne.symm; assumption)) | (obtain ⟨y1, y2, y3, y4, y5⟩ := hq5; first | assumption | (apply Ne.symm; assumption)) | omega)).trans h3
    have h5e := (hn21 _ (by first | assumption | (obtain ⟨y1, y2, y3, y4, y5⟩ := hQg; first | assumption | (apply Ne.symm; assumption)) | (obtain ⟨y1, y2, y3, y4, y5⟩ := hQa; first | assumption | (apply Ne.symm; assumption)) | (obtain ⟨z1, z2, z3, z4, z5, z6, z7, z8, z9, z10⟩ := hNE; first | assumption | (apply Ne.symm; assumption)) | (obtain ⟨y1, y2, y3, y4, y5⟩ := hq5; first | assumption | (apply Ne.symm; assumption)) | omega)).trans h5e
    have ha18 := (hn21 _ (by first | assumption | (obtain ⟨y1, y2, y3, y4, y5⟩ := hQg; first | assumption | (apply Ne.symm; assumption)) | (obtain ⟨y1, y2, y3, y4, y5⟩ := hQa; first | assumption | (apply Ne.symm; assumption)) | (obtain ⟨z1, z2, z3, z4, z5, z6, z7, z8, z9, z10⟩ := hNE; first | assumption | (apply Ne.symm; assumption)) | (obtain ⟨y1, y2, y3, y4, y5⟩ := hq5; first | assumption | (apply Ne.symm; assumption)) | omega)).trans ha18
    have ha9 := (hn21 _ (by first | assumption | (obtain ⟨y1, y2, y3, y4, y5⟩ := hQg; first | assumption | (apply Ne.symm; assumption)) | (obtain ⟨y1, y2, y3, y4, y5⟩ := hQa; first | assumption | (apply Ne.symm; assumption)) | (obtain ⟨z1, z2, z3, z4, z5, z6, z7, z8, z9, z10⟩ := hNE; first | assumption | (apply Ne.symm; assumption)) | (obtain ⟨y1, y2, y3, y4, y5⟩ := hq5; first | assumption | (apply Ne.symm; assumption)) | omega)).trans ha9
    obtain ⟨xv, hxv⟩ : ∃ xv : Int, xv = (50 + dv) := ⟨_, rfl⟩
    rw [← hxv] at ho22
    obtain ⟨τ, hτ⟩ : ∃ τ, τ = up σ (6 + dk) xv := ⟨_, rfl⟩
    have hgm : ∀ (q : Nat) (e : va_E), wr w N q = some e → ¬ (q = st) → wr w20 N q = some e := fun q e h9 hP9 => by have hN9 := (wr_some.mp h9).1; have h9 := (wr_some.mp h9).2; have hqg : q ≠ gq := fun e9 => hN9 (e9 ▸ hNN.2.1); have hqa : q ≠ aq := fun e9 => hN9 (e9 ▸ hNN.2.2); have hqy : outY y q := outY.nN hNy hN9; skip; have h9 := hx6 q e h9 (by first | assumption | (obtain ⟨y1, y2, y3, y4, y5⟩ := hQg; first | assumption | (apply Ne.symm; assumption)) | (obtain ⟨y1, y2, y3, y4, y5⟩ := hQa; first | assumption | (apply Ne.symm; assumption)) | (obtain ⟨z1, z2, z3, z4, z5, z6, z7, z8, z9, z10⟩ := hNE; first | assumption | (apply Ne.symm; assumption)) | (obtain ⟨y1, y2, y3, y4, y5⟩ := hq5; first | assumption | (apply Ne.symm; assumption)) | omega); have h9 := hx12 q e h9 (by first | assumption | (obtain ⟨y1, y2, y3, y4, y5⟩ := hQg; first | assumption | (apply Ne.symm; assumption)) | (obtain ⟨y1, y2, y3, y4, y5⟩ := hQa; first | assumption | (apply Ne.symm; assumption)) | (obtain ⟨z1, z2, z3, z4, z5, z6, z7, z8, z9, z10⟩ := hNE; first | assumption | (apply Ne.symm; assumption)) | (obtain ⟨y1, y2, y3, y4, y5⟩ := hq5; first | assumption | (apply Ne.symm; assumption)) | omega); have h9 := hx19 q e h9 (by first | assumption | (obtain ⟨y1, y2, y3, y4, y5⟩ := hQg; first | assumption | (apply Ne.symm; assumption)) | (obtain ⟨y1, y2, y3, y4, y5⟩ := hQa; first | assumption | (apply Ne.symm; assumption)) | (obtain ⟨z1, z2, z3, z4, z5, z6, z7, z8, z9, z10⟩ := hNE; first | assumption | (apply Ne.symm; assumption)) | (obtain ⟨y1, y2, y3, y4, y5⟩ := hq5; first | assumption | (apply Ne.symm; assumption)) | omega); have h9 := (hn21 q (by first | assumption | (obtain ⟨y1, y2, y3, y4, y5⟩ := hQg; first | assumption | (apply Ne.symm; assumption)) | (obtain ⟨y1, y2, y3, y4, y5⟩ := hQa; first | assumption | (apply Ne.symm; assumption)) | (obtain ⟨z1, z2, z3, z4, z5, z6, z7, z8, z9, z10⟩ := hNE; first | assumption | (apply Ne.symm; assumption)) | (obtain ⟨y1, y2, y3, y4, y5⟩ := hq5; first | assumption | (apply Ne.symm; assumption)) | omega)).trans h9; exact wr_some.mpr ⟨hN9, h9⟩
    have hWτ : WF τ := by rw [hτ]; exact st_W hWF (by omega) (by omega)
    have hPt := hPw0.stk (τ := τ) hXY hgm (wr_some.mpr ⟨h2n, ho22⟩) (fun p hp => by rw [hτ, up_n (by omega)]) (fun cz c0 c1 => by rw [hτ]; exact (if hc : cz = dk then (by rw [hc, up_s, up_s]) else (by rw [up_n hc, up_n (by omega)]; exact h2f cz c0 c1))) hWτ
    have hmN : ∀ (q : Nat) (e : va_E), w q = some e → N q → q ≠ gq → w20 q = some e := fun q e h9 h09 h19 => by have hq5 := hQ5 q h09; have hqe9 : q ≠ ec := fun e9 => hNl.2 (e9 ▸ h09); have hqe8 : q ≠ ec ∨ kc = 0 := Or.inl hqe9; have h9 := hx6 q e h9 (by first | assumption | (obtain ⟨y1, y2, y3, y4, y5⟩ := hQg; first | assumption | (apply Ne.symm; assumption)) | (obtain ⟨y1, y2, y3, y4, y5⟩ := hQa; first | assumption | (apply Ne.symm; assumption)) | (obtain ⟨z1, z2, z3, z4, z5, z6, z7, z8, z9, z10⟩ := hNE; first | assumption | (apply Ne.symm; assumption)) | (obtain ⟨y1, y2, y3, y4, y5⟩ := hq5; first | assumption | (apply Ne.symm; assumption)) | omega); have h9 := hx12 q e h9 (by first | assumption | (obtain ⟨y1, y2, y3, y4, y5⟩ := hQg; first | assumption | (apply Ne.symm; assumption)) | (obtain ⟨y1, y2, y3, y4, y5⟩ := hQa; first | assumption | (apply Ne.symm; assumption)) | (obtain ⟨z1, z2, z3, z4, z5, z6, z7, z8, z9, z10⟩ := hNE; first | assumption | (apply Ne.symm; assumption)) | (obtain ⟨y1, y2, y3, y4, y5⟩ := hq5; first | assumption | (apply Ne.symm; assumption)) | omega); have h9 := hx19 q e h9 (by first | assumption | (obtain ⟨y1, y2, y3, y4, y5⟩ := hQg; first | assumption | (apply Ne.symm; assumption)) | (obtain ⟨y1, y2, y3, y4, y5⟩ := hQa; first | assumption | (apply Ne.symm; assumption)) | (obtain ⟨z1, z2, z3, z4, z5, z6, z7, z8, z9, z10⟩ := hNE; first | assumption | (apply Ne.symm; assumption)) | (obtain ⟨y1, y2, y3, y4, y5⟩ := hq5; first | assumption | (apply Ne.symm; assumption)) | omega); have h9 := (hn21 q (by first | assumption | (obtain ⟨y1, y2, y3, y4, y5⟩ := hQg; first | assumption | (apply Ne.symm; assumption)) | (obtain ⟨y1, y2, y3, y4, y5⟩ := hQa; first | assumption | (apply Ne.symm; assumption)) | (obtain ⟨z1, z2, z3, z4, z5, z6, z7, z8, z9, z10⟩ := hNE; first | assumption | (apply Ne.symm; assumption)) | (obtain ⟨y1, y2, y3, y4, y5⟩ := hq5; first | assumption | (apply Ne.symm; assumption)) | omega)).trans h9; exact h9
    have hOn : ownN X w20 N h τ := hO0.of hPt.A hmN (kn_e ha18)
    have hKn : KS X w20 y σ nx sz pas ac := hK.ex (fun q e q0 q1 h9 => by have hqg := hog.ne q0 q1; have hqa := hoa.ne q0 q1; have hq5 := hQ5 q (hNy q q0 q1); have hqe9 : q ≠ ec := fun e9 => hNl.2 (e9 ▸ hNy q q0 q1); have hqe8 : q ≠ ec ∨ kc = 0 := Or.inl hqe9; have h9 := hx6 q e h9 (by first | assumption | (obtain ⟨y1, y2, y3, y4, y5⟩ := hQg; first | assumption | (apply Ne.symm; assumption)) | (obtain ⟨y1, y2, y3, y4, y5⟩ := hQa; first | assumption | (apply Ne.symm; assumption)) | (obtain ⟨z1, z2, z3, z4, z5, z6, z7, z8, z9, z10⟩ := hNE; first | assumption | (apply Ne.symm; assumption)) | (obtain ⟨y1, y2, y3, y4, y5⟩ := hq5; first | assumption | (apply Ne.symm; assumption)) | omega); have h9 := hx12 q e h9 (by first | assumption | (obtain ⟨y1, y2, y3, y4, y5⟩ := hQg; first | assumption | (apply Ne.symm; assumption)) | (obtain ⟨y1, y2, y3, y4, y5⟩ := hQa; first | assumption | (apply Ne.symm; assumption)) | (obtain ⟨z1, z2, z3, z4, z5, z6, z7, z8, z9, z10⟩ := hNE; first | assumption | (apply Ne.symm; assumption)) | (obtain ⟨y1, y2, y3, y4, y5⟩ := hq5; first | assumption | (apply Ne.symm; assumption)) | omega); have h9 := hx19 q e h9 (by first | assumption | (obtain ⟨y1, y2, y3, y4, y5⟩ := hQg; first | assumption | (apply Ne.symm; assumption)) | (obtain ⟨y1, y2, y3, y4, y5⟩ := hQa; first | assumption | (apply Ne.symm; assumption)) | (obtain ⟨z1, z2, z3, z4, z5, z6, z7, z8, z9, z10⟩ := hNE; first | assumption | (apply Ne.symm; assumption)) | (obtain ⟨y1, y2, y3, y4, y5⟩ := hq5; first | assumption | (apply Ne.symm; assumption)) | omega); have h9 := (hn21 q (by first | assumption | (obtain ⟨y1, y2, y3, y4, y5⟩ := hQg; first | assumption | (apply Ne.symm; assumption)) | (obtain ⟨y1, y2, y3, y4, y5⟩ := hQa; first | assumption | (apply Ne.symm; assumption)) | (obtain ⟨z1, z2, z3, z4, z5, z6, z7, z8, z9, z10⟩ := hNE; first | assumption | (apply Ne.symm; assumption)) | (obtain ⟨y1, y2, y3, y4, y5⟩ := hq5; first | assumption | (apply Ne.symm; assumption)) | omega)).trans h9; exact h9)
    obtain ⟨su9, tx9, M9, oo9, rv9, hC9⟩ := id hKn
    have hYc := hC9.1
    have hsr := hWF.2.1 dk (by omega) (by omega)
    refine lv_aload_n F.1 F.2.1 dL_acts_1562 rfl (lv_at hl 2 rfl) ?_
    refine lv_iload F.1 F.2.1 dL_acts_1563 (lv_at hl 1 rfl) ?_
    refine lv_aload_n F.1 F.2.1 dL_acts_1565 rfl (lv_at hl 3 rfl) ?_
    refine gf_RL_145 F hW h1 rfl dL_acts_1566 ?_
    refine lv_iload F.1 F.2.1 dL_acts_1569 (lv_at hl 1 rfl) ?_
    refine h_iald F hW ho22 (by omega) (by omega) dL_acts_1571 ?_
    refine h_top (show ((up fs dk xv) dk : Int) = xv from up_s _ _ _) ?_
    skip
    refine cl_RL_387 (As := [.int (iI dk), .int (iI xv)]) (rest := []) F hl (k_setStock l X w20 y σ nx sz pas ac dk xv hKn (by omega) (by omega)) hW hS hYc rfl rfl ⟨Nat.le_of_ble_eq_true rfl, Nat.le_of_ble_eq_true rfl⟩ (Nat.le_of_ble_eq_true rfl) ⟨(by show kc0 + 0 + 0 + 0 + 0 ≤ 1500; omega), (by show ks0 + 0 + 0 + 0 + 0 ≤ 6000; omega)⟩ dL_acts_1572 (fun w23 H locs hp24 hW hS => ?_)
    obtain ⟨hK2, hx25⟩ := hp24
    have h1 := hx25 _ _ h1 (by assumption)
    have ha18 := hx25 _ _ ha18 (by assumption)
    have ha9 := hx25 _ _ ha9 (by assumption)
    skip
    refine lv_iload F.1 F.2.1 dL_acts_1575 (lv_at hl 0 rfl) ?_
    refine lv_aload_n F.1 F.2.1 dL_acts_1577 rfl (lv_at hl 5 rfl) ?_
    refine cl_RL_329 (As := [.int (iI (σ (6 + dk))), .int (iI (σ (6 + dk))), .ref aq]) (rest := []) F hl (c_L_is l X w23 aq af (σ (6 + dk)) (σ (6 + dk)) ha9 (by omega)) hW hS rfl rfl ⟨Nat.le_of_ble_eq_true rfl, Nat.le_of_ble_eq_true rfl⟩ (Nat.le_of_ble_eq_true rfl) ⟨(by show kc0 + 0 + 0 + 0 + 0 + 0 ≤ 1500; omega), (by show ks0 + 0 + 0 + 0 + 0 + 0 ≤ 6000; omega)⟩ dL_acts_1578 (fun w26 H locs hp27 hW hS => ?_)
    obtain ⟨ha28, hn29⟩ := hp27
    have h1 := (hn29 _ (by first | assumption | (obtain ⟨y1, y2, y3, y4, y5⟩ := hQg; first | assumption | (apply Ne.symm; assumption)) | (obtain ⟨y1, y2, y3, y4, y5⟩ := hQa; first | assumption | (apply Ne.symm; assumption)) | (obtain ⟨z1, z2, z3, z4, z5, z6, z7, z8, z9, z10⟩ := hNE; first | assumption | (apply Ne.symm; assumption)) | (obtain ⟨y1, y2, y3, y4, y5⟩ := hq5; first | assumption | (apply Ne.symm; assumption)) | omega)).trans h1
    have ha18 := (hn29 _ (by first | assumption | (obtain ⟨y1, y2, y3, y4, y5⟩ := hQg; first | assumption | (apply Ne.symm; assumption)) | (obtain ⟨y1, y2, y3, y4, y5⟩ := hQa; first | assumption | (apply Ne.symm; assumption)) | (obtain ⟨z1, z2, z3, z4, z5, z6, z7, z8, z9, z10⟩ := hNE; first | assumption | (apply Ne.symm; assumption)) | (obtain ⟨y1, y2, y3, y4, y5⟩ := hq5; first | assumption | (apply Ne.symm; assumption)) | omega)).trans ha18
    refine W.wd (mc := 1500) (ms := 6000) (by omega) (by omega) ?_
    rw [← hτ] at hK2
    have hK3 := hK2.ex (w2 := w26) (fun q e q0 q1 h9 => by have hqg := hog.ne q0 q1; have hqa := hoa.ne q0 q1; have h9 := (hn29 q (by first | assumption | (obtain ⟨y1, y2, y3, y4, y5⟩ := hQg; first | assumption | (apply Ne.symm; assumption)) | (obtain ⟨y1, y2, y3, y4, y5⟩ := hQa; first | assumption | (apply Ne.symm; assumption)) | (obtain ⟨z1, z2, z3, z4, z5, z6, z7, z8, z9, z10⟩ := hNE; first | assumption | (apply Ne.symm; assumption)) | (obtain ⟨y1, y2, y3, y4, y5⟩ := hq5; first | assumption | (apply Ne.symm; assumption)) | omega)).trans h9; exact h9)
    have hfin : LwS X w26 N y h gq aq τ (up af (if (σ (6 + dk)) < 0 then -(σ (6 + dk)) else 0) (af (if (σ (6 + dk)) < 0 then -(σ (6 + dk)) else 0) + 1)) := LwS.fin hOn hNN hout3 (fun q e h9 hc1 hc2 hc3 => by have h9 := hx25 q e h9 (by assumption); have h9 := (hn29 q (by first | assumption | (obtain ⟨y1, y2, y3, y4, y5⟩ := hQg; first | assumption | (apply Ne.symm; assumption)) | (obtain ⟨y1, y2, y3, y4, y5⟩ := hQa; first | assumption | (apply Ne.symm; assumption)) | (obtain ⟨z1, z2, z3, z4, z5, z6, z7, z8, z9, z10⟩ := hNE; first | assumption | (apply Ne.symm; assumption)) | (obtain ⟨y1, y2, y3, y4, y5⟩ := hq5; first | assumption | (apply Ne.symm; assumption)) | omega)).trans h9; exact h9) ha18 ha28 hK3 (ac_is hacc (if_neg (by omega)) (by decide))
    have hb8 : 0 ≤ (up af (if (σ (6 + dk)) < 0 then -(σ (6 + dk)) else 0) (af (if (σ (6 + dk)) < 0 then -(σ (6 + dk)) else 0) + 1)) 8 ∧ (up af (if (σ (6 + dk)) < 0 then -(σ (6 + dk)) else 0) (af (if (σ (6 + dk)) < 0 then -(σ (6 + dk)) else 0) + 1)) 8 ≤ af 8 + 1000 := by rw [ac_1 (if_neg (by omega)) (by decide)]; omega
    refine h_top (show (bz (decide ((σ (6 + dk)) = (σ (6 + dk)))) : Int) = bz true from congrArg bz (decide_eq_true rfl)) ?_
    exact h_iretz F hr hlk hW hS ⟨_, _, hfin, hb8⟩ dL_acts_1581
  · refine lv_aload_n F.1 F.2.1 dL_acts_1542 rfl (lv_at hl 4 rfl) ?_
    refine h_bipush F dL_acts_1543 rfl ?_
    refine cr_RL_45 (As := [.ref gq, .int (iI 30)]) (rest := [.int (iI dk), .ref st]) F hl (c_L_draw l X w7 gq g2 30 ha11 (by omega)) hW hS rfl rfl ⟨Nat.le_of_ble_eq_true rfl, Nat.le_of_ble_eq_true rfl⟩ (Nat.le_of_ble_eq_true rfl) ⟨(by show kc0 + 0 + 0 + 0 ≤ 1500; omega), (by show ks0 + 0 + 0 + 0 ≤ 6000; omega)⟩ dL_acts_1545 (fun v32 w30 H locs hp31 hW hS => ?_)
    obtain ⟨dv, g3, rfl, hm33, ha34, hx35⟩ := hp31
    have h1 := hx35 _ _ h1 (by first | assumption | (obtain ⟨y1, y2, y3, y4, y5⟩ := hQg; first | assumption | (apply Ne.symm; assumption)) | (obtain ⟨y1, y2, y3, y4, y5⟩ := hQa; first | assumption | (apply Ne.symm; assumption)) | (obtain ⟨z1, z2, z3, z4, z5, z6, z7, z8, z9, z10⟩ := hNE; first | assumption | (apply Ne.symm; assumption)) | (obtain ⟨y1, y2, y3, y4, y5⟩ := hq5; first | assumption | (apply Ne.symm; assumption)) | omega)
    have h5 := hx35 _ _ h5 (by first | assumption | (obtain ⟨y1, y2, y3, y4, y5⟩ := hQg; first | assumption | (apply Ne.symm; assumption)) | (obtain ⟨y1, y2, y3, y4, y5⟩ := hQa; first | assumption | (apply Ne.symm; assumption)) | (obtain ⟨z1, z2, z3, z4, z5, z6, z7, z8, z9, z10⟩ := hNE; first | assumption | (apply Ne.symm; assumption)) | (obtain ⟨y1, y2, y3, y4, y5⟩ := hq5; first | assumption | (apply Ne.symm; assumption)) | omega)
    have h3 := hx35 _ _ h3 (by first | assumption | (obtain ⟨y1, y2, y3, y4, y5⟩ := hQg; first | assumption | (apply Ne.symm; assumption)) | (obtain ⟨y1, y2, y3, y4, y5⟩ := hQa; first | assumption | (apply Ne.symm; assumption)) | (obtain ⟨z1, z2, z3, z4, z5, z6, z7, z8, z9, z10⟩ := hNE; first | assumption | (apply Ne.symm; assumption)) | (obtain ⟨y1, y2, y3, y4, y5⟩ := hq5; first | assumption | (apply Ne.symm; assumption)) | omega)
    have h5e := hx35 _ _ h5e (by first | assumption | (obtain ⟨y1, y2, y3, y4, y5⟩ := hQg; first | assumption | (apply Ne.symm; assumption)) | (obtain ⟨y1, y2, y3, y4, y5⟩ := hQa; first | assumption | (apply Ne.symm; assumption)) | (obtain ⟨z1, z2, z3, z4, z5, z6, z7, z8, z9, z10⟩ := hNE; first | assumption | (apply Ne.symm; assumption)) | (obtain ⟨y1, y2, y3, y4, y5⟩ := hq5; first | assumption | (apply Ne.symm; assumption)) | omega)
    have h2 := hx35 _ _ h2 (by first | assumption | (obtain ⟨y1, y2, y3, y4, y5⟩ := hQg; first | assumption | (apply Ne.symm; assumption)) | (obtain ⟨y1, y2, y3, y4, y5⟩ := hQa; first | assumption | (apply Ne.symm; assumption)) | (obtain ⟨z1, z2, z3, z4, z5, z6, z7, z8, z9, z10⟩ := hNE; first | assumption | (apply Ne.symm; assumption)) | (obtain ⟨y1, y2, y3, y4, y5⟩ := hq5; first | assumption | (apply Ne.symm; assumption)) | omega)
    have ha9 := hx35 _ _ ha9 (by first | assumption | (obtain ⟨y1, y2, y3, y4, y5⟩ := hQg; first | assumption | (apply Ne.symm; assumption)) | (obtain ⟨y1, y2, y3, y4, y5⟩ := hQa; first | assumption | (apply Ne.symm; assumption)) | (obtain ⟨z1, z2, z3, z4, z5, z6, z7, z8, z9, z10⟩ := hNE; first | assumption | (apply Ne.symm; assumption)) | (obtain ⟨y1, y2, y3, y4, y5⟩ := hq5; first | assumption | (apply Ne.symm; assumption)) | omega)
    refine h_goto (tgt := 1561) F dL_acts_1548 (by decide) ?_
    refine h_iast F hW hS h2 (by omega) (by omega) dL_acts_1561 (fun w36 H locs ho38 hn37 hW hS => ?_)
    have h1 := (hn37 _ (by first | assumption | (obtain ⟨y1, y2, y3, y4, y5⟩ := hQg; first | assumption | (apply Ne.symm; assumption)) | (obtain ⟨y1, y2, y3, y4, y5⟩ := hQa; first | assumption | (apply Ne.symm; assumption)) | (obtain ⟨z1, z2, z3, z4, z5, z6, z7, z8, z9, z10⟩ := hNE; first | assumption | (apply Ne.symm; assumption)) | (obtain ⟨y1, y2, y3, y4, y5⟩ := hq5; first | assumption | (apply Ne.symm; assumption)) | omega)).trans h1
    have h5 := (hn37 _ (by first | assumption | (obtain ⟨y1, y2, y3, y4, y5⟩ := hQg; first | assumption | (apply Ne.symm; assumption)) | (obtain ⟨y1, y2, y3, y4, y5⟩ := hQa; first | assumption | (apply Ne.symm; assumption)) | (obtain ⟨z1, z2, z3, z4, z5, z6, z7, z8, z9, z10⟩ := hNE; first | assumption | (apply Ne.symm; assumption)) | (obtain ⟨y1, y2, y3, y4, y5⟩ := hq5; first | assumption | (apply Ne.symm; assumption)) | omega)).trans h5
    have h3 := (hn37 _ (by first | assumption | (obtain ⟨y1, y2, y3, y4, y5⟩ := hQg; first | assumption | (apply Ne.symm; assumption)) | (obtain ⟨y1, y2, y3, y4, y5⟩ := hQa; first | assumption | (apply Ne.symm; assumption)) | (obtain ⟨z1, z2, z3, z4, z5, z6, z7, z8, z9, z10⟩ := hNE; first | assumption | (apply Ne.symm; assumption)) | (obtain ⟨y1, y2, y3, y4, y5⟩ := hq5; first | assumption | (apply Ne.symm; assumption)) | omega)).trans h3
    have h5e := (hn37 _ (by first | assumption | (obtain ⟨y1, y2, y3, y4, y5⟩ := hQg; first | assumption | (apply Ne.symm; assumption)) | (obtain ⟨y1, y2, y3, y4, y5⟩ := hQa; first | assumption | (apply Ne.symm; assumption)) | (obtain ⟨z1, z2, z3, z4, z5, z6, z7, z8, z9, z10⟩ := hNE; first | assumption | (apply Ne.symm; assumption)) | (obtain ⟨y1, y2, y3, y4, y5⟩ := hq5; first | assumption | (apply Ne.symm; assumption)) | omega)).trans h5e
    have ha34 := (hn37 _ (by first | assumption | (obtain ⟨y1, y2, y3, y4, y5⟩ := hQg; first | assumption | (apply Ne.symm; assumption)) | (obtain ⟨y1, y2, y3, y4, y5⟩ := hQa; first | assumption | (apply Ne.symm; assumption)) | (obtain ⟨z1, z2, z3, z4, z5, z6, z7, z8, z9, z10⟩ := hNE; first | assumption | (apply Ne.symm; assumption)) | (obtain ⟨y1, y2, y3, y4, y5⟩ := hq5; first | assumption | (apply Ne.symm; assumption)) | omega)).trans ha34
    have ha9 := (hn37 _ (by first | assumption | (obtain ⟨y1, y2, y3, y4, y5⟩ := hQg; first | assumption | (apply Ne.symm; assumption)) | (obtain ⟨y1, y2, y3, y4, y5⟩ := hQa; first | assumption | (apply Ne.symm; assumption)) | (obtain ⟨z1, z2, z3, z4, z5, z6, z7, z8, z9, z10⟩ := hNE; first | assumption | (apply Ne.symm; assumption)) | (obtain ⟨y1, y2, y3, y4, y5⟩ := hq5; first | assumption | (apply Ne.symm; assumption)) | omega)).trans ha9
    obtain ⟨xv, hxv⟩ : ∃ xv : Int, xv = dv := ⟨_, rfl⟩
    rw [← hxv] at ho38
    obtain ⟨τ, hτ⟩ : ∃ τ, τ = up σ (6 + dk) xv := ⟨_, rfl⟩
    have hgm : ∀ (q : Nat) (e : va_E), wr w N q = some e → ¬ (q = st) → wr w36 N q = some e := fun q e h9 hP9 => by have hN9 := (wr_some.mp h9).1; have h9 := (wr_some.mp h9).2; have hqg : q ≠ gq := fun e9 => hN9 (e9 ▸ hNN.2.1); have hqa : q ≠ aq := fun e9 => hN9 (e9 ▸ hNN.2.2); have hqy : outY y q := outY.nN hNy hN9; skip; have h9 := hx6 q e h9 (by first | assumption | (obtain ⟨y1, y2, y3, y4, y5⟩ := hQg; first | assumption | (apply Ne.symm; assumption)) | (obtain ⟨y1, y2, y3, y4, y5⟩ := hQa; first | assumption | (apply Ne.symm; assumption)) | (obtain ⟨z1, z2, z3, z4, z5, z6, z7, z8, z9, z10⟩ := hNE; first | assumption | (apply Ne.symm; assumption)) | (obtain ⟨y1, y2, y3, y4, y5⟩ := hq5; first | assumption | (apply Ne.symm; assumption)) | omega); have h9 := hx12 q e h9 (by first | assumption | (obtain ⟨y1, y2, y3, y4, y5⟩ := hQg; first | assumption | (apply Ne.symm; assumption)) | (obtain ⟨y1, y2, y3, y4, y5⟩ := hQa; first | assumption | (apply Ne.symm; assumption)) | (obtain ⟨z1, z2, z3, z4, z5, z6, z7, z8, z9, z10⟩ := hNE; first | assumption | (apply Ne.symm; assumption)) | (obtain ⟨y1, y2, y3, y4, y5⟩ := hq5; first | assumption | (apply Ne.symm; assumption)) | omega); have h9 := hx35 q e h9 (by first | assumption | (obtain ⟨y1, y2, y3, y4, y5⟩ := hQg; first | assumption | (apply Ne.symm; assumption)) | (obtain ⟨y1, y2, y3, y4, y5⟩ := hQa; first | assumption | (apply Ne.symm; assumption)) | (obtain ⟨z1, z2, z3, z4, z5, z6, z7, z8, z9, z10⟩ := hNE; first | assumption | (apply Ne.symm; assumption)) | (obtain ⟨y1, y2, y3, y4, y5⟩ := hq5; first | assumption | (apply Ne.symm; assumption)) | omega); have h9 := (hn37 q (by first | assumption | (obtain ⟨y1, y2, y3, y4, y5⟩ := hQg; first | assumption | (apply Ne.symm; assumption)) | (obtain ⟨y1, y2, y3, y4, y5⟩ := hQa; first | assumption | (apply Ne.symm; assumption)) | (obtain ⟨z1, z2, z3, z4, z5, z6, z7, z8, z9, z10⟩ := hNE; first | assumption | (apply Ne.symm; assumption)) | (obtain ⟨y1, y2, y3, y4, y5⟩ := hq5; first | assumption | (apply Ne.symm; assumption)) | omega)).trans h9; exact wr_some.mpr ⟨hN9, h9⟩
    have hWτ : WF τ := by rw [hτ]; exact st_W hWF (by omega) (by omega)
    have hPt := hPw0.stk (τ := τ) hXY hgm (wr_some.mpr ⟨h2n, ho38⟩) (fun p hp => by rw [hτ, up_n (by omega)]) (fun cz c0 c1 => by rw [hτ]; exact (if hc : cz = dk then (by rw [hc, up_s, up_s]) else (by rw [up_n hc, up_n (by omega)]; exact h2f cz c0 c1))) hWτ
    have hmN : ∀ (q : Nat) (e : va_E), w q = some e → N q → q ≠ gq → w36 q = some e := fun q e h9 h09 h19 => by have hq5 := hQ5 q h09; have hqe9 : q ≠ ec := fun e9 => hNl.2 (e9 ▸ h09); have hqe8 : q ≠ ec ∨ kc = 0 := Or.inl hqe9; have h9 := hx6 q e h9 (by first | assumption | (obtain ⟨y1, y2, y3, y4, y5⟩ := hQg; first | assumption | (apply Ne.symm; assumption)) | (obtain ⟨y1, y2, y3, y4, y5⟩ := hQa; first | assumption | (apply Ne.symm; assumption)) | (obtain ⟨z1, z2, z3, z4, z5, z6, z7, z8, z9, z10⟩ := hNE; first | assumption | (apply Ne.symm; assumption)) | (obtain ⟨y1, y2, y3, y4, y5⟩ := hq5; first | assumption | (apply Ne.symm; assumption)) | omega); have h9 := hx12 q e h9 (by first | assumption | (obtain ⟨y1, y2, y3, y4, y5⟩ := hQg; first | assumption | (apply Ne.symm; assumption)) | (obtain ⟨y1, y2, y3, y4, y5⟩ := hQa; first | assumption | (apply Ne.symm; assumption)) | (obtain ⟨z1, z2, z3, z4, z5, z6, z7, z8, z9, z10⟩ := hNE; first | assumption | (apply Ne.symm; assumption)) | (obtain ⟨y1, y2, y3, y4, y5⟩ := hq5; first | assumption | (apply Ne.symm; assumption)) | omega); have h9 := hx35 q e h9 (by first | assumption | (obtain ⟨y1, y2, y3, y4, y5⟩ := hQg; first | assumption | (apply Ne.symm; assumption)) | (obtain ⟨y1, y2, y3, y4, y5⟩ := hQa; first | assumption | (apply Ne.symm; assumption)) | (obtain ⟨z1, z2, z3, z4, z5, z6, z7, z8, z9, z10⟩ := hNE; first | assumption | (apply Ne.symm; assumption)) | (obtain ⟨y1, y2, y3, y4, y5⟩ := hq5; first | assumption | (apply Ne.symm; assumption)) | omega); have h9 := (hn37 q (by first | assumption | (obtain ⟨y1, y2, y3, y4, y5⟩ := hQg; first | assumption | (apply Ne.symm; assumption)) | (obtain ⟨y1, y2, y3, y4, y5⟩ := hQa; first | assumption | (apply Ne.symm; assumption)) | (obtain ⟨z1, z2, z3, z4, z5, z6, z7, z8, z9, z10⟩ := hNE; first | assumption | (apply Ne.symm; assumption)) | (obtain ⟨y1, y2, y3, y4, y5⟩ := hq5; first | assumption | (apply Ne.symm; assumption)) | omega)).trans h9; exact h9
    have hOn : ownN X w36 N h τ := hO0.of hPt.A hmN (kn_e ha34)
    have hKn : KS X w36 y σ nx sz pas ac := hK.ex (fun q e q0 q1 h9 => by have hqg := hog.ne q0 q1; have hqa := hoa.ne q0 q1; have hq5 := hQ5 q (hNy q q0 q1); have hqe9 : q ≠ ec := fun e9 => hNl.2 (e9 ▸ hNy q q0 q1); have hqe8 : q ≠ ec ∨ kc = 0 := Or.inl hqe9; have h9 := hx6 q e h9 (by first | assumption | (obtain ⟨y1, y2, y3, y4, y5⟩ := hQg; first | assumption | (apply Ne.symm; assumption)) | (obtain ⟨y1, y2, y3, y4, y5⟩ := hQa; first | assumption | (apply Ne.symm; assumption)) | (obtain ⟨z1, z2, z3, z4, z5, z6, z7, z8, z9, z10⟩ := hNE; first | assumption | (apply Ne.symm; assumption)) | (obtain ⟨y1, y2, y3, y4, y5⟩ := hq5; first | assumption | (apply Ne.symm; assumption)) | omega); have h9 := hx12 q e h9 (by first | assumption | (obtain ⟨y1, y2, y3, y4, y5⟩ := hQg; first | assumption | (apply Ne.symm; assumption)) | (obtain ⟨y1, y2, y3, y4, y5⟩ := hQa; first | assumption | (apply Ne.symm; assumption)) | (obtain ⟨z1, z2, z3, z4, z5, z6, z7, z8, z9, z10⟩ := hNE; first | assumption | (apply Ne.symm; assumption)) | (obtain ⟨y1, y2, y3, y4, y5⟩ := hq5; first | assumption | (apply Ne.symm; assumption)) | omega); have h9 := hx35 q e h9 (by first | assumption | (obtain ⟨y1, y2, y3, y4, y5⟩ := hQg; first | assumption | (apply Ne.symm; assumption)) | (obtain ⟨y1, y2, y3, y4, y5⟩ := hQa; first | assumption | (apply Ne.symm; assumption)) | (obtain ⟨z1, z2, z3, z4, z5, z6, z7, z8, z9, z10⟩ := hNE; first | assumption | (apply Ne.symm; assumption)) | (obtain ⟨y1, y2, y3, y4, y5⟩ := hq5; first | assumption | (apply Ne.symm; assumption)) | omega); have h9 := (hn37 q (by first | assumption | (obtain ⟨y1, y2, y3, y4, y5⟩ := hQg; first | assumption | (apply Ne.symm; assumption)) | (obtain ⟨y1, y2, y3, y4, y5⟩ := hQa; first | assumption | (apply Ne.symm; assumption)) | (obtain ⟨z1, z2, z3, z4, z5, z6, z7, z8, z9, z10⟩ := hNE; first | assumption | (apply Ne.symm; assumption)) | (obtain ⟨y1, y2, y3, y4, y5⟩ := hq5; first | assumption | (apply Ne.symm; assumption)) | omega)).trans h9; exact h9)
    obtain ⟨su9, tx9, M9, oo9, rv9, hC9⟩ := id hKn
    have hYc := hC9.1
    have hsr := hWF.2.1 dk (by omega) (by omega)
    refine lv_aload_n F.1 F.2.1 dL_acts_1562 rfl (lv_at hl 2 rfl) ?_
    refine lv_iload F.1 F.2.1 dL_acts_1563 (lv_at hl 1 rfl) ?_
    refine lv_aload_n F.1 F.2.1 dL_acts_1565 rfl (lv_at hl 3 rfl) ?_
    refine gf_RL_145 F hW h1 rfl dL_acts_1566 ?_
    refine lv_iload F.1 F.2.1 dL_acts_1569 (lv_at hl 1 rfl) ?_
    refine h_iald F hW ho38 (by omega) (by omega) dL_acts_1571 ?_
    refine h_top (show ((up fs dk xv) dk : Int) = xv from up_s _ _ _) ?_
    skip
    refine cl_RL_387 (As := [.int (iI dk), .int (iI xv)]) (rest := []) F hl (k_setStock l X w36 y σ nx sz pas ac dk xv hKn (by omega) (by omega)) hW hS hYc rfl rfl ⟨Nat.le_of_ble_eq_true rfl, Nat.le_of_ble_eq_true rfl⟩ (Nat.le_of_ble_eq_true rfl) ⟨(by show kc0 + 0 + 0 + 0 + 0 ≤ 1500; omega), (by show ks0 + 0 + 0 + 0 + 0 ≤ 6000; omega)⟩ dL_acts_1572 (fun w39 H locs hp40 hW hS => ?_)
    obtain ⟨hK2, hx41⟩ := hp40
    have h1 := hx41 _ _ h1 (by assumption)
    have ha34 := hx41 _ _ ha34 (by assumption)
    have ha9 := hx41 _ _ ha9 (by assumption)
    skip
    refine lv_iload F.1 F.2.1 dL_acts_1575 (lv_at hl 0 rfl) ?_
    refine lv_aload_n F.1 F.2.1 dL_acts_1577 rfl (lv_at hl 5 rfl) ?_
    refine cl_RL_329 (As := [.int (iI (σ (6 + dk))), .int (iI (σ (6 + dk))), .ref aq]) (rest := []) F hl (c_L_is l X w39 aq af (σ (6 + dk)) (σ (6 + dk)) ha9 (by omega)) hW hS rfl rfl ⟨Nat.le_of_ble_eq_true rfl, Nat.le_of_ble_eq_true rfl⟩ (Nat.le_of_ble_eq_true rfl) ⟨(by show kc0 + 0 + 0 + 0 + 0 + 0 ≤ 1500; omega), (by show ks0 + 0 + 0 + 0 + 0 + 0 ≤ 6000; omega)⟩ dL_acts_1578 (fun w42 H locs hp43 hW hS => ?_)
    obtain ⟨ha44, hn45⟩ := hp43
    have h1 := (hn45 _ (by first | assumption | (obtain ⟨y1, y2, y3, y4, y5⟩ := hQg; first | assumption | (apply Ne.symm; assumption)) | (obtain ⟨y1, y2, y3, y4, y5⟩ := hQa; first | assumption | (apply Ne.symm; assumption)) | (obtain ⟨z1, z2, z3, z4, z5, z6, z7, z8, z9, z10⟩ := hNE; first | assumption | (apply Ne.symm; assumption)) | (obtain ⟨y1, y2, y3, y4, y5⟩ := hq5; first | assumption | (apply Ne.symm; assumption)) | omega)).trans h1
    have ha34 := (hn45 _ (by first | assumption | (obtain ⟨y1, y2, y3, y4, y5⟩ := hQg; first | assumption | (apply Ne.symm; assumption)) | (obtain ⟨y1, y2, y3, y4, y5⟩ := hQa; first | assumption | (apply Ne.symm; assumption)) | (obtain ⟨z1, z2, z3, z4, z5, z6, z7, z8, z9, z10⟩ := hNE; first | assumption | (apply Ne.symm; assumption)) | (obtain ⟨y1, y2, y3, y4, y5⟩ := hq5; first | assumption | (apply Ne.symm; assumption)) | omega)).trans ha34
    refine W.wd (mc := 1500) (ms := 6000) (by omega) (by omega) ?_
    rw [← hτ] at hK2
    have hK3 := hK2.ex (w2 := w42) (fun q e q0 q1 h9 => by have hqg := hog.ne q0 q1; have hqa := hoa.ne q0 q1; have h9 := (hn45 q (by first | assumption | (obtain ⟨y1, y2, y3, y4, y5⟩ := hQg; first | assumption | (apply Ne.symm; assumption)) | (obtain ⟨y1, y2, y3, y4, y5⟩ := hQa; first | assumption | (apply Ne.symm; assumption)) | (obtain ⟨z1, z2, z3, z4, z5, z6, z7, z8, z9, z10⟩ := hNE; first | assumption | (apply Ne.symm; assumption)) | (obtain ⟨y1, y2, y3, y4, y5⟩ := hq5; first | assumption | (apply Ne.symm; assumption)) | omega)).trans h9; exact h9)
    have hfin : LwS X w42 N y h gq aq τ (up af (if (σ (6 + dk)) < 0 then -(σ (6 + dk)) else 0) (af (if (σ (6 + dk)) < 0 then -(σ (6 + dk)) else 0) + 1)) := LwS.fin hOn hNN hout3 (fun q e h9 hc1 hc2 hc3 => by have h9 := hx41 q e h9 (by assumption); have h9 := (hn45 q (by first | assumption | (obtain ⟨y1, y2, y3, y4, y5⟩ := hQg; first | assumption | (apply Ne.symm; assumption)) | (obtain ⟨y1, y2, y3, y4, y5⟩ := hQa; first | assumption | (apply Ne.symm; assumption)) | (obtain ⟨z1, z2, z3, z4, z5, z6, z7, z8, z9, z10⟩ := hNE; first | assumption | (apply Ne.symm; assumption)) | (obtain ⟨y1, y2, y3, y4, y5⟩ := hq5; first | assumption | (apply Ne.symm; assumption)) | omega)).trans h9; exact h9) ha34 ha44 hK3 (ac_is hacc (if_neg (by omega)) (by decide))
    have hb8 : 0 ≤ (up af (if (σ (6 + dk)) < 0 then -(σ (6 + dk)) else 0) (af (if (σ (6 + dk)) < 0 then -(σ (6 + dk)) else 0) + 1)) 8 ∧ (up af (if (σ (6 + dk)) < 0 then -(σ (6 + dk)) else 0) (af (if (σ (6 + dk)) < 0 then -(σ (6 + dk)) else 0) + 1)) 8 ≤ af 8 + 1000 := by rw [ac_1 (if_neg (by omega)) (by decide)]; omega
    refine h_top (show (bz (decide ((σ (6 + dk)) = (σ (6 + dk)))) : Int) = bz true from congrArg bz (decide_eq_true rfl)) ?_
    exact h_iretz F hr hlk hW hS ⟨_, _, hfin, hb8⟩ dL_acts_1581
set_option maxHeartbeats 4000000 in
set_option maxRecDepth 100000 in
theorem sg_acts_1415 (l : Launch) (X : Cx) (w : Wo) (y h gq aq : Nat) (N : Nat → Prop) (σ af : Int → Int) (hLS : LwS X w N y h gq aq σ af) (hp8 : 0 ≤ af 8 ∧ af 8 ≤ 900000)   {p : Program} {e : Env} {s : State} {m : MethodId} {below : List Frame} {meth : Method} {c : Code} {H : Heap} {locs : List Loc} {ls : Array Slot} {kc0 ks0 : Nat} (F : Fx p m c cL_acts 14 s (List.toArray [.ref y, .ref h, .ref gq, .ref aq]) RL) (hr : meth.sig.returnType = (some (.boolean))) (hlk : meth.locks = false) (hZ0 : cxZ X s s.heap) (hB9 : cxB X ≤ s.heap.size) (hkc0 : kc0 ≤ 10) (hks0 : ks0 ≤ 20) (hW : Wd X w s H) (hS : va_S (cxA X) s.heap H locs) (hl : lv_has ls 14 [(0, .ref y), (1, .ref h), (2, .ref gq), (3, .ref aq), (4, .int (iI (bz (decide (σ 4 < σ 1)))))]) : W p l e (rmG 11 1500 6000 260) s m (List.toArray [.ref y, .ref h, .ref gq, .ref aq]) below meth c H locs kc0 ks0 (MX X below (List.toArray [.ref y, .ref h, .ref gq, .ref aq]) s 1500 6000 (some (.int (iI (bz true)))) (fun w' => ∃ σ2 af2 : Int → Int, LwS X w' N y h gq aq σ2 af2 ∧ (0 ≤ af2 8 ∧ af2 8 ≤ af 8 + 1000))) (F0 m 1415 ls []) := by
  obtain ⟨hO, ⟨nx, sz, pas, ac, hK, hacc⟩, ⟨gf, hg9⟩, ha9, hout3, hNN⟩ := hLS
  have hNy := hNN.1
  have hog := hout3.1
  have hoa := hout3.2.1
  have hga := hout3.2.2
  have hO0 := hO
  obtain ⟨st, lc, ec, kc, lr, er, kr, cd, rwa, hPw0, hern⟩ := hO.1.P
  have hNE := hPw0.ne
  have hQ5 := hPw0.q5
  have hPw := hPw0
  obtain ⟨h1w, ⟨fs, h2w, h2f⟩, hLcw, hkc, hcaw, hLrw, hkr, hclw, hem, ⟨hWF, hw0, hw1⟩, hrs, hlne, hene⟩ := hPw
  have hWF0 := hWF.1
  obtain ⟨wf0, wf1, wf2, wf3, wf4, wf5⟩ := hWF0
  have hnc := nr_cases (show nrS σ = _ from rfl) wf4.2
  have hnr0 : σ 4 ≤ nrS σ ∧ nrS σ ≤ σ 4 + 1 ∧ nrS σ ≤ σ 1 := by omega
  clear hnc
  have hkrb : 10 ≤ kr ∧ kr ≤ 15 := by omega
  clear hkr hkc hlne hern
  have h1n := (wr_some.mp h1w).1
  have h1 := (wr_some.mp h1w).2
  have h2n := (wr_some.mp h2w).1
  have h2 := (wr_some.mp h2w).2
  have hLc := hLcw.ex (wr_sub w N)
  have hLr := hLrw.ex (wr_sub w N)
  have hNl := hLcw.nN hO.2.2
  have hNr := hLrw.nN hO.2.2
  obtain ⟨⟨mc, h3⟩, gc, h3b, h3c, h3d⟩ := hLc
  obtain ⟨⟨mr, h5⟩, gr, h5b, h5c, h5d⟩ := hLr
  have h5e : w er = some (aR X 5 kr gr) := h5b.elim (fun z => by omega) (fun z => z.1)
  clear h3b h5b
  have hLr := hLrw.ex (wr_sub w N)
  have hLc := hLcw.ex (wr_sub w N)
  have hQg := hQ5 gq hNN.2.1
  have hQa := hQ5 aq hNN.2.2
  have hoh := outY.nN hNy h1n
  have host := outY.nN hNy h2n
  have holc := outY.nN hNy hNl.1
  have holr := outY.nN hNy hNr.1
  have hoer := outY.nN hNy hNr.2
  have hXY := hW.zy
  refine lv_aload_n F.1 F.2.1 dL_acts_1415 rfl (lv_at hl 2 rfl) ?_
  refine h_bipush F dL_acts_1416 rfl ?_
  refine cr_RL_45 (As := [.ref gq, .int (iI 6)]) (rest := []) F hl (c_L_draw l X w gq gf 6 hg9 (by omega)) hW hS rfl rfl ⟨Nat.le_of_ble_eq_true rfl, Nat.le_of_ble_eq_true rfl⟩ (Nat.le_of_ble_eq_true rfl) ⟨(by show kc0 + 0 ≤ 1500; omega), (by show ks0 + 0 ≤ 6000; omega)⟩ dL_acts_1418 (fun v3 w1 H locs hp2 hW hS => ?_)
  obtain ⟨dd, g1, rfl, hm4, ha5, hx6⟩ := hp2
  have h1 := hx6 _ _ h1 (by first | assumption | (obtain ⟨y1, y2, y3, y4, y5⟩ := hQg; first | assumption | (apply Ne.symm; assumption)) | (obtain ⟨y1, y2, y3, y4, y5⟩ := hQa; first | assumption | (apply Ne.symm; assumption)) | (obtain ⟨z1, z2, z3, z4, z5, z6, z7, z8, z9, z10⟩ := hNE; first | assumption | (apply Ne.symm; assumption)) | (obtain ⟨y1, y2, y3, y4, y5⟩ := hq5; first | assumption | (apply Ne.symm; assumption)) | omega)
  have h5 := hx6 _ _ h5 (by first | assumption | (obtain ⟨y1, y2, y3, y4, y5⟩ := hQg; first | assumption | (apply Ne.symm; assumption)) | (obtain ⟨y1, y2, y3, y4, y5⟩ := hQa; first | assumption | (apply Ne.symm; assumption)) | (obtain ⟨z1, z2, z3, z4, z5, z6, z7, z8, z9, z10⟩ := hNE; first | assumption | (apply Ne.symm; assumption)) | (obtain ⟨y1, y2, y3, y4, y5⟩ := hq5; first | assumption | (apply Ne.symm; assumption)) | omega)
  have h3 := hx6 _ _ h3 (by first | assumption | (obtain ⟨y1, y2, y3, y4, y5⟩ := hQg; first | assumption | (apply Ne.symm; assumption)) | (obtain ⟨y1, y2, y3, y4, y5⟩ := hQa; first | assumption | (apply Ne.symm; assumption)) | (obtain ⟨z1, z2, z3, z4, z5, z6, z7, z8, z9, z10⟩ := hNE; first | assumption | (apply Ne.symm; assumption)) | (obtain ⟨y1, y2, y3, y4, y5⟩ := hq5; first | assumption | (apply Ne.symm; assumption)) | omega)
  have h5e := hx6 _ _ h5e (by first | assumption | (obtain ⟨y1, y2, y3, y4, y5⟩ := hQg; first | assumption | (apply Ne.symm; assumption)) | (obtain ⟨y1, y2, y3, y4, y5⟩ := hQa; first | assumption | (apply Ne.symm; assumption)) | (obtain ⟨z1, z2, z3, z4, z5, z6, z7, z8, z9, z10⟩ := hNE; first | assumption | (apply Ne.symm; assumption)) | (obtain ⟨y1, y2, y3, y4, y5⟩ := hq5; first | assumption | (apply Ne.symm; assumption)) | omega)
  have h2 := hx6 _ _ h2 (by first | assumption | (obtain ⟨y1, y2, y3, y4, y5⟩ := hQg; first | assumption | (apply Ne.symm; assumption)) | (obtain ⟨y1, y2, y3, y4, y5⟩ := hQa; first | assumption | (apply Ne.symm; assumption)) | (obtain ⟨z1, z2, z3, z4, z5, z6, z7, z8, z9, z10⟩ := hNE; first | assumption | (apply Ne.symm; assumption)) | (obtain ⟨y1, y2, y3, y4, y5⟩ := hq5; first | assumption | (apply Ne.symm; assumption)) | omega)
  have ha9 := hx6 _ _ ha9 (by first | assumption | (obtain ⟨y1, y2, y3, y4, y5⟩ := hQg; first | assumption | (apply Ne.symm; assumption)) | (obtain ⟨y1, y2, y3, y4, y5⟩ := hQa; first | assumption | (apply Ne.symm; assumption)) | (obtain ⟨z1, z2, z3, z4, z5, z6, z7, z8, z9, z10⟩ := hNE; first | assumption | (apply Ne.symm; assumption)) | (obtain ⟨y1, y2, y3, y4, y5⟩ := hq5; first | assumption | (apply Ne.symm; assumption)) | omega)
  refine lv_istore (lv' := [(5, .int (iI dd)), (0, .ref y), (1, .ref h), (2, .ref gq), (3, .ref aq), (4, .int (iI (bz (decide (σ 4 < σ 1)))))]) F.1 F.2.1 dL_acts_1421 hl (by decide) rfl (fun ls hl => ?_)
  refine lv_aload_n F.1 F.2.1 dL_acts_1423 rfl (lv_at hl 2 rfl) ?_
  refine gf_RL_140 F hW h1 rfl dL_acts_1424 ?_
  refine lv_istore (lv' := [(6, .int (iI (σ 2))), (5, .int (iI dd)), (0, .ref y), (1, .ref h), (2, .ref gq), (3, .ref aq), (4, .int (iI (bz (decide (σ 4 < σ 1)))))]) F.1 F.2.1 dL_acts_1427 hl (by decide) rfl (fun ls hl => ?_)
  refine lv_aload_n F.1 F.2.1 dL_acts_1429 rfl (lv_at hl 3 rfl) ?_
  refine lv_iload F.1 F.2.1 dL_acts_1430 (lv_at hl 1 rfl) ?_
  refine pf_RL_140 F hW hS hZ0 hB9 h1 (Nat.le_of_ble_eq_true rfl) dL_acts_1432 (fun w7 H locs ho9 hn8 hW hS => ?_)
  have ho9 : w7 h = some (.inr (10, [.int (iI (σ 0)), .int (iI (σ 1)), .int (iI dd), .int (iI (σ 3)), .ref st, .ref lc, .ref lr, .int (iI (bz (decide (σ 4 = σ 1))))])) := ho9
  have h5 := (hn8 _ (by first | assumption | (obtain ⟨y1, y2, y3, y4, y5⟩ := hQg; first | assumption | (apply Ne.symm; assumption)) | (obtain ⟨y1, y2, y3, y4, y5⟩ := hQa; first | assumption | (apply Ne.symm; assumption)) | (obtain ⟨z1, z2, z3, z4, z5, z6, z7, z8, z9, z10⟩ := hNE; first | assumption | (apply Ne.symm; assumption)) | (obtain ⟨y1, y2, y3, y4, y5⟩ := hq5; first | assumption | (apply Ne.symm; assumption)) | omega)).trans h5
  have h3 := (hn8 _ (by first | assumption | (obtain ⟨y1, y2, y3, y4, y5⟩ := hQg; first | assumption | (apply Ne.symm; assumption)) | (obtain ⟨y1, y2, y3, y4, y5⟩ := hQa; first | assumption | (apply Ne.symm; assumption)) | (obtain ⟨z1, z2, z3, z4, z5, z6, z7, z8, z9, z10⟩ := hNE; first | assumption | (apply Ne.symm; assumption)) | (obtain ⟨y1, y2, y3, y4, y5⟩ := hq5; first | assumption | (apply Ne.symm; assumption)) | omega)).trans h3
  have h5e := (hn8 _ (by first | assumption | (obtain ⟨y1, y2, y3, y4, y5⟩ := hQg; first | assumption | (apply Ne.symm; assumption)) | (obtain ⟨y1, y2, y3, y4, y5⟩ := hQa; first | assumption | (apply Ne.symm; assumption)) | (obtain ⟨z1, z2, z3, z4, z5, z6, z7, z8, z9, z10⟩ := hNE; first | assumption | (apply Ne.symm; assumption)) | (obtain ⟨y1, y2, y3, y4, y5⟩ := hq5; first | assumption | (apply Ne.symm; assumption)) | omega)).trans h5e
  have h2 := (hn8 _ (by first | assumption | (obtain ⟨y1, y2, y3, y4, y5⟩ := hQg; first | assumption | (apply Ne.symm; assumption)) | (obtain ⟨y1, y2, y3, y4, y5⟩ := hQa; first | assumption | (apply Ne.symm; assumption)) | (obtain ⟨z1, z2, z3, z4, z5, z6, z7, z8, z9, z10⟩ := hNE; first | assumption | (apply Ne.symm; assumption)) | (obtain ⟨y1, y2, y3, y4, y5⟩ := hq5; first | assumption | (apply Ne.symm; assumption)) | omega)).trans h2
  have ha5 := (hn8 _ (by first | assumption | (obtain ⟨y1, y2, y3, y4, y5⟩ := hQg; first | assumption | (apply Ne.symm; assumption)) | (obtain ⟨y1, y2, y3, y4, y5⟩ := hQa; first | assumption | (apply Ne.symm; assumption)) | (obtain ⟨z1, z2, z3, z4, z5, z6, z7, z8, z9, z10⟩ := hNE; first | assumption | (apply Ne.symm; assumption)) | (obtain ⟨y1, y2, y3, y4, y5⟩ := hq5; first | assumption | (apply Ne.symm; assumption)) | omega)).trans ha5
  have ha9 := (hn8 _ (by first | assumption | (obtain ⟨y1, y2, y3, y4, y5⟩ := hQg; first | assumption | (apply Ne.symm; assumption)) | (obtain ⟨y1, y2, y3, y4, y5⟩ := hQa; first | assumption | (apply Ne.symm; assumption)) | (obtain ⟨z1, z2, z3, z4, z5, z6, z7, z8, z9, z10⟩ := hNE; first | assumption | (apply Ne.symm; assumption)) | (obtain ⟨y1, y2, y3, y4, y5⟩ := hq5; first | assumption | (apply Ne.symm; assumption)) | omega)).trans ha9
  obtain ⟨τ, hτ⟩ : ∃ τ, τ = up σ 2 dd := ⟨_, rfl⟩
  have hgm : ∀ (q : Nat) (e : va_E), wr w N q = some e → ¬ (q = h) → wr w7 N q = some e := fun q e h9 hP9 => by have hN9 := (wr_some.mp h9).1; have h9 := (wr_some.mp h9).2; have hqg : q ≠ gq := fun e9 => hN9 (e9 ▸ hNN.2.1); have hqa : q ≠ aq := fun e9 => hN9 (e9 ▸ hNN.2.2); have hqy : outY y q := outY.nN hNy hN9; skip; have h9 := hx6 q e h9 (by first | assumption | (obtain ⟨y1, y2, y3, y4, y5⟩ := hQg; first | assumption | (apply Ne.symm; assumption)) | (obtain ⟨y1, y2, y3, y4, y5⟩ := hQa; first | assumption | (apply Ne.symm; assumption)) | (obtain ⟨z1, z2, z3, z4, z5, z6, z7, z8, z9, z10⟩ := hNE; first | assumption | (apply Ne.symm; assumption)) | (obtain ⟨y1, y2, y3, y4, y5⟩ := hq5; first | assumption | (apply Ne.symm; assumption)) | omega); have h9 := (hn8 q (by first | assumption | (obtain ⟨y1, y2, y3, y4, y5⟩ := hQg; first | assumption | (apply Ne.symm; assumption)) | (obtain ⟨y1, y2, y3, y4, y5⟩ := hQa; first | assumption | (apply Ne.symm; assumption)) | (obtain ⟨z1, z2, z3, z4, z5, z6, z7, z8, z9, z10⟩ := hNE; first | assumption | (apply Ne.symm; assumption)) | (obtain ⟨y1, y2, y3, y4, y5⟩ := hq5; first | assumption | (apply Ne.symm; assumption)) | omega)).trans h9; exact wr_some.mpr ⟨hN9, h9⟩
  have hWτ : WF τ := by rw [hτ]; exact de_W hWF (by omega)
  have hPt := hPw0.hd (τ := τ) hgm (fun p h2 h3 => by rw [hτ, up_n h2]) (wr_some.mpr ⟨h1n, (by rw [hτ, up_s, up_n (by decide), up_n (by decide), up_n (by decide), up_n (by decide)]; exact ho9)⟩) hWτ
  have hmN : ∀ (q : Nat) (e : va_E), w q = some e → N q → q ≠ gq → w7 q = some e := fun q e h9 h09 h19 => by have hq5 := hQ5 q h09; have hqe9 : q ≠ ec := fun e9 => hNl.2 (e9 ▸ h09); have hqe8 : q ≠ ec ∨ kc = 0 := Or.inl hqe9; have h9 := hx6 q e h9 (by first | assumption | (obtain ⟨y1, y2, y3, y4, y5⟩ := hQg; first | assumption | (apply Ne.symm; assumption)) | (obtain ⟨y1, y2, y3, y4, y5⟩ := hQa; first | assumption | (apply Ne.symm; assumption)) | (obtain ⟨z1, z2, z3, z4, z5, z6, z7, z8, z9, z10⟩ := hNE; first | assumption | (apply Ne.symm; assumption)) | (obtain ⟨y1, y2, y3, y4, y5⟩ := hq5; first | assumption | (apply Ne.symm; assumption)) | omega); have h9 := (hn8 q (by first | assumption | (obtain ⟨y1, y2, y3, y4, y5⟩ := hQg; first | assumption | (apply Ne.symm; assumption)) | (obtain ⟨y1, y2, y3, y4, y5⟩ := hQa; first | assumption | (apply Ne.symm; assumption)) | (obtain ⟨z1, z2, z3, z4, z5, z6, z7, z8, z9, z10⟩ := hNE; first | assumption | (apply Ne.symm; assumption)) | (obtain ⟨y1, y2, y3, y4, y5⟩ := hq5; first | assumption | (apply Ne.symm; assumption)) | omega)).trans h9; exact h9
  have hOn : ownN X w7 N h τ := hO0.of hPt.A hmN (kn_e ha5)
  have hKn : KS X w7 y σ nx sz pas ac := hK.ex (fun q e q0 q1 h9 => by have hqg := hog.ne q0 q1; have hqa := hoa.ne q0 q1; have hq5 := hQ5 q (hNy q q0 q1); have hqe9 : q ≠ ec := fun e9 => hNl.2 (e9 ▸ hNy q q0 q1); have hqe8 : q ≠ ec ∨ kc = 0 := Or.inl hqe9; have h9 := hx6 q e h9 (by first | assumption | (obtain ⟨y1, y2, y3, y4, y5⟩ := hQg; first | assumption | (apply Ne.symm; assumption)) | (obtain ⟨y1, y2, y3, y4, y5⟩ := hQa; first | assumption | (apply Ne.symm; assumption)) | (obtain ⟨z1, z2, z3, z4, z5, z6, z7, z8, z9, z10⟩ := hNE; first | assumption | (apply Ne.symm; assumption)) | (obtain ⟨y1, y2, y3, y4, y5⟩ := hq5; first | assumption | (apply Ne.symm; assumption)) | omega); have h9 := (hn8 q (by first | assumption | (obtain ⟨y1, y2, y3, y4, y5⟩ := hQg; first | assumption | (apply Ne.symm; assumption)) | (obtain ⟨y1, y2, y3, y4, y5⟩ := hQa; first | assumption | (apply Ne.symm; assumption)) | (obtain ⟨z1, z2, z3, z4, z5, z6, z7, z8, z9, z10⟩ := hNE; first | assumption | (apply Ne.symm; assumption)) | (obtain ⟨y1, y2, y3, y4, y5⟩ := hq5; first | assumption | (apply Ne.symm; assumption)) | omega)).trans h9; exact h9)
  obtain ⟨su9, tx9, M9, oo9, rv9, hC9⟩ := id hKn
  have hYc := hC9.1
  skip
  refine lv_aload_n F.1 F.2.1 dL_acts_1435 rfl (lv_at hl 2 rfl) ?_
  refine lv_iload F.1 F.2.1 dL_acts_1436 (lv_at hl 1 rfl) ?_
  by_cases hdd : dd = σ 2
  · refine cl_RL_381 (As := [.int (iI dd)]) (rest := []) F hl (k_setDelay_r7 l X w7 y σ nx sz pas ac dd hKn (by omega) (by omega)) hW hS hYc rfl rfl ⟨Nat.le_of_ble_eq_true rfl, Nat.le_of_ble_eq_true rfl⟩ (Nat.le_of_ble_eq_true rfl) ⟨(by show kc0 + 0 + 0 ≤ 1500; omega), (by show ks0 + 0 + 0 ≤ 6000; omega)⟩ dL_acts_1438 (fun w10 H locs hp11 hW hS => ?_)
    obtain ⟨hK2, hx12⟩ := hp11
    have ho9 := hx12 _ _ ho9 (by assumption)
    have ha5 := hx12 _ _ ha5 (by assumption)
    have ha9 := hx12 _ _ ha9 (by assumption)
    skip
    refine lv_iload F.1 F.2.1 dL_acts_1441 (lv_at hl 0 rfl) ?_
    refine lv_iload F.1 F.2.1 dL_acts_1443 (lv_at hl 1 rfl) ?_
    refine h_icne (tgt := 1453) F dL_acts_1445 (by decide) (by omega) (fun c9 => absurd c9 (by omega)) (fun _ => ?_)
    refine h_bipush F dL_acts_1448 rfl ?_
    refine h_goto (tgt := 1455) F dL_acts_1450 (by decide) ?_
    refine lv_aload_n F.1 F.2.1 dL_acts_1455 rfl (lv_at hl 5 rfl) ?_
    have hK2 : KS X w10 y τ nx sz pas (up ac 7 (ac 7 + 1)) := by rw [hτ]; rw [hdd, up_self]; exact hK2
    refine cl_RL_329 (As := [.int (iI (-7)), .int (iI (-7)), .ref aq]) (rest := []) F hl (c_L_is l X w10 aq af (-7) (-7) ha9 (by omega)) hW hS rfl rfl ⟨Nat.le_of_ble_eq_true rfl, Nat.le_of_ble_eq_true rfl⟩ (Nat.le_of_ble_eq_true rfl) ⟨(by show kc0 + 0 + 0 + 0 ≤ 1500; omega), (by show ks0 + 0 + 0 + 0 ≤ 6000; omega)⟩ dL_acts_1456 (fun w13 H locs hp14 hW hS => ?_)
    obtain ⟨ha15, hn16⟩ := hp14
    have ho9 := (hn16 _ (by first | assumption | (obtain ⟨y1, y2, y3, y4, y5⟩ := hQg; first | assumption | (apply Ne.symm; assumption)) | (obtain ⟨y1, y2, y3, y4, y5⟩ := hQa; first | assumption | (apply Ne.symm; assumption)) | (obtain ⟨z1, z2, z3, z4, z5, z6, z7, z8, z9, z10⟩ := hNE; first | assumption | (apply Ne.symm; assumption)) | (obtain ⟨y1, y2, y3, y4, y5⟩ := hq5; first | assumption | (apply Ne.symm; assumption)) | omega)).trans ho9
    have ha5 := (hn16 _ (by first | assumption | (obtain ⟨y1, y2, y3, y4, y5⟩ := hQg; first | assumption | (apply Ne.symm; assumption)) | (obtain ⟨y1, y2, y3, y4, y5⟩ := hQa; first | assumption | (apply Ne.symm; assumption)) | (obtain ⟨z1, z2, z3, z4, z5, z6, z7, z8, z9, z10⟩ := hNE; first | assumption | (apply Ne.symm; assumption)) | (obtain ⟨y1, y2, y3, y4, y5⟩ := hq5; first | assumption | (apply Ne.symm; assumption)) | omega)).trans ha5
    refine W.wd (mc := 1500) (ms := 6000) (by omega) (by omega) ?_
    have hK3 := hK2.ex (w2 := w13) (fun q e q0 q1 h9 => by have hqg := hog.ne q0 q1; have hqa := hoa.ne q0 q1; have h9 := (hn16 q (by first | assumption | (obtain ⟨y1, y2, y3, y4, y5⟩ := hQg; first | assumption | (apply Ne.symm; assumption)) | (obtain ⟨y1, y2, y3, y4, y5⟩ := hQa; first | assumption | (apply Ne.symm; assumption)) | (obtain ⟨z1, z2, z3, z4, z5, z6, z7, z8, z9, z10⟩ := hNE; first | assumption | (apply Ne.symm; assumption)) | (obtain ⟨y1, y2, y3, y4, y5⟩ := hq5; first | assumption | (apply Ne.symm; assumption)) | omega)).trans h9; exact h9)
    have hfin : LwS X w13 N y h gq aq τ (up af (if (-7) < 0 then -(-7) else 0) (af (if (-7) < 0 then -(-7) else 0) + 1)) := LwS.fin hOn hNN hout3 (fun q e h9 hc1 hc2 hc3 => by have h9 := hx12 q e h9 (by assumption); have h9 := (hn16 q (by first | assumption | (obtain ⟨y1, y2, y3, y4, y5⟩ := hQg; first | assumption | (apply Ne.symm; assumption)) | (obtain ⟨y1, y2, y3, y4, y5⟩ := hQa; first | assumption | (apply Ne.symm; assumption)) | (obtain ⟨z1, z2, z3, z4, z5, z6, z7, z8, z9, z10⟩ := hNE; first | assumption | (apply Ne.symm; assumption)) | (obtain ⟨y1, y2, y3, y4, y5⟩ := hq5; first | assumption | (apply Ne.symm; assumption)) | omega)).trans h9; exact h9) ha5 ha15 hK3 (ac_is hacc (rfl) (by decide))
    have hb8 : 0 ≤ (up af (if (-7) < 0 then -(-7) else 0) (af (if (-7) < 0 then -(-7) else 0) + 1)) 8 ∧ (up af (if (-7) < 0 then -(-7) else 0) (af (if (-7) < 0 then -(-7) else 0) + 1)) 8 ≤ af 8 + 1000 := by rw [ac_1 (rfl) (by decide)]; omega
    refine h_top (show (bz (decide ((-7) = (-7))) : Int) = bz true from congrArg bz (decide_eq_true rfl)) ?_
    exact h_iretz F hr hlk hW hS ⟨_, _, hfin, hb8⟩ dL_acts_1459
  · refine cl_RL_381 (As := [.int (iI dd)]) (rest := []) F hl (k_setDelay l X w7 y σ nx sz pas ac dd hKn (by omega) (by omega)) hW hS hYc rfl rfl ⟨Nat.le_of_ble_eq_true rfl, Nat.le_of_ble_eq_true rfl⟩ (Nat.le_of_ble_eq_true rfl) ⟨(by show kc0 + 0 + 0 ≤ 1500; omega), (by show ks0 + 0 + 0 ≤ 6000; omega)⟩ dL_acts_1438 (fun w17 H locs hp18 hW hS => ?_)
    obtain ⟨hK2, hx19⟩ := hp18
    have ho9 := hx19 _ _ ho9 (by assumption)
    have ha5 := hx19 _ _ ha5 (by assumption)
    have ha9 := hx19 _ _ ha9 (by assumption)
    skip
    refine lv_iload F.1 F.2.1 dL_acts_1441 (lv_at hl 0 rfl) ?_
    refine lv_iload F.1 F.2.1 dL_acts_1443 (lv_at hl 1 rfl) ?_
    refine h_icne (tgt := 1453) F dL_acts_1445 (by decide) (by omega) (fun _ => ?_) (fun c9 => absurd c9 (by omega))
    refine lv_iload F.1 F.2.1 dL_acts_1453 (lv_at hl 0 rfl) ?_
    refine lv_aload_n F.1 F.2.1 dL_acts_1455 rfl (lv_at hl 5 rfl) ?_
    rw [← hτ] at hK2
    refine cl_RL_329 (As := [.int (iI (σ 2)), .int (iI (σ 2)), .ref aq]) (rest := []) F hl (c_L_is l X w17 aq af (σ 2) (σ 2) ha9 (by omega)) hW hS rfl rfl ⟨Nat.le_of_ble_eq_true rfl, Nat.le_of_ble_eq_true rfl⟩ (Nat.le_of_ble_eq_true rfl) ⟨(by show kc0 + 0 + 0 + 0 ≤ 1500; omega), (by show ks0 + 0 + 0 + 0 ≤ 6000; omega)⟩ dL_acts_1456 (fun w20 H locs hp21 hW hS => ?_)
    obtain ⟨ha22, hn23⟩ := hp21
    have ho9 := (hn23 _ (by first | assumption | (obtain ⟨y1, y2, y3, y4, y5⟩ := hQg; first | assumption | (apply Ne.symm; assumption)) | (obtain ⟨y1, y2, y3, y4, y5⟩ := hQa; first | assumption | (apply Ne.symm; assumption)) | (obtain ⟨z1, z2, z3, z4, z5, z6, z7, z8, z9, z10⟩ := hNE; first | assumption | (apply Ne.symm; assumption)) | (obtain ⟨y1, y2, y3, y4, y5⟩ := hq5; first | assumption | (apply Ne.symm; assumption)) | omega)).trans ho9
    have ha5 := (hn23 _ (by first | assumption | (obtain ⟨y1, y2, y3, y4, y5⟩ := hQg; first | assumption | (apply Ne.symm; assumption)) | (obtain ⟨y1, y2, y3, y4, y5⟩ := hQa; first | assumption | (apply Ne.symm; assumption)) | (obtain ⟨z1, z2, z3, z4, z5, z6, z7, z8, z9, z10⟩ := hNE; first | assumption | (apply Ne.symm; assumption)) | (obtain ⟨y1, y2, y3, y4, y5⟩ := hq5; first | assumption | (apply Ne.symm; assumption)) | omega)).trans ha5
    refine W.wd (mc := 1500) (ms := 6000) (by omega) (by omega) ?_
    have hK3 := hK2.ex (w2 := w20) (fun q e q0 q1 h9 => by have hqg := hog.ne q0 q1; have hqa := hoa.ne q0 q1; have h9 := (hn23 q (by first | assumption | (obtain ⟨y1, y2, y3, y4, y5⟩ := hQg; first | assumption | (apply Ne.symm; assumption)) | (obtain ⟨y1, y2, y3, y4, y5⟩ := hQa; first | assumption | (apply Ne.symm; assumption)) | (obtain ⟨z1, z2, z3, z4, z5, z6, z7, z8, z9, z10⟩ := hNE; first | assumption | (apply Ne.symm; assumption)) | (obtain ⟨y1, y2, y3, y4, y5⟩ := hq5; first | assumption | (apply Ne.symm; assumption)) | omega)).trans h9; exact h9)
    have hfin : LwS X w20 N y h gq aq τ (up af (if (σ 2) < 0 then -(σ 2) else 0) (af (if (σ 2) < 0 then -(σ 2) else 0) + 1)) := LwS.fin hOn hNN hout3 (fun q e h9 hc1 hc2 hc3 => by have h9 := hx19 q e h9 (by assumption); have h9 := (hn23 q (by first | assumption | (obtain ⟨y1, y2, y3, y4, y5⟩ := hQg; first | assumption | (apply Ne.symm; assumption)) | (obtain ⟨y1, y2, y3, y4, y5⟩ := hQa; first | assumption | (apply Ne.symm; assumption)) | (obtain ⟨z1, z2, z3, z4, z5, z6, z7, z8, z9, z10⟩ := hNE; first | assumption | (apply Ne.symm; assumption)) | (obtain ⟨y1, y2, y3, y4, y5⟩ := hq5; first | assumption | (apply Ne.symm; assumption)) | omega)).trans h9; exact h9) ha5 ha22 hK3 (ac_is hacc (if_neg (by omega)) (by decide))
    have hb8 : 0 ≤ (up af (if (σ 2) < 0 then -(σ 2) else 0) (af (if (σ 2) < 0 then -(σ 2) else 0) + 1)) 8 ∧ (up af (if (σ 2) < 0 then -(σ 2) else 0) (af (if (σ 2) < 0 then -(σ 2) else 0) + 1)) 8 ≤ af 8 + 1000 := by rw [ac_1 (if_neg (by omega)) (by decide)]; omega
    refine h_top (show (bz (decide ((σ 2) = (σ 2))) : Int) = bz true from congrArg bz (decide_eq_true rfl)) ?_
    exact h_iretz F hr hlk hW hS ⟨_, _, hfin, hb8⟩ dL_acts_1459
set_option maxHeartbeats 4000000 in
set_option maxRecDepth 100000 in
theorem sg_acts_1460 (l : Launch) (X : Cx) (w : Wo) (y h gq aq : Nat) (N : Nat → Prop) (σ af : Int → Int) (hLS : LwS X w N y h gq aq σ af) (hp8 : 0 ≤ af 8 ∧ af 8 ≤ 900000)  (h5p : 0 < σ 5) {p : Program} {e : Env} {s : State} {m : MethodId} {below : List Frame} {meth : Method} {c : Code} {H : Heap} {locs : List Loc} {ls : Array Slot} {kc0 ks0 : Nat} (F : Fx p m c cL_acts 14 s (List.toArray [.ref y, .ref h, .ref gq, .ref aq]) RL) (hr : meth.sig.returnType = (some (.boolean))) (hlk : meth.locks = false) (hZ0 : cxZ X s s.heap) (hB9 : cxB X ≤ s.heap.size) (hkc0 : kc0 ≤ 10) (hks0 : ks0 ≤ 20) (hW : Wd X w s H) (hS : va_S (cxA X) s.heap H locs) (hl : lv_has ls 14 [(0, .ref y), (1, .ref h), (2, .ref gq), (3, .ref aq), (4, .int (iI (bz (decide (σ 4 < σ 1)))))]) : W p l e (rmG 11 1500 6000 260) s m (List.toArray [.ref y, .ref h, .ref gq, .ref aq]) below meth c H locs kc0 ks0 (MX X below (List.toArray [.ref y, .ref h, .ref gq, .ref aq]) s 1500 6000 (some (.int (iI (bz true)))) (fun w' => ∃ σ2 af2 : Int → Int, LwS X w' N y h gq aq σ2 af2 ∧ (0 ≤ af2 8 ∧ af2 8 ≤ af 8 + 1000))) (F0 m 1460 ls []) := by
  obtain ⟨hO, ⟨nx, sz, pas, ac, hK, hacc⟩, ⟨gf, hg9⟩, ha9, hout3, hNN⟩ := hLS
  have hNy := hNN.1
  have hog := hout3.1
  have hoa := hout3.2.1
  have hga := hout3.2.2
  have hO0 := hO
  obtain ⟨st, lc, ec, kc, lr, er, kr, cd, rwa, hPw0, hern⟩ := hO.1.P
  have hNE := hPw0.ne
  have hQ5 := hPw0.q5
  have hPw := hPw0
  obtain ⟨h1w, ⟨fs, h2w, h2f⟩, hLcw, hkc, hcaw, hLrw, hkr, hclw, hem, ⟨hWF, hw0, hw1⟩, hrs, hlne, hene⟩ := hPw
  have hWF0 := hWF.1
  obtain ⟨wf0, wf1, wf2, wf3, wf4, wf5⟩ := hWF0
  have hnc := nr_cases (show nrS σ = _ from rfl) wf4.2
  have hnr0 : σ 4 ≤ nrS σ ∧ nrS σ ≤ σ 4 + 1 ∧ nrS σ ≤ σ 1 := by omega
  clear hnc
  have hkrb : 10 ≤ kr ∧ kr ≤ 15 := by omega
  clear hkr hkc hlne hern
  have h1n := (wr_some.mp h1w).1
  have h1 := (wr_some.mp h1w).2
  have h2n := (wr_some.mp h2w).1
  have h2 := (wr_some.mp h2w).2
  have hLc := hLcw.ex (wr_sub w N)
  have hLr := hLrw.ex (wr_sub w N)
  have hNl := hLcw.nN hO.2.2
  have hNr := hLrw.nN hO.2.2
  obtain ⟨⟨mc, h3⟩, gc, h3b, h3c, h3d⟩ := hLc
  obtain ⟨⟨mr, h5⟩, gr, h5b, h5c, h5d⟩ := hLr
  have h5e : w er = some (aR X 5 kr gr) := h5b.elim (fun z => by omega) (fun z => z.1)
  clear h3b h5b
  have hLr := hLrw.ex (wr_sub w N)
  have hLc := hLcw.ex (wr_sub w N)
  have hQg := hQ5 gq hNN.2.1
  have hQa := hQ5 aq hNN.2.2
  have hoh := outY.nN hNy h1n
  have host := outY.nN hNy h2n
  have holc := outY.nN hNy hNl.1
  have holr := outY.nN hNy hNr.1
  have hoer := outY.nN hNy hNr.2
  have hXY := hW.zy
  obtain ⟨⟨mc2, h32⟩, gc2, h3b2, h3c2, h3d2⟩ := id hLc
  have hk10 := hPw0.2.2.2.1
  have hk1 : 1 ≤ kc := by omega
  have hec2 : w ec = some (aR X 5 kc gc2) := h3b2.elim (fun z9 => absurd z9.2 (by omega)) (fun z9 => z9.1)
  have hqe : gq ≠ ec := fun e9 => hNl.2 (e9 ▸ hNN.2.1)
  refine lv_aload_n F.1 F.2.1 dL_acts_1460 rfl (lv_at hl 2 rfl) ?_
  refine lv_aload_n F.1 F.2.1 dL_acts_1461 rfl (lv_at hl 1 rfl) ?_
  refine gf_RL_109 F hW h1 rfl dL_acts_1462 ?_
  refine cl_RL_160 (As := []) (rest := [.ref gq]) F hl (c_Jx4a65c_size_8abf5 l X w lc mc2 ec (σ 5) h32) hW hS h32 rfl rfl ⟨Nat.le_of_ble_eq_true rfl, Nat.le_of_ble_eq_true rfl⟩ (Nat.le_of_ble_eq_true rfl) ⟨(by show kc0 + 0 ≤ 1500; omega), (by show ks0 + 0 ≤ 6000; omega)⟩ dL_acts_1465 (fun w1 H locs hp1 hW hS => ?_)
  rw [hp1] at hW; clear hp1; clear w1
  refine cr_RL_45 (As := [.ref gq, .int (iI (σ 5))]) (rest := []) F hl (c_L_draw l X w gq gf (σ 5) hg9 (by omega)) hW hS rfl rfl ⟨Nat.le_of_ble_eq_true rfl, Nat.le_of_ble_eq_true rfl⟩ (Nat.le_of_ble_eq_true rfl) ⟨(by show kc0 + 0 + 0 ≤ 1500; omega), (by show ks0 + 0 + 0 ≤ 6000; omega)⟩ dL_acts_1470 (fun v4 w2 H locs hp3 hW hS => ?_)
  obtain ⟨dk, g1, rfl, hm5, ha6, hx7⟩ := hp3
  have h1 := hx7 _ _ h1 (by first | assumption | (obtain ⟨y1, y2, y3, y4, y5⟩ := hQg; first | assumption | (apply Ne.symm; assumption)) | (obtain ⟨y1, y2, y3, y4, y5⟩ := hQa; first | assumption | (apply Ne.symm; assumption)) | (obtain ⟨z1, z2, z3, z4, z5, z6, z7, z8, z9, z10⟩ := hNE; first | assumption | (apply Ne.symm; assumption)) | (obtain ⟨y1, y2, y3, y4, y5⟩ := hq5; first | assumption | (apply Ne.symm; assumption)) | omega)
  have h5 := hx7 _ _ h5 (by first | assumption | (obtain ⟨y1, y2, y3, y4, y5⟩ := hQg; first | assumption | (apply Ne.symm; assumption)) | (obtain ⟨y1, y2, y3, y4, y5⟩ := hQa; first | assumption | (apply Ne.symm; assumption)) | (obtain ⟨z1, z2, z3, z4, z5, z6, z7, z8, z9, z10⟩ := hNE; first | assumption | (apply Ne.symm; assumption)) | (obtain ⟨y1, y2, y3, y4, y5⟩ := hq5; first | assumption | (apply Ne.symm; assumption)) | omega)
  have h32 := hx7 _ _ h32 (by first | assumption | (obtain ⟨y1, y2, y3, y4, y5⟩ := hQg; first | assumption | (apply Ne.symm; assumption)) | (obtain ⟨y1, y2, y3, y4, y5⟩ := hQa; first | assumption | (apply Ne.symm; assumption)) | (obtain ⟨z1, z2, z3, z4, z5, z6, z7, z8, z9, z10⟩ := hNE; first | assumption | (apply Ne.symm; assumption)) | (obtain ⟨y1, y2, y3, y4, y5⟩ := hq5; first | assumption | (apply Ne.symm; assumption)) | omega)
  have h5e := hx7 _ _ h5e (by first | assumption | (obtain ⟨y1, y2, y3, y4, y5⟩ := hQg; first | assumption | (apply Ne.symm; assumption)) | (obtain ⟨y1, y2, y3, y4, y5⟩ := hQa; first | assumption | (apply Ne.symm; assumption)) | (obtain ⟨z1, z2, z3, z4, z5, z6, z7, z8, z9, z10⟩ := hNE; first | assumption | (apply Ne.symm; assumption)) | (obtain ⟨y1, y2, y3, y4, y5⟩ := hq5; first | assumption | (apply Ne.symm; assumption)) | omega)
  have h2 := hx7 _ _ h2 (by first | assumption | (obtain ⟨y1, y2, y3, y4, y5⟩ := hQg; first | assumption | (apply Ne.symm; assumption)) | (obtain ⟨y1, y2, y3, y4, y5⟩ := hQa; first | assumption | (apply Ne.symm; assumption)) | (obtain ⟨z1, z2, z3, z4, z5, z6, z7, z8, z9, z10⟩ := hNE; first | assumption | (apply Ne.symm; assumption)) | (obtain ⟨y1, y2, y3, y4, y5⟩ := hq5; first | assumption | (apply Ne.symm; assumption)) | omega)
  have ha9 := hx7 _ _ ha9 (by first | assumption | (obtain ⟨y1, y2, y3, y4, y5⟩ := hQg; first | assumption | (apply Ne.symm; assumption)) | (obtain ⟨y1, y2, y3, y4, y5⟩ := hQa; first | assumption | (apply Ne.symm; assumption)) | (obtain ⟨z1, z2, z3, z4, z5, z6, z7, z8, z9, z10⟩ := hNE; first | assumption | (apply Ne.symm; assumption)) | (obtain ⟨y1, y2, y3, y4, y5⟩ := hq5; first | assumption | (apply Ne.symm; assumption)) | omega)
  have hec2 := hx7 _ _ hec2 (by first | assumption | (obtain ⟨y1, y2, y3, y4, y5⟩ := hQg; first | assumption | (apply Ne.symm; assumption)) | (obtain ⟨y1, y2, y3, y4, y5⟩ := hQa; first | assumption | (apply Ne.symm; assumption)) | (obtain ⟨z1, z2, z3, z4, z5, z6, z7, z8, z9, z10⟩ := hNE; first | assumption | (apply Ne.symm; assumption)) | (obtain ⟨y1, y2, y3, y4, y5⟩ := hq5; first | assumption | (apply Ne.symm; assumption)) | omega)
  refine lv_istore (lv' := [(5, .int (iI dk)), (0, .ref y), (1, .ref h), (2, .ref gq), (3, .ref aq), (4, .int (iI (bz (decide (σ 4 < σ 1)))))]) F.1 F.2.1 dL_acts_1473 hl (by decide) rfl (fun ls hl => ?_)
  refine lv_aload_n F.1 F.2.1 dL_acts_1475 rfl (lv_at hl 2 rfl) ?_
  refine gf_RL_109 F hW h1 rfl dL_acts_1476 ?_
  refine lv_iload F.1 F.2.1 dL_acts_1479 (lv_at hl 0 rfl) ?_
  obtain ⟨fk, ⟨wdk, hcpk, hsk⟩, hfk⟩ := hcaw.1 dk (by omega) (by omega)
  have hcpn := (wr_some.mp hcpk).1
  have hcpk := (wr_some.mp hcpk).2
  have hcpk : w2 (cd dk) = _ := (show ∀ (q : Nat) (e : va_E), w q = some e → q ≠ gq → w2 q = some e from fun q e h9 h09 => by have h9 := hx7 q e h9 (by first | assumption | (obtain ⟨y1, y2, y3, y4, y5⟩ := hQg; first | assumption | (apply Ne.symm; assumption)) | (obtain ⟨y1, y2, y3, y4, y5⟩ := hQa; first | assumption | (apply Ne.symm; assumption)) | (obtain ⟨z1, z2, z3, z4, z5, z6, z7, z8, z9, z10⟩ := hNE; first | assumption | (apply Ne.symm; assumption)) | (obtain ⟨y1, y2, y3, y4, y5⟩ := hq5; first | assumption | (apply Ne.symm; assumption)) | omega); exact h9) _ _ hcpk (fun e9 => hcpn (e9 ▸ hNN.2.1))
  skip
  have hel9 : ∀ k, 0 ≤ k → k < σ 5 → elO X w2 (cd k) := fun k k0 k1 => (hcaw.el k k0 k1).ex (fun q e h9 => by have hN9 := (wr_some.mp h9).1; have h9 := (wr_some.mp h9).2; have hqg : q ≠ gq := fun e9 => hN9 (e9 ▸ hNN.2.1); have h9 := hx7 q e h9 (by first | assumption | (obtain ⟨y1, y2, y3, y4, y5⟩ := hQg; first | assumption | (apply Ne.symm; assumption)) | (obtain ⟨y1, y2, y3, y4, y5⟩ := hQa; first | assumption | (apply Ne.symm; assumption)) | (obtain ⟨z1, z2, z3, z4, z5, z6, z7, z8, z9, z10⟩ := hNE; first | assumption | (apply Ne.symm; assumption)) | (obtain ⟨y1, y2, y3, y4, y5⟩ := hq5; first | assumption | (apply Ne.symm; assumption)) | omega); exact h9)
  have hcl9 : cd dk ≠ lc ∧ cd dk ≠ ec := ⟨fun e9 => (by rw [e9, h32] at hcpk; cases hcpk), fun e9 => (by rw [e9, hec2] at hcpk; cases hcpk)⟩
  have hxl : h ≠ ec ∧ lr ≠ ec := ⟨fun e9 => (by have z9 := h1; rw [e9, hec2] at z9; cases z9), fun e9 => (by have z9 := h5; rw [e9, hec2] at z9; cases z9)⟩
  have hste : st ≠ ec := fun e9 => by have z9 := h2; rw [e9, hec2] at z9; exact aZ_aR (Option.some.inj z9.symm)
  have hqe3 : aq ≠ ec := fun e9 => hNl.2 (e9 ▸ hNN.2.2)
  refine cl_RL_362 (As := [.int (iI dk)]) (rest := []) F hl (c_lrm l X w2 lc ec kc (σ 5) cd dk (⟨⟨mc2, h32⟩, gc2, Or.inr ⟨hec2, hk1⟩, h3c2, h3d2⟩) (⟨by omega, by omega, by omega⟩) hel9) hW hS h32 rfl rfl ⟨Nat.le_of_ble_eq_true rfl, Nat.le_of_ble_eq_true rfl⟩ (Nat.le_of_ble_eq_true rfl) ⟨(by show kc0 + 0 + 0 + 0 ≤ 1500; omega), (by show ks0 + 0 + 0 + 0 ≤ 6000; omega)⟩ dL_acts_1481 (fun w8 H locs hp9 hW hS => ?_)
  obtain ⟨hL2, hx10⟩ := hp9
  have h1 := hx10 _ _ h1 (by first | assumption | (obtain ⟨y1, y2, y3, y4, y5⟩ := hQg; first | assumption | (apply Ne.symm; assumption)) | (obtain ⟨y1, y2, y3, y4, y5⟩ := hQa; first | assumption | (apply Ne.symm; assumption)) | (obtain ⟨z1, z2, z3, z4, z5, z6, z7, z8, z9, z10⟩ := hNE; first | assumption | (apply Ne.symm; assumption)) | (obtain ⟨y1, y2, y3, y4, y5⟩ := hq5; first | assumption | (apply Ne.symm; assumption)) | omega) (by first | assumption | (obtain ⟨y1, y2, y3, y4, y5⟩ := hQg; first | assumption | (apply Ne.symm; assumption)) | (obtain ⟨y1, y2, y3, y4, y5⟩ := hQa; first | assumption | (apply Ne.symm; assumption)) | (obtain ⟨z1, z2, z3, z4, z5, z6, z7, z8, z9, z10⟩ := hNE; first | assumption | (apply Ne.symm; assumption)) | (obtain ⟨y1, y2, y3, y4, y5⟩ := hq5; first | assumption | (apply Ne.symm; assumption)) | omega)
  have hcpk := hx10 _ _ hcpk (by first | assumption | (obtain ⟨y1, y2, y3, y4, y5⟩ := hQg; first | assumption | (apply Ne.symm; assumption)) | (obtain ⟨y1, y2, y3, y4, y5⟩ := hQa; first | assumption | (apply Ne.symm; assumption)) | (obtain ⟨z1, z2, z3, z4, z5, z6, z7, z8, z9, z10⟩ := hNE; first | assumption | (apply Ne.symm; assumption)) | (obtain ⟨y1, y2, y3, y4, y5⟩ := hq5; first | assumption | (apply Ne.symm; assumption)) | omega) (by first | assumption | (obtain ⟨y1, y2, y3, y4, y5⟩ := hQg; first | assumption | (apply Ne.symm; assumption)) | (obtain ⟨y1, y2, y3, y4, y5⟩ := hQa; first | assumption | (apply Ne.symm; assumption)) | (obtain ⟨z1, z2, z3, z4, z5, z6, z7, z8, z9, z10⟩ := hNE; first | assumption | (apply Ne.symm; assumption)) | (obtain ⟨y1, y2, y3, y4, y5⟩ := hq5; first | assumption | (apply Ne.symm; assumption)) | omega)
  have ha6 := hx10 _ _ ha6 (by first | assumption | (obtain ⟨y1, y2, y3, y4, y5⟩ := hQg; first | assumption | (apply Ne.symm; assumption)) | (obtain ⟨y1, y2, y3, y4, y5⟩ := hQa; first | assumption | (apply Ne.symm; assumption)) | (obtain ⟨z1, z2, z3, z4, z5, z6, z7, z8, z9, z10⟩ := hNE; first | assumption | (apply Ne.symm; assumption)) | (obtain ⟨y1, y2, y3, y4, y5⟩ := hq5; first | assumption | (apply Ne.symm; assumption)) | omega) (by first | assumption | (obtain ⟨y1, y2, y3, y4, y5⟩ := hQg; first | assumption | (apply Ne.symm; assumption)) | (obtain ⟨y1, y2, y3, y4, y5⟩ := hQa; first | assumption | (apply Ne.symm; assumption)) | (obtain ⟨z1, z2, z3, z4, z5, z6, z7, z8, z9, z10⟩ := hNE; first | assumption | (apply Ne.symm; assumption)) | (obtain ⟨y1, y2, y3, y4, y5⟩ := hq5; first | assumption | (apply Ne.symm; assumption)) | omega)
  have ha9 := hx10 _ _ ha9 (by first | assumption | (obtain ⟨y1, y2, y3, y4, y5⟩ := hQg; first | assumption | (apply Ne.symm; assumption)) | (obtain ⟨y1, y2, y3, y4, y5⟩ := hQa; first | assumption | (apply Ne.symm; assumption)) | (obtain ⟨z1, z2, z3, z4, z5, z6, z7, z8, z9, z10⟩ := hNE; first | assumption | (apply Ne.symm; assumption)) | (obtain ⟨y1, y2, y3, y4, y5⟩ := hq5; first | assumption | (apply Ne.symm; assumption)) | omega) (by first | assumption | (obtain ⟨y1, y2, y3, y4, y5⟩ := hQg; first | assumption | (apply Ne.symm; assumption)) | (obtain ⟨y1, y2, y3, y4, y5⟩ := hQa; first | assumption | (apply Ne.symm; assumption)) | (obtain ⟨z1, z2, z3, z4, z5, z6, z7, z8, z9, z10⟩ := hNE; first | assumption | (apply Ne.symm; assumption)) | (obtain ⟨y1, y2, y3, y4, y5⟩ := hq5; first | assumption | (apply Ne.symm; assumption)) | omega)
  refine h_castO F hW (ci := 9) rfl hcpk kl_RL_69 dL_acts_1486 ?_
  obtain ⟨τ, hτ⟩ : ∃ τ, τ = drpS σ dk := ⟨_, rfl⟩
  have hdR : dropR σ τ dk := by rw [hτ]; exact drp_R hWF.cap8 (by omega)
  have hWτ : WF τ := drp_WF hWF (by omega) hdR
  obtain ⟨d5, d13, dlo, dhi, dce⟩ := hdR
  have hgm : ∀ (q : Nat) (e : va_E), wr w N q = some e → ¬ (q = lc ∨ (q = ec ∧ 1 ≤ kc)) → wr w8 N q = some e := fun q e h9 hP9 => by have hN9 := (wr_some.mp h9).1; have h9 := (wr_some.mp h9).2; have hqg : q ≠ gq := fun e9 => hN9 (e9 ▸ hNN.2.1); have hqa : q ≠ aq := fun e9 => hN9 (e9 ▸ hNN.2.2); have hqy : outY y q := outY.nN hNy hN9; skip; have h9 := hx7 q e h9 (by first | assumption | (obtain ⟨y1, y2, y3, y4, y5⟩ := hQg; first | assumption | (apply Ne.symm; assumption)) | (obtain ⟨y1, y2, y3, y4, y5⟩ := hQa; first | assumption | (apply Ne.symm; assumption)) | (obtain ⟨z1, z2, z3, z4, z5, z6, z7, z8, z9, z10⟩ := hNE; first | assumption | (apply Ne.symm; assumption)) | (obtain ⟨y1, y2, y3, y4, y5⟩ := hq5; first | assumption | (apply Ne.symm; assumption)) | omega); have h9 := hx10 q e h9 (by first | assumption | (obtain ⟨y1, y2, y3, y4, y5⟩ := hQg; first | assumption | (apply Ne.symm; assumption)) | (obtain ⟨y1, y2, y3, y4, y5⟩ := hQa; first | assumption | (apply Ne.symm; assumption)) | (obtain ⟨z1, z2, z3, z4, z5, z6, z7, z8, z9, z10⟩ := hNE; first | assumption | (apply Ne.symm; assumption)) | (obtain ⟨y1, y2, y3, y4, y5⟩ := hq5; first | assumption | (apply Ne.symm; assumption)) | omega) (by first | assumption | (obtain ⟨y1, y2, y3, y4, y5⟩ := hQg; first | assumption | (apply Ne.symm; assumption)) | (obtain ⟨y1, y2, y3, y4, y5⟩ := hQa; first | assumption | (apply Ne.symm; assumption)) | (obtain ⟨z1, z2, z3, z4, z5, z6, z7, z8, z9, z10⟩ := hNE; first | assumption | (apply Ne.symm; assumption)) | (obtain ⟨y1, y2, y3, y4, y5⟩ := hq5; first | assumption | (apply Ne.symm; assumption)) | omega); exact wr_some.mpr ⟨hN9, h9⟩
  have hPt := hPw0.capz (τ := τ) hgm (fun p p0 p1 p5 => d13 p p0 p1 p5) (fun cz r c0 c1 r0 r1 => dce cz r c0 (by omega) r0 (by omega)) (by rw [d5]; exact hL2.wr hNl.1 hNl.2) hk10 (fun hgc _ => capsA.of hcaw (fun k k0 k1 => (hWF.2.2.1 k k0 k1).1.2) hgc (fun k k0 k1 => Or.inl (if hlt : k < dk then ⟨k, ⟨k0, by omega⟩, if_pos hlt, dlo k k0 hlt⟩ else ⟨k + 1, ⟨by omega, by omega⟩, if_neg hlt, dhi k (by omega) (by omega)⟩)) (fun k k2 a0 a1 b0 b1 e9 => drop_inj hcaw.2 (by omega) (by omega) a0 (by omega) b0 (by omega) e9)) hWτ (fun z9 => hPw0.2.2.2.2.2.2.2.2.2.2.2.2 z9)
  have hmN : ∀ (q : Nat) (e : va_E), w q = some e → N q → q ≠ gq → w8 q = some e := fun q e h9 h09 h19 => by have hq5 := hQ5 q h09; have hqe9 : q ≠ ec := fun e9 => hNl.2 (e9 ▸ h09); have hqe8 : q ≠ ec ∨ kc = 0 := Or.inl hqe9; have h9 := hx7 q e h9 (by first | assumption | (obtain ⟨y1, y2, y3, y4, y5⟩ := hQg; first | assumption | (apply Ne.symm; assumption)) | (obtain ⟨y1, y2, y3, y4, y5⟩ := hQa; first | assumption | (apply Ne.symm; assumption)) | (obtain ⟨z1, z2, z3, z4, z5, z6, z7, z8, z9, z10⟩ := hNE; first | assumption | (apply Ne.symm; assumption)) | (obtain ⟨y1, y2, y3, y4, y5⟩ := hq5; first | assumption | (apply Ne.symm; assumption)) | omega); have h9 := hx10 q e h9 (by first | assumption | (obtain ⟨y1, y2, y3, y4, y5⟩ := hQg; first | assumption | (apply Ne.symm; assumption)) | (obtain ⟨y1, y2, y3, y4, y5⟩ := hQa; first | assumption | (apply Ne.symm; assumption)) | (obtain ⟨z1, z2, z3, z4, z5, z6, z7, z8, z9, z10⟩ := hNE; first | assumption | (apply Ne.symm; assumption)) | (obtain ⟨y1, y2, y3, y4, y5⟩ := hq5; first | assumption | (apply Ne.symm; assumption)) | omega) (by first | assumption | (obtain ⟨y1, y2, y3, y4, y5⟩ := hQg; first | assumption | (apply Ne.symm; assumption)) | (obtain ⟨y1, y2, y3, y4, y5⟩ := hQa; first | assumption | (apply Ne.symm; assumption)) | (obtain ⟨z1, z2, z3, z4, z5, z6, z7, z8, z9, z10⟩ := hNE; first | assumption | (apply Ne.symm; assumption)) | (obtain ⟨y1, y2, y3, y4, y5⟩ := hq5; first | assumption | (apply Ne.symm; assumption)) | omega); exact h9
  have hOn : ownN X w8 N h τ := hO0.of hPt.A hmN (kn_e ha6)
  have hKn : KS X w8 y σ nx sz pas ac := hK.ex (fun q e q0 q1 h9 => by have hqg := hog.ne q0 q1; have hqa := hoa.ne q0 q1; have hq5 := hQ5 q (hNy q q0 q1); have hqe9 : q ≠ ec := fun e9 => hNl.2 (e9 ▸ hNy q q0 q1); have hqe8 : q ≠ ec ∨ kc = 0 := Or.inl hqe9; have h9 := hx7 q e h9 (by first | assumption | (obtain ⟨y1, y2, y3, y4, y5⟩ := hQg; first | assumption | (apply Ne.symm; assumption)) | (obtain ⟨y1, y2, y3, y4, y5⟩ := hQa; first | assumption | (apply Ne.symm; assumption)) | (obtain ⟨z1, z2, z3, z4, z5, z6, z7, z8, z9, z10⟩ := hNE; first | assumption | (apply Ne.symm; assumption)) | (obtain ⟨y1, y2, y3, y4, y5⟩ := hq5; first | assumption | (apply Ne.symm; assumption)) | omega); have h9 := hx10 q e h9 (by first | assumption | (obtain ⟨y1, y2, y3, y4, y5⟩ := hQg; first | assumption | (apply Ne.symm; assumption)) | (obtain ⟨y1, y2, y3, y4, y5⟩ := hQa; first | assumption | (apply Ne.symm; assumption)) | (obtain ⟨z1, z2, z3, z4, z5, z6, z7, z8, z9, z10⟩ := hNE; first | assumption | (apply Ne.symm; assumption)) | (obtain ⟨y1, y2, y3, y4, y5⟩ := hq5; first | assumption | (apply Ne.symm; assumption)) | omega) (by first | assumption | (obtain ⟨y1, y2, y3, y4, y5⟩ := hQg; first | assumption | (apply Ne.symm; assumption)) | (obtain ⟨y1, y2, y3, y4, y5⟩ := hQa; first | assumption | (apply Ne.symm; assumption)) | (obtain ⟨z1, z2, z3, z4, z5, z6, z7, z8, z9, z10⟩ := hNE; first | assumption | (apply Ne.symm; assumption)) | (obtain ⟨y1, y2, y3, y4, y5⟩ := hq5; first | assumption | (apply Ne.symm; assumption)) | omega); exact h9)
  obtain ⟨su9, tx9, M9, oo9, rv9, hC9⟩ := id hKn
  have hYc := hC9.1
  skip
  refine lv_astore (lv' := [(6, .ref (cd dk)), (5, .int (iI dk)), (0, .ref y), (1, .ref h), (2, .ref gq), (3, .ref aq), (4, .int (iI (bz (decide (σ 4 < σ 1)))))]) F.1 F.2.1 dL_acts_1489 hl (by decide) rfl (fun ls hl => ?_)
  refine lv_aload_n F.1 F.2.1 dL_acts_1491 rfl (lv_at hl 2 rfl) ?_
  refine lv_iload F.1 F.2.1 dL_acts_1492 (lv_at hl 1 rfl) ?_
  refine cl_RL_384 (As := [.int (iI dk)]) (rest := []) F hl (k_drop l X w8 y σ nx sz pas ac dk hKn (by omega)) hW hS hYc rfl rfl ⟨Nat.le_of_ble_eq_true rfl, Nat.le_of_ble_eq_true rfl⟩ (Nat.le_of_ble_eq_true rfl) ⟨(by show kc0 + 0 + 0 + 0 + 0 ≤ 1500; omega), (by show ks0 + 0 + 0 + 0 + 0 ≤ 6000; omega)⟩ dL_acts_1494 (fun w11 H locs hp12 hW hS => ?_)
  obtain ⟨hK2, hx13⟩ := hp12
  have h1 := hx13 _ _ h1 (by assumption)
  have ha6 := hx13 _ _ ha6 (by assumption)
  have ha9 := hx13 _ _ ha9 (by assumption)
  skip
  rw [← hτ] at hK2
  obtain ⟨⟨mc3, h33⟩, -⟩ := hL2
  have h33 := hx13 _ _ h33 holc
  skip
  refine lv_aload_n F.1 F.2.1 dL_acts_1497 rfl (lv_at hl 3 rfl) ?_
  refine gf_RL_109 F hW h1 rfl dL_acts_1498 ?_
  refine cl_RL_160 (As := []) (rest := [.int (iI (σ 5 - 1))]) F hl (c_Jx4a65c_size_8abf5 l X w11 lc mc3 ec (σ 5 - 1) h33) hW hS h33 rfl rfl ⟨Nat.le_of_ble_eq_true rfl, Nat.le_of_ble_eq_true rfl⟩ (Nat.le_of_ble_eq_true rfl) ⟨(by show kc0 + 0 + 0 + 0 + 0 + 0 ≤ 1500; omega), (by show ks0 + 0 + 0 + 0 + 0 + 0 ≤ 6000; omega)⟩ dL_acts_1501 (fun w1 H locs hp14 hW hS => ?_)
  rw [hp14] at hW; clear hp14; clear w1
  refine lv_aload_n F.1 F.2.1 dL_acts_1506 rfl (lv_at hl 5 rfl) ?_
  refine cl_RL_329 (As := [.int (iI (σ 5 - 1)), .int (iI (σ 5 - 1)), .ref aq]) (rest := []) F hl (c_L_is l X w11 aq af (σ 5 - 1) (σ 5 - 1) ha9 (by omega)) hW hS rfl rfl ⟨Nat.le_of_ble_eq_true rfl, Nat.le_of_ble_eq_true rfl⟩ (Nat.le_of_ble_eq_true rfl) ⟨(by show kc0 + 0 + 0 + 0 + 0 + 0 + 0 ≤ 1500; omega), (by show ks0 + 0 + 0 + 0 + 0 + 0 + 0 ≤ 6000; omega)⟩ dL_acts_1507 (fun w15 H locs hp16 hW hS => ?_)
  obtain ⟨ha17, hn18⟩ := hp16
  have h1 := (hn18 _ (by first | assumption | (obtain ⟨y1, y2, y3, y4, y5⟩ := hQg; first | assumption | (apply Ne.symm; assumption)) | (obtain ⟨y1, y2, y3, y4, y5⟩ := hQa; first | assumption | (apply Ne.symm; assumption)) | (obtain ⟨z1, z2, z3, z4, z5, z6, z7, z8, z9, z10⟩ := hNE; first | assumption | (apply Ne.symm; assumption)) | (obtain ⟨y1, y2, y3, y4, y5⟩ := hq5; first | assumption | (apply Ne.symm; assumption)) | omega)).trans h1
  have h33 := (hn18 _ (by first | assumption | (obtain ⟨y1, y2, y3, y4, y5⟩ := hQg; first | assumption | (apply Ne.symm; assumption)) | (obtain ⟨y1, y2, y3, y4, y5⟩ := hQa; first | assumption | (apply Ne.symm; assumption)) | (obtain ⟨z1, z2, z3, z4, z5, z6, z7, z8, z9, z10⟩ := hNE; first | assumption | (apply Ne.symm; assumption)) | (obtain ⟨y1, y2, y3, y4, y5⟩ := hq5; first | assumption | (apply Ne.symm; assumption)) | omega)).trans h33
  have ha6 := (hn18 _ (by first | assumption | (obtain ⟨y1, y2, y3, y4, y5⟩ := hQg; first | assumption | (apply Ne.symm; assumption)) | (obtain ⟨y1, y2, y3, y4, y5⟩ := hQa; first | assumption | (apply Ne.symm; assumption)) | (obtain ⟨z1, z2, z3, z4, z5, z6, z7, z8, z9, z10⟩ := hNE; first | assumption | (apply Ne.symm; assumption)) | (obtain ⟨y1, y2, y3, y4, y5⟩ := hq5; first | assumption | (apply Ne.symm; assumption)) | omega)).trans ha6
  refine W.wd (mc := 1500) (ms := 6000) (by omega) (by omega) ?_
  have hK3 := hK2.ex (w2 := w15) (fun q e q0 q1 h9 => by have hqg := hog.ne q0 q1; have hqa := hoa.ne q0 q1; have h9 := (hn18 q (by first | assumption | (obtain ⟨y1, y2, y3, y4, y5⟩ := hQg; first | assumption | (apply Ne.symm; assumption)) | (obtain ⟨y1, y2, y3, y4, y5⟩ := hQa; first | assumption | (apply Ne.symm; assumption)) | (obtain ⟨z1, z2, z3, z4, z5, z6, z7, z8, z9, z10⟩ := hNE; first | assumption | (apply Ne.symm; assumption)) | (obtain ⟨y1, y2, y3, y4, y5⟩ := hq5; first | assumption | (apply Ne.symm; assumption)) | omega)).trans h9; exact h9)
  have hfin : LwS X w15 N y h gq aq τ (up af (if (σ 5 - 1) < 0 then -(σ 5 - 1) else 0) (af (if (σ 5 - 1) < 0 then -(σ 5 - 1) else 0) + 1)) := LwS.fin hOn hNN hout3 (fun q e h9 hc1 hc2 hc3 => by have h9 := hx13 q e h9 (by assumption); have h9 := (hn18 q (by first | assumption | (obtain ⟨y1, y2, y3, y4, y5⟩ := hQg; first | assumption | (apply Ne.symm; assumption)) | (obtain ⟨y1, y2, y3, y4, y5⟩ := hQa; first | assumption | (apply Ne.symm; assumption)) | (obtain ⟨z1, z2, z3, z4, z5, z6, z7, z8, z9, z10⟩ := hNE; first | assumption | (apply Ne.symm; assumption)) | (obtain ⟨y1, y2, y3, y4, y5⟩ := hq5; first | assumption | (apply Ne.symm; assumption)) | omega)).trans h9; exact h9) ha6 ha17 hK3 (ac_is hacc (if_neg (by omega)) (by decide))
  have hb8 : 0 ≤ (up af (if (σ 5 - 1) < 0 then -(σ 5 - 1) else 0) (af (if (σ 5 - 1) < 0 then -(σ 5 - 1) else 0) + 1)) 8 ∧ (up af (if (σ 5 - 1) < 0 then -(σ 5 - 1) else 0) (af (if (σ 5 - 1) < 0 then -(σ 5 - 1) else 0) + 1)) 8 ≤ af 8 + 1000 := by rw [ac_1 (if_neg (by omega)) (by decide)]; omega
  refine h_top (show (bz (decide ((σ 5 - 1) = (σ 5 - 1))) : Int) = bz true from congrArg bz (decide_eq_true rfl)) ?_
  exact h_iretz F hr hlk hW hS ⟨_, _, hfin, hb8⟩ dL_acts_1510
