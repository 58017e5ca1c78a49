set_option maxHeartbeats 4000000 in
set_option maxRecDepth 100000 in
theorem c_X10_finishes (l : Launch) (X : Cx) (w : Wo) (h : Nat) (N : Nat → Prop) (σ : Int → Int) (hO : ownN X w N h σ) (hop : σ 4 < σ 1) (hful : ∀ c, 0 ≤ c → c < σ 0 → 0 ≤ cellS σ c (σ 4)) : CM l X yX10_finishes cX10_finishes 1 none (rmG 7 2 40 175) [.ref h] w none (fun w' => (ownN X w' N h (up σ 4 (σ 4 + 1))) ∧ ∀ (q : Nat) (e : va_E), w q = some e → N q → w' q = some e) := by
  refine CM.of (lv := [(0, .ref h)]) (by decide) (Nat.le_of_ble_eq_true rfl) rfl (fun p e s m below meth c ls F hr hlk hin hW hS hl => ?_)
  have hZ0 := hW.2.2
  have hB9 := hW.1.2
  clear hin
  have hO0 := hO
  obtain ⟨st, lc, ec, kc, lr, er, kr, cd, rwa, hPw0, hern⟩ := hO.1.P
  have hNE := hPw0.ne
  have hQ5 := hPw0.q5
  have hPw := hPw0
  obtain ⟨h1w, ⟨fs, h2w, h2f⟩, hLcw, hkc, hcaw, hLrw, hkr, hclw, hem, ⟨hWF, hw0, hw1⟩, hrs, hlne, hene⟩ := hPw
  have hWF0 := hWF.1
  obtain ⟨wf0, wf1, wf2, wf3, wf4, wf5⟩ := hWF0
  have hnc := nr_cases (show nrS σ = _ from rfl) wf4.2
  have hnr0 : σ 4 ≤ nrS σ ∧ nrS σ ≤ σ 4 + 1 ∧ nrS σ ≤ σ 1 := by omega
  clear hnc
  have hkrb : 10 ≤ kr ∧ kr ≤ 15 := by omega
  clear hkr hkc hlne hern
  have h1n := (wr_some.mp h1w).1
  have h1 := (wr_some.mp h1w).2
  have h2n := (wr_some.mp h2w).1
  have h2 := (wr_some.mp h2w).2
  have hLc := hLcw.ex (wr_sub w N)
  have hLr := hLrw.ex (wr_sub w N)
  have hNl := hLcw.nN hO.2.2
  have hNr := hLrw.nN hO.2.2
  obtain ⟨⟨mc, h3⟩, gc, h3b, h3c, h3d⟩ := hLc
  obtain ⟨⟨mr, h5⟩, gr, h5b, h5c, h5d⟩ := hLr
  have h5e : w er = some (aR X 5 kr gr) := h5b.elim (fun z => by omega) (fun z => z.1)
  clear h3b h5b
  have hLr := hLrw.ex (wr_sub w N)
  have hLc := hLcw.ex (wr_sub w N)
  have hnr1 : nrS σ = σ 4 + 1 := by unfold nrS; rw [if_pos hop]
  refine lv_aload_n F.1 F.2.1 dX10_finishes_0 rfl (lv_at hl 0 rfl) ?_
  refine gf_RX10_24 F hW h1 rfl dX10_finishes_1 ?_
  refine cl_RX10_37 (As := []) (rest := []) F hl (c_Jx4a65c_size_8abf5 l X w lr mr er (nrS σ) h5) hW hS h5 rfl rfl ⟨Nat.le_of_ble_eq_true rfl, Nat.le_of_ble_eq_true rfl⟩ (Nat.le_of_ble_eq_true rfl) ⟨(by show 0 + 0 ≤ 2; omega), (by show 0 + 0 ≤ 40; omega)⟩ dX10_finishes_4 (fun w1 H locs hp1 hW hS => ?_)
  rw [hp1] at hW; clear hp1; clear w1
  refine lv_aload_n F.1 F.2.1 dX10_finishes_9 rfl (lv_at hl 0 rfl) ?_
  refine gf_RX10_34 F hW h1 rfl dX10_finishes_10 ?_
  refine h_icne (tgt := 24) F dX10_finishes_13 (by decide) (by omega) (fun c2 => ?_) (fun c2 => ?_)
  · skip
    refine lv_aload_n F.1 F.2.1 dX10_finishes_24 rfl (lv_at hl 0 rfl) ?_
    refine gf_RX10_24 F hW h1 rfl dX10_finishes_25 ?_
    refine lv_aload_n F.1 F.2.1 dX10_finishes_28 rfl (lv_at hl 0 rfl) ?_
    have hq4 : σ 4 + 1 < σ 1 := by omega
    refine cr_RX10_43 (As := []) (rest := [.ref lr]) F hl (c_X10_empty l X w h σ (.int (iI (σ 1))) (.int (iI (σ 2))) (.int (iI (σ 3))) (.ref st) (.ref lc) (.ref lr) (.int (iI (bz (decide (σ 4 = σ 1))))) h1 (by omega)) hW hS h1 rfl rfl ⟨Nat.le_of_ble_eq_true rfl, Nat.le_of_ble_eq_true rfl⟩ (Nat.le_of_ble_eq_true rfl) ⟨(by show 0 + 0 + 1 ≤ 2; omega), (by show 0 + 0 + 19 ≤ 40; omega)⟩ dX10_finishes_29 (fun v5 w3 H locs hp4 hW hS => ?_)
    obtain ⟨a9, f9, rfl, hfr6, ha7, hf9, hx8⟩ := hp4
    have hb9 := hfr6 _ _ h1
    have hb10 := hfr6 _ _ h5
    have hb11 := hfr6 _ _ h5e
    have h1 := hx8 _ _ h1 
    have h5 := hx8 _ _ h5 
    have h5e := hx8 _ _ h5e 
    have hE9 := (show ext w w3 from fun q e h9 => by have z9_1 := hfr6 q e h9; have h9 := hx8 q e h9 ; exact h9)
    have hfa := hfr6
    refine cl_RX10_47 (As := [.ref a9]) (rest := []) F hl (c_lad l X w3 lr a9 er kr (nrS σ) rwa (hLr.ex hE9) (by omega) (Or.inr hPw0.2.2.2.2.2.2.1) (fun r r0 r1 => (hclw.el r r0 r1).ex (fun q e h9 => hE9 q e (wr_some.mp h9).2)) (Or.inr ⟨_, _, ha7⟩)) hW hS h5 rfl rfl ⟨Nat.le_of_ble_eq_true rfl, Nat.le_of_ble_eq_true rfl⟩ (Nat.le_of_ble_eq_true rfl) ⟨(by show 0 + 0 + 1 + 1 ≤ 2; omega), (by show 0 + 0 + 19 + 21 ≤ 40; omega)⟩ dX10_finishes_32 (fun w12 H locs hp13 hW hS => ?_)
    obtain ⟨er2, kr2, hL2, hk2, hk3, he2, ha2, hx14⟩ := hp13
    have h1 := hx14 _ _ h1 (by first | omega | (obtain ⟨z1, z2, z3, z4, z5, z6, z7, z8, z9, z10⟩ := hNE; first | assumption | (apply Ne.symm; assumption)) | (obtain ⟨y1, y2, y3, y4, y5⟩ := hq5; first | assumption | (apply Ne.symm; assumption)) | (obtain ⟨y1, y2, y3, y4, y5⟩ := hQac; first | assumption | (apply Ne.symm; assumption))) (by first | omega | (obtain ⟨z1, z2, z3, z4, z5, z6, z7, z8, z9, z10⟩ := hNE; first | assumption | (apply Ne.symm; assumption)) | (obtain ⟨y1, y2, y3, y4, y5⟩ := hq5; first | assumption | (apply Ne.symm; assumption)) | (obtain ⟨y1, y2, y3, y4, y5⟩ := hQac; first | assumption | (apply Ne.symm; assumption)))
    have ha7 := hx14 _ _ ha7 (by first | omega | (obtain ⟨z1, z2, z3, z4, z5, z6, z7, z8, z9, z10⟩ := hNE; first | assumption | (apply Ne.symm; assumption)) | (obtain ⟨y1, y2, y3, y4, y5⟩ := hq5; first | assumption | (apply Ne.symm; assumption)) | (obtain ⟨y1, y2, y3, y4, y5⟩ := hQac; first | assumption | (apply Ne.symm; assumption))) (by first | omega | (obtain ⟨z1, z2, z3, z4, z5, z6, z7, z8, z9, z10⟩ := hNE; first | assumption | (apply Ne.symm; assumption)) | (obtain ⟨y1, y2, y3, y4, y5⟩ := hq5; first | assumption | (apply Ne.symm; assumption)) | (obtain ⟨y1, y2, y3, y4, y5⟩ := hQac; first | assumption | (apply Ne.symm; assumption)))
    have hg9 : ∀ (q : Nat) (e : va_E), wr w N q = some e → ¬ (q = lr ∨ q = er) → wr w12 N q = some e := fun q e h9 hP9 => by have hN9 := (wr_some.mp h9).1; have h9 := (wr_some.mp h9).2; have z9_1 := hfr6 q e h9; have h9 := hx8 q e h9 ; have h9 := hx14 q e h9 (by first | omega | (obtain ⟨z1, z2, z3, z4, z5, z6, z7, z8, z9, z10⟩ := hNE; first | assumption | (apply Ne.symm; assumption)) | (obtain ⟨y1, y2, y3, y4, y5⟩ := hq5; first | assumption | (apply Ne.symm; assumption)) | (obtain ⟨y1, y2, y3, y4, y5⟩ := hQac; first | assumption | (apply Ne.symm; assumption))) (by first | omega | (obtain ⟨z1, z2, z3, z4, z5, z6, z7, z8, z9, z10⟩ := hNE; first | assumption | (apply Ne.symm; assumption)) | (obtain ⟨y1, y2, y3, y4, y5⟩ := hq5; first | assumption | (apply Ne.symm; assumption)) | (obtain ⟨y1, y2, y3, y4, y5⟩ := hQac; first | assumption | (apply Ne.symm; assumption))); exact wr_some.mpr ⟨hN9, h9⟩
    have hN2 : ¬ N er2 := he2.elim (fun e9 => by rw [e9]; exact hNr.2) (fun z9 => z9.nN hE9 hO0.2.1)
    have hee : 1 ≤ kc → ec ≠ er2 := fun z8 => he2.elim (fun e9 => by rw [e9]; exact hene z8) (fun z9 => z9.ne hE9 (hLc.kn z8))
    have hfin : ownN X w12 N h (up σ 4 (σ 4 + 1)) := (hO0.mk ((hPw0.fin2 hq4 hful hg9 (hL2.wr hNr.1 hN2) hk2 hee (wr_some.mpr ⟨hfa.nN (ext.rf w) hO0.2.1, ha7⟩) hf9 (fun q e h9 => (hfa.dn (ext.rf w)).nk q e (wr_some.mp h9).2)).A) (fun q e h9 h09 => by have hq5 := hQ5 q h09; have h9 := hE9 q e h9; have h9 := hx14 q e h9 (by first | omega | (obtain ⟨z1, z2, z3, z4, z5, z6, z7, z8, z9, z10⟩ := hNE; first | assumption | (apply Ne.symm; assumption)) | (obtain ⟨y1, y2, y3, y4, y5⟩ := hq5; first | assumption | (apply Ne.symm; assumption)) | (obtain ⟨y1, y2, y3, y4, y5⟩ := hQac; first | assumption | (apply Ne.symm; assumption))) (by first | omega | (obtain ⟨z1, z2, z3, z4, z5, z6, z7, z8, z9, z10⟩ := hNE; first | assumption | (apply Ne.symm; assumption)) | (obtain ⟨y1, y2, y3, y4, y5⟩ := hq5; first | assumption | (apply Ne.symm; assumption)) | (obtain ⟨y1, y2, y3, y4, y5⟩ := hQac; first | assumption | (apply Ne.symm; assumption))); exact h9)).1
    skip
    refine lv_pop F.1 F.2.1 dX10_finishes_37 rfl ?_
    refine W.wd (mc := 2) (ms := 40) (by omega) (by omega) ?_
    have hX9 : ∀ (q : Nat) (e : va_E), w q = some e → N q → w12 q = some e := fun q e h9 h09 => by
      have hq5 := hQ5 q h09
      have z9_15 := hfr6 q e h9
      have h9 := hx8 q e h9 
      have h9 := hx14 q e h9 (by first | omega | (obtain ⟨z1, z2, z3, z4, z5, z6, z7, z8, z9, z10⟩ := hNE; first | assumption | (apply Ne.symm; assumption)) | (obtain ⟨y1, y2, y3, y4, y5⟩ := hq5; first | assumption | (apply Ne.symm; assumption)) | (obtain ⟨y1, y2, y3, y4, y5⟩ := hQac; first | assumption | (apply Ne.symm; assumption))) (by first | omega | (obtain ⟨z1, z2, z3, z4, z5, z6, z7, z8, z9, z10⟩ := hNE; first | assumption | (apply Ne.symm; assumption)) | (obtain ⟨y1, y2, y3, y4, y5⟩ := hq5; first | assumption | (apply Ne.symm; assumption)) | (obtain ⟨y1, y2, y3, y4, y5⟩ := hQac; first | assumption | (apply Ne.symm; assumption)))
      exact h9
    exact h_vret F hr hlk hW hS ⟨(hfin), hX9⟩ dX10_finishes_38
  · have hq4 : σ 4 + 1 = σ 1 := by omega
    refine lv_aload_n F.1 F.2.1 dX10_finishes_16 rfl (lv_at hl 0 rfl) ?_
    refine h_iconst F dX10_finishes_17 ?_
    refine h_top (show (1 : Int) = bz true from rfl) ?_
    refine pf_RX10_30 F hW hS hZ0 hB9 h1 (Nat.le_of_ble_eq_true rfl) dX10_finishes_18 (fun w16 H locs ho18 hn17 hW hS => ?_)
    have ho18 : w16 h = some (.inr (10, [.int (iI (σ 0)), .int (iI (σ 1)), .int (iI (σ 2)), .int (iI (σ 3)), .ref st, .ref lc, .ref lr, .int (iI (bz true))])) := ho18
    have h5 := (hn17 _ (by first | omega | (obtain ⟨z1, z2, z3, z4, z5, z6, z7, z8, z9, z10⟩ := hNE; first | assumption | (apply Ne.symm; assumption)) | (obtain ⟨y1, y2, y3, y4, y5⟩ := hq5; first | assumption | (apply Ne.symm; assumption)) | (obtain ⟨y1, y2, y3, y4, y5⟩ := hQac; first | assumption | (apply Ne.symm; assumption)))).trans h5
    have h5e := (hn17 _ (by first | omega | (obtain ⟨z1, z2, z3, z4, z5, z6, z7, z8, z9, z10⟩ := hNE; first | assumption | (apply Ne.symm; assumption)) | (obtain ⟨y1, y2, y3, y4, y5⟩ := hq5; first | assumption | (apply Ne.symm; assumption)) | (obtain ⟨y1, y2, y3, y4, y5⟩ := hQac; first | assumption | (apply Ne.symm; assumption)))).trans h5e
    have hg9 : ∀ (q : Nat) (e : va_E), wr w N q = some e → ¬ (q = h) → wr w16 N q = some e := fun q e h9 hP9 => by have hN9 := (wr_some.mp h9).1; have h9 := (wr_some.mp h9).2; have h9 := (hn17 q (by first | omega | (obtain ⟨z1, z2, z3, z4, z5, z6, z7, z8, z9, z10⟩ := hNE; first | assumption | (apply Ne.symm; assumption)) | (obtain ⟨y1, y2, y3, y4, y5⟩ := hq5; first | assumption | (apply Ne.symm; assumption)) | (obtain ⟨y1, y2, y3, y4, y5⟩ := hQac; first | assumption | (apply Ne.symm; assumption)))).trans h9; exact wr_some.mpr ⟨hN9, h9⟩
    have hfin : ownN X w16 N h (up σ 4 (σ 4 + 1)) := (hO0.mk ((hPw0.fin1 hq4 hful hg9 (wr_some.mpr ⟨h1n, ho18⟩)).A) (fun q e h9 h09 => by have hq5 := hQ5 q h09; have h9 := (hn17 q (by first | omega | (obtain ⟨z1, z2, z3, z4, z5, z6, z7, z8, z9, z10⟩ := hNE; first | assumption | (apply Ne.symm; assumption)) | (obtain ⟨y1, y2, y3, y4, y5⟩ := hq5; first | assumption | (apply Ne.symm; assumption)) | (obtain ⟨y1, y2, y3, y4, y5⟩ := hQac; first | assumption | (apply Ne.symm; assumption)))).trans h9; exact h9)).1
    skip
    refine h_goto (tgt := 38) F dX10_finishes_21 (by decide) ?_
    refine W.wd (mc := 2) (ms := 40) (by omega) (by omega) ?_
    have hX9 : ∀ (q : Nat) (e : va_E), w q = some e → N q → w16 q = some e := fun q e h9 h09 => by
      have hq5 := hQ5 q h09
      have h9 := (hn17 q (by first | omega | (obtain ⟨z1, z2, z3, z4, z5, z6, z7, z8, z9, z10⟩ := hNE; first | assumption | (apply Ne.symm; assumption)) | (obtain ⟨y1, y2, y3, y4, y5⟩ := hq5; first | assumption | (apply Ne.symm; assumption)) | (obtain ⟨y1, y2, y3, y4, y5⟩ := hQac; first | assumption | (apply Ne.symm; assumption)))).trans h9
      exact h9
    exact h_vret F hr hlk hW hS ⟨(hfin), hX9⟩ dX10_finishes_38
