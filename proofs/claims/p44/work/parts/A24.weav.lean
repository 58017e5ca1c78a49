set_option maxHeartbeats 4000000 in
set_option maxRecDepth 100000 in
theorem c_L_weaves (l : Launch) (X : Cx) (w : Wo) (h ac : Nat) (N : Nat → Prop) (σ af : Int → Int) (b9 : Bool) (hO : ownN X w N h σ) (hac : w ac = some (aZ X 9 af)) (hNac : N ac) (hop : σ 4 < σ 1) (haf : 0 ≤ af 8 ∧ af 8 ≤ 1000000) (heno : ∀ co, 0 ≤ co → co < 7 → cnt (wanB σ b9 (σ 4) co) 0 (σ 0) ≤ σ (6 + co)) : CM l X yL_weaves cL_weaves 6 (some (.int)) (rmG 8 50 220 195) [.ref h, .int (iI (bz b9)), .ref ac] w (some (.int (iI (misRow (weaveN σ b9 1) (σ 4))))) (fun w' => w' ac = some (aZ X 9 (up af 8 (af 8 + (σ 0 + 7 * jcS (weaveN σ b9 1) (σ 4)) / 4))) ∧ (ownN X w' N h (weaveN σ b9 1)) ∧ ∀ (q : Nat) (e : va_E), w q = some e → N q → q ≠ ac → w' q = some e) := by
  refine CM.of (lv := [(0, .ref h), (1, .int (iI (bz b9))), (2, .ref ac)]) (by decide) (Nat.le_of_ble_eq_true rfl) rfl (fun p e s m below meth c ls F hr hlk hin hW hS hl => ?_)
  have hZ0 := hW.2.2
  have hB9 := hW.1.2
  clear hin
  have hO0 := hO
  obtain ⟨st, lc, ec, kc, lr, er, kr, cd, rwa, hPw0, hern⟩ := hO.1.P
  have hNE := hPw0.ne
  have hQ5 := hPw0.q5
  have hPw := hPw0
  obtain ⟨h1w, ⟨fs, h2w, h2f⟩, hLcw, hkc, hcaw, hLrw, hkr, hclw, hem, ⟨hWF, hw0, hw1⟩, hrs, hlne, hene⟩ := hPw
  have hWF0 := hWF.1
  obtain ⟨wf0, wf1, wf2, wf3, wf4, wf5⟩ := hWF0
  have hnc := nr_cases (show nrS σ = _ from rfl) wf4.2
  have hnr0 : σ 4 ≤ nrS σ ∧ nrS σ ≤ σ 4 + 1 ∧ nrS σ ≤ σ 1 := by omega
  clear hnc
  have hkrb : 10 ≤ kr ∧ kr ≤ 15 := by omega
  clear hkr hkc hlne hern
  have h1n := (wr_some.mp h1w).1
  have h1 := (wr_some.mp h1w).2
  have h2n := (wr_some.mp h2w).1
  have h2 := (wr_some.mp h2w).2
  have hLc := hLcw.ex (wr_sub w N)
  have hLr := hLrw.ex (wr_sub w N)
  have hNl := hLcw.nN hO.2.2
  have hNr := hLrw.nN hO.2.2
  obtain ⟨⟨mc, h3⟩, gc, h3b, h3c, h3d⟩ := hLc
  obtain ⟨⟨mr, h5⟩, gr, h5b, h5c, h5d⟩ := hLr
  have h5e : w er = some (aR X 5 kr gr) := h5b.elim (fun z => by omega) (fun z => z.1)
  clear h3b h5b
  have hLr := hLrw.ex (wr_sub w N)
  have hLc := hLcw.ex (wr_sub w N)
  have hnr1 : nrS σ = σ 4 + 1 := by unfold nrS; rw [if_pos hop]
  have hXY := hW.zy
  have hst0 := hWF.2.1
  have hQac := hQ5 ac hNac
  refine lv_aload_n F.1 F.2.1 dL_weaves_0 rfl (lv_at hl 0 rfl) ?_
  refine cl_RL_186 (As := []) (rest := []) F hl (c_X10_rows l X w h σ hO0.A) hW hS h1 rfl rfl ⟨Nat.le_of_ble_eq_true rfl, Nat.le_of_ble_eq_true rfl⟩ (Nat.le_of_ble_eq_true rfl) ⟨(by show 0 + 0 ≤ 50; omega), (by show 0 + 0 ≤ 220; omega)⟩ dL_weaves_1 (fun w1 H locs hp1 hW hS => ?_)
  rw [hp1] at hW; clear hp1; clear w1
  refine lv_istore_n (lv' := [(3, .int (iI (σ 4))), (0, .ref h), (1, .int (iI (bz b9))), (2, .ref ac)]) F.1 F.2.1 dL_weaves_4 rfl hl (by decide) rfl (fun ls hl => ?_)
  refine lv_aload_n F.1 F.2.1 dL_weaves_5 rfl (lv_at hl 1 rfl) ?_
  refine gf_RL_60 F hW h1 rfl dL_weaves_6 ?_
  refine q_newP (N := ((σ 0).toNat)) (k := 0) (atype := .int) (x := .inl (fun j : Nat => iI ((fun _ : Int => 0) (j : Int)))) F hW hS haCI rfl (hxI _) (by omega) (by omega) ⟨(by show 0 + 0 + 1 ≤ 50; omega), (by show 0 + 0 + (σ 0).toNat ≤ 220; omega)⟩ dL_weaves_9 (fun its w2 H hfr5 hcx6 ha4 hn3 hW hS => ?_)
  have ha4 : w2 its = some (aZ X ((σ 0).toNat) (fun _ => 0)) := ha4
  have hb7 := hfr5 _ _ h1
  have hb8 := hfr5 _ _ h5
  have hb9 := hfr5 _ _ h5e
  have hb10 := hfr5 _ _ h2
  have hb11 := hfr5 _ _ hac
  have h1 := (hn3 _ (by first | omega | (obtain ⟨z1, z2, z3, z4, z5, z6, z7, z8, z9, z10⟩ := hNE; first | assumption | (apply Ne.symm; assumption)) | (obtain ⟨y1, y2, y3, y4, y5⟩ := hq5; first | assumption | (apply Ne.symm; assumption)) | (obtain ⟨y1, y2, y3, y4, y5⟩ := hQac; first | assumption | (apply Ne.symm; assumption)))).trans h1
  have h5 := (hn3 _ (by first | omega | (obtain ⟨z1, z2, z3, z4, z5, z6, z7, z8, z9, z10⟩ := hNE; first | assumption | (apply Ne.symm; assumption)) | (obtain ⟨y1, y2, y3, y4, y5⟩ := hq5; first | assumption | (apply Ne.symm; assumption)) | (obtain ⟨y1, y2, y3, y4, y5⟩ := hQac; first | assumption | (apply Ne.symm; assumption)))).trans h5
  have h5e := (hn3 _ (by first | omega | (obtain ⟨z1, z2, z3, z4, z5, z6, z7, z8, z9, z10⟩ := hNE; first | assumption | (apply Ne.symm; assumption)) | (obtain ⟨y1, y2, y3, y4, y5⟩ := hq5; first | assumption | (apply Ne.symm; assumption)) | (obtain ⟨y1, y2, y3, y4, y5⟩ := hQac; first | assumption | (apply Ne.symm; assumption)))).trans h5e
  have h2 := (hn3 _ (by first | omega | (obtain ⟨z1, z2, z3, z4, z5, z6, z7, z8, z9, z10⟩ := hNE; first | assumption | (apply Ne.symm; assumption)) | (obtain ⟨y1, y2, y3, y4, y5⟩ := hq5; first | assumption | (apply Ne.symm; assumption)) | (obtain ⟨y1, y2, y3, y4, y5⟩ := hQac; first | assumption | (apply Ne.symm; assumption)))).trans h2
  have hac := (hn3 _ (by first | omega | (obtain ⟨z1, z2, z3, z4, z5, z6, z7, z8, z9, z10⟩ := hNE; first | assumption | (apply Ne.symm; assumption)) | (obtain ⟨y1, y2, y3, y4, y5⟩ := hq5; first | assumption | (apply Ne.symm; assumption)) | (obtain ⟨y1, y2, y3, y4, y5⟩ := hQac; first | assumption | (apply Ne.symm; assumption)))).trans hac
  have hitf := hfr5
  refine lv_astore (lv' := [(4, .ref its), (3, .int (iI (σ 4))), (0, .ref h), (1, .int (iI (bz b9))), (2, .ref ac)]) F.1 F.2.1 dL_weaves_11 hl (by decide) rfl (fun ls hl => ?_)
  refine h_iconst F dL_weaves_13 ?_
  refine lv_istore (lv' := [(5, .int (iI 0)), (4, .ref its), (3, .int (iI (σ 4))), (0, .ref h), (1, .int (iI (bz b9))), (2, .ref ac)]) F.1 F.2.1 dL_weaves_14 hl (by decide) rfl (fun ls hl => ?_)
  have loop16 : ∀ (n9 : Nat) (k : Int) (kc16 ks16 : Nat) (fi : Int → Int) (fk : Int → Int), (hrg : 0 ≤ k ∧ k ≤ σ 0) → (hms : σ 0 - k < (n9 : Int)) → (w6 : Wo) → (hA16_0 : w6 its = some (aZ X ((σ 0).toNat) fi)) → (hA16_1 : w6 st = some (aZ X 7 fk)) → (hF16 : ∀ q : Nat, q ≠ its → q ≠ st → w6 q = w2 q) → (hkc16 : ((kc16 : Nat) : Int) ≤ ((0 + 0 + 1 : Nat) : Int) + 1 * k) → (hks16 : ((ks16 : Nat) : Int) ≤ ((0 + 0 + (σ 0).toNat : Nat) : Int) + 4 * k) → (hfi : ∀ c, 0 ≤ c → c < k → fi c = dueS σ b9 c (σ 4)) → (hfk : ∀ co, 0 ≤ co → co < 7 → fk co = σ (6 + co) - cnt (wanB σ b9 (σ 4) co) 0 k) → (H : Heap) → (locs : List Loc) → (ls : Array Slot) → Wd X w6 s H → va_S (cxA X) s.heap H locs → lv_has ls 6 [(5, .int (iI k)), (4, .ref its), (3, .int (iI (σ 4))), (0, .ref h), (1, .int (iI (bz b9))), (2, .ref ac)] → W p l e (rmG 8 50 220 195) s m (List.toArray [.ref h, .int (iI (bz b9)), .ref ac]) below meth c H locs kc16 ks16 (MX X below (List.toArray [.ref h, .int (iI (bz b9)), .ref ac]) s 50 220 (some (.int (iI (misRow (weaveN σ b9 1) (σ 4))))) (fun w' => w' ac = some (aZ X 9 (up af 8 (af 8 + (σ 0 + 7 * jcS (weaveN σ b9 1) (σ 4)) / 4))) ∧ (ownN X w' N h (weaveN σ b9 1)) ∧ ∀ (q : Nat) (e : va_E), w q = some e → N q → q ≠ ac → w' q = some e)) (F0 m 16 ls []) := by
    intro n9
    induction n9 with
    | zero => intro k kc16 ks16  fi  fk  hrg hms; exfalso; omega
    | succ n9 ih16 =>
      intro k kc16 ks16  fi  fk  hrg hms w6 hA16_0 hA16_1 hF16 hkc16 hks16 hfi hfk H locs ls hW hS hl
      have h1 := (hF16 _ (by first | omega | (obtain ⟨z1, z2, z3, z4, z5, z6, z7, z8, z9, z10⟩ := hNE; first | assumption | (apply Ne.symm; assumption)) | (obtain ⟨y1, y2, y3, y4, y5⟩ := hq5; first | assumption | (apply Ne.symm; assumption)) | (obtain ⟨y1, y2, y3, y4, y5⟩ := hQac; first | assumption | (apply Ne.symm; assumption))) (by first | omega | (obtain ⟨z1, z2, z3, z4, z5, z6, z7, z8, z9, z10⟩ := hNE; first | assumption | (apply Ne.symm; assumption)) | (obtain ⟨y1, y2, y3, y4, y5⟩ := hq5; first | assumption | (apply Ne.symm; assumption)) | (obtain ⟨y1, y2, y3, y4, y5⟩ := hQac; first | assumption | (apply Ne.symm; assumption)))).trans h1
      have h5 := (hF16 _ (by first | omega | (obtain ⟨z1, z2, z3, z4, z5, z6, z7, z8, z9, z10⟩ := hNE; first | assumption | (apply Ne.symm; assumption)) | (obtain ⟨y1, y2, y3, y4, y5⟩ := hq5; first | assumption | (apply Ne.symm; assumption)) | (obtain ⟨y1, y2, y3, y4, y5⟩ := hQac; first | assumption | (apply Ne.symm; assumption))) (by first | omega | (obtain ⟨z1, z2, z3, z4, z5, z6, z7, z8, z9, z10⟩ := hNE; first | assumption | (apply Ne.symm; assumption)) | (obtain ⟨y1, y2, y3, y4, y5⟩ := hq5; first | assumption | (apply Ne.symm; assumption)) | (obtain ⟨y1, y2, y3, y4, y5⟩ := hQac; first | assumption | (apply Ne.symm; assumption)))).trans h5
      have h5e := (hF16 _ (by first | omega | (obtain ⟨z1, z2, z3, z4, z5, z6, z7, z8, z9, z10⟩ := hNE; first | assumption | (apply Ne.symm; assumption)) | (obtain ⟨y1, y2, y3, y4, y5⟩ := hq5; first | assumption | (apply Ne.symm; assumption)) | (obtain ⟨y1, y2, y3, y4, y5⟩ := hQac; first | assumption | (apply Ne.symm; assumption))) (by first | omega | (obtain ⟨z1, z2, z3, z4, z5, z6, z7, z8, z9, z10⟩ := hNE; first | assumption | (apply Ne.symm; assumption)) | (obtain ⟨y1, y2, y3, y4, y5⟩ := hq5; first | assumption | (apply Ne.symm; assumption)) | (obtain ⟨y1, y2, y3, y4, y5⟩ := hQac; first | assumption | (apply Ne.symm; assumption)))).trans h5e
      have hac := (hF16 _ (by first | omega | (obtain ⟨z1, z2, z3, z4, z5, z6, z7, z8, z9, z10⟩ := hNE; first | assumption | (apply Ne.symm; assumption)) | (obtain ⟨y1, y2, y3, y4, y5⟩ := hq5; first | assumption | (apply Ne.symm; assumption)) | (obtain ⟨y1, y2, y3, y4, y5⟩ := hQac; first | assumption | (apply Ne.symm; assumption))) (by first | omega | (obtain ⟨z1, z2, z3, z4, z5, z6, z7, z8, z9, z10⟩ := hNE; first | assumption | (apply Ne.symm; assumption)) | (obtain ⟨y1, y2, y3, y4, y5⟩ := hq5; first | assumption | (apply Ne.symm; assumption)) | (obtain ⟨y1, y2, y3, y4, y5⟩ := hQac; first | assumption | (apply Ne.symm; assumption)))).trans hac
      have hwk : ∀ co, 0 ≤ co → co < 7 → 0 ≤ fk co ∧ fk co ≤ 9999 := fun co h1 h2 => by have z1 := hst0 co h1 h2; have z2 := heno co h1 h2; have z3 := cnt_r (wanB σ b9 (σ 4) co) (show (0 : Int) ≤ k by omega); have z4 := cnt_mono (wanB σ b9 (σ 4) co) (show 0 ≤ k ∧ k ≤ σ 0 by omega); rw [hfk co h1 h2]; omega
      obtain ⟨σk, hσk⟩ : ∃ σk, σk = stkS σ fk := ⟨_, rfl⟩
      have hk0 : σk 0 = σ 0 := by rw [hσk]; exact stk_lo (by decide)
      have hk1 : σk 1 = σ 1 := by rw [hσk]; exact stk_lo (by decide)
      have hk4 : σk 4 = σ 4 := by rw [hσk]; exact stk_lo (by decide)
      have hgk : ∀ (q : Nat) (e : va_E), wr w N q = some e → ¬ (q = st) → wr w6 (fun q => N q ∨ q = its) q = some e := fun q e h9 hP9 => by have hN9 := (wr_some.mp h9).1; have h9 := (wr_some.mp h9).2; have z9_1 := hfr5 q e h9; have h9 := (hn3 q (by first | omega | (obtain ⟨z1, z2, z3, z4, z5, z6, z7, z8, z9, z10⟩ := hNE; first | assumption | (apply Ne.symm; assumption)) | (obtain ⟨y1, y2, y3, y4, y5⟩ := hq5; first | assumption | (apply Ne.symm; assumption)) | (obtain ⟨y1, y2, y3, y4, y5⟩ := hQac; first | assumption | (apply Ne.symm; assumption)))).trans h9; have h9 := (hF16 q (by first | omega | (obtain ⟨z1, z2, z3, z4, z5, z6, z7, z8, z9, z10⟩ := hNE; first | assumption | (apply Ne.symm; assumption)) | (obtain ⟨y1, y2, y3, y4, y5⟩ := hq5; first | assumption | (apply Ne.symm; assumption)) | (obtain ⟨y1, y2, y3, y4, y5⟩ := hQac; first | assumption | (apply Ne.symm; assumption))) (by first | omega | (obtain ⟨z1, z2, z3, z4, z5, z6, z7, z8, z9, z10⟩ := hNE; first | assumption | (apply Ne.symm; assumption)) | (obtain ⟨y1, y2, y3, y4, y5⟩ := hq5; first | assumption | (apply Ne.symm; assumption)) | (obtain ⟨y1, y2, y3, y4, y5⟩ := hQac; first | assumption | (apply Ne.symm; assumption)))).trans h9; exact wr_some.mpr ⟨fun z9 => z9.elim hN9 (fun z8 => by omega), h9⟩
      skip
      have hPk : ownP X (wr w6 (fun q => N q ∨ q = its)) h σk st lc ec kc lr er kr cd rwa := by rw [hσk]; exact hPw0.stk hXY hgk (wr_some.mpr ⟨fun z9 => z9.elim h2n (fun z8 => by omega), hA16_1⟩) (fun p hp => stk_lo hp) (fun c h1 h2 => (stk_st ⟨h1, h2⟩).symm) (stk_WF hWF hwk)
      have hAk := hPk.A
      refine lv_iload F.1 F.2.1 dL_weaves_16 (lv_at hl 0 rfl) ?_
      refine lv_aload_n F.1 F.2.1 dL_weaves_18 rfl (lv_at hl 3 rfl) ?_
      refine gf_RL_60 F hW h1 rfl dL_weaves_19 ?_
      refine h_icge (tgt := 68) F dL_weaves_22 (by decide) (by omega) (fun c12 => ?_) (fun c12 => ?_)
      · have hke : k = σ 0 := by omega
        have hNit : ¬ N its := hitf.nN (ext.rf w) hO0.2.1
        have hits := hA16_0
        refine lv_aload_n F.1 F.2.1 dL_weaves_68 rfl (lv_at hl 3 rfl) ?_
        refine gf_RL_83 F hW h1 rfl dL_weaves_69 ?_
        refine lv_iload_n F.1 F.2.1 dL_weaves_72 rfl (lv_at hl 2 rfl) ?_
        refine lv_aload F.1 F.2.1 dL_weaves_73 (lv_at hl 1 rfl) ?_
        refine cl_RL_315 (As := [.int (iI (σ 4)), .ref its]) (rest := []) F hl (c_lset l X w6 lr its er kr (nrS σ) rwa (σ 4) (⟨⟨mr, h5⟩, gr, Or.inr ⟨h5e, by omega⟩, h5c, h5d⟩) (by omega) (Or.inr ⟨_, _, hA16_0⟩)) hW hS h5 rfl rfl ⟨Nat.le_of_ble_eq_true rfl, Nat.le_of_ble_eq_true rfl⟩ (Nat.le_of_ble_eq_true rfl) ⟨(by show kc16 + 0 ≤ 50; omega), (by show ks16 + 0 ≤ 220; omega)⟩ dL_weaves_75 (fun w13 H locs hp14 hW hS => ?_)
        obtain ⟨hL2, hx15⟩ := hp14
        have h1 := hx15 _ _ h1 (by first | omega | (obtain ⟨z1, z2, z3, z4, z5, z6, z7, z8, z9, z10⟩ := hNE; first | assumption | (apply Ne.symm; assumption)) | (obtain ⟨y1, y2, y3, y4, y5⟩ := hq5; first | assumption | (apply Ne.symm; assumption)) | (obtain ⟨y1, y2, y3, y4, y5⟩ := hQac; first | assumption | (apply Ne.symm; assumption)))
        have h5 := hx15 _ _ h5 (by first | omega | (obtain ⟨z1, z2, z3, z4, z5, z6, z7, z8, z9, z10⟩ := hNE; first | assumption | (apply Ne.symm; assumption)) | (obtain ⟨y1, y2, y3, y4, y5⟩ := hq5; first | assumption | (apply Ne.symm; assumption)) | (obtain ⟨y1, y2, y3, y4, y5⟩ := hQac; first | assumption | (apply Ne.symm; assumption)))
        have hA16_1 := hx15 _ _ hA16_1 (by first | omega | (obtain ⟨z1, z2, z3, z4, z5, z6, z7, z8, z9, z10⟩ := hNE; first | assumption | (apply Ne.symm; assumption)) | (obtain ⟨y1, y2, y3, y4, y5⟩ := hq5; first | assumption | (apply Ne.symm; assumption)) | (obtain ⟨y1, y2, y3, y4, y5⟩ := hQac; first | assumption | (apply Ne.symm; assumption)))
        have hac := hx15 _ _ hac (by first | omega | (obtain ⟨z1, z2, z3, z4, z5, z6, z7, z8, z9, z10⟩ := hNE; first | assumption | (apply Ne.symm; assumption)) | (obtain ⟨y1, y2, y3, y4, y5⟩ := hq5; first | assumption | (apply Ne.symm; assumption)) | (obtain ⟨y1, y2, y3, y4, y5⟩ := hQac; first | assumption | (apply Ne.symm; assumption)))
        have hA16_0 := hx15 _ _ hA16_0 (by first | omega | (obtain ⟨z1, z2, z3, z4, z5, z6, z7, z8, z9, z10⟩ := hNE; first | assumption | (apply Ne.symm; assumption)) | (obtain ⟨y1, y2, y3, y4, y5⟩ := hq5; first | assumption | (apply Ne.symm; assumption)) | (obtain ⟨y1, y2, y3, y4, y5⟩ := hQac; first | assumption | (apply Ne.symm; assumption)))
        obtain ⟨τ, hτ⟩ : ∃ τ, τ = fillN σ b9 (σ 4) (σ 0).toNat := ⟨_, rfl⟩
        have hnk : nrS σk = nrS σ := by unfold nrS; rw [hk4, hk1]
        have hPτ : ownP X (wr w13 N) h τ st lc ec kc lr er kr cd (fun k => if k = σ 4 then its else rwa k) := by rw [hτ]; exact hPk.row (by rw [hnk]; omega) (fun q e h9 hP9 => wr_some.mpr ⟨fun z9 => (wr_some.mp h9).1 (Or.inl z9), hx15 q e (wr_some.mp h9).2 (by omega)⟩) (by rw [hnk]; exact hL2.wr hNr.1 hNr.2) (by rw [hk0]; exact wr_some.mpr ⟨hNit, hA16_0⟩) ⟨fun r r0 r1 e9 => (hPk.2.2.2.2.2.2.2.1.1 r r0 r1).elim (fun f z9 => (wr_some.mp z9.1).1 (Or.inr e9)), fun e9 => by omega⟩ (fun p hp => by rw [hσk]; exact fil_ag hWF hop (by rw [← hke]; exact hfk) p hp) (fun c r c0 c1 r0 r1 hr => by rw [hσk]; exact fil_oth hWF hop c0 (by omega) r0 hr) (fun c c0 c1 => by rw [hfi c c0 (by omega)]; exact (fil_due hWF ⟨c0, by omega⟩ hop).symm) (fill_WF hWF ⟨by omega, hop⟩ heno (σ 0).toNat (by omega))
        have hAτ := hPτ.A
        have hτ0 : τ 0 = σ 0 := by rw [hτ]; exact fill_lo hWF (by omega) (by decide) (by decide) _
        have hτ1 : τ 1 = σ 1 := by rw [hτ]; exact fill_lo hWF (by omega) (by decide) (by decide) _
        have hτ4 : τ 4 = σ 4 := by rw [hτ]; exact fill_lo hWF (by omega) (by decide) (by decide) _
        have hW1 : (weaveN σ b9 1) = up τ 4 (τ 4 + 1) := by rw [hτ4, hτ]; rfl
        have hWτ : WF τ := by rw [hτ]; exact fill_WF hWF ⟨by omega, hop⟩ heno (σ 0).toNat (by omega)
        have hjr := jcS_r hWτ.1 (σ 4)
        refine lv_pop F.1 F.2.1 dL_weaves_80 rfl ?_
        refine lv_aload_n F.1 F.2.1 dL_weaves_81 rfl (lv_at hl 5 rfl) ?_
        refine h_bipush F dL_weaves_82 rfl ?_
        refine lv_dup2_11 F.1 F.2.1 dL_weaves_84 rfl rfl ?_
        refine h_iald F hW hac (by omega) (by omega) dL_weaves_85 ?_
        refine lv_aload_n F.1 F.2.1 dL_weaves_86 rfl (lv_at hl 3 rfl) ?_
        refine lv_iload_n F.1 F.2.1 dL_weaves_87 rfl (lv_at hl 2 rfl) ?_
        refine cl_RL_319 (As := [.ref h, .int (iI (σ 4))]) (rest := [.int (iI (af 8)), .int (iI 8), .ref ac]) F hl (c_L_minutes l X w13 h τ (σ 4) (hAτ.ex (wr_sub _ _)) (by omega)) hW hS rfl rfl ⟨Nat.le_of_ble_eq_true rfl, Nat.le_of_ble_eq_true rfl⟩ (Nat.le_of_ble_eq_true rfl) ⟨(by show kc16 + 0 + 0 ≤ 50; omega), (by show ks16 + 0 + 0 ≤ 220; omega)⟩ dL_weaves_88 (fun w1 H locs hp16 hW hS => ?_)
        rw [hp16] at hW; clear hp16; clear w1
        refine h_top (show ((τ 0 + 7 * jcS τ (σ 4)) / 4 : Int) = (σ 0 + 7 * jcS (weaveN σ b9 1) (σ 4)) / 4 from by rw [hW1, jc_up4 (by omega), hτ0]) ?_
        refine h_iadd (a := af 8) (b := (σ 0 + 7 * jcS (weaveN σ b9 1) (σ 4)) / 4) F dL_weaves_91 ?_
        refine h_iast F hW hS hac (by omega) (by omega) dL_weaves_92 (fun w17 H locs ho19 hn18 hW hS => ?_)
        have h1 := (hn18 _ (by first | omega | (obtain ⟨z1, z2, z3, z4, z5, z6, z7, z8, z9, z10⟩ := hNE; first | assumption | (apply Ne.symm; assumption)) | (obtain ⟨y1, y2, y3, y4, y5⟩ := hq5; first | assumption | (apply Ne.symm; assumption)) | (obtain ⟨y1, y2, y3, y4, y5⟩ := hQac; first | assumption | (apply Ne.symm; assumption)))).trans h1
        have h5 := (hn18 _ (by first | omega | (obtain ⟨z1, z2, z3, z4, z5, z6, z7, z8, z9, z10⟩ := hNE; first | assumption | (apply Ne.symm; assumption)) | (obtain ⟨y1, y2, y3, y4, y5⟩ := hq5; first | assumption | (apply Ne.symm; assumption)) | (obtain ⟨y1, y2, y3, y4, y5⟩ := hQac; first | assumption | (apply Ne.symm; assumption)))).trans h5
        have hA16_1 := (hn18 _ (by first | omega | (obtain ⟨z1, z2, z3, z4, z5, z6, z7, z8, z9, z10⟩ := hNE; first | assumption | (apply Ne.symm; assumption)) | (obtain ⟨y1, y2, y3, y4, y5⟩ := hq5; first | assumption | (apply Ne.symm; assumption)) | (obtain ⟨y1, y2, y3, y4, y5⟩ := hQac; first | assumption | (apply Ne.symm; assumption)))).trans hA16_1
        have hA16_0 := (hn18 _ (by first | omega | (obtain ⟨z1, z2, z3, z4, z5, z6, z7, z8, z9, z10⟩ := hNE; first | assumption | (apply Ne.symm; assumption)) | (obtain ⟨y1, y2, y3, y4, y5⟩ := hq5; first | assumption | (apply Ne.symm; assumption)) | (obtain ⟨y1, y2, y3, y4, y5⟩ := hQac; first | assumption | (apply Ne.symm; assumption)))).trans hA16_0
        have hAc : ownA X (wr w17 N) h τ := by rw [wr_eq (fun q hq => hn18 q (fun e9 => hq (e9 ▸ hNac)))]; exact hAτ
        have hmN : ∀ (q : Nat) (e : va_E), w q = some e → N q → q ≠ ac → w17 q = some e := fun q e h9 h09 h19 => by have hq5 := hQ5 q h09; have z9_1 := hfr5 q e h9; have h9 := (hn3 q (by first | omega | (obtain ⟨z1, z2, z3, z4, z5, z6, z7, z8, z9, z10⟩ := hNE; first | assumption | (apply Ne.symm; assumption)) | (obtain ⟨y1, y2, y3, y4, y5⟩ := hq5; first | assumption | (apply Ne.symm; assumption)) | (obtain ⟨y1, y2, y3, y4, y5⟩ := hQac; first | assumption | (apply Ne.symm; assumption)))).trans h9; have h9 := (hF16 q (by first | omega | (obtain ⟨z1, z2, z3, z4, z5, z6, z7, z8, z9, z10⟩ := hNE; first | assumption | (apply Ne.symm; assumption)) | (obtain ⟨y1, y2, y3, y4, y5⟩ := hq5; first | assumption | (apply Ne.symm; assumption)) | (obtain ⟨y1, y2, y3, y4, y5⟩ := hQac; first | assumption | (apply Ne.symm; assumption))) (by first | omega | (obtain ⟨z1, z2, z3, z4, z5, z6, z7, z8, z9, z10⟩ := hNE; first | assumption | (apply Ne.symm; assumption)) | (obtain ⟨y1, y2, y3, y4, y5⟩ := hq5; first | assumption | (apply Ne.symm; assumption)) | (obtain ⟨y1, y2, y3, y4, y5⟩ := hQac; first | assumption | (apply Ne.symm; assumption)))).trans h9; have h9 := hx15 q e h9 (by first | omega | (obtain ⟨z1, z2, z3, z4, z5, z6, z7, z8, z9, z10⟩ := hNE; first | assumption | (apply Ne.symm; assumption)) | (obtain ⟨y1, y2, y3, y4, y5⟩ := hq5; first | assumption | (apply Ne.symm; assumption)) | (obtain ⟨y1, y2, y3, y4, y5⟩ := hQac; first | assumption | (apply Ne.symm; assumption))); have h9 := (hn18 q (by first | omega | (obtain ⟨z1, z2, z3, z4, z5, z6, z7, z8, z9, z10⟩ := hNE; first | assumption | (apply Ne.symm; assumption)) | (obtain ⟨y1, y2, y3, y4, y5⟩ := hq5; first | assumption | (apply Ne.symm; assumption)) | (obtain ⟨y1, y2, y3, y4, y5⟩ := hQac; first | assumption | (apply Ne.symm; assumption)))).trans h9; exact h9
        have hON : ownN X w17 N h τ := hO0.of hAc hmN (by rw [ho19]; simp)
        refine lv_aload_n F.1 F.2.1 dL_weaves_93 rfl (lv_at hl 3 rfl) ?_
        refine cl_RL_322 (As := []) (rest := []) F hl (c_X10_finishes l X w17 h N τ hON (by omega) (fun c c0 c1 => by rw [hτ4, hτ, fil_due hWF ⟨c0, by omega⟩ hop]; exact (due_r hWF ⟨c0, by omega⟩ ⟨by omega, hop⟩).1)) hW hS h1 rfl rfl ⟨Nat.le_of_ble_eq_true rfl, Nat.le_of_ble_eq_true rfl⟩ (Nat.le_of_ble_eq_true rfl) ⟨(by show kc16 + 0 + 0 + 2 ≤ 50; omega), (by show ks16 + 0 + 0 + 40 ≤ 220; omega)⟩ dL_weaves_94 (fun w20 H locs hp21 hW hS => ?_)
        obtain ⟨hfin0, hx22⟩ := hp21
        have ho19 := hx22 _ _ ho19 (by assumption)
        have hfin : ownN X w20 N h (weaveN σ b9 1) := by rw [hW1]; exact hfin0
        obtain ⟨fh, hh9⟩ := hfin.rc
        have hw11 : (weaveN σ b9 1) 1 = σ 1 := by rw [hW1, up4 (by decide)]; exact hτ1
        skip
        refine lv_aload_n F.1 F.2.1 dL_weaves_97 rfl (lv_at hl 3 rfl) ?_
        refine lv_iload_n F.1 F.2.1 dL_weaves_98 rfl (lv_at hl 2 rfl) ?_
        refine cl_RL_212 (As := [.int (iI (σ 4))]) (rest := []) F hl (c_X10_wrongs l X w20 h (weaveN σ b9 1) (σ 4) hfin.A (by omega)) hW hS hh9 rfl rfl ⟨Nat.le_of_ble_eq_true rfl, Nat.le_of_ble_eq_true rfl⟩ (Nat.le_of_ble_eq_true rfl) ⟨(by show kc16 + 0 + 0 + 2 + 19 ≤ 50; omega), (by show ks16 + 0 + 0 + 40 + 76 ≤ 220; omega)⟩ dL_weaves_99 (fun w1 H locs hp23 hW hS => ?_)
        rw [hp23] at hW; clear hp23; clear w1
        refine W.wd (mc := 50) (ms := 220) (by omega) (by omega) ?_
        have hX9 : ∀ (q : Nat) (e : va_E), w q = some e → N q → q ≠ ac → w20 q = some e := fun q e h9 h09 h19 => by
          have hq5 := hQ5 q h09
          have z9_24 := hfr5 q e h9
          have h9 := (hn3 q (by first | omega | (obtain ⟨z1, z2, z3, z4, z5, z6, z7, z8, z9, z10⟩ := hNE; first | assumption | (apply Ne.symm; assumption)) | (obtain ⟨y1, y2, y3, y4, y5⟩ := hq5; first | assumption | (apply Ne.symm; assumption)) | (obtain ⟨y1, y2, y3, y4, y5⟩ := hQac; first | assumption | (apply Ne.symm; assumption)))).trans h9
          have h9 := (hF16 q (by first | omega | (obtain ⟨z1, z2, z3, z4, z5, z6, z7, z8, z9, z10⟩ := hNE; first | assumption | (apply Ne.symm; assumption)) | (obtain ⟨y1, y2, y3, y4, y5⟩ := hq5; first | assumption | (apply Ne.symm; assumption)) | (obtain ⟨y1, y2, y3, y4, y5⟩ := hQac; first | assumption | (apply Ne.symm; assumption))) (by first | omega | (obtain ⟨z1, z2, z3, z4, z5, z6, z7, z8, z9, z10⟩ := hNE; first | assumption | (apply Ne.symm; assumption)) | (obtain ⟨y1, y2, y3, y4, y5⟩ := hq5; first | assumption | (apply Ne.symm; assumption)) | (obtain ⟨y1, y2, y3, y4, y5⟩ := hQac; first | assumption | (apply Ne.symm; assumption)))).trans h9
          have h9 := hx15 q e h9 (by first | omega | (obtain ⟨z1, z2, z3, z4, z5, z6, z7, z8, z9, z10⟩ := hNE; first | assumption | (apply Ne.symm; assumption)) | (obtain ⟨y1, y2, y3, y4, y5⟩ := hq5; first | assumption | (apply Ne.symm; assumption)) | (obtain ⟨y1, y2, y3, y4, y5⟩ := hQac; first | assumption | (apply Ne.symm; assumption)))
          have h9 := (hn18 q (by first | omega | (obtain ⟨z1, z2, z3, z4, z5, z6, z7, z8, z9, z10⟩ := hNE; first | assumption | (apply Ne.symm; assumption)) | (obtain ⟨y1, y2, y3, y4, y5⟩ := hq5; first | assumption | (apply Ne.symm; assumption)) | (obtain ⟨y1, y2, y3, y4, y5⟩ := hQac; first | assumption | (apply Ne.symm; assumption)))).trans h9
          have h9 := hx22 q e h9 (by assumption)
          exact h9
        exact h_ireti F hr hlk hW hS ⟨(by (rw [ho19]) <;> (rfl)), hfin, hX9⟩ dL_weaves_102
      · refine lv_aload F.1 F.2.1 dL_weaves_25 (lv_at hl 1 rfl) ?_
        refine lv_iload F.1 F.2.1 dL_weaves_27 (lv_at hl 0 rfl) ?_
        refine lv_aload_n F.1 F.2.1 dL_weaves_29 rfl (lv_at hl 3 rfl) ?_
        refine lv_iload F.1 F.2.1 dL_weaves_30 (lv_at hl 0 rfl) ?_
        refine lv_iload_n F.1 F.2.1 dL_weaves_32 rfl (lv_at hl 2 rfl) ?_
        refine lv_iload_n F.1 F.2.1 dL_weaves_33 rfl (lv_at hl 4 rfl) ?_
        refine cl_RL_268 (As := [.int (iI k), .int (iI (σ 4)), .int (iI (bz b9))]) (rest := [.int (iI k), .ref its]) F hl (c_X10_due l X w6 h σk k (σ 4) b9 (hAk.ex (wr_sub _ _)) (by omega) (by omega)) hW hS h1 rfl rfl ⟨Nat.le_of_ble_eq_true rfl, Nat.le_of_ble_eq_true rfl⟩ (Nat.le_of_ble_eq_true rfl) ⟨(by show kc16 + 1 ≤ 50; omega), (by show ks16 + 4 ≤ 220; omega)⟩ dL_weaves_34 (fun w1 H locs hp25 hW hS => ?_)
        rw [hp25] at hW; clear hp25; clear w1
        refine h_top (show (dueS σk b9 k (σ 4) : Int) = dueS σ b9 k (σ 4) from by rw [hσk, stk_due hWF (by omega) (by omega)]) ?_
        refine h_iast F hW hS hA16_0 (by omega) (by omega) dL_weaves_37 (fun w26 H locs ho28 hn27 hW hS => ?_)
        have h1 := (hn27 _ (by first | omega | (obtain ⟨z1, z2, z3, z4, z5, z6, z7, z8, z9, z10⟩ := hNE; first | assumption | (apply Ne.symm; assumption)) | (obtain ⟨y1, y2, y3, y4, y5⟩ := hq5; first | assumption | (apply Ne.symm; assumption)) | (obtain ⟨y1, y2, y3, y4, y5⟩ := hQac; first | assumption | (apply Ne.symm; assumption)))).trans h1
        have h5 := (hn27 _ (by first | omega | (obtain ⟨z1, z2, z3, z4, z5, z6, z7, z8, z9, z10⟩ := hNE; first | assumption | (apply Ne.symm; assumption)) | (obtain ⟨y1, y2, y3, y4, y5⟩ := hq5; first | assumption | (apply Ne.symm; assumption)) | (obtain ⟨y1, y2, y3, y4, y5⟩ := hQac; first | assumption | (apply Ne.symm; assumption)))).trans h5
        have h5e := (hn27 _ (by first | omega | (obtain ⟨z1, z2, z3, z4, z5, z6, z7, z8, z9, z10⟩ := hNE; first | assumption | (apply Ne.symm; assumption)) | (obtain ⟨y1, y2, y3, y4, y5⟩ := hq5; first | assumption | (apply Ne.symm; assumption)) | (obtain ⟨y1, y2, y3, y4, y5⟩ := hQac; first | assumption | (apply Ne.symm; assumption)))).trans h5e
        have hA16_1 := (hn27 _ (by first | omega | (obtain ⟨z1, z2, z3, z4, z5, z6, z7, z8, z9, z10⟩ := hNE; first | assumption | (apply Ne.symm; assumption)) | (obtain ⟨y1, y2, y3, y4, y5⟩ := hq5; first | assumption | (apply Ne.symm; assumption)) | (obtain ⟨y1, y2, y3, y4, y5⟩ := hQac; first | assumption | (apply Ne.symm; assumption)))).trans hA16_1
        have hac := (hn27 _ (by first | omega | (obtain ⟨z1, z2, z3, z4, z5, z6, z7, z8, z9, z10⟩ := hNE; first | assumption | (apply Ne.symm; assumption)) | (obtain ⟨y1, y2, y3, y4, y5⟩ := hq5; first | assumption | (apply Ne.symm; assumption)) | (obtain ⟨y1, y2, y3, y4, y5⟩ := hQac; first | assumption | (apply Ne.symm; assumption)))).trans hac
        have hdr := due_r hWF (b := b9) (c := k) (r := σ 4) (by omega) (by omega)
        have hAk7 : ownA X (wr w26 (fun q => N q ∨ q = its)) h σk := by rw [wr_eq (fun q hq => hn27 q (fun e9 => hq (Or.inr e9)))]; exact hAk
        refine lv_aload_n F.1 F.2.1 dL_weaves_38 rfl (lv_at hl 3 rfl) ?_
        refine lv_iload F.1 F.2.1 dL_weaves_39 (lv_at hl 0 rfl) ?_
        refine lv_iload_n F.1 F.2.1 dL_weaves_41 rfl (lv_at hl 2 rfl) ?_
        refine cl_RL_175 (As := [.int (iI k), .int (iI (σ 4))]) (rest := []) F hl (c_X10_at l X w26 h σk k (σ 4) (hAk7.ex (wr_sub _ _)) (by omega) (by omega)) hW hS h1 rfl rfl ⟨Nat.le_of_ble_eq_true rfl, Nat.le_of_ble_eq_true rfl⟩ (Nat.le_of_ble_eq_true rfl) ⟨(by show kc16 + 1 + 0 ≤ 50; omega), (by show ks16 + 4 + 0 ≤ 220; omega)⟩ dL_weaves_42 (fun w1 H locs hp29 hW hS => ?_)
        rw [hp29] at hW; clear hp29; clear w1
        refine h_top (show (cellS σk k (σ 4) : Int) = cellS σ k (σ 4) from by rw [hσk, stk_ce (by omega) (by omega)]) ?_
        refine h_ifge (tgt := 62) F dL_weaves_45 (by decide) (by have := hWF.2.2.2.1 k (σ 4) (by omega) (by omega) (by omega) (by omega); omega) (fun c30 => ?_) (fun c30 => ?_)
        · have hst9 : ∀ co, 0 ≤ co → co < 7 → fk co = σ (6 + co) - cnt (wanB σ b9 (σ 4) co) 0 (k + 1) := fun co h1 h2 => by rw [cnt_f (by omega) (wan_no (by omega))]; exact hfk co h1 h2
          refine h_iinc (k := 0) (a := k) (lv' := [(5, .int (iI (k + 1))), (4, .ref its), (3, .int (iI (σ 4))), (0, .ref h), (1, .int (iI (bz b9))), (2, .ref ac)]) F dL_weaves_62 hl rfl (by decide) rfl (fun ls hl => ?_)
          refine h_goto (tgt := 16) F dL_weaves_65 (by decide) ?_
          have eq31 : ((k + 1) : Int) = k + 1 := by first | rfl | omega | simp
          exact ih16 (k + 1) (kc16 + 1 + 0) (ks16 + 4 + 0)  (up fi k (dueS σ b9 k (σ 4))) fk (by omega) (by omega) w26 ho28 hA16_1 (fun q h09 h19 => by rw [hn27 q (by omega), hF16 q (by omega) (by omega)]) (by omega) (by omega) (fun c h1 h2 => if hc : c = k then (by rw [hc, up_s]) else (by rw [up_n hc]; exact hfi c h1 (by omega))) hst9 _ _ ls hW hS (by rw [eq31]; exact lv_sub hl [0, 1, 2, 3, 4, 5] rfl)
        · have hcm : cellS σ k (σ 4) = -1 := by have := hWF.2.2.2.1 k (σ 4) (by omega) (by omega) (by omega) (by omega); omega
          have hwd := hwk (dueS σ b9 k (σ 4)) hdr.1 (by omega)
          have hst9 : ∀ co, 0 ≤ co → co < 7 → up fk (dueS σ b9 k (σ 4)) (fk (dueS σ b9 k (σ 4)) - 1) co = σ (6 + co) - cnt (wanB σ b9 (σ 4) co) 0 (k + 1) := fun co h1 h2 => if hj : co = dueS σ b9 k (σ 4) then (by rw [hj, up_s, cnt_t (by omega) (by rw [wan_due hcm, decide_eq_true rfl]), hfk _ (by omega) (by omega)]; omega) else (by rw [up_n hj, cnt_f (by omega) (by rw [wan_due hcm]; exact decide_eq_false (fun e9 => hj e9.symm))]; exact hfk co h1 h2)
          refine lv_aload_n F.1 F.2.1 dL_weaves_48 rfl (lv_at hl 3 rfl) ?_
          refine gf_RL_145 F hW h1 rfl dL_weaves_49 ?_
          refine lv_aload F.1 F.2.1 dL_weaves_52 (lv_at hl 1 rfl) ?_
          refine lv_iload F.1 F.2.1 dL_weaves_54 (lv_at hl 0 rfl) ?_
          refine h_iald F hW ho28 (by omega) (by omega) dL_weaves_56 ?_
          refine h_top (show ((up fi k (dueS σ b9 k (σ 4))) k : Int) = dueS σ b9 k (σ 4) from up_s _ _ _) ?_
          refine lv_dup2_11 F.1 F.2.1 dL_weaves_57 rfl rfl ?_
          refine h_iald F hW hA16_1 (by omega) (by omega) dL_weaves_58 ?_
          refine h_iconst F dL_weaves_59 ?_
          refine h_isub (a := fk (dueS σ b9 k (σ 4))) (b := 1) F dL_weaves_60 ?_
          refine h_iast F hW hS hA16_1 (by omega) (by omega) dL_weaves_61 (fun w32 H locs ho34 hn33 hW hS => ?_)
          have h1 := (hn33 _ (by first | omega | (obtain ⟨z1, z2, z3, z4, z5, z6, z7, z8, z9, z10⟩ := hNE; first | assumption | (apply Ne.symm; assumption)) | (obtain ⟨y1, y2, y3, y4, y5⟩ := hq5; first | assumption | (apply Ne.symm; assumption)) | (obtain ⟨y1, y2, y3, y4, y5⟩ := hQac; first | assumption | (apply Ne.symm; assumption)))).trans h1
          have h5 := (hn33 _ (by first | omega | (obtain ⟨z1, z2, z3, z4, z5, z6, z7, z8, z9, z10⟩ := hNE; first | assumption | (apply Ne.symm; assumption)) | (obtain ⟨y1, y2, y3, y4, y5⟩ := hq5; first | assumption | (apply Ne.symm; assumption)) | (obtain ⟨y1, y2, y3, y4, y5⟩ := hQac; first | assumption | (apply Ne.symm; assumption)))).trans h5
          have h5e := (hn33 _ (by first | omega | (obtain ⟨z1, z2, z3, z4, z5, z6, z7, z8, z9, z10⟩ := hNE; first | assumption | (apply Ne.symm; assumption)) | (obtain ⟨y1, y2, y3, y4, y5⟩ := hq5; first | assumption | (apply Ne.symm; assumption)) | (obtain ⟨y1, y2, y3, y4, y5⟩ := hQac; first | assumption | (apply Ne.symm; assumption)))).trans h5e
          have hac := (hn33 _ (by first | omega | (obtain ⟨z1, z2, z3, z4, z5, z6, z7, z8, z9, z10⟩ := hNE; first | assumption | (apply Ne.symm; assumption)) | (obtain ⟨y1, y2, y3, y4, y5⟩ := hq5; first | assumption | (apply Ne.symm; assumption)) | (obtain ⟨y1, y2, y3, y4, y5⟩ := hQac; first | assumption | (apply Ne.symm; assumption)))).trans hac
          have ho28 := (hn33 _ (by first | omega | (obtain ⟨z1, z2, z3, z4, z5, z6, z7, z8, z9, z10⟩ := hNE; first | assumption | (apply Ne.symm; assumption)) | (obtain ⟨y1, y2, y3, y4, y5⟩ := hq5; first | assumption | (apply Ne.symm; assumption)) | (obtain ⟨y1, y2, y3, y4, y5⟩ := hQac; first | assumption | (apply Ne.symm; assumption)))).trans ho28
          refine h_iinc (k := 0) (a := k) (lv' := [(5, .int (iI (k + 1))), (4, .ref its), (3, .int (iI (σ 4))), (0, .ref h), (1, .int (iI (bz b9))), (2, .ref ac)]) F dL_weaves_62 hl rfl (by decide) rfl (fun ls hl => ?_)
          refine h_goto (tgt := 16) F dL_weaves_65 (by decide) ?_
          have eq35 : ((k + 1) : Int) = k + 1 := by first | rfl | omega | simp
          exact ih16 (k + 1) (kc16 + 1 + 0) (ks16 + 4 + 0)  (up fi k (dueS σ b9 k (σ 4))) (up fk (dueS σ b9 k (σ 4)) ((fk (dueS σ b9 k (σ 4))) - 1)) (by omega) (by omega) w32 ho28 ho34 (fun q h09 h19 => by rw [hn33 q (by omega), hn27 q (by omega), hF16 q (by omega) (by omega)]) (by omega) (by omega) (fun c h1 h2 => if hc : c = k then (by rw [hc, up_s]) else (by rw [up_n hc]; exact hfi c h1 (by omega))) hst9 _ _ ls hW hS (by rw [eq35]; exact lv_sub hl [0, 1, 2, 3, 4, 5] rfl)
  exact loop16 ((σ 0 - 0) + 1 : Int).toNat 0 (0 + 0 + 1) (0 + 0 + (σ 0).toNat)  (fun _ => 0) fs (by omega) (by omega) w2 ha4 h2 (fun q _ _ => rfl) (by omega) (by omega) (fun c h1 h2 => by omega) (fun co h1 h2 => by rw [h2f co h1 h2, cnt_0]; omega) _ _ ls hW hS (lv_sub hl [0, 1, 2, 3, 4, 5] rfl)
