set_option maxHeartbeats 4000000 in
set_option maxRecDepth 100000 in
theorem sg_lives_335 (l : Launch) (X : Cx) (w : Wo) (y gq : Nat) (σ0 gf : Int → Int) (nx sz : Int) (pas : Int → Int → Int) (ac : Int → Int) (hog : outY y gq) (hp8 : 0 ≤ ac 8 ∧ ac 8 ≤ 800000) (h u0 b cp : Nat) (f0 Ft σ gf2 : Int → Int) (M mk dl ix : Int) (hO : ownN X w (NK y gq u0 b) h σ) (hub : w u0 = some (.inr (12, [.ref b, .int (iI 0), .int (iI (bz false)), .int (iI M)]))) (hb0 : w b = some (aY X cp f0)) (hP9 : sbP cp f0 M Ft 500) (hI : rdI Ft M σ mk dl ix) (hKn : KS X w y σ0 nx sz pas ac) (hg9 : w gq = some (aZ X 1 gf2)) (hM : 0 ≤ M ∧ M ≤ 370) {p : Program} {e : Env} {s : State} {m : MethodId} {below : List Frame} {meth : Method} {c : Code} {H : Heap} {locs : List Loc} {ls : Array Slot} {kc0 ks0 : Nat} (F : Fx p m c cL_lives 6 s (List.toArray [.ref y, .ref gq]) RL) (hr : meth.sig.returnType = (some (.boolean))) (hlk : meth.locks = false) (hZ0 : cxZ X s s.heap) (hB9 : cxB X ≤ s.heap.size) (hkc0 : kc0 ≤ 1300) (hks0 : ks0 ≤ 52000) (hW : Wd X w s H) (hS : va_S (cxA X) s.heap H locs) (hl : lv_has ls 6 [(0, .ref y), (1, .ref gq), (2, .ref h), (3, .ref u0)]) : W p l e (rmG 12 203000 1000000 293) s m (List.toArray [.ref y, .ref gq]) below meth c H locs kc0 ks0 (MX X below (List.toArray [.ref y, .ref gq]) s 203000 1000000 (some (.int (iI (bz true)))) (fun w' => ∃ (σ2 : Int → Int) (nx2 sz2 : Int) (pas2 : Int → Int → Int) (ac2 : Int → Int), KS X w' y σ2 nx2 sz2 pas2 ac2 ∧ (0 ≤ ac2 8 ∧ ac2 8 ≤ ac 8 + 22000))) (F0 m 335 ls []) := by
  have hg9z := hg9
  have hWF := hO.wf
  obtain ⟨wf0, wf1, wf2, wf3, wf4, wf5⟩ := hWF.1
  refine h_bipush F dL_lives_335 rfl ?_
  refine q_newP (N := 9) (k := 0) (atype := .int) (x := .inl (fun j : Nat => iI ((fun _ : Int => 0) (j : Int)))) F hW hS haCI rfl (hxI _) rfl (by omega) ⟨(by show kc0 + 1 ≤ 203000; omega), (by show ks0 + 9 ≤ 1000000; omega)⟩ dL_lives_337 (fun aq w1 H hfr4 hcx5 ha3 hn2 hW hS => ?_)
  have ha3 : w1 aq = some (aZ X 9 (fun _ => 0)) := ha3
  have hb6 := hfr4 _ _ hub
  have hb7 := hfr4 _ _ hb0
  have hb8 := hfr4 _ _ hg9
  have hub := (hn2 _ (by first | assumption | (obtain ⟨y1, y2, y3, y4, y5⟩ := hQg; first | assumption | (apply Ne.symm; assumption)) | (obtain ⟨y1, y2, y3, y4, y5⟩ := hQa; first | assumption | (apply Ne.symm; assumption)) | (obtain ⟨z1, z2, z3, z4, z5, z6, z7, z8, z9, z10⟩ := hNE; first | assumption | (apply Ne.symm; assumption)) | (obtain ⟨y1, y2, y3, y4, y5⟩ := hq5; first | assumption | (apply Ne.symm; assumption)) | omega)).trans hub
  have hb0 := (hn2 _ (by first | assumption | (obtain ⟨y1, y2, y3, y4, y5⟩ := hQg; first | assumption | (apply Ne.symm; assumption)) | (obtain ⟨y1, y2, y3, y4, y5⟩ := hQa; first | assumption | (apply Ne.symm; assumption)) | (obtain ⟨z1, z2, z3, z4, z5, z6, z7, z8, z9, z10⟩ := hNE; first | assumption | (apply Ne.symm; assumption)) | (obtain ⟨y1, y2, y3, y4, y5⟩ := hq5; first | assumption | (apply Ne.symm; assumption)) | omega)).trans hb0
  have hg9 := (hn2 _ (by first | assumption | (obtain ⟨y1, y2, y3, y4, y5⟩ := hQg; first | assumption | (apply Ne.symm; assumption)) | (obtain ⟨y1, y2, y3, y4, y5⟩ := hQa; first | assumption | (apply Ne.symm; assumption)) | (obtain ⟨z1, z2, z3, z4, z5, z6, z7, z8, z9, z10⟩ := hNE; first | assumption | (apply Ne.symm; assumption)) | (obtain ⟨y1, y2, y3, y4, y5⟩ := hq5; first | assumption | (apply Ne.symm; assumption)) | omega)).trans hg9
  have hfa0 := hfr4
  refine lv_astore (lv' := [(4, .ref aq), (0, .ref y), (1, .ref gq), (2, .ref h), (3, .ref u0)]) F.1 F.2.1 dL_lives_339 hl (by decide) rfl (fun ls hl => ?_)
  refine h_iconst F dL_lives_341 ?_
  refine lv_istore (lv' := [(5, .int (iI 0)), (4, .ref aq), (0, .ref y), (1, .ref gq), (2, .ref h), (3, .ref u0)]) F.1 F.2.1 dL_lives_342 hl (by decide) rfl (fun ls hl => ?_)
  have loop344 : ∀ (n9 : Nat) (ci : Int) (fa : Int → Int), (hrg : 0 ≤ ci ∧ ci ≤ 9) → (hms : 9 - ci < (n9 : Int)) → (w6 : Wo) → (hA344_0 : w6 aq = some (aZ X 9 fa)) → (hF344 : ∀ q : Nat, q ≠ aq → w6 q = w1 q) → (hfac : ∀ k, 0 ≤ k → k < ci → fa k = ac k) → (H : Heap) → (locs : List Loc) → (ls : Array Slot) → Wd X w6 s H → va_S (cxA X) s.heap H locs → lv_has ls 6 [(5, .int (iI ci)), (4, .ref aq), (0, .ref y), (1, .ref gq), (2, .ref h), (3, .ref u0)] → W p l e (rmG 12 203000 1000000 293) s m (List.toArray [.ref y, .ref gq]) below meth c H locs (kc0 + 1) (ks0 + 9) (MX X below (List.toArray [.ref y, .ref gq]) s 203000 1000000 (some (.int (iI (bz true)))) (fun w' => ∃ (σ2 : Int → Int) (nx2 sz2 : Int) (pas2 : Int → Int → Int) (ac2 : Int → Int), KS X w' y σ2 nx2 sz2 pas2 ac2 ∧ (0 ≤ ac2 8 ∧ ac2 8 ≤ ac 8 + 22000))) (F0 m 344 ls []) := by
    intro n9
    induction n9 with
    | zero => intro ci fa  hrg hms; exfalso; omega
    | succ n9 ih344 =>
      intro ci fa  hrg hms w6 hA344_0 hF344 hfac H locs ls hW hS hl
      have hub := (hF344 _ (by first | assumption | (obtain ⟨y1, y2, y3, y4, y5⟩ := hQg; first | assumption | (apply Ne.symm; assumption)) | (obtain ⟨y1, y2, y3, y4, y5⟩ := hQa; first | assumption | (apply Ne.symm; assumption)) | (obtain ⟨z1, z2, z3, z4, z5, z6, z7, z8, z9, z10⟩ := hNE; first | assumption | (apply Ne.symm; assumption)) | (obtain ⟨y1, y2, y3, y4, y5⟩ := hq5; first | assumption | (apply Ne.symm; assumption)) | omega)).trans hub
      have hb0 := (hF344 _ (by first | assumption | (obtain ⟨y1, y2, y3, y4, y5⟩ := hQg; first | assumption | (apply Ne.symm; assumption)) | (obtain ⟨y1, y2, y3, y4, y5⟩ := hQa; first | assumption | (apply Ne.symm; assumption)) | (obtain ⟨z1, z2, z3, z4, z5, z6, z7, z8, z9, z10⟩ := hNE; first | assumption | (apply Ne.symm; assumption)) | (obtain ⟨y1, y2, y3, y4, y5⟩ := hq5; first | assumption | (apply Ne.symm; assumption)) | omega)).trans hb0
      have hg9 := (hF344 _ (by first | assumption | (obtain ⟨y1, y2, y3, y4, y5⟩ := hQg; first | assumption | (apply Ne.symm; assumption)) | (obtain ⟨y1, y2, y3, y4, y5⟩ := hQa; first | assumption | (apply Ne.symm; assumption)) | (obtain ⟨z1, z2, z3, z4, z5, z6, z7, z8, z9, z10⟩ := hNE; first | assumption | (apply Ne.symm; assumption)) | (obtain ⟨y1, y2, y3, y4, y5⟩ := hq5; first | assumption | (apply Ne.symm; assumption)) | omega)).trans hg9
      refine lv_iload F.1 F.2.1 dL_lives_344 (lv_at hl 0 rfl) ?_
      refine h_bipush F dL_lives_346 rfl ?_
      refine h_icge (tgt := 368) F dL_lives_348 (by decide) (by omega) (fun c9 => ?_) (fun c9 => ?_)
      · refine lv_aload_n F.1 F.2.1 dL_lives_368 rfl (lv_at hl 2 rfl) ?_
        refine lv_aload_n F.1 F.2.1 dL_lives_369 rfl (lv_at hl 5 rfl) ?_
        refine cr_RL_52 (As := []) (rest := [.ref y]) F hl (c_toS l X w6 u0 b (iI (bz false)) M cp f0 Ft 500 hub hb0 hP9 (by omega)) hW hS hub rfl rfl ⟨Nat.le_of_ble_eq_true rfl, Nat.le_of_ble_eq_true rfl⟩ (Nat.le_of_ble_eq_true rfl) ⟨(by show kc0 + 1 + 2 ≤ 203000; omega), (by show ks0 + 9 + (4 + 500) ≤ 1000000; omega)⟩ dL_lives_370 (fun v12 w10 H locs hp11 hW hS => ?_)
        obtain ⟨z9, fz, rfl, hfr13, hstr, hfz, hx14⟩ := hp11
        have hb15 := hfr13 _ _ hub
        have hb16 := hfr13 _ _ hb0
        have hb17 := hfr13 _ _ hg9
        have hb18 := hfr13 _ _ hA344_0
        have hub := hx14 _ _ hub 
        have hb0 := hx14 _ _ hb0 
        have hg9 := hx14 _ _ hg9 
        have hA344_0 := hx14 _ _ hA344_0 
        have hKw : KS X w10 y σ0 nx sz pas ac := hKn.ex (fun q e q0 q1 h9 => by have hqg := hog.ne q0 q1; have z9_1 := hfr4 q e h9; have h9 := (hn2 q (by first | assumption | (obtain ⟨y1, y2, y3, y4, y5⟩ := hQg; first | assumption | (apply Ne.symm; assumption)) | (obtain ⟨y1, y2, y3, y4, y5⟩ := hQa; first | assumption | (apply Ne.symm; assumption)) | (obtain ⟨z1, z2, z3, z4, z5, z6, z7, z8, z9, z10⟩ := hNE; first | assumption | (apply Ne.symm; assumption)) | (obtain ⟨y1, y2, y3, y4, y5⟩ := hq5; first | assumption | (apply Ne.symm; assumption)) | omega)).trans h9; have h9 := (hF344 q (by first | assumption | (obtain ⟨y1, y2, y3, y4, y5⟩ := hQg; first | assumption | (apply Ne.symm; assumption)) | (obtain ⟨y1, y2, y3, y4, y5⟩ := hQa; first | assumption | (apply Ne.symm; assumption)) | (obtain ⟨z1, z2, z3, z4, z5, z6, z7, z8, z9, z10⟩ := hNE; first | assumption | (apply Ne.symm; assumption)) | (obtain ⟨y1, y2, y3, y4, y5⟩ := hq5; first | assumption | (apply Ne.symm; assumption)) | omega)).trans h9; have z9_2 := hfr13 q e h9; have h9 := hx14 q e h9 ; exact h9)
        have hswa := hstr.ex (wr_sub _ _)
        obtain ⟨n9, hn9⟩ : ∃ n9 : Nat, n9 = M.toNat := ⟨_, rfl⟩
        rw [← hn9] at hswa
        have hn8 : ((n9 : Nat) : Int) = M := by omega
        have hfr9 : ∀ j, 0 ≤ j → j < ((n9 : Nat) : Int) → 0 ≤ fz j ∧ fz j < 128 := fun j j0 j1 => by rw [hfz j j0 (by omega)]; exact hP9.rd j0 (by omega)
        have hoa9 : outY y aq := outY.fr hfa0 (hKn.kn _ (by omega) (by omega))
        refine cl_RL_153 (As := [.ref y, .ref z9]) (rest := []) F hl (k_feeds l X w10 y σ0 nx sz pas ac z9 n9 fz hKw hswa hfr9 (by omega)) hW hS rfl rfl ⟨Nat.le_of_ble_eq_true rfl, Nat.le_of_ble_eq_true rfl⟩ (Nat.le_of_ble_eq_true rfl) ⟨(by show kc0 + 1 + 2 + 25 ≤ 203000; omega), (by show ks0 + 9 + (4 + 500) + 120 ≤ 1000000; omega)⟩ dL_lives_373 (fun w19 H locs hp20 hW hS => ?_)
        obtain ⟨fb9, hKt, hfbe, hknT, hx21⟩ := hp20
        have hg9 := hx21 _ _ hg9 (by assumption)
        have hA344_0 := hx21 _ _ hA344_0 (by assumption)
        refine h_ifeqb (tgt := 403) F dL_lives_376 (by decide) (fun c9 => absurd c9 (by decide)) (fun _ => ?_)
        obtain ⟨su9, M9, oo9, rv9, hT9⟩ := id hKt
        have hYc := hT9.2.1
        have hfb255 : ∀ i, 0 ≤ i → i < ((n9 : Nat) : Int) → 0 ≤ fb9 i ∧ fb9 i ≤ 255 := fun i i0 i1 => by rw [hfbe i i0 i1]; have := hfr9 i i0 i1; omega
        refine lv_aload_n F.1 F.2.1 dL_lives_379 rfl (lv_at hl 2 rfl) ?_
        refine cl_RL_157 (As := []) (rest := []) F hl (k_load l X w19 y σ0 nx sz pas ac ((n9 : Nat) : Int) fb9 σ hKt hfb255 (by rw [hn8]; exact hI.end (fun j j0 j1 => by rw [hfbe j j0 (by omega)]; exact hfz j j0 (by omega)))) hW hS hYc rfl rfl ⟨Nat.le_of_ble_eq_true rfl, Nat.le_of_ble_eq_true rfl⟩ (Nat.le_of_ble_eq_true rfl) ⟨(by show kc0 + 1 + 2 + 25 + 0 ≤ 203000; omega), (by show ks0 + 9 + (4 + 500) + 120 + 0 ≤ 1000000; omega)⟩ dL_lives_380 (fun w23 H locs hp24 hW hS => ?_)
        obtain ⟨hK5, hx25⟩ := hp24
        have hg9 := hx25 _ _ hg9 (by assumption)
        have hA344_0 := hx25 _ _ hA344_0 (by assumption)
        have hOw : ownN X w23 (fun q => (y ≤ q ∧ q < y + 321) ∨ q = gq ∨ q = aq) h σ := hO.mw (fun q e h9 hn9 => ⟨by have hqy : outY y q := (show q < y ∨ y + 321 ≤ q from Classical.byContradiction (fun z9 => hn9 (Or.inl (by omega)))); have z9_1 := hfr4 q e h9; have h9 := (hn2 q (by first | assumption | (obtain ⟨y1, y2, y3, y4, y5⟩ := hQg; first | assumption | (apply Ne.symm; assumption)) | (obtain ⟨y1, y2, y3, y4, y5⟩ := hQa; first | assumption | (apply Ne.symm; assumption)) | (obtain ⟨z1, z2, z3, z4, z5, z6, z7, z8, z9, z10⟩ := hNE; first | assumption | (apply Ne.symm; assumption)) | (obtain ⟨y1, y2, y3, y4, y5⟩ := hq5; first | assumption | (apply Ne.symm; assumption)) | omega)).trans h9; have h9 := (hF344 q (by first | assumption | (obtain ⟨y1, y2, y3, y4, y5⟩ := hQg; first | assumption | (apply Ne.symm; assumption)) | (obtain ⟨y1, y2, y3, y4, y5⟩ := hQa; first | assumption | (apply Ne.symm; assumption)) | (obtain ⟨z1, z2, z3, z4, z5, z6, z7, z8, z9, z10⟩ := hNE; first | assumption | (apply Ne.symm; assumption)) | (obtain ⟨y1, y2, y3, y4, y5⟩ := hq5; first | assumption | (apply Ne.symm; assumption)) | omega)).trans h9; have z9_2 := hfr13 q e h9; have h9 := hx14 q e h9 ; have h9 := hx21 q e h9 (by assumption); have h9 := hx25 q e h9 (by assumption); exact h9, by have hqa := hfa0 q e h9; exact fun z9 => z9.elim (fun z8 => hn9 (Or.inl z8)) (fun z8 => z8.elim (fun z7 => hn9 (Or.inr (Or.inl z7))) (fun z7 => by omega))⟩) (fun q hq => hq.elim (fun z8 => hK5.kn q z8.1 z8.2) (fun z8 => z8.elim (fun z7 => by rw [z7]; exact kn_e hg9) (fun z7 => by rw [z7]; exact kn_e hA344_0))) hW.e3
        obtain ⟨st, lc, ec, kc, lr, er, kr, cd, rwa, hPw0, hern⟩ := hOw.1.P
        have hh1 := (wr_some.mp hPw0.1).2
        have hLc := hPw0.2.2.1
        obtain ⟨⟨mc2, h32⟩, -⟩ := hLc
        have h32 := (wr_some.mp h32).2
        skip
        obtain ⟨su8, tx8, M8, oo8, rv8, hC8⟩ := id hK5
        have hYc := hC8.1
        have hLc8 := hC8.2.1
        have hHc8 := hC8.2.2.1
        refine lv_aload_n F.1 F.2.1 dL_lives_383 rfl (lv_at hl 4 rfl) ?_
        refine gf_RL_109 F hW hh1 rfl dL_lives_384 ?_
        refine cl_RL_160 (As := []) (rest := [.int (iI (σ 5))]) F hl (c_Jx4a65c_size_8abf5 l X w23 lc mc2 ec (σ 5) h32) hW hS h32 rfl rfl ⟨Nat.le_of_ble_eq_true rfl, Nat.le_of_ble_eq_true rfl⟩ (Nat.le_of_ble_eq_true rfl) ⟨(by show kc0 + 1 + 2 + 25 + 0 + 0 ≤ 203000; omega), (by show ks0 + 9 + (4 + 500) + 120 + 0 + 0 ≤ 1000000; omega)⟩ dL_lives_387 (fun w1 H locs hp26 hW hS => ?_)
        rw [hp26] at hW; clear hp26; clear w1
        refine h_icne (tgt := 403) F dL_lives_392 (by decide) (by omega) (fun c27 => ?_) (fun c27 => ?_)
        · exact absurd rfl c27
        · refine lv_aload_n F.1 F.2.1 dL_lives_395 rfl (lv_at hl 2 rfl) ?_
          refine lv_aload_n F.1 F.2.1 dL_lives_396 rfl (lv_at hl 4 rfl) ?_
          refine cl_RL_163 (As := [.ref y, .ref h]) (rest := []) F hl (c_L_still l X w23 y h (fun q => (y ≤ q ∧ q < y + 321) ∨ q = gq ∨ q = aq) su8 σ nx 0 pas hOw (fun q q0 q1 => Or.inl ⟨q0, q1⟩) hYc hLc8 hHc8) hW hS rfl rfl ⟨Nat.le_of_ble_eq_true rfl, Nat.le_of_ble_eq_true rfl⟩ (Nat.le_of_ble_eq_true rfl) ⟨(by show kc0 + 1 + 2 + 25 + 0 + 0 + 2600 ≤ 203000; omega), (by show ks0 + 9 + (4 + 500) + 120 + 0 + 0 + 10800 ≤ 1000000; omega)⟩ dL_lives_397 (fun w1 H locs hp28 hW hS => ?_)
          rw [hp28] at hW; clear hp28; clear w1
          refine h_ifneb (tgt := 405) F dL_lives_400 (by decide) (fun _ => ?_) (fun c9 => absurd c9 (by decide))
          have hLS9 : LwS X w23 (fun q => (y ≤ q ∧ q < y + 321) ∨ q = gq ∨ q = aq) y h gq aq σ fa := ⟨hOw, ⟨nx, 0, pas, ac, hK5, fun k k0 k1 => hfac k k0 (by omega)⟩, ⟨_, hg9⟩, hA344_0, ⟨hog, hoa9, fun e9 => by have := hfa0 _ _ hg9z; omega⟩, fun q q0 q1 => Or.inl ⟨q0, q1⟩, Or.inr (Or.inl rfl), Or.inr (Or.inr rfl)⟩
          have hq8 : 0 ≤ fa 8 ∧ fa 8 ≤ ac 8 := by rw [hfac 8 (by decide) (by omega)]; omega
          exact sg_lives_405 l X w23 y gq σ0 gf nx sz pas ac hp8 h aq (fun q => (y ≤ q ∧ q < y + 321) ∨ q = gq ∨ q = aq) σ fa hLS9 hq8 F hr hlk hZ0 hB9 (by omega) (by omega) hW hS (lv_sub hl [2, 3, 4, 1] rfl)
      · refine lv_aload F.1 F.2.1 dL_lives_351 (lv_at hl 1 rfl) ?_
        refine lv_iload F.1 F.2.1 dL_lives_353 (lv_at hl 0 rfl) ?_
        have hKw : KS X w6 y σ0 nx sz pas ac := hKn.ex (fun q e q0 q1 h9 => by have hqg := hog.ne q0 q1; have z9_1 := hfr4 q e h9; have h9 := (hn2 q (by first | assumption | (obtain ⟨y1, y2, y3, y4, y5⟩ := hQg; first | assumption | (apply Ne.symm; assumption)) | (obtain ⟨y1, y2, y3, y4, y5⟩ := hQa; first | assumption | (apply Ne.symm; assumption)) | (obtain ⟨z1, z2, z3, z4, z5, z6, z7, z8, z9, z10⟩ := hNE; first | assumption | (apply Ne.symm; assumption)) | (obtain ⟨y1, y2, y3, y4, y5⟩ := hq5; first | assumption | (apply Ne.symm; assumption)) | omega)).trans h9; have h9 := (hF344 q (by first | assumption | (obtain ⟨y1, y2, y3, y4, y5⟩ := hQg; first | assumption | (apply Ne.symm; assumption)) | (obtain ⟨y1, y2, y3, y4, y5⟩ := hQa; first | assumption | (apply Ne.symm; assumption)) | (obtain ⟨z1, z2, z3, z4, z5, z6, z7, z8, z9, z10⟩ := hNE; first | assumption | (apply Ne.symm; assumption)) | (obtain ⟨y1, y2, y3, y4, y5⟩ := hq5; first | assumption | (apply Ne.symm; assumption)) | omega)).trans h9; exact h9)
        obtain ⟨su4, tx4, M4, oo4, rv4, hC4⟩ := id hKw
        have hYc := hC4.1
        have hac4 := hC4.2.2.2.1
        refine lv_aload_n F.1 F.2.1 dL_lives_355 rfl (lv_at hl 2 rfl) ?_
        refine lv_iload F.1 F.2.1 dL_lives_356 (lv_at hl 0 rfl) ?_
        refine cl_RL_150 (As := [.int (iI ci)]) (rest := [.int (iI ci), .ref aq]) F hl (c_X8_account l X w6 y su4 ac ci hYc hac4 (by omega)) hW hS hYc rfl rfl ⟨Nat.le_of_ble_eq_true rfl, Nat.le_of_ble_eq_true rfl⟩ (Nat.le_of_ble_eq_true rfl) ⟨(by show kc0 + 1 + 0 ≤ 203000; omega), (by show ks0 + 9 + 0 ≤ 1000000; omega)⟩ dL_lives_358 (fun w1 H locs hp30 hW hS => ?_)
        rw [hp30] at hW; clear hp30; clear w1
        refine h_iast F hW hS hA344_0 (by omega) (by omega) dL_lives_361 (fun w31 H locs ho33 hn32 hW hS => ?_)
        have hub := (hn32 _ (by first | assumption | (obtain ⟨y1, y2, y3, y4, y5⟩ := hQg; first | assumption | (apply Ne.symm; assumption)) | (obtain ⟨y1, y2, y3, y4, y5⟩ := hQa; first | assumption | (apply Ne.symm; assumption)) | (obtain ⟨z1, z2, z3, z4, z5, z6, z7, z8, z9, z10⟩ := hNE; first | assumption | (apply Ne.symm; assumption)) | (obtain ⟨y1, y2, y3, y4, y5⟩ := hq5; first | assumption | (apply Ne.symm; assumption)) | omega)).trans hub
        have hb0 := (hn32 _ (by first | assumption | (obtain ⟨y1, y2, y3, y4, y5⟩ := hQg; first | assumption | (apply Ne.symm; assumption)) | (obtain ⟨y1, y2, y3, y4, y5⟩ := hQa; first | assumption | (apply Ne.symm; assumption)) | (obtain ⟨z1, z2, z3, z4, z5, z6, z7, z8, z9, z10⟩ := hNE; first | assumption | (apply Ne.symm; assumption)) | (obtain ⟨y1, y2, y3, y4, y5⟩ := hq5; first | assumption | (apply Ne.symm; assumption)) | omega)).trans hb0
        have hg9 := (hn32 _ (by first | assumption | (obtain ⟨y1, y2, y3, y4, y5⟩ := hQg; first | assumption | (apply Ne.symm; assumption)) | (obtain ⟨y1, y2, y3, y4, y5⟩ := hQa; first | assumption | (apply Ne.symm; assumption)) | (obtain ⟨z1, z2, z3, z4, z5, z6, z7, z8, z9, z10⟩ := hNE; first | assumption | (apply Ne.symm; assumption)) | (obtain ⟨y1, y2, y3, y4, y5⟩ := hq5; first | assumption | (apply Ne.symm; assumption)) | omega)).trans hg9
        refine h_iinc (k := 0) (a := ci) (lv' := [(5, .int (iI (ci + 1))), (4, .ref aq), (0, .ref y), (1, .ref gq), (2, .ref h), (3, .ref u0)]) F dL_lives_362 hl rfl (by decide) rfl (fun ls hl => ?_)
        refine h_goto (tgt := 344) F dL_lives_365 (by decide) ?_
        have eq34 : ((ci + 1) : Int) = ci + 1 := by first | rfl | omega | simp
        exact ih344 (ci + 1)  (up fa ci (ac ci)) (by omega) (by omega) w31 ho33 (fun q h09 => by rw [hn32 q (by omega), hF344 q (by omega)]) (fun k k0 k1 => if hk : k = ci then (by rw [hk, up_s]) else (by rw [up_n hk]; exact hfac k k0 (by omega))) _ _ ls hW hS (by rw [eq34]; exact lv_sub hl [0, 1, 2, 3, 4, 5] rfl)
  exact loop344 ((9 - 0) + 1 : Int).toNat 0  (fun _ => 0) (by omega) (by omega) w1 ha3 (fun q _ => rfl) (fun k k0 k1 => by omega) _ _ ls hW hS (lv_sub hl [0, 1, 2, 3, 4, 5] rfl)
