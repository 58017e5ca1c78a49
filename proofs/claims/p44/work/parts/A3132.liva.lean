set_option maxHeartbeats 4000000 in
set_option maxRecDepth 100000 in
theorem sg_lives_405 (l : Launch) (X : Cx) (w : Wo) (y gq : Nat) (σ0 gf : Int → Int) (nx sz : Int) (pas : Int → Int → Int) (ac : Int → Int) (hp8 : 0 ≤ ac 8 ∧ ac 8 ≤ 800000) (h aq : Nat) (N : Nat → Prop) (σ1 af1 : Int → Int) (hLS : LwS X w N y h gq aq σ1 af1) (hq8 : 0 ≤ af1 8 ∧ af1 8 ≤ ac 8) {p : Program} {e : Env} {s : State} {m : MethodId} {below : List Frame} {meth : Method} {c : Code} {H : Heap} {locs : List Loc} {ls : Array Slot} {kc0 ks0 : Nat} (F : Fx p m c cL_lives 6 s (List.toArray [.ref y, .ref gq]) RL) (hr : meth.sig.returnType = (some (.boolean))) (hlk : meth.locks = false) (hZ0 : cxZ X s s.heap) (hB9 : cxB X ≤ s.heap.size) (hkc0 : kc0 ≤ 4500) (hks0 : ks0 ≤ 70000) (hW : Wd X w s H) (hS : va_S (cxA X) s.heap H locs) (hl : lv_has ls 6 [(0, .ref y), (1, .ref gq), (2, .ref h), (4, .ref aq)]) : W p l e (rmG 12 203000 1000000 293) s m (List.toArray [.ref y, .ref gq]) below meth c H locs kc0 ks0 (MX X below (List.toArray [.ref y, .ref gq]) s 203000 1000000 (some (.int (iI (bz true)))) (fun w' => ∃ (σ2 : Int → Int) (nx2 sz2 : Int) (pas2 : Int → Int → Int) (ac2 : Int → Int), KS X w' y σ2 nx2 sz2 pas2 ac2 ∧ (0 ≤ ac2 8 ∧ ac2 8 ≤ ac 8 + 22000))) (F0 m 405 ls []) := by
  refine h_iconst F dL_lives_405 ?_
  refine lv_istore (lv' := [(5, .int (iI 0)), (0, .ref y), (1, .ref gq), (2, .ref h), (4, .ref aq)]) F.1 F.2.1 dL_lives_406 hl (by decide) rfl (fun ls hl => ?_)
  have loop408 : ∀ (n9 : Nat) (k : Int) (kc408 ks408 : Nat) (σk afk : Int → Int), (hrg : 0 ≤ k ∧ k ≤ 22) → (hms : 22 - k < (n9 : Int)) → (w6 : Wo) → (hF408 : ∀ (q : Nat) (e : va_E), w q = some e → (0 : Nat) = 1 → w6 q = some e) → (hkc408 : ((kc408 : Nat) : Int) ≤ ((kc0 : Nat) : Int) + 9000 * k) → (hks408 : ((ks408 : Nat) : Int) ≤ ((ks0 : Nat) : Int) + 41800 * k) → (hLk : LwS X w6 N y h gq aq σk afk) → (hbk : 0 ≤ afk 8 ∧ afk 8 ≤ ac 8 + 1000 * k) → (H : Heap) → (locs : List Loc) → (ls : Array Slot) → Wd X w6 s H → va_S (cxA X) s.heap H locs → lv_has ls 6 [(5, .int (iI k)), (0, .ref y), (1, .ref gq), (2, .ref h), (4, .ref aq)] → W p l e (rmG 12 203000 1000000 293) s m (List.toArray [.ref y, .ref gq]) below meth c H locs kc408 ks408 (MX X below (List.toArray [.ref y, .ref gq]) s 203000 1000000 (some (.int (iI (bz true)))) (fun w' => ∃ (σ2 : Int → Int) (nx2 sz2 : Int) (pas2 : Int → Int → Int) (ac2 : Int → Int), KS X w' y σ2 nx2 sz2 pas2 ac2 ∧ (0 ≤ ac2 8 ∧ ac2 8 ≤ ac 8 + 22000))) (F0 m 408 ls []) := by
    intro n9
    induction n9 with
    | zero => intro k kc408 ks408  σk afk  hrg hms; exfalso; omega
    | succ n9 ih408 =>
      intro k kc408 ks408  σk afk  hrg hms w6 hF408 hkc408 hks408 hLk hbk H locs ls hW hS hl
      refine lv_iload F.1 F.2.1 dL_lives_408 (lv_at hl 0 rfl) ?_
      refine h_bipush F dL_lives_410 rfl ?_
      refine h_icge (tgt := 451) F dL_lives_412 (by decide) (by omega) (fun c1 => ?_) (fun c1 => ?_)
      · obtain ⟨hO4, ⟨nx4, sz4, pas4, ac4, hK4, hacc4⟩, ⟨gf4, hg4⟩, ha4, hout4, hNN4⟩ := id hLk
        obtain ⟨su4, tx4, M4, oo4, rv4, hC4⟩ := id hK4
        have hYc := hC4.1
        have hLc := hC4.2.1
        have hHc := hC4.2.2.1
        have hac4 := hC4.2.2.2.1
        have hga9 := hout4.2.2
        have hoq9 := hout4.2.1
        have hog9 := hout4.1
        skip
        refine h_iconst F dL_lives_451 ?_
        refine lv_istore (lv' := [(5, .int (iI 0)), (0, .ref y), (1, .ref gq), (2, .ref h), (4, .ref aq)]) F.1 F.2.1 dL_lives_452 hl (by decide) rfl (fun ls hl => ?_)
        have loop454 : ∀ (n9 : Nat) (ci : Int), (hrg : 0 ≤ ci ∧ ci ≤ 9) → (hms : 9 - ci < (n9 : Int)) → (H : Heap) → (locs : List Loc) → (ls : Array Slot) → Wd X w6 s H → va_S (cxA X) s.heap H locs → lv_has ls 6 [(5, .int (iI ci)), (0, .ref y), (1, .ref gq), (2, .ref h), (4, .ref aq)] → W p l e (rmG 12 203000 1000000 293) s m (List.toArray [.ref y, .ref gq]) below meth c H locs (kc408) (ks408) (MX X below (List.toArray [.ref y, .ref gq]) s 203000 1000000 (some (.int (iI (bz true)))) (fun w' => ∃ (σ2 : Int → Int) (nx2 sz2 : Int) (pas2 : Int → Int → Int) (ac2 : Int → Int), KS X w' y σ2 nx2 sz2 pas2 ac2 ∧ (0 ≤ ac2 8 ∧ ac2 8 ≤ ac 8 + 22000))) (F0 m 454 ls []) := by
          intro n9
          induction n9 with
          | zero => intro ci  hrg hms; exfalso; omega
          | succ n9 ih454 =>
            intro ci  hrg hms   H locs ls hW hS hl
            refine lv_iload F.1 F.2.1 dL_lives_454 (lv_at hl 0 rfl) ?_
            refine h_bipush F dL_lives_456 rfl ?_
            refine h_icge (tgt := 483) F dL_lives_458 (by decide) (by omega) (fun c2 => ?_) (fun c2 => ?_)
            · refine h_iconst F dL_lives_483 ?_
              refine W.wd (mc := 203000) (ms := 1000000) (by omega) (by omega) ?_
              have hKf := hK4
              have hbf : 0 ≤ ac4 8 ∧ ac4 8 ≤ ac 8 + 22000 := by rw [← hacc4 8 (by decide) (by decide)]; omega
              refine h_top (show (1 : Int) = bz true from rfl) ?_
              exact h_iretz F hr hlk hW hS ⟨_, _, _, _, _, hKf, hbf⟩ dL_lives_484
            · refine lv_aload_n F.1 F.2.1 dL_lives_461 rfl (lv_at hl 1 rfl) ?_
              refine lv_iload F.1 F.2.1 dL_lives_462 (lv_at hl 0 rfl) ?_
              refine cl_RL_150 (As := [.int (iI ci)]) (rest := []) F hl (c_X8_account l X w6 y su4 ac4 ci hYc hac4 (by omega)) hW hS hYc rfl rfl ⟨Nat.le_of_ble_eq_true rfl, Nat.le_of_ble_eq_true rfl⟩ (Nat.le_of_ble_eq_true rfl) ⟨(by show kc408 + 0 ≤ 203000; omega), (by show ks408 + 0 ≤ 1000000; omega)⟩ dL_lives_464 (fun w1 H locs hp3 hW hS => ?_)
              rw [hp3] at hW; clear hp3; clear w1
              refine lv_aload F.1 F.2.1 dL_lives_467 (lv_at hl 4 rfl) ?_
              refine lv_iload F.1 F.2.1 dL_lives_469 (lv_at hl 0 rfl) ?_
              refine h_iald F hW ha4 (by omega) (by omega) dL_lives_471 ?_
              refine h_top (show (afk ci : Int) = ac4 ci from hacc4 ci (by omega) (by omega)) ?_
              refine lv_icmp_eq (tgt := 477) F.1 F.2.1 dL_lives_472 (by decide) (fun _ => ?_) (fun c9 => absurd rfl c9)
              refine h_iinc (k := 0) (a := ci) (lv' := [(5, .int (iI (ci + 1))), (0, .ref y), (1, .ref gq), (2, .ref h), (4, .ref aq)]) F dL_lives_477 hl rfl (by decide) rfl (fun ls hl => ?_)
              refine h_goto (tgt := 454) F dL_lives_480 (by decide) ?_
              have eq4 : ((ci + 1) : Int) = ci + 1 := by first | rfl | omega | simp
              exact ih454 (ci + 1)  (by omega) (by omega)   _ _ ls hW hS (by rw [eq4]; exact lv_sub hl [0, 1, 2, 3, 4] rfl)
        exact loop454 ((9 - 0) + 1 : Int).toNat 0   (by omega) (by omega)   _ _ ls hW hS (lv_sub hl [0, 1, 2, 3, 4] rfl)
      · refine lv_aload_n F.1 F.2.1 dL_lives_415 rfl (lv_at hl 1 rfl) ?_
        refine lv_aload_n F.1 F.2.1 dL_lives_416 rfl (lv_at hl 3 rfl) ?_
        refine lv_aload_n F.1 F.2.1 dL_lives_417 rfl (lv_at hl 2 rfl) ?_
        refine lv_aload F.1 F.2.1 dL_lives_418 (lv_at hl 4 rfl) ?_
        refine cl_RL_167 (As := [.ref y, .ref h, .ref gq, .ref aq]) (rest := []) F hl (k_acts l X w6 y h gq aq N σk afk hLk (by omega)) hW hS rfl rfl ⟨Nat.le_of_ble_eq_true rfl, Nat.le_of_ble_eq_true rfl⟩ (Nat.le_of_ble_eq_true rfl) ⟨(by show kc408 + 1500 ≤ 203000; omega), (by show ks408 + 6000 ≤ 1000000; omega)⟩ dL_lives_420 (fun w5 H locs hp6 hW hS => ?_)
        obtain ⟨σ2, af2, hL2, hb2, hx7⟩ := hp6
        obtain ⟨hO2, ⟨nx2, sz2, pas2, ac2, hK2, hacc2⟩, ⟨gf2, hg2⟩, ha2, hout2, hNN2⟩ := id hL2
        obtain ⟨su2, tx2, M2, oo2, rv2, hC2⟩ := id hK2
        have hYc := hC2.1
        have hLc := hC2.2.1
        have hHc := hC2.2.2.1
        have hac2 := hC2.2.2.2.1
        have hga9 := hout2.2.2
        have hoq9 := hout2.2.1
        have hog9 := hout2.1
        skip
        refine h_ifeqb (tgt := 443) F dL_lives_423 (by decide) (fun c9 => absurd c9 (by decide)) (fun _ => ?_)
        refine lv_aload_n F.1 F.2.1 dL_lives_426 rfl (lv_at hl 1 rfl) ?_
        refine lv_aload_n F.1 F.2.1 dL_lives_427 rfl (lv_at hl 3 rfl) ?_
        refine cl_RL_163 (As := [.ref y, .ref h]) (rest := []) F hl (c_L_still l X w5 y h N su2 σ2 nx2 sz2 pas2 hO2 hNN2.1 hYc hLc hHc) hW hS rfl rfl ⟨Nat.le_of_ble_eq_true rfl, Nat.le_of_ble_eq_true rfl⟩ (Nat.le_of_ble_eq_true rfl) ⟨(by show kc408 + 1500 + 2600 ≤ 203000; omega), (by show ks408 + 6000 + 10800 ≤ 1000000; omega)⟩ dL_lives_428 (fun w1 H locs hp9 hW hS => ?_)
        rw [hp9] at hW; clear hp9; clear w1
        refine h_ifeqb (tgt := 443) F dL_lives_431 (by decide) (fun c9 => absurd c9 (by decide)) (fun _ => ?_)
        refine lv_aload_n F.1 F.2.1 dL_lives_434 rfl (lv_at hl 1 rfl) ?_
        refine lv_aload_n F.1 F.2.1 dL_lives_435 rfl (lv_at hl 3 rfl) ?_
        refine lv_aload_n F.1 F.2.1 dL_lives_436 rfl (lv_at hl 2 rfl) ?_
        refine cl_RL_171 (As := [.ref y, .ref h, .ref gq]) (rest := []) F hl (c_L_would l X w5 y h gq N σ2 gf2 nx2 sz2 pas2 ac2 hO2 hNN2.1 hNN2.2.1 hog9 hg2 hK2) hW hS rfl rfl ⟨Nat.le_of_ble_eq_true rfl, Nat.le_of_ble_eq_true rfl⟩ (Nat.le_of_ble_eq_true rfl) ⟨(by show kc408 + 1500 + 2600 + 4900 ≤ 203000; omega), (by show ks408 + 6000 + 10800 + 25000 ≤ 1000000; omega)⟩ dL_lives_437 (fun w11 H locs hp12 hW hS => ?_)
        obtain ⟨hK3, hg3, hx13⟩ := hp12
        have ha2 := hx13 _ _ ha2 (by first | assumption | (obtain ⟨y1, y2, y3, y4, y5⟩ := hQg; first | assumption | (apply Ne.symm; assumption)) | (obtain ⟨y1, y2, y3, y4, y5⟩ := hQa; first | assumption | (apply Ne.symm; assumption)) | (obtain ⟨z1, z2, z3, z4, z5, z6, z7, z8, z9, z10⟩ := hNE; first | assumption | (apply Ne.symm; assumption)) | (obtain ⟨y1, y2, y3, y4, y5⟩ := hq5; first | assumption | (apply Ne.symm; assumption)) | omega) (by first | assumption | (obtain ⟨y1, y2, y3, y4, y5⟩ := hQg; first | assumption | (apply Ne.symm; assumption)) | (obtain ⟨y1, y2, y3, y4, y5⟩ := hQa; first | assumption | (apply Ne.symm; assumption)) | (obtain ⟨z1, z2, z3, z4, z5, z6, z7, z8, z9, z10⟩ := hNE; first | assumption | (apply Ne.symm; assumption)) | (obtain ⟨y1, y2, y3, y4, y5⟩ := hq5; first | assumption | (apply Ne.symm; assumption)) | omega)
        refine h_ifneb (tgt := 445) F dL_lives_440 (by decide) (fun _ => ?_) (fun c9 => absurd c9 (by decide))
        obtain ⟨gf3, hg3⟩ := hg3
        have hL9 : LwS X w11 N y h gq aq σ2 af2 := LwS.fin hO2 hNN2 hout2 (fun q e h9 hc1 hc2 hc3 => by have h9 := hx13 q e h9 (by first | assumption | (obtain ⟨y1, y2, y3, y4, y5⟩ := hQg; first | assumption | (apply Ne.symm; assumption)) | (obtain ⟨y1, y2, y3, y4, y5⟩ := hQa; first | assumption | (apply Ne.symm; assumption)) | (obtain ⟨z1, z2, z3, z4, z5, z6, z7, z8, z9, z10⟩ := hNE; first | assumption | (apply Ne.symm; assumption)) | (obtain ⟨y1, y2, y3, y4, y5⟩ := hq5; first | assumption | (apply Ne.symm; assumption)) | omega) (by first | assumption | (obtain ⟨y1, y2, y3, y4, y5⟩ := hQg; first | assumption | (apply Ne.symm; assumption)) | (obtain ⟨y1, y2, y3, y4, y5⟩ := hQa; first | assumption | (apply Ne.symm; assumption)) | (obtain ⟨z1, z2, z3, z4, z5, z6, z7, z8, z9, z10⟩ := hNE; first | assumption | (apply Ne.symm; assumption)) | (obtain ⟨y1, y2, y3, y4, y5⟩ := hq5; first | assumption | (apply Ne.symm; assumption)) | omega); exact h9) hg3 ha2 hK3 hacc2
        refine h_iinc (k := 0) (a := k) (lv' := [(5, .int (iI (k + 1))), (0, .ref y), (1, .ref gq), (2, .ref h), (4, .ref aq)]) F dL_lives_445 hl rfl (by decide) rfl (fun ls hl => ?_)
        refine h_goto (tgt := 408) F dL_lives_448 (by decide) ?_
        have eq15 : ((k + 1) : Int) = k + 1 := by first | rfl | omega | simp
        exact ih408 (k + 1) (kc408 + 1500 + 2600 + 4900) (ks408 + 6000 + 10800 + 25000) σ2 af2 (by omega) (by omega) w11 (fun q e h9 h09 => by
            have h9 := hF408 q e h9 (by first | assumption | (obtain ⟨y1, y2, y3, y4, y5⟩ := hQg; first | assumption | (apply Ne.symm; assumption)) | (obtain ⟨y1, y2, y3, y4, y5⟩ := hQa; first | assumption | (apply Ne.symm; assumption)) | (obtain ⟨z1, z2, z3, z4, z5, z6, z7, z8, z9, z10⟩ := hNE; first | assumption | (apply Ne.symm; assumption)) | (obtain ⟨y1, y2, y3, y4, y5⟩ := hq5; first | assumption | (apply Ne.symm; assumption)) | omega)
            have h9 := hx7 q e h9 (by first | assumption | (obtain ⟨y1, y2, y3, y4, y5⟩ := hQg; first | assumption | (apply Ne.symm; assumption)) | (obtain ⟨y1, y2, y3, y4, y5⟩ := hQa; first | assumption | (apply Ne.symm; assumption)) | (obtain ⟨z1, z2, z3, z4, z5, z6, z7, z8, z9, z10⟩ := hNE; first | assumption | (apply Ne.symm; assumption)) | (obtain ⟨y1, y2, y3, y4, y5⟩ := hq5; first | assumption | (apply Ne.symm; assumption)) | omega)
            have h9 := hx13 q e h9 (by first | assumption | (obtain ⟨y1, y2, y3, y4, y5⟩ := hQg; first | assumption | (apply Ne.symm; assumption)) | (obtain ⟨y1, y2, y3, y4, y5⟩ := hQa; first | assumption | (apply Ne.symm; assumption)) | (obtain ⟨z1, z2, z3, z4, z5, z6, z7, z8, z9, z10⟩ := hNE; first | assumption | (apply Ne.symm; assumption)) | (obtain ⟨y1, y2, y3, y4, y5⟩ := hq5; first | assumption | (apply Ne.symm; assumption)) | omega) (by first | assumption | (obtain ⟨y1, y2, y3, y4, y5⟩ := hQg; first | assumption | (apply Ne.symm; assumption)) | (obtain ⟨y1, y2, y3, y4, y5⟩ := hQa; first | assumption | (apply Ne.symm; assumption)) | (obtain ⟨z1, z2, z3, z4, z5, z6, z7, z8, z9, z10⟩ := hNE; first | assumption | (apply Ne.symm; assumption)) | (obtain ⟨y1, y2, y3, y4, y5⟩ := hq5; first | assumption | (apply Ne.symm; assumption)) | omega)
            exact h9) (by omega) (by omega) hL9 (by omega) _ _ ls hW hS (by rw [eq15]; exact lv_sub hl [0, 1, 2, 3, 4] rfl)
  exact loop408 ((22 - 0) + 1 : Int).toNat 0 (kc0) (ks0) σ1 af1  (by omega) (by omega) w (fun q e h9 h09 => by
      exact h9) (by omega) (by omega) hLS (by omega) _ _ ls hW hS (lv_sub hl [0, 1, 2, 3, 4] rfl)
