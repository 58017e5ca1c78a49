set_option maxHeartbeats 4000000 in
set_option maxRecDepth 100000 in
theorem sg_told_458 (l : Launch) (X : Cx) (w w1 : Wo) (y h q wd : Nat) (N : Nat → Prop) (su : Int) (σ f : Int → Int) (k : Int) (hO : ownN X w N h σ) (hNy : ∀ q, y ≤ q → q < y + 321 → N q) (hY : clO X w y su) (hL : loomAt X w (y + 1) σ) (hk : 0 ≤ k ∧ k < σ 5) (hcq : w q = some (.inr (9, [.ref wd, .int (iI (cp σ k 1)), .int (iI (cp σ k 4)), .int (iI (cp σ k 2)), .int (iI (cp σ k 3))]))) (hs : str X w wd (cp σ k 0).toNat f) (hf : ∀ j, 0 ≤ j → j < cp σ k 0 → f j = cp σ k (5 + j) + 97) (du : Nat) (fd : Int → Int) (hdu : w1 du = some (aZ X 10 fd)) (hd8 : ∀ z : Int, 0 ≤ z → z < 10 → fd z = capQ σ k z) (hE0 : ∀ (q : Nat) (e : va_E), w q = some e → w1 q = some e) {p : Program} {e : Env} {s : State} {m : MethodId} {below : List Frame} {meth : Method} {c : Code} {H : Heap} {locs : List Loc} {ls : Array Slot} {kc0 ks0 : Nat} (F : Fx p m c cL_isTold 12 s (List.toArray [.ref y, .ref h, .int (iI k), .ref q]) RL) (hr : meth.sig.returnType = (some (.boolean))) (hlk : meth.locks = false) (hZ0 : cxZ X s s.heap) (hB9 : cxB X ≤ s.heap.size) (hkc0 : kc0 ≤ 125) (hks0 : ks0 ≤ 490) (hW : Wd X w1 s H) (hS : va_S (cxA X) s.heap H locs) (hl : lv_has ls 12 [(0, .ref y), (1, .ref h), (2, .int (iI k)), (3, .ref q), (6, .ref du), (7, .int (iI (bz (alkQ σ k))))]) : W p l e (rmG 7 180 760 156) s m (List.toArray [.ref y, .ref h, .int (iI k), .ref q]) below meth c H locs kc0 ks0 (MX X below (List.toArray [.ref y, .ref h, .int (iI k), .ref q]) s 180 760 (some (.int (iI (bz true)))) (fun w' => w' = w)) (F0 m 458 ls []) := by
  have hO0 := hO
  have hcq0 := hcq
  have hs0 := hs
  obtain ⟨st, lc, ec, kc, lr, er, kr, cd, rwa, hPw0, hern⟩ := hO.A.P
  clear hern
  obtain ⟨hh0, -, -, -, -, -, -, -, -, ⟨hWF0, hw0, hw1⟩, -, -, -⟩ := hPw0
  obtain ⟨wf0, wf1, wf2, wf3, wf4, wf5⟩ := hWF0.1
  have hck := hWF0.2.2.1 k hk.1 hk.2
  obtain ⟨ok0, ok1, ok2, ok3, ok4, ok5⟩ := hck
  have okS : 0 ≤ cp σ k 1 ∧ cp σ k 1 ≤ 1 := by omega
  clear ok1
  have hck := hWF0.2.2.1 k hk.1 hk.2
  have hh1 := hE0 _ _ hh0
  have hcq1 := hE0 _ _ hcq
  refine h_iconst F dL_isTold_458 ?_
  refine lv_istore (lv' := [(8, .int (iI 0)), (0, .ref y), (1, .ref h), (2, .int (iI k)), (3, .ref q), (6, .ref du), (7, .int (iI (bz (alkQ σ k))))]) F.1 F.2.1 dL_isTold_459 hl (by decide) rfl (fun ls hl => ?_)
  have loop461 : ∀ (n9 : Nat) (wi : Int), (hrg : 0 ≤ wi ∧ wi ≤ 10) → (hms : 10 - wi < (n9 : Int)) → (H : Heap) → (locs : List Loc) → (ls : Array Slot) → Wd X w1 s H → va_S (cxA X) s.heap H locs → lv_has ls 12 [(8, .int (iI wi)), (0, .ref y), (1, .ref h), (2, .int (iI k)), (3, .ref q), (6, .ref du), (7, .int (iI (bz (alkQ σ k))))] → W p l e (rmG 7 180 760 156) s m (List.toArray [.ref y, .ref h, .int (iI k), .ref q]) below meth c H locs (kc0) (ks0) (MX X below (List.toArray [.ref y, .ref h, .int (iI k), .ref q]) s 180 760 (some (.int (iI (bz true)))) (fun w' => w' = w)) (F0 m 461 ls []) := by
    intro n9
    induction n9 with
    | zero => intro wi  hrg hms; exfalso; omega
    | succ n9 ih461 =>
      intro wi  hrg hms   H locs ls hW hS hl
      have hEc : ext w w1 := (show ext w w1 from fun q e h9 => by have h9 := hE0 q e h9 ; exact h9)
      have hYc : clO X w1 y su := (hEc.eqN hO0.2.1 y (hNy y (by omega) (by omega))).trans hY
      have hLc := hL.mv (w2 := w1) (fun q9 h1 h2 => hEc.eqN hO0.2.1 q9 (hNy q9 (by omega) (by omega)))
      refine lv_iload F.1 F.2.1 dL_isTold_461 (lv_at hl 0 rfl) ?_
      refine h_bipush F dL_isTold_463 rfl ?_
      refine h_icge (tgt := 491) F dL_isTold_465 (by decide) (by omega) (fun c1 => ?_) (fun c1 => ?_)
      · refine lv_aload_n F.1 F.2.1 dL_isTold_491 rfl (lv_at hl 1 rfl) ?_
        refine lv_iload_n F.1 F.2.1 dL_isTold_492 rfl (lv_at hl 3 rfl) ?_
        refine cl_RL_261 (As := [.int (iI k)]) (rest := []) F hl (c_X8_isAlike l X w1 y su σ k hYc hLc (by omega)) hW hS hYc rfl rfl ⟨Nat.le_of_ble_eq_true rfl, Nat.le_of_ble_eq_true rfl⟩ (Nat.le_of_ble_eq_true rfl) ⟨(by show kc0 + 0 ≤ 180; omega), (by show ks0 + 0 ≤ 760; omega)⟩ dL_isTold_493 (fun w1 H locs hp2 hW hS => ?_)
        rw [hp2] at hW; clear hp2; clear w1
        refine lv_iload F.1 F.2.1 dL_isTold_496 (lv_at hl 6 rfl) ?_
        refine h_icne (tgt := 505) F dL_isTold_498 (by decide) (by have := bz_r (alkQ σ k); have := bz_r (alkQ σ k);  omega) (fun c3 => ?_) (fun c3 => ?_)
        · exact absurd rfl c3
        · refine h_iconst F dL_isTold_501 ?_
          refine h_goto (tgt := 506) F dL_isTold_502 (by decide) ?_
          refine W.wd (mc := 180) (ms := 760) (by omega) (by omega) ?_
          have hW := Wd.dn hW (w := w) (fun q e h9 => by
            have h9 := hE0 q e h9 
            exact h9)
          refine h_top (show (1 : Int) = bz true from rfl) ?_
          exact h_iretz F hr hlk hW hS rfl dL_isTold_506
      · have hcr := capQ_r hWF0 (k := k) hk (wh := wi) (by omega)
        refine lv_aload_n F.1 F.2.1 dL_isTold_468 rfl (lv_at hl 1 rfl) ?_
        refine lv_iload_n F.1 F.2.1 dL_isTold_469 rfl (lv_at hl 3 rfl) ?_
        refine lv_iload F.1 F.2.1 dL_isTold_470 (lv_at hl 0 rfl) ?_
        refine cl_RL_203 (As := [.int (iI k), .int (iI wi)]) (rest := []) F hl (c_X8_caption l X w1 y su σ k wi hYc hLc (by omega) (by omega)) hW hS hYc rfl rfl ⟨Nat.le_of_ble_eq_true rfl, Nat.le_of_ble_eq_true rfl⟩ (Nat.le_of_ble_eq_true rfl) ⟨(by show kc0 + 0 ≤ 180; omega), (by show ks0 + 0 ≤ 760; omega)⟩ dL_isTold_472 (fun w1 H locs hp4 hW hS => ?_)
        rw [hp4] at hW; clear hp4; clear w1
        refine lv_aload F.1 F.2.1 dL_isTold_475 (lv_at hl 5 rfl) ?_
        refine lv_iload F.1 F.2.1 dL_isTold_477 (lv_at hl 0 rfl) ?_
        refine h_iald F hW hdu (by omega) (by omega) dL_isTold_479 ?_
        refine h_top (show (fd wi : Int) = capQ σ k wi from hd8 wi (by omega) (by omega)) ?_
        refine h_iceq (tgt := 485) F dL_isTold_480 (by decide) (by omega) (fun c5 => ?_) (fun c5 => ?_)
        · refine h_iinc (k := 0) (a := wi) (lv' := [(8, .int (iI (wi + 1))), (0, .ref y), (1, .ref h), (2, .int (iI k)), (3, .ref q), (6, .ref du), (7, .int (iI (bz (alkQ σ k))))]) F dL_isTold_485 hl rfl (by decide) rfl (fun ls hl => ?_)
          refine h_goto (tgt := 461) F dL_isTold_488 (by decide) ?_
          have eq6 : ((wi + 1) : Int) = wi + 1 := by first | rfl | omega | simp
          exact ih461 (wi + 1)  (by omega) (by omega)   _ _ ls hW hS (by rw [eq6]; exact lv_sub hl [0, 1, 2, 3, 4, 5, 6] rfl)
        · exact absurd rfl c5
  exact loop461 ((10 - 0) + 1 : Int).toNat 0   (by omega) (by omega)   _ _ ls hW hS (lv_sub hl [0, 1, 2, 3, 4, 5, 6] rfl)
set_option maxHeartbeats 4000000 in
set_option maxRecDepth 100000 in
theorem sg_told_326 (l : Launch) (X : Cx) (w w1 : Wo) (y h q wd : Nat) (N : Nat → Prop) (su : Int) (σ f : Int → Int) (k : Int) (hO : ownN X w N h σ) (hNy : ∀ q, y ≤ q → q < y + 321 → N q) (hY : clO X w y su) (hL : loomAt X w (y + 1) σ) (hk : 0 ≤ k ∧ k < σ 5) (hcq : w q = some (.inr (9, [.ref wd, .int (iI (cp σ k 1)), .int (iI (cp σ k 4)), .int (iI (cp σ k 2)), .int (iI (cp σ k 3))]))) (hs : str X w wd (cp σ k 0).toNat f) (hf : ∀ j, 0 ≤ j → j < cp σ k 0 → f j = cp σ k (5 + j) + 97) (du : Nat) (fd : Int → Int) (hdn : nkn w du) (hdu : w1 du = some (aZ X 10 fd)) (hd8 : ∀ z : Int, 0 ≤ z → z < 9 → fd z = capQ σ k z) (hd9 : fd 9 = 0) (hE0 : ∀ (q : Nat) (e : va_E), w q = some e → w1 q = some e) {p : Program} {e : Env} {s : State} {m : MethodId} {below : List Frame} {meth : Method} {c : Code} {H : Heap} {locs : List Loc} {ls : Array Slot} {kc0 ks0 : Nat} (F : Fx p m c cL_isTold 12 s (List.toArray [.ref y, .ref h, .int (iI k), .ref q]) RL) (hr : meth.sig.returnType = (some (.boolean))) (hlk : meth.locks = false) (hZ0 : cxZ X s s.heap) (hB9 : cxB X ≤ s.heap.size) (hkc0 : kc0 ≤ 30) (hks0 : ks0 ≤ 110) (hW : Wd X w1 s H) (hS : va_S (cxA X) s.heap H locs) (hl : lv_has ls 12 [(0, .ref y), (1, .ref h), (2, .int (iI k)), (3, .ref q), (6, .ref du)]) : W p l e (rmG 7 180 760 156) s m (List.toArray [.ref y, .ref h, .int (iI k), .ref q]) below meth c H locs kc0 ks0 (MX X below (List.toArray [.ref y, .ref h, .int (iI k), .ref q]) s 180 760 (some (.int (iI (bz true)))) (fun w' => w' = w)) (F0 m 326 ls []) := by
  have hO0 := hO
  have hcq0 := hcq
  have hs0 := hs
  obtain ⟨st, lc, ec, kc, lr, er, kr, cd, rwa, hPw0, hern⟩ := hO.A.P
  clear hern
  obtain ⟨hh0, -, -, -, -, -, -, -, -, ⟨hWF0, hw0, hw1⟩, -, -, -⟩ := hPw0
  obtain ⟨wf0, wf1, wf2, wf3, wf4, wf5⟩ := hWF0.1
  have hck := hWF0.2.2.1 k hk.1 hk.2
  obtain ⟨ok0, ok1, ok2, ok3, ok4, ok5⟩ := hck
  have okS : 0 ≤ cp σ k 1 ∧ cp σ k 1 ≤ 1 := by omega
  clear ok1
  have hck := hWF0.2.2.1 k hk.1 hk.2
  have hh1 := hE0 _ _ hh0
  have hcq1 := hE0 _ _ hcq
  have hhd := hdn _ _ hh0
  have hqd := hdn _ _ hcq
  refine h_iconst F dL_isTold_326 ?_
  refine lv_istore (lv' := [(7, .int (iI 1)), (0, .ref y), (1, .ref h), (2, .int (iI k)), (3, .ref q), (6, .ref du)]) F.1 F.2.1 dL_isTold_327 hl (by decide) rfl (fun ls hl => ?_)
  refine h_iconst F dL_isTold_329 ?_
  refine lv_istore (lv' := [(8, .int (iI 0)), (7, .int (iI 1)), (0, .ref y), (1, .ref h), (2, .int (iI k)), (3, .ref q), (6, .ref du)]) F.1 F.2.1 dL_isTold_330 hl (by decide) rfl (fun ls hl => ?_)
  have loop332 : ∀ (n9 : Nat) (ov : Int) (kc332 ks332 : Nat) (fe : Int → Int), (hrg : 0 ≤ ov ∧ ov ≤ 4 * cp σ k 0 - 1) → (hms : 4 * cp σ k 0 - 1 - ov < (n9 : Int)) → (w7 : Wo) → (hA332_0 : w7 du = some (aZ X 10 fe)) → (hF332 : ∀ (q : Nat) (e : va_E), w1 q = some e → q ≠ du → w7 q = some e) → (hkc332 : ((kc332 : Nat) : Int) ≤ ((kc0 : Nat) : Int) + 5 * ov) → (hks332 : ((ks332 : Nat) : Int) ≤ ((ks0 : Nat) : Int) + 20 * ov) → (he8 : ∀ z : Int, 0 ≤ z → z < 9 → fe z = capQ σ k z) → (he9 : fe 9 = sm (fun z => cnt (fun y9 => misS σ (capCol σ k (cp σ k 2 + z)) (cp σ k 3 + y9)) 0 5) 0 (ov)) → (H : Heap) → (locs : List Loc) → (ls : Array Slot) → Wd X w7 s H → va_S (cxA X) s.heap H locs → lv_has ls 12 [(7, .int (iI (bz (al (fun z => al (fun d9 => ikB (cp σ k 0).toNat f z d9 == ikB (cp σ k 0).toNat f (4 * cp σ k 0 - 2 - z) d9) 0 5) 0 (ov))))), (8, .int (iI ov)), (0, .ref y), (1, .ref h), (2, .int (iI k)), (3, .ref q), (6, .ref du)] → W p l e (rmG 7 180 760 156) s m (List.toArray [.ref y, .ref h, .int (iI k), .ref q]) below meth c H locs kc332 ks332 (MX X below (List.toArray [.ref y, .ref h, .int (iI k), .ref q]) s 180 760 (some (.int (iI (bz true)))) (fun w' => w' = w)) (F0 m 332 ls []) := by
    intro n9
    induction n9 with
    | zero => intro ov kc332 ks332  fe  hrg hms; exfalso; omega
    | succ n9 ih332 =>
      intro ov kc332 ks332  fe  hrg hms w7 hA332_0 hF332 hkc332 hks332 he8 he9 H locs ls hW hS hl
      have hh1 := hF332 _ _ hh1 (by omega)
      have hcq1 := hF332 _ _ hcq1 (by omega)
      have hsk := hs0.ex (show ext w w7 from fun q e h9 => by have zdu := hdn q e h9; have h9 := hE0 q e h9 ; have h9 := hF332 q e h9 (by omega); exact h9)
      have hAk : ownA X w7 h σ := hO0.A.ex (show ext w w7 from fun q e h9 => by have zdu := hdn q e h9; have h9 := hE0 q e h9 ; have h9 := hF332 q e h9 (by omega); exact h9)
      refine lv_iload F.1 F.2.1 dL_isTold_332 (lv_at hl 1 rfl) ?_
      refine lv_aload_n F.1 F.2.1 dL_isTold_334 rfl (lv_at hl 5 rfl) ?_
      refine cl_RL_252 (As := []) (rest := [.int (iI ov)]) F hl (c_X9_wide l X w7 q wd ((cp σ k 0).toNat) (cp σ k 1) (cp σ k 4) (cp σ k 2) (cp σ k 3) f hcq1 hsk (by omega)) hW hS hcq1 rfl rfl ⟨Nat.le_of_ble_eq_true rfl, Nat.le_of_ble_eq_true rfl⟩ (Nat.le_of_ble_eq_true rfl) ⟨(by show kc332 + 0 ≤ 180; omega), (by show ks332 + 0 ≤ 760; omega)⟩ dL_isTold_335 (fun w1 H locs hp1 hW hS => ?_)
      rw [hp1] at hW; clear hp1; clear w1
      refine h_top (show (4 * (((cp σ k 0).toNat) : Int) - 1 : Int) = 4 * cp σ k 0 - 1 from by omega) ?_
      refine h_icge (tgt := 458) F dL_isTold_338 (by decide) (by omega) (fun c2 => ?_) (fun c2 => ?_)
      · have eq3 : (bz (alkQ σ k) : Int) = bz (al (fun z => al (fun d9 => ikB (cp σ k 0).toNat f z d9 == ikB (cp σ k 0).toNat f (4 * cp σ k 0 - 2 - z) d9) 0 5) 0 (ov)) := by rw [show ov = 4 * cp σ k 0 - 1 by omega]; exact congrArg bz (alk_e hck hf).symm
        exact sg_told_458 l X w w7 y h q wd N su σ f k hO hNy hY hL hk hcq0 hs hf du fe hA332_0 (told_10 he8 (he9.trans (by rw [show ov = 4 * cp σ k 0 - 1 by omega]; rfl))) (fun q e h9  => by have zdu := hdn q e h9; have h9 := hE0 q e h9 ; have h9 := hF332 q e h9 (by omega); exact h9) F hr hlk hZ0 hB9 (by omega) (by omega) hW hS (by rw [eq3]; exact lv_sub hl [2, 3, 4, 5, 6, 0] rfl)
      · refine h_iconst F dL_isTold_341 ?_
        refine lv_istore (lv' := [(9, .int (iI 0)), (7, .int (iI (bz (al (fun z => al (fun d9 => ikB (cp σ k 0).toNat f z d9 == ikB (cp σ k 0).toNat f (4 * cp σ k 0 - 2 - z) d9) 0 5) 0 (ov))))), (8, .int (iI ov)), (0, .ref y), (1, .ref h), (2, .int (iI k)), (3, .ref q), (6, .ref du)]) F.1 F.2.1 dL_isTold_342 hl (by decide) rfl (fun ls hl => ?_)
        have loop344 : ∀ (n9 : Nat) (dn : Int) (kc344 ks344 : Nat) (fg : Int → Int), (hrg : 0 ≤ dn ∧ dn ≤ 5) → (hms : 5 - dn < (n9 : Int)) → (w8 : Wo) → (hA344_0 : w8 du = some (aZ X 10 fg)) → (hF344 : ∀ (q : Nat) (e : va_E), w7 q = some e → q ≠ du → w8 q = some e) → (hkc344 : ((kc344 : Nat) : Int) ≤ ((kc332 + 0 : Nat) : Int) + dn) → (hks344 : ((ks344 : Nat) : Int) ≤ ((ks332 + 0 : Nat) : Int) + 4 * dn) → (hg8 : ∀ z : Int, 0 ≤ z → z < 9 → fg z = capQ σ k z) → (hg9 : fg 9 = sm (fun z => cnt (fun y9 => misS σ (capCol σ k (cp σ k 2 + z)) (cp σ k 3 + y9)) 0 5) 0 (ov) + cnt (fun y9 => misS σ (capCol σ k (cp σ k 2 + ov)) (cp σ k 3 + y9)) 0 dn) → (H : Heap) → (locs : List Loc) → (ls : Array Slot) → Wd X w8 s H → va_S (cxA X) s.heap H locs → lv_has ls 12 [(7, .int (iI (bz (al (fun z => al (fun d9 => ikB (cp σ k 0).toNat f z d9 == ikB (cp σ k 0).toNat f (4 * cp σ k 0 - 2 - z) d9) 0 5) 0 (ov) && al (fun d9 => ikB (cp σ k 0).toNat f ov d9 == ikB (cp σ k 0).toNat f (4 * cp σ k 0 - 2 - ov) d9) 0 dn)))), (9, .int (iI dn)), (8, .int (iI ov)), (0, .ref y), (1, .ref h), (2, .int (iI k)), (3, .ref q), (6, .ref du)] → W p l e (rmG 7 180 760 156) s m (List.toArray [.ref y, .ref h, .int (iI k), .ref q]) below meth c H locs kc344 ks344 (MX X below (List.toArray [.ref y, .ref h, .int (iI k), .ref q]) s 180 760 (some (.int (iI (bz true)))) (fun w' => w' = w)) (F0 m 344 ls []) := by
          intro n9
          induction n9 with
          | zero => intro dn kc344 ks344  fg  hrg hms; exfalso; omega
          | succ n9 ih344 =>
            intro dn kc344 ks344  fg  hrg hms w8 hA344_0 hF344 hkc344 hks344 hg8 hg9 H locs ls hW hS hl
            have hh1 := hF344 _ _ hh1 (by omega)
            have hcq1 := hF344 _ _ hcq1 (by omega)
            have hsk := hs0.ex (show ext w w8 from fun q e h9 => by have zdu := hdn q e h9; have h9 := hE0 q e h9 ; have h9 := hF332 q e h9 (by omega); have h9 := hF344 q e h9 (by omega); exact h9)
            have hAk : ownA X w8 h σ := hO0.A.ex (show ext w w8 from fun q e h9 => by have zdu := hdn q e h9; have h9 := hE0 q e h9 ; have h9 := hF332 q e h9 (by omega); have h9 := hF344 q e h9 (by omega); exact h9)
            have hcc := capC_r hck (ov := ov) (by omega)
            refine lv_iload F.1 F.2.1 dL_isTold_344 (lv_at hl 1 rfl) ?_
            refine h_iconst F dL_isTold_346 ?_
            refine h_icge (tgt := 452) F dL_isTold_347 (by decide) (by omega) (fun c4 => ?_) (fun c4 => ?_)
            · refine h_iinc (k := 2) (a := ov) (lv' := [(8, .int (iI (ov + 1))), (7, .int (iI (bz (al (fun z => al (fun d9 => ikB (cp σ k 0).toNat f z d9 == ikB (cp σ k 0).toNat f (4 * cp σ k 0 - 2 - z) d9) 0 5) 0 (ov) && al (fun d9 => ikB (cp σ k 0).toNat f ov d9 == ikB (cp σ k 0).toNat f (4 * cp σ k 0 - 2 - ov) d9) 0 dn)))), (9, .int (iI dn)), (0, .ref y), (1, .ref h), (2, .int (iI k)), (3, .ref q), (6, .ref du)]) F dL_isTold_452 hl rfl (by decide) rfl (fun ls hl => ?_)
              refine h_goto (tgt := 332) F dL_isTold_455 (by decide) ?_
              have eq5 : (bz (al (fun z => al (fun d9 => ikB (cp σ k 0).toNat f z d9 == ikB (cp σ k 0).toNat f (4 * cp σ k 0 - 2 - z) d9) 0 5) 0 ((ov + 1))) : Int) = bz (al (fun z => al (fun d9 => ikB (cp σ k 0).toNat f z d9 == ikB (cp σ k 0).toNat f (4 * cp σ k 0 - 2 - z) d9) 0 5) 0 (ov) && al (fun d9 => ikB (cp σ k 0).toNat f ov d9 == ikB (cp σ k 0).toNat f (4 * cp σ k 0 - 2 - ov) d9) 0 dn) := by rw [al_s _ (by omega), show dn = 5 by omega]
              have eq6 : ((ov + 1) : Int) = ov + 1 := by first | rfl | omega | simp
              exact ih332 (ov + 1) (kc344) (ks344)  fg (by omega) (by omega) w8 hA344_0 (fun q e h9 h09 => by
                  have h9 := hF332 q e h9 (by omega)
                  have h9 := hF344 q e h9 (by omega)
                  exact h9) (by omega) (by omega) hg8 (by rw [hg9, show dn = 5 by omega, sm_s _ (by omega)]) _ _ ls hW hS (by rw [eq5, eq6]; exact lv_sub hl [1, 0, 3, 4, 5, 6, 7] rfl)
            · refine lv_aload F.1 F.2.1 dL_isTold_350 (lv_at hl 7 rfl) ?_
              refine h_bipush F dL_isTold_352 rfl ?_
              refine lv_dup2_11 F.1 F.2.1 dL_isTold_354 rfl rfl ?_
              refine h_iald F hW hA344_0 (by omega) (by omega) dL_isTold_355 ?_
              refine lv_aload_n F.1 F.2.1 dL_isTold_356 rfl (lv_at hl 4 rfl) ?_
              have join388 : ∀ (H : Heap) (locs : List Loc) (ls : Array Slot), Wd X w8 s H → va_S (cxA X) s.heap H locs → lv_has ls 12 [(7, .int (iI (bz (al (fun z => al (fun d9 => ikB (cp σ k 0).toNat f z d9 == ikB (cp σ k 0).toNat f (4 * cp σ k 0 - 2 - z) d9) 0 5) 0 (ov) && al (fun d9 => ikB (cp σ k 0).toNat f ov d9 == ikB (cp σ k 0).toNat f (4 * cp σ k 0 - 2 - ov) d9) 0 dn)))), (9, .int (iI dn)), (8, .int (iI ov)), (0, .ref y), (1, .ref h), (2, .int (iI k)), (3, .ref q), (6, .ref du)] → W p l e (rmG 7 180 760 156) s m (List.toArray [.ref y, .ref h, .int (iI k), .ref q]) below meth c H locs (kc344) (ks344) (MX X below (List.toArray [.ref y, .ref h, .int (iI k), .ref q]) s 180 760 (some (.int (iI (bz true)))) (fun w' => w' = w)) (F0 m 388 ls [.int (iI (capCol σ k (cp σ k 2 + ov))), .ref h, .int (iI (fg 9)), .int (iI 9), .ref du]) := by
                intro  H locs ls  hW hS hl
                refine lv_aload_n F.1 F.2.1 dL_isTold_388 rfl (lv_at hl 6 rfl) ?_
                refine gf_RL_132 F hW hcq1 rfl dL_isTold_389 ?_
                refine lv_iload F.1 F.2.1 dL_isTold_392 (lv_at hl 1 rfl) ?_
                refine h_iadd (a := cp σ k 3) (b := dn) F dL_isTold_394 ?_
                refine cl_RL_254 (As := [.int (iI (capCol σ k (cp σ k 2 + ov))), .int (iI ((cp σ k 3) + dn))]) (rest := [.int (iI (fg 9)), .int (iI 9), .ref du]) F hl (c_X10_wrong l X w8 h σ (capCol σ k (cp σ k 2 + ov)) ((cp σ k 3) + dn) hAk (by omega) (by omega)) hW hS hh1 rfl rfl ⟨Nat.le_of_ble_eq_true rfl, Nat.le_of_ble_eq_true rfl⟩ (Nat.le_of_ble_eq_true rfl) ⟨(by show kc344 + 1 ≤ 180; omega), (by show ks344 + 4 ≤ 760; omega)⟩ dL_isTold_395 (fun w1 H locs hp7 hW hS => ?_)
                rw [hp7] at hW; clear hp7; clear w1
                have join406 : ∀ (H : Heap) (locs : List Loc) (ls : Array Slot), Wd X w8 s H → va_S (cxA X) s.heap H locs → lv_has ls 12 [(7, .int (iI (bz (al (fun z => al (fun d9 => ikB (cp σ k 0).toNat f z d9 == ikB (cp σ k 0).toNat f (4 * cp σ k 0 - 2 - z) d9) 0 5) 0 (ov) && al (fun d9 => ikB (cp σ k 0).toNat f ov d9 == ikB (cp σ k 0).toNat f (4 * cp σ k 0 - 2 - ov) d9) 0 dn)))), (9, .int (iI dn)), (8, .int (iI ov)), (0, .ref y), (1, .ref h), (2, .int (iI k)), (3, .ref q), (6, .ref du)] → W p l e (rmG 7 180 760 156) s m (List.toArray [.ref y, .ref h, .int (iI k), .ref q]) below meth c H locs (kc344 + 1) (ks344 + 4) (MX X below (List.toArray [.ref y, .ref h, .int (iI k), .ref q]) s 180 760 (some (.int (iI (bz true)))) (fun w' => w' = w)) (F0 m 406 ls [.int (iI (bz (misS σ (capCol σ k (cp σ k 2 + ov)) (cp σ k 3 + dn)))), .int (iI (fg 9)), .int (iI 9), .ref du]) := by
                  intro  H locs ls  hW hS hl
                  refine h_iadd (a := fg 9) (b := bz (misS σ (capCol σ k (cp σ k 2 + ov)) (cp σ k 3 + dn))) F dL_isTold_406 ?_
                  refine h_iast F hW hS hA344_0 (by omega) (by omega) dL_isTold_407 (fun w8 H locs ho10 hn9 hW hS => ?_)
                  have hh1 := (hn9 _ (by omega)).trans hh1
                  have hcq1 := (hn9 _ (by omega)).trans hcq1
                  have join444 : ∀ (H : Heap) (locs : List Loc) (ls : Array Slot), Wd X w8 s H → va_S (cxA X) s.heap H locs → lv_has ls 12 [(7, .int (iI (bz (al (fun z => al (fun d9 => ikB (cp σ k 0).toNat f z d9 == ikB (cp σ k 0).toNat f (4 * cp σ k 0 - 2 - z) d9) 0 5) 0 (ov) && al (fun d9 => ikB (cp σ k 0).toNat f ov d9 == ikB (cp σ k 0).toNat f (4 * cp σ k 0 - 2 - ov) d9) 0 dn)))), (9, .int (iI dn)), (8, .int (iI ov)), (0, .ref y), (1, .ref h), (2, .int (iI k)), (3, .ref q), (6, .ref du)] → W p l e (rmG 7 180 760 156) s m (List.toArray [.ref y, .ref h, .int (iI k), .ref q]) below meth c H locs (kc344 + 1) (ks344 + 4) (MX X below (List.toArray [.ref y, .ref h, .int (iI k), .ref q]) s 180 760 (some (.int (iI (bz true)))) (fun w' => w' = w)) (F0 m 444 ls [.int (iI (bz (al (fun z => al (fun d9 => ikB (cp σ k 0).toNat f z d9 == ikB (cp σ k 0).toNat f (4 * cp σ k 0 - 2 - z) d9) 0 5) 0 (ov) && al (fun d9 => ikB (cp σ k 0).toNat f ov d9 == ikB (cp σ k 0).toNat f (4 * cp σ k 0 - 2 - ov) d9) 0 (dn + 1))))]) := by
                    intro  H locs ls  hW hS hl
                    refine lv_istore (lv' := [(7, .int (iI (bz (al (fun z => al (fun d9 => ikB (cp σ k 0).toNat f z d9 == ikB (cp σ k 0).toNat f (4 * cp σ k 0 - 2 - z) d9) 0 5) 0 (ov) && al (fun d9 => ikB (cp σ k 0).toNat f ov d9 == ikB (cp σ k 0).toNat f (4 * cp σ k 0 - 2 - ov) d9) 0 (dn + 1))))), (9, .int (iI dn)), (8, .int (iI ov)), (0, .ref y), (1, .ref h), (2, .int (iI k)), (3, .ref q), (6, .ref du)]) F.1 F.2.1 dL_isTold_444 hl (by decide) rfl (fun ls hl => ?_)
                    refine h_iinc (k := 1) (a := dn) (lv' := [(9, .int (iI (dn + 1))), (7, .int (iI (bz (al (fun z => al (fun d9 => ikB (cp σ k 0).toNat f z d9 == ikB (cp σ k 0).toNat f (4 * cp σ k 0 - 2 - z) d9) 0 5) 0 (ov) && al (fun d9 => ikB (cp σ k 0).toNat f ov d9 == ikB (cp σ k 0).toNat f (4 * cp σ k 0 - 2 - ov) d9) 0 (dn + 1))))), (8, .int (iI ov)), (0, .ref y), (1, .ref h), (2, .int (iI k)), (3, .ref q), (6, .ref du)]) F dL_isTold_446 hl rfl (by decide) rfl (fun ls hl => ?_)
                    refine h_goto (tgt := 344) F dL_isTold_449 (by decide) ?_
                    have eq11 : ((dn + 1) : Int) = dn + 1 := by first | rfl | omega | simp
                    exact ih344 (dn + 1) (kc344 + 1) (ks344 + 4)  (up fg 9 ((fg 9) + (bz (misS σ (capCol σ k (cp σ k 2 + ov)) (cp σ k 3 + dn))))) (by omega) (by omega) w8 ho10 (fun q e h9 h09 => by
                        have h9 := hF344 q e h9 (by omega)
                        have h9 := (hn9 q (by omega)).trans h9
                        exact h9) (by omega) (by omega) (fun z h1 h2 => by rw [up_n (by omega)]; exact hg8 z h1 h2) (by rw [up_s, hg9, cnt_s _ (by omega)]; omega) _ _ ls hW hS (by rw [eq11]; exact lv_sub hl [1, 0, 2, 3, 4, 5, 6, 7] rfl)
                  have hsk := hs0.ex (show ext w w8 from fun q e h9 => by have zdu := hdn q e h9; have h9 := hE0 q e h9 ; have h9 := hF332 q e h9 (by omega); have h9 := hF344 q e h9 (by omega); have h9 := (hn9 q (by omega)).trans h9; exact h9)
                  refine lv_iload F.1 F.2.1 dL_isTold_408 (lv_at hl 0 rfl) ?_
                  refine h_ifeqb (tgt := 443) F dL_isTold_410 (by decide) (fun c12 => ?_) (fun c12 => ?_)
                  · have hal : (0 : Int) = bz (al (fun z => al (fun d9 => ikB (cp σ k 0).toNat f z d9 == ikB (cp σ k 0).toNat f (4 * cp σ k 0 - 2 - z) d9) 0 5) 0 (ov) && al (fun d9 => ikB (cp σ k 0).toNat f ov d9 == ikB (cp σ k 0).toNat f (4 * cp σ k 0 - 2 - ov) d9) 0 (dn + 1)) := by rw [al_s _ (by omega), ← Bool.and_assoc, show (al (fun z => al (fun d9 => ikB (cp σ k 0).toNat f z d9 == ikB (cp σ k 0).toNat f (4 * cp σ k 0 - 2 - z) d9) 0 5) 0 (ov) && al (fun d9 => ikB (cp σ k 0).toNat f ov d9 == ikB (cp σ k 0).toNat f (4 * cp σ k 0 - 2 - ov) d9) 0 dn) = false from c12]; rfl
                    refine h_iconst F dL_isTold_443 ?_
                    refine h_top (show (0 : Int) = bz (al (fun z => al (fun d9 => ikB (cp σ k 0).toNat f z d9 == ikB (cp σ k 0).toNat f (4 * cp σ k 0 - 2 - z) d9) 0 5) 0 (ov) && al (fun d9 => ikB (cp σ k 0).toNat f ov d9 == ikB (cp σ k 0).toNat f (4 * cp σ k 0 - 2 - ov) d9) 0 (dn + 1)) from hal) ?_
                    exact join444  _ _ ls  hW hS (lv_sub hl [0, 1, 2, 3, 4, 5, 6, 7] rfl)
                  · have ha0 : (al (fun z => al (fun d9 => ikB (cp σ k 0).toNat f z d9 == ikB (cp σ k 0).toNat f (4 * cp σ k 0 - 2 - z) d9) 0 5) 0 (ov) && al (fun d9 => ikB (cp σ k 0).toNat f ov d9 == ikB (cp σ k 0).toNat f (4 * cp σ k 0 - 2 - ov) d9) 0 dn) = true := c12
                    have hsk := hs0.ex (show ext w w8 from fun q e h9 => by have zdu := hdn q e h9; have h9 := hE0 q e h9 ; have h9 := hF332 q e h9 (by omega); have h9 := hF344 q e h9 (by omega); have h9 := (hn9 q (by omega)).trans h9; exact h9)
                    refine lv_aload_n F.1 F.2.1 dL_isTold_413 rfl (lv_at hl 6 rfl) ?_
                    refine lv_iload F.1 F.2.1 dL_isTold_414 (lv_at hl 2 rfl) ?_
                    refine lv_iload F.1 F.2.1 dL_isTold_416 (lv_at hl 1 rfl) ?_
                    refine cl_RL_258 (As := [.int (iI ov), .int (iI dn)]) (rest := []) F hl (c_X9_ink l X w8 q wd ((cp σ k 0).toNat) (cp σ k 1) (cp σ k 4) (cp σ k 2) (cp σ k 3) f ov dn hcq1 hsk (fun j h1 h2 => by have := hf j h1 (by omega); have := ok5 j h1 (by omega); omega) (by omega) (by omega) (by omega)) hW hS hcq1 rfl rfl ⟨Nat.le_of_ble_eq_true rfl, Nat.le_of_ble_eq_true rfl⟩ (Nat.le_of_ble_eq_true rfl) ⟨(by show kc344 + 1 + 0 ≤ 180; omega), (by show ks344 + 4 + 0 ≤ 760; omega)⟩ dL_isTold_418 (fun w1 H locs hp13 hW hS => ?_)
                    rw [hp13] at hW; clear hp13; clear w1
                    refine lv_aload_n F.1 F.2.1 dL_isTold_421 rfl (lv_at hl 6 rfl) ?_
                    refine lv_aload_n F.1 F.2.1 dL_isTold_422 rfl (lv_at hl 6 rfl) ?_
                    have hsk := hs0.ex (show ext w w8 from fun q e h9 => by have zdu := hdn q e h9; have h9 := hE0 q e h9 ; have h9 := hF332 q e h9 (by omega); have h9 := hF344 q e h9 (by omega); have h9 := (hn9 q (by omega)).trans h9; exact h9)
                    refine cl_RL_252 (As := []) (rest := [.ref q, .int (iI (bz (ikB ((cp σ k 0).toNat) f ov dn)))]) F hl (c_X9_wide l X w8 q wd ((cp σ k 0).toNat) (cp σ k 1) (cp σ k 4) (cp σ k 2) (cp σ k 3) f hcq1 hsk (by omega)) hW hS hcq1 rfl rfl ⟨Nat.le_of_ble_eq_true rfl, Nat.le_of_ble_eq_true rfl⟩ (Nat.le_of_ble_eq_true rfl) ⟨(by show kc344 + 1 + 0 + 0 ≤ 180; omega), (by show ks344 + 4 + 0 + 0 ≤ 760; omega)⟩ dL_isTold_423 (fun w1 H locs hp14 hW hS => ?_)
                    rw [hp14] at hW; clear hp14; clear w1
                    refine h_top (show (4 * (((cp σ k 0).toNat) : Int) - 1 : Int) = 4 * cp σ k 0 - 1 from by omega) ?_
                    refine h_iconst F dL_isTold_426 ?_
                    refine h_isub (a := 4 * cp σ k 0 - 1) (b := 1) F dL_isTold_427 ?_
                    refine h_top (show ((4 * cp σ k 0 - 1) - 1 : Int) = 4 * cp σ k 0 - 2 from by omega) ?_
                    refine lv_iload F.1 F.2.1 dL_isTold_428 (lv_at hl 2 rfl) ?_
                    refine h_isub (a := 4 * cp σ k 0 - 2) (b := ov) F dL_isTold_430 ?_
                    refine lv_iload F.1 F.2.1 dL_isTold_431 (lv_at hl 1 rfl) ?_
                    refine cl_RL_258 (As := [.int (iI ((4 * cp σ k 0 - 2) - ov)), .int (iI dn)]) (rest := [.int (iI (bz (ikB ((cp σ k 0).toNat) f ov dn)))]) F hl (c_X9_ink l X w8 q wd ((cp σ k 0).toNat) (cp σ k 1) (cp σ k 4) (cp σ k 2) (cp σ k 3) f ((4 * cp σ k 0 - 2) - ov) dn hcq1 hsk (fun j h1 h2 => by have := hf j h1 (by omega); have := ok5 j h1 (by omega); omega) (by omega) (by omega) (by omega)) hW hS hcq1 rfl rfl ⟨Nat.le_of_ble_eq_true rfl, Nat.le_of_ble_eq_true rfl⟩ (Nat.le_of_ble_eq_true rfl) ⟨(by show kc344 + 1 + 0 + 0 + 0 ≤ 180; omega), (by show ks344 + 4 + 0 + 0 + 0 ≤ 760; omega)⟩ dL_isTold_433 (fun w1 H locs hp15 hW hS => ?_)
                    rw [hp15] at hW; clear hp15; clear w1
                    refine h_icne (tgt := 443) F dL_isTold_436 (by decide) (by have := bz_r (ikB ((cp σ k 0).toNat) f ov dn); have := bz_r (ikB ((cp σ k 0).toNat) f ((4 * cp σ k 0 - 2) - ov) dn);  omega) (fun c16 => ?_) (fun c16 => ?_)
                    · have hal : (0 : Int) = bz (al (fun z => al (fun d9 => ikB (cp σ k 0).toNat f z d9 == ikB (cp σ k 0).toNat f (4 * cp σ k 0 - 2 - z) d9) 0 5) 0 (ov) && al (fun d9 => ikB (cp σ k 0).toNat f ov d9 == ikB (cp σ k 0).toNat f (4 * cp σ k 0 - 2 - ov) d9) 0 (dn + 1)) := by rw [al_s _ (by omega), ← Bool.and_assoc, ha0, beq_ne (fun z9 => c16 (by rw [z9]))]; rfl
                      refine h_iconst F dL_isTold_443 ?_
                      refine h_top (show (0 : Int) = bz (al (fun z => al (fun d9 => ikB (cp σ k 0).toNat f z d9 == ikB (cp σ k 0).toNat f (4 * cp σ k 0 - 2 - z) d9) 0 5) 0 (ov) && al (fun d9 => ikB (cp σ k 0).toNat f ov d9 == ikB (cp σ k 0).toNat f (4 * cp σ k 0 - 2 - ov) d9) 0 (dn + 1)) from hal) ?_
                      exact join444  _ _ ls  hW hS (lv_sub hl [0, 1, 2, 3, 4, 5, 6, 7] rfl)
                    · have hal : (1 : Int) = bz (al (fun z => al (fun d9 => ikB (cp σ k 0).toNat f z d9 == ikB (cp σ k 0).toNat f (4 * cp σ k 0 - 2 - z) d9) 0 5) 0 (ov) && al (fun d9 => ikB (cp σ k 0).toNat f ov d9 == ikB (cp σ k 0).toNat f (4 * cp σ k 0 - 2 - ov) d9) 0 (dn + 1)) := by rw [al_s _ (by omega), ← Bool.and_assoc, ha0, beq_bz c16]; rfl
                      refine h_iconst F dL_isTold_439 ?_
                      refine h_goto (tgt := 444) F dL_isTold_440 (by decide) ?_
                      refine h_top (show (1 : Int) = bz (al (fun z => al (fun d9 => ikB (cp σ k 0).toNat f z d9 == ikB (cp σ k 0).toNat f (4 * cp σ k 0 - 2 - z) d9) 0 5) 0 (ov) && al (fun d9 => ikB (cp σ k 0).toNat f ov d9 == ikB (cp σ k 0).toNat f (4 * cp σ k 0 - 2 - ov) d9) 0 (dn + 1)) from hal) ?_
                      exact join444  _ _ ls  hW hS (lv_sub hl [0, 1, 2, 3, 4, 5, 6, 7] rfl)
                refine h_ifeqb (tgt := 405) F dL_isTold_398 (by decide) (fun c17 => ?_) (fun c17 => ?_)
                · have hm9 := c17
                  refine h_iconst F dL_isTold_405 ?_
                  refine h_top (show (0 : Int) = bz (misS σ (capCol σ k (cp σ k 2 + ov)) (cp σ k 3 + dn)) from by rw [hm9]; rfl) ?_
                  exact join406  _ _ ls  hW hS (lv_sub hl [0, 1, 2, 3, 4, 5, 6, 7] rfl)
                · have hm9 := c17
                  refine h_iconst F dL_isTold_401 ?_
                  refine h_goto (tgt := 406) F dL_isTold_402 (by decide) ?_
                  refine h_top (show (1 : Int) = bz (misS σ (capCol σ k (cp σ k 2 + ov)) (cp σ k 3 + dn)) from by rw [hm9]; rfl) ?_
                  exact join406  _ _ ls  hW hS (lv_sub hl [0, 1, 2, 3, 4, 5, 6, 7] rfl)
              refine lv_aload_n F.1 F.2.1 dL_isTold_357 rfl (lv_at hl 6 rfl) ?_
              refine gf_RL_120 F hW hcq1 rfl dL_isTold_358 ?_
              refine h_ifne (tgt := 374) F dL_isTold_361 (by decide) (by omega) (fun c18 => ?_) (fun c18 => ?_)
              · refine lv_aload_n F.1 F.2.1 dL_isTold_374 rfl (lv_at hl 4 rfl) ?_
                refine gf_RL_60 F hW hh1 rfl dL_isTold_375 ?_
                refine h_iconst F dL_isTold_378 ?_
                refine h_isub (a := σ 0) (b := 1) F dL_isTold_379 ?_
                refine lv_aload_n F.1 F.2.1 dL_isTold_380 rfl (lv_at hl 6 rfl) ?_
                refine gf_RL_129 F hW hcq1 rfl dL_isTold_381 ?_
                refine h_isub (a := (σ 0) - 1) (b := cp σ k 2) F dL_isTold_384 ?_
                refine lv_iload F.1 F.2.1 dL_isTold_385 (lv_at hl 2 rfl) ?_
                refine h_isub (a := ((σ 0) - 1) - (cp σ k 2)) (b := ov) F dL_isTold_387 ?_
                refine h_top (show ((((σ 0) - 1) - (cp σ k 2)) - ov : Int) = capCol σ k (cp σ k 2 + ov) from by unfold capCol turnS; first | (rw [if_pos (by omega)]) | (rw [if_neg (by omega)]; omega)) ?_
                exact join388  _ _ ls  hW hS (lv_sub hl [0, 1, 2, 3, 4, 5, 6, 7] rfl)
              · refine lv_aload_n F.1 F.2.1 dL_isTold_364 rfl (lv_at hl 6 rfl) ?_
                refine gf_RL_129 F hW hcq1 rfl dL_isTold_365 ?_
                refine lv_iload F.1 F.2.1 dL_isTold_368 (lv_at hl 2 rfl) ?_
                refine h_iadd (a := cp σ k 2) (b := ov) F dL_isTold_370 ?_
                refine h_goto (tgt := 388) F dL_isTold_371 (by decide) ?_
                refine h_top (show ((cp σ k 2) + ov : Int) = capCol σ k (cp σ k 2 + ov) from by unfold capCol turnS; first | (rw [if_pos (by omega)]) | (rw [if_neg (by omega)]; omega)) ?_
                exact join388  _ _ ls  hW hS (lv_sub hl [0, 1, 2, 3, 4, 5, 6, 7] rfl)
        have eq19 : (bz (al (fun z => al (fun d9 => ikB (cp σ k 0).toNat f z d9 == ikB (cp σ k 0).toNat f (4 * cp σ k 0 - 2 - z) d9) 0 5) 0 (ov) && al (fun d9 => ikB (cp σ k 0).toNat f ov d9 == ikB (cp σ k 0).toNat f (4 * cp σ k 0 - 2 - ov) d9) 0 0) : Int) = bz (al (fun z => al (fun d9 => ikB (cp σ k 0).toNat f z d9 == ikB (cp σ k 0).toNat f (4 * cp σ k 0 - 2 - z) d9) 0 5) 0 (ov)) := by rw [al_0, Bool.and_true]
        exact loop344 ((5 - 0) + 1 : Int).toNat 0 (kc332 + 0) (ks332 + 0)  fe (by omega) (by omega) w7 hA332_0 (fun q e h9 h09 => by
            exact h9) (by omega) (by omega) he8 (he9.trans (by rw [cnt_0]; omega)) _ _ ls hW hS (by rw [eq19]; exact lv_sub hl [1, 0, 2, 3, 4, 5, 6, 7] rfl)
  have eq20 : (bz (al (fun z => al (fun d9 => ikB (cp σ k 0).toNat f z d9 == ikB (cp σ k 0).toNat f (4 * cp σ k 0 - 2 - z) d9) 0 5) 0 (0)) : Int) = 1 := by rw [al_0]; rfl
  exact loop332 ((4 * cp σ k 0 - 1 - 0) + 1 : Int).toNat 0 (kc0) (ks0)  fd (by omega) (by omega) w1 hdu (fun q e h9 h09 => by
      exact h9) (by omega) (by omega) hd8 (hd9.trans (sm_0 _ _).symm) _ _ ls hW hS (by rw [eq20]; exact lv_sub hl [1, 0, 2, 3, 4, 5, 6] rfl)
set_option maxHeartbeats 4000000 in
set_option maxRecDepth 100000 in
theorem c_L_isTold (l : Launch) (X : Cx) (w : Wo) (y h q wd : Nat) (N : Nat → Prop) (su : Int) (σ f : Int → Int) (k : Int) (hO : ownN X w N h σ) (hNy : ∀ q, y ≤ q → q < y + 321 → N q) (hY : clO X w y su) (hL : loomAt X w (y + 1) σ) (hk : 0 ≤ k ∧ k < σ 5) (hcq : w q = some (.inr (9, [.ref wd, .int (iI (cp σ k 1)), .int (iI (cp σ k 4)), .int (iI (cp σ k 2)), .int (iI (cp σ k 3))]))) (hs : str X w wd (cp σ k 0).toNat f) (hf : ∀ j, 0 ≤ j → j < cp σ k 0 → f j = cp σ k (5 + j) + 97) : CM l X yL_isTold cL_isTold 12 (some (.boolean)) (rmG 7 180 760 156) [.ref y, .ref h, .int (iI k), .ref q] w (some (.int (iI (bz true)))) (fun w' => w' = w) := by
  refine CM.of (lv := [(0, .ref y), (1, .ref h), (2, .int (iI k)), (3, .ref q)]) (by decide) (Nat.le_of_ble_eq_true rfl) rfl (fun p e s m below meth c ls F hr hlk hin hW hS hl => ?_)
  have hZ0 := hW.2.2
  have hB9 := hW.1.2
  clear hin
  have hO0 := hO
  have hcq0 := hcq
  have hs0 := hs
  obtain ⟨st, lc, ec, kc, lr, er, kr, cd, rwa, hPw0, hern⟩ := hO.A.P
  clear hern
  obtain ⟨hh0, -, -, -, -, -, -, -, -, ⟨hWF0, hw0, hw1⟩, -, -, -⟩ := hPw0
  obtain ⟨wf0, wf1, wf2, wf3, wf4, wf5⟩ := hWF0.1
  have hck := hWF0.2.2.1 k hk.1 hk.2
  obtain ⟨ok0, ok1, ok2, ok3, ok4, ok5⟩ := hck
  have okS : 0 ≤ cp σ k 1 ∧ cp σ k 1 ≤ 1 := by omega
  clear ok1
  have hck := hWF0.2.2.1 k hk.1 hk.2
  refine lv_aload_n F.1 F.2.1 dL_isTold_0 rfl (lv_at hl 3 rfl) ?_
  refine gf_RL_117 F hW hcq rfl dL_isTold_1 ?_
  refine cs_RL_7 (As := []) (rest := []) F hl (cS_len l X w wd ((cp σ k 0).toNat) f hs (by omega)) hW hS (str.rc (n := (cp σ k 0).toNat) (f := f) hs hW hZ0 hS) rfl rfl ⟨Nat.le_of_ble_eq_true rfl, Nat.le_of_ble_eq_true rfl⟩ (Nat.le_of_ble_eq_true rfl) ⟨(by show 0 + 0 ≤ 180; omega), (by show 0 + 0 ≤ 760; omega)⟩ dL_isTold_4 (fun w1 H locs hp1 hW hS => ?_)
  rw [hp1] at hW; clear hp1; clear w1
  refine h_top (show (((((cp σ k 0).toNat) : Nat) : Int) : Int) = cp σ k 0 from by omega) ?_
  refine lv_istore (lv' := [(4, .int (iI (cp σ k 0))), (0, .ref y), (1, .ref h), (2, .int (iI k)), (3, .ref q)]) F.1 F.2.1 dL_isTold_7 hl (by decide) rfl (fun ls hl => ?_)
  have join27 : ∀ (H : Heap) (locs : List Loc) (ls : Array Slot), Wd X w s H → va_S (cxA X) s.heap H locs → lv_has ls 12 [(4, .int (iI (cp σ k 0))), (0, .ref y), (1, .ref h), (2, .int (iI k)), (3, .ref q)] → W p l e (rmG 7 180 760 156) s m (List.toArray [.ref y, .ref h, .int (iI k), .ref q]) below meth c H locs (0 + 0) (0 + 0) (MX X below (List.toArray [.ref y, .ref h, .int (iI k), .ref q]) s 180 760 (some (.int (iI (bz true)))) (fun w' => w' = w)) (F0 m 27 ls [.int (iI (bz (legS σ k)))]) := by
    intro  H locs ls  hW hS hl
    refine lv_istore (lv' := [(5, .int (iI (bz (legS σ k)))), (4, .int (iI (cp σ k 0))), (0, .ref y), (1, .ref h), (2, .int (iI k)), (3, .ref q)]) F.1 F.2.1 dL_isTold_27 hl (by decide) rfl (fun ls hl => ?_)
    refine h_bipush F dL_isTold_29 rfl ?_
    refine q_newP (N := 10) (k := 0) (atype := .int) (x := .inl (fun j : Nat => iI ((fun _ : Int => 0) (j : Int)))) F hW hS haCI rfl (hxI _) rfl (by omega) ⟨(by show 0 + 0 + 1 ≤ 180; omega), (by show 0 + 0 + 10 ≤ 760; omega)⟩ dL_isTold_31 (fun du w2 H hfr5 hcx6 ha4 hn3 hW hS => ?_)
    have ha4 : w2 du = some (aZ X 10 (fun _ => 0)) := ha4
    have hb7 := hfr5 _ _ hh0
    have hb8 := hfr5 _ _ hcq
    have hh0 := (hn3 _ (by omega)).trans hh0
    have hcq := (hn3 _ (by omega)).trans hcq
    have hdun : nkn w du := frs.nk hfr5
    refine lv_dup F.1 F.2.1 dL_isTold_33 rfl ?_
    refine h_iconst F dL_isTold_34 ?_
    refine lv_iload F.1 F.2.1 dL_isTold_35 (lv_at hl 1 rfl) ?_
    refine h_iast F hW hS ha4 (by omega) (by omega) dL_isTold_37 (fun w9 H locs ho11 hn10 hW hS => ?_)
    have hh0 := (hn10 _ (by omega)).trans hh0
    have hcq := (hn10 _ (by omega)).trans hcq
    refine lv_dup F.1 F.2.1 dL_isTold_38 rfl ?_
    refine h_iconst F dL_isTold_39 ?_
    refine lv_aload_n F.1 F.2.1 dL_isTold_40 rfl (lv_at hl 5 rfl) ?_
    refine gf_RL_120 F hW hcq rfl dL_isTold_41 ?_
    refine h_iast F hW hS ho11 (by omega) (by omega) dL_isTold_44 (fun w12 H locs ho14 hn13 hW hS => ?_)
    have hh0 := (hn13 _ (by omega)).trans hh0
    have hcq := (hn13 _ (by omega)).trans hcq
    refine lv_dup F.1 F.2.1 dL_isTold_45 rfl ?_
    refine h_iconst F dL_isTold_46 ?_
    refine lv_aload_n F.1 F.2.1 dL_isTold_47 rfl (lv_at hl 5 rfl) ?_
    refine gf_RL_129 F hW hcq rfl dL_isTold_48 ?_
    refine h_iast F hW hS ho14 (by omega) (by omega) dL_isTold_51 (fun w15 H locs ho17 hn16 hW hS => ?_)
    have hh0 := (hn16 _ (by omega)).trans hh0
    have hcq := (hn16 _ (by omega)).trans hcq
    refine lv_dup F.1 F.2.1 dL_isTold_52 rfl ?_
    refine h_iconst F dL_isTold_53 ?_
    refine lv_aload_n F.1 F.2.1 dL_isTold_54 rfl (lv_at hl 5 rfl) ?_
    refine gf_RL_132 F hW hcq rfl dL_isTold_55 ?_
    refine h_iast F hW hS ho17 (by omega) (by omega) dL_isTold_58 (fun w18 H locs ho20 hn19 hW hS => ?_)
    have hh0 := (hn19 _ (by omega)).trans hh0
    have hcq := (hn19 _ (by omega)).trans hcq
    refine lv_dup F.1 F.2.1 dL_isTold_59 rfl ?_
    refine h_iconst F dL_isTold_60 ?_
    refine lv_aload_n F.1 F.2.1 dL_isTold_61 rfl (lv_at hl 5 rfl) ?_
    refine gf_RL_137 F hW hcq rfl dL_isTold_62 ?_
    refine h_iast F hW hS ho20 (by omega) (by omega) dL_isTold_65 (fun w21 H locs ho23 hn22 hW hS => ?_)
    have hh0 := (hn22 _ (by omega)).trans hh0
    have hcq := (hn22 _ (by omega)).trans hcq
    refine lv_dup F.1 F.2.1 dL_isTold_66 rfl ?_
    refine h_iconst F dL_isTold_67 ?_
    refine h_iconst F dL_isTold_68 ?_
    refine h_iconst F dL_isTold_69 ?_
    have hAk : ownA X w21 h σ := hO0.A.ex (show ext w w21 from fun q e h9 => by have z9_1 := hfr5 q e h9; have h9 := (hn3 q (by omega)).trans h9; have h9 := (hn10 q (by omega)).trans h9; have h9 := (hn13 q (by omega)).trans h9; have h9 := (hn16 q (by omega)).trans h9; have h9 := (hn19 q (by omega)).trans h9; have h9 := (hn22 q (by omega)).trans h9; exact h9)
    refine lv_aload_n F.1 F.2.1 dL_isTold_70 rfl (lv_at hl 3 rfl) ?_
    refine cl_RL_186 (As := []) (rest := [.int (iI 5), .int (iI 0), .int (iI 5), .ref du, .ref du]) F hl (c_X10_rows l X w21 h σ hAk) hW hS hh0 rfl rfl ⟨Nat.le_of_ble_eq_true rfl, Nat.le_of_ble_eq_true rfl⟩ (Nat.le_of_ble_eq_true rfl) ⟨(by show 0 + 0 + 1 + 0 ≤ 180; omega), (by show 0 + 0 + 10 + 0 ≤ 760; omega)⟩ dL_isTold_71 (fun w1 H locs hp24 hW hS => ?_)
    rw [hp24] at hW; clear hp24; clear w1
    refine lv_aload_n F.1 F.2.1 dL_isTold_74 rfl (lv_at hl 5 rfl) ?_
    refine gf_RL_132 F hW hcq rfl dL_isTold_75 ?_
    refine h_isub (a := σ 4) (b := cp σ k 3) F dL_isTold_78 ?_
    refine h_mmin (index := 230) (a := 5) (b := (σ 4) - (cp σ k 3)) F hl km_RL_230 (Nat.le_of_ble_eq_true rfl) (Nat.le_of_ble_eq_true rfl) (by show 0 + 0 + 1 + 0 ≤ 180; omega) (by show 0 + 0 + 10 + 0 ≤ 760; omega) (by omega) dL_isTold_79 ?_
    refine h_mmax (index := 235) (a := 0) (b := min 5 ((σ 4) - (cp σ k 3))) F hl km_RL_235 (Nat.le_of_ble_eq_true rfl) (Nat.le_of_ble_eq_true rfl) (by show 0 + 0 + 1 + 0 ≤ 180; omega) (by show 0 + 0 + 10 + 0 ≤ 760; omega) (by omega) dL_isTold_82 ?_
    refine h_iast F hW hS ho23 (by omega) (by omega) dL_isTold_85 (fun w25 H locs ho27 hn26 hW hS => ?_)
    have hh0 := (hn26 _ (by omega)).trans hh0
    have hcq := (hn26 _ (by omega)).trans hcq
    refine lv_dup F.1 F.2.1 dL_isTold_86 rfl ?_
    refine h_bipush F dL_isTold_87 rfl ?_
    refine h_iconst F dL_isTold_89 ?_
    refine h_iast F hW hS ho27 (by omega) (by omega) dL_isTold_90 (fun w28 H locs ho30 hn29 hW hS => ?_)
    have hh0 := (hn29 _ (by omega)).trans hh0
    have hcq := (hn29 _ (by omega)).trans hcq
    refine lv_dup F.1 F.2.1 dL_isTold_91 rfl ?_
    refine h_bipush F dL_isTold_92 rfl ?_
    refine h_iconst F dL_isTold_94 ?_
    refine h_iast F hW hS ho30 (by omega) (by omega) dL_isTold_95 (fun w31 H locs ho33 hn32 hW hS => ?_)
    have hh0 := (hn32 _ (by omega)).trans hh0
    have hcq := (hn32 _ (by omega)).trans hcq
    refine lv_dup F.1 F.2.1 dL_isTold_96 rfl ?_
    refine h_bipush F dL_isTold_97 rfl ?_
    refine h_iconst F dL_isTold_99 ?_
    refine h_iast F hW hS ho33 (by omega) (by omega) dL_isTold_100 (fun w34 H locs ho36 hn35 hW hS => ?_)
    have hh0 := (hn35 _ (by omega)).trans hh0
    have hcq := (hn35 _ (by omega)).trans hcq
    refine lv_dup F.1 F.2.1 dL_isTold_101 rfl ?_
    refine h_bipush F dL_isTold_102 rfl ?_
    refine h_iconst F dL_isTold_104 ?_
    refine h_iast F hW hS ho36 (by omega) (by omega) dL_isTold_105 (fun w37 H locs ho39 hn38 hW hS => ?_)
    have hh0 := (hn38 _ (by omega)).trans hh0
    have hcq := (hn38 _ (by omega)).trans hcq
    refine lv_astore (lv' := [(6, .ref du), (5, .int (iI (bz (legS σ k)))), (4, .int (iI (cp σ k 0))), (0, .ref y), (1, .ref h), (2, .int (iI k)), (3, .ref q)]) F.1 F.2.1 dL_isTold_106 hl (by decide) rfl (fun ls hl => ?_)
    refine h_iconst F dL_isTold_108 ?_
    refine lv_istore (lv' := [(7, .int (iI 0)), (6, .ref du), (5, .int (iI (bz (legS σ k)))), (4, .int (iI (cp σ k 0))), (0, .ref y), (1, .ref h), (2, .int (iI k)), (3, .ref q)]) F.1 F.2.1 dL_isTold_109 hl (by decide) rfl (fun ls hl => ?_)
    have loop111 : ∀ (n9 : Nat) (i : Int) (kc111 ks111 : Nat) (fd : Int → Int), (hrg : 0 ≤ i ∧ i ≤ cp σ k 0) → (hms : cp σ k 0 - i < (n9 : Int)) → (w6 : Wo) → (hA111_0 : w6 du = some (aZ X 10 fd)) → (hF111 : ∀ (q : Nat) (e : va_E), w37 q = some e → q ≠ du → w6 q = some e) → (hkc111 : ((kc111 : Nat) : Int) ≤ ((0 + 0 + 1 + 0 : Nat) : Int) + 2 * i) → (hks111 : ((ks111 : Nat) : Int) ≤ ((0 + 0 + 10 + 0 : Nat) : Int) + 8 * i) → (hd5 : ∀ z : Int, 0 ≤ z → z < 6 → fd z = capQ σ k z) → (hd6 : fd 6 = cnt (fun z => (legS σ k && decide (rdS σ k z false = tdS σ k z))) 0 (i)) → (hd7 : fd 7 = cnt (fun z => (legS σ k && decide (rdS σ k z true = tdS σ k z))) 0 (i)) → (hd8 : fd 8 = cnt (fun z => (legS σ k && decide (ltrS (picS σ k z true) = tdS σ k z))) 0 (i)) → (hd9 : fd 9 = 0) → (H : Heap) → (locs : List Loc) → (ls : Array Slot) → Wd X w6 s H → va_S (cxA X) s.heap H locs → lv_has ls 12 [(7, .int (iI i)), (6, .ref du), (5, .int (iI (bz (legS σ k)))), (4, .int (iI (cp σ k 0))), (0, .ref y), (1, .ref h), (2, .int (iI k)), (3, .ref q)] → W p l e (rmG 7 180 760 156) s m (List.toArray [.ref y, .ref h, .int (iI k), .ref q]) below meth c H locs kc111 ks111 (MX X below (List.toArray [.ref y, .ref h, .int (iI k), .ref q]) s 180 760 (some (.int (iI (bz true)))) (fun w' => w' = w)) (F0 m 111 ls []) := by
      intro n9
      induction n9 with
      | zero => intro i kc111 ks111  fd  hrg hms; exfalso; omega
      | succ n9 ih111 =>
        intro i kc111 ks111  fd  hrg hms w6 hA111_0 hF111 hkc111 hks111 hd5 hd6 hd7 hd8 hd9 H locs ls hW hS hl
        have hh0 := hF111 _ _ hh0 (by omega)
        have hcq := hF111 _ _ hcq (by omega)
        have hAk : ownA X w6 h σ := hO0.A.ex (show ext w w6 from fun q e h9 => by have z9_1 := hfr5 q e h9; have h9 := (hn3 q (by omega)).trans h9; have h9 := (hn10 q (by omega)).trans h9; have h9 := (hn13 q (by omega)).trans h9; have h9 := (hn16 q (by omega)).trans h9; have h9 := (hn19 q (by omega)).trans h9; have h9 := (hn22 q (by omega)).trans h9; have h9 := (hn26 q (by omega)).trans h9; have h9 := (hn29 q (by omega)).trans h9; have h9 := (hn32 q (by omega)).trans h9; have h9 := (hn35 q (by omega)).trans h9; have h9 := (hn38 q (by omega)).trans h9; have h9 := hF111 q e h9 (by omega); exact h9)
        have hsk := hs0.ex (show ext w w6 from fun q e h9 => by have z9_1 := hfr5 q e h9; have h9 := (hn3 q (by omega)).trans h9; have h9 := (hn10 q (by omega)).trans h9; have h9 := (hn13 q (by omega)).trans h9; have h9 := (hn16 q (by omega)).trans h9; have h9 := (hn19 q (by omega)).trans h9; have h9 := (hn22 q (by omega)).trans h9; have h9 := (hn26 q (by omega)).trans h9; have h9 := (hn29 q (by omega)).trans h9; have h9 := (hn32 q (by omega)).trans h9; have h9 := (hn35 q (by omega)).trans h9; have h9 := (hn38 q (by omega)).trans h9; have h9 := hF111 q e h9 (by omega); exact h9)
        refine lv_iload F.1 F.2.1 dL_isTold_111 (lv_at hl 0 rfl) ?_
        refine lv_iload F.1 F.2.1 dL_isTold_113 (lv_at hl 3 rfl) ?_
        refine h_icge (tgt := 326) F dL_isTold_115 (by decide) (by omega) (fun c40 => ?_) (fun c40 => ?_)
        · exact sg_told_326 l X w w6 y h q wd N su σ f k hO hNy hY hL hk hcq0 hs hf du fd hdun hA111_0 (told_9 hd5 (hd6.trans (by rw [show i = cp σ k 0 by omega]; rfl)) (hd7.trans (by rw [show i = cp σ k 0 by omega]; rfl)) (hd8.trans (by rw [show i = cp σ k 0 by omega]; rfl))) hd9 (fun q e h9  => by have z9_1 := hfr5 q e h9; have h9 := (hn3 q (by omega)).trans h9; have h9 := (hn10 q (by omega)).trans h9; have h9 := (hn13 q (by omega)).trans h9; have h9 := (hn16 q (by omega)).trans h9; have h9 := (hn19 q (by omega)).trans h9; have h9 := (hn22 q (by omega)).trans h9; have h9 := (hn26 q (by omega)).trans h9; have h9 := (hn29 q (by omega)).trans h9; have h9 := (hn32 q (by omega)).trans h9; have h9 := (hn35 q (by omega)).trans h9; have h9 := (hn38 q (by omega)).trans h9; have h9 := hF111 q e h9 (by omega); exact h9) F hr hlk hZ0 hB9 (by omega) (by omega) hW hS (lv_sub hl [4, 5, 6, 7, 1] rfl)
        · have hfi := hf i (by omega) (by omega)
          have hoi := ok5 i (by omega) (by omega)
          have hti := tdS_r hck (j := i) (by omega)
          have hl3 : -1 ≤ letQ σ k i 3 ∧ letQ σ k i 3 < 32768 := lq_r hck (by omega) (by omega)
          refine lv_aload_n F.1 F.2.1 dL_isTold_118 rfl (lv_at hl 7 rfl) ?_
          refine gf_RL_117 F hW hcq rfl dL_isTold_119 ?_
          refine lv_iload F.1 F.2.1 dL_isTold_122 (lv_at hl 0 rfl) ?_
          refine cs_RL_13 (As := [.int (iI i)]) (rest := []) F hl (cS_chr l X w6 wd ((cp σ k 0).toNat) f i hsk (fun j h1 h2 => by have := hf j h1 (by omega); have := ok5 j h1 (by omega); omega) (by omega)) hW hS (str.rc (n := (cp σ k 0).toNat) (f := f) hsk hW hZ0 hS) rfl rfl ⟨Nat.le_of_ble_eq_true rfl, Nat.le_of_ble_eq_true rfl⟩ (Nat.le_of_ble_eq_true rfl) ⟨(by show kc111 + 0 ≤ 180; omega), (by show ks111 + 0 ≤ 760; omega)⟩ dL_isTold_124 (fun w1 H locs hp41 hW hS => ?_)
          rw [hp41] at hW; clear hp41; clear w1
          refine h_bipush F dL_isTold_127 rfl ?_
          refine h_isub (a := f i) (b := 97) F dL_isTold_129 ?_
          refine h_iconst F dL_isTold_130 ?_
          refine h_iadd (a := (f i) - 97) (b := 1) F dL_isTold_131 ?_
          refine h_top (show (((f i) - 97) + 1 : Int) = tdS σ k i from by rw [hfi]; unfold tdS; omega) ?_
          refine lv_istore (lv' := [(8, .int (iI (tdS σ k i))), (7, .int (iI i)), (6, .ref du), (5, .int (iI (bz (legS σ k)))), (4, .int (iI (cp σ k 0))), (0, .ref y), (1, .ref h), (2, .int (iI k)), (3, .ref q)]) F.1 F.2.1 dL_isTold_132 hl (by decide) rfl (fun ls hl => ?_)
          have join151 : ∀ (H : Heap) (locs : List Loc) (ls : Array Slot), Wd X w6 s H → va_S (cxA X) s.heap H locs → lv_has ls 12 [(8, .int (iI (tdS σ k i))), (7, .int (iI i)), (6, .ref du), (5, .int (iI (bz (legS σ k)))), (4, .int (iI (cp σ k 0))), (0, .ref y), (1, .ref h), (2, .int (iI k)), (3, .ref q)] → W p l e (rmG 7 180 760 156) s m (List.toArray [.ref y, .ref h, .int (iI k), .ref q]) below meth c H locs (kc111 + 0) (ks111 + 0) (MX X below (List.toArray [.ref y, .ref h, .int (iI k), .ref q]) s 180 760 (some (.int (iI (bz true)))) (fun w' => w' = w)) (F0 m 151 ls [.int (iI (letQ σ k i 3))]) := by
            intro  H locs ls  hW hS hl
            refine lv_istore (lv' := [(9, .int (iI (letQ σ k i 3))), (8, .int (iI (tdS σ k i))), (7, .int (iI i)), (6, .ref du), (5, .int (iI (bz (legS σ k)))), (4, .int (iI (cp σ k 0))), (0, .ref y), (1, .ref h), (2, .int (iI k)), (3, .ref q)]) F.1 F.2.1 dL_isTold_151 hl (by decide) rfl (fun ls hl => ?_)
            refine h_iconst F dL_isTold_153 ?_
            refine q_newP (N := 4) (k := 0) (atype := .int) (x := .inl (fun j : Nat => iI ((fun _ : Int => 0) (j : Int)))) F hW hS haCI rfl (hxI _) rfl (by omega) ⟨(by show kc111 + 0 + 1 ≤ 180; omega), (by show ks111 + 0 + 4 ≤ 760; omega)⟩ dL_isTold_154 (fun to w42 H hfr45 hcx46 ha44 hn43 hW hS => ?_)
            have ha44 : w42 to = some (aZ X 4 (fun _ => 0)) := ha44
            have hb47 := hfr45 _ _ hh0
            have hb48 := hfr45 _ _ hcq
            have hb49 := hfr45 _ _ hA111_0
            have hh0 := (hn43 _ (by omega)).trans hh0
            have hcq := (hn43 _ (by omega)).trans hcq
            have hA111_0 := (hn43 _ (by omega)).trans hA111_0
            refine lv_dup F.1 F.2.1 dL_isTold_156 rfl ?_
            refine h_iconst F dL_isTold_157 ?_
            refine lv_iload F.1 F.2.1 dL_isTold_158 (lv_at hl 1 rfl) ?_
            refine h_iast F hW hS ha44 (by omega) (by omega) dL_isTold_160 (fun w50 H locs ho52 hn51 hW hS => ?_)
            have hh0 := (hn51 _ (by omega)).trans hh0
            have hcq := (hn51 _ (by omega)).trans hcq
            have hA111_0 := (hn51 _ (by omega)).trans hA111_0
            refine lv_dup F.1 F.2.1 dL_isTold_161 rfl ?_
            refine h_iconst F dL_isTold_162 ?_
            have join177 : ∀ (H : Heap) (locs : List Loc) (ls : Array Slot), Wd X w50 s H → va_S (cxA X) s.heap H locs → lv_has ls 12 [(9, .int (iI (letQ σ k i 3))), (8, .int (iI (tdS σ k i))), (7, .int (iI i)), (6, .ref du), (5, .int (iI (bz (legS σ k)))), (4, .int (iI (cp σ k 0))), (0, .ref y), (1, .ref h), (2, .int (iI k)), (3, .ref q)] → W p l e (rmG 7 180 760 156) s m (List.toArray [.ref y, .ref h, .int (iI k), .ref q]) below meth c H locs (kc111 + 0 + 1) (ks111 + 0 + 4) (MX X below (List.toArray [.ref y, .ref h, .int (iI k), .ref q]) s 180 760 (some (.int (iI (bz true)))) (fun w' => w' = w)) (F0 m 177 ls [.int (iI (letQ σ k i 1)), .int (iI 1), .ref to, .ref to]) := by
              intro  H locs ls  hW hS hl
              refine h_iast F hW hS ho52 (by omega) (by omega) dL_isTold_177 (fun w53 H locs ho55 hn54 hW hS => ?_)
              have hh0 := (hn54 _ (by omega)).trans hh0
              have hcq := (hn54 _ (by omega)).trans hcq
              have hA111_0 := (hn54 _ (by omega)).trans hA111_0
              refine lv_dup F.1 F.2.1 dL_isTold_178 rfl ?_
              refine h_iconst F dL_isTold_179 ?_
              have join197 : ∀ (H : Heap) (locs : List Loc) (ls : Array Slot), Wd X w53 s H → va_S (cxA X) s.heap H locs → lv_has ls 12 [(9, .int (iI (letQ σ k i 3))), (8, .int (iI (tdS σ k i))), (7, .int (iI i)), (6, .ref du), (5, .int (iI (bz (legS σ k)))), (4, .int (iI (cp σ k 0))), (0, .ref y), (1, .ref h), (2, .int (iI k)), (3, .ref q)] → W p l e (rmG 7 180 760 156) s m (List.toArray [.ref y, .ref h, .int (iI k), .ref q]) below meth c H locs (kc111 + 0 + 1) (ks111 + 0 + 4) (MX X below (List.toArray [.ref y, .ref h, .int (iI k), .ref q]) s 180 760 (some (.int (iI (bz true)))) (fun w' => w' = w)) (F0 m 197 ls [.int (iI (letQ σ k i 2)), .int (iI 2), .ref to, .ref to]) := by
                intro  H locs ls  hW hS hl
                refine h_iast F hW hS ho55 (by omega) (by omega) dL_isTold_197 (fun w56 H locs ho58 hn57 hW hS => ?_)
                have hh0 := (hn57 _ (by omega)).trans hh0
                have hcq := (hn57 _ (by omega)).trans hcq
                have hA111_0 := (hn57 _ (by omega)).trans hA111_0
                refine lv_dup F.1 F.2.1 dL_isTold_198 rfl ?_
                refine h_iconst F dL_isTold_199 ?_
                refine lv_iload F.1 F.2.1 dL_isTold_200 (lv_at hl 0 rfl) ?_
                refine h_iast F hW hS ho58 (by omega) (by omega) dL_isTold_202 (fun w59 H locs ho61 hn60 hW hS => ?_)
                have hh0 := (hn60 _ (by omega)).trans hh0
                have hcq := (hn60 _ (by omega)).trans hcq
                have hA111_0 := (hn60 _ (by omega)).trans hA111_0
                refine lv_astore (lv' := [(10, .ref to), (9, .int (iI (letQ σ k i 3))), (8, .int (iI (tdS σ k i))), (7, .int (iI i)), (6, .ref du), (5, .int (iI (bz (legS σ k)))), (4, .int (iI (cp σ k 0))), (0, .ref y), (1, .ref h), (2, .int (iI k)), (3, .ref q)]) F.1 F.2.1 dL_isTold_203 hl (by decide) rfl (fun ls hl => ?_)
                have hEc : ext w w59 := (show ext w w59 from fun q e h9 => by have z9_1 := hfr5 q e h9; have h9 := (hn3 q (by omega)).trans h9; have h9 := (hn10 q (by omega)).trans h9; have h9 := (hn13 q (by omega)).trans h9; have h9 := (hn16 q (by omega)).trans h9; have h9 := (hn19 q (by omega)).trans h9; have h9 := (hn22 q (by omega)).trans h9; have h9 := (hn26 q (by omega)).trans h9; have h9 := (hn29 q (by omega)).trans h9; have h9 := (hn32 q (by omega)).trans h9; have h9 := (hn35 q (by omega)).trans h9; have h9 := (hn38 q (by omega)).trans h9; have h9 := hF111 q e h9 (by omega); have z9_2 := hfr45 q e h9; have h9 := (hn43 q (by omega)).trans h9; have h9 := (hn51 q (by omega)).trans h9; have h9 := (hn54 q (by omega)).trans h9; have h9 := (hn57 q (by omega)).trans h9; have h9 := (hn60 q (by omega)).trans h9; exact h9)
                have hYc : clO X w59 y su := (hEc.eqN hO0.2.1 y (hNy y (by omega) (by omega))).trans hY
                have hLc := hL.mv (w2 := w59) (fun q9 h1 h2 => hEc.eqN hO0.2.1 q9 (hNy q9 (by omega) (by omega)))
                have hft : ∀ z : Int, 0 ≤ z → z < 4 → (up (up (up (up (fun _ => 0) 0 (tdS σ k i)) 1 (letQ σ k i 1)) 2 (letQ σ k i 2)) 3 (letQ σ k i 3)) z = letQ σ k i z := ups_4 rfl rfl rfl rfl
                have hlr : ∀ z, 0 ≤ z → z < 4 → -1 ≤ letQ σ k i z ∧ letQ σ k i z < 32768 := fun z h1 h2 => lq_r hck (by omega) ⟨h1, h2⟩
                refine h_iconst F dL_isTold_205 ?_
                refine lv_istore (lv' := [(11, .int (iI 0)), (10, .ref to), (9, .int (iI (letQ σ k i 3))), (8, .int (iI (tdS σ k i))), (7, .int (iI i)), (6, .ref du), (5, .int (iI (bz (legS σ k)))), (4, .int (iI (cp σ k 0))), (0, .ref y), (1, .ref h), (2, .int (iI k)), (3, .ref q)]) F.1 F.2.1 dL_isTold_206 hl (by decide) rfl (fun ls hl => ?_)
                have loop208 : ∀ (n9 : Nat) (wh : Int), (hrg : 0 ≤ wh ∧ wh ≤ 4) → (hms : 4 - wh < (n9 : Int)) → (H : Heap) → (locs : List Loc) → (ls : Array Slot) → Wd X w59 s H → va_S (cxA X) s.heap H locs → lv_has ls 12 [(11, .int (iI wh)), (10, .ref to), (9, .int (iI (letQ σ k i 3))), (8, .int (iI (tdS σ k i))), (7, .int (iI i)), (6, .ref du), (5, .int (iI (bz (legS σ k)))), (4, .int (iI (cp σ k 0))), (0, .ref y), (1, .ref h), (2, .int (iI k)), (3, .ref q)] → W p l e (rmG 7 180 760 156) s m (List.toArray [.ref y, .ref h, .int (iI k), .ref q]) below meth c H locs (kc111 + 0 + 1) (ks111 + 0 + 4) (MX X below (List.toArray [.ref y, .ref h, .int (iI k), .ref q]) s 180 760 (some (.int (iI (bz true)))) (fun w' => w' = w)) (F0 m 208 ls []) := by
                  intro n9
                  induction n9 with
                  | zero => intro wh  hrg hms; exfalso; omega
                  | succ n9 ih208 =>
                    intro wh  hrg hms   H locs ls hW hS hl
                    refine lv_iload F.1 F.2.1 dL_isTold_208 (lv_at hl 0 rfl) ?_
                    refine h_iconst F dL_isTold_210 ?_
                    refine h_icge (tgt := 239) F dL_isTold_211 (by decide) (by omega) (fun c62 => ?_) (fun c62 => ?_)
                    · have hl1 := hlr 1 (by decide) (by decide)
                      have hl2 := hlr 2 (by decide) (by decide)
                      have hb1 := lq_b (σ := σ) (k := k) (T := tdS σ k i) (Y := rdS σ k i false) (by omega)
                      have hb2 := lq_b (σ := σ) (k := k) (T := tdS σ k i) (Y := rdS σ k i true) (by omega)
                      rw [← lq_1] at hb1
                      rw [← lq_2] at hb2
                      clear hlr
                      refine lv_aload F.1 F.2.1 dL_isTold_239 (lv_at hl 5 rfl) ?_
                      refine h_bipush F dL_isTold_241 rfl ?_
                      refine lv_dup2_11 F.1 F.2.1 dL_isTold_243 rfl rfl ?_
                      refine h_iald F hW hA111_0 (by omega) (by omega) dL_isTold_244 ?_
                      have join259 : ∀ (H : Heap) (locs : List Loc) (ls : Array Slot), Wd X w59 s H → va_S (cxA X) s.heap H locs → lv_has ls 12 [(11, .int (iI wh)), (10, .ref to), (9, .int (iI (letQ σ k i 3))), (8, .int (iI (tdS σ k i))), (7, .int (iI i)), (6, .ref du), (5, .int (iI (bz (legS σ k)))), (4, .int (iI (cp σ k 0))), (0, .ref y), (1, .ref h), (2, .int (iI k)), (3, .ref q)] → W p l e (rmG 7 180 760 156) s m (List.toArray [.ref y, .ref h, .int (iI k), .ref q]) below meth c H locs (kc111 + 0 + 1) (ks111 + 0 + 4) (MX X below (List.toArray [.ref y, .ref h, .int (iI k), .ref q]) s 180 760 (some (.int (iI (bz true)))) (fun w' => w' = w)) (F0 m 259 ls [.int (iI (bz (legS σ k && decide (rdS σ k i false = tdS σ k i)))), .int (iI (fd 6)), .int (iI 6), .ref du]) := by
                        intro  H locs ls  hW hS hl
                        refine h_iadd (a := fd 6) (b := bz (legS σ k && decide (rdS σ k i false = tdS σ k i))) F dL_isTold_259 ?_
                        refine h_iast F hW hS hA111_0 (by omega) (by omega) dL_isTold_260 (fun w63 H locs ho65 hn64 hW hS => ?_)
                        have hh0 := (hn64 _ (by omega)).trans hh0
                        have hcq := (hn64 _ (by omega)).trans hcq
                        have ho61 := (hn64 _ (by omega)).trans ho61
                        refine lv_aload F.1 F.2.1 dL_isTold_261 (lv_at hl 5 rfl) ?_
                        refine h_bipush F dL_isTold_263 rfl ?_
                        refine lv_dup2_11 F.1 F.2.1 dL_isTold_265 rfl rfl ?_
                        refine h_iald F hW ho65 (by omega) (by omega) dL_isTold_266 ?_
                        have join281 : ∀ (H : Heap) (locs : List Loc) (ls : Array Slot), Wd X w63 s H → va_S (cxA X) s.heap H locs → lv_has ls 12 [(11, .int (iI wh)), (10, .ref to), (9, .int (iI (letQ σ k i 3))), (8, .int (iI (tdS σ k i))), (7, .int (iI i)), (6, .ref du), (5, .int (iI (bz (legS σ k)))), (4, .int (iI (cp σ k 0))), (0, .ref y), (1, .ref h), (2, .int (iI k)), (3, .ref q)] → W p l e (rmG 7 180 760 156) s m (List.toArray [.ref y, .ref h, .int (iI k), .ref q]) below meth c H locs (kc111 + 0 + 1) (ks111 + 0 + 4) (MX X below (List.toArray [.ref y, .ref h, .int (iI k), .ref q]) s 180 760 (some (.int (iI (bz true)))) (fun w' => w' = w)) (F0 m 281 ls [.int (iI (bz (legS σ k && decide (rdS σ k i true = tdS σ k i)))), .int (iI ((up fd 6 ((fd 6) + (bz (legS σ k && decide (rdS σ k i false = tdS σ k i))))) 7)), .int (iI 7), .ref du]) := by
                          intro  H locs ls  hW hS hl
                          refine h_iadd (a := (up fd 6 ((fd 6) + (bz (legS σ k && decide (rdS σ k i false = tdS σ k i))))) 7) (b := bz (legS σ k && decide (rdS σ k i true = tdS σ k i))) F dL_isTold_281 ?_
                          refine h_iast F hW hS ho65 (by omega) (by omega) dL_isTold_282 (fun w66 H locs ho68 hn67 hW hS => ?_)
                          have hh0 := (hn67 _ (by omega)).trans hh0
                          have hcq := (hn67 _ (by omega)).trans hcq
                          have ho61 := (hn67 _ (by omega)).trans ho61
                          refine lv_aload F.1 F.2.1 dL_isTold_283 (lv_at hl 5 rfl) ?_
                          refine h_bipush F dL_isTold_285 rfl ?_
                          refine lv_dup2_11 F.1 F.2.1 dL_isTold_287 rfl rfl ?_
                          refine h_iald F hW ho68 (by omega) (by omega) dL_isTold_288 ?_
                          have join318 : ∀ (H : Heap) (locs : List Loc) (ls : Array Slot), Wd X w66 s H → va_S (cxA X) s.heap H locs → lv_has ls 12 [(11, .int (iI wh)), (10, .ref to), (9, .int (iI (letQ σ k i 3))), (8, .int (iI (tdS σ k i))), (7, .int (iI i)), (6, .ref du), (5, .int (iI (bz (legS σ k)))), (4, .int (iI (cp σ k 0))), (0, .ref y), (1, .ref h), (2, .int (iI k)), (3, .ref q)] → W p l e (rmG 7 180 760 156) s m (List.toArray [.ref y, .ref h, .int (iI k), .ref q]) below meth c H locs (kc111 + 0 + 1) (ks111 + 0 + 4) (MX X below (List.toArray [.ref y, .ref h, .int (iI k), .ref q]) s 180 760 (some (.int (iI (bz true)))) (fun w' => w' = w)) (F0 m 318 ls [.int (iI (bz (legS σ k && decide (ltrS (picS σ k i true) = tdS σ k i)))), .int (iI ((up (up fd 6 ((fd 6) + (bz (legS σ k && decide (rdS σ k i false = tdS σ k i))))) 7 (((up fd 6 ((fd 6) + (bz (legS σ k && decide (rdS σ k i false = tdS σ k i))))) 7) + (bz (legS σ k && decide (rdS σ k i true = tdS σ k i))))) 8)), .int (iI 8), .ref du]) := by
                            intro  H locs ls  hW hS hl
                            refine h_iadd (a := (up (up fd 6 ((fd 6) + (bz (legS σ k && decide (rdS σ k i false = tdS σ k i))))) 7 (((up fd 6 ((fd 6) + (bz (legS σ k && decide (rdS σ k i false = tdS σ k i))))) 7) + (bz (legS σ k && decide (rdS σ k i true = tdS σ k i))))) 8) (b := bz (legS σ k && decide (ltrS (picS σ k i true) = tdS σ k i))) F dL_isTold_318 ?_
                            refine h_iast F hW hS ho68 (by omega) (by omega) dL_isTold_319 (fun w69 H locs ho71 hn70 hW hS => ?_)
                            have hh0 := (hn70 _ (by omega)).trans hh0
                            have hcq := (hn70 _ (by omega)).trans hcq
                            have ho61 := (hn70 _ (by omega)).trans ho61
                            refine h_iinc (k := 4) (a := i) (lv' := [(7, .int (iI (i + 1))), (11, .int (iI wh)), (10, .ref to), (9, .int (iI (letQ σ k i 3))), (8, .int (iI (tdS σ k i))), (6, .ref du), (5, .int (iI (bz (legS σ k)))), (4, .int (iI (cp σ k 0))), (0, .ref y), (1, .ref h), (2, .int (iI k)), (3, .ref q)]) F dL_isTold_320 hl rfl (by decide) rfl (fun ls hl => ?_)
                            refine h_goto (tgt := 111) F dL_isTold_323 (by decide) ?_
                            have eq72 : ((i + 1) : Int) = i + 1 := by first | rfl | omega | simp
                            exact ih111 (i + 1) (kc111 + 0 + 1) (ks111 + 0 + 4)  (up (up (up fd 6 ((fd 6) + (bz (legS σ k && decide (rdS σ k i false = tdS σ k i))))) 7 (((up fd 6 ((fd 6) + (bz (legS σ k && decide (rdS σ k i false = tdS σ k i))))) 7) + (bz (legS σ k && decide (rdS σ k i true = tdS σ k i))))) 8 (((up (up fd 6 ((fd 6) + (bz (legS σ k && decide (rdS σ k i false = tdS σ k i))))) 7 (((up fd 6 ((fd 6) + (bz (legS σ k && decide (rdS σ k i false = tdS σ k i))))) 7) + (bz (legS σ k && decide (rdS σ k i true = tdS σ k i))))) 8) + (bz (legS σ k && decide (ltrS (picS σ k i true) = tdS σ k i))))) (by omega) (by omega) w69 ho71 (fun q e h9 h09 => by
                                have h9 := hF111 q e h9 (by omega)
                                have z9_1 := hfr45 q e h9
                                have h9 := (hn43 q (by omega)).trans h9
                                have h9 := (hn51 q (by omega)).trans h9
                                have h9 := (hn54 q (by omega)).trans h9
                                have h9 := (hn57 q (by omega)).trans h9
                                have h9 := (hn60 q (by omega)).trans h9
                                have h9 := (hn64 q (by omega)).trans h9
                                have h9 := (hn67 q (by omega)).trans h9
                                have h9 := (hn70 q (by omega)).trans h9
                                exact h9) (by omega) (by omega) (fun z h1 h2 => by rw [up_n (by omega), up_n (by omega), up_n (by omega)]; exact hd5 z h1 h2) (by rw [up_n (by decide), up_n (by decide), up_s, hd6, bz_s (by omega)]) (by rw [up_n (by decide), up_s, up_n (by decide), hd7, bz_s (by omega)]) (by rw [up_s, up_n (by decide), up_n (by decide), hd8, bz_s (by omega)]) (by rw [up_n (by decide), up_n (by decide), up_n (by decide)]; exact hd9) _ _ ls hW hS (by rw [eq72]; exact lv_sub hl [0, 5, 6, 7, 8, 9, 10, 11] rfl)
                          refine lv_iload F.1 F.2.1 dL_isTold_289 (lv_at hl 6 rfl) ?_
                          refine h_ifeqb (tgt := 317) F dL_isTold_291 (by decide) (fun c73 => ?_) (fun c73 => ?_)
                          · have hbt : (0 : Int) = bz (legS σ k && decide (ltrS (picS σ k i true) = tdS σ k i)) := by rw [show legS σ k = false from c73]; rfl
                            refine h_iconst F dL_isTold_317 ?_
                            refine h_top (show (0 : Int) = bz (legS σ k && decide (ltrS (picS σ k i true) = tdS σ k i)) from hbt) ?_
                            exact join318  _ _ ls  hW hS (lv_sub hl [0, 1, 2, 3, 4, 5, 6, 7, 8, 9, 10, 11] rfl)
                          · have hlg := c73
                            have hpg := picS_r σ k i true
                            have hgr := gl_r (tdS σ k i - 1)
                            refine lv_aload_n F.1 F.2.1 dL_isTold_294 rfl (lv_at hl 9 rfl) ?_
                            refine lv_aload_n F.1 F.2.1 dL_isTold_295 rfl (lv_at hl 11 rfl) ?_
                            refine lv_iload F.1 F.2.1 dL_isTold_296 (lv_at hl 4 rfl) ?_
                            refine h_iconst F dL_isTold_298 ?_
                            have hAk : ownA X w66 h σ := hO0.A.ex (show ext w w66 from fun q e h9 => by have z9_1 := hfr5 q e h9; have h9 := (hn3 q (by omega)).trans h9; have h9 := (hn10 q (by omega)).trans h9; have h9 := (hn13 q (by omega)).trans h9; have h9 := (hn16 q (by omega)).trans h9; have h9 := (hn19 q (by omega)).trans h9; have h9 := (hn22 q (by omega)).trans h9; have h9 := (hn26 q (by omega)).trans h9; have h9 := (hn29 q (by omega)).trans h9; have h9 := (hn32 q (by omega)).trans h9; have h9 := (hn35 q (by omega)).trans h9; have h9 := (hn38 q (by omega)).trans h9; have h9 := hF111 q e h9 (by omega); have z9_2 := hfr45 q e h9; have h9 := (hn43 q (by omega)).trans h9; have h9 := (hn51 q (by omega)).trans h9; have h9 := (hn54 q (by omega)).trans h9; have h9 := (hn57 q (by omega)).trans h9; have h9 := (hn60 q (by omega)).trans h9; have h9 := (hn64 q (by omega)).trans h9; have h9 := (hn67 q (by omega)).trans h9; exact h9)
                            refine cl_RL_238 (As := [.ref q, .int (iI i), .int (iI 1)]) (rest := [.int (iI ((up (up fd 6 ((fd 6) + (bz (legS σ k && decide (rdS σ k i false = tdS σ k i))))) 7 (((up fd 6 ((fd 6) + (bz (legS σ k && decide (rdS σ k i false = tdS σ k i))))) 7) + (bz (legS σ k && decide (rdS σ k i true = tdS σ k i))))) 8)), .int (iI 8), .ref du]) F hl (c_X10_picture l X w66 h q wd σ k i true hAk (by omega) (by omega) hcq) hW hS hh0 rfl rfl ⟨Nat.le_of_ble_eq_true rfl, Nat.le_of_ble_eq_true rfl⟩ (Nat.le_of_ble_eq_true rfl) ⟨(by show kc111 + 0 + 1 + 0 ≤ 180; omega), (by show ks111 + 0 + 4 + 0 ≤ 760; omega)⟩ dL_isTold_299 (fun w1 H locs hp74 hW hS => ?_)
                            rw [hp74] at hW; clear hp74; clear w1
                            refine h_gstat F hZ0.2.1.1 hS kf_RL_29 dL_isTold_302 ?_
                            refine lv_iload F.1 F.2.1 dL_isTold_305 (lv_at hl 3 rfl) ?_
                            refine h_iconst F dL_isTold_307 ?_
                            refine h_isub (a := tdS σ k i) (b := 1) F dL_isTold_308 ?_
                            refine h_gli9 F hZ0 hS (by omega) dL_isTold_309 ?_
                            refine h_icne (tgt := 317) F dL_isTold_310 (by decide) (by omega) (fun c75 => ?_) (fun c75 => ?_)
                            · have hbt : (0 : Int) = bz (legS σ k && decide (ltrS (picS σ k i true) = tdS σ k i)) := by rw [decide_eq_false (fun z9 => c75 ((ltr_iff hti).mp z9)), Bool.and_false]; rfl
                              refine h_iconst F dL_isTold_317 ?_
                              refine h_top (show (0 : Int) = bz (legS σ k && decide (ltrS (picS σ k i true) = tdS σ k i)) from hbt) ?_
                              exact join318  _ _ ls  hW hS (lv_sub hl [0, 1, 2, 3, 4, 5, 6, 7, 8, 9, 10, 11] rfl)
                            · have hbt : (1 : Int) = bz (legS σ k && decide (ltrS (picS σ k i true) = tdS σ k i)) := by rw [show legS σ k = true from hlg, decide_eq_true ((ltr_iff hti).mpr c75)]; rfl
                              refine h_iconst F dL_isTold_313 ?_
                              refine h_goto (tgt := 318) F dL_isTold_314 (by decide) ?_
                              refine h_top (show (1 : Int) = bz (legS σ k && decide (ltrS (picS σ k i true) = tdS σ k i)) from hbt) ?_
                              exact join318  _ _ ls  hW hS (lv_sub hl [0, 1, 2, 3, 4, 5, 6, 7, 8, 9, 10, 11] rfl)
                        refine lv_aload F.1 F.2.1 dL_isTold_267 (lv_at hl 1 rfl) ?_
                        refine h_iconst F dL_isTold_269 ?_
                        refine h_iald F hW ho61 (by omega) (by omega) dL_isTold_270 ?_
                        refine h_top (show ((up (up (up (up (fun _ => 0) 0 (tdS σ k i)) 1 (letQ σ k i 1)) 2 (letQ σ k i 2)) 3 (letQ σ k i 3)) 2 : Int) = letQ σ k i 2 from hft 2 (by decide) (by decide)) ?_
                        refine lv_iload F.1 F.2.1 dL_isTold_271 (lv_at hl 3 rfl) ?_
                        refine h_icne (tgt := 280) F dL_isTold_273 (by decide) (by omega) (fun c76 => ?_) (fun c76 => ?_)
                        · have hbt : (0 : Int) = bz (legS σ k && decide (rdS σ k i true = tdS σ k i)) := by rw [Bool.eq_false_iff.mpr (fun z9 => c76 (hb2.mpr z9))]; rfl
                          refine h_iconst F dL_isTold_280 ?_
                          refine h_top (show (0 : Int) = bz (legS σ k && decide (rdS σ k i true = tdS σ k i)) from hbt) ?_
                          exact join281  _ _ ls  hW hS (lv_sub hl [0, 1, 2, 3, 4, 5, 6, 7, 8, 9, 10, 11] rfl)
                        · have hbt : (1 : Int) = bz (legS σ k && decide (rdS σ k i true = tdS σ k i)) := by rw [hb2.mp (by omega)]; rfl
                          refine h_iconst F dL_isTold_276 ?_
                          refine h_goto (tgt := 281) F dL_isTold_277 (by decide) ?_
                          refine h_top (show (1 : Int) = bz (legS σ k && decide (rdS σ k i true = tdS σ k i)) from hbt) ?_
                          exact join281  _ _ ls  hW hS (lv_sub hl [0, 1, 2, 3, 4, 5, 6, 7, 8, 9, 10, 11] rfl)
                      refine lv_aload F.1 F.2.1 dL_isTold_245 (lv_at hl 1 rfl) ?_
                      refine h_iconst F dL_isTold_247 ?_
                      refine h_iald F hW ho61 (by omega) (by omega) dL_isTold_248 ?_
                      refine h_top (show ((up (up (up (up (fun _ => 0) 0 (tdS σ k i)) 1 (letQ σ k i 1)) 2 (letQ σ k i 2)) 3 (letQ σ k i 3)) 1 : Int) = letQ σ k i 1 from hft 1 (by decide) (by decide)) ?_
                      refine lv_iload F.1 F.2.1 dL_isTold_249 (lv_at hl 3 rfl) ?_
                      refine h_icne (tgt := 258) F dL_isTold_251 (by decide) (by omega) (fun c77 => ?_) (fun c77 => ?_)
                      · have hbt : (0 : Int) = bz (legS σ k && decide (rdS σ k i false = tdS σ k i)) := by rw [Bool.eq_false_iff.mpr (fun z9 => c77 (hb1.mpr z9))]; rfl
                        refine h_iconst F dL_isTold_258 ?_
                        refine h_top (show (0 : Int) = bz (legS σ k && decide (rdS σ k i false = tdS σ k i)) from hbt) ?_
                        exact join259  _ _ ls  hW hS (lv_sub hl [0, 1, 2, 3, 4, 5, 6, 7, 8, 9, 10, 11] rfl)
                      · have hbt : (1 : Int) = bz (legS σ k && decide (rdS σ k i false = tdS σ k i)) := by rw [hb1.mp (by omega)]; rfl
                        refine h_iconst F dL_isTold_254 ?_
                        refine h_goto (tgt := 259) F dL_isTold_255 (by decide) ?_
                        refine h_top (show (1 : Int) = bz (legS σ k && decide (rdS σ k i false = tdS σ k i)) from hbt) ?_
                        exact join259  _ _ ls  hW hS (lv_sub hl [0, 1, 2, 3, 4, 5, 6, 7, 8, 9, 10, 11] rfl)
                    · refine lv_aload_n F.1 F.2.1 dL_isTold_214 rfl (lv_at hl 8 rfl) ?_
                      refine lv_iload_n F.1 F.2.1 dL_isTold_215 rfl (lv_at hl 10 rfl) ?_
                      refine lv_iload F.1 F.2.1 dL_isTold_216 (lv_at hl 4 rfl) ?_
                      refine lv_iload F.1 F.2.1 dL_isTold_218 (lv_at hl 0 rfl) ?_
                      have hlz := hlr wh (by omega) (by omega)
                      refine cl_RL_248 (As := [.int (iI k), .int (iI i), .int (iI wh)]) (rest := []) F hl (c_X8_letter l X w59 y su σ k i wh hYc hLc (by omega) (by omega) (by omega)) hW hS hYc rfl rfl ⟨Nat.le_of_ble_eq_true rfl, Nat.le_of_ble_eq_true rfl⟩ (Nat.le_of_ble_eq_true rfl) ⟨(by show kc111 + 0 + 1 + 0 ≤ 180; omega), (by show ks111 + 0 + 4 + 0 ≤ 760; omega)⟩ dL_isTold_220 (fun w1 H locs hp78 hW hS => ?_)
                      rw [hp78] at hW; clear hp78; clear w1
                      refine lv_aload F.1 F.2.1 dL_isTold_223 (lv_at hl 1 rfl) ?_
                      refine lv_iload F.1 F.2.1 dL_isTold_225 (lv_at hl 0 rfl) ?_
                      refine h_iald F hW ho61 (by omega) (by omega) dL_isTold_227 ?_
                      refine h_top (show ((up (up (up (up (fun _ => 0) 0 (tdS σ k i)) 1 (letQ σ k i 1)) 2 (letQ σ k i 2)) 3 (letQ σ k i 3)) wh : Int) = letQ σ k i wh from hft wh (by omega) (by omega)) ?_
                      refine h_iceq (tgt := 233) F dL_isTold_228 (by decide) (by omega) (fun c79 => ?_) (fun c79 => ?_)
                      · refine h_iinc (k := 0) (a := wh) (lv' := [(11, .int (iI (wh + 1))), (10, .ref to), (9, .int (iI (letQ σ k i 3))), (8, .int (iI (tdS σ k i))), (7, .int (iI i)), (6, .ref du), (5, .int (iI (bz (legS σ k)))), (4, .int (iI (cp σ k 0))), (0, .ref y), (1, .ref h), (2, .int (iI k)), (3, .ref q)]) F dL_isTold_233 hl rfl (by decide) rfl (fun ls hl => ?_)
                        refine h_goto (tgt := 208) F dL_isTold_236 (by decide) ?_
                        have eq80 : ((wh + 1) : Int) = wh + 1 := by first | rfl | omega | simp
                        exact ih208 (wh + 1)  (by omega) (by omega)   _ _ ls hW hS (by rw [eq80]; exact lv_sub hl [0, 1, 2, 3, 4, 5, 6, 7, 8, 9, 10, 11] rfl)
                      · exact absurd rfl c79
                exact loop208 ((4 - 0) + 1 : Int).toNat 0   (by omega) (by omega)   _ _ ls hW hS (lv_sub hl [0, 1, 2, 3, 4, 5, 6, 7, 8, 9, 10, 11] rfl)
              refine lv_iload F.1 F.2.1 dL_isTold_180 (lv_at hl 4 rfl) ?_
              refine h_ifeqb (tgt := 196) F dL_isTold_182 (by decide) (fun c81 => ?_) (fun c81 => ?_)
              · have hlg : legS σ k = false := c81
                have hq9 := lq_2f (j := i) hlg
                refine h_iconst F dL_isTold_196 ?_
                refine h_top (show ((-1) : Int) = letQ σ k i 2 from hq9) ?_
                exact join197  _ _ ls  hW hS (lv_sub hl [0, 1, 2, 3, 4, 5, 6, 7, 8, 9] rfl)
              · have hlg : legS σ k = true := c81
                have hq9 := lq_2t (j := i) hlg
                have hl3p : letQ σ k i 3 = picS σ k i false := (lq_3t hlg).symm
                have hp3 := picS_r σ k i false
                have hrv : 0 ≤ revS (letQ σ k i 3) ∧ revS (letQ σ k i 3) < 32768 := bsN_r _ 15
                refine lv_iload F.1 F.2.1 dL_isTold_185 (lv_at hl 0 rfl) ?_
                refine cl_RL_245 (As := [.int (iI (letQ σ k i 3))]) (rest := [.int (iI 2), .ref to, .ref to]) F hl (c_L_turned l X w53 (letQ σ k i 3) (by omega)) hW hS rfl rfl ⟨Nat.le_of_ble_eq_true rfl, Nat.le_of_ble_eq_true rfl⟩ (Nat.le_of_ble_eq_true rfl) ⟨(by show kc111 + 0 + 1 + 0 ≤ 180; omega), (by show ks111 + 0 + 4 + 0 ≤ 760; omega)⟩ dL_isTold_187 (fun w1 H locs hp82 hW hS => ?_)
                rw [hp82] at hW; clear hp82; clear w1
                refine cl_RL_242 (As := [.int (iI (revS (letQ σ k i 3)))]) (rest := [.int (iI 2), .ref to, .ref to]) F hl (c_L_read l X w53 (revS (letQ σ k i 3)) (by omega)) hW hS rfl rfl ⟨Nat.le_of_ble_eq_true rfl, Nat.le_of_ble_eq_true rfl⟩ (Nat.le_of_ble_eq_true rfl) ⟨(by show kc111 + 0 + 1 + 0 + 0 ≤ 180; omega), (by show ks111 + 0 + 4 + 0 + 0 ≤ 760; omega)⟩ dL_isTold_190 (fun w1 H locs hp83 hW hS => ?_)
                rw [hp83] at hW; clear hp83; clear w1
                refine h_goto (tgt := 197) F dL_isTold_193 (by decide) ?_
                refine h_top (show (ltrS (revS (letQ σ k i 3)) : Int) = letQ σ k i 2 from hq9) ?_
                exact join197  _ _ ls  hW hS (lv_sub hl [0, 1, 2, 3, 4, 5, 6, 7, 8, 9] rfl)
            refine lv_iload F.1 F.2.1 dL_isTold_163 (lv_at hl 4 rfl) ?_
            refine h_ifeqb (tgt := 176) F dL_isTold_165 (by decide) (fun c84 => ?_) (fun c84 => ?_)
            · have hlg : legS σ k = false := c84
              have hq9 := lq_1f (j := i) hlg
              refine h_iconst F dL_isTold_176 ?_
              refine h_top (show ((-1) : Int) = letQ σ k i 1 from hq9) ?_
              exact join177  _ _ ls  hW hS (lv_sub hl [0, 1, 2, 3, 4, 5, 6, 7, 8, 9] rfl)
            · have hlg : legS σ k = true := c84
              have hq9 := lq_1t (j := i) hlg
              refine lv_iload F.1 F.2.1 dL_isTold_168 (lv_at hl 0 rfl) ?_
              refine cl_RL_242 (As := [.int (iI (letQ σ k i 3))]) (rest := [.int (iI 1), .ref to, .ref to]) F hl (c_L_read l X w50 (letQ σ k i 3) (by omega)) hW hS rfl rfl ⟨Nat.le_of_ble_eq_true rfl, Nat.le_of_ble_eq_true rfl⟩ (Nat.le_of_ble_eq_true rfl) ⟨(by show kc111 + 0 + 1 + 0 ≤ 180; omega), (by show ks111 + 0 + 4 + 0 ≤ 760; omega)⟩ dL_isTold_170 (fun w1 H locs hp85 hW hS => ?_)
              rw [hp85] at hW; clear hp85; clear w1
              refine h_goto (tgt := 177) F dL_isTold_173 (by decide) ?_
              refine h_top (show (ltrS (letQ σ k i 3) : Int) = letQ σ k i 1 from hq9) ?_
              exact join177  _ _ ls  hW hS (lv_sub hl [0, 1, 2, 3, 4, 5, 6, 7, 8, 9] rfl)
          refine lv_iload F.1 F.2.1 dL_isTold_134 (lv_at hl 3 rfl) ?_
          refine h_ifeqb (tgt := 150) F dL_isTold_136 (by decide) (fun c86 => ?_) (fun c86 => ?_)
          · have hlg : legS σ k = false := c86
            have hq9 := lq_3f (j := i) hlg
            refine h_iconst F dL_isTold_150 ?_
            refine h_top (show ((-1) : Int) = letQ σ k i 3 from hq9) ?_
            exact join151  _ _ ls  hW hS (lv_sub hl [0, 1, 2, 3, 4, 5, 6, 7, 8] rfl)
          · have hlg : legS σ k = true := c86
            have hq9 := lq_3t (j := i) hlg
            refine lv_aload_n F.1 F.2.1 dL_isTold_139 rfl (lv_at hl 6 rfl) ?_
            refine lv_aload_n F.1 F.2.1 dL_isTold_140 rfl (lv_at hl 8 rfl) ?_
            refine lv_iload F.1 F.2.1 dL_isTold_141 (lv_at hl 1 rfl) ?_
            refine h_iconst F dL_isTold_143 ?_
            refine cl_RL_238 (As := [.ref q, .int (iI i), .int (iI 0)]) (rest := []) F hl (c_X10_picture l X w6 h q wd σ k i false hAk (by omega) (by omega) hcq) hW hS hh0 rfl rfl ⟨Nat.le_of_ble_eq_true rfl, Nat.le_of_ble_eq_true rfl⟩ (Nat.le_of_ble_eq_true rfl) ⟨(by show kc111 + 0 + 0 ≤ 180; omega), (by show ks111 + 0 + 0 ≤ 760; omega)⟩ dL_isTold_144 (fun w1 H locs hp87 hW hS => ?_)
            rw [hp87] at hW; clear hp87; clear w1
            refine h_goto (tgt := 151) F dL_isTold_147 (by decide) ?_
            refine h_top (show (picS σ k i false : Int) = letQ σ k i 3 from hq9) ?_
            exact join151  _ _ ls  hW hS (lv_sub hl [0, 1, 2, 3, 4, 5, 6, 7, 8] rfl)
    exact loop111 ((cp σ k 0 - 0) + 1 : Int).toNat 0 (0 + 0 + 1 + 0) (0 + 0 + 10 + 0)  (up (up (up (up (up (up (up (up (up (up (fun _ => 0) 0 (cp σ k 0)) 1 (cp σ k 1)) 2 (cp σ k 2)) 3 (cp σ k 3)) 4 (cp σ k 4)) 5 (max 0 (min 5 ((σ 4) - (cp σ k 3))))) 6 0) 7 0) 8 0) 9 0) (by omega) (by omega) w37 ho39 (fun q e h9 h09 => by
        exact h9) (by omega) (by omega) (up10_i rfl rfl rfl rfl rfl rfl) (by rw [cnt_0]; rfl) (by rw [cnt_0]; rfl) (by rw [cnt_0]; rfl) rfl _ _ ls hW hS (lv_sub hl [0, 1, 2, 3, 4, 5, 6, 7] rfl)
  refine lv_aload_n F.1 F.2.1 dL_isTold_9 rfl (lv_at hl 4 rfl) ?_
  refine gf_RL_132 F hW hcq rfl dL_isTold_10 ?_
  refine h_iconst F dL_isTold_13 ?_
  refine h_iadd (a := cp σ k 3) (b := 5) F dL_isTold_14 ?_
  refine lv_aload_n F.1 F.2.1 dL_isTold_15 rfl (lv_at hl 2 rfl) ?_
  refine cl_RL_186 (As := []) (rest := [.int (iI ((cp σ k 3) + 5))]) F hl (c_X10_rows l X w h σ hO0.A) hW hS hh0 rfl rfl ⟨Nat.le_of_ble_eq_true rfl, Nat.le_of_ble_eq_true rfl⟩ (Nat.le_of_ble_eq_true rfl) ⟨(by show 0 + 0 + 0 ≤ 180; omega), (by show 0 + 0 + 0 ≤ 760; omega)⟩ dL_isTold_16 (fun w1 H locs hp88 hW hS => ?_)
  rw [hp88] at hW; clear hp88; clear w1
  refine h_icgt (tgt := 26) F dL_isTold_19 (by decide) (by omega) (fun c89 => ?_) (fun c89 => ?_)
  · refine h_iconst F dL_isTold_26 ?_
    refine h_top (show (0 : Int) = bz (legS σ k) from by unfold legS; first | rw [decide_eq_true (by omega)]; rfl | rw [decide_eq_false (by omega)]; rfl) ?_
    exact join27  _ _ ls  hW hS (lv_sub hl [0, 1, 2, 3, 4] rfl)
  · refine h_iconst F dL_isTold_22 ?_
    refine h_goto (tgt := 27) F dL_isTold_23 (by decide) ?_
    refine h_top (show (1 : Int) = bz (legS σ k) from by unfold legS; first | rw [decide_eq_true (by omega)]; rfl | rw [decide_eq_false (by omega)]; rfl) ?_
    exact join27  _ _ ls  hW hS (lv_sub hl [0, 1, 2, 3, 4] rfl)
