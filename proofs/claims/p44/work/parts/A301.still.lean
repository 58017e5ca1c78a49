set_option maxHeartbeats 4000000 in
set_option maxRecDepth 100000 in
theorem sg_still_512 (l : Launch) (X : Cx) (w w1 : Wo) (y h : Nat) (N : Nat → Prop) (su : Int) (σ : Int → Int) (nx sz : Int) (pas : Int → Int → Int) (hO : ownN X w N h σ) (hNy : ∀ q, y ≤ q → q < y + 321 → N q) (hY : clO X w y su) (hL : loomAt X w (y + 1) σ) (hH : hisAt X w (y + 53) nx sz pas)   (hE0 : ∀ (q : Nat) (e : va_E), w q = some e → w1 q = some e) {p : Program} {e : Env} {s : State} {m : MethodId} {below : List Frame} {meth : Method} {c : Code} {H : Heap} {locs : List Loc} {ls : Array Slot} {kc0 ks0 : Nat} (F : Fx p m c cL_still 15 s (List.toArray [.ref y, .ref h]) RL) (hr : meth.sig.returnType = (some (.boolean))) (hlk : meth.locks = false) (hZ0 : cxZ X s s.heap) (hB9 : cxB X ≤ s.heap.size) (hkc0 : kc0 ≤ 1721) (hks0 : ks0 ≤ 7208) (hW : Wd X w1 s H) (hS : va_S (cxA X) s.heap H locs) (hl : lv_has ls 15 [(0, .ref y), (1, .ref h), (8, .int (iI (bz (fitQ σ))))]) : W p l e (rmG 9 2600 10800 202) s m (List.toArray [.ref y, .ref h]) below meth c H locs kc0 ks0 (MX X below (List.toArray [.ref y, .ref h]) s 2600 10800 (some (.int (iI (bz true)))) (fun w' => w' = w)) (F0 m 512 ls []) := by
  have hO0 := hO
  obtain ⟨st, lc, ec, kc, lr, er, kr, cd, rwa, hPw0, hern⟩ := hO.A.P
  clear hern
  obtain ⟨hh0, hstk, hlst, hkc, hcps, -, -, -, hem, ⟨hWF0, hw0, hw1⟩, -, -, -⟩ := hPw0
  obtain ⟨wf0, wf1, wf2, wf3, wf4, wf5⟩ := hWF0.1
  have hh1 := hE0 _ _ hh0
  clear hkc
  refine h_iconst F dL_still_512 ?_
  refine lv_istore (lv' := [(10, .int (iI (-1))), (0, .ref y), (1, .ref h), (8, .int (iI (bz (fitQ σ))))]) F.1 F.2.1 dL_still_513 hl (by decide) rfl (fun ls hl => ?_)
  refine h_iconst F dL_still_515 ?_
  refine lv_istore (lv' := [(11, .int (iI (-1))), (10, .int (iI (-1))), (0, .ref y), (1, .ref h), (8, .int (iI (bz (fitQ σ))))]) F.1 F.2.1 dL_still_516 hl (by decide) rfl (fun ls hl => ?_)
  refine h_iconst F dL_still_518 ?_
  refine lv_istore (lv' := [(12, .int (iI 0)), (11, .int (iI (-1))), (10, .int (iI (-1))), (0, .ref y), (1, .ref h), (8, .int (iI (bz (fitQ σ))))]) F.1 F.2.1 dL_still_519 hl (by decide) rfl (fun ls hl => ?_)
  have hAk : ownA X w1 h σ := hO0.A.ex (show ext w w1 from fun q e h9 => by have h9 := hE0 q e h9 ; exact h9)
  refine lv_aload_n F.1 F.2.1 dL_still_521 rfl (lv_at hl 4 rfl) ?_
  refine cl_RL_186 (As := []) (rest := []) F hl (c_X10_rows l X w1 h σ hAk) hW hS hh1 rfl rfl ⟨Nat.le_of_ble_eq_true rfl, Nat.le_of_ble_eq_true rfl⟩ (Nat.le_of_ble_eq_true rfl) ⟨(by show kc0 + 0 ≤ 2600; omega), (by show ks0 + 0 ≤ 10800; omega)⟩ dL_still_522 (fun w1 H locs hp1 hW hS => ?_)
  rw [hp1] at hW; clear hp1; clear w1
  refine h_iconst F dL_still_525 ?_
  refine h_isub (a := σ 4) (b := 1) F dL_still_526 ?_
  refine lv_istore (lv' := [(13, .int (iI ((σ 4) - 1))), (12, .int (iI 0)), (11, .int (iI (-1))), (10, .int (iI (-1))), (0, .ref y), (1, .ref h), (8, .int (iI (bz (fitQ σ))))]) F.1 F.2.1 dL_still_527 hl (by decide) rfl (fun ls hl => ?_)
  have loop529 : ∀ (n9 : Nat) (rr : Int) (kc529 ks529 : Nat), (hrg : -1 ≤ rr ∧ rr ≤ σ 4 - 1) → (hms : rr + 1 < (n9 : Int)) → (hkc529 : ((kc529 : Nat) : Int) ≤ ((kc0 + 0 : Nat) : Int) + 19 * (σ 4 - 1 - rr)) → (hks529 : ((ks529 : Nat) : Int) ≤ ((ks0 + 0 : Nat) : Int) + 76 * (σ 4 - 1 - rr)) → (H : Heap) → (locs : List Loc) → (ls : Array Slot) → Wd X w1 s H → va_S (cxA X) s.heap H locs → lv_has ls 15 [(10, .int (iI (lwS σ false (rr + 1)))), (11, .int (iI (lwS σ true (rr + 1)))), (12, .int (iI (mnP σ (rr + 1)))), (13, .int (iI rr)), (0, .ref y), (1, .ref h), (8, .int (iI (bz (fitQ σ))))] → W p l e (rmG 9 2600 10800 202) s m (List.toArray [.ref y, .ref h]) below meth c H locs kc529 ks529 (MX X below (List.toArray [.ref y, .ref h]) s 2600 10800 (some (.int (iI (bz true)))) (fun w' => w' = w)) (F0 m 529 ls []) := by
    intro n9
    induction n9 with
    | zero => intro rr kc529 ks529  hrg hms; exfalso; omega
    | succ n9 ih529 =>
      intro rr kc529 ks529  hrg hms  hkc529 hks529 H locs ls hW hS hl
      refine lv_iload F.1 F.2.1 dL_still_529 (lv_at hl 3 rfl) ?_
      refine h_iflt (tgt := 577) F dL_still_531 (by decide) (by omega) (fun c2 => ?_) (fun c2 => ?_)
      · have hlw0 : lwS σ false (rr + 1) = lowS σ false := by rw [show rr + 1 = 0 by omega]; rfl
        have hlw1 : lwS σ true (rr + 1) = lowS σ true := by rw [show rr + 1 = 0 by omega]; rfl
        have hlr0 := lwS_r (σ := σ) false (lo := rr + 1) (by omega)
        have hlr1 := lwS_r (σ := σ) true (lo := rr + 1) (by omega)
        refine h_bipush F dL_still_577 rfl ?_
        refine q_newP (N := 6) (k := 0) (atype := .int) (x := .inl (fun j : Nat => iI ((fun _ : Int => 0) (j : Int)))) F hW hS haCI rfl (hxI _) rfl (by omega) ⟨(by show kc529 + 1 ≤ 2600; omega), (by show ks529 + 6 ≤ 10800; omega)⟩ dL_still_579 (fun d6 w3 H hfr6 hcx7 ha5 hn4 hW hS => ?_)
        have ha5 : w3 d6 = some (aZ X 6 (fun _ => 0)) := ha5
        have hb8 := hfr6 _ _ hh1
        have hh1 := (hn4 _ (by omega)).trans hh1
        refine lv_dup F.1 F.2.1 dL_still_581 rfl ?_
        refine h_iconst F dL_still_582 ?_
        have hAk : ownA X w3 h σ := hO0.A.ex (show ext w w3 from fun q e h9 => by have h9 := hE0 q e h9 ; have z9_1 := hfr6 q e h9; have h9 := (hn4 q (by omega)).trans h9; exact h9)
        refine lv_aload_n F.1 F.2.1 dL_still_583 rfl (lv_at hl 5 rfl) ?_
        refine h_iconst F dL_still_584 ?_
        refine cl_RL_219 (As := [.int (iI 0)]) (rest := [.int (iI 0), .ref d6, .ref d6]) F hl (c_X10_allWrong l X w3 h σ false hAk) hW hS hh1 rfl rfl ⟨Nat.le_of_ble_eq_true rfl, Nat.le_of_ble_eq_true rfl⟩ (Nat.le_of_ble_eq_true rfl) ⟨(by show kc529 + 1 + 247 ≤ 2600; omega), (by show ks529 + 6 + 988 ≤ 10800; omega)⟩ dL_still_585 (fun w1 H locs hp9 hW hS => ?_)
        rw [hp9] at hW; clear hp9; clear w1
        refine h_top (show ((if false then misSeen σ else misFrom σ 0) : Int) = misFrom σ 0 from rfl) ?_
        refine h_iast F hW hS ha5 (by omega) (by omega) dL_still_588 (fun w10 H locs ho12 hn11 hW hS => ?_)
        have hh1 := (hn11 _ (by omega)).trans hh1
        refine lv_dup F.1 F.2.1 dL_still_589 rfl ?_
        refine h_iconst F dL_still_590 ?_
        refine lv_aload_n F.1 F.2.1 dL_still_591 rfl (lv_at hl 5 rfl) ?_
        refine h_iconst F dL_still_592 ?_
        have hAk : ownA X w10 h σ := hO0.A.ex (show ext w w10 from fun q e h9 => by have h9 := hE0 q e h9 ; have z9_1 := hfr6 q e h9; have h9 := (hn4 q (by omega)).trans h9; have h9 := (hn11 q (by omega)).trans h9; exact h9)
        refine cl_RL_219 (As := [.int (iI 1)]) (rest := [.int (iI 1), .ref d6, .ref d6]) F hl (c_X10_allWrong l X w10 h σ true hAk) hW hS hh1 rfl rfl ⟨Nat.le_of_ble_eq_true rfl, Nat.le_of_ble_eq_true rfl⟩ (Nat.le_of_ble_eq_true rfl) ⟨(by show kc529 + 1 + 247 + 247 ≤ 2600; omega), (by show ks529 + 6 + 988 + 988 ≤ 10800; omega)⟩ dL_still_593 (fun w1 H locs hp13 hW hS => ?_)
        rw [hp13] at hW; clear hp13; clear w1
        refine h_top (show ((if true then misSeen σ else misFrom σ 0) : Int) = misSeen σ from rfl) ?_
        refine h_iast F hW hS ho12 (by omega) (by omega) dL_still_596 (fun w14 H locs ho16 hn15 hW hS => ?_)
        have hh1 := (hn15 _ (by omega)).trans hh1
        refine lv_dup F.1 F.2.1 dL_still_597 rfl ?_
        refine h_iconst F dL_still_598 ?_
        refine lv_iload F.1 F.2.1 dL_still_599 (lv_at hl 2 rfl) ?_
        refine h_iast F hW hS ho16 (by omega) (by omega) dL_still_601 (fun w17 H locs ho19 hn18 hW hS => ?_)
        have hh1 := (hn18 _ (by omega)).trans hh1
        refine lv_dup F.1 F.2.1 dL_still_602 rfl ?_
        refine h_iconst F dL_still_603 ?_
        refine lv_iload F.1 F.2.1 dL_still_604 (lv_at hl 1 rfl) ?_
        refine h_iast F hW hS ho19 (by omega) (by omega) dL_still_606 (fun w20 H locs ho22 hn21 hW hS => ?_)
        have hh1 := (hn21 _ (by omega)).trans hh1
        refine lv_dup F.1 F.2.1 dL_still_607 rfl ?_
        refine h_iconst F dL_still_608 ?_
        have join625 : ∀ (H : Heap) (locs : List Loc) (ls : Array Slot), Wd X w20 s H → va_S (cxA X) s.heap H locs → lv_has ls 15 [(10, .int (iI (lwS σ false (rr + 1)))), (11, .int (iI (lwS σ true (rr + 1)))), (12, .int (iI (mnP σ (rr + 1)))), (13, .int (iI rr)), (0, .ref y), (1, .ref h), (8, .int (iI (bz (fitQ σ))))] → W p l e (rmG 9 2600 10800 202) s m (List.toArray [.ref y, .ref h]) below meth c H locs (kc529 + 1 + 247 + 247) (ks529 + 6 + 988 + 988) (MX X below (List.toArray [.ref y, .ref h]) s 2600 10800 (some (.int (iI (bz true)))) (fun w' => w' = w)) (F0 m 625 ls [.int (iI (dnS σ (lowS σ false))), .int (iI 4), .ref d6, .ref d6]) := by
          intro  H locs ls  hW hS hl
          refine h_iast F hW hS ho22 (by omega) (by omega) dL_still_625 (fun w23 H locs ho25 hn24 hW hS => ?_)
          have hh1 := (hn24 _ (by omega)).trans hh1
          refine lv_dup F.1 F.2.1 dL_still_626 rfl ?_
          refine h_iconst F dL_still_627 ?_
          have join644 : ∀ (H : Heap) (locs : List Loc) (ls : Array Slot), Wd X w23 s H → va_S (cxA X) s.heap H locs → lv_has ls 15 [(10, .int (iI (lwS σ false (rr + 1)))), (11, .int (iI (lwS σ true (rr + 1)))), (12, .int (iI (mnP σ (rr + 1)))), (13, .int (iI rr)), (0, .ref y), (1, .ref h), (8, .int (iI (bz (fitQ σ))))] → W p l e (rmG 9 2600 10800 202) s m (List.toArray [.ref y, .ref h]) below meth c H locs (kc529 + 1 + 247 + 247) (ks529 + 6 + 988 + 988) (MX X below (List.toArray [.ref y, .ref h]) s 2600 10800 (some (.int (iI (bz true)))) (fun w' => w' = w)) (F0 m 644 ls [.int (iI (dnS σ (lowS σ true))), .int (iI 5), .ref d6, .ref d6]) := by
            intro  H locs ls  hW hS hl
            refine h_iast F hW hS ho25 (by omega) (by omega) dL_still_644 (fun w26 H locs ho28 hn27 hW hS => ?_)
            have hh1 := (hn27 _ (by omega)).trans hh1
            refine lv_astore (lv' := [(13, .ref d6), (10, .int (iI (lwS σ false (rr + 1)))), (11, .int (iI (lwS σ true (rr + 1)))), (12, .int (iI (mnP σ (rr + 1)))), (0, .ref y), (1, .ref h), (8, .int (iI (bz (fitQ σ))))]) F.1 F.2.1 dL_still_645 hl (by decide) rfl (fun ls hl => ?_)
            refine h_iconst F dL_still_647 ?_
            refine lv_istore (lv' := [(14, .int (iI 0)), (13, .ref d6), (10, .int (iI (lwS σ false (rr + 1)))), (11, .int (iI (lwS σ true (rr + 1)))), (12, .int (iI (mnP σ (rr + 1)))), (0, .ref y), (1, .ref h), (8, .int (iI (bz (fitQ σ))))]) F.1 F.2.1 dL_still_648 hl (by decide) rfl (fun ls hl => ?_)
            have loop650 : ∀ (n9 : Nat) (mi : Int), (hrg : 0 ≤ mi ∧ mi ≤ 6) → (hms : 6 - mi < (n9 : Int)) → (H : Heap) → (locs : List Loc) → (ls : Array Slot) → Wd X w26 s H → va_S (cxA X) s.heap H locs → lv_has ls 15 [(14, .int (iI mi)), (13, .ref d6), (10, .int (iI (lwS σ false (rr + 1)))), (11, .int (iI (lwS σ true (rr + 1)))), (12, .int (iI (mnP σ (rr + 1)))), (0, .ref y), (1, .ref h), (8, .int (iI (bz (fitQ σ))))] → W p l e (rmG 9 2600 10800 202) s m (List.toArray [.ref y, .ref h]) below meth c H locs (kc529 + 1 + 247 + 247) (ks529 + 6 + 988 + 988) (MX X below (List.toArray [.ref y, .ref h]) s 2600 10800 (some (.int (iI (bz true)))) (fun w' => w' = w)) (F0 m 650 ls []) := by
              intro n9
              induction n9 with
              | zero => intro mi  hrg hms; exfalso; omega
              | succ n9 ih650 =>
                intro mi  hrg hms   H locs ls hW hS hl
                have hEc : ext w w26 := (show ext w w26 from fun q e h9 => by have h9 := hE0 q e h9 ; have z9_1 := hfr6 q e h9; have h9 := (hn4 q (by omega)).trans h9; have h9 := (hn11 q (by omega)).trans h9; have h9 := (hn15 q (by omega)).trans h9; have h9 := (hn18 q (by omega)).trans h9; have h9 := (hn21 q (by omega)).trans h9; have h9 := (hn24 q (by omega)).trans h9; have h9 := (hn27 q (by omega)).trans h9; exact h9)
                have hYc : clO X w26 y su := (hEc.eqN hO0.2.1 y (hNy y (by omega) (by omega))).trans hY
                have hLc := hL.mv (w2 := w26) (fun q9 h1 h2 => hEc.eqN hO0.2.1 q9 (hNy q9 (by omega) (by omega)))
                have hft : ∀ z : Int, 0 ≤ z → z < 6 → (up (up (up (up (up (up (fun _ => 0) 0 (misFrom σ 0)) 1 (misSeen σ)) 2 (mnP σ (rr + 1))) 3 (lwS σ true (rr + 1))) 4 (dnS σ (lowS σ false))) 5 (dnS σ (lowS σ true))) z = misQ σ z := ups_6 rfl rfl (by rw [show rr + 1 = 0 by omega]; rfl) hlw1 rfl rfl
                have hqr := misQ_r hWF0 (wh := mi)
                refine lv_iload F.1 F.2.1 dL_still_650 (lv_at hl 0 rfl) ?_
                refine h_bipush F dL_still_652 rfl ?_
                refine h_icge (tgt := 679) F dL_still_654 (by decide) (by omega) (fun c29 => ?_) (fun c29 => ?_)
                · have hEc : ext w w26 := (show ext w w26 from fun q e h9 => by have h9 := hE0 q e h9 ; have z9_1 := hfr6 q e h9; have h9 := (hn4 q (by omega)).trans h9; have h9 := (hn11 q (by omega)).trans h9; have h9 := (hn15 q (by omega)).trans h9; have h9 := (hn18 q (by omega)).trans h9; have h9 := (hn21 q (by omega)).trans h9; have h9 := (hn24 q (by omega)).trans h9; have h9 := (hn27 q (by omega)).trans h9; exact h9)
                  have hYc : clO X w26 y su := (hEc.eqN hO0.2.1 y (hNy y (by omega) (by omega))).trans hY
                  have hLc := hL.mv (w2 := w26) (fun q9 h1 h2 => hEc.eqN hO0.2.1 q9 (hNy q9 (by omega) (by omega)))
                  refine lv_aload_n F.1 F.2.1 dL_still_679 rfl (lv_at hl 5 rfl) ?_
                  refine cl_RL_226 (As := []) (rest := []) F hl (c_X8_fits l X w26 y su σ hYc hLc) hW hS hYc rfl rfl ⟨Nat.le_of_ble_eq_true rfl, Nat.le_of_ble_eq_true rfl⟩ (Nat.le_of_ble_eq_true rfl) ⟨(by show kc529 + 1 + 247 + 247 + 0 ≤ 2600; omega), (by show ks529 + 6 + 988 + 988 + 0 ≤ 10800; omega)⟩ dL_still_680 (fun w1 H locs hp30 hW hS => ?_)
                  rw [hp30] at hW; clear hp30; clear w1
                  refine lv_iload F.1 F.2.1 dL_still_683 (lv_at hl 7 rfl) ?_
                  refine h_icne (tgt := 692) F dL_still_685 (by decide) (by have := bz_r (fitQ σ); have := bz_r (fitQ σ);  omega) (fun c31 => ?_) (fun c31 => ?_)
                  · exact absurd rfl c31
                  · refine h_iconst F dL_still_688 ?_
                    refine h_goto (tgt := 693) F dL_still_689 (by decide) ?_
                    refine W.wd (mc := 2600) (ms := 10800) (by omega) (by omega) ?_
                    have hW := Wd.dn hW (w := w) (fun q e h9 => by
                      have h9 := hE0 q e h9 
                      have z9_32 := hfr6 q e h9
                      have h9 := (hn4 q (by omega)).trans h9
                      have h9 := (hn11 q (by omega)).trans h9
                      have h9 := (hn15 q (by omega)).trans h9
                      have h9 := (hn18 q (by omega)).trans h9
                      have h9 := (hn21 q (by omega)).trans h9
                      have h9 := (hn24 q (by omega)).trans h9
                      have h9 := (hn27 q (by omega)).trans h9
                      exact h9)
                    refine h_top (show (1 : Int) = bz true from rfl) ?_
                    exact h_iretz F hr hlk hW hS rfl dL_still_693
                · refine lv_aload_n F.1 F.2.1 dL_still_657 rfl (lv_at hl 5 rfl) ?_
                  refine lv_iload F.1 F.2.1 dL_still_658 (lv_at hl 0 rfl) ?_
                  refine cl_RL_223 (As := [.int (iI mi)]) (rest := []) F hl (c_X8_mistakes l X w26 y su σ mi hYc hLc (by omega)) hW hS hYc rfl rfl ⟨Nat.le_of_ble_eq_true rfl, Nat.le_of_ble_eq_true rfl⟩ (Nat.le_of_ble_eq_true rfl) ⟨(by show kc529 + 1 + 247 + 247 + 0 ≤ 2600; omega), (by show ks529 + 6 + 988 + 988 + 0 ≤ 10800; omega)⟩ dL_still_660 (fun w1 H locs hp33 hW hS => ?_)
                  rw [hp33] at hW; clear hp33; clear w1
                  refine lv_aload F.1 F.2.1 dL_still_663 (lv_at hl 1 rfl) ?_
                  refine lv_iload F.1 F.2.1 dL_still_665 (lv_at hl 0 rfl) ?_
                  refine h_iald F hW ho28 (by omega) (by omega) dL_still_667 ?_
                  refine h_top (show ((up (up (up (up (up (up (fun _ => 0) 0 (misFrom σ 0)) 1 (misSeen σ)) 2 (mnP σ (rr + 1))) 3 (lwS σ true (rr + 1))) 4 (dnS σ (lowS σ false))) 5 (dnS σ (lowS σ true))) mi : Int) = misQ σ mi from hft mi (by omega) (by omega)) ?_
                  refine h_iceq (tgt := 673) F dL_still_668 (by decide) (by omega) (fun c34 => ?_) (fun c34 => ?_)
                  · refine h_iinc (k := 0) (a := mi) (lv' := [(14, .int (iI (mi + 1))), (13, .ref d6), (10, .int (iI (lwS σ false (rr + 1)))), (11, .int (iI (lwS σ true (rr + 1)))), (12, .int (iI (mnP σ (rr + 1)))), (0, .ref y), (1, .ref h), (8, .int (iI (bz (fitQ σ))))]) F dL_still_673 hl rfl (by decide) rfl (fun ls hl => ?_)
                    refine h_goto (tgt := 650) F dL_still_676 (by decide) ?_
                    have eq35 : ((mi + 1) : Int) = mi + 1 := by first | rfl | omega | simp
                    exact ih650 (mi + 1)  (by omega) (by omega)   _ _ ls hW hS (by rw [eq35]; exact lv_sub hl [0, 1, 2, 3, 4, 5, 6, 7] rfl)
                  · exact absurd rfl c34
            exact loop650 ((6 - 0) + 1 : Int).toNat 0   (by omega) (by omega)   _ _ ls hW hS (lv_sub hl [0, 1, 2, 3, 4, 5, 6, 7] rfl)
          refine lv_iload F.1 F.2.1 dL_still_628 (lv_at hl 1 rfl) ?_
          refine h_ifge (tgt := 637) F dL_still_630 (by decide) (by omega) (fun c36 => ?_) (fun c36 => ?_)
          · have hAk : ownA X w23 h σ := hO0.A.ex (show ext w w23 from fun q e h9 => by have h9 := hE0 q e h9 ; have z9_1 := hfr6 q e h9; have h9 := (hn4 q (by omega)).trans h9; have h9 := (hn11 q (by omega)).trans h9; have h9 := (hn15 q (by omega)).trans h9; have h9 := (hn18 q (by omega)).trans h9; have h9 := (hn21 q (by omega)).trans h9; have h9 := (hn24 q (by omega)).trans h9; exact h9)
            refine lv_aload_n F.1 F.2.1 dL_still_637 rfl (lv_at hl 5 rfl) ?_
            refine cl_RL_186 (As := []) (rest := [.int (iI 5), .ref d6, .ref d6]) F hl (c_X10_rows l X w23 h σ hAk) hW hS hh1 rfl rfl ⟨Nat.le_of_ble_eq_true rfl, Nat.le_of_ble_eq_true rfl⟩ (Nat.le_of_ble_eq_true rfl) ⟨(by show kc529 + 1 + 247 + 247 + 0 ≤ 2600; omega), (by show ks529 + 6 + 988 + 988 + 0 ≤ 10800; omega)⟩ dL_still_638 (fun w1 H locs hp37 hW hS => ?_)
            rw [hp37] at hW; clear hp37; clear w1
            refine lv_iload F.1 F.2.1 dL_still_641 (lv_at hl 1 rfl) ?_
            refine h_isub (a := σ 4) (b := lwS σ true (rr + 1)) F dL_still_643 ?_
            refine h_top (show ((σ 4) - (lwS σ true (rr + 1)) : Int) = dnS σ (lowS σ true) from by rw [← hlw1, ← dnS_v (by omega)]; first | rw [if_pos (by omega)] | rw [if_neg (by omega)]) ?_
            exact join644  _ _ ls  hW hS (lv_sub hl [0, 1, 2, 3, 4, 5, 6] rfl)
          · refine h_iconst F dL_still_633 ?_
            refine h_goto (tgt := 644) F dL_still_634 (by decide) ?_
            refine h_top (show (0 : Int) = dnS σ (lowS σ true) from by rw [← hlw1, ← dnS_v (by omega)]; first | rw [if_pos (by omega)] | rw [if_neg (by omega)]) ?_
            exact join644  _ _ ls  hW hS (lv_sub hl [0, 1, 2, 3, 4, 5, 6] rfl)
        refine lv_iload F.1 F.2.1 dL_still_609 (lv_at hl 0 rfl) ?_
        refine h_ifge (tgt := 618) F dL_still_611 (by decide) (by omega) (fun c38 => ?_) (fun c38 => ?_)
        · have hAk : ownA X w20 h σ := hO0.A.ex (show ext w w20 from fun q e h9 => by have h9 := hE0 q e h9 ; have z9_1 := hfr6 q e h9; have h9 := (hn4 q (by omega)).trans h9; have h9 := (hn11 q (by omega)).trans h9; have h9 := (hn15 q (by omega)).trans h9; have h9 := (hn18 q (by omega)).trans h9; have h9 := (hn21 q (by omega)).trans h9; exact h9)
          refine lv_aload_n F.1 F.2.1 dL_still_618 rfl (lv_at hl 5 rfl) ?_
          refine cl_RL_186 (As := []) (rest := [.int (iI 4), .ref d6, .ref d6]) F hl (c_X10_rows l X w20 h σ hAk) hW hS hh1 rfl rfl ⟨Nat.le_of_ble_eq_true rfl, Nat.le_of_ble_eq_true rfl⟩ (Nat.le_of_ble_eq_true rfl) ⟨(by show kc529 + 1 + 247 + 247 + 0 ≤ 2600; omega), (by show ks529 + 6 + 988 + 988 + 0 ≤ 10800; omega)⟩ dL_still_619 (fun w1 H locs hp39 hW hS => ?_)
          rw [hp39] at hW; clear hp39; clear w1
          refine lv_iload F.1 F.2.1 dL_still_622 (lv_at hl 0 rfl) ?_
          refine h_isub (a := σ 4) (b := lwS σ false (rr + 1)) F dL_still_624 ?_
          refine h_top (show ((σ 4) - (lwS σ false (rr + 1)) : Int) = dnS σ (lowS σ false) from by rw [← hlw0, ← dnS_v (by omega)]; first | rw [if_pos (by omega)] | rw [if_neg (by omega)]) ?_
          exact join625  _ _ ls  hW hS (lv_sub hl [0, 1, 2, 3, 4, 5, 6] rfl)
        · refine h_iconst F dL_still_614 ?_
          refine h_goto (tgt := 625) F dL_still_615 (by decide) ?_
          refine h_top (show (0 : Int) = dnS σ (lowS σ false) from by rw [← hlw0, ← dnS_v (by omega)]; first | rw [if_pos (by omega)] | rw [if_neg (by omega)]) ?_
          exact join625  _ _ ls  hW hS (lv_sub hl [0, 1, 2, 3, 4, 5, 6] rfl)
      · have hmr := misRow_r hWF0 rr
        refine lv_aload_n F.1 F.2.1 dL_still_534 rfl (lv_at hl 5 rfl) ?_
        refine lv_iload F.1 F.2.1 dL_still_535 (lv_at hl 3 rfl) ?_
        refine cl_RL_212 (As := [.int (iI rr)]) (rest := []) F hl (c_X10_wrongs l X w1 h σ rr hAk (by omega)) hW hS hh1 rfl rfl ⟨Nat.le_of_ble_eq_true rfl, Nat.le_of_ble_eq_true rfl⟩ (Nat.le_of_ble_eq_true rfl) ⟨(by show kc529 + 19 ≤ 2600; omega), (by show ks529 + 76 ≤ 10800; omega)⟩ dL_still_537 (fun w1 H locs hp40 hW hS => ?_)
        rw [hp40] at hW; clear hp40; clear w1
        refine h_ifne (tgt := 546) F dL_still_540 (by decide) (by omega) (fun c41 => ?_) (fun c41 => ?_)
        · have hmp : 0 < misRow σ rr := by omega
          have hs10 : lwS σ false rr = rr := lwS_t (by omega) (lowP_t hmp)
          have hs12 : mnP σ rr = mnP σ (rr + 1) + 1 := mnP_t (by omega) hmp
          refine h_iinc (k := 2) (a := mnP σ (rr + 1)) (lv' := [(12, .int (iI ((mnP σ (rr + 1)) + 1))), (10, .int (iI (lwS σ false (rr + 1)))), (11, .int (iI (lwS σ true (rr + 1)))), (13, .int (iI rr)), (0, .ref y), (1, .ref h), (8, .int (iI (bz (fitQ σ))))]) F dL_still_546 hl rfl (by decide) rfl (fun ls hl => ?_)
          refine lv_iload F.1 F.2.1 dL_still_549 (lv_at hl 3 rfl) ?_
          refine lv_istore (lv' := [(10, .int (iI rr)), (12, .int (iI ((mnP σ (rr + 1)) + 1))), (11, .int (iI (lwS σ true (rr + 1)))), (13, .int (iI rr)), (0, .ref y), (1, .ref h), (8, .int (iI (bz (fitQ σ))))]) F.1 F.2.1 dL_still_551 hl (by decide) rfl (fun ls hl => ?_)
          refine lv_aload_n F.1 F.2.1 dL_still_553 rfl (lv_at hl 5 rfl) ?_
          refine lv_iload F.1 F.2.1 dL_still_554 (lv_at hl 3 rfl) ?_
          refine cl_RL_215 (As := [.int (iI rr)]) (rest := []) F hl (c_X10_seen l X w1 h σ rr hAk (by omega)) hW hS hh1 rfl rfl ⟨Nat.le_of_ble_eq_true rfl, Nat.le_of_ble_eq_true rfl⟩ (Nat.le_of_ble_eq_true rfl) ⟨(by show kc529 + 19 + 0 ≤ 2600; omega), (by show ks529 + 76 + 0 ≤ 10800; omega)⟩ dL_still_556 (fun w1 H locs hp42 hW hS => ?_)
          rw [hp42] at hW; clear hp42; clear w1
          refine h_ifeqb (tgt := 567) F dL_still_559 (by decide) (fun c43 => ?_) (fun c43 => ?_)
          · have hs11 : lwS σ true rr = lwS σ true (rr + 1) := lwS_f (by omega) ((lowP_s hmp).trans c43)
            refine lv_iload F.1 F.2.1 dL_still_567 (lv_at hl 2 rfl) ?_
            refine lv_istore (lv' := [(11, .int (iI (lwS σ true (rr + 1)))), (10, .int (iI rr)), (12, .int (iI ((mnP σ (rr + 1)) + 1))), (13, .int (iI rr)), (0, .ref y), (1, .ref h), (8, .int (iI (bz (fitQ σ))))]) F.1 F.2.1 dL_still_569 hl (by decide) rfl (fun ls hl => ?_)
            refine h_iinc (k := 3) (a := rr) (lv' := [(13, .int (iI (rr + (-1)))), (11, .int (iI (lwS σ true (rr + 1)))), (10, .int (iI rr)), (12, .int (iI ((mnP σ (rr + 1)) + 1))), (0, .ref y), (1, .ref h), (8, .int (iI (bz (fitQ σ))))]) F dL_still_571 hl rfl (by decide) rfl (fun ls hl => ?_)
            refine h_goto (tgt := 529) F dL_still_574 (by decide) ?_
            have eq44 : (lwS σ false ((rr - 1) + 1) : Int) = rr := by rw [show rr - 1 + 1 = rr by omega]; exact hs10
            have eq45 : (lwS σ true ((rr - 1) + 1) : Int) = lwS σ true (rr + 1) := by rw [show rr - 1 + 1 = rr by omega]; exact hs11
            have eq46 : (mnP σ ((rr - 1) + 1) : Int) = (mnP σ (rr + 1)) + 1 := by rw [show rr - 1 + 1 = rr by omega]; exact hs12
            have eq47 : ((rr - 1) : Int) = rr + (-1) := by first | rfl | omega | simp
            exact ih529 (rr - 1) (kc529 + 19 + 0) (ks529 + 76 + 0)  (by omega) (by omega)  (by omega) (by omega) _ _ ls hW hS (by rw [eq44, eq45, eq46, eq47]; exact lv_sub hl [2, 1, 3, 0, 4, 5, 6] rfl)
          · have hs11 : lwS σ true rr = rr := lwS_t (by omega) ((lowP_s hmp).trans c43)
            refine lv_iload F.1 F.2.1 dL_still_562 (lv_at hl 3 rfl) ?_
            refine h_goto (tgt := 569) F dL_still_564 (by decide) ?_
            refine lv_istore (lv' := [(11, .int (iI rr)), (10, .int (iI rr)), (12, .int (iI ((mnP σ (rr + 1)) + 1))), (13, .int (iI rr)), (0, .ref y), (1, .ref h), (8, .int (iI (bz (fitQ σ))))]) F.1 F.2.1 dL_still_569 hl (by decide) rfl (fun ls hl => ?_)
            refine h_iinc (k := 3) (a := rr) (lv' := [(13, .int (iI (rr + (-1)))), (11, .int (iI rr)), (10, .int (iI rr)), (12, .int (iI ((mnP σ (rr + 1)) + 1))), (0, .ref y), (1, .ref h), (8, .int (iI (bz (fitQ σ))))]) F dL_still_571 hl rfl (by decide) rfl (fun ls hl => ?_)
            refine h_goto (tgt := 529) F dL_still_574 (by decide) ?_
            have eq48 : (lwS σ false ((rr - 1) + 1) : Int) = rr := by rw [show rr - 1 + 1 = rr by omega]; exact hs10
            have eq49 : (lwS σ true ((rr - 1) + 1) : Int) = rr := by rw [show rr - 1 + 1 = rr by omega]; exact hs11
            have eq50 : (mnP σ ((rr - 1) + 1) : Int) = (mnP σ (rr + 1)) + 1 := by rw [show rr - 1 + 1 = rr by omega]; exact hs12
            have eq51 : ((rr - 1) : Int) = rr + (-1) := by first | rfl | omega | simp
            exact ih529 (rr - 1) (kc529 + 19 + 0) (ks529 + 76 + 0)  (by omega) (by omega)  (by omega) (by omega) _ _ ls hW hS (by rw [eq48, eq49, eq50, eq51]; exact lv_sub hl [2, 1, 3, 0, 4, 5, 6] rfl)
        · have hmp : ¬ 0 < misRow σ rr := by omega
          have hs10 : lwS σ false rr = lwS σ false (rr + 1) := lwS_f (by omega) (lowP_f hmp)
          have hs11 : lwS σ true rr = lwS σ true (rr + 1) := lwS_f (by omega) (lowP_f hmp)
          have hs12 : mnP σ rr = mnP σ (rr + 1) := mnP_f (by omega) hmp
          refine h_goto (tgt := 571) F dL_still_543 (by decide) ?_
          refine h_iinc (k := 3) (a := rr) (lv' := [(13, .int (iI (rr + (-1)))), (10, .int (iI (lwS σ false (rr + 1)))), (11, .int (iI (lwS σ true (rr + 1)))), (12, .int (iI (mnP σ (rr + 1)))), (0, .ref y), (1, .ref h), (8, .int (iI (bz (fitQ σ))))]) F dL_still_571 hl rfl (by decide) rfl (fun ls hl => ?_)
          refine h_goto (tgt := 529) F dL_still_574 (by decide) ?_
          have eq52 : (lwS σ false ((rr - 1) + 1) : Int) = lwS σ false (rr + 1) := by rw [show rr - 1 + 1 = rr by omega]; exact hs10
          have eq53 : (lwS σ true ((rr - 1) + 1) : Int) = lwS σ true (rr + 1) := by rw [show rr - 1 + 1 = rr by omega]; exact hs11
          have eq54 : (mnP σ ((rr - 1) + 1) : Int) = mnP σ (rr + 1) := by rw [show rr - 1 + 1 = rr by omega]; exact hs12
          have eq55 : ((rr - 1) : Int) = rr + (-1) := by first | rfl | omega | simp
          exact ih529 (rr - 1) (kc529 + 19) (ks529 + 76)  (by omega) (by omega)  (by omega) (by omega) _ _ ls hW hS (by rw [eq52, eq53, eq54, eq55]; exact lv_sub hl [1, 2, 3, 0, 4, 5, 6] rfl)
  have eq56 : (lwS σ false ((σ 4 - 1) + 1) : Int) = (-1) := by rw [show σ 4 - 1 + 1 = σ 4 by omega]; exact lwS_e σ false
  have eq57 : (lwS σ true ((σ 4 - 1) + 1) : Int) = (-1) := by rw [show σ 4 - 1 + 1 = σ 4 by omega]; exact lwS_e σ true
  have eq58 : (mnP σ ((σ 4 - 1) + 1) : Int) = 0 := by rw [show σ 4 - 1 + 1 = σ 4 by omega]; exact mnP_e σ
  have eq59 : ((σ 4 - 1) : Int) = (σ 4) - 1 := by first | rfl | omega | simp
  exact loop529 (((σ 4 - 1) + 1) + 1 : Int).toNat (σ 4 - 1) (kc0 + 0) (ks0 + 0)   (by omega) (by omega)  (by omega) (by omega) _ _ ls hW hS (by rw [eq56, eq57, eq58, eq59]; exact lv_sub hl [3, 2, 1, 0, 4, 5, 6] rfl)
set_option maxHeartbeats 4000000 in
set_option maxRecDepth 100000 in
theorem sg_still_417 (l : Launch) (X : Cx) (w w1 : Wo) (y h : Nat) (N : Nat → Prop) (su : Int) (σ : Int → Int) (nx sz : Int) (pas : Int → Int → Int) (hO : ownN X w N h σ) (hNy : ∀ q, y ≤ q → q < y + 321 → N q) (hY : clO X w y su) (hL : loomAt X w (y + 1) σ) (hH : hisAt X w (y + 53) nx sz pas)   (hE0 : ∀ (q : Nat) (e : va_E), w q = some e → w1 q = some e) {p : Program} {e : Env} {s : State} {m : MethodId} {below : List Frame} {meth : Method} {c : Code} {H : Heap} {locs : List Loc} {ls : Array Slot} {kc0 ks0 : Nat} (F : Fx p m c cL_still 15 s (List.toArray [.ref y, .ref h]) RL) (hr : meth.sig.returnType = (some (.boolean))) (hlk : meth.locks = false) (hZ0 : cxZ X s s.heap) (hB9 : cxB X ≤ s.heap.size) (hkc0 : kc0 ≤ 1720) (hks0 : ks0 ≤ 7200) (hW : Wd X w1 s H) (hS : va_S (cxA X) s.heap H locs) (hl : lv_has ls 15 [(0, .ref y), (1, .ref h), (2, .int (iI (opnS σ))), (3, .int (iI (sm (fun z => cp σ z 0) 0 (σ 5)))), (8, .int (iI (bz (fitQ σ))))]) : W p l e (rmG 9 2600 10800 202) s m (List.toArray [.ref y, .ref h]) below meth c H locs kc0 ks0 (MX X below (List.toArray [.ref y, .ref h]) s 2600 10800 (some (.int (iI (bz true)))) (fun w' => w' = w)) (F0 m 417 ls []) := by
  have hO0 := hO
  obtain ⟨st, lc, ec, kc, lr, er, kr, cd, rwa, hPw0, hern⟩ := hO.A.P
  clear hern
  obtain ⟨hh0, hstk, hlst, hkc, hcps, -, -, -, hem, ⟨hWF0, hw0, hw1⟩, -, -, -⟩ := hPw0
  obtain ⟨wf0, wf1, wf2, wf3, wf4, wf5⟩ := hWF0.1
  have hh1 := hE0 _ _ hh0
  obtain ⟨⟨mc, h3a⟩, gc, h3b, h3c, h3d⟩ := hlst
  have h3w := hE0 _ _ h3a
  clear h3b hkc
  have hAk : ownA X w1 h σ := hO0.A.ex (show ext w w1 from fun q e h9 => by have h9 := hE0 q e h9 ; exact h9)
  refine h_bipush F dL_still_417 rfl ?_
  refine q_newP (N := 8) (k := 0) (atype := .int) (x := .inl (fun j : Nat => iI ((fun _ : Int => 0) (j : Int)))) F hW hS haCI rfl (hxI _) rfl (by omega) ⟨(by show kc0 + 1 ≤ 2600; omega), (by show ks0 + 8 ≤ 10800; omega)⟩ dL_still_419 (fun d8 w1 H hfr4 hcx5 ha3 hn2 hW hS => ?_)
  have ha3 : w1 d8 = some (aZ X 8 (fun _ => 0)) := ha3
  have hb6 := hfr4 _ _ hh1
  have hb7 := hfr4 _ _ h3w
  have hh1 := (hn2 _ (by omega)).trans hh1
  have h3w := (hn2 _ (by omega)).trans h3w
  refine lv_dup F.1 F.2.1 dL_still_421 rfl ?_
  refine h_iconst F dL_still_422 ?_
  refine lv_aload_n F.1 F.2.1 dL_still_423 rfl (lv_at hl 1 rfl) ?_
  refine gf_RL_60 F hW hh1 rfl dL_still_424 ?_
  refine h_iast F hW hS ha3 (by omega) (by omega) dL_still_427 (fun w8 H locs ho10 hn9 hW hS => ?_)
  have hh1 := (hn9 _ (by omega)).trans hh1
  have h3w := (hn9 _ (by omega)).trans h3w
  refine lv_dup F.1 F.2.1 dL_still_428 rfl ?_
  refine h_iconst F dL_still_429 ?_
  refine lv_aload_n F.1 F.2.1 dL_still_430 rfl (lv_at hl 1 rfl) ?_
  refine gf_RL_66 F hW hh1 rfl dL_still_431 ?_
  refine h_iast F hW hS ho10 (by omega) (by omega) dL_still_434 (fun w11 H locs ho13 hn12 hW hS => ?_)
  have hh1 := (hn12 _ (by omega)).trans hh1
  have h3w := (hn12 _ (by omega)).trans h3w
  refine lv_dup F.1 F.2.1 dL_still_435 rfl ?_
  refine h_iconst F dL_still_436 ?_
  have hAk : ownA X w11 h σ := hO0.A.ex (show ext w w11 from fun q e h9 => by have h9 := hE0 q e h9 ; have z9_1 := hfr4 q e h9; have h9 := (hn2 q (by omega)).trans h9; have h9 := (hn9 q (by omega)).trans h9; have h9 := (hn12 q (by omega)).trans h9; exact h9)
  refine lv_aload_n F.1 F.2.1 dL_still_437 rfl (lv_at hl 1 rfl) ?_
  refine cl_RL_186 (As := []) (rest := [.int (iI 2), .ref d8, .ref d8]) F hl (c_X10_rows l X w11 h σ hAk) hW hS hh1 rfl rfl ⟨Nat.le_of_ble_eq_true rfl, Nat.le_of_ble_eq_true rfl⟩ (Nat.le_of_ble_eq_true rfl) ⟨(by show kc0 + 1 + 0 ≤ 2600; omega), (by show ks0 + 8 + 0 ≤ 10800; omega)⟩ dL_still_438 (fun w1 H locs hp14 hW hS => ?_)
  rw [hp14] at hW; clear hp14; clear w1
  refine h_iast F hW hS ho13 (by omega) (by omega) dL_still_441 (fun w15 H locs ho17 hn16 hW hS => ?_)
  have hh1 := (hn16 _ (by omega)).trans hh1
  have h3w := (hn16 _ (by omega)).trans h3w
  refine lv_dup F.1 F.2.1 dL_still_442 rfl ?_
  refine h_iconst F dL_still_443 ?_
  refine lv_iload_n F.1 F.2.1 dL_still_444 rfl (lv_at hl 2 rfl) ?_
  refine h_iast F hW hS ho17 (by omega) (by omega) dL_still_445 (fun w18 H locs ho20 hn19 hW hS => ?_)
  have hh1 := (hn19 _ (by omega)).trans hh1
  have h3w := (hn19 _ (by omega)).trans h3w
  refine lv_dup F.1 F.2.1 dL_still_446 rfl ?_
  refine h_iconst F dL_still_447 ?_
  refine lv_aload_n F.1 F.2.1 dL_still_448 rfl (lv_at hl 1 rfl) ?_
  refine gf_RL_109 F hW hh1 rfl dL_still_449 ?_
  refine cl_RL_160 (As := []) (rest := [.int (iI 4), .ref d8, .ref d8]) F hl (c_Jx4a65c_size_8abf5 l X w18 lc mc ec (σ 5) h3w) hW hS h3w rfl rfl ⟨Nat.le_of_ble_eq_true rfl, Nat.le_of_ble_eq_true rfl⟩ (Nat.le_of_ble_eq_true rfl) ⟨(by show kc0 + 1 + 0 + 0 ≤ 2600; omega), (by show ks0 + 8 + 0 + 0 ≤ 10800; omega)⟩ dL_still_452 (fun w1 H locs hp21 hW hS => ?_)
  rw [hp21] at hW; clear hp21; clear w1
  refine h_iast F hW hS ho20 (by omega) (by omega) dL_still_457 (fun w22 H locs ho24 hn23 hW hS => ?_)
  have hh1 := (hn23 _ (by omega)).trans hh1
  have h3w := (hn23 _ (by omega)).trans h3w
  refine lv_dup F.1 F.2.1 dL_still_458 rfl ?_
  refine h_iconst F dL_still_459 ?_
  refine lv_aload_n F.1 F.2.1 dL_still_460 rfl (lv_at hl 1 rfl) ?_
  refine gf_RL_140 F hW hh1 rfl dL_still_461 ?_
  refine h_iast F hW hS ho24 (by omega) (by omega) dL_still_464 (fun w25 H locs ho27 hn26 hW hS => ?_)
  have hh1 := (hn26 _ (by omega)).trans hh1
  have h3w := (hn26 _ (by omega)).trans h3w
  refine lv_dup F.1 F.2.1 dL_still_465 rfl ?_
  refine h_bipush F dL_still_466 rfl ?_
  refine lv_aload_n F.1 F.2.1 dL_still_468 rfl (lv_at hl 1 rfl) ?_
  refine gf_RL_206 F hW hh1 rfl dL_still_469 ?_
  refine h_iast F hW hS ho27 (by omega) (by omega) dL_still_472 (fun w28 H locs ho30 hn29 hW hS => ?_)
  have hh1 := (hn29 _ (by omega)).trans hh1
  have h3w := (hn29 _ (by omega)).trans h3w
  refine lv_dup F.1 F.2.1 dL_still_473 rfl ?_
  refine h_bipush F dL_still_474 rfl ?_
  refine lv_iload_n F.1 F.2.1 dL_still_476 rfl (lv_at hl 3 rfl) ?_
  refine h_iast F hW hS ho30 (by omega) (by omega) dL_still_477 (fun w31 H locs ho33 hn32 hW hS => ?_)
  have hh1 := (hn32 _ (by omega)).trans hh1
  have h3w := (hn32 _ (by omega)).trans h3w
  refine lv_astore (lv' := [(9, .ref d8), (0, .ref y), (1, .ref h), (2, .int (iI (opnS σ))), (3, .int (iI (sm (fun z => cp σ z 0) 0 (σ 5)))), (8, .int (iI (bz (fitQ σ))))]) F.1 F.2.1 dL_still_478 hl (by decide) rfl (fun ls hl => ?_)
  refine h_iconst F dL_still_480 ?_
  refine lv_istore (lv' := [(10, .int (iI 0)), (9, .ref d8), (0, .ref y), (1, .ref h), (2, .int (iI (opnS σ))), (3, .int (iI (sm (fun z => cp σ z 0) 0 (σ 5)))), (8, .int (iI (bz (fitQ σ))))]) F.1 F.2.1 dL_still_481 hl (by decide) rfl (fun ls hl => ?_)
  have loop483 : ∀ (n9 : Nat) (ci : Int), (hrg : 0 ≤ ci ∧ ci ≤ 8) → (hms : 8 - ci < (n9 : Int)) → (H : Heap) → (locs : List Loc) → (ls : Array Slot) → Wd X w31 s H → va_S (cxA X) s.heap H locs → lv_has ls 15 [(10, .int (iI ci)), (9, .ref d8), (0, .ref y), (1, .ref h), (2, .int (iI (opnS σ))), (3, .int (iI (sm (fun z => cp σ z 0) 0 (σ 5)))), (8, .int (iI (bz (fitQ σ))))] → W p l e (rmG 9 2600 10800 202) s m (List.toArray [.ref y, .ref h]) below meth c H locs (kc0 + 1 + 0 + 0) (ks0 + 8 + 0 + 0) (MX X below (List.toArray [.ref y, .ref h]) s 2600 10800 (some (.int (iI (bz true)))) (fun w' => w' = w)) (F0 m 483 ls []) := by
    intro n9
    induction n9 with
    | zero => intro ci  hrg hms; exfalso; omega
    | succ n9 ih483 =>
      intro ci  hrg hms   H locs ls hW hS hl
      have hEc : ext w w31 := (show ext w w31 from fun q e h9 => by have h9 := hE0 q e h9 ; have z9_1 := hfr4 q e h9; have h9 := (hn2 q (by omega)).trans h9; have h9 := (hn9 q (by omega)).trans h9; have h9 := (hn12 q (by omega)).trans h9; have h9 := (hn16 q (by omega)).trans h9; have h9 := (hn19 q (by omega)).trans h9; have h9 := (hn23 q (by omega)).trans h9; have h9 := (hn26 q (by omega)).trans h9; have h9 := (hn29 q (by omega)).trans h9; have h9 := (hn32 q (by omega)).trans h9; exact h9)
      have hYc : clO X w31 y su := (hEc.eqN hO0.2.1 y (hNy y (by omega) (by omega))).trans hY
      have hLc := hL.mv (w2 := w31) (fun q9 h1 h2 => hEc.eqN hO0.2.1 q9 (hNy q9 (by omega) (by omega)))
      have hHc := hH.mv (w2 := w31) (fun q9 h1 h2 => hEc.eqN hO0.2.1 q9 (hNy q9 (by omega) (by omega)))
      have hsz := hH.2.2.1.2
      have hft : ∀ z : Int, 0 ≤ z → z < 8 → (up (up (up (up (up (up (up (up (fun _ => 0) 0 (σ 0)) 1 (σ 1)) 2 (σ 4)) 3 (opnS σ)) 4 (σ 5)) 5 (σ 2)) 6 (σ 3)) 7 (sm (fun z => cp σ z 0) 0 (σ 5))) z = cntQ σ sz z := ups_8 rfl rfl rfl rfl rfl rfl rfl rfl
      have hcr := cntQ_r hWF0 (un := sz) (wh := ci) (by omega)
      refine lv_iload F.1 F.2.1 dL_still_483 (lv_at hl 0 rfl) ?_
      refine h_bipush F dL_still_485 rfl ?_
      refine h_icge (tgt := 512) F dL_still_487 (by decide) (by omega) (fun c34 => ?_) (fun c34 => ?_)
      · exact sg_still_512 l X w w31 y h N su σ nx sz pas hO hNy hY hL hH   (fun q e h9  => by have h9 := hE0 q e h9 ; have z9_1 := hfr4 q e h9; have h9 := (hn2 q (by omega)).trans h9; have h9 := (hn9 q (by omega)).trans h9; have h9 := (hn12 q (by omega)).trans h9; have h9 := (hn16 q (by omega)).trans h9; have h9 := (hn19 q (by omega)).trans h9; have h9 := (hn23 q (by omega)).trans h9; have h9 := (hn26 q (by omega)).trans h9; have h9 := (hn29 q (by omega)).trans h9; have h9 := (hn32 q (by omega)).trans h9; exact h9) F hr hlk hZ0 hB9 (by omega) (by omega) hW hS (lv_sub hl [2, 3, 6] rfl)
      · refine lv_aload_n F.1 F.2.1 dL_still_490 rfl (lv_at hl 2 rfl) ?_
        refine lv_iload F.1 F.2.1 dL_still_491 (lv_at hl 0 rfl) ?_
        refine cl_RL_209 (As := [.int (iI ci)]) (rest := []) F hl (c_X8_count l X w31 y su σ nx sz pas ci hYc hLc hHc (by omega)) hW hS hYc rfl rfl ⟨Nat.le_of_ble_eq_true rfl, Nat.le_of_ble_eq_true rfl⟩ (Nat.le_of_ble_eq_true rfl) ⟨(by show kc0 + 1 + 0 + 0 + 0 ≤ 2600; omega), (by show ks0 + 8 + 0 + 0 + 0 ≤ 10800; omega)⟩ dL_still_493 (fun w1 H locs hp35 hW hS => ?_)
        rw [hp35] at hW; clear hp35; clear w1
        refine lv_aload F.1 F.2.1 dL_still_496 (lv_at hl 1 rfl) ?_
        refine lv_iload F.1 F.2.1 dL_still_498 (lv_at hl 0 rfl) ?_
        refine h_iald F hW ho33 (by omega) (by omega) dL_still_500 ?_
        refine h_top (show ((up (up (up (up (up (up (up (up (fun _ => 0) 0 (σ 0)) 1 (σ 1)) 2 (σ 4)) 3 (opnS σ)) 4 (σ 5)) 5 (σ 2)) 6 (σ 3)) 7 (sm (fun z => cp σ z 0) 0 (σ 5))) ci : Int) = cntQ σ sz ci from hft ci (by omega) (by omega)) ?_
        refine h_iceq (tgt := 506) F dL_still_501 (by decide) (by omega) (fun c36 => ?_) (fun c36 => ?_)
        · refine h_iinc (k := 0) (a := ci) (lv' := [(10, .int (iI (ci + 1))), (9, .ref d8), (0, .ref y), (1, .ref h), (2, .int (iI (opnS σ))), (3, .int (iI (sm (fun z => cp σ z 0) 0 (σ 5)))), (8, .int (iI (bz (fitQ σ))))]) F dL_still_506 hl rfl (by decide) rfl (fun ls hl => ?_)
          refine h_goto (tgt := 483) F dL_still_509 (by decide) ?_
          have eq37 : ((ci + 1) : Int) = ci + 1 := by first | rfl | omega | simp
          exact ih483 (ci + 1)  (by omega) (by omega)   _ _ ls hW hS (by rw [eq37]; exact lv_sub hl [0, 1, 2, 3, 4, 5, 6] rfl)
        · exact absurd rfl c36
  exact loop483 ((8 - 0) + 1 : Int).toNat 0   (by omega) (by omega)   _ _ ls hW hS (lv_sub hl [0, 1, 2, 3, 4, 5, 6] rfl)
set_option maxHeartbeats 4000000 in
set_option maxRecDepth 100000 in
theorem sg_still_304 (l : Launch) (X : Cx) (w w1 : Wo) (y h : Nat) (N : Nat → Prop) (su : Int) (σ : Int → Int) (nx sz : Int) (pas : Int → Int → Int) (hO : ownN X w N h σ) (hNy : ∀ q, y ≤ q → q < y + 321 → N q) (hY : clO X w y su) (hL : loomAt X w (y + 1) σ) (hH : hisAt X w (y + 53) nx sz pas)   (hE0 : ∀ (q : Nat) (e : va_E), w q = some e → w1 q = some e) {p : Program} {e : Env} {s : State} {m : MethodId} {below : List Frame} {meth : Method} {c : Code} {H : Heap} {locs : List Loc} {ls : Array Slot} {kc0 ks0 : Nat} (F : Fx p m c cL_still 15 s (List.toArray [.ref y, .ref h]) RL) (hr : meth.sig.returnType = (some (.boolean))) (hlk : meth.locks = false) (hZ0 : cxZ X s s.heap) (hB9 : cxB X ≤ s.heap.size) (hkc0 : kc0 ≤ 270) (hks0 : ks0 ≤ 1060) (hW : Wd X w1 s H) (hS : va_S (cxA X) s.heap H locs) (hl : lv_has ls 15 [(0, .ref y), (1, .ref h), (2, .int (iI (opnS σ))), (3, .int (iI 0))]) : W p l e (rmG 9 2600 10800 202) s m (List.toArray [.ref y, .ref h]) below meth c H locs kc0 ks0 (MX X below (List.toArray [.ref y, .ref h]) s 2600 10800 (some (.int (iI (bz true)))) (fun w' => w' = w)) (F0 m 304 ls []) := by
  have hO0 := hO
  obtain ⟨st, lc, ec, kc, lr, er, kr, cd, rwa, hPw0, hern⟩ := hO.A.P
  clear hern
  obtain ⟨hh0, hstk, hlst, hkc, hcps, -, -, -, hem, ⟨hWF0, hw0, hw1⟩, -, -, -⟩ := hPw0
  obtain ⟨wf0, wf1, wf2, wf3, wf4, wf5⟩ := hWF0.1
  have hh1 := hE0 _ _ hh0
  obtain ⟨⟨mc, h3a⟩, gc, h3b, h3c, h3d⟩ := hlst
  have h3w := hE0 _ _ h3a
  have hkc9 : kc ≤ 10 := by omega
  clear hkc
  have hAk : ownA X w1 h σ := hO0.A.ex (show ext w w1 from fun q e h9 => by have h9 := hE0 q e h9 ; exact h9)
  have hEc : ext w w1 := (show ext w w1 from fun q e h9 => by have h9 := hE0 q e h9 ; exact h9)
  have hYc : clO X w1 y su := (hEc.eqN hO0.2.1 y (hNy y (by omega) (by omega))).trans hY
  have hLc := hL.mv (w2 := w1) (fun q9 h1 h2 => hEc.eqN hO0.2.1 q9 (hNy q9 (by omega) (by omega)))
  have join320 : ∀ (H : Heap) (locs : List Loc) (ls : Array Slot), Wd X w1 s H → va_S (cxA X) s.heap H locs → lv_has ls 15 [(0, .ref y), (1, .ref h), (2, .int (iI (opnS σ))), (3, .int (iI 0))] → W p l e (rmG 9 2600 10800 202) s m (List.toArray [.ref y, .ref h]) below meth c H locs (kc0) (ks0) (MX X below (List.toArray [.ref y, .ref h]) s 2600 10800 (some (.int (iI (bz true)))) (fun w' => w' = w)) (F0 m 320 ls [.int (iI (bz (decide (σ 4 = σ 1))))]) := by
    intro  H locs ls  hW hS hl
    refine lv_istore (lv' := [(8, .int (iI (bz (decide (σ 4 = σ 1))))), (0, .ref y), (1, .ref h), (2, .int (iI (opnS σ))), (3, .int (iI 0))]) F.1 F.2.1 dL_still_320 hl (by decide) rfl (fun ls hl => ?_)
    refine h_iconst F dL_still_322 ?_
    refine lv_istore (lv' := [(9, .int (iI 0)), (8, .int (iI (bz (decide (σ 4 = σ 1))))), (0, .ref y), (1, .ref h), (2, .int (iI (opnS σ))), (3, .int (iI 0))]) F.1 F.2.1 dL_still_323 hl (by decide) rfl (fun ls hl => ?_)
    have loop325 : ∀ (n9 : Nat) (k : Int) (kc325 ks325 : Nat), (hrg : 0 ≤ k ∧ k ≤ σ 5) → (hms : σ 5 - k < (n9 : Int)) → (hkc325 : ((kc325 : Nat) : Int) ≤ ((kc0 : Nat) : Int) + 180 * k) → (hks325 : ((ks325 : Nat) : Int) ≤ ((ks0 : Nat) : Int) + 760 * k) → (H : Heap) → (locs : List Loc) → (ls : Array Slot) → Wd X w1 s H → va_S (cxA X) s.heap H locs → lv_has ls 15 [(3, .int (iI (sm (fun z => cp σ z 0) 0 k))), (8, .int (iI (bz (decide (σ 4 = σ 1) && al (fitB σ) 0 k)))), (9, .int (iI k)), (0, .ref y), (1, .ref h), (2, .int (iI (opnS σ)))] → W p l e (rmG 9 2600 10800 202) s m (List.toArray [.ref y, .ref h]) below meth c H locs kc325 ks325 (MX X below (List.toArray [.ref y, .ref h]) s 2600 10800 (some (.int (iI (bz true)))) (fun w' => w' = w)) (F0 m 325 ls []) := by
      intro n9
      induction n9 with
      | zero => intro k kc325 ks325  hrg hms; exfalso; omega
      | succ n9 ih325 =>
        intro k kc325 ks325  hrg hms  hkc325 hks325 H locs ls hW hS hl
        refine lv_iload F.1 F.2.1 dL_still_325 (lv_at hl 2 rfl) ?_
        refine lv_aload_n F.1 F.2.1 dL_still_327 rfl (lv_at hl 4 rfl) ?_
        refine gf_RL_109 F hW hh1 rfl dL_still_328 ?_
        refine cl_RL_160 (As := []) (rest := [.int (iI k)]) F hl (c_Jx4a65c_size_8abf5 l X w1 lc mc ec (σ 5) h3w) hW hS h3w rfl rfl ⟨Nat.le_of_ble_eq_true rfl, Nat.le_of_ble_eq_true rfl⟩ (Nat.le_of_ble_eq_true rfl) ⟨(by show kc325 + 0 ≤ 2600; omega), (by show ks325 + 0 ≤ 10800; omega)⟩ dL_still_331 (fun w1 H locs hp1 hW hS => ?_)
        rw [hp1] at hW; clear hp1; clear w1
        refine h_icge (tgt := 417) F dL_still_336 (by decide) (by omega) (fun c2 => ?_) (fun c2 => ?_)
        · have eq3 : (sm (fun z => cp σ z 0) 0 (σ 5) : Int) = sm (fun z => cp σ z 0) 0 k := by rw [show k = σ 5 by omega]
          have eq4 : (bz (fitQ σ) : Int) = bz (decide (σ 4 = σ 1) && al (fitB σ) 0 k) := by rw [show k = σ 5 by omega]; rfl
          exact sg_still_417 l X w w1 y h N su σ nx sz pas hO hNy hY hL hH   (fun q e h9  => by have h9 := hE0 q e h9 ; exact h9) F hr hlk hZ0 hB9 (by omega) (by omega) hW hS (by rw [eq3, eq4]; exact lv_sub hl [3, 4, 5, 0, 1] rfl)
        · refine lv_aload_n F.1 F.2.1 dL_still_339 rfl (lv_at hl 4 rfl) ?_
          refine gf_RL_109 F hW hh1 rfl dL_still_340 ?_
          have hec0 : w ec = some (aR X 5 kc gc) := h3b.elim (fun z9 => absurd z9.2 (by omega)) (fun z9 => z9.1)
          have hecw := hE0 _ _ hec0
          refine lv_iload F.1 F.2.1 dL_still_343 (lv_at hl 2 rfl) ?_
          refine cl_RL_195 (As := [.int (iI k)]) (rest := []) F hl (c_Jx4a65c_get_915e3 l X w1 lc mc ec (σ 5) kc gc k (cd k) h3w hecw (by omega) (h3d k (by omega) (by omega))) hW hS h3w rfl rfl ⟨Nat.le_of_ble_eq_true rfl, Nat.le_of_ble_eq_true rfl⟩ (Nat.le_of_ble_eq_true rfl) ⟨(by show kc325 + 0 + 0 ≤ 2600; omega), (by show ks325 + 0 + 0 ≤ 10800; omega)⟩ dL_still_345 (fun w1 H locs hp5 hW hS => ?_)
          rw [hp5] at hW; clear hp5; clear w1
          obtain ⟨fk, ⟨wdk, hcpk, hsk⟩, hfk⟩ := hcps.1 k (by omega) (by omega)
          have hcpk := hE0 _ _ hcpk
          have hsk := hsk.ex hE0
          have hok := (hWF0.2.2.1 k (by omega) (by omega)).1
          refine h_castO F hW (ci := 9) rfl hcpk kl_RL_69 dL_still_350 ?_
          refine lv_astore (lv' := [(10, .ref (cd k)), (3, .int (iI (sm (fun z => cp σ z 0) 0 k))), (8, .int (iI (bz (decide (σ 4 = σ 1) && al (fitB σ) 0 k)))), (9, .int (iI k)), (0, .ref y), (1, .ref h), (2, .int (iI (opnS σ)))]) F.1 F.2.1 dL_still_353 hl (by decide) rfl (fun ls hl => ?_)
          refine lv_aload_n F.1 F.2.1 dL_still_355 rfl (lv_at hl 4 rfl) ?_
          refine lv_aload_n F.1 F.2.1 dL_still_356 rfl (lv_at hl 5 rfl) ?_
          refine lv_iload F.1 F.2.1 dL_still_357 (lv_at hl 3 rfl) ?_
          refine lv_aload F.1 F.2.1 dL_still_359 (lv_at hl 0 rfl) ?_
          refine cl_RL_199 (As := [.ref y, .ref h, .int (iI k), .ref (cd k)]) (rest := []) F hl (c_L_isTold l X w1 y h (cd k) wdk N su σ fk k (hO0.up hE0) hNy hYc hLc (by omega) hcpk hsk hfk) hW hS rfl rfl ⟨Nat.le_of_ble_eq_true rfl, Nat.le_of_ble_eq_true rfl⟩ (Nat.le_of_ble_eq_true rfl) ⟨(by show kc325 + 0 + 0 + 180 ≤ 2600; omega), (by show ks325 + 0 + 0 + 760 ≤ 10800; omega)⟩ dL_still_361 (fun w1 H locs hp6 hW hS => ?_)
          rw [hp6] at hW; clear hp6; clear w1
          refine h_ifneb (tgt := 369) F dL_still_364 (by decide) (fun _ => ?_) (fun c9 => absurd c9 (by decide))
          refine lv_iload_n F.1 F.2.1 dL_still_369 rfl (lv_at hl 1 rfl) ?_
          refine lv_aload F.1 F.2.1 dL_still_370 (lv_at hl 0 rfl) ?_
          refine gf_RL_117 F hW hcpk rfl dL_still_372 ?_
          refine cs_RL_7 (As := []) (rest := [.int (iI (sm (fun z => cp σ z 0) 0 k))]) F hl (cS_len l X w1 wdk ((cp σ k 0).toNat) fk hsk (by omega)) hW hS (str.rc (n := (cp σ k 0).toNat) (f := fk) hsk hW hZ0 hS) rfl rfl ⟨Nat.le_of_ble_eq_true rfl, Nat.le_of_ble_eq_true rfl⟩ (Nat.le_of_ble_eq_true rfl) ⟨(by show kc325 + 0 + 0 + 180 + 0 ≤ 2600; omega), (by show ks325 + 0 + 0 + 760 + 0 ≤ 10800; omega)⟩ dL_still_375 (fun w1 H locs hp8 hW hS => ?_)
          rw [hp8] at hW; clear hp8; clear w1
          refine h_top (show (((((cp σ k 0).toNat) : Nat) : Int) : Int) = cp σ k 0 from by omega) ?_
          refine h_iadd (a := sm (fun z => cp σ z 0) 0 k) (b := cp σ k 0) F dL_still_378 ?_
          refine lv_istore_n (lv' := [(3, .int (iI ((sm (fun z => cp σ z 0) 0 k) + (cp σ k 0)))), (10, .ref (cd k)), (8, .int (iI (bz (decide (σ 4 = σ 1) && al (fitB σ) 0 k)))), (9, .int (iI k)), (0, .ref y), (1, .ref h), (2, .int (iI (opnS σ)))]) F.1 F.2.1 dL_still_379 rfl hl (by decide) rfl (fun ls hl => ?_)
          have join409 : ∀ (H : Heap) (locs : List Loc) (ls : Array Slot), Wd X w1 s H → va_S (cxA X) s.heap H locs → lv_has ls 15 [(3, .int (iI ((sm (fun z => cp σ z 0) 0 k) + (cp σ k 0)))), (10, .ref (cd k)), (8, .int (iI (bz (decide (σ 4 = σ 1) && al (fitB σ) 0 k)))), (9, .int (iI k)), (0, .ref y), (1, .ref h), (2, .int (iI (opnS σ)))] → W p l e (rmG 9 2600 10800 202) s m (List.toArray [.ref y, .ref h]) below meth c H locs (kc325 + 0 + 0 + 180 + 0) (ks325 + 0 + 0 + 760 + 0) (MX X below (List.toArray [.ref y, .ref h]) s 2600 10800 (some (.int (iI (bz true)))) (fun w' => w' = w)) (F0 m 409 ls [.int (iI (bz (decide (σ 4 = σ 1) && al (fitB σ) 0 (k + 1))))]) := by
            intro  H locs ls  hW hS hl
            refine lv_istore (lv' := [(8, .int (iI (bz (decide (σ 4 = σ 1) && al (fitB σ) 0 (k + 1))))), (3, .int (iI ((sm (fun z => cp σ z 0) 0 k) + (cp σ k 0)))), (10, .ref (cd k)), (9, .int (iI k)), (0, .ref y), (1, .ref h), (2, .int (iI (opnS σ)))]) F.1 F.2.1 dL_still_409 hl (by decide) rfl (fun ls hl => ?_)
            refine h_iinc (k := 3) (a := k) (lv' := [(9, .int (iI (k + 1))), (8, .int (iI (bz (decide (σ 4 = σ 1) && al (fitB σ) 0 (k + 1))))), (3, .int (iI ((sm (fun z => cp σ z 0) 0 k) + (cp σ k 0)))), (10, .ref (cd k)), (0, .ref y), (1, .ref h), (2, .int (iI (opnS σ)))]) F dL_still_411 hl rfl (by decide) rfl (fun ls hl => ?_)
            refine h_goto (tgt := 325) F dL_still_414 (by decide) ?_
            have eq9 : (sm (fun z => cp σ z 0) 0 (k + 1) : Int) = (sm (fun z => cp σ z 0) 0 k) + (cp σ k 0) := sm_s _ (by omega)
            have eq10 : ((k + 1) : Int) = k + 1 := by first | rfl | omega | simp
            exact ih325 (k + 1) (kc325 + 0 + 0 + 180 + 0) (ks325 + 0 + 0 + 760 + 0)  (by omega) (by omega)  (by omega) (by omega) _ _ ls hW hS (by rw [eq9, eq10]; exact lv_sub hl [2, 1, 0, 4, 5, 6] rfl)
          refine lv_iload F.1 F.2.1 dL_still_380 (lv_at hl 2 rfl) ?_
          refine h_ifeqb (tgt := 408) F dL_still_382 (by decide) (fun c11 => ?_) (fun c11 => ?_)
          · have hft9 : (0 : Int) = bz (decide (σ 4 = σ 1) && al (fitB σ) 0 (k + 1)) := by rw [al_s _ (by omega), ← Bool.and_assoc, c11]; rfl
            refine h_iconst F dL_still_408 ?_
            refine h_top (show (0 : Int) = bz (decide (σ 4 = σ 1) && al (fitB σ) 0 (k + 1)) from hft9) ?_
            exact join409  _ _ ls  hW hS (lv_sub hl [0, 1, 2, 3, 4, 5, 6] rfl)
          · have hf8 := c11
            have hcq9 := capQ_r hWF0 (k := k) (by omega) (wh := 6) (by omega)
            refine lv_aload_n F.1 F.2.1 dL_still_385 rfl (lv_at hl 4 rfl) ?_
            refine lv_iload F.1 F.2.1 dL_still_386 (lv_at hl 3 rfl) ?_
            refine h_bipush F dL_still_388 rfl ?_
            refine cl_RL_203 (As := [.int (iI k), .int (iI 6)]) (rest := []) F hl (c_X8_caption l X w1 y su σ k 6 hYc hLc (by omega) (by omega)) hW hS hYc rfl rfl ⟨Nat.le_of_ble_eq_true rfl, Nat.le_of_ble_eq_true rfl⟩ (Nat.le_of_ble_eq_true rfl) ⟨(by show kc325 + 0 + 0 + 180 + 0 + 0 ≤ 2600; omega), (by show ks325 + 0 + 0 + 760 + 0 + 0 ≤ 10800; omega)⟩ dL_still_390 (fun w1 H locs hp12 hW hS => ?_)
            rw [hp12] at hW; clear hp12; clear w1
            refine lv_aload F.1 F.2.1 dL_still_393 (lv_at hl 1 rfl) ?_
            refine gf_RL_117 F hW hcpk rfl dL_still_395 ?_
            refine cs_RL_7 (As := []) (rest := [.int (iI (capQ σ k 6))]) F hl (cS_len l X w1 wdk ((cp σ k 0).toNat) fk hsk (by omega)) hW hS (str.rc (n := (cp σ k 0).toNat) (f := fk) hsk hW hZ0 hS) rfl rfl ⟨Nat.le_of_ble_eq_true rfl, Nat.le_of_ble_eq_true rfl⟩ (Nat.le_of_ble_eq_true rfl) ⟨(by show kc325 + 0 + 0 + 180 + 0 + 0 + 0 ≤ 2600; omega), (by show ks325 + 0 + 0 + 760 + 0 + 0 + 0 ≤ 10800; omega)⟩ dL_still_398 (fun w1 H locs hp13 hW hS => ?_)
            rw [hp13] at hW; clear hp13; clear w1
            refine h_top (show (((((cp σ k 0).toNat) : Nat) : Int) : Int) = cp σ k 0 from by omega) ?_
            refine h_icne (tgt := 408) F dL_still_401 (by decide) (by omega) (fun c14 => ?_) (fun c14 => ?_)
            · have hft9 : (0 : Int) = bz (decide (σ 4 = σ 1) && al (fitB σ) 0 (k + 1)) := by rw [al_s _ (by omega), show fitB σ k = false from decide_eq_false (fun z9 => c14 z9), Bool.and_false, Bool.and_false]; rfl
              refine h_iconst F dL_still_408 ?_
              refine h_top (show (0 : Int) = bz (decide (σ 4 = σ 1) && al (fitB σ) 0 (k + 1)) from hft9) ?_
              exact join409  _ _ ls  hW hS (lv_sub hl [0, 1, 2, 3, 4, 5, 6] rfl)
            · have hft9 : (1 : Int) = bz (decide (σ 4 = σ 1) && al (fitB σ) 0 (k + 1)) := by rw [al_s _ (by omega), ← Bool.and_assoc, hf8, show fitB σ k = true from decide_eq_true c14]; rfl
              refine h_iconst F dL_still_404 ?_
              refine h_goto (tgt := 409) F dL_still_405 (by decide) ?_
              refine h_top (show (1 : Int) = bz (decide (σ 4 = σ 1) && al (fitB σ) 0 (k + 1)) from hft9) ?_
              exact join409  _ _ ls  hW hS (lv_sub hl [0, 1, 2, 3, 4, 5, 6] rfl)
    have eq15 : (sm (fun z => cp σ z 0) 0 0 : Int) = 0 := sm_0 _ _
    have eq16 : (bz (decide (σ 4 = σ 1) && al (fitB σ) 0 0) : Int) = bz (decide (σ 4 = σ 1)) := by rw [al_0, Bool.and_true]
    exact loop325 ((σ 5 - 0) + 1 : Int).toNat 0 (kc0) (ks0)   (by omega) (by omega)  (by omega) (by omega) _ _ ls hW hS (by rw [eq15, eq16]; exact lv_sub hl [5, 1, 0, 2, 3, 4] rfl)
  refine lv_aload_n F.1 F.2.1 dL_still_304 rfl (lv_at hl 1 rfl) ?_
  refine cl_RL_186 (As := []) (rest := []) F hl (c_X10_rows l X w1 h σ hAk) hW hS hh1 rfl rfl ⟨Nat.le_of_ble_eq_true rfl, Nat.le_of_ble_eq_true rfl⟩ (Nat.le_of_ble_eq_true rfl) ⟨(by show kc0 + 0 ≤ 2600; omega), (by show ks0 + 0 ≤ 10800; omega)⟩ dL_still_305 (fun w1 H locs hp17 hW hS => ?_)
  rw [hp17] at hW; clear hp17; clear w1
  refine lv_aload_n F.1 F.2.1 dL_still_308 rfl (lv_at hl 1 rfl) ?_
  refine gf_RL_66 F hW hh1 rfl dL_still_309 ?_
  refine h_icne (tgt := 319) F dL_still_312 (by decide) (by omega) (fun c18 => ?_) (fun c18 => ?_)
  · refine h_iconst F dL_still_319 ?_
    refine h_top (show (0 : Int) = bz (decide (σ 4 = σ 1)) from bzf (by first | exact decide_eq_false (by omega) | (simp only [Bool.and_eq_false_iff, Bool.or_eq_false_iff, decide_eq_false_iff_not]; omega) | simp_all)) ?_
    exact join320  _ _ ls  hW hS (lv_sub hl [0, 1, 2, 3] rfl)
  · refine h_iconst F dL_still_315 ?_
    refine h_goto (tgt := 320) F dL_still_316 (by decide) ?_
    refine h_top (show (1 : Int) = bz (decide (σ 4 = σ 1)) from bzt (by first | exact decide_eq_true (by omega) | (simp only [Bool.and_eq_true, Bool.or_eq_true, decide_eq_true_eq]; omega) | simp_all)) ?_
    exact join320  _ _ ls  hW hS (lv_sub hl [0, 1, 2, 3] rfl)
set_option maxHeartbeats 4000000 in
set_option maxRecDepth 100000 in
theorem sg_still_206 (l : Launch) (X : Cx) (w w1 : Wo) (y h : Nat) (N : Nat → Prop) (su : Int) (σ : Int → Int) (nx sz : Int) (pas : Int → Int → Int) (hO : ownN X w N h σ) (hNy : ∀ q, y ≤ q → q < y + 321 → N q) (hY : clO X w y su) (hL : loomAt X w (y + 1) σ) (hH : hisAt X w (y + 53) nx sz pas) (wv fn ds lf : Nat) (gw gn gd gz : Int → Int) (haw : w1 wv = some (aZ X 7 gw)) (han : w1 fn = some (aZ X 7 gn)) (had : w1 ds = some (aZ X 7 gd)) (haz : w1 lf = some (aZ X 7 gz)) (hgw : ∀ co : Int, 0 ≤ co → co < 7 → gw co / 2 = colQ σ co 4) (hgn : ∀ co : Int, 0 ≤ co → co < 7 → gn co = colQ σ co 1) (hgd : ∀ co : Int, 0 ≤ co → co < 7 → gd co = colQ σ co 2) (hgz : ∀ co : Int, 0 ≤ co → co < 7 → gz co = colQ σ co 3) (hgr : ∀ co : Int, 0 ≤ co → co < 7 → 0 ≤ gw co ∧ gw co ≤ 2000) (hE0 : ∀ (q : Nat) (e : va_E), w q = some e → w1 q = some e) {p : Program} {e : Env} {s : State} {m : MethodId} {below : List Frame} {meth : Method} {c : Code} {H : Heap} {locs : List Loc} {ls : Array Slot} {kc0 ks0 : Nat} (F : Fx p m c cL_still 15 s (List.toArray [.ref y, .ref h]) RL) (hr : meth.sig.returnType = (some (.boolean))) (hlk : meth.locks = false) (hZ0 : cxZ X s s.heap) (hB9 : cxB X ≤ s.heap.size) (hkc0 : kc0 ≤ 260) (hks0 : ks0 ≤ 1020) (hW : Wd X w1 s H) (hS : va_S (cxA X) s.heap H locs) (hl : lv_has ls 15 [(0, .ref y), (1, .ref h), (2, .int (iI (opnS σ))), (3, .int (iI 0)), (4, .ref wv), (5, .ref fn), (6, .ref ds), (7, .ref lf)]) : W p l e (rmG 9 2600 10800 202) s m (List.toArray [.ref y, .ref h]) below meth c H locs kc0 ks0 (MX X below (List.toArray [.ref y, .ref h]) s 2600 10800 (some (.int (iI (bz true)))) (fun w' => w' = w)) (F0 m 206 ls []) := by
  have hO0 := hO
  obtain ⟨st, lc, ec, kc, lr, er, kr, cd, rwa, hPw0, hern⟩ := hO.A.P
  clear hern
  obtain ⟨hh0, hstk, hlst, hkc, hcps, -, -, -, hem, ⟨hWF0, hw0, hw1⟩, -, -, -⟩ := hPw0
  obtain ⟨wf0, wf1, wf2, wf3, wf4, wf5⟩ := hWF0.1
  have hh1 := hE0 _ _ hh0
  obtain ⟨fs, hst0, hfs⟩ := hstk
  have hst1 := hE0 _ _ hst0
  refine h_iconst F dL_still_206 ?_
  refine lv_istore (lv' := [(8, .int (iI 0)), (0, .ref y), (1, .ref h), (2, .int (iI (opnS σ))), (3, .int (iI 0)), (4, .ref wv), (5, .ref fn), (6, .ref ds), (7, .ref lf)]) F.1 F.2.1 dL_still_207 hl (by decide) rfl (fun ls hl => ?_)
  have loop209 : ∀ (n9 : Nat) (k : Int) (kc209 ks209 : Nat), (hrg : 0 ≤ k ∧ k ≤ 7) → (hms : 7 - k < (n9 : Int)) → (w6 : Wo) → (hF209 : ∀ (q : Nat) (e : va_E), w1 q = some e → w6 q = some e) → (hkc209 : ((kc209 : Nat) : Int) ≤ ((kc0 : Nat) : Int) + k) → (hks209 : ((ks209 : Nat) : Int) ≤ ((ks0 : Nat) : Int) + 5 * k) → (H : Heap) → (locs : List Loc) → (ls : Array Slot) → Wd X w6 s H → va_S (cxA X) s.heap H locs → lv_has ls 15 [(8, .int (iI k)), (0, .ref y), (1, .ref h), (2, .int (iI (opnS σ))), (3, .int (iI 0)), (4, .ref wv), (5, .ref fn), (6, .ref ds), (7, .ref lf)] → W p l e (rmG 9 2600 10800 202) s m (List.toArray [.ref y, .ref h]) below meth c H locs kc209 ks209 (MX X below (List.toArray [.ref y, .ref h]) s 2600 10800 (some (.int (iI (bz true)))) (fun w' => w' = w)) (F0 m 209 ls []) := by
    intro n9
    induction n9 with
    | zero => intro k kc209 ks209  hrg hms; exfalso; omega
    | succ n9 ih209 =>
      intro k kc209 ks209  hrg hms w6 hF209 hkc209 hks209 H locs ls hW hS hl
      have hh1 := hF209 _ _ hh1 
      have haw := hF209 _ _ haw 
      have han := hF209 _ _ han 
      have had := hF209 _ _ had 
      have haz := hF209 _ _ haz 
      have hst1 := hF209 _ _ hst1 
      refine lv_iload F.1 F.2.1 dL_still_209 (lv_at hl 0 rfl) ?_
      refine h_bipush F dL_still_211 rfl ?_
      refine h_icge (tgt := 304) F dL_still_213 (by decide) (by omega) (fun c1 => ?_) (fun c1 => ?_)
      · exact sg_still_304 l X w w6 y h N su σ nx sz pas hO hNy hY hL hH   (fun q e h9  => by have h9 := hE0 q e h9 ; have h9 := hF209 q e h9 ; exact h9) F hr hlk hZ0 hB9 (by omega) (by omega) hW hS (lv_sub hl [1, 2, 3, 4] rfl)
      · have hgrk := hgr k (by omega) (by omega)
        refine h_iconst F dL_still_216 ?_
        refine q_newP (N := 5) (k := 0) (atype := .int) (x := .inl (fun j : Nat => iI ((fun _ : Int => 0) (j : Int)))) F hW hS haCI rfl (hxI _) rfl (by omega) ⟨(by show kc209 + 1 ≤ 2600; omega), (by show ks209 + 5 ≤ 10800; omega)⟩ dL_still_217 (fun du w2 H hfr5 hcx6 ha4 hn3 hW hS => ?_)
        have ha4 : w2 du = some (aZ X 5 (fun _ => 0)) := ha4
        have hb7 := hfr5 _ _ hh1
        have hb8 := hfr5 _ _ haw
        have hb9 := hfr5 _ _ han
        have hb10 := hfr5 _ _ had
        have hb11 := hfr5 _ _ haz
        have hb12 := hfr5 _ _ hst1
        have hh1 := (hn3 _ (by omega)).trans hh1
        have haw := (hn3 _ (by omega)).trans haw
        have han := (hn3 _ (by omega)).trans han
        have had := (hn3 _ (by omega)).trans had
        have haz := (hn3 _ (by omega)).trans haz
        have hst1 := (hn3 _ (by omega)).trans hst1
        refine lv_dup F.1 F.2.1 dL_still_219 rfl ?_
        refine h_iconst F dL_still_220 ?_
        refine lv_aload_n F.1 F.2.1 dL_still_221 rfl (lv_at hl 2 rfl) ?_
        refine gf_RL_145 F hW hh1 rfl dL_still_222 ?_
        refine lv_iload F.1 F.2.1 dL_still_225 (lv_at hl 0 rfl) ?_
        refine h_iald F hW hst1 (by omega) (by omega) dL_still_227 ?_
        refine h_iast F hW hS ha4 (by omega) (by omega) dL_still_228 (fun w13 H locs ho15 hn14 hW hS => ?_)
        have hh1 := (hn14 _ (by omega)).trans hh1
        have haw := (hn14 _ (by omega)).trans haw
        have han := (hn14 _ (by omega)).trans han
        have had := (hn14 _ (by omega)).trans had
        have haz := (hn14 _ (by omega)).trans haz
        have hst1 := (hn14 _ (by omega)).trans hst1
        refine lv_dup F.1 F.2.1 dL_still_229 rfl ?_
        refine h_iconst F dL_still_230 ?_
        refine lv_aload F.1 F.2.1 dL_still_231 (lv_at hl 6 rfl) ?_
        refine lv_iload F.1 F.2.1 dL_still_233 (lv_at hl 0 rfl) ?_
        refine h_iald F hW han (by omega) (by omega) dL_still_235 ?_
        refine h_iast F hW hS ho15 (by omega) (by omega) dL_still_236 (fun w16 H locs ho18 hn17 hW hS => ?_)
        have hh1 := (hn17 _ (by omega)).trans hh1
        have haw := (hn17 _ (by omega)).trans haw
        have han := (hn17 _ (by omega)).trans han
        have had := (hn17 _ (by omega)).trans had
        have haz := (hn17 _ (by omega)).trans haz
        have hst1 := (hn17 _ (by omega)).trans hst1
        refine lv_dup F.1 F.2.1 dL_still_237 rfl ?_
        refine h_iconst F dL_still_238 ?_
        refine lv_aload F.1 F.2.1 dL_still_239 (lv_at hl 7 rfl) ?_
        refine lv_iload F.1 F.2.1 dL_still_241 (lv_at hl 0 rfl) ?_
        refine h_iald F hW had (by omega) (by omega) dL_still_243 ?_
        refine h_iast F hW hS ho18 (by omega) (by omega) dL_still_244 (fun w19 H locs ho21 hn20 hW hS => ?_)
        have hh1 := (hn20 _ (by omega)).trans hh1
        have haw := (hn20 _ (by omega)).trans haw
        have han := (hn20 _ (by omega)).trans han
        have had := (hn20 _ (by omega)).trans had
        have haz := (hn20 _ (by omega)).trans haz
        have hst1 := (hn20 _ (by omega)).trans hst1
        refine lv_dup F.1 F.2.1 dL_still_245 rfl ?_
        refine h_iconst F dL_still_246 ?_
        refine lv_aload F.1 F.2.1 dL_still_247 (lv_at hl 8 rfl) ?_
        refine lv_iload F.1 F.2.1 dL_still_249 (lv_at hl 0 rfl) ?_
        refine h_iald F hW haz (by omega) (by omega) dL_still_251 ?_
        refine h_iast F hW hS ho21 (by omega) (by omega) dL_still_252 (fun w22 H locs ho24 hn23 hW hS => ?_)
        have hh1 := (hn23 _ (by omega)).trans hh1
        have haw := (hn23 _ (by omega)).trans haw
        have han := (hn23 _ (by omega)).trans han
        have had := (hn23 _ (by omega)).trans had
        have haz := (hn23 _ (by omega)).trans haz
        have hst1 := (hn23 _ (by omega)).trans hst1
        refine lv_dup F.1 F.2.1 dL_still_253 rfl ?_
        refine h_iconst F dL_still_254 ?_
        refine lv_aload F.1 F.2.1 dL_still_255 (lv_at hl 5 rfl) ?_
        refine lv_iload F.1 F.2.1 dL_still_257 (lv_at hl 0 rfl) ?_
        refine h_iald F hW haw (by omega) (by omega) dL_still_259 ?_
        refine h_iconst F dL_still_260 ?_
        refine h_idiv F dL_still_261 (by omega) ?_
        refine h_iast F hW hS ho24 (by omega) (by omega) dL_still_262 (fun w25 H locs ho27 hn26 hW hS => ?_)
        have hh1 := (hn26 _ (by omega)).trans hh1
        have haw := (hn26 _ (by omega)).trans haw
        have han := (hn26 _ (by omega)).trans han
        have had := (hn26 _ (by omega)).trans had
        have haz := (hn26 _ (by omega)).trans haz
        have hst1 := (hn26 _ (by omega)).trans hst1
        refine lv_astore (lv' := [(9, .ref du), (8, .int (iI k)), (0, .ref y), (1, .ref h), (2, .int (iI (opnS σ))), (3, .int (iI 0)), (4, .ref wv), (5, .ref fn), (6, .ref ds), (7, .ref lf)]) F.1 F.2.1 dL_still_263 hl (by decide) rfl (fun ls hl => ?_)
        refine h_iconst F dL_still_265 ?_
        refine lv_istore (lv' := [(10, .int (iI 0)), (9, .ref du), (8, .int (iI k)), (0, .ref y), (1, .ref h), (2, .int (iI (opnS σ))), (3, .int (iI 0)), (4, .ref wv), (5, .ref fn), (6, .ref ds), (7, .ref lf)]) F.1 F.2.1 dL_still_266 hl (by decide) rfl (fun ls hl => ?_)
        have loop268 : ∀ (n9 : Nat) (wi : Int), (hrg : 0 ≤ wi ∧ wi ≤ 5) → (hms : 5 - wi < (n9 : Int)) → (H : Heap) → (locs : List Loc) → (ls : Array Slot) → Wd X w25 s H → va_S (cxA X) s.heap H locs → lv_has ls 15 [(10, .int (iI wi)), (9, .ref du), (8, .int (iI k)), (0, .ref y), (1, .ref h), (2, .int (iI (opnS σ))), (3, .int (iI 0)), (4, .ref wv), (5, .ref fn), (6, .ref ds), (7, .ref lf)] → W p l e (rmG 9 2600 10800 202) s m (List.toArray [.ref y, .ref h]) below meth c H locs (kc209 + 1) (ks209 + 5) (MX X below (List.toArray [.ref y, .ref h]) s 2600 10800 (some (.int (iI (bz true)))) (fun w' => w' = w)) (F0 m 268 ls []) := by
          intro n9
          induction n9 with
          | zero => intro wi  hrg hms; exfalso; omega
          | succ n9 ih268 =>
            intro wi  hrg hms   H locs ls hW hS hl
            have hEc : ext w w25 := (show ext w w25 from fun q e h9 => by have h9 := hE0 q e h9 ; have h9 := hF209 q e h9 ; have z9_1 := hfr5 q e h9; have h9 := (hn3 q (by omega)).trans h9; have h9 := (hn14 q (by omega)).trans h9; have h9 := (hn17 q (by omega)).trans h9; have h9 := (hn20 q (by omega)).trans h9; have h9 := (hn23 q (by omega)).trans h9; have h9 := (hn26 q (by omega)).trans h9; exact h9)
            have hYc : clO X w25 y su := (hEc.eqN hO0.2.1 y (hNy y (by omega) (by omega))).trans hY
            have hLc := hL.mv (w2 := w25) (fun q9 h1 h2 => hEc.eqN hO0.2.1 q9 (hNy q9 (by omega) (by omega)))
            have hft : ∀ z : Int, 0 ≤ z → z < 5 → (up (up (up (up (up (fun _ => 0) 0 (fs k)) 1 (gn k)) 2 (gd k)) 3 (gz k)) 4 ((gw k) / 2)) z = colQ σ k z := ups_5 (hfs k (by omega) (by omega)) (hgn k (by omega) (by omega)) (hgd k (by omega) (by omega)) (hgz k (by omega) (by omega)) (hgw k (by omega) (by omega))
            refine lv_iload F.1 F.2.1 dL_still_268 (lv_at hl 0 rfl) ?_
            refine h_iconst F dL_still_270 ?_
            refine h_icge (tgt := 298) F dL_still_271 (by decide) (by omega) (fun c28 => ?_) (fun c28 => ?_)
            · refine h_iinc (k := 2) (a := k) (lv' := [(8, .int (iI (k + 1))), (10, .int (iI wi)), (9, .ref du), (0, .ref y), (1, .ref h), (2, .int (iI (opnS σ))), (3, .int (iI 0)), (4, .ref wv), (5, .ref fn), (6, .ref ds), (7, .ref lf)]) F dL_still_298 hl rfl (by decide) rfl (fun ls hl => ?_)
              refine h_goto (tgt := 209) F dL_still_301 (by decide) ?_
              have eq29 : ((k + 1) : Int) = k + 1 := by first | rfl | omega | simp
              exact ih209 (k + 1) (kc209 + 1) (ks209 + 5)  (by omega) (by omega) w25 (fun q e h9  => by
                  have h9 := hF209 q e h9 
                  have z9_1 := hfr5 q e h9
                  have h9 := (hn3 q (by omega)).trans h9
                  have h9 := (hn14 q (by omega)).trans h9
                  have h9 := (hn17 q (by omega)).trans h9
                  have h9 := (hn20 q (by omega)).trans h9
                  have h9 := (hn23 q (by omega)).trans h9
                  have h9 := (hn26 q (by omega)).trans h9
                  exact h9) (by omega) (by omega) _ _ ls hW hS (by rw [eq29]; exact lv_sub hl [0, 3, 4, 5, 6, 7, 8, 9, 10] rfl)
            · have hcr := colQ_r hWF0 (co := k) (wh := wi) (by omega)
              refine lv_aload_n F.1 F.2.1 dL_still_274 rfl (lv_at hl 3 rfl) ?_
              refine lv_iload F.1 F.2.1 dL_still_275 (lv_at hl 2 rfl) ?_
              refine lv_iload F.1 F.2.1 dL_still_277 (lv_at hl 0 rfl) ?_
              refine cl_RL_193 (As := [.int (iI k), .int (iI wi)]) (rest := []) F hl (c_X8_colour l X w25 y su σ k wi hYc hLc (by omega) (by omega)) hW hS hYc rfl rfl ⟨Nat.le_of_ble_eq_true rfl, Nat.le_of_ble_eq_true rfl⟩ (Nat.le_of_ble_eq_true rfl) ⟨(by show kc209 + 1 + 0 ≤ 2600; omega), (by show ks209 + 5 + 0 ≤ 10800; omega)⟩ dL_still_279 (fun w1 H locs hp30 hW hS => ?_)
              rw [hp30] at hW; clear hp30; clear w1
              refine lv_aload F.1 F.2.1 dL_still_282 (lv_at hl 1 rfl) ?_
              refine lv_iload F.1 F.2.1 dL_still_284 (lv_at hl 0 rfl) ?_
              refine h_iald F hW ho27 (by omega) (by omega) dL_still_286 ?_
              refine h_top (show ((up (up (up (up (up (fun _ => 0) 0 (fs k)) 1 (gn k)) 2 (gd k)) 3 (gz k)) 4 ((gw k) / 2)) wi : Int) = colQ σ k wi from hft wi (by omega) (by omega)) ?_
              refine h_iceq (tgt := 292) F dL_still_287 (by decide) (by omega) (fun c31 => ?_) (fun c31 => ?_)
              · refine h_iinc (k := 0) (a := wi) (lv' := [(10, .int (iI (wi + 1))), (9, .ref du), (8, .int (iI k)), (0, .ref y), (1, .ref h), (2, .int (iI (opnS σ))), (3, .int (iI 0)), (4, .ref wv), (5, .ref fn), (6, .ref ds), (7, .ref lf)]) F dL_still_292 hl rfl (by decide) rfl (fun ls hl => ?_)
                refine h_goto (tgt := 268) F dL_still_295 (by decide) ?_
                have eq32 : ((wi + 1) : Int) = wi + 1 := by first | rfl | omega | simp
                exact ih268 (wi + 1)  (by omega) (by omega)   _ _ ls hW hS (by rw [eq32]; exact lv_sub hl [0, 1, 2, 3, 4, 5, 6, 7, 8, 9, 10] rfl)
              · exact absurd rfl c31
        exact loop268 ((5 - 0) + 1 : Int).toNat 0   (by omega) (by omega)   _ _ ls hW hS (lv_sub hl [0, 1, 2, 3, 4, 5, 6, 7, 8, 9, 10] rfl)
  exact loop209 ((7 - 0) + 1 : Int).toNat 0 (kc0) (ks0)   (by omega) (by omega) w1 (fun q e h9  => by
      exact h9) (by omega) (by omega) _ _ ls hW hS (lv_sub hl [0, 1, 2, 3, 4, 5, 6, 7, 8] rfl)
set_option maxHeartbeats 4000000 in
set_option maxRecDepth 100000 in
theorem c_L_still (l : Launch) (X : Cx) (w : Wo) (y h : Nat) (N : Nat → Prop) (su : Int) (σ : Int → Int) (nx sz : Int) (pas : Int → Int → Int) (hO : ownN X w N h σ) (hNy : ∀ q, y ≤ q → q < y + 321 → N q) (hY : clO X w y su) (hL : loomAt X w (y + 1) σ) (hH : hisAt X w (y + 53) nx sz pas) : CM l X yL_still cL_still 15 (some (.boolean)) (rmG 9 2600 10800 202) [.ref y, .ref h] w (some (.int (iI (bz true)))) (fun w' => w' = w) := by
  refine CM.of (lv := [(0, .ref y), (1, .ref h)]) (by decide) (Nat.le_of_ble_eq_true rfl) rfl (fun p e s m below meth c ls F hr hlk hin hW hS hl => ?_)
  have hZ0 := hW.2.2
  have hB9 := hW.1.2
  clear hin
  have hO0 := hO
  obtain ⟨st, lc, ec, kc, lr, er, kr, cd, rwa, hPw0, hern⟩ := hO.A.P
  clear hern
  obtain ⟨hh0, hstk, hlst, hkc, hcps, -, -, -, hem, ⟨hWF0, hw0, hw1⟩, -, -, -⟩ := hPw0
  obtain ⟨wf0, wf1, wf2, wf3, wf4, wf5⟩ := hWF0.1
  refine h_iconst F dL_still_0 ?_
  refine lv_istore_n (lv' := [(2, .int (iI 0)), (0, .ref y), (1, .ref h)]) F.1 F.2.1 dL_still_1 rfl hl (by decide) rfl (fun ls hl => ?_)
  refine h_iconst F dL_still_2 ?_
  refine lv_istore_n (lv' := [(3, .int (iI 0)), (2, .int (iI 0)), (0, .ref y), (1, .ref h)]) F.1 F.2.1 dL_still_3 rfl hl (by decide) rfl (fun ls hl => ?_)
  refine h_bipush F dL_still_4 rfl ?_
  refine q_newP (N := 7) (k := 0) (atype := .int) (x := .inl (fun j : Nat => iI ((fun _ : Int => 0) (j : Int)))) F hW hS haCI rfl (hxI _) rfl (by omega) ⟨(by show 0 + 1 ≤ 2600; omega), (by show 0 + 7 ≤ 10800; omega)⟩ dL_still_6 (fun wv w1 H hfr4 hcx5 ha3 hn2 hW hS => ?_)
  have ha3 : w1 wv = some (aZ X 7 (fun _ => 0)) := ha3
  have hb6 := hfr4 _ _ hh0
  have hh0 := (hn2 _ (by omega)).trans hh0
  refine lv_astore (lv' := [(4, .ref wv), (3, .int (iI 0)), (2, .int (iI 0)), (0, .ref y), (1, .ref h)]) F.1 F.2.1 dL_still_8 hl (by decide) rfl (fun ls hl => ?_)
  refine h_bipush F dL_still_10 rfl ?_
  refine q_newP (N := 7) (k := 0) (atype := .int) (x := .inl (fun j : Nat => iI ((fun _ : Int => 0) (j : Int)))) F hW hS haCI rfl (hxI _) rfl (by omega) ⟨(by show 0 + 1 + 1 ≤ 2600; omega), (by show 0 + 7 + 7 ≤ 10800; omega)⟩ dL_still_12 (fun fn w7 H hfr10 hcx11 ha9 hn8 hW hS => ?_)
  have ha9 : w7 fn = some (aZ X 7 (fun _ => 0)) := ha9
  have hb12 := hfr10 _ _ hh0
  have hb13 := hfr10 _ _ ha3
  have hh0 := (hn8 _ (by omega)).trans hh0
  have ha3 := (hn8 _ (by omega)).trans ha3
  refine lv_astore (lv' := [(5, .ref fn), (4, .ref wv), (3, .int (iI 0)), (2, .int (iI 0)), (0, .ref y), (1, .ref h)]) F.1 F.2.1 dL_still_14 hl (by decide) rfl (fun ls hl => ?_)
  refine h_bipush F dL_still_16 rfl ?_
  refine q_newP (N := 7) (k := 0) (atype := .int) (x := .inl (fun j : Nat => iI ((fun _ : Int => 0) (j : Int)))) F hW hS haCI rfl (hxI _) rfl (by omega) ⟨(by show 0 + 1 + 1 + 1 ≤ 2600; omega), (by show 0 + 7 + 7 + 7 ≤ 10800; omega)⟩ dL_still_18 (fun ds w14 H hfr17 hcx18 ha16 hn15 hW hS => ?_)
  have ha16 : w14 ds = some (aZ X 7 (fun _ => 0)) := ha16
  have hb19 := hfr17 _ _ hh0
  have hb20 := hfr17 _ _ ha3
  have hb21 := hfr17 _ _ ha9
  have hh0 := (hn15 _ (by omega)).trans hh0
  have ha3 := (hn15 _ (by omega)).trans ha3
  have ha9 := (hn15 _ (by omega)).trans ha9
  refine lv_astore (lv' := [(6, .ref ds), (5, .ref fn), (4, .ref wv), (3, .int (iI 0)), (2, .int (iI 0)), (0, .ref y), (1, .ref h)]) F.1 F.2.1 dL_still_20 hl (by decide) rfl (fun ls hl => ?_)
  refine h_bipush F dL_still_22 rfl ?_
  refine q_newP (N := 7) (k := 0) (atype := .int) (x := .inl (fun j : Nat => iI ((fun _ : Int => 0) (j : Int)))) F hW hS haCI rfl (hxI _) rfl (by omega) ⟨(by show 0 + 1 + 1 + 1 + 1 ≤ 2600; omega), (by show 0 + 7 + 7 + 7 + 7 ≤ 10800; omega)⟩ dL_still_24 (fun lf w22 H hfr25 hcx26 ha24 hn23 hW hS => ?_)
  have ha24 : w22 lf = some (aZ X 7 (fun _ => 0)) := ha24
  have hb27 := hfr25 _ _ hh0
  have hb28 := hfr25 _ _ ha3
  have hb29 := hfr25 _ _ ha9
  have hb30 := hfr25 _ _ ha16
  have hh0 := (hn23 _ (by omega)).trans hh0
  have ha3 := (hn23 _ (by omega)).trans ha3
  have ha9 := (hn23 _ (by omega)).trans ha9
  have ha16 := (hn23 _ (by omega)).trans ha16
  refine lv_astore (lv' := [(7, .ref lf), (6, .ref ds), (5, .ref fn), (4, .ref wv), (3, .int (iI 0)), (2, .int (iI 0)), (0, .ref y), (1, .ref h)]) F.1 F.2.1 dL_still_26 hl (by decide) rfl (fun ls hl => ?_)
  refine h_iconst F dL_still_28 ?_
  refine lv_istore (lv' := [(8, .int (iI 0)), (7, .ref lf), (6, .ref ds), (5, .ref fn), (4, .ref wv), (3, .int (iI 0)), (2, .int (iI 0)), (0, .ref y), (1, .ref h)]) F.1 F.2.1 dL_still_29 hl (by decide) rfl (fun ls hl => ?_)
  have loop31 : ∀ (n9 : Nat) (r : Int) (kc31 ks31 : Nat) (fw : Int → Int) (ff : Int → Int) (fd : Int → Int) (fl : Int → Int), (hrg : 0 ≤ r ∧ r ≤ σ 1) → (hms : σ 1 - r < (n9 : Int)) → (w5 : Wo) → (hA31_0 : w5 wv = some (aZ X 7 fw)) → (hA31_1 : w5 fn = some (aZ X 7 ff)) → (hA31_2 : w5 ds = some (aZ X 7 fd)) → (hA31_3 : w5 lf = some (aZ X 7 fl)) → (hF31 : ∀ q : Nat, q ≠ wv → q ≠ fn → q ≠ ds → q ≠ lf → w5 q = w22 q) → (hkc31 : ((kc31 : Nat) : Int) ≤ ((0 + 1 + 1 + 1 + 1 : Nat) : Int) + 19 * r) → (hks31 : ((ks31 : Nat) : Int) ≤ ((0 + 7 + 7 + 7 + 7 : Nat) : Int) + 76 * r) → (hw1f : ∀ co : Int, 0 ≤ co → co < 7 → fw co = sWv σ r 0 co) → (hf1 : ∀ co : Int, 0 ≤ co → co < 7 → ff co = sFn σ r 0 co) → (hd1 : ∀ co : Int, 0 ≤ co → co < 7 → fd co = sDs σ r 0 co) → (hl1 : ∀ co : Int, 0 ≤ co → co < 7 → fl co = sLf σ r 0 co) → (H : Heap) → (locs : List Loc) → (ls : Array Slot) → Wd X w5 s H → va_S (cxA X) s.heap H locs → lv_has ls 15 [(2, .int (iI (opF σ r 0))), (8, .int (iI r)), (7, .ref lf), (6, .ref ds), (5, .ref fn), (4, .ref wv), (3, .int (iI 0)), (0, .ref y), (1, .ref h)] → W p l e (rmG 9 2600 10800 202) s m (List.toArray [.ref y, .ref h]) below meth c H locs kc31 ks31 (MX X below (List.toArray [.ref y, .ref h]) s 2600 10800 (some (.int (iI (bz true)))) (fun w' => w' = w)) (F0 m 31 ls []) := by
    intro n9
    induction n9 with
    | zero => intro r kc31 ks31  fw  ff  fd  fl  hrg hms; exfalso; omega
    | succ n9 ih31 =>
      intro r kc31 ks31  fw  ff  fd  fl  hrg hms w5 hA31_0 hA31_1 hA31_2 hA31_3 hF31 hkc31 hks31 hw1f hf1 hd1 hl1 H locs ls hW hS hl
      have hh0 := (hF31 _ (by omega) (by omega) (by omega) (by omega)).trans hh0
      have hAk : ownA X w5 h σ := hO0.A.ex (show ext w w5 from fun q e h9 => by have z9_1 := hfr4 q e h9; have h9 := (hn2 q (by omega)).trans h9; have z9_2 := hfr10 q e h9; have h9 := (hn8 q (by omega)).trans h9; have z9_3 := hfr17 q e h9; have h9 := (hn15 q (by omega)).trans h9; have z9_4 := hfr25 q e h9; have h9 := (hn23 q (by omega)).trans h9; have h9 := (hF31 q (by omega) (by omega) (by omega) (by omega)).trans h9; exact h9)
      refine lv_iload F.1 F.2.1 dL_still_31 (lv_at hl 1 rfl) ?_
      refine lv_aload_n F.1 F.2.1 dL_still_33 rfl (lv_at hl 8 rfl) ?_
      refine gf_RL_66 F hW hh0 rfl dL_still_34 ?_
      refine h_icge (tgt := 206) F dL_still_37 (by decide) (by omega) (fun c31 => ?_) (fun c31 => ?_)
      · have eq32 : (opnS σ : Int) = opF σ r 0 := by rw [show r = σ 1 by omega]; exact (opF_e (by omega)).symm
        exact sg_still_206 l X w w5 y h N su σ nx sz pas hO hNy hY hL hH wv fn ds lf fw ff fd fl hA31_0 hA31_1 hA31_2 hA31_3 (fun co h1 h2 => by rw [hw1f co h1 h2, show r = σ 1 by omega]; exact sWv_q co) (fun co h1 h2 => by rw [hf1 co h1 h2, show r = σ 1 by omega]; exact sFn_q co) (fun co h1 h2 => by rw [hd1 co h1 h2, show r = σ 1 by omega]; exact sDs_q co) (fun co h1 h2 => by rw [hl1 co h1 h2, show r = σ 1 by omega]; exact sLf_q co) (fun co h1 h2 => by rw [hw1f co h1 h2]; exact sWv_rg hWF0 (by omega)) (fun q e h9  => by have z9_1 := hfr4 q e h9; have h9 := (hn2 q (by omega)).trans h9; have z9_2 := hfr10 q e h9; have h9 := (hn8 q (by omega)).trans h9; have z9_3 := hfr17 q e h9; have h9 := (hn15 q (by omega)).trans h9; have z9_4 := hfr25 q e h9; have h9 := (hn23 q (by omega)).trans h9; have h9 := (hF31 q (by omega) (by omega) (by omega) (by omega)).trans h9; exact h9) F hr hlk hZ0 hB9 (by omega) (by omega) hW hS (by rw [eq32]; exact lv_sub hl [7, 8, 0, 6, 5, 4, 3, 2] rfl)
      · refine h_iconst F dL_still_40 ?_
        refine lv_istore (lv' := [(9, .int (iI 0)), (2, .int (iI (opF σ r 0))), (8, .int (iI r)), (7, .ref lf), (6, .ref ds), (5, .ref fn), (4, .ref wv), (3, .int (iI 0)), (0, .ref y), (1, .ref h)]) F.1 F.2.1 dL_still_41 hl (by decide) rfl (fun ls hl => ?_)
        have loop43 : ∀ (n9 : Nat) (cz : Int) (kc43 ks43 : Nat) (gw : Int → Int) (gn : Int → Int) (gd : Int → Int) (gz : Int → Int), (hrg : 0 ≤ cz ∧ cz ≤ σ 0) → (hms : σ 0 - cz < (n9 : Int)) → (w6 : Wo) → (hA43_0 : w6 wv = some (aZ X 7 gw)) → (hA43_1 : w6 fn = some (aZ X 7 gn)) → (hA43_2 : w6 ds = some (aZ X 7 gd)) → (hA43_3 : w6 lf = some (aZ X 7 gz)) → (hF43 : ∀ q : Nat, q ≠ wv → q ≠ fn → q ≠ ds → q ≠ lf → w6 q = w5 q) → (hkc43 : ((kc43 : Nat) : Int) ≤ ((kc31 : Nat) : Int) + cz) → (hks43 : ((ks43 : Nat) : Int) ≤ ((ks31 : Nat) : Int) + 4 * cz) → (hw2 : ∀ co : Int, 0 ≤ co → co < 7 → gw co = sWv σ r cz co) → (hf2 : ∀ co : Int, 0 ≤ co → co < 7 → gn co = sFn σ r cz co) → (hd2 : ∀ co : Int, 0 ≤ co → co < 7 → gd co = sDs σ r cz co) → (hl2 : ∀ co : Int, 0 ≤ co → co < 7 → gz co = sLf σ r cz co) → (H : Heap) → (locs : List Loc) → (ls : Array Slot) → Wd X w6 s H → va_S (cxA X) s.heap H locs → lv_has ls 15 [(2, .int (iI (opF σ r cz))), (9, .int (iI cz)), (8, .int (iI r)), (7, .ref lf), (6, .ref ds), (5, .ref fn), (4, .ref wv), (3, .int (iI 0)), (0, .ref y), (1, .ref h)] → W p l e (rmG 9 2600 10800 202) s m (List.toArray [.ref y, .ref h]) below meth c H locs kc43 ks43 (MX X below (List.toArray [.ref y, .ref h]) s 2600 10800 (some (.int (iI (bz true)))) (fun w' => w' = w)) (F0 m 43 ls []) := by
          intro n9
          induction n9 with
          | zero => intro cz kc43 ks43  gw  gn  gd  gz  hrg hms; exfalso; omega
          | succ n9 ih43 =>
            intro cz kc43 ks43  gw  gn  gd  gz  hrg hms w6 hA43_0 hA43_1 hA43_2 hA43_3 hF43 hkc43 hks43 hw2 hf2 hd2 hl2 H locs ls hW hS hl
            have hh0 := (hF43 _ (by omega) (by omega) (by omega) (by omega)).trans hh0
            have hAk : ownA X w6 h σ := hO0.A.ex (show ext w w6 from fun q e h9 => by have z9_1 := hfr4 q e h9; have h9 := (hn2 q (by omega)).trans h9; have z9_2 := hfr10 q e h9; have h9 := (hn8 q (by omega)).trans h9; have z9_3 := hfr17 q e h9; have h9 := (hn15 q (by omega)).trans h9; have z9_4 := hfr25 q e h9; have h9 := (hn23 q (by omega)).trans h9; have h9 := (hF31 q (by omega) (by omega) (by omega) (by omega)).trans h9; have h9 := (hF43 q (by omega) (by omega) (by omega) (by omega)).trans h9; exact h9)
            have hEc : ext w w6 := (show ext w w6 from fun q e h9 => by have z9_1 := hfr4 q e h9; have h9 := (hn2 q (by omega)).trans h9; have z9_2 := hfr10 q e h9; have h9 := (hn8 q (by omega)).trans h9; have z9_3 := hfr17 q e h9; have h9 := (hn15 q (by omega)).trans h9; have z9_4 := hfr25 q e h9; have h9 := (hn23 q (by omega)).trans h9; have h9 := (hF31 q (by omega) (by omega) (by omega) (by omega)).trans h9; have h9 := (hF43 q (by omega) (by omega) (by omega) (by omega)).trans h9; exact h9)
            have hYc : clO X w6 y su := (hEc.eqN hO0.2.1 y (hNy y (by omega) (by omega))).trans hY
            have hLc := hL.mv (w2 := w6) (fun q9 h1 h2 => hEc.eqN hO0.2.1 q9 (hNy q9 (by omega) (by omega)))
            refine lv_iload F.1 F.2.1 dL_still_43 (lv_at hl 1 rfl) ?_
            refine lv_aload_n F.1 F.2.1 dL_still_45 rfl (lv_at hl 9 rfl) ?_
            refine gf_RL_60 F hW hh0 rfl dL_still_46 ?_
            refine h_icge (tgt := 170) F dL_still_49 (by decide) (by omega) (fun c33 => ?_) (fun c33 => ?_)
            · have hEc : ext w w6 := (show ext w w6 from fun q e h9 => by have z9_1 := hfr4 q e h9; have h9 := (hn2 q (by omega)).trans h9; have z9_2 := hfr10 q e h9; have h9 := (hn8 q (by omega)).trans h9; have z9_3 := hfr17 q e h9; have h9 := (hn15 q (by omega)).trans h9; have z9_4 := hfr25 q e h9; have h9 := (hn23 q (by omega)).trans h9; have h9 := (hF31 q (by omega) (by omega) (by omega) (by omega)).trans h9; have h9 := (hF43 q (by omega) (by omega) (by omega) (by omega)).trans h9; exact h9)
              have hYc : clO X w6 y su := (hEc.eqN hO0.2.1 y (hNy y (by omega) (by omega))).trans hY
              have hLc := hL.mv (w2 := w6) (fun q9 h1 h2 => hEc.eqN hO0.2.1 q9 (hNy q9 (by omega) (by omega)))
              have hAk : ownA X w6 h σ := hO0.A.ex (show ext w w6 from fun q e h9 => by have z9_1 := hfr4 q e h9; have h9 := (hn2 q (by omega)).trans h9; have z9_2 := hfr10 q e h9; have h9 := (hn8 q (by omega)).trans h9; have z9_3 := hfr17 q e h9; have h9 := (hn15 q (by omega)).trans h9; have z9_4 := hfr25 q e h9; have h9 := (hn23 q (by omega)).trans h9; have h9 := (hF31 q (by omega) (by omega) (by omega) (by omega)).trans h9; have h9 := (hF43 q (by omega) (by omega) (by omega) (by omega)).trans h9; exact h9)
              have hce9 : cz = σ 0 := by omega
              have hjr := jcS_r hWF0.1 r
              refine lv_aload_n F.1 F.2.1 dL_still_170 rfl (lv_at hl 8 rfl) ?_
              refine lv_iload F.1 F.2.1 dL_still_171 (lv_at hl 2 rfl) ?_
              refine cl_RL_189 (As := [.int (iI r)]) (rest := []) F hl (c_X8_joins l X w6 y su σ r hYc hLc (by omega)) hW hS hYc rfl rfl ⟨Nat.le_of_ble_eq_true rfl, Nat.le_of_ble_eq_true rfl⟩ (Nat.le_of_ble_eq_true rfl) ⟨(by show kc43 + 0 ≤ 2600; omega), (by show ks43 + 0 ≤ 10800; omega)⟩ dL_still_173 (fun w1 H locs hp34 hW hS => ?_)
              rw [hp34] at hW; clear hp34; clear w1
              refine h_top (show (if r < σ 4 then cnt (fun z => decide (cellS σ z r ≠ cellS σ (z + 1) r)) 0 (σ 0 - 1) else -1 : Int) = if r < σ 4 then jcS σ r else -1 from rfl) ?_
              have join195 : ∀ (H : Heap) (locs : List Loc) (ls : Array Slot), Wd X w6 s H → va_S (cxA X) s.heap H locs → lv_has ls 15 [(2, .int (iI (opF σ r cz))), (9, .int (iI cz)), (8, .int (iI r)), (7, .ref lf), (6, .ref ds), (5, .ref fn), (4, .ref wv), (3, .int (iI 0)), (0, .ref y), (1, .ref h)] → W p l e (rmG 9 2600 10800 202) s m (List.toArray [.ref y, .ref h]) below meth c H locs (kc43 + 0) (ks43 + 0) (MX X below (List.toArray [.ref y, .ref h]) s 2600 10800 (some (.int (iI (bz true)))) (fun w' => w' = w)) (F0 m 195 ls [.int (iI (if r < σ 4 then jcS σ r else -1)), .int (iI (if r < σ 4 then jcS σ r else -1))]) := by
                intro  H locs ls  hW hS hl
                have hjj : -1 ≤ (if r < σ 4 then jcS σ r else -1) ∧ (if r < σ 4 then jcS σ r else -1) < 40 := by split <;> omega
                refine h_iceq (tgt := 200) F dL_still_195 (by decide) (by omega) (fun c35 => ?_) (fun c35 => ?_)
                · refine h_iinc (k := 2) (a := r) (lv' := [(8, .int (iI (r + 1))), (2, .int (iI (opF σ r cz))), (9, .int (iI cz)), (7, .ref lf), (6, .ref ds), (5, .ref fn), (4, .ref wv), (3, .int (iI 0)), (0, .ref y), (1, .ref h)]) F dL_still_200 hl rfl (by decide) rfl (fun ls hl => ?_)
                  refine h_goto (tgt := 31) F dL_still_203 (by decide) ?_
                  have eq36 : (opF σ (r + 1) 0 : Int) = opF σ r cz := by rw [hce9]; exact (opF_r (by omega)).symm
                  have eq37 : ((r + 1) : Int) = r + 1 := by first | rfl | omega | simp
                  exact ih31 (r + 1) (kc43 + 0) (ks43 + 0)  gw gn gd gz (by omega) (by omega) w6 hA43_0 hA43_1 hA43_2 hA43_3 (fun q h09 h19 h29 h39 => by rw [hF43 q (by omega) (by omega) (by omega) (by omega), hF31 q (by omega) (by omega) (by omega) (by omega)]) (by omega) (by omega) (fun co h1 h2 => by rw [hw2 co h1 h2, hce9]; exact sWv_r σ co (by omega)) (fun co h1 h2 => by rw [hf2 co h1 h2, hce9]; exact sFn_r σ co (by omega)) (fun co h1 h2 => by rw [hd2 co h1 h2, hce9]; exact sDs_r σ co (by omega)) (fun co h1 h2 => by rw [hl2 co h1 h2, hce9]; exact sLf_r σ co (by omega)) _ _ ls hW hS (by rw [eq36, eq37]; exact lv_sub hl [1, 0, 3, 4, 5, 6, 7, 8, 9] rfl)
                · exact absurd rfl c35
              refine lv_iload F.1 F.2.1 dL_still_176 (lv_at hl 2 rfl) ?_
              refine lv_aload_n F.1 F.2.1 dL_still_178 rfl (lv_at hl 9 rfl) ?_
              refine cl_RL_186 (As := []) (rest := [.int (iI r), .int (iI (if r < σ 4 then jcS σ r else -1))]) F hl (c_X10_rows l X w6 h σ hAk) hW hS hh0 rfl rfl ⟨Nat.le_of_ble_eq_true rfl, Nat.le_of_ble_eq_true rfl⟩ (Nat.le_of_ble_eq_true rfl) ⟨(by show kc43 + 0 + 0 ≤ 2600; omega), (by show ks43 + 0 + 0 ≤ 10800; omega)⟩ dL_still_179 (fun w1 H locs hp38 hW hS => ?_)
              rw [hp38] at hW; clear hp38; clear w1
              refine h_icge (tgt := 194) F dL_still_182 (by decide) (by omega) (fun c39 => ?_) (fun c39 => ?_)
              · refine h_iconst F dL_still_194 ?_
                refine h_top (show ((-1) : Int) = if r < σ 4 then jcS σ r else -1 from by first | rw [if_pos (by omega)] | rw [if_neg (by omega)]) ?_
                exact join195  _ _ ls  hW hS (lv_sub hl [0, 1, 2, 3, 4, 5, 6, 7, 8, 9] rfl)
              · refine lv_aload_n F.1 F.2.1 dL_still_185 rfl (lv_at hl 9 rfl) ?_
                refine lv_iload F.1 F.2.1 dL_still_186 (lv_at hl 2 rfl) ?_
                refine cl_RL_192 (As := [.int (iI r)]) (rest := [.int (iI (if r < σ 4 then jcS σ r else -1))]) F hl (c_X10_joins l X w6 h σ r hAk (by omega)) hW hS hh0 rfl rfl ⟨Nat.le_of_ble_eq_true rfl, Nat.le_of_ble_eq_true rfl⟩ (Nat.le_of_ble_eq_true rfl) ⟨(by show kc43 + 0 + 0 + 0 ≤ 2600; omega), (by show ks43 + 0 + 0 + 0 ≤ 10800; omega)⟩ dL_still_188 (fun w1 H locs hp40 hW hS => ?_)
                rw [hp40] at hW; clear hp40; clear w1
                refine h_goto (tgt := 195) F dL_still_191 (by decide) ?_
                refine h_top (show (jcS σ r : Int) = if r < σ 4 then jcS σ r else -1 from by first | rw [if_pos (by omega)] | rw [if_neg (by omega)]) ?_
                exact join195  _ _ ls  hW hS (lv_sub hl [0, 1, 2, 3, 4, 5, 6, 7, 8, 9] rfl)
            · have hce := hWF0.2.2.2.1 cz r (by omega) (by omega) (by omega) (by omega)
              have hde := desS_r hWF0 cz r
              refine lv_aload_n F.1 F.2.1 dL_still_52 rfl (lv_at hl 9 rfl) ?_
              refine lv_iload F.1 F.2.1 dL_still_53 (lv_at hl 1 rfl) ?_
              refine lv_iload F.1 F.2.1 dL_still_55 (lv_at hl 2 rfl) ?_
              refine cl_RL_175 (As := [.int (iI cz), .int (iI r)]) (rest := []) F hl (c_X10_at l X w6 h σ cz r hAk (by omega) (by omega)) hW hS hh0 rfl rfl ⟨Nat.le_of_ble_eq_true rfl, Nat.le_of_ble_eq_true rfl⟩ (Nat.le_of_ble_eq_true rfl) ⟨(by show kc43 + 0 ≤ 2600; omega), (by show ks43 + 0 ≤ 10800; omega)⟩ dL_still_57 (fun w1 H locs hp41 hW hS => ?_)
              rw [hp41] at hW; clear hp41; clear w1
              refine lv_istore (lv' := [(10, .int (iI (cellS σ cz r))), (2, .int (iI (opF σ r cz))), (9, .int (iI cz)), (8, .int (iI r)), (7, .ref lf), (6, .ref ds), (5, .ref fn), (4, .ref wv), (3, .int (iI 0)), (0, .ref y), (1, .ref h)]) F.1 F.2.1 dL_still_60 hl (by decide) rfl (fun ls hl => ?_)
              refine lv_aload_n F.1 F.2.1 dL_still_62 rfl (lv_at hl 10 rfl) ?_
              refine lv_iload F.1 F.2.1 dL_still_63 (lv_at hl 2 rfl) ?_
              refine lv_iload F.1 F.2.1 dL_still_65 (lv_at hl 3 rfl) ?_
              refine cl_RL_179 (As := [.int (iI cz), .int (iI r)]) (rest := []) F hl (c_X10_design l X w6 h σ cz r hAk (by omega) (by omega)) hW hS hh0 rfl rfl ⟨Nat.le_of_ble_eq_true rfl, Nat.le_of_ble_eq_true rfl⟩ (Nat.le_of_ble_eq_true rfl) ⟨(by show kc43 + 0 + 1 ≤ 2600; omega), (by show ks43 + 0 + 4 ≤ 10800; omega)⟩ dL_still_67 (fun w1 H locs hp42 hW hS => ?_)
              rw [hp42] at hW; clear hp42; clear w1
              refine lv_istore (lv' := [(11, .int (iI (desS σ cz r))), (10, .int (iI (cellS σ cz r))), (2, .int (iI (opF σ r cz))), (9, .int (iI cz)), (8, .int (iI r)), (7, .ref lf), (6, .ref ds), (5, .ref fn), (4, .ref wv), (3, .int (iI 0)), (0, .ref y), (1, .ref h)]) F.1 F.2.1 dL_still_70 hl (by decide) rfl (fun ls hl => ?_)
              refine lv_aload_n F.1 F.2.1 dL_still_72 rfl (lv_at hl 10 rfl) ?_
              refine lv_iload F.1 F.2.1 dL_still_73 (lv_at hl 3 rfl) ?_
              refine lv_iload F.1 F.2.1 dL_still_75 (lv_at hl 4 rfl) ?_
              refine cl_RL_182 (As := [.int (iI cz), .int (iI r)]) (rest := []) F hl (c_X8_cell l X w6 y su σ cz r hYc hLc (by omega)) hW hS hYc rfl rfl ⟨Nat.le_of_ble_eq_true rfl, Nat.le_of_ble_eq_true rfl⟩ (Nat.le_of_ble_eq_true rfl) ⟨(by show kc43 + 0 + 1 + 0 ≤ 2600; omega), (by show ks43 + 0 + 4 + 0 ≤ 10800; omega)⟩ dL_still_77 (fun w1 H locs hp43 hW hS => ?_)
              rw [hp43] at hW; clear hp43; clear w1
              refine lv_iload F.1 F.2.1 dL_still_80 (lv_at hl 1 rfl) ?_
              refine h_icne (tgt := 98) F dL_still_82 (by decide) (by omega) (fun c44 => ?_) (fun c44 => ?_)
              · exact absurd rfl c44
              · refine lv_aload_n F.1 F.2.1 dL_still_85 rfl (lv_at hl 10 rfl) ?_
                refine lv_iload F.1 F.2.1 dL_still_86 (lv_at hl 3 rfl) ?_
                refine lv_iload F.1 F.2.1 dL_still_88 (lv_at hl 4 rfl) ?_
                refine cl_RL_185 (As := [.int (iI cz), .int (iI r)]) (rest := []) F hl (c_X8_design l X w6 y su σ cz r hYc hLc (by omega)) hW hS hYc rfl rfl ⟨Nat.le_of_ble_eq_true rfl, Nat.le_of_ble_eq_true rfl⟩ (Nat.le_of_ble_eq_true rfl) ⟨(by show kc43 + 0 + 1 + 0 + 0 ≤ 2600; omega), (by show ks43 + 0 + 4 + 0 + 0 ≤ 10800; omega)⟩ dL_still_90 (fun w1 H locs hp45 hW hS => ?_)
                rw [hp45] at hW; clear hp45; clear w1
                refine lv_iload F.1 F.2.1 dL_still_93 (lv_at hl 0 rfl) ?_
                refine h_iceq (tgt := 100) F dL_still_95 (by decide) (by omega) (fun c46 => ?_) (fun c46 => ?_)
                · refine lv_aload F.1 F.2.1 dL_still_100 (lv_at hl 6 rfl) ?_
                  refine lv_iload F.1 F.2.1 dL_still_102 (lv_at hl 0 rfl) ?_
                  refine lv_dup2_11 F.1 F.2.1 dL_still_104 rfl rfl ?_
                  refine h_iald F hW hA43_2 (by omega) (by omega) dL_still_105 ?_
                  refine h_iconst F dL_still_106 ?_
                  refine h_iadd (a := gd (desS σ cz r)) (b := 1) F dL_still_107 ?_
                  refine h_iast F hW hS hA43_2 (by omega) (by omega) dL_still_108 (fun w47 H locs ho49 hn48 hW hS => ?_)
                  have hh0 := (hn48 _ (by omega)).trans hh0
                  have hA43_0 := (hn48 _ (by omega)).trans hA43_0
                  have hA43_1 := (hn48 _ (by omega)).trans hA43_1
                  have hA43_3 := (hn48 _ (by omega)).trans hA43_3
                  refine lv_iload F.1 F.2.1 dL_still_109 (lv_at hl 1 rfl) ?_
                  refine h_iflt (tgt := 123) F dL_still_111 (by decide) (by omega) (fun c50 => ?_) (fun c50 => ?_)
                  · have hng : cellS σ cz r = -1 := by omega
                    refine lv_iload F.1 F.2.1 dL_still_123 (lv_at hl 1 rfl) ?_
                    refine h_ifge (tgt := 140) F dL_still_125 (by decide) (by omega) (fun c9 => absurd c9 (by omega)) (fun _ => ?_)
                    refine lv_aload F.1 F.2.1 dL_still_128 (lv_at hl 5 rfl) ?_
                    refine lv_iload F.1 F.2.1 dL_still_130 (lv_at hl 0 rfl) ?_
                    refine lv_dup2_11 F.1 F.2.1 dL_still_132 rfl rfl ?_
                    refine h_iald F hW hA43_3 (by omega) (by omega) dL_still_133 ?_
                    refine h_iconst F dL_still_134 ?_
                    refine h_iadd (a := gz (desS σ cz r)) (b := 1) F dL_still_135 ?_
                    refine h_iast F hW hS hA43_3 (by omega) (by omega) dL_still_136 (fun w51 H locs ho53 hn52 hW hS => ?_)
                    have hh0 := (hn52 _ (by omega)).trans hh0
                    have hA43_0 := (hn52 _ (by omega)).trans hA43_0
                    have hA43_1 := (hn52 _ (by omega)).trans hA43_1
                    have ho49 := (hn52 _ (by omega)).trans ho49
                    refine h_goto (tgt := 164) F dL_still_137 (by decide) ?_
                    have hsD : ∀ co : Int, 0 ≤ co → co < 7 → (up gd (desS σ cz r) ((gd (desS σ cz r)) + 1)) co = sDs σ r (cz + 1) co := fun co h1 h2 => (up_cnt hd2 (by omega) h1 h2).trans (sDs_s (by omega)).symm
                    have hsW : ∀ co : Int, 0 ≤ co → co < 7 → (gw) co = sWv σ r (cz + 1) co := fun co h1 h2 => (hw2 co h1 h2).trans (sWv_n (by omega) hng h1).symm
                    have hsF : ∀ co : Int, 0 ≤ co → co < 7 → (gn) co = sFn σ r (cz + 1) co := fun co h1 h2 => (hf2 co h1 h2).trans (sFn_n (by omega) (Or.inl hng) h1).symm
                    have hsL : ∀ co : Int, 0 ≤ co → co < 7 → (up gz (desS σ cz r) ((gz (desS σ cz r)) + 1)) co = sLf σ r (cz + 1) co := fun co h1 h2 => (up_cnt hl2 (by omega) h1 h2).trans (sLf_s (by omega) hng).symm
                    have hsO : opF σ r (cz + 1) = opF σ r cz := opF_n (by omega) (Or.inl hng)
                    skip
                    refine h_iinc (k := 3) (a := cz) (lv' := [(9, .int (iI (cz + 1))), (11, .int (iI (desS σ cz r))), (10, .int (iI (cellS σ cz r))), (2, .int (iI (opF σ r cz))), (8, .int (iI r)), (7, .ref lf), (6, .ref ds), (5, .ref fn), (4, .ref wv), (3, .int (iI 0)), (0, .ref y), (1, .ref h)]) F dL_still_164 hl rfl (by decide) rfl (fun ls hl => ?_)
                    refine h_goto (tgt := 43) F dL_still_167 (by decide) ?_
                    have eq54 : (opF σ r (cz + 1) : Int) = opF σ r cz := by rw [hsO]
                    have eq55 : ((cz + 1) : Int) = cz + 1 := by first | rfl | omega | simp
                    exact ih43 (cz + 1) (kc43 + 0 + 1 + 0 + 0) (ks43 + 0 + 4 + 0 + 0)  gw gn (up gd (desS σ cz r) ((gd (desS σ cz r)) + 1)) (up gz (desS σ cz r) ((gz (desS σ cz r)) + 1)) (by omega) (by omega) w51 hA43_0 hA43_1 ho49 ho53 (fun q h09 h19 h29 h39 => by rw [hn52 q (by omega), hn48 q (by omega), hF43 q (by omega) (by omega) (by omega) (by omega)]) (by omega) (by omega) hsW hsF hsD hsL _ _ ls hW hS (by rw [eq54, eq55]; exact lv_sub hl [3, 0, 4, 5, 6, 7, 8, 9, 10, 11] rfl)
                  · have hps : 0 ≤ cellS σ cz r := by omega
                    refine lv_aload F.1 F.2.1 dL_still_114 (lv_at hl 8 rfl) ?_
                    refine lv_iload F.1 F.2.1 dL_still_116 (lv_at hl 1 rfl) ?_
                    refine lv_dup2_11 F.1 F.2.1 dL_still_118 rfl rfl ?_
                    refine h_iald F hW hA43_0 (by omega) (by omega) dL_still_119 ?_
                    refine h_iconst F dL_still_120 ?_
                    refine h_iadd (a := gw (cellS σ cz r)) (b := 1) F dL_still_121 ?_
                    refine h_iast F hW hS hA43_0 (by omega) (by omega) dL_still_122 (fun w56 H locs ho58 hn57 hW hS => ?_)
                    have hh0 := (hn57 _ (by omega)).trans hh0
                    have hA43_1 := (hn57 _ (by omega)).trans hA43_1
                    have ho49 := (hn57 _ (by omega)).trans ho49
                    have hA43_3 := (hn57 _ (by omega)).trans hA43_3
                    refine lv_iload F.1 F.2.1 dL_still_123 (lv_at hl 1 rfl) ?_
                    refine h_ifge (tgt := 140) F dL_still_125 (by decide) (by omega) (fun _ => ?_) (fun c9 => absurd hps (by omega))
                    have hAk : ownA X w56 h σ := hO0.A.ex (show ext w w56 from fun q e h9 => by have z9_1 := hfr4 q e h9; have h9 := (hn2 q (by omega)).trans h9; have z9_2 := hfr10 q e h9; have h9 := (hn8 q (by omega)).trans h9; have z9_3 := hfr17 q e h9; have h9 := (hn15 q (by omega)).trans h9; have z9_4 := hfr25 q e h9; have h9 := (hn23 q (by omega)).trans h9; have h9 := (hF31 q (by omega) (by omega) (by omega) (by omega)).trans h9; have h9 := (hF43 q (by omega) (by omega) (by omega) (by omega)).trans h9; have h9 := (hn48 q (by omega)).trans h9; have h9 := (hn57 q (by omega)).trans h9; exact h9)
                    refine lv_iload F.1 F.2.1 dL_still_140 (lv_at hl 4 rfl) ?_
                    refine lv_aload_n F.1 F.2.1 dL_still_142 rfl (lv_at hl 11 rfl) ?_
                    refine cl_RL_186 (As := []) (rest := [.int (iI r)]) F hl (c_X10_rows l X w56 h σ hAk) hW hS hh0 rfl rfl ⟨Nat.le_of_ble_eq_true rfl, Nat.le_of_ble_eq_true rfl⟩ (Nat.le_of_ble_eq_true rfl) ⟨(by show kc43 + 0 + 1 + 0 + 0 + 0 ≤ 2600; omega), (by show ks43 + 0 + 4 + 0 + 0 + 0 ≤ 10800; omega)⟩ dL_still_143 (fun w1 H locs hp59 hW hS => ?_)
                    rw [hp59] at hW; clear hp59; clear w1
                    refine h_icge (tgt := 161) F dL_still_146 (by decide) (by omega) (fun c60 => ?_) (fun c60 => ?_)
                    · refine h_iinc (k := 2) (a := opF σ r cz) (lv' := [(2, .int (iI ((opF σ r cz) + 1))), (11, .int (iI (desS σ cz r))), (10, .int (iI (cellS σ cz r))), (9, .int (iI cz)), (8, .int (iI r)), (7, .ref lf), (6, .ref ds), (5, .ref fn), (4, .ref wv), (3, .int (iI 0)), (0, .ref y), (1, .ref h)]) F dL_still_161 hl rfl (by decide) rfl (fun ls hl => ?_)
                      have hsD : ∀ co : Int, 0 ≤ co → co < 7 → (up gd (desS σ cz r) ((gd (desS σ cz r)) + 1)) co = sDs σ r (cz + 1) co := fun co h1 h2 => (up_cnt hd2 (by omega) h1 h2).trans (sDs_s (by omega)).symm
                      have hsW : ∀ co : Int, 0 ≤ co → co < 7 → (up gw (cellS σ cz r) ((gw (cellS σ cz r)) + 1)) co = sWv σ r (cz + 1) co := fun co h1 h2 => (up_cnt hw2 (by omega) h1 h2).trans (sWv_s (by omega)).symm
                      have hsL : ∀ co : Int, 0 ≤ co → co < 7 → (gz) co = sLf σ r (cz + 1) co := fun co h1 h2 => (hl2 co h1 h2).trans (sLf_n (by omega) (by omega)).symm
                      have hsF : ∀ co : Int, 0 ≤ co → co < 7 → (gn) co = sFn σ r (cz + 1) co := fun co h1 h2 => (hf2 co h1 h2).trans (sFn_n (by omega) (Or.inr (by omega)) h1).symm
                      have hr4 : r = σ 4 := if z : σ 4 < r then (by have := hem cz r (by omega) (by omega) (by unfold nrS; split <;> omega) (by omega); omega) else (by omega)
                      have hsO : opF σ r (cz + 1) = opF σ r cz + 1 := opF_s (by omega) (by omega) hr4
                      refine h_iinc (k := 3) (a := cz) (lv' := [(9, .int (iI (cz + 1))), (2, .int (iI ((opF σ r cz) + 1))), (11, .int (iI (desS σ cz r))), (10, .int (iI (cellS σ cz r))), (8, .int (iI r)), (7, .ref lf), (6, .ref ds), (5, .ref fn), (4, .ref wv), (3, .int (iI 0)), (0, .ref y), (1, .ref h)]) F dL_still_164 hl rfl (by decide) rfl (fun ls hl => ?_)
                      refine h_goto (tgt := 43) F dL_still_167 (by decide) ?_
                      have eq61 : (opF σ r (cz + 1) : Int) = (opF σ r cz) + 1 := by rw [hsO]
                      have eq62 : ((cz + 1) : Int) = cz + 1 := by first | rfl | omega | simp
                      exact ih43 (cz + 1) (kc43 + 0 + 1 + 0 + 0 + 0) (ks43 + 0 + 4 + 0 + 0 + 0)  (up gw (cellS σ cz r) ((gw (cellS σ cz r)) + 1)) gn (up gd (desS σ cz r) ((gd (desS σ cz r)) + 1)) gz (by omega) (by omega) w56 ho58 hA43_1 ho49 hA43_3 (fun q h09 h19 h29 h39 => by rw [hn57 q (by omega), hn48 q (by omega), hF43 q (by omega) (by omega) (by omega) (by omega)]) (by omega) (by omega) hsW hsF hsD hsL _ _ ls hW hS (by rw [eq61, eq62]; exact lv_sub hl [1, 0, 4, 5, 6, 7, 8, 9, 10, 11] rfl)
                    · refine lv_aload F.1 F.2.1 dL_still_149 (lv_at hl 7 rfl) ?_
                      refine lv_iload F.1 F.2.1 dL_still_151 (lv_at hl 1 rfl) ?_
                      refine lv_dup2_11 F.1 F.2.1 dL_still_153 rfl rfl ?_
                      refine h_iald F hW hA43_1 (by omega) (by omega) dL_still_154 ?_
                      refine h_iconst F dL_still_155 ?_
                      refine h_iadd (a := gn (cellS σ cz r)) (b := 1) F dL_still_156 ?_
                      refine h_iast F hW hS hA43_1 (by omega) (by omega) dL_still_157 (fun w63 H locs ho65 hn64 hW hS => ?_)
                      have hh0 := (hn64 _ (by omega)).trans hh0
                      have ho58 := (hn64 _ (by omega)).trans ho58
                      have ho49 := (hn64 _ (by omega)).trans ho49
                      have hA43_3 := (hn64 _ (by omega)).trans hA43_3
                      refine h_goto (tgt := 164) F dL_still_158 (by decide) ?_
                      have hsD : ∀ co : Int, 0 ≤ co → co < 7 → (up gd (desS σ cz r) ((gd (desS σ cz r)) + 1)) co = sDs σ r (cz + 1) co := fun co h1 h2 => (up_cnt hd2 (by omega) h1 h2).trans (sDs_s (by omega)).symm
                      have hsW : ∀ co : Int, 0 ≤ co → co < 7 → (up gw (cellS σ cz r) ((gw (cellS σ cz r)) + 1)) co = sWv σ r (cz + 1) co := fun co h1 h2 => (up_cnt hw2 (by omega) h1 h2).trans (sWv_s (by omega)).symm
                      have hsL : ∀ co : Int, 0 ≤ co → co < 7 → (gz) co = sLf σ r (cz + 1) co := fun co h1 h2 => (hl2 co h1 h2).trans (sLf_n (by omega) (by omega)).symm
                      have hsF : ∀ co : Int, 0 ≤ co → co < 7 → (up gn (cellS σ cz r) ((gn (cellS σ cz r)) + 1)) co = sFn σ r (cz + 1) co := fun co h1 h2 => (up_cnt hf2 (by omega) h1 h2).trans (sFn_s (by omega) (by omega)).symm
                      have hsO : opF σ r (cz + 1) = opF σ r cz := opF_n (by omega) (Or.inr (by omega))
                      skip
                      refine h_iinc (k := 3) (a := cz) (lv' := [(9, .int (iI (cz + 1))), (11, .int (iI (desS σ cz r))), (10, .int (iI (cellS σ cz r))), (2, .int (iI (opF σ r cz))), (8, .int (iI r)), (7, .ref lf), (6, .ref ds), (5, .ref fn), (4, .ref wv), (3, .int (iI 0)), (0, .ref y), (1, .ref h)]) F dL_still_164 hl rfl (by decide) rfl (fun ls hl => ?_)
                      refine h_goto (tgt := 43) F dL_still_167 (by decide) ?_
                      have eq66 : (opF σ r (cz + 1) : Int) = opF σ r cz := by rw [hsO]
                      have eq67 : ((cz + 1) : Int) = cz + 1 := by first | rfl | omega | simp
                      exact ih43 (cz + 1) (kc43 + 0 + 1 + 0 + 0 + 0) (ks43 + 0 + 4 + 0 + 0 + 0)  (up gw (cellS σ cz r) ((gw (cellS σ cz r)) + 1)) (up gn (cellS σ cz r) ((gn (cellS σ cz r)) + 1)) (up gd (desS σ cz r) ((gd (desS σ cz r)) + 1)) gz (by omega) (by omega) w63 ho58 ho65 ho49 hA43_3 (fun q h09 h19 h29 h39 => by rw [hn64 q (by omega), hn57 q (by omega), hn48 q (by omega), hF43 q (by omega) (by omega) (by omega) (by omega)]) (by omega) (by omega) hsW hsF hsD hsL _ _ ls hW hS (by rw [eq66, eq67]; exact lv_sub hl [3, 0, 4, 5, 6, 7, 8, 9, 10, 11] rfl)
                · exact absurd rfl c46
        exact loop43 ((σ 0 - 0) + 1 : Int).toNat 0 (kc31) (ks31)  fw ff fd fl (by omega) (by omega) w5 hA31_0 hA31_1 hA31_2 hA31_3 (fun q _ _ _ _ => rfl) (by omega) (by omega) (fun co h1 h2 => hw1f co h1 h2) (fun co h1 h2 => hf1 co h1 h2) (fun co h1 h2 => hd1 co h1 h2) (fun co h1 h2 => hl1 co h1 h2) _ _ ls hW hS (lv_sub hl [1, 0, 2, 3, 4, 5, 6, 7, 8, 9] rfl)
  have eq68 : (opF σ 0 0 : Int) = 0 := opF_0 (by omega)
  exact loop31 ((σ 1 - 0) + 1 : Int).toNat 0 (0 + 1 + 1 + 1 + 1) (0 + 7 + 7 + 7 + 7)  (fun _ => 0) (fun _ => 0) (fun _ => 0) (fun _ => 0) (by omega) (by omega) w22 ha3 ha9 ha16 ha24 (fun q _ _ _ _ => rfl) (by omega) (by omega) (fun co h1 h2 => (sWv_0 σ co).symm) (fun co h1 h2 => (sFn_0 σ co).symm) (fun co h1 h2 => (sDs_0 σ co).symm) (fun co h1 h2 => (sLf_0 σ co).symm) _ _ ls hW hS (by rw [eq68]; exact lv_sub hl [6, 0, 1, 2, 3, 4, 5, 7, 8] rfl)
