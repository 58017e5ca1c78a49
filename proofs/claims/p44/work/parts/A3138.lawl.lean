/-! ===== the law: its loop ===== -/
theorem lS_ofN (L : Nat) : Int32.ofNat L = iI (L : Int) := rfl
set_option maxHeartbeats 4000000 in
set_option maxRecDepth 100000 in
theorem law_loop {p : Program} {l : Launch} {e : Env} {s : State} {m : MethodId} {args : Array Value} {below : List Frame} {meth : Method} {c : Code} {Q : State → Prop} {X : Cx} {b L y : Nat} {xs : Nat → Int32} (F : Fx p m c cL_law 4 s args RL) (hX : va_X b L xs s s.heap) (hbl : b < s.heap.size) (hbA : ¬ cxA X b) (hL : (L : Int) ≤ 260) {K1 K2 : Nat} (hk : K1 ≤ 203000 ∧ K2 ≤ 1000000) (hLL : ∀ (w : Wo) (gq : Nat) (σ0 gf : Int → Int) (nx sz : Int) (pas : Int → Int → Int) (ac : Int → Int), KS X w y σ0 nx sz pas ac → w gq = some (aZ X 1 gf) → outY y gq → (0 ≤ ac 8 ∧ ac 8 ≤ 800000) → CM l X yL_lives cL_lives 6 (some (.boolean)) (rmG 12 K1 K2 293) [.ref y, .ref gq] w (some (.int (iI (bz true)))) (fun w' => ∃ (σ2 : Int → Int) (nx2 sz2 : Int) (pas2 : Int → Int → Int) (ac2 : Int → Int), KS X w' y σ2 nx2 sz2 pas2 ac2 ∧ (0 ≤ ac2 8 ∧ ac2 8 ≤ ac 8 + 22000))) (kr : ∀ (H : Heap) (ls : Array Slot), W p l e room_1 s m args below meth c H [] 921239 6337982 Q (F0 m 48 ls [.int (iI 1)])) (hA : ∀ q : Nat, cxA X q → s.heap.size ≤ q) : ∀ (n : Nat) (w : Wo) (H : Heap) (locs : List Loc) (ls : Array Slot) (i : Int) (cells slots : Nat) (σ : Int → Int) (nx sz : Int) (pas : Int → Int → Int) (ac : Int → Int), 4 - i = (n : Int) → 0 ≤ i → cells + 203001 * n ≤ 921000 → slots + 1000001 * n ≤ 6300000 → KS X w y σ nx sz pas ac → (0 ≤ ac 8 ∧ ac 8 + 22000 * (n : Int) ≤ 200000) → lv_has ls 4 [(0, .ref b), (1, .ref y), (2, .int (iI (L : Int))), (3, .int (iI i))] → Wd X w s H → va_S (cxA X) s.heap H locs → W p l e room_1 s m args below meth c H locs cells slots Q (F0 m 13 ls [])
  | n, w, H, locs, ls, i, cells, slots, σ, nx, sz, pas, ac, hn, h0, hc, hs, hK, hac, hl, hW, hS => by
    have hend : W p l e room_1 s m args below meth c H locs cells slots Q (F0 m 47 ls []) := by
      refine h_iconst F dL_law_47 ?_
      refine va_forget (fun q hq => hA _ (hS.2.2 q hq)) ?_
      exact W.widen (by omega) (by omega) (kr _ _)
    refine lv_iload_n F.1 F.2.1 dL_law_13 rfl (lv_at hl 3 rfl) ?_
    refine lv_iload_n F.1 F.2.1 dL_law_14 rfl (lv_at hl 2 rfl) ?_
    refine h_icge (a := i) (b := (L : Int)) (tgt := 47) F dL_law_15 (by decide) (by omega) (fun _ => hend) (fun h1 => ?_)
    refine lv_iload_n F.1 F.2.1 dL_law_18 rfl (lv_at hl 3 rfl) ?_
    refine h_iconst F dL_law_19 ?_
    refine h_icge (a := i) (b := 4) (tgt := 47) F dL_law_20 (by decide) (by omega) (fun _ => hend) (fun h2 => ?_)
    match n, hn, hc, hs, hac with
    | 0, hn, _, _, _ => exact absurd hn (by omega)
    | n + 1, hn, hc, hs, hac =>
      refine lv_aload_n F.1 F.2.1 dL_law_23 rfl (lv_at hl 1 rfl) ?_
      refine h_iconst F dL_law_24 ?_
      refine q_newP (N := 1) (k := 0) (n := 1) (atype := .int) (x := .inl (fun j : Nat => iI ((fun _ : Int => 0) (j : Int)))) F hW hS haCI rfl (hxI _) rfl (by decide) ⟨(by show cells + 1 ≤ 921239; omega), (by show slots + 1 ≤ 6337982; omega)⟩ dL_law_25 (fun gq w1 H hfr hcx hg hn1 hW hS => ?_)
      have hy9 : y + 320 < gq := by
        cases z9 : w (y + 320) with
        | none => exact absurd z9 (hK.kn _ (by omega) (by omega))
        | some e9 => exact hfr _ _ z9
      refine lv_dup F.1 F.2.1 dL_law_27 rfl ?_
      refine h_iconst F dL_law_28 ?_
      refine lv_aload_n F.1 F.2.1 dL_law_29 rfl (lv_at hl 0 rfl) ?_
      refine lv_iload_n F.1 F.2.1 dL_law_30 rfl (lv_at hl 3 rfl) ?_
      refine va_sld F.1 F.2.1 hX hbl hbA hS (iI_in ⟨h0, h1⟩ (by omega)) dL_law_31 ?_
      rw [iI_of (xs _)]
      refine h_iast (n := 1) (f := fun _ => 0) (i := 0) F hW hS hg (by decide) (by decide) dL_law_32 (fun w2 H locs hg2 hn2 hW hS => ?_)
      have hK2 : KS X w2 y σ nx sz pas ac := hK.mv (fun q q0 q1 => (hn2 q (by omega)).trans (hn1 q (by omega)))
      refine cl_RL_36 (As := [.ref y, .ref gq]) (rest := []) F hl (hLL w2 gq σ _ nx sz pas ac hK2 hg2 (Or.inr (by omega)) ⟨hac.1, by omega⟩) hW hS rfl rfl ⟨Nat.le_of_ble_eq_true rfl, Nat.le_of_ble_eq_true rfl⟩ (Nat.le_of_ble_eq_true rfl) ⟨(by show cells + 1 + K1 ≤ 921239; omega), (by show slots + 1 + K2 ≤ 6337982; omega)⟩ dL_law_33 (fun w3 H locs hp hW hS => ?_)
      obtain ⟨σ2, nx2, sz2, pas2, ac2, hK3, hac2⟩ := hp
      refine h_ifneb (b := true) (tgt := 41) F dL_law_36 (by decide) (fun _ => ?_) (fun h9 => absurd h9 (by decide))
      refine h_iinc (k := 3) (lv' := [(3, .int (iI (i + 1))), (0, .ref b), (1, .ref y), (2, .int (iI (L : Int)))]) F dL_law_41 hl rfl (by decide) rfl (fun ls3 hl => ?_)
      refine h_goto (tgt := 13) F dL_law_44 (by decide) ?_
      exact law_loop F hX hbl hbA hL hk hLL kr hA n w3 H locs ls3 (i + 1) (cells + 1 + K1) (slots + 1 + K2) σ2 nx2 sz2 pas2 ac2 (by omega) (by omega) (by omega) (by omega) hK3 (by omega) (lv_sub hl [1, 2, 3, 0] rfl) hW hS
