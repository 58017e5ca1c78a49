/-! ===== the law: the switch, and the loop ===== -/
theorem lS_ofN (L : Nat) : Int32.ofNat L = iI (L : Int) := rfl
set_option maxHeartbeats 2000000 in
set_option maxRecDepth 100000 in
theorem law_case {p : Program} {l : Launch} {e : Env} {s : State} {m : MethodId} {args : Array Value} {below : List Frame} {meth : Method} {c : Code} {Q : State → Prop} {X : Cx} {b L y mo ao ad : Nat} {xs : Nat → Int32} (hst : l.stackTraces = false) (F : Fx p m c cL_law 10 s args RL) (hX : va_X b L xs s s.heap) (hbl : b < s.heap.size) (hbA : ¬ cxA X b) (hL : (L : Int) ≤ 3072) {H : Heap} {locs : List Loc} {cells slots : Nat} {ls : Array Slot} {w : Wo} {i : Int} (hST : ST X w y mo ao ad) (hi : 0 ≤ i ∧ i + 6 ≤ (L : Int)) (hl : lv_has ls 10 [(0, .ref b), (1, .ref y), (2, .ref mo), (3, .ref ao), (4, .ref ad), (5, .int (iI i))]) (hW : Wd X w s H) (hS : va_S (cxA X) s.heap H locs) (hroom : cells + 1 ≤ room_1.cells ∧ slots + 6 ≤ room_1.slots) (x : Int32) (kk : ∀ (w2 : Wo) (H2 : Heap) (locs2 : List Loc) (ls2 : Array Slot), ST X w2 y mo ao ad → lv_has ls2 10 [(0, .ref b), (1, .ref y), (2, .ref mo), (3, .ref ao), (4, .ref ad), (5, .int (iI i))] → Wd X w2 s H2 → va_S (cxA X) s.heap H2 locs2 → W p l e room_1 s m args below meth c H2 locs2 (cells + 1) (slots + 6) Q (F0 m 2317 ls2 [])) : W p l e room_1 s m args below meth c H locs cells slots Q (F0 m 45 ls [.int x]) := by
  by_cases hz : 0 ≤ x.toInt ∧ x.toInt ≤ 40
  · obtain ⟨z, ez⟩ : ∃ z : Int, x.toInt = z := ⟨_, rfl⟩
    rw [ez] at hz
    have h1 : ¬ x.toInt < 0 := by rw [ez]; omega
    have h2 : ¬ 40 < x.toInt := by rw [ez]; omega
    rcases (show z = 0 ∨ z = 1 ∨ z = 2 ∨ z = 3 ∨ z = 4 ∨ z = 5 ∨ z = 6 ∨ z = 7 ∨ z = 8 ∨ z = 9 ∨ z = 10 ∨ z = 11 ∨ z = 12 ∨ z = 13 ∨ z = 14 ∨ z = 15 ∨ z = 16 ∨ z = 17 ∨ z = 18 ∨ z = 19 ∨ z = 20 ∨ z = 21 ∨ z = 22 ∨ z = 23 ∨ z = 24 ∨ z = 25 ∨ z = 26 ∨ z = 27 ∨ z = 28 ∨ z = 29 ∨ z = 30 ∨ z = 31 ∨ z = 32 ∨ z = 33 ∨ z = 34 ∨ z = 35 ∨ z = 36 ∨ z = 37 ∨ z = 38 ∨ z = 39 ∨ z = 40 by omega) with hk | hk | hk | hk | hk | hk | hk | hk | hk | hk | hk | hk | hk | hk | hk | hk | hk | hk | hk | hk | hk | hk | hk | hk | hk | hk | hk | hk | hk | hk | hk | hk | hk | hk | hk | hk | hk | hk | hk | hk | hk
    · exact lv_tableIn (off := 179) (tgt := 224) F.1 F.2.1 dL_law_45 h1 h2 (by rw [ez, hk]; rfl) (by decide) (lc_0 hst F hX hbl hbA hL hST hi hl hW hS hroom kk)
    · exact lv_tableIn (off := 283) (tgt := 328) F.1 F.2.1 dL_law_45 h1 h2 (by rw [ez, hk]; rfl) (by decide) (lc_1 hst F hX hbl hbA hL hST hi hl hW hS hroom kk)
    · exact lv_tableIn (off := 339) (tgt := 384) F.1 F.2.1 dL_law_45 h1 h2 (by rw [ez, hk]; rfl) (by decide) (lc_2 hst F hX hbl hbA hL hST hi hl hW hS hroom kk)
    · exact lv_tableIn (off := 352) (tgt := 397) F.1 F.2.1 dL_law_45 h1 h2 (by rw [ez, hk]; rfl) (by decide) (lc_3 hst F hX hbl hbA hL hST hi hl hW hS hroom kk)
    · exact lv_tableIn (off := 365) (tgt := 410) F.1 F.2.1 dL_law_45 h1 h2 (by rw [ez, hk]; rfl) (by decide) (lc_4 hst F hX hbl hbA hL hST hi hl hW hS hroom kk)
    · exact lv_tableIn (off := 378) (tgt := 423) F.1 F.2.1 dL_law_45 h1 h2 (by rw [ez, hk]; rfl) (by decide) (lc_5 hst F hX hbl hbA hL hST hi hl hW hS hroom kk)
    · exact lv_tableIn (off := 391) (tgt := 436) F.1 F.2.1 dL_law_45 h1 h2 (by rw [ez, hk]; rfl) (by decide) (lc_6 hst F hX hbl hbA hL hST hi hl hW hS hroom kk)
    · exact lv_tableIn (off := 447) (tgt := 492) F.1 F.2.1 dL_law_45 h1 h2 (by rw [ez, hk]; rfl) (by decide) (lc_7 hst F hX hbl hbA hL hST hi hl hW hS hroom kk)
    · exact lv_tableIn (off := 515) (tgt := 560) F.1 F.2.1 dL_law_45 h1 h2 (by rw [ez, hk]; rfl) (by decide) (lc_8 hst F hX hbl hbA hL hST hi hl hW hS hroom kk)
    · exact lv_tableIn (off := 595) (tgt := 640) F.1 F.2.1 dL_law_45 h1 h2 (by rw [ez, hk]; rfl) (by decide) (lc_9 hst F hX hbl hbA hL hST hi hl hW hS hroom kk)
    · exact lv_tableIn (off := 663) (tgt := 708) F.1 F.2.1 dL_law_45 h1 h2 (by rw [ez, hk]; rfl) (by decide) (lc_10 hst F hX hbl hbA hL hST hi hl hW hS hroom kk)
    · exact lv_tableIn (off := 731) (tgt := 776) F.1 F.2.1 dL_law_45 h1 h2 (by rw [ez, hk]; rfl) (by decide) (lc_11 hst F hX hbl hbA hL hST hi hl hW hS hroom kk)
    · exact lv_tableIn (off := 799) (tgt := 844) F.1 F.2.1 dL_law_45 h1 h2 (by rw [ez, hk]; rfl) (by decide) (lc_12 hst F hX hbl hbA hL hST hi hl hW hS hroom kk)
    · exact lv_tableIn (off := 855) (tgt := 900) F.1 F.2.1 dL_law_45 h1 h2 (by rw [ez, hk]; rfl) (by decide) (lc_13 hst F hX hbl hbA hL hST hi hl hW hS hroom kk)
    · exact lv_tableIn (off := 868) (tgt := 913) F.1 F.2.1 dL_law_45 h1 h2 (by rw [ez, hk]; rfl) (by decide) (lc_14 hst F hX hbl hbA hL hST hi hl hW hS hroom kk)
    · exact lv_tableIn (off := 931) (tgt := 976) F.1 F.2.1 dL_law_45 h1 h2 (by rw [ez, hk]; rfl) (by decide) (lc_15 hst F hX hbl hbA hL hST hi hl hW hS hroom kk)
    · exact lv_tableIn (off := 987) (tgt := 1032) F.1 F.2.1 dL_law_45 h1 h2 (by rw [ez, hk]; rfl) (by decide) (lc_16 hst F hX hbl hbA hL hST hi hl hW hS hroom kk)
    · exact lv_tableIn (off := 1043) (tgt := 1088) F.1 F.2.1 dL_law_45 h1 h2 (by rw [ez, hk]; rfl) (by decide) (lc_17 hst F hX hbl hbA hL hST hi hl hW hS hroom kk)
    · exact lv_tableIn (off := 1056) (tgt := 1101) F.1 F.2.1 dL_law_45 h1 h2 (by rw [ez, hk]; rfl) (by decide) (lc_18 hst F hX hbl hbA hL hST hi hl hW hS hroom kk)
    · exact lv_tableIn (off := 1112) (tgt := 1157) F.1 F.2.1 dL_law_45 h1 h2 (by rw [ez, hk]; rfl) (by decide) (lc_19 hst F hX hbl hbA hL hST hi hl hW hS hroom kk)
    · exact lv_tableIn (off := 1125) (tgt := 1170) F.1 F.2.1 dL_law_45 h1 h2 (by rw [ez, hk]; rfl) (by decide) (lc_20 hst F hX hbl hbA hL hST hi hl hW hS hroom kk)
    · exact lv_tableIn (off := 1181) (tgt := 1226) F.1 F.2.1 dL_law_45 h1 h2 (by rw [ez, hk]; rfl) (by decide) (lc_21 hst F hX hbl hbA hL hST hi hl hW hS hroom kk)
    · exact lv_tableIn (off := 1237) (tgt := 1282) F.1 F.2.1 dL_law_45 h1 h2 (by rw [ez, hk]; rfl) (by decide) (lc_22 hst F hX hbl hbA hL hST hi hl hW hS hroom kk)
    · exact lv_tableIn (off := 1305) (tgt := 1350) F.1 F.2.1 dL_law_45 h1 h2 (by rw [ez, hk]; rfl) (by decide) (lc_23 hst F hX hbl hbA hL hST hi hl hW hS hroom kk)
    · exact lv_tableIn (off := 1383) (tgt := 1428) F.1 F.2.1 dL_law_45 h1 h2 (by rw [ez, hk]; rfl) (by decide) (lc_24 hst F hX hbl hbA hL hST hi hl hW hS hroom kk)
    · exact lv_tableIn (off := 1424) (tgt := 1469) F.1 F.2.1 dL_law_45 h1 h2 (by rw [ez, hk]; rfl) (by decide) (lc_25 hst F hX hbl hbA hL hST hi hl hW hS hroom kk)
    · exact lv_tableIn (off := 1504) (tgt := 1549) F.1 F.2.1 dL_law_45 h1 h2 (by rw [ez, hk]; rfl) (by decide) (lc_26 hst F hX hbl hbA hL hST hi hl hW hS hroom kk)
    · exact lv_tableIn (off := 1517) (tgt := 1562) F.1 F.2.1 dL_law_45 h1 h2 (by rw [ez, hk]; rfl) (by decide) (lc_27 hst F hX hbl hbA hL hST hi hl hW hS hroom kk)
    · exact lv_tableIn (off := 1601) (tgt := 1646) F.1 F.2.1 dL_law_45 h1 h2 (by rw [ez, hk]; rfl) (by decide) (lc_28 hst F hX hbl hbA hL hST hi hl hW hS hroom kk)
    · exact lv_tableIn (off := 1657) (tgt := 1702) F.1 F.2.1 dL_law_45 h1 h2 (by rw [ez, hk]; rfl) (by decide) (lc_29 hst F hX hbl hbA hL hST hi hl hW hS hroom kk)
    · exact lv_tableIn (off := 1670) (tgt := 1715) F.1 F.2.1 dL_law_45 h1 h2 (by rw [ez, hk]; rfl) (by decide) (lc_30 hst F hX hbl hbA hL hST hi hl hW hS hroom kk)
    · exact lv_tableIn (off := 1762) (tgt := 1807) F.1 F.2.1 dL_law_45 h1 h2 (by rw [ez, hk]; rfl) (by decide) (lc_31 hst F hX hbl hbA hL hST hi hl hW hS hroom kk)
    · exact lv_tableIn (off := 1818) (tgt := 1863) F.1 F.2.1 dL_law_45 h1 h2 (by rw [ez, hk]; rfl) (by decide) (lc_32 hst F hX hbl hbA hL hST hi hl hW hS hroom kk)
    · exact lv_tableIn (off := 1898) (tgt := 1943) F.1 F.2.1 dL_law_45 h1 h2 (by rw [ez, hk]; rfl) (by decide) (lc_33 hst F hX hbl hbA hL hST hi hl hW hS hroom kk)
    · exact lv_tableIn (off := 1966) (tgt := 2011) F.1 F.2.1 dL_law_45 h1 h2 (by rw [ez, hk]; rfl) (by decide) (lc_34 hst F hX hbl hbA hL hST hi hl hW hS hroom kk)
    · exact lv_tableIn (off := 2022) (tgt := 2067) F.1 F.2.1 dL_law_45 h1 h2 (by rw [ez, hk]; rfl) (by decide) (lc_35 hst F hX hbl hbA hL hST hi hl hW hS hroom kk)
    · exact lv_tableIn (off := 2106) (tgt := 2151) F.1 F.2.1 dL_law_45 h1 h2 (by rw [ez, hk]; rfl) (by decide) (lc_36 hst F hX hbl hbA hL hST hi hl hW hS hroom kk)
    · exact lv_tableIn (off := 2162) (tgt := 2207) F.1 F.2.1 dL_law_45 h1 h2 (by rw [ez, hk]; rfl) (by decide) (lc_37 hst F hX hbl hbA hL hST hi hl hW hS hroom kk)
    · exact lv_tableIn (off := 2187) (tgt := 2232) F.1 F.2.1 dL_law_45 h1 h2 (by rw [ez, hk]; rfl) (by decide) (lc_38 hst F hX hbl hbA hL hST hi hl hW hS hroom kk)
    · exact lv_tableIn (off := 2200) (tgt := 2245) F.1 F.2.1 dL_law_45 h1 h2 (by rw [ez, hk]; rfl) (by decide) (lc_39 hst F hX hbl hbA hL hST hi hl hW hS hroom kk)
    · exact lv_tableIn (off := 2236) (tgt := 2281) F.1 F.2.1 dL_law_45 h1 h2 (by rw [ez, hk]; rfl) (by decide) (lc_40 hst F hX hbl hbA hL hST hi hl hW hS hroom kk)
  · exact lv_tableOut (tgt := 2317) F.1 F.2.1 dL_law_45 (by omega) (by decide) (W.widen (k := cells + 1) (n := slots + 6) (by omega) (by omega) (kk w H locs ls hST hl hW hS))
set_option maxHeartbeats 2000000 in
set_option maxRecDepth 100000 in
theorem law_loop {p : Program} {l : Launch} {e : Env} {s : State} {m : MethodId} {args : Array Value} {below : List Frame} {meth : Method} {c : Code} {Q : State → Prop} {X : Cx} {b L y mo ao ad : Nat} {xs : Nat → Int32} (hst : l.stackTraces = false) (F : Fx p m c cL_law 10 s args RL) (hX : va_X b L xs s s.heap) (hbl : b < s.heap.size) (hbA : ¬ cxA X b) (hL : (L : Int) ≤ 3072) (kr : ∀ (H : Heap) (ls : Array Slot), W p l e room_1 s m args below meth c H [] 601024 7293034 Q (F0 m 2324 ls [.int (iI 1)])) (hA : ∀ q : Nat, cxA X q → s.heap.size ≤ q) : ∀ (n : Nat) (w : Wo) (H : Heap) (locs : List Loc) (ls : Array Slot) (i : Int) (cells slots : Nat), (L : Int) - i ≤ 6 * (n : Int) → 0 ≤ i ∧ i ≤ 4000 → cells + n ≤ 1000 → slots + 6 * n ≤ 100000 → ST X w y mo ao ad → lv_has ls 10 [(0, .ref b), (1, .ref y), (2, .ref mo), (3, .ref ao), (4, .ref ad), (5, .int (iI i))] → Wd X w s H → va_S (cxA X) s.heap H locs → W p l e room_1 s m args below meth c H locs cells slots Q (F0 m 28 ls [])
  | n, w, H, locs, ls, i, cells, slots, hn, hi, hc, hs, hST, hl, hW, hS => by
    refine lv_iload F.1 F.2.1 dL_law_28 (lv_at hl 5 rfl) ?_
    refine lv_aload_n F.1 F.2.1 dL_law_30 rfl (lv_at hl 0 rfl) ?_
    refine va_slen F.1 F.2.1 hX hbl hbA hS dL_law_31 ?_
    rw [lS_ofN]
    refine h_bipush F dL_law_32 rfl ?_
    refine h_isub (a := (L : Int)) (b := 6) F dL_law_34 ?_
    refine h_icgt (a := i) (b := (L : Int) - 6) (tgt := 2323) F dL_law_35 (by decide) (by omega) (fun _ => ?_) (fun hle => ?_)
    · refine h_iconst F dL_law_2323 ?_
      refine va_forget (fun q hq => hA _ (hS.2.2 q hq)) ?_
      exact W.widen (by omega) (by omega) (kr _ _)
    · match n, hn, hc, hs with
      | 0, hn, _, _ => exact absurd hn (by omega)
      | n + 1, hn, hc, hs =>
        refine lv_aload_n F.1 F.2.1 dL_law_38 rfl (lv_at hl 0 rfl) ?_
        refine lv_iload F.1 F.2.1 dL_law_39 (lv_at hl 5 rfl) ?_
        refine h_sld (i := i) F hX hbl hbA hS hL (by omega) dL_law_41 ?_
        refine h_bipush F dL_law_42 rfl ?_
        refine lv_iand F.1 F.2.1 dL_law_44 ?_
        refine law_case hst F hX hbl hbA hL hST (by omega) hl hW hS ⟨by show cells + 1 ≤ 601024; omega, by show slots + 6 ≤ 7293034; omega⟩ _ (fun w2 H2 locs2 ls2 hST hl hW hS => ?_)
        refine h_iinc (k := 5) (lv' := [(5, .int (iI (i + 6))), (0, .ref b), (1, .ref y), (2, .ref mo), (3, .ref ao), (4, .ref ad)]) F dL_law_2317 hl rfl (by decide) rfl (fun ls3 hl => ?_)
        refine h_goto (tgt := 28) F dL_law_2320 (by decide) ?_
        exact law_loop hst F hX hbl hbA hL kr hA n w2 H2 locs2 ls3 (i + 6) (cells + 1) (slots + 6) (by omega) (by omega) (by omega) (by omega) hST (lv_sub hl [1, 2, 3, 4, 5, 0] rfl) hW hS
