/-- the joins of a row as it is or would be; its minutes -/
def joS (σ : Int → Int) (r : Int) : Int := cnt (fun z => decide (wvS σ z r ≠ wvS σ (z + 1) r)) 0 (σ 0 - 1)
def mnS (σ : Int → Int) (r : Int) : Int := minZ (σ 0) (joS σ r)
theorem joS_r {σ : Int → Int} (h : WF0 σ) (r : Int) : 0 ≤ joS σ r ∧ joS σ r < 40 := by
  unfold WF0 at h
  have := cnt_r (fun z => decide (wvS σ z r ≠ wvS σ (z + 1) r)) (lo := 0) (hi := σ 0 - 1) (by omega)
  unfold joS
  omega
set_option maxHeartbeats 4000000 in
set_option maxRecDepth 100000 in
theorem c_X8_finishRow (l : Launch) (X : Cx) (w : Wo) (y : Nat) (su : Int) (ac : Int → Int) (σ : Int → Int) (hY : clO X w y su) (hac : w (y + 305) = some (aZ X 9 ac)) (hL : loomAt X w (y + 1) σ) (hop : σ 4 < σ 1) (hfu : ∀ c, 0 ≤ c → c < σ 0 → 0 ≤ cellS σ c (σ 4)) : CM l X yX8_finishRow cX8_finishRow 2 none (rmk 4 92) [.ref y] w none (fun w' => w' (y + 305) = some (aZ X 9 (up ac 8 (ac 8 + mnS σ (σ 4)))) ∧ loomAt X w' (y + 1) (up σ 4 (σ 4 + 1)) ∧ ∀ q : Nat, q ≠ y + 305 → q ≠ y + 1 → w' q = w q) := by
  refine CM.of (lv := [(0, .ref y)]) (by decide) (Nat.le_of_ble_eq_true rfl) rfl (fun p e s m below meth c ls F hr hlk hin hW hS hl => ?_)
  have hZ0 := hW.2.2
  have hB9 := hW.1.2
  clear hin
  unfold clO at hY
  have hO := hL.1.o
  have hA := hL.1
  have hwf := hL.2.2
  have hF := hwf.1
  unfold WF0 at hF
  have hjo := joS_r hwf.1 (σ 4)
  refine lv_aload_n F.1 F.2.1 dX8_finishRow_0 rfl (lv_at hl 0 rfl) ?_
  refine gf_RX8_10 F hW hY rfl dX8_finishRow_1 ?_
  refine lv_aload_n F.1 F.2.1 dX8_finishRow_4 rfl (lv_at hl 0 rfl) ?_
  refine gf_RX8_10 F hW hY rfl dX8_finishRow_5 ?_
  refine lv_aload_n F.1 F.2.1 dX8_finishRow_8 rfl (lv_at hl 0 rfl) ?_
  refine gf_RX8_10 F hW hY rfl dX8_finishRow_9 ?_
  refine gf_RX8_148 F hW hO rfl dX8_finishRow_12 ?_
  refine cl_RX8_286 (As := [.int (iI (σ 4))]) (rest := [.ref (y + 1)]) F hl (c_X5_joinsOf l X w (y + 1) σ (σ 4) hL (by omega)) hW hS hO rfl rfl ⟨Nat.le_of_ble_eq_true rfl, Nat.le_of_ble_eq_true rfl⟩ (Nat.le_of_ble_eq_true rfl) ⟨Nat.zero_le _, Nat.zero_le _⟩ dX8_finishRow_15 (fun w1 H locs hp1 hW hS => ?_)
  rw [hp1] at hW; clear hp1; clear w1
  refine h_top (show (cnt (fun z => decide (wvS σ z (σ 4) ≠ wvS σ (z + 1) (σ 4))) 0 (σ 0 - 1) : Int) = joS σ (σ 4) from rfl) ?_
  refine cl_RX8_320 (As := [.int (iI (joS σ (σ 4)))]) (rest := []) F hl (c_X5_minutesFor l X w (y + 1) σ (joS σ (σ 4)) hA hwf (by omega)) hW hS hO rfl rfl ⟨Nat.le_of_ble_eq_true rfl, Nat.le_of_ble_eq_true rfl⟩ (Nat.le_of_ble_eq_true rfl) ⟨Nat.zero_le _, Nat.zero_le _⟩ dX8_finishRow_18 (fun w1 H locs hp2 hW hS => ?_)
  rw [hp2] at hW; clear hp2; clear w1
  refine h_top (show (minZ (σ 0) (joS σ (σ 4)) : Int) = mnS σ (σ 4) from rfl) ?_
  refine lv_istore_n (lv' := [(1, .int (iI (mnS σ (σ 4)))), (0, .ref y)]) F.1 F.2.1 dX8_finishRow_21 rfl hl (by decide) rfl (fun ls hl => ?_)
  refine lv_aload_n F.1 F.2.1 dX8_finishRow_22 rfl (lv_at hl 1 rfl) ?_
  refine gf_RX8_39 F hW hY rfl dX8_finishRow_23 ?_
  refine h_bipush F dX8_finishRow_26 rfl ?_
  refine lv_aload_n F.1 F.2.1 dX8_finishRow_28 rfl (lv_at hl 1 rfl) ?_
  refine gf_RX8_39 F hW hY rfl dX8_finishRow_29 ?_
  refine h_bipush F dX8_finishRow_32 rfl ?_
  refine cl_RX8_295 (As := [.ref (y + 305), .int (iI 8)]) (rest := [.int (iI 8), .ref (y + 305)]) F hl (c_X8_at l X w (y + 305) 9 ac 8 hac (by omega) (by omega)) hW hS rfl rfl ⟨Nat.le_of_ble_eq_true rfl, Nat.le_of_ble_eq_true rfl⟩ (Nat.le_of_ble_eq_true rfl) ⟨Nat.zero_le _, Nat.zero_le _⟩ dX8_finishRow_34 (fun w1 H locs hp3 hW hS => ?_)
  rw [hp3] at hW; clear hp3; clear w1
  refine lv_iload_n F.1 F.2.1 dX8_finishRow_37 rfl (lv_at hl 0 rfl) ?_
  refine h_iadd (a := ac 8) (b := mnS σ (σ 4)) F dX8_finishRow_38 ?_
  refine cl_RX8_397 (As := [.ref (y + 305), .int (iI 8), .int (iI ((ac 8) + (mnS σ (σ 4))))]) (rest := []) F hl (c_X8_put l X w (y + 305) 9 ac 8 ((ac 8) + (mnS σ (σ 4))) hac (by omega) (by omega)) hW hS rfl rfl ⟨Nat.le_of_ble_eq_true rfl, Nat.le_of_ble_eq_true rfl⟩ (Nat.le_of_ble_eq_true rfl) ⟨Nat.zero_le _, Nat.zero_le _⟩ dX8_finishRow_39 (fun w4 H locs hp5 hW hS => ?_)
  obtain ⟨ha6, hn7⟩ := hp5
  have hY := (hn7 _ (by omega)).trans hY
  have hO := (hn7 _ (by omega)).trans hO
  refine lv_aload_n F.1 F.2.1 dX8_finishRow_42 rfl (lv_at hl 1 rfl) ?_
  refine gf_RX8_10 F hW hY rfl dX8_finishRow_43 ?_
  refine lv_dup F.1 F.2.1 dX8_finishRow_46 rfl ?_
  refine gf_RX8_148 F hW hO rfl dX8_finishRow_47 ?_
  refine h_iconst F dX8_finishRow_50 ?_
  refine h_iadd (a := σ 4) (b := 1) F dX8_finishRow_51 ?_
  refine pf_RX8_148 F hW hS hO (Nat.le_of_ble_eq_true rfl) dX8_finishRow_52 (fun w8 H locs ho10 hn9 hW hS => ?_)
  have ho10 : w8 (y + 1) = some (.inr (5, [.ref (y + 1 + 1), .ref (y + 1 + 3), .ref (y + 1 + 5), .ref (y + 1 + 6), .ref (y + 1 + 7), .int (iI (σ 5)), .int (iI (σ 0)), .int (iI (σ 1)), .int (iI ((σ 4) + 1)), .int (iI (σ 3)), .int (iI (σ 2))])) := ho10
  have hY := (hn9 _ (by omega)).trans hY
  have ha6 := (hn9 _ (by omega)).trans ha6
  exact h_vret F hr hlk hW hS ⟨(by rw [ha6]; done), loomAt_fld (hL.mv (fun q h1 h2 => hn7 q (by omega))) 4 (σ 4 + 1) (by decide) ho10 hn9 (WF_fld hwf 4 (σ 4 + 1) (by omega) (fun _ c r c0 c1 r0 r1 => (by by_cases g : r = σ 4; (rw [g]; exact hfu c c0 c1); exact hwf.2.2.2.2.1 c r c0 c1 r0 (by omega)))), (fun q h09 h19 => by rw [hn9 q (by omega), hn7 q (by omega)])⟩ dX8_finishRow_55
set_option maxHeartbeats 4000000 in
set_option maxRecDepth 100000 in
theorem c_X8_doLook (l : Launch) (X : Cx) (w : Wo) (y : Nat) (su : Int) (ac : Int → Int) (σ : Int → Int) (nx sz : Int) (pas : Int → Int → Int) (hY : clO X w y su) (hac : w (y + 305) = some (aZ X 9 ac)) (hL : loomAt X w (y + 1) σ) (hH : hisAt X w (y + 53) nx sz pas) : CM l X yX8_doLook cX8_doLook 2 (some (.int)) (rmk 5 128) [.ref y] w (some (.int (iI (misSeen (up σ 3 (σ 4)) - misSeen σ)))) (fun w' => w' (y + 305) = some (aZ X 9 (up ac 0 (ac 0 + 1))) ∧ hisAt X w' (y + 53) ((if nx = 8 then 0 else nx) + 1) (min 8 (sz + 1)) (keepP sz pas σ) ∧ loomAt X w' (y + 1) (up σ 3 (σ 4)) ∧ ∀ q : Nat, q ≠ y + 305 → q ≠ y + 1 → (q < y + 53 ∨ y + 255 ≤ q) → w' q = w q) := by
  refine CM.of (lv := [(0, .ref y)]) (by decide) (Nat.le_of_ble_eq_true rfl) rfl (fun p e s m below meth c ls F hr hlk hin hW hS hl => ?_)
  have hZ0 := hW.2.2
  have hB9 := hW.1.2
  clear hin
  unfold clO at hY
  have hO := hL.1.o
  have hA := hL.1
  have hwf := hL.2.2
  have hF := hwf.1
  unfold WF0 at hF
  refine lv_aload_n F.1 F.2.1 dX8_doLook_0 rfl (lv_at hl 0 rfl) ?_
  refine gf_RX8_10 F hW hY rfl dX8_doLook_1 ?_
  refine cl_RX8_264 (As := []) (rest := []) F hl (c_X5_seenMistakes l X w (y + 1) σ hL) hW hS hO rfl rfl ⟨Nat.le_of_ble_eq_true rfl, Nat.le_of_ble_eq_true rfl⟩ (Nat.le_of_ble_eq_true rfl) ⟨Nat.zero_le _, Nat.zero_le _⟩ dX8_doLook_4 (fun w1 H locs hp1 hW hS => ?_)
  rw [hp1] at hW; clear hp1; clear w1
  refine lv_istore_n (lv' := [(1, .int (iI (misSeen σ))), (0, .ref y)]) F.1 F.2.1 dX8_doLook_7 rfl hl (by decide) rfl (fun ls hl => ?_)
  refine lv_aload_n F.1 F.2.1 dX8_doLook_8 rfl (lv_at hl 1 rfl) ?_
  refine cl_RX8_380 (As := []) (rest := []) F hl (c_X8_beginAct l X w y su ac σ nx sz pas hY hac hL hH) hW hS hY rfl rfl ⟨Nat.le_of_ble_eq_true rfl, Nat.le_of_ble_eq_true rfl⟩ (Nat.le_of_ble_eq_true rfl) ⟨Nat.zero_le _, Nat.zero_le _⟩ dX8_doLook_9 (fun w2 H locs hp3 hW hS => ?_)
  obtain ⟨ha4, hm9, hn5⟩ := hp3
  have hY := (hn5 _ (by omega) (by omega)).trans hY
  have hO := (hn5 _ (by omega) (by omega)).trans hO
  refine lv_aload_n F.1 F.2.1 dX8_doLook_12 rfl (lv_at hl 1 rfl) ?_
  refine gf_RX8_10 F hW hY rfl dX8_doLook_13 ?_
  refine lv_aload_n F.1 F.2.1 dX8_doLook_16 rfl (lv_at hl 1 rfl) ?_
  refine gf_RX8_10 F hW hY rfl dX8_doLook_17 ?_
  refine gf_RX8_148 F hW hO rfl dX8_doLook_20 ?_
  refine pf_RX8_157 F hW hS hO (Nat.le_of_ble_eq_true rfl) dX8_doLook_23 (fun w6 H locs ho8 hn7 hW hS => ?_)
  have ho8 : w6 (y + 1) = some (.inr (5, [.ref (y + 1 + 1), .ref (y + 1 + 3), .ref (y + 1 + 5), .ref (y + 1 + 6), .ref (y + 1 + 7), .int (iI (σ 5)), .int (iI (σ 0)), .int (iI (σ 1)), .int (iI (σ 4)), .int (iI (σ 4)), .int (iI (σ 2))])) := ho8
  have hY := (hn7 _ (by omega)).trans hY
  have ha4 := (hn7 _ (by omega)).trans ha4
  refine lv_aload_n F.1 F.2.1 dX8_doLook_26 rfl (lv_at hl 1 rfl) ?_
  have hL2 := loomAt_fld (hL.mv (fun q h1 h2 => hn5 q (by omega) (by omega))) 3 (σ 4) (by decide) ho8 hn7 (WF_fld hwf 3 (σ 4) (by omega) (fun z => absurd z (by decide)))
  refine gf_RX8_10 F hW hY rfl dX8_doLook_27 ?_
  refine cl_RX8_264 (As := []) (rest := []) F hl (c_X5_seenMistakes l X w6 (y + 1) (up σ 3 (σ 4)) hL2) hW hS ho8 rfl rfl ⟨Nat.le_of_ble_eq_true rfl, Nat.le_of_ble_eq_true rfl⟩ (Nat.le_of_ble_eq_true rfl) ⟨Nat.zero_le _, Nat.zero_le _⟩ dX8_doLook_30 (fun w1 H locs hp9 hW hS => ?_)
  rw [hp9] at hW; clear hp9; clear w1
  refine lv_iload_n F.1 F.2.1 dX8_doLook_33 rfl (lv_at hl 0 rfl) ?_
  refine h_isub (a := misSeen (up σ 3 (σ 4))) (b := misSeen σ) F dX8_doLook_34 ?_
  refine h_top (show ((misSeen (up σ 3 (σ 4))) - (misSeen σ) : Int) = misSeen (up σ 3 (σ 4)) - misSeen σ from by first | rfl | omega | (simp_all; done)) ?_
  exact h_ireti F hr hlk hW hS ⟨ha4, hm9.mv (fun q h1 h2 => hn7 q (by omega)), hL2, (fun q h09 h19 h29 => by rw [hn7 q (by omega), hn5 q (by omega) (by omega)])⟩ dX8_doLook_35
set_option maxHeartbeats 4000000 in
set_option maxRecDepth 100000 in
theorem c_X8_isWordOfText (l : Launch) (X : Cx) (w : Wo) (y : Nat) (su N : Int) (fb : Int → Int) (hY : clO X w y su) (hB : w (y + 307) = some (.inr (0, [.ref (y + 308), .int (iI N)]))) (hT : w (y + 308) = some (aZ X 400 fb)) (hN : 0 ≤ N ∧ N ≤ 400) (hfb : ∀ i, 0 ≤ i → i < N → 0 ≤ fb i ∧ fb i ≤ 255) : CM l X yX8_isWordOfText cX8_isWordOfText 2 (some (.boolean)) (rmk 1 21) [.ref y] w (some (.int (iI (bz (decide (1 ≤ N ∧ N ≤ 8) && al (fun i => decide (97 ≤ fb i ∧ fb i ≤ 122)) 0 N))))) (fun w' => w' = w) := by
  refine CM.of (lv := [(0, .ref y)]) (by decide) (Nat.le_of_ble_eq_true rfl) rfl (fun p e s m below meth c ls F hr hlk hin hW hS hl => ?_)
  have hZ0 := hW.2.2
  have hB9 := hW.1.2
  clear hin
  unfold clO at hY
  refine lv_aload_n F.1 F.2.1 dX8_isWordOfText_0 rfl (lv_at hl 0 rfl) ?_
  refine gf_RX8_49 F hW hY rfl dX8_isWordOfText_1 ?_
  refine cl_RX8_81 (As := []) (rest := []) F hl (c_X0_size l X w (y + 307) (y + 308) N fb hB hT) hW hS hB rfl rfl ⟨Nat.le_of_ble_eq_true rfl, Nat.le_of_ble_eq_true rfl⟩ (Nat.le_of_ble_eq_true rfl) ⟨Nat.zero_le _, Nat.zero_le _⟩ dX8_isWordOfText_4 (fun w1 H locs hp1 hW hS => ?_)
  rw [hp1] at hW; clear hp1; clear w1
  refine h_iconst F dX8_isWordOfText_7 ?_
  refine h_iclt (tgt := 23) F dX8_isWordOfText_8 (by decide) (by omega) (fun c2 => ?_) (fun c2 => ?_)
  · refine h_iconst F dX8_isWordOfText_23 ?_
    refine h_top (show (0 : Int) = bz (decide (1 ≤ N ∧ N ≤ 8) && al (fun i => decide (97 ≤ fb i ∧ fb i ≤ 122)) 0 N) from bzf (by rw [decide_eq_false (by omega)]; rfl)) ?_
    exact h_iretz F hr hlk hW hS rfl dX8_isWordOfText_24
  · refine lv_aload_n F.1 F.2.1 dX8_isWordOfText_11 rfl (lv_at hl 0 rfl) ?_
    refine gf_RX8_49 F hW hY rfl dX8_isWordOfText_12 ?_
    refine cl_RX8_81 (As := []) (rest := []) F hl (c_X0_size l X w (y + 307) (y + 308) N fb hB hT) hW hS hB rfl rfl ⟨Nat.le_of_ble_eq_true rfl, Nat.le_of_ble_eq_true rfl⟩ (Nat.le_of_ble_eq_true rfl) ⟨Nat.zero_le _, Nat.zero_le _⟩ dX8_isWordOfText_15 (fun w1 H locs hp3 hW hS => ?_)
    rw [hp3] at hW; clear hp3; clear w1
    refine h_bipush F dX8_isWordOfText_18 rfl ?_
    refine h_icle (tgt := 25) F dX8_isWordOfText_20 (by decide) (by omega) (fun c4 => ?_) (fun c4 => ?_)
    · refine h_iconst F dX8_isWordOfText_25 ?_
      refine lv_istore_n (lv' := [(1, .int (iI 0)), (0, .ref y)]) F.1 F.2.1 dX8_isWordOfText_26 rfl hl (by decide) rfl (fun ls hl => ?_)
      have loop27 : ∀ (n9 : Nat) (i : Int), (hrg : 0 ≤ i ∧ i ≤ N) → (hms : N - i < (n9 : Int)) → (hno : ∀ j, 0 ≤ j → j < i → decide (97 ≤ fb j ∧ fb j ≤ 122) = true) → (H : Heap) → (locs : List Loc) → (ls : Array Slot) → Wd X w s H → va_S (cxA X) s.heap H locs → lv_has ls 2 [(1, .int (iI i)), (0, .ref y)] → W p l e (rmk 1 21) s m (List.toArray [.ref y]) below meth c H locs 0 0 (MX X below (List.toArray [.ref y]) s 0 0 (some (.int (iI (bz (decide (1 ≤ N ∧ N ≤ 8) && al (fun i => decide (97 ≤ fb i ∧ fb i ≤ 122)) 0 N))))) (fun w' => w' = w)) (F0 m 27 ls []) := by
        intro n9
        induction n9 with
        | zero => intro i  hrg hms; exfalso; omega
        | succ n9 ih27 =>
          intro i  hrg hms  hno H locs ls hW hS hl
          refine lv_iload_n F.1 F.2.1 dX8_isWordOfText_27 rfl (lv_at hl 0 rfl) ?_
          refine lv_aload_n F.1 F.2.1 dX8_isWordOfText_28 rfl (lv_at hl 1 rfl) ?_
          refine gf_RX8_49 F hW hY rfl dX8_isWordOfText_29 ?_
          refine cl_RX8_81 (As := []) (rest := [.int (iI i)]) F hl (c_X0_size l X w (y + 307) (y + 308) N fb hB hT) hW hS hB rfl rfl ⟨Nat.le_of_ble_eq_true rfl, Nat.le_of_ble_eq_true rfl⟩ (Nat.le_of_ble_eq_true rfl) ⟨Nat.zero_le _, Nat.zero_le _⟩ dX8_isWordOfText_32 (fun w1 H locs hp5 hW hS => ?_)
          rw [hp5] at hW; clear hp5; clear w1
          refine h_icge (tgt := 60) F dX8_isWordOfText_35 (by decide) (by omega) (fun c6 => ?_) (fun c6 => ?_)
          · refine h_iconst F dX8_isWordOfText_60 ?_
            refine h_top (show (1 : Int) = bz (decide (1 ≤ N ∧ N ≤ 8) && al (fun i => decide (97 ≤ fb i ∧ fb i ≤ 122)) 0 N) from bzt (by rw [decide_eq_true (by omega)]; exact al_iff.mpr (fun j h1 h2 => hno j h1 (by omega)))) ?_
            exact h_iretz F hr hlk hW hS rfl dX8_isWordOfText_61
          · refine lv_aload_n F.1 F.2.1 dX8_isWordOfText_38 rfl (lv_at hl 1 rfl) ?_
            refine gf_RX8_49 F hW hY rfl dX8_isWordOfText_39 ?_
            refine lv_iload_n F.1 F.2.1 dX8_isWordOfText_42 rfl (lv_at hl 0 rfl) ?_
            refine cl_RX8_419 (As := [.int (iI i)]) (rest := []) F hl (c_X0_byteAt l X w (y + 307) (y + 308) N fb i hB hT (by omega) (by omega)) hW hS hB rfl rfl ⟨Nat.le_of_ble_eq_true rfl, Nat.le_of_ble_eq_true rfl⟩ (Nat.le_of_ble_eq_true rfl) ⟨Nat.zero_le _, Nat.zero_le _⟩ dX8_isWordOfText_43 (fun w1 H locs hp7 hW hS => ?_)
            rw [hp7] at hW; clear hp7; clear w1
            refine h_top (show (byS fb N i : Int) = fb i from by unfold byS; exact if_pos (by omega)) ?_
            have hbi := hfb i (by omega) (by omega)
            refine cl_RX8_454 (As := [.int (iI (fb i))]) (rest := []) F hl (c_X8_isLetter l X w (fb i) (by omega)) hW hS rfl rfl ⟨Nat.le_of_ble_eq_true rfl, Nat.le_of_ble_eq_true rfl⟩ (Nat.le_of_ble_eq_true rfl) ⟨Nat.zero_le _, Nat.zero_le _⟩ dX8_isWordOfText_46 (fun w1 H locs hp8 hW hS => ?_)
            rw [hp8] at hW; clear hp8; clear w1
            refine h_ifneb (tgt := 54) F dX8_isWordOfText_49 (by decide) (fun c9 => ?_) (fun c9 => ?_)
            · have c9d := of_decide_eq_true c9
              refine h_iinc (k := 0) (a := i) (lv' := [(1, .int (iI (i + 1))), (0, .ref y)]) F dX8_isWordOfText_54 hl rfl (by decide) rfl (fun ls hl => ?_)
              refine h_goto (tgt := 27) F dX8_isWordOfText_57 (by decide) ?_
              have eq10 : ((i + 1) : Int) = i + 1 := by first | rfl | omega | simp
              exact ih27 (i + 1)  (by omega) (by omega)  (fun j h1 h2 => (by by_cases hj : j = i; (rw [hj]; exact decide_eq_true ‹_›); exact hno j h1 (by omega))) _ _ ls hW hS (by rw [eq10]; exact lv_sub hl [0, 1] rfl)
            · have c9d := of_decide_eq_false c9
              refine h_iconst F dX8_isWordOfText_52 ?_
              refine h_top (show (0 : Int) = bz (decide (1 ≤ N ∧ N ≤ 8) && al (fun i => decide (97 ≤ fb i ∧ fb i ≤ 122)) 0 N) from bzf (by rw [Bool.and_eq_false_iff]; right; rw [← Bool.not_eq_true, al_iff]; intro g; exact absurd (of_decide_eq_true (g i (by omega) (by omega))) ‹_›)) ?_
              exact h_iretz F hr hlk hW hS rfl dX8_isWordOfText_53
      exact loop27 ((N - 0) + 1 : Int).toNat 0  (by omega) (by omega)  (fun j h1 h2 => by omega) _ _ ls hW hS (lv_sub hl [0, 1] rfl)
    · refine h_iconst F dX8_isWordOfText_23 ?_
      refine h_top (show (0 : Int) = bz (decide (1 ≤ N ∧ N ≤ 8) && al (fun i => decide (97 ≤ fb i ∧ fb i ≤ 122)) 0 N) from bzf (by rw [decide_eq_false (by omega)]; rfl)) ?_
      exact h_iretz F hr hlk hW hS rfl dX8_isWordOfText_24
