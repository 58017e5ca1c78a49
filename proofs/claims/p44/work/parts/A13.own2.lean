set_option maxHeartbeats 4000000 in
set_option maxRecDepth 100000 in
theorem c_X10_wrong (l : Launch) (X : Cx) (w : Wo) (h : Nat) (σ : Int → Int) (x9 y9 : Int) (hO : ownA X w h σ) (hcx : 0 ≤ x9 ∧ x9 < σ 0) (hry : 0 ≤ y9 ∧ y9 < σ 1) : CM l X yX10_wrong cX10_wrong 3 (some (.boolean)) (rmG 6 1 4 134) [.ref h, .int (iI x9), .int (iI y9)] w (some (.int (iI (bz (misS σ x9 y9))))) (fun w' => w' = w) := by
  refine CM.of (lv := [(0, .ref h), (1, .int (iI x9)), (2, .int (iI y9))]) (by decide) (Nat.le_of_ble_eq_true rfl) rfl (fun p e s m below meth c ls F hr hlk hin hW hS hl => ?_)
  have hZ0 := hW.2.2
  have hB9 := hW.1.2
  clear hin
  have hO0 := hO
  obtain ⟨st, lc, ec, lr, er, mc, mr, kc, kr, gc, gr, cd, rwa, fs, nr, wh, h1, ⟨h2, h2f⟩, ⟨h3, h3e, h3k, h3l⟩, hck, ⟨h4, h4e, h4k, h4l⟩, hrr, ⟨hnr, hwh, hem⟩, ⟨hWF, hw0, hw1⟩, hst, hinj, hcj, hlne, hene⟩ := hO
  obtain ⟨wf0, wf1, wf2, wf3, wf4, wf5⟩ := hWF.1
  have hnc := nr_cases hnr wf4.2
  have hcr := (hWF.2.2.2.1 x9 y9 hcx.1 hcx.2 hry.1 hry.2)
  have hdr := desS_r hWF x9 y9
  refine lv_iload_n F.1 F.2.1 dX10_wrong_0 rfl (lv_at hl 2 rfl) ?_
  refine lv_aload_n F.1 F.2.1 dX10_wrong_1 rfl (lv_at hl 0 rfl) ?_
  refine cl_RX10_100 (As := []) (rest := [.int (iI y9)]) F hl (c_X10_rows l X w h σ hO0) hW hS h1 rfl rfl ⟨Nat.le_of_ble_eq_true rfl, Nat.le_of_ble_eq_true rfl⟩ (Nat.le_of_ble_eq_true rfl) ⟨(by show 0 + 0 ≤ 1; omega), (by show 0 + 0 ≤ 4; omega)⟩ dX10_wrong_2 (fun w1 H locs hp1 hW hS => ?_)
  rw [hp1] at hW; clear hp1; clear w1
  refine h_icge (tgt := 27) F dX10_wrong_5 (by decide) (by omega) (fun c2 => ?_) (fun c2 => ?_)
  · have hz9 := c2
    refine h_iconst F dX10_wrong_27 ?_
    refine W.wd (mc := 1) (ms := 4) (by omega) (by omega) ?_
    refine h_top (show (0 : Int) = bz (misS σ x9 y9) from bzf (by unfold misS; rw [decide_eq_false (by omega)]; rfl)) ?_
    exact h_iretz F hr hlk hW hS rfl dX10_wrong_28
  · refine lv_aload_n F.1 F.2.1 dX10_wrong_8 rfl (lv_at hl 0 rfl) ?_
    refine lv_iload_n F.1 F.2.1 dX10_wrong_9 rfl (lv_at hl 1 rfl) ?_
    refine lv_iload_n F.1 F.2.1 dX10_wrong_10 rfl (lv_at hl 2 rfl) ?_
    refine cl_RX10_103 (As := [.int (iI x9), .int (iI y9)]) (rest := []) F hl (c_X10_at l X w h σ x9 y9 hO0 (by omega) (by omega)) hW hS h1 rfl rfl ⟨Nat.le_of_ble_eq_true rfl, Nat.le_of_ble_eq_true rfl⟩ (Nat.le_of_ble_eq_true rfl) ⟨(by show 0 + 0 + 0 ≤ 1; omega), (by show 0 + 0 + 0 ≤ 4; omega)⟩ dX10_wrong_11 (fun w1 H locs hp3 hW hS => ?_)
    rw [hp3] at hW; clear hp3; clear w1
    refine lv_aload_n F.1 F.2.1 dX10_wrong_14 rfl (lv_at hl 0 rfl) ?_
    refine lv_iload_n F.1 F.2.1 dX10_wrong_15 rfl (lv_at hl 1 rfl) ?_
    refine lv_iload_n F.1 F.2.1 dX10_wrong_16 rfl (lv_at hl 2 rfl) ?_
    refine cl_RX10_107 (As := [.int (iI x9), .int (iI y9)]) (rest := [.int (iI (cellS σ x9 y9))]) F hl (c_X10_design l X w h σ x9 y9 hO0 (by omega) (by omega)) hW hS h1 rfl rfl ⟨Nat.le_of_ble_eq_true rfl, Nat.le_of_ble_eq_true rfl⟩ (Nat.le_of_ble_eq_true rfl) ⟨(by show 0 + 0 + 0 + 1 ≤ 1; omega), (by show 0 + 0 + 0 + 4 ≤ 4; omega)⟩ dX10_wrong_17 (fun w1 H locs hp4 hW hS => ?_)
    rw [hp4] at hW; clear hp4; clear w1
    refine h_iceq (tgt := 27) F dX10_wrong_20 (by decide) (by omega) (fun c5 => ?_) (fun c5 => ?_)
    · have hz9 := c5
      refine h_iconst F dX10_wrong_27 ?_
      refine W.wd (mc := 1) (ms := 4) (by omega) (by omega) ?_
      refine h_top (show (0 : Int) = bz (misS σ x9 y9) from bzf (by unfold misS; rw [decide_eq_false (p := cellS σ x9 y9 ≠ desS σ x9 y9) (by omega)]; exact Bool.and_false _)) ?_
      exact h_iretz F hr hlk hW hS rfl dX10_wrong_28
    · have hz9 := c5
      refine h_iconst F dX10_wrong_23 ?_
      refine h_goto (tgt := 28) F dX10_wrong_24 (by decide) ?_
      refine W.wd (mc := 1) (ms := 4) (by omega) (by omega) ?_
      refine h_top (show (1 : Int) = bz (misS σ x9 y9) from bzt (by unfold misS; rw [decide_eq_true (p := y9 < σ 4) (by omega), decide_eq_true (p := cellS σ x9 y9 ≠ desS σ x9 y9) (by omega)]; rfl)) ?_
      exact h_iretz F hr hlk hW hS rfl dX10_wrong_28
set_option maxHeartbeats 4000000 in
set_option maxRecDepth 100000 in
theorem c_X10_wrongs (l : Launch) (X : Cx) (w : Wo) (h : Nat) (σ : Int → Int) (y9 : Int) (hO : ownA X w h σ) (hry : 0 ≤ y9 ∧ y9 < σ 1) : CM l X yX10_wrongs cX10_wrongs 4 (some (.int)) (rmG 7 19 76 156) [.ref h, .int (iI y9)] w (some (.int (iI (misRow σ y9)))) (fun w' => w' = w) := by
  refine CM.of (lv := [(0, .ref h), (1, .int (iI y9))]) (by decide) (Nat.le_of_ble_eq_true rfl) rfl (fun p e s m below meth c ls F hr hlk hin hW hS hl => ?_)
  have hZ0 := hW.2.2
  have hB9 := hW.1.2
  clear hin
  have hO0 := hO
  obtain ⟨st, lc, ec, lr, er, mc, mr, kc, kr, gc, gr, cd, rwa, fs, nr, wh, h1, ⟨h2, h2f⟩, ⟨h3, h3e, h3k, h3l⟩, hck, ⟨h4, h4e, h4k, h4l⟩, hrr, ⟨hnr, hwh, hem⟩, ⟨hWF, hw0, hw1⟩, hst, hinj, hcj, hlne, hene⟩ := hO
  obtain ⟨wf0, wf1, wf2, wf3, wf4, wf5⟩ := hWF.1
  have hnc := nr_cases hnr wf4.2
  refine h_iconst F dX10_wrongs_0 ?_
  refine lv_istore_n (lv' := [(2, .int (iI 0)), (0, .ref h), (1, .int (iI y9))]) F.1 F.2.1 dX10_wrongs_1 rfl hl (by decide) rfl (fun ls hl => ?_)
  refine h_iconst F dX10_wrongs_2 ?_
  refine lv_istore_n (lv' := [(3, .int (iI 0)), (2, .int (iI 0)), (0, .ref h), (1, .int (iI y9))]) F.1 F.2.1 dX10_wrongs_3 rfl hl (by decide) rfl (fun ls hl => ?_)
  have loop4 : ∀ (n9 : Nat) (k : Int) (kc4 ks4 : Nat), (hrg : 0 ≤ k ∧ k ≤ σ 0) → (hms : σ 0 - k < (n9 : Int)) → (hkc4 : ((kc4 : Nat) : Int) ≤ ((0 : Nat) : Int) + 1 * k) → (hks4 : ((ks4 : Nat) : Int) ≤ ((0 : Nat) : Int) + 4 * k) → (H : Heap) → (locs : List Loc) → (ls : Array Slot) → Wd X w s H → va_S (cxA X) s.heap H locs → lv_has ls 4 [(2, .int (iI (cnt (fun z => misS σ z y9) 0 k))), (3, .int (iI k)), (0, .ref h), (1, .int (iI y9))] → W p l e (rmG 7 19 76 156) s m (List.toArray [.ref h, .int (iI y9)]) below meth c H locs kc4 ks4 (MX X below (List.toArray [.ref h, .int (iI y9)]) s 19 76 (some (.int (iI (misRow σ y9)))) (fun w' => w' = w)) (F0 m 4 ls []) := by
    intro n9
    induction n9 with
    | zero => intro k kc4 ks4  hrg hms; exfalso; omega
    | succ n9 ih4 =>
      intro k kc4 ks4  hrg hms  hkc4 hks4 H locs ls hW hS hl
      refine lv_iload_n F.1 F.2.1 dX10_wrongs_4 rfl (lv_at hl 1 rfl) ?_
      refine lv_aload_n F.1 F.2.1 dX10_wrongs_5 rfl (lv_at hl 2 rfl) ?_
      refine gf_RX10_27 F hW h1 rfl dX10_wrongs_6 ?_
      refine h_icge (tgt := 35) F dX10_wrongs_9 (by decide) (by omega) (fun c1 => ?_) (fun c1 => ?_)
      · refine lv_iload_n F.1 F.2.1 dX10_wrongs_35 rfl (lv_at hl 0 rfl) ?_
        refine W.wd (mc := 19) (ms := 76) (by omega) (by omega) ?_
        refine h_top (show (cnt (fun z => misS σ z y9) 0 k : Int) = misRow σ y9 from by rw [show k = σ 0 by omega]; rfl) ?_
        exact h_ireti F hr hlk hW hS rfl dX10_wrongs_36
      · refine lv_iload_n F.1 F.2.1 dX10_wrongs_12 rfl (lv_at hl 0 rfl) ?_
        refine lv_aload_n F.1 F.2.1 dX10_wrongs_13 rfl (lv_at hl 2 rfl) ?_
        refine lv_iload_n F.1 F.2.1 dX10_wrongs_14 rfl (lv_at hl 1 rfl) ?_
        refine lv_iload_n F.1 F.2.1 dX10_wrongs_15 rfl (lv_at hl 3 rfl) ?_
        refine cl_RX10_110 (As := [.int (iI k), .int (iI y9)]) (rest := [.int (iI (cnt (fun z => misS σ z y9) 0 k))]) F hl (c_X10_wrong l X w h σ k y9 hO0 (by omega) (by omega)) hW hS h1 rfl rfl ⟨Nat.le_of_ble_eq_true rfl, Nat.le_of_ble_eq_true rfl⟩ (Nat.le_of_ble_eq_true rfl) ⟨(by show kc4 + 1 ≤ 19; omega), (by show ks4 + 4 ≤ 76; omega)⟩ dX10_wrongs_16 (fun w1 H locs hp2 hW hS => ?_)
        rw [hp2] at hW; clear hp2; clear w1
        refine h_ifeqb (tgt := 26) F dX10_wrongs_19 (by decide) (fun c3 => ?_) (fun c3 => ?_)
        · have hst9 : cnt (fun z => misS σ z y9) 0 (k + 1) = cnt (fun z => misS σ z y9) 0 k + 0 := by rw [cnt_f (p := fun z => misS σ z y9) (by omega) c3]; omega
          refine h_iconst F dX10_wrongs_26 ?_
          refine h_iadd (a := cnt (fun z => misS σ z y9) 0 k) (b := 0) F dX10_wrongs_27 ?_
          refine lv_istore_n (lv' := [(2, .int (iI ((cnt (fun z => misS σ z y9) 0 k) + 0))), (3, .int (iI k)), (0, .ref h), (1, .int (iI y9))]) F.1 F.2.1 dX10_wrongs_28 rfl hl (by decide) rfl (fun ls hl => ?_)
          refine h_iinc (k := 1) (a := k) (lv' := [(3, .int (iI (k + 1))), (2, .int (iI ((cnt (fun z => misS σ z y9) 0 k) + 0))), (0, .ref h), (1, .int (iI y9))]) F dX10_wrongs_29 hl rfl (by decide) rfl (fun ls hl => ?_)
          refine h_goto (tgt := 4) F dX10_wrongs_32 (by decide) ?_
          have eq4 : (cnt (fun z => misS σ z y9) 0 (k + 1) : Int) = (cnt (fun z => misS σ z y9) 0 k) + 0 := hst9
          have eq5 : ((k + 1) : Int) = k + 1 := by first | rfl | omega | simp
          exact ih4 (k + 1) (kc4 + 1) (ks4 + 4)  (by omega) (by omega)  (by omega) (by omega) _ _ ls hW hS (by rw [eq4, eq5]; exact lv_sub hl [1, 0, 2, 3] rfl)
        · have hst9 : cnt (fun z => misS σ z y9) 0 (k + 1) = cnt (fun z => misS σ z y9) 0 k + 1 := cnt_t (p := fun z => misS σ z y9) (by omega) c3
          refine h_iconst F dX10_wrongs_22 ?_
          refine h_goto (tgt := 27) F dX10_wrongs_23 (by decide) ?_
          refine h_iadd (a := cnt (fun z => misS σ z y9) 0 k) (b := 1) F dX10_wrongs_27 ?_
          refine lv_istore_n (lv' := [(2, .int (iI ((cnt (fun z => misS σ z y9) 0 k) + 1))), (3, .int (iI k)), (0, .ref h), (1, .int (iI y9))]) F.1 F.2.1 dX10_wrongs_28 rfl hl (by decide) rfl (fun ls hl => ?_)
          refine h_iinc (k := 1) (a := k) (lv' := [(3, .int (iI (k + 1))), (2, .int (iI ((cnt (fun z => misS σ z y9) 0 k) + 1))), (0, .ref h), (1, .int (iI y9))]) F dX10_wrongs_29 hl rfl (by decide) rfl (fun ls hl => ?_)
          refine h_goto (tgt := 4) F dX10_wrongs_32 (by decide) ?_
          have eq6 : (cnt (fun z => misS σ z y9) 0 (k + 1) : Int) = (cnt (fun z => misS σ z y9) 0 k) + 1 := hst9
          have eq7 : ((k + 1) : Int) = k + 1 := by first | rfl | omega | simp
          exact ih4 (k + 1) (kc4 + 1) (ks4 + 4)  (by omega) (by omega)  (by omega) (by omega) _ _ ls hW hS (by rw [eq6, eq7]; exact lv_sub hl [1, 0, 2, 3] rfl)
  have eq8 : (cnt (fun z => misS σ z y9) 0 0 : Int) = 0 := cnt_0 _ _
  exact loop4 ((σ 0 - 0) + 1 : Int).toNat 0 (0) (0)   (by omega) (by omega)  (by omega) (by omega) _ _ ls hW hS (by rw [eq8]; exact lv_sub hl [1, 0, 2, 3] rfl)
set_option maxHeartbeats 4000000 in
set_option maxRecDepth 100000 in
theorem c_X10_seen (l : Launch) (X : Cx) (w : Wo) (h : Nat) (σ : Int → Int) (y9 : Int) (hO : ownA X w h σ) (hry : 0 ≤ y9 ∧ y9 < σ 1) : CM l X yX10_seen cX10_seen 2 (some (.boolean)) (rmG 2 0 0 40) [.ref h, .int (iI y9)] w (some (.int (iI (bz (seenS σ y9))))) (fun w' => w' = w) := by
  refine CM.of (lv := [(0, .ref h), (1, .int (iI y9))]) (by decide) (Nat.le_of_ble_eq_true rfl) rfl (fun p e s m below meth c ls F hr hlk hin hW hS hl => ?_)
  have hZ0 := hW.2.2
  have hB9 := hW.1.2
  clear hin
  have hO0 := hO
  obtain ⟨st, lc, ec, lr, er, mc, mr, kc, kr, gc, gr, cd, rwa, fs, nr, wh, h1, ⟨h2, h2f⟩, ⟨h3, h3e, h3k, h3l⟩, hck, ⟨h4, h4e, h4k, h4l⟩, hrr, ⟨hnr, hwh, hem⟩, ⟨hWF, hw0, hw1⟩, hst, hinj, hcj, hlne, hene⟩ := hO
  obtain ⟨wf0, wf1, wf2, wf3, wf4, wf5⟩ := hWF.1
  have hnc := nr_cases hnr wf4.2
  refine lv_iload_n F.1 F.2.1 dX10_seen_0 rfl (lv_at hl 1 rfl) ?_
  refine lv_aload_n F.1 F.2.1 dX10_seen_1 rfl (lv_at hl 0 rfl) ?_
  refine gf_RX10_113 F hW h1 rfl dX10_seen_2 ?_
  refine h_iclt (tgt := 21) F dX10_seen_5 (by decide) (by omega) (fun c1 => ?_) (fun c1 => ?_)
  · refine h_iconst F dX10_seen_21 ?_
    refine h_goto (tgt := 26) F dX10_seen_22 (by decide) ?_
    refine h_top (show (1 : Int) = bz (seenS σ y9) from bzt (by unfold seenS; rw [Bool.or_eq_true, decide_eq_true_eq, decide_eq_true_eq]; omega)) ?_
    exact h_iretz F hr hlk hW hS rfl dX10_seen_26
  · refine lv_iload_n F.1 F.2.1 dX10_seen_8 rfl (lv_at hl 1 rfl) ?_
    refine lv_aload_n F.1 F.2.1 dX10_seen_9 rfl (lv_at hl 0 rfl) ?_
    refine gf_RX10_7 F hW h1 rfl dX10_seen_10 ?_
    refine h_iadd (a := y9) (b := σ 2) F dX10_seen_13 ?_
    refine lv_aload_n F.1 F.2.1 dX10_seen_14 rfl (lv_at hl 0 rfl) ?_
    refine cl_RX10_100 (As := []) (rest := [.int (iI (y9 + (σ 2)))]) F hl (c_X10_rows l X w h σ hO0) hW hS h1 rfl rfl ⟨Nat.le_of_ble_eq_true rfl, Nat.le_of_ble_eq_true rfl⟩ (Nat.le_of_ble_eq_true rfl) ⟨(by show 0 + 0 ≤ 0; omega), (by show 0 + 0 ≤ 0; omega)⟩ dX10_seen_15 (fun w1 H locs hp2 hW hS => ?_)
    rw [hp2] at hW; clear hp2; clear w1
    refine h_icge (tgt := 25) F dX10_seen_18 (by decide) (by omega) (fun c3 => ?_) (fun c3 => ?_)
    · refine h_iconst F dX10_seen_25 ?_
      refine h_top (show (0 : Int) = bz (seenS σ y9) from bzf (by unfold seenS; rw [Bool.or_eq_false_iff, decide_eq_false_iff_not, decide_eq_false_iff_not]; omega)) ?_
      exact h_iretz F hr hlk hW hS rfl dX10_seen_26
    · refine h_iconst F dX10_seen_21 ?_
      refine h_goto (tgt := 26) F dX10_seen_22 (by decide) ?_
      refine h_top (show (1 : Int) = bz (seenS σ y9) from bzt (by unfold seenS; rw [Bool.or_eq_true, decide_eq_true_eq, decide_eq_true_eq]; omega)) ?_
      exact h_iretz F hr hlk hW hS rfl dX10_seen_26
set_option maxHeartbeats 4000000 in
set_option maxRecDepth 100000 in
theorem c_X10_allWrong (l : Launch) (X : Cx) (w : Wo) (h : Nat) (σ : Int → Int) (b9 : Bool) (hO : ownA X w h σ) : CM l X yX10_allWrong cX10_allWrong 4 (some (.int)) (rmG 8 247 988 179) [.ref h, .int (iI (bz b9))] w (some (.int (iI (if b9 then misSeen σ else misFrom σ 0)))) (fun w' => w' = w) := by
  refine CM.of (lv := [(0, .ref h), (1, .int (iI (bz b9)))]) (by decide) (Nat.le_of_ble_eq_true rfl) rfl (fun p e s m below meth c ls F hr hlk hin hW hS hl => ?_)
  have hZ0 := hW.2.2
  have hB9 := hW.1.2
  clear hin
  have hO0 := hO
  obtain ⟨st, lc, ec, lr, er, mc, mr, kc, kr, gc, gr, cd, rwa, fs, nr, wh, h1, ⟨h2, h2f⟩, ⟨h3, h3e, h3k, h3l⟩, hck, ⟨h4, h4e, h4k, h4l⟩, hrr, ⟨hnr, hwh, hem⟩, ⟨hWF, hw0, hw1⟩, hst, hinj, hcj, hlne, hene⟩ := hO
  obtain ⟨wf0, wf1, wf2, wf3, wf4, wf5⟩ := hWF.1
  have hnc := nr_cases hnr wf4.2
  refine h_iconst F dX10_allWrong_0 ?_
  refine lv_istore_n (lv' := [(2, .int (iI 0)), (0, .ref h), (1, .int (iI (bz b9)))]) F.1 F.2.1 dX10_allWrong_1 rfl hl (by decide) rfl (fun ls hl => ?_)
  refine h_iconst F dX10_allWrong_2 ?_
  refine lv_istore_n (lv' := [(3, .int (iI 0)), (2, .int (iI 0)), (0, .ref h), (1, .int (iI (bz b9)))]) F.1 F.2.1 dX10_allWrong_3 rfl hl (by decide) rfl (fun ls hl => ?_)
  have loop4 : ∀ (n9 : Nat) (k : Int) (kc4 ks4 : Nat), (hrg : 0 ≤ k ∧ k ≤ σ 4) → (hms : σ 4 - k < (n9 : Int)) → (hkc4 : ((kc4 : Nat) : Int) ≤ ((0 : Nat) : Int) + 19 * k) → (hks4 : ((ks4 : Nat) : Int) ≤ ((0 : Nat) : Int) + 76 * k) → (H : Heap) → (locs : List Loc) → (ls : Array Slot) → Wd X w s H → va_S (cxA X) s.heap H locs → lv_has ls 4 [(2, .int (iI (awS σ b9 k))), (3, .int (iI k)), (0, .ref h), (1, .int (iI (bz b9)))] → W p l e (rmG 8 247 988 179) s m (List.toArray [.ref h, .int (iI (bz b9))]) below meth c H locs kc4 ks4 (MX X below (List.toArray [.ref h, .int (iI (bz b9))]) s 247 988 (some (.int (iI (if b9 then misSeen σ else misFrom σ 0)))) (fun w' => w' = w)) (F0 m 4 ls []) := by
    intro n9
    induction n9 with
    | zero => intro k kc4 ks4  hrg hms; exfalso; omega
    | succ n9 ih4 =>
      intro k kc4 ks4  hrg hms  hkc4 hks4 H locs ls hW hS hl
      refine lv_iload_n F.1 F.2.1 dX10_allWrong_4 rfl (lv_at hl 1 rfl) ?_
      refine lv_aload_n F.1 F.2.1 dX10_allWrong_5 rfl (lv_at hl 2 rfl) ?_
      refine cl_RX10_100 (As := []) (rest := [.int (iI k)]) F hl (c_X10_rows l X w h σ hO0) hW hS h1 rfl rfl ⟨Nat.le_of_ble_eq_true rfl, Nat.le_of_ble_eq_true rfl⟩ (Nat.le_of_ble_eq_true rfl) ⟨(by show kc4 + 0 ≤ 247; omega), (by show ks4 + 0 ≤ 988; omega)⟩ dX10_allWrong_6 (fun w1 H locs hp1 hW hS => ?_)
      rw [hp1] at hW; clear hp1; clear w1
      refine h_icge (tgt := 42) F dX10_allWrong_9 (by decide) (by omega) (fun c2 => ?_) (fun c2 => ?_)
      · refine lv_iload_n F.1 F.2.1 dX10_allWrong_42 rfl (lv_at hl 0 rfl) ?_
        refine W.wd (mc := 247) (ms := 988) (by omega) (by omega) ?_
        refine h_top (show (awS σ b9 k : Int) = (if b9 then misSeen σ else misFrom σ 0) from by rw [show k = σ 4 by omega]; cases b9 <;> rfl) ?_
        exact h_ireti F hr hlk hW hS rfl dX10_allWrong_43
      · refine lv_iload_n F.1 F.2.1 dX10_allWrong_12 rfl (lv_at hl 0 rfl) ?_
        refine lv_iload_n F.1 F.2.1 dX10_allWrong_13 rfl (lv_at hl 3 rfl) ?_
        refine h_ifeqb (tgt := 29) F dX10_allWrong_14 (by decide) (fun c3 => ?_) (fun c3 => ?_)
        · have hst9 : awS σ b9 (k + 1) = awS σ b9 k + misRow σ k := by unfold awS; rw [sm_s _ (by omega), c3]; rfl
          refine lv_aload_n F.1 F.2.1 dX10_allWrong_29 rfl (lv_at hl 2 rfl) ?_
          refine lv_iload_n F.1 F.2.1 dX10_allWrong_30 rfl (lv_at hl 1 rfl) ?_
          refine cl_RX10_120 (As := [.int (iI k)]) (rest := [.int (iI (awS σ b9 k))]) F hl (c_X10_wrongs l X w h σ k hO0 (by omega)) hW hS h1 rfl rfl ⟨Nat.le_of_ble_eq_true rfl, Nat.le_of_ble_eq_true rfl⟩ (Nat.le_of_ble_eq_true rfl) ⟨(by show kc4 + 0 + 19 ≤ 247; omega), (by show ks4 + 0 + 76 ≤ 988; omega)⟩ dX10_allWrong_31 (fun w1 H locs hp4 hW hS => ?_)
          rw [hp4] at hW; clear hp4; clear w1
          refine h_iadd (a := awS σ b9 k) (b := misRow σ k) F dX10_allWrong_34 ?_
          refine lv_istore_n (lv' := [(2, .int (iI ((awS σ b9 k) + (misRow σ k)))), (3, .int (iI k)), (0, .ref h), (1, .int (iI (bz b9)))]) F.1 F.2.1 dX10_allWrong_35 rfl hl (by decide) rfl (fun ls hl => ?_)
          refine h_iinc (k := 1) (a := k) (lv' := [(3, .int (iI (k + 1))), (2, .int (iI ((awS σ b9 k) + (misRow σ k)))), (0, .ref h), (1, .int (iI (bz b9)))]) F dX10_allWrong_36 hl rfl (by decide) rfl (fun ls hl => ?_)
          refine h_goto (tgt := 4) F dX10_allWrong_39 (by decide) ?_
          have eq5 : (awS σ b9 (k + 1) : Int) = (awS σ b9 k) + (misRow σ k) := hst9
          have eq6 : ((k + 1) : Int) = k + 1 := by first | rfl | omega | simp
          exact ih4 (k + 1) (kc4 + 0 + 19) (ks4 + 0 + 76)  (by omega) (by omega)  (by omega) (by omega) _ _ ls hW hS (by rw [eq5, eq6]; exact lv_sub hl [1, 0, 2, 3] rfl)
        · have hb9t := c3
          refine lv_aload_n F.1 F.2.1 dX10_allWrong_17 rfl (lv_at hl 2 rfl) ?_
          refine lv_iload_n F.1 F.2.1 dX10_allWrong_18 rfl (lv_at hl 1 rfl) ?_
          refine cl_RX10_116 (As := [.int (iI k)]) (rest := [.int (iI (awS σ b9 k))]) F hl (c_X10_seen l X w h σ k hO0 (by omega)) hW hS h1 rfl rfl ⟨Nat.le_of_ble_eq_true rfl, Nat.le_of_ble_eq_true rfl⟩ (Nat.le_of_ble_eq_true rfl) ⟨(by show kc4 + 0 + 0 ≤ 247; omega), (by show ks4 + 0 + 0 ≤ 988; omega)⟩ dX10_allWrong_19 (fun w1 H locs hp7 hW hS => ?_)
          rw [hp7] at hW; clear hp7; clear w1
          refine h_ifneb (tgt := 29) F dX10_allWrong_22 (by decide) (fun c8 => ?_) (fun c8 => ?_)
          · have hst9 : awS σ b9 (k + 1) = awS σ b9 k + misRow σ k := by unfold awS; rw [sm_s _ (by omega), c8]; split <;> rfl
            refine lv_aload_n F.1 F.2.1 dX10_allWrong_29 rfl (lv_at hl 2 rfl) ?_
            refine lv_iload_n F.1 F.2.1 dX10_allWrong_30 rfl (lv_at hl 1 rfl) ?_
            refine cl_RX10_120 (As := [.int (iI k)]) (rest := [.int (iI (awS σ b9 k))]) F hl (c_X10_wrongs l X w h σ k hO0 (by omega)) hW hS h1 rfl rfl ⟨Nat.le_of_ble_eq_true rfl, Nat.le_of_ble_eq_true rfl⟩ (Nat.le_of_ble_eq_true rfl) ⟨(by show kc4 + 0 + 0 + 19 ≤ 247; omega), (by show ks4 + 0 + 0 + 76 ≤ 988; omega)⟩ dX10_allWrong_31 (fun w1 H locs hp9 hW hS => ?_)
            rw [hp9] at hW; clear hp9; clear w1
            refine h_iadd (a := awS σ b9 k) (b := misRow σ k) F dX10_allWrong_34 ?_
            refine lv_istore_n (lv' := [(2, .int (iI ((awS σ b9 k) + (misRow σ k)))), (3, .int (iI k)), (0, .ref h), (1, .int (iI (bz b9)))]) F.1 F.2.1 dX10_allWrong_35 rfl hl (by decide) rfl (fun ls hl => ?_)
            refine h_iinc (k := 1) (a := k) (lv' := [(3, .int (iI (k + 1))), (2, .int (iI ((awS σ b9 k) + (misRow σ k)))), (0, .ref h), (1, .int (iI (bz b9)))]) F dX10_allWrong_36 hl rfl (by decide) rfl (fun ls hl => ?_)
            refine h_goto (tgt := 4) F dX10_allWrong_39 (by decide) ?_
            have eq10 : (awS σ b9 (k + 1) : Int) = (awS σ b9 k) + (misRow σ k) := hst9
            have eq11 : ((k + 1) : Int) = k + 1 := by first | rfl | omega | simp
            exact ih4 (k + 1) (kc4 + 0 + 0 + 19) (ks4 + 0 + 0 + 76)  (by omega) (by omega)  (by omega) (by omega) _ _ ls hW hS (by rw [eq10, eq11]; exact lv_sub hl [1, 0, 2, 3] rfl)
          · have hst9 : awS σ b9 (k + 1) = awS σ b9 k + 0 := by unfold awS; rw [sm_s _ (by omega), c8, hb9t]; rfl
            refine h_iconst F dX10_allWrong_25 ?_
            refine h_goto (tgt := 34) F dX10_allWrong_26 (by decide) ?_
            refine h_iadd (a := awS σ b9 k) (b := 0) F dX10_allWrong_34 ?_
            refine lv_istore_n (lv' := [(2, .int (iI ((awS σ b9 k) + 0))), (3, .int (iI k)), (0, .ref h), (1, .int (iI (bz b9)))]) F.1 F.2.1 dX10_allWrong_35 rfl hl (by decide) rfl (fun ls hl => ?_)
            refine h_iinc (k := 1) (a := k) (lv' := [(3, .int (iI (k + 1))), (2, .int (iI ((awS σ b9 k) + 0))), (0, .ref h), (1, .int (iI (bz b9)))]) F dX10_allWrong_36 hl rfl (by decide) rfl (fun ls hl => ?_)
            refine h_goto (tgt := 4) F dX10_allWrong_39 (by decide) ?_
            have eq12 : (awS σ b9 (k + 1) : Int) = (awS σ b9 k) + 0 := hst9
            have eq13 : ((k + 1) : Int) = k + 1 := by first | rfl | omega | simp
            exact ih4 (k + 1) (kc4 + 0 + 0) (ks4 + 0 + 0)  (by omega) (by omega)  (by omega) (by omega) _ _ ls hW hS (by rw [eq12, eq13]; exact lv_sub hl [1, 0, 2, 3] rfl)
  have eq14 : (awS σ b9 0 : Int) = 0 := sm_0 _ _
  exact loop4 ((σ 4 - 0) + 1 : Int).toNat 0 (0) (0)   (by omega) (by omega)  (by omega) (by omega) _ _ ls hW hS (by rw [eq14]; exact lv_sub hl [1, 0, 2, 3] rfl)
set_option maxHeartbeats 4000000 in
set_option maxRecDepth 100000 in
theorem c_X10_joins (l : Launch) (X : Cx) (w : Wo) (h : Nat) (σ : Int → Int) (y9 : Int) (hO : ownA X w h σ) (hry : 0 ≤ y9 ∧ y9 < σ 1) : CM l X yX10_joins cX10_joins 4 (some (.int)) (rmG 4 0 0 86) [.ref h, .int (iI y9)] w (some (.int (iI (jcS σ y9)))) (fun w' => w' = w) := by
  refine CM.of (lv := [(0, .ref h), (1, .int (iI y9))]) (by decide) (Nat.le_of_ble_eq_true rfl) rfl (fun p e s m below meth c ls F hr hlk hin hW hS hl => ?_)
  have hZ0 := hW.2.2
  have hB9 := hW.1.2
  clear hin
  have hO0 := hO
  obtain ⟨st, lc, ec, lr, er, mc, mr, kc, kr, gc, gr, cd, rwa, fs, nr, wh, h1, ⟨h2, h2f⟩, ⟨h3, h3e, h3k, h3l⟩, hck, ⟨h4, h4e, h4k, h4l⟩, hrr, ⟨hnr, hwh, hem⟩, ⟨hWF, hw0, hw1⟩, hst, hinj, hcj, hlne, hene⟩ := hO
  obtain ⟨wf0, wf1, wf2, wf3, wf4, wf5⟩ := hWF.1
  have hnc := nr_cases hnr wf4.2
  refine h_iconst F dX10_joins_0 ?_
  refine lv_istore_n (lv' := [(2, .int (iI 0)), (0, .ref h), (1, .int (iI y9))]) F.1 F.2.1 dX10_joins_1 rfl hl (by decide) rfl (fun ls hl => ?_)
  refine h_iconst F dX10_joins_2 ?_
  refine lv_istore_n (lv' := [(3, .int (iI 1)), (2, .int (iI 0)), (0, .ref h), (1, .int (iI y9))]) F.1 F.2.1 dX10_joins_3 rfl hl (by decide) rfl (fun ls hl => ?_)
  have loop4 : ∀ (n9 : Nat) (k : Int), (hrg : 1 ≤ k ∧ k ≤ σ 0) → (hms : σ 0 - k < (n9 : Int)) → (H : Heap) → (locs : List Loc) → (ls : Array Slot) → Wd X w s H → va_S (cxA X) s.heap H locs → lv_has ls 4 [(2, .int (iI (cnt (fun z => decide (cellS σ z y9 ≠ cellS σ (z + 1) y9)) 0 (k - 1)))), (3, .int (iI k)), (0, .ref h), (1, .int (iI y9))] → W p l e (rmG 4 0 0 86) s m (List.toArray [.ref h, .int (iI y9)]) below meth c H locs (0) (0) (MX X below (List.toArray [.ref h, .int (iI y9)]) s 0 0 (some (.int (iI (jcS σ y9)))) (fun w' => w' = w)) (F0 m 4 ls []) := by
    intro n9
    induction n9 with
    | zero => intro k  hrg hms; exfalso; omega
    | succ n9 ih4 =>
      intro k  hrg hms   H locs ls hW hS hl
      refine lv_iload_n F.1 F.2.1 dX10_joins_4 rfl (lv_at hl 1 rfl) ?_
      refine lv_aload_n F.1 F.2.1 dX10_joins_5 rfl (lv_at hl 2 rfl) ?_
      refine gf_RX10_27 F hW h1 rfl dX10_joins_6 ?_
      refine h_icge (tgt := 43) F dX10_joins_9 (by decide) (by omega) (fun c1 => ?_) (fun c1 => ?_)
      · refine lv_iload_n F.1 F.2.1 dX10_joins_43 rfl (lv_at hl 0 rfl) ?_
        refine h_top (show (cnt (fun z => decide (cellS σ z y9 ≠ cellS σ (z + 1) y9)) 0 (k - 1) : Int) = jcS σ y9 from by rw [show k = σ 0 by omega]; rfl) ?_
        exact h_ireti F hr hlk hW hS rfl dX10_joins_44
      · refine lv_iload_n F.1 F.2.1 dX10_joins_12 rfl (lv_at hl 0 rfl) ?_
        refine lv_aload_n F.1 F.2.1 dX10_joins_13 rfl (lv_at hl 2 rfl) ?_
        refine lv_iload_n F.1 F.2.1 dX10_joins_14 rfl (lv_at hl 1 rfl) ?_
        refine lv_iload_n F.1 F.2.1 dX10_joins_15 rfl (lv_at hl 3 rfl) ?_
        refine cl_RX10_103 (As := [.int (iI k), .int (iI y9)]) (rest := [.int (iI (cnt (fun z => decide (cellS σ z y9 ≠ cellS σ (z + 1) y9)) 0 (k - 1)))]) F hl (c_X10_at l X w h σ k y9 hO0 (by omega) (by omega)) hW hS h1 rfl rfl ⟨Nat.le_of_ble_eq_true rfl, Nat.le_of_ble_eq_true rfl⟩ (Nat.le_of_ble_eq_true rfl) ⟨(by show 0 + 0 ≤ 0; omega), (by show 0 + 0 ≤ 0; omega)⟩ dX10_joins_16 (fun w1 H locs hp2 hW hS => ?_)
        rw [hp2] at hW; clear hp2; clear w1
        refine lv_aload_n F.1 F.2.1 dX10_joins_19 rfl (lv_at hl 2 rfl) ?_
        refine lv_iload_n F.1 F.2.1 dX10_joins_20 rfl (lv_at hl 1 rfl) ?_
        refine h_iconst F dX10_joins_21 ?_
        refine h_isub (a := k) (b := 1) F dX10_joins_22 ?_
        refine lv_iload_n F.1 F.2.1 dX10_joins_23 rfl (lv_at hl 3 rfl) ?_
        refine cl_RX10_103 (As := [.int (iI (k - 1)), .int (iI y9)]) (rest := [.int (iI (cellS σ k y9)), .int (iI (cnt (fun z => decide (cellS σ z y9 ≠ cellS σ (z + 1) y9)) 0 (k - 1)))]) F hl (c_X10_at l X w h σ (k - 1) y9 hO0 (by omega) (by omega)) hW hS h1 rfl rfl ⟨Nat.le_of_ble_eq_true rfl, Nat.le_of_ble_eq_true rfl⟩ (Nat.le_of_ble_eq_true rfl) ⟨(by show 0 + 0 + 0 ≤ 0; omega), (by show 0 + 0 + 0 ≤ 0; omega)⟩ dX10_joins_24 (fun w1 H locs hp3 hW hS => ?_)
        rw [hp3] at hW; clear hp3; clear w1
        refine h_icne (tgt := 34) F dX10_joins_27 (by decide) (by have := hWF.2.2.2.1 k y9 (by omega) (by omega) hry.1 hry.2; have := hWF.2.2.2.1 (k - 1) y9 (by omega) (by omega) hry.1 hry.2; omega) (fun c4 => ?_) (fun c4 => ?_)
        · have hst9 : cnt (fun z => decide (cellS σ z y9 ≠ cellS σ (z + 1) y9)) 0 (k + 1 - 1) = cnt (fun z => decide (cellS σ z y9 ≠ cellS σ (z + 1) y9)) 0 (k - 1) + 1 := by rw [show k + 1 - 1 = (k - 1) + 1 by omega]; exact cnt_t (by omega) (decide_eq_true (by rw [show k - 1 + 1 = k by omega]; exact fun e9 => c4 e9.symm))
          refine h_iconst F dX10_joins_34 ?_
          refine h_iadd (a := cnt (fun z => decide (cellS σ z y9 ≠ cellS σ (z + 1) y9)) 0 (k - 1)) (b := 1) F dX10_joins_35 ?_
          refine lv_istore_n (lv' := [(2, .int (iI ((cnt (fun z => decide (cellS σ z y9 ≠ cellS σ (z + 1) y9)) 0 (k - 1)) + 1))), (3, .int (iI k)), (0, .ref h), (1, .int (iI y9))]) F.1 F.2.1 dX10_joins_36 rfl hl (by decide) rfl (fun ls hl => ?_)
          refine h_iinc (k := 1) (a := k) (lv' := [(3, .int (iI (k + 1))), (2, .int (iI ((cnt (fun z => decide (cellS σ z y9 ≠ cellS σ (z + 1) y9)) 0 (k - 1)) + 1))), (0, .ref h), (1, .int (iI y9))]) F dX10_joins_37 hl rfl (by decide) rfl (fun ls hl => ?_)
          refine h_goto (tgt := 4) F dX10_joins_40 (by decide) ?_
          have eq5 : (cnt (fun z => decide (cellS σ z y9 ≠ cellS σ (z + 1) y9)) 0 ((k + 1) - 1) : Int) = (cnt (fun z => decide (cellS σ z y9 ≠ cellS σ (z + 1) y9)) 0 (k - 1)) + 1 := hst9
          have eq6 : ((k + 1) : Int) = k + 1 := by first | rfl | omega | simp
          exact ih4 (k + 1)  (by omega) (by omega)   _ _ ls hW hS (by rw [eq5, eq6]; exact lv_sub hl [1, 0, 2, 3] rfl)
        · have hst9 : cnt (fun z => decide (cellS σ z y9 ≠ cellS σ (z + 1) y9)) 0 (k + 1 - 1) = cnt (fun z => decide (cellS σ z y9 ≠ cellS σ (z + 1) y9)) 0 (k - 1) + 0 := by rw [show k + 1 - 1 = (k - 1) + 1 by omega, cnt_f (by omega) (decide_eq_false (by rw [show k - 1 + 1 = k by omega]; exact fun e9 => e9 c4.symm))]; omega
          refine h_iconst F dX10_joins_30 ?_
          refine h_goto (tgt := 35) F dX10_joins_31 (by decide) ?_
          refine h_iadd (a := cnt (fun z => decide (cellS σ z y9 ≠ cellS σ (z + 1) y9)) 0 (k - 1)) (b := 0) F dX10_joins_35 ?_
          refine lv_istore_n (lv' := [(2, .int (iI ((cnt (fun z => decide (cellS σ z y9 ≠ cellS σ (z + 1) y9)) 0 (k - 1)) + 0))), (3, .int (iI k)), (0, .ref h), (1, .int (iI y9))]) F.1 F.2.1 dX10_joins_36 rfl hl (by decide) rfl (fun ls hl => ?_)
          refine h_iinc (k := 1) (a := k) (lv' := [(3, .int (iI (k + 1))), (2, .int (iI ((cnt (fun z => decide (cellS σ z y9 ≠ cellS σ (z + 1) y9)) 0 (k - 1)) + 0))), (0, .ref h), (1, .int (iI y9))]) F dX10_joins_37 hl rfl (by decide) rfl (fun ls hl => ?_)
          refine h_goto (tgt := 4) F dX10_joins_40 (by decide) ?_
          have eq7 : (cnt (fun z => decide (cellS σ z y9 ≠ cellS σ (z + 1) y9)) 0 ((k + 1) - 1) : Int) = (cnt (fun z => decide (cellS σ z y9 ≠ cellS σ (z + 1) y9)) 0 (k - 1)) + 0 := hst9
          have eq8 : ((k + 1) : Int) = k + 1 := by first | rfl | omega | simp
          exact ih4 (k + 1)  (by omega) (by omega)   _ _ ls hW hS (by rw [eq7, eq8]; exact lv_sub hl [1, 0, 2, 3] rfl)
  have eq9 : (cnt (fun z => decide (cellS σ z y9 ≠ cellS σ (z + 1) y9)) 0 (1 - 1) : Int) = 0 := cnt_0 _ _
  exact loop4 ((σ 0 - 1) + 1 : Int).toNat 1   (by omega) (by omega)   _ _ ls hW hS (by rw [eq9]; exact lv_sub hl [1, 0, 2, 3] rfl)
set_option maxHeartbeats 4000000 in
set_option maxRecDepth 100000 in
theorem c_X10_due (l : Launch) (X : Cx) (w : Wo) (h : Nat) (σ : Int → Int) (x9 y9 : Int) (b9 : Bool) (hO : ownA X w h σ) (hcx : 0 ≤ x9 ∧ x9 < σ 0) (hry : 0 ≤ y9 ∧ y9 < σ 1) : CM l X yX10_due cX10_due 4 (some (.int)) (rmG 6 1 4 134) [.ref h, .int (iI x9), .int (iI y9), .int (iI (bz b9))] w (some (.int (iI (dueS σ b9 x9 y9)))) (fun w' => w' = w) := by
  refine CM.of (lv := [(0, .ref h), (1, .int (iI x9)), (2, .int (iI y9)), (3, .int (iI (bz b9)))]) (by decide) (Nat.le_of_ble_eq_true rfl) rfl (fun p e s m below meth c ls F hr hlk hin hW hS hl => ?_)
  have hZ0 := hW.2.2
  have hB9 := hW.1.2
  clear hin
  have hO0 := hO
  obtain ⟨st, lc, ec, lr, er, mc, mr, kc, kr, gc, gr, cd, rwa, fs, nr, wh, h1, ⟨h2, h2f⟩, ⟨h3, h3e, h3k, h3l⟩, hck, ⟨h4, h4e, h4k, h4l⟩, hrr, ⟨hnr, hwh, hem⟩, ⟨hWF, hw0, hw1⟩, hst, hinj, hcj, hlne, hene⟩ := hO
  obtain ⟨wf0, wf1, wf2, wf3, wf4, wf5⟩ := hWF.1
  have hnc := nr_cases hnr wf4.2
  refine lv_aload_n F.1 F.2.1 dX10_due_0 rfl (lv_at hl 0 rfl) ?_
  refine lv_iload_n F.1 F.2.1 dX10_due_1 rfl (lv_at hl 1 rfl) ?_
  refine lv_iload_n F.1 F.2.1 dX10_due_2 rfl (lv_at hl 2 rfl) ?_
  refine cl_RX10_103 (As := [.int (iI x9), .int (iI y9)]) (rest := []) F hl (c_X10_at l X w h σ x9 y9 hO0 (by omega) (by omega)) hW hS h1 rfl rfl ⟨Nat.le_of_ble_eq_true rfl, Nat.le_of_ble_eq_true rfl⟩ (Nat.le_of_ble_eq_true rfl) ⟨(by show 0 + 0 ≤ 1; omega), (by show 0 + 0 ≤ 4; omega)⟩ dX10_due_3 (fun w1 H locs hp1 hW hS => ?_)
  rw [hp1] at hW; clear hp1; clear w1
  refine h_iflt (tgt := 18) F dX10_due_6 (by decide) (by have := hWF.2.2.2.1 x9 y9 hcx.1 hcx.2 hry.1 hry.2; omega) (fun c2 => ?_) (fun c2 => ?_)
  · have hz9 := c2
    refine lv_aload_n F.1 F.2.1 dX10_due_18 rfl (lv_at hl 0 rfl) ?_
    refine lv_iload_n F.1 F.2.1 dX10_due_19 rfl (lv_at hl 3 rfl) ?_
    refine h_ifeqb (tgt := 34) F dX10_due_20 (by decide) (fun c3 => ?_) (fun c3 => ?_)
    · have hbb := c3
      refine lv_iload_n F.1 F.2.1 dX10_due_34 rfl (lv_at hl 1 rfl) ?_
      refine lv_iload_n F.1 F.2.1 dX10_due_35 rfl (lv_at hl 2 rfl) ?_
      refine cl_RX10_107 (As := [.int (iI x9), .int (iI y9)]) (rest := []) F hl (c_X10_design l X w h σ x9 y9 hO0 (by omega) (by omega)) hW hS h1 rfl rfl ⟨Nat.le_of_ble_eq_true rfl, Nat.le_of_ble_eq_true rfl⟩ (Nat.le_of_ble_eq_true rfl) ⟨(by show 0 + 0 + 1 ≤ 1; omega), (by show 0 + 0 + 4 ≤ 4; omega)⟩ dX10_due_36 (fun w1 H locs hp4 hW hS => ?_)
      rw [hp4] at hW; clear hp4; clear w1
      refine W.wd (mc := 1) (ms := 4) (by omega) (by omega) ?_
      refine h_top (show (desS σ x9 y9 : Int) = dueS σ b9 x9 y9 from by unfold dueS; rw [if_neg (by omega), hbb]; rfl) ?_
      exact h_ireti F hr hlk hW hS rfl dX10_due_39
    · have hbb := c3
      refine lv_aload_n F.1 F.2.1 dX10_due_23 rfl (lv_at hl 0 rfl) ?_
      refine gf_RX10_27 F hW h1 rfl dX10_due_24 ?_
      refine h_iconst F dX10_due_27 ?_
      refine h_isub (a := σ 0) (b := 1) F dX10_due_28 ?_
      refine lv_iload_n F.1 F.2.1 dX10_due_29 rfl (lv_at hl 1 rfl) ?_
      refine h_isub (a := (σ 0) - 1) (b := x9) F dX10_due_30 ?_
      refine h_goto (tgt := 35) F dX10_due_31 (by decide) ?_
      refine lv_iload_n F.1 F.2.1 dX10_due_35 rfl (lv_at hl 2 rfl) ?_
      refine cl_RX10_107 (As := [.int (iI (((σ 0) - 1) - x9)), .int (iI y9)]) (rest := []) F hl (c_X10_design l X w h σ (((σ 0) - 1) - x9) y9 hO0 (by omega) (by omega)) hW hS h1 rfl rfl ⟨Nat.le_of_ble_eq_true rfl, Nat.le_of_ble_eq_true rfl⟩ (Nat.le_of_ble_eq_true rfl) ⟨(by show 0 + 0 + 1 ≤ 1; omega), (by show 0 + 0 + 4 ≤ 4; omega)⟩ dX10_due_36 (fun w1 H locs hp5 hW hS => ?_)
      rw [hp5] at hW; clear hp5; clear w1
      refine W.wd (mc := 1) (ms := 4) (by omega) (by omega) ?_
      refine h_top (show (desS σ (((σ 0) - 1) - x9) y9 : Int) = dueS σ b9 x9 y9 from by unfold dueS; rw [if_neg (by omega), hbb]; rfl) ?_
      exact h_ireti F hr hlk hW hS rfl dX10_due_39
  · have hz9 := c2
    refine lv_aload_n F.1 F.2.1 dX10_due_9 rfl (lv_at hl 0 rfl) ?_
    refine lv_iload_n F.1 F.2.1 dX10_due_10 rfl (lv_at hl 1 rfl) ?_
    refine lv_iload_n F.1 F.2.1 dX10_due_11 rfl (lv_at hl 2 rfl) ?_
    refine cl_RX10_103 (As := [.int (iI x9), .int (iI y9)]) (rest := []) F hl (c_X10_at l X w h σ x9 y9 hO0 (by omega) (by omega)) hW hS h1 rfl rfl ⟨Nat.le_of_ble_eq_true rfl, Nat.le_of_ble_eq_true rfl⟩ (Nat.le_of_ble_eq_true rfl) ⟨(by show 0 + 0 + 0 ≤ 1; omega), (by show 0 + 0 + 0 ≤ 4; omega)⟩ dX10_due_12 (fun w1 H locs hp6 hW hS => ?_)
    rw [hp6] at hW; clear hp6; clear w1
    refine h_goto (tgt := 39) F dX10_due_15 (by decide) ?_
    refine W.wd (mc := 1) (ms := 4) (by omega) (by omega) ?_
    refine h_top (show (cellS σ x9 y9 : Int) = dueS σ b9 x9 y9 from by unfold dueS; rw [if_pos (by omega)]) ?_
    exact h_ireti F hr hlk hW hS rfl dX10_due_39
set_option maxHeartbeats 4000000 in
set_option maxRecDepth 100000 in
theorem c_L_minutes (l : Launch) (X : Cx) (w : Wo) (h : Nat) (σ : Int → Int) (y9 : Int) (hO : ownA X w h σ) (hry : 0 ≤ y9 ∧ y9 < σ 1) : CM l X yL_minutes cL_minutes 2 (some (.int)) (rmG 5 0 0 109) [.ref h, .int (iI y9)] w (some (.int (iI ((σ 0 + 7 * jcS σ y9) / 4)))) (fun w' => w' = w) := by
  refine CM.of (lv := [(0, .ref h), (1, .int (iI y9))]) (by decide) (Nat.le_of_ble_eq_true rfl) rfl (fun p e s m below meth c ls F hr hlk hin hW hS hl => ?_)
  have hZ0 := hW.2.2
  have hB9 := hW.1.2
  clear hin
  have hO0 := hO
  obtain ⟨st, lc, ec, lr, er, mc, mr, kc, kr, gc, gr, cd, rwa, fs, nr, wh, h1, ⟨h2, h2f⟩, ⟨h3, h3e, h3k, h3l⟩, hck, ⟨h4, h4e, h4k, h4l⟩, hrr, ⟨hnr, hwh, hem⟩, ⟨hWF, hw0, hw1⟩, hst, hinj, hcj, hlne, hene⟩ := hO
  obtain ⟨wf0, wf1, wf2, wf3, wf4, wf5⟩ := hWF.1
  have hnc := nr_cases hnr wf4.2
  refine lv_aload_n F.1 F.2.1 dL_minutes_0 rfl (lv_at hl 0 rfl) ?_
  refine gf_RL_60 F hW h1 rfl dL_minutes_1 ?_
  refine h_bipush F dL_minutes_4 rfl ?_
  refine lv_aload_n F.1 F.2.1 dL_minutes_6 rfl (lv_at hl 0 rfl) ?_
  refine lv_iload_n F.1 F.2.1 dL_minutes_7 rfl (lv_at hl 1 rfl) ?_
  refine cl_RL_192 (As := [.int (iI y9)]) (rest := [.int (iI 7), .int (iI (σ 0))]) F hl (c_X10_joins l X w h σ y9 hO0 (by omega)) hW hS h1 rfl rfl ⟨Nat.le_of_ble_eq_true rfl, Nat.le_of_ble_eq_true rfl⟩ (Nat.le_of_ble_eq_true rfl) ⟨(by show 0 + 0 ≤ 0; omega), (by show 0 + 0 ≤ 0; omega)⟩ dL_minutes_8 (fun w1 H locs hp1 hW hS => ?_)
  rw [hp1] at hW; clear hp1; clear w1
  refine h_imul (a := 7) (b := jcS σ y9) F dL_minutes_11 ?_
  refine h_iadd (a := σ 0) (b := 7 * (jcS σ y9)) F dL_minutes_12 ?_
  refine h_iconst F dL_minutes_13 ?_
  refine h_idiv F dL_minutes_14 (by have := cnt_r (fun z => decide (cellS σ z y9 ≠ cellS σ (z + 1) y9)) (show (0 : Int) ≤ σ 0 - 1 by omega); unfold jcS; omega) ?_
  refine h_top (show (((σ 0) + (7 * (jcS σ y9))) / 4 : Int) = (σ 0 + 7 * jcS σ y9) / 4 from by first | rfl | omega | (simp_all; done)) ?_
  exact h_ireti F hr hlk hW hS rfl dL_minutes_15
