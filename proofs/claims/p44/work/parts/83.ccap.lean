theorem mov_lm {X : Cx} {w w2 : Wo} {a : Nat} {σ : Int → Int} {k x y : Int} {f : Int → Int} (h : lmA X w a σ) (h8 : cap8 σ) (hk : 0 ≤ k ∧ k < σ 5) (ho : w2 (a + 9 + 2 * k.toNat) = some (.inr (1, [.ref ((a + 9 + 2 * k.toNat) + 1), .int (iI (cp σ k 0)), .int (iI (cp σ k 1)), .int (iI x), .int (iI y), .int (iI (cp σ k 4))]))) (ha : w2 ((a + 9 + 2 * k.toNat) + 1) = w ((a + 9 + 2 * k.toNat) + 1)) (hf : w ((a + 9 + 2 * k.toNat) + 1) = some (aZ X 8 f)) (hff : ∀ j, 0 ≤ j → j < cp σ k 0 → f j = cp σ k (5 + j) + 1) (hn : ∀ q : Nat, q ≠ a + 9 + 2 * k.toNat → w2 q = w q) : lmA X w2 a (movS σ k x y) := by
  have h5 := h8.1
  have hm : ∀ p, (p ≠ 13 + 13 * k + 2 ∧ p ≠ 13 + 13 * k + 3) → movS σ k x y p = σ p := fun p hp => mov_lo hp
  have e : ∀ j, j ≠ 2 → j ≠ 3 → cp (movS σ k x y) k j = cp σ k j := fun j j2 j3 => hm _ (by omega)
  have e2 : cp (movS σ k x y) k 2 = x := by
    unfold cp movS
    rw [up_n (by omega), up_s]
  have e3 : cp (movS σ k x y) k 3 = y := up_s _ _ _
  obtain ⟨gr, g2, g3⟩ := h.2.1
  obtain ⟨gp, g4⟩ := h.2.2.1
  obtain ⟨t, t5, t6⟩ := h.2.2.2.1
  have e5 : movS σ k x y 5 = σ 5 := hm 5 (by omega)
  refine ⟨?_, ⟨gr, g2.mv (hn _ (by omega)) (hn _ (by omega)), fun c r c0 c1 r0 r1 => ?_⟩, ⟨gp, g4.mv (hn _ (by omega)) (hn _ (by omega))⟩, ⟨t, (hn _ (by omega)).trans t5, fun c c0 c1 => (t6 c c0 c1).trans (hm _ (by omega)).symm⟩, (hn _ (by omega)).trans h.2.2.2.2.1, fun i hi => ?_, fun i i0 i1 => ?_⟩
  · rw [e5, hm 0 (by omega), hm 1 (by omega), hm 4 (by omega), hm 3 (by omega), hm 2 (by omega)]
    exact (hn _ (by omega)).trans h.1
  · rw [hm 0 (by omega)] at c1
    rw [hm 1 (by omega)] at r1
    exact (g3 c r c0 c1 r0 r1).trans (hm _ (by omega)).symm
  · by_cases g : i = k.toNat + 1
    · subst g
      rw [show a + 7 + 2 * (k.toNat + 1) = a + 9 + 2 * k.toNat by omega]
      exact ⟨_, _, _, _, _, _, ho, ha.trans hf⟩
    · obtain ⟨n, sd, x9, y9, co, f9, e9⟩ := h.2.2.2.2.2.1 i hi
      exact ⟨_, _, _, _, _, _, e9.mv (hn _ (by omega)) (hn _ (by omega))⟩
  · rw [e5] at i1
    by_cases g : i = k
    · subst g
      refine ⟨f, ⟨?_, ha.trans hf⟩, fun j j0 j1 => ?_⟩
      · rw [e 0 (by decide) (by decide), e 1 (by decide) (by decide), e2, e3, e 4 (by decide) (by decide)]
        exact ho
      · rw [e 0 (by decide) (by decide)] at j1
        rw [e _ (by omega) (by omega)]
        exact hff j j0 j1
    · exact ((h.cap i i0 i1).mv (hn _ (by omega)) (hn _ (by omega))).to (h8.2 i i0 i1) (fun j j0 j1 => hm _ (by omega))
set_option maxHeartbeats 4000000 in
set_option maxRecDepth 100000 in
theorem c_add_r4 (l : Launch) (X : Cx) (w : Wo) (y : Nat) (su : Int) (ac : Int → Int) (σ : Int → Int) (nx sz : Int) (pas : Int → Int → Int) (n0 sd0 x0 y0 co0 : Int) (f0 : Int → Int) (N : Int) (fb : Int → Int) (sd xx yy co : Int) (hY : clO X w y su) (hac : w (y + 305) = some (aZ X 9 ac)) (hL : loomAt X w (y + 1) σ) (hH : hisAt X w (y + 53) nx sz pas) (hv : capV X w (y + 51) n0 sd0 x0 y0 co0 f0) (hB : w (y + 307) = some (.inr (0, [.ref (y + 308), .int (iI N)]))) (hT : w (y + 308) = some (aZ X 400 fb)) (hN : 0 ≤ N ∧ N ≤ 400) (hfb : ∀ i, 0 ≤ i → i < N → 0 ≤ fb i ∧ fb i ≤ 255) (hw1 : (decide (1 ≤ N ∧ N ≤ 8) && al (fun i => decide (97 ≤ fb i ∧ fb i ≤ 122)) 0 N) = true) (hsd : sd = 0 ∨ sd = 1) (hco : 1 ≤ co ∧ co ≤ 6) (hop : σ 5 = 8) : CM l X yX8_add cX8_add 7 (some (.int)) (rmk 5 128) [.ref y, .int (iI sd), .int (iI xx), .int (iI yy), .int (iI co)] w (some (.int (iI (-4)))) (fun w' => w' (y + 51) = some (.inr (1, [.ref ((y + 51) + 1), .int (iI N), .int (iI sd), .int (iI xx), .int (iI yy), .int (iI co)])) ∧ w' (y + 307) = some (.inr (0, [.ref (y + 308), .int (iI 0)])) ∧ w' ((y + 51) + 1) = some (aZ X 8 (wdZ f0 fb N 0 N)) ∧ w' (y + 305) = some (aZ X 9 (up ac 4 (ac 4 + 1))) ∧ ∀ q : Nat, q ≠ y + 305 → q ≠ y + 307 → q ≠ y + 51 → q ≠ y + 51 + 1 → w' q = w q) := by
  refine CM.of (lv := [(0, .ref y), (1, .int (iI sd)), (2, .int (iI xx)), (3, .int (iI yy)), (4, .int (iI co))]) (by decide) (Nat.le_of_ble_eq_true rfl) rfl (fun p e s m below meth c ls F hr hlk hin hW hS hl => ?_)
  have hZ0 := hW.2.2
  have hB9 := hW.1.2
  clear hin
  unfold clO at hY
  have hO := hL.1.o
  have hA := hL.1
  have hwf := hL.2.2
  have hF := hwf.1
  unfold WF0 at hF
  have hbx := hv.1
  have hba := hv.2
  have hw2 := hw1
  rw [Bool.and_eq_true] at hw2
  have hw3 := of_decide_eq_true hw2.1
  refine lv_aload_n F.1 F.2.1 dX8_add_0 rfl (lv_at hl 0 rfl) ?_
  refine cl_RX8_365 (As := []) (rest := []) F hl (c_X8_isWordOfText l X w y su N fb hY hB hT (by omega) hfb) hW hS hY rfl rfl ⟨Nat.le_of_ble_eq_true rfl, Nat.le_of_ble_eq_true rfl⟩ (Nat.le_of_ble_eq_true rfl) ⟨Nat.zero_le _, Nat.zero_le _⟩ dX8_add_1 (fun w1 H locs hp1 hW hS => ?_)
  rw [hp1] at hW; clear hp1; clear w1
  refine h_top (show (bz (decide (1 ≤ N ∧ N ≤ 8) && al (fun i => decide (97 ≤ fb i ∧ fb i ≤ 122)) 0 N) : Int) = bz true from congrArg bz hw1) ?_
  refine lv_istore (lv' := [(5, .int (iI (bz true))), (0, .ref y), (1, .int (iI sd)), (2, .int (iI xx)), (3, .int (iI yy)), (4, .int (iI co))]) F.1 F.2.1 dX8_add_4 hl (by decide) rfl (fun ls hl => ?_)
  refine lv_iload F.1 F.2.1 dX8_add_6 (lv_at hl 0 rfl) ?_
  refine h_top (show (bz true : Int) = 1 from rfl) ?_
  refine h_ifeq (tgt := 30) F dX8_add_8 (by decide) (by decide) (fun c9 => absurd c9 (by decide)) (fun _ => ?_)
  refine lv_aload_n F.1 F.2.1 dX8_add_11 rfl (lv_at hl 1 rfl) ?_
  refine gf_RX8_22 F hW hY rfl dX8_add_12 ?_
  refine lv_aload_n F.1 F.2.1 dX8_add_15 rfl (lv_at hl 1 rfl) ?_
  refine gf_RX8_49 F hW hY rfl dX8_add_16 ?_
  refine h_iconst F dX8_add_19 ?_
  refine lv_aload_n F.1 F.2.1 dX8_add_20 rfl (lv_at hl 1 rfl) ?_
  refine gf_RX8_49 F hW hY rfl dX8_add_21 ?_
  refine cl_RX8_81 (As := []) (rest := [.int (iI 0), .ref (y + 307), .ref (y + 51)]) F hl (c_X0_size l X w (y + 307) (y + 308) N fb hB hT) hW hS hB rfl rfl ⟨Nat.le_of_ble_eq_true rfl, Nat.le_of_ble_eq_true rfl⟩ (Nat.le_of_ble_eq_true rfl) ⟨Nat.zero_le _, Nat.zero_le _⟩ dX8_add_24 (fun w1 H locs hp3 hW hS => ?_)
  rw [hp3] at hW; clear hp3; clear w1
  refine cl_RX8_368 (As := [.ref (y + 307), .int (iI 0), .int (iI N)]) (rest := []) F hl (c_X1_takeWord l X w (y + 51) n0 sd0 x0 y0 co0 f0 (y + 307) (y + 308) N fb 0 N hv hB hT (by omega) (by omega)) hW hS hbx rfl rfl ⟨Nat.le_of_ble_eq_true rfl, Nat.le_of_ble_eq_true rfl⟩ (Nat.le_of_ble_eq_true rfl) ⟨Nat.zero_le _, Nat.zero_le _⟩ dX8_add_27 (fun w4 H locs hp5 hW hS => ?_)
  obtain ⟨ho6, ha7, hn8⟩ := hp5
  have hY := (hn8 _ (by omega) (by omega)).trans hY
  have hO := (hn8 _ (by omega) (by omega)).trans hO
  have hB := (hn8 _ (by omega) (by omega)).trans hB
  have hac := (hn8 _ (by omega) (by omega)).trans hac
  have hT := (hn8 _ (by omega) (by omega)).trans hT
  have hL := hL.mv (w2 := w4) (fun q h1 h2 => hn8 q (by omega) (by omega))
  have hH := hH.mv (w2 := w4) (fun q h1 h2 => hn8 q (by omega) (by omega))
  have e8 : min (N - 0) 8 = N := by omega
  rw [e8] at ho6 ha7
  refine lv_aload_n F.1 F.2.1 dX8_add_30 rfl (lv_at hl 1 rfl) ?_
  refine gf_RX8_49 F hW hY rfl dX8_add_31 ?_
  refine h_iconst F dX8_add_34 ?_
  refine cl_RX8_101 (As := [.int (iI 0)]) (rest := []) F hl (c_X0_cutTo l X w4 (y + 307) (y + 308) N fb 0 hB hT (by omega)) hW hS hB rfl rfl ⟨Nat.le_of_ble_eq_true rfl, Nat.le_of_ble_eq_true rfl⟩ (Nat.le_of_ble_eq_true rfl) ⟨Nat.zero_le _, Nat.zero_le _⟩ dX8_add_35 (fun w9 H locs hp10 hW hS => ?_)
  obtain ⟨ho11, hn12⟩ := hp10
  have hY := (hn12 _ (by omega)).trans hY
  have hO := (hn12 _ (by omega)).trans hO
  have ho6 := (hn12 _ (by omega)).trans ho6
  have hac := (hn12 _ (by omega)).trans hac
  have ha7 := (hn12 _ (by omega)).trans ha7
  have hT := (hn12 _ (by omega)).trans hT
  have hL := hL.mv (w2 := w9) (fun q h1 h2 => hn12 q (by omega))
  have hH := hH.mv (w2 := w9) (fun q h1 h2 => hn12 q (by omega))
  refine lv_iload F.1 F.2.1 dX8_add_38 (lv_at hl 0 rfl) ?_
  refine h_top (show (bz true : Int) = 1 from rfl) ?_
  refine h_ifeq (tgt := 62) F dX8_add_40 (by decide) (by decide) (fun c9 => absurd c9 (by decide)) (fun _ => ?_)
  refine lv_iload_n F.1 F.2.1 dX8_add_43 rfl (lv_at hl 2 rfl) ?_
  refine cl_RX8_327 (As := [.int (iI sd)]) (rest := []) F hl (c_X8_isSide l X w9 sd (by omega)) hW hS rfl rfl ⟨Nat.le_of_ble_eq_true rfl, Nat.le_of_ble_eq_true rfl⟩ (Nat.le_of_ble_eq_true rfl) ⟨Nat.zero_le _, Nat.zero_le _⟩ dX8_add_44 (fun w1 H locs hp14 hW hS => ?_)
  rw [hp14] at hW; clear hp14; clear w1
  refine h_top (show (bz (decide (sd = 0 ∨ sd = 1)) : Int) = bz true from congrArg bz (decide_eq_true (by omega))) ?_
  refine h_ifeqb (tgt := 62) F dX8_add_47 (by decide) (fun c9 => absurd c9 (by decide)) (fun _ => ?_)
  refine lv_iload F.1 F.2.1 dX8_add_50 (lv_at hl 5 rfl) ?_
  refine h_ifle (tgt := 62) F dX8_add_52 (by decide) (by omega) (fun c16 => ?_) (fun c16 => ?_)
  · exfalso; omega
  · refine lv_iload F.1 F.2.1 dX8_add_55 (lv_at hl 5 rfl) ?_
    refine h_bipush F dX8_add_57 rfl ?_
    refine h_iclt (tgt := 73) F dX8_add_59 (by decide) (by omega) (fun c17 => ?_) (fun c17 => ?_)
    · refine lv_aload_n F.1 F.2.1 dX8_add_73 rfl (lv_at hl 1 rfl) ?_
      refine gf_RX8_22 F hW hY rfl dX8_add_74 ?_
      refine lv_iload_n F.1 F.2.1 dX8_add_77 rfl (lv_at hl 2 rfl) ?_
      refine pf_RX8_177 F hW hS ho6 (Nat.le_of_ble_eq_true rfl) dX8_add_78 (fun w18 H locs ho20 hn19 hW hS => ?_)
      have ho20 : w18 (y + 51) = some (.inr (1, [.ref ((y + 51) + 1), .int (iI N), .int (iI sd), .int (iI x0), .int (iI y0), .int (iI co0)])) := ho20
      have hY := (hn19 _ (by omega)).trans hY
      have hO := (hn19 _ (by omega)).trans hO
      have ho11 := (hn19 _ (by omega)).trans ho11
      have hac := (hn19 _ (by omega)).trans hac
      have ha7 := (hn19 _ (by omega)).trans ha7
      have hT := (hn19 _ (by omega)).trans hT
      have hL := hL.mv (w2 := w18) (fun q h1 h2 => hn19 q (by omega))
      have hH := hH.mv (w2 := w18) (fun q h1 h2 => hn19 q (by omega))
      refine lv_aload_n F.1 F.2.1 dX8_add_81 rfl (lv_at hl 1 rfl) ?_
      refine gf_RX8_22 F hW hY rfl dX8_add_82 ?_
      refine lv_iload F.1 F.2.1 dX8_add_85 (lv_at hl 5 rfl) ?_
      refine pf_RX8_186 F hW hS ho20 (Nat.le_of_ble_eq_true rfl) dX8_add_87 (fun w21 H locs ho23 hn22 hW hS => ?_)
      have ho23 : w21 (y + 51) = some (.inr (1, [.ref ((y + 51) + 1), .int (iI N), .int (iI sd), .int (iI x0), .int (iI y0), .int (iI co)])) := ho23
      have hY := (hn22 _ (by omega)).trans hY
      have hO := (hn22 _ (by omega)).trans hO
      have ho11 := (hn22 _ (by omega)).trans ho11
      have hac := (hn22 _ (by omega)).trans hac
      have ha7 := (hn22 _ (by omega)).trans ha7
      have hT := (hn22 _ (by omega)).trans hT
      have hL := hL.mv (w2 := w21) (fun q h1 h2 => hn22 q (by omega))
      have hH := hH.mv (w2 := w21) (fun q h1 h2 => hn22 q (by omega))
      refine lv_aload_n F.1 F.2.1 dX8_add_90 rfl (lv_at hl 1 rfl) ?_
      refine gf_RX8_22 F hW hY rfl dX8_add_91 ?_
      refine lv_iload_n F.1 F.2.1 dX8_add_94 rfl (lv_at hl 3 rfl) ?_
      refine lv_iload_n F.1 F.2.1 dX8_add_95 rfl (lv_at hl 4 rfl) ?_
      have hv2 : capV X w21 (y + 51) N sd x0 y0 co (wdZ f0 fb N 0 N) := ⟨ho23, ha7⟩
      refine cl_RX8_332 (As := [.int (iI xx), .int (iI yy)]) (rest := []) F hl (c_X1_putAt l X w21 (y + 51) N sd x0 y0 co (wdZ f0 fb N 0 N) xx yy hv2) hW hS ho23 rfl rfl ⟨Nat.le_of_ble_eq_true rfl, Nat.le_of_ble_eq_true rfl⟩ (Nat.le_of_ble_eq_true rfl) ⟨Nat.zero_le _, Nat.zero_le _⟩ dX8_add_96 (fun w24 H locs hp25 hW hS => ?_)
      obtain ⟨ho26, hn27⟩ := hp25
      have hY := (hn27 _ (by omega)).trans hY
      have hO := (hn27 _ (by omega)).trans hO
      have ho11 := (hn27 _ (by omega)).trans ho11
      have hac := (hn27 _ (by omega)).trans hac
      have ha7 := (hn27 _ (by omega)).trans ha7
      have hT := (hn27 _ (by omega)).trans hT
      have hL := hL.mv (w2 := w24) (fun q h1 h2 => hn27 q (by omega))
      have hH := hH.mv (w2 := w24) (fun q h1 h2 => hn27 q (by omega))
      have hv2 : capV X w24 (y + 51) N sd xx yy co (wdZ f0 fb N 0 N) := ⟨ho26, ha7⟩
      refine lv_aload_n F.1 F.2.1 dX8_add_99 rfl (lv_at hl 1 rfl) ?_
      refine gf_RX8_10 F hW hY rfl dX8_add_100 ?_
      refine gf_RX8_118 F hW hO rfl dX8_add_103 ?_
      refine h_bipush F dX8_add_106 rfl ?_
      refine h_iclt (tgt := 117) F dX8_add_108 (by decide) (by omega) (fun c28 => ?_) (fun c28 => ?_)
      · exfalso; omega
      · refine lv_aload_n F.1 F.2.1 dX8_add_111 rfl (lv_at hl 1 rfl) ?_
        refine h_iconst F dX8_add_112 ?_
        refine cl_RX8_374 (As := [.int (iI 4)]) (rest := []) F hl (c_X8_refuse l X w24 y su ac 4 hY hac (by omega)) hW hS hY rfl rfl ⟨Nat.le_of_ble_eq_true rfl, Nat.le_of_ble_eq_true rfl⟩ (Nat.le_of_ble_eq_true rfl) ⟨Nat.zero_le _, Nat.zero_le _⟩ dX8_add_113 (fun w29 H locs hp30 hW hS => ?_)
        obtain ⟨ha31, hn32⟩ := hp30
        have hY := (hn32 _ (by omega)).trans hY
        have hO := (hn32 _ (by omega)).trans hO
        have ho26 := (hn32 _ (by omega)).trans ho26
        have ho11 := (hn32 _ (by omega)).trans ho11
        have ha7 := (hn32 _ (by omega)).trans ha7
        have hT := (hn32 _ (by omega)).trans hT
        have hL := hL.mv (w2 := w29) (fun q h1 h2 => hn32 q (by omega))
        have hH := hH.mv (w2 := w29) (fun q h1 h2 => hn32 q (by omega))
        exact h_ireti F hr hlk hW hS ⟨ho26, ho11, ha7, ha31, (fun q h09 h19 h29 h39 => by rw [hn32 q (by omega), hn27 q (by omega), hn22 q (by omega), hn19 q (by omega), hn12 q (by omega), hn8 q (by omega) (by omega)])⟩ dX8_add_116
    · exfalso; omega
set_option maxHeartbeats 4000000 in
set_option maxRecDepth 100000 in
theorem c_add_r (l : Launch) (X : Cx) (w : Wo) (y : Nat) (su : Int) (ac : Int → Int) (σ : Int → Int) (nx sz : Int) (pas : Int → Int → Int) (n0 sd0 x0 y0 co0 : Int) (f0 : Int → Int) (N : Int) (fb : Int → Int) (sd xx yy co : Int) (r9 : Int) (hY : clO X w y su) (hac : w (y + 305) = some (aZ X 9 ac)) (hL : loomAt X w (y + 1) σ) (hH : hisAt X w (y + 53) nx sz pas) (hv : capV X w (y + 51) n0 sd0 x0 y0 co0 f0) (hB : w (y + 307) = some (.inr (0, [.ref (y + 308), .int (iI N)]))) (hT : w (y + 308) = some (aZ X 400 fb)) (hN : 0 ≤ N ∧ N ≤ 400) (hfb : ∀ i, 0 ≤ i → i < N → 0 ≤ fb i ∧ fb i ≤ 255) (hw1 : (decide (1 ≤ N ∧ N ≤ 8) && al (fun i => decide (97 ≤ fb i ∧ fb i ≤ 122)) 0 N) = true) (hsd : sd = 0 ∨ sd = 1) (hco : 1 ≤ co ∧ co ≤ 6) (hx : -2147483648 ≤ xx ∧ xx < 2147483648) (hy : -2147483648 ≤ yy ∧ yy < 2147483648) (hop : σ 5 < 8) (hwy : whyS σ N sd xx yy (-1) = r9) (hr9 : r9 = 5 ∨ r9 = 6) : CM l X yX8_add cX8_add 7 (some (.int)) (rmk 5 128) [.ref y, .int (iI sd), .int (iI xx), .int (iI yy), .int (iI co)] w (some (.int (iI (-r9)))) (fun w' => w' (y + 51) = some (.inr (1, [.ref ((y + 51) + 1), .int (iI N), .int (iI sd), .int (iI xx), .int (iI yy), .int (iI co)])) ∧ w' (y + 307) = some (.inr (0, [.ref (y + 308), .int (iI 0)])) ∧ w' ((y + 51) + 1) = some (aZ X 8 (wdZ f0 fb N 0 N)) ∧ w' (y + 305) = some (aZ X 9 (up ac r9 (ac r9 + 1))) ∧ ∀ q : Nat, q ≠ y + 305 → q ≠ y + 307 → q ≠ y + 51 → q ≠ y + 51 + 1 → w' q = w q) := by
  refine CM.of (lv := [(0, .ref y), (1, .int (iI sd)), (2, .int (iI xx)), (3, .int (iI yy)), (4, .int (iI co))]) (by decide) (Nat.le_of_ble_eq_true rfl) rfl (fun p e s m below meth c ls F hr hlk hin hW hS hl => ?_)
  have hZ0 := hW.2.2
  have hB9 := hW.1.2
  clear hin
  unfold clO at hY
  have hO := hL.1.o
  have hA := hL.1
  have hwf := hL.2.2
  have hF := hwf.1
  unfold WF0 at hF
  have hbx := hv.1
  have hba := hv.2
  have hw2 := hw1
  rw [Bool.and_eq_true] at hw2
  have hw3 := of_decide_eq_true hw2.1
  refine lv_aload_n F.1 F.2.1 dX8_add_0 rfl (lv_at hl 0 rfl) ?_
  refine cl_RX8_365 (As := []) (rest := []) F hl (c_X8_isWordOfText l X w y su N fb hY hB hT (by omega) hfb) hW hS hY rfl rfl ⟨Nat.le_of_ble_eq_true rfl, Nat.le_of_ble_eq_true rfl⟩ (Nat.le_of_ble_eq_true rfl) ⟨Nat.zero_le _, Nat.zero_le _⟩ dX8_add_1 (fun w1 H locs hp1 hW hS => ?_)
  rw [hp1] at hW; clear hp1; clear w1
  refine h_top (show (bz (decide (1 ≤ N ∧ N ≤ 8) && al (fun i => decide (97 ≤ fb i ∧ fb i ≤ 122)) 0 N) : Int) = bz true from congrArg bz hw1) ?_
  refine lv_istore (lv' := [(5, .int (iI (bz true))), (0, .ref y), (1, .int (iI sd)), (2, .int (iI xx)), (3, .int (iI yy)), (4, .int (iI co))]) F.1 F.2.1 dX8_add_4 hl (by decide) rfl (fun ls hl => ?_)
  refine lv_iload F.1 F.2.1 dX8_add_6 (lv_at hl 0 rfl) ?_
  refine h_top (show (bz true : Int) = 1 from rfl) ?_
  refine h_ifeq (tgt := 30) F dX8_add_8 (by decide) (by decide) (fun c9 => absurd c9 (by decide)) (fun _ => ?_)
  refine lv_aload_n F.1 F.2.1 dX8_add_11 rfl (lv_at hl 1 rfl) ?_
  refine gf_RX8_22 F hW hY rfl dX8_add_12 ?_
  refine lv_aload_n F.1 F.2.1 dX8_add_15 rfl (lv_at hl 1 rfl) ?_
  refine gf_RX8_49 F hW hY rfl dX8_add_16 ?_
  refine h_iconst F dX8_add_19 ?_
  refine lv_aload_n F.1 F.2.1 dX8_add_20 rfl (lv_at hl 1 rfl) ?_
  refine gf_RX8_49 F hW hY rfl dX8_add_21 ?_
  refine cl_RX8_81 (As := []) (rest := [.int (iI 0), .ref (y + 307), .ref (y + 51)]) F hl (c_X0_size l X w (y + 307) (y + 308) N fb hB hT) hW hS hB rfl rfl ⟨Nat.le_of_ble_eq_true rfl, Nat.le_of_ble_eq_true rfl⟩ (Nat.le_of_ble_eq_true rfl) ⟨Nat.zero_le _, Nat.zero_le _⟩ dX8_add_24 (fun w1 H locs hp3 hW hS => ?_)
  rw [hp3] at hW; clear hp3; clear w1
  refine cl_RX8_368 (As := [.ref (y + 307), .int (iI 0), .int (iI N)]) (rest := []) F hl (c_X1_takeWord l X w (y + 51) n0 sd0 x0 y0 co0 f0 (y + 307) (y + 308) N fb 0 N hv hB hT (by omega) (by omega)) hW hS hbx rfl rfl ⟨Nat.le_of_ble_eq_true rfl, Nat.le_of_ble_eq_true rfl⟩ (Nat.le_of_ble_eq_true rfl) ⟨Nat.zero_le _, Nat.zero_le _⟩ dX8_add_27 (fun w4 H locs hp5 hW hS => ?_)
  obtain ⟨ho6, ha7, hn8⟩ := hp5
  have hY := (hn8 _ (by omega) (by omega)).trans hY
  have hO := (hn8 _ (by omega) (by omega)).trans hO
  have hB := (hn8 _ (by omega) (by omega)).trans hB
  have hac := (hn8 _ (by omega) (by omega)).trans hac
  have hT := (hn8 _ (by omega) (by omega)).trans hT
  have hL := hL.mv (w2 := w4) (fun q h1 h2 => hn8 q (by omega) (by omega))
  have hH := hH.mv (w2 := w4) (fun q h1 h2 => hn8 q (by omega) (by omega))
  have e8 : min (N - 0) 8 = N := by omega
  rw [e8] at ho6 ha7
  refine lv_aload_n F.1 F.2.1 dX8_add_30 rfl (lv_at hl 1 rfl) ?_
  refine gf_RX8_49 F hW hY rfl dX8_add_31 ?_
  refine h_iconst F dX8_add_34 ?_
  refine cl_RX8_101 (As := [.int (iI 0)]) (rest := []) F hl (c_X0_cutTo l X w4 (y + 307) (y + 308) N fb 0 hB hT (by omega)) hW hS hB rfl rfl ⟨Nat.le_of_ble_eq_true rfl, Nat.le_of_ble_eq_true rfl⟩ (Nat.le_of_ble_eq_true rfl) ⟨Nat.zero_le _, Nat.zero_le _⟩ dX8_add_35 (fun w9 H locs hp10 hW hS => ?_)
  obtain ⟨ho11, hn12⟩ := hp10
  have hY := (hn12 _ (by omega)).trans hY
  have hO := (hn12 _ (by omega)).trans hO
  have ho6 := (hn12 _ (by omega)).trans ho6
  have hac := (hn12 _ (by omega)).trans hac
  have ha7 := (hn12 _ (by omega)).trans ha7
  have hT := (hn12 _ (by omega)).trans hT
  have hL := hL.mv (w2 := w9) (fun q h1 h2 => hn12 q (by omega))
  have hH := hH.mv (w2 := w9) (fun q h1 h2 => hn12 q (by omega))
  refine lv_iload F.1 F.2.1 dX8_add_38 (lv_at hl 0 rfl) ?_
  refine h_top (show (bz true : Int) = 1 from rfl) ?_
  refine h_ifeq (tgt := 62) F dX8_add_40 (by decide) (by decide) (fun c9 => absurd c9 (by decide)) (fun _ => ?_)
  refine lv_iload_n F.1 F.2.1 dX8_add_43 rfl (lv_at hl 2 rfl) ?_
  refine cl_RX8_327 (As := [.int (iI sd)]) (rest := []) F hl (c_X8_isSide l X w9 sd (by omega)) hW hS rfl rfl ⟨Nat.le_of_ble_eq_true rfl, Nat.le_of_ble_eq_true rfl⟩ (Nat.le_of_ble_eq_true rfl) ⟨Nat.zero_le _, Nat.zero_le _⟩ dX8_add_44 (fun w1 H locs hp14 hW hS => ?_)
  rw [hp14] at hW; clear hp14; clear w1
  refine h_top (show (bz (decide (sd = 0 ∨ sd = 1)) : Int) = bz true from congrArg bz (decide_eq_true (by omega))) ?_
  refine h_ifeqb (tgt := 62) F dX8_add_47 (by decide) (fun c9 => absurd c9 (by decide)) (fun _ => ?_)
  refine lv_iload F.1 F.2.1 dX8_add_50 (lv_at hl 5 rfl) ?_
  refine h_ifle (tgt := 62) F dX8_add_52 (by decide) (by omega) (fun c16 => ?_) (fun c16 => ?_)
  · exfalso; omega
  · refine lv_iload F.1 F.2.1 dX8_add_55 (lv_at hl 5 rfl) ?_
    refine h_bipush F dX8_add_57 rfl ?_
    refine h_iclt (tgt := 73) F dX8_add_59 (by decide) (by omega) (fun c17 => ?_) (fun c17 => ?_)
    · refine lv_aload_n F.1 F.2.1 dX8_add_73 rfl (lv_at hl 1 rfl) ?_
      refine gf_RX8_22 F hW hY rfl dX8_add_74 ?_
      refine lv_iload_n F.1 F.2.1 dX8_add_77 rfl (lv_at hl 2 rfl) ?_
      refine pf_RX8_177 F hW hS ho6 (Nat.le_of_ble_eq_true rfl) dX8_add_78 (fun w18 H locs ho20 hn19 hW hS => ?_)
      have ho20 : w18 (y + 51) = some (.inr (1, [.ref ((y + 51) + 1), .int (iI N), .int (iI sd), .int (iI x0), .int (iI y0), .int (iI co0)])) := ho20
      have hY := (hn19 _ (by omega)).trans hY
      have hO := (hn19 _ (by omega)).trans hO
      have ho11 := (hn19 _ (by omega)).trans ho11
      have hac := (hn19 _ (by omega)).trans hac
      have ha7 := (hn19 _ (by omega)).trans ha7
      have hT := (hn19 _ (by omega)).trans hT
      have hL := hL.mv (w2 := w18) (fun q h1 h2 => hn19 q (by omega))
      have hH := hH.mv (w2 := w18) (fun q h1 h2 => hn19 q (by omega))
      refine lv_aload_n F.1 F.2.1 dX8_add_81 rfl (lv_at hl 1 rfl) ?_
      refine gf_RX8_22 F hW hY rfl dX8_add_82 ?_
      refine lv_iload F.1 F.2.1 dX8_add_85 (lv_at hl 5 rfl) ?_
      refine pf_RX8_186 F hW hS ho20 (Nat.le_of_ble_eq_true rfl) dX8_add_87 (fun w21 H locs ho23 hn22 hW hS => ?_)
      have ho23 : w21 (y + 51) = some (.inr (1, [.ref ((y + 51) + 1), .int (iI N), .int (iI sd), .int (iI x0), .int (iI y0), .int (iI co)])) := ho23
      have hY := (hn22 _ (by omega)).trans hY
      have hO := (hn22 _ (by omega)).trans hO
      have ho11 := (hn22 _ (by omega)).trans ho11
      have hac := (hn22 _ (by omega)).trans hac
      have ha7 := (hn22 _ (by omega)).trans ha7
      have hT := (hn22 _ (by omega)).trans hT
      have hL := hL.mv (w2 := w21) (fun q h1 h2 => hn22 q (by omega))
      have hH := hH.mv (w2 := w21) (fun q h1 h2 => hn22 q (by omega))
      refine lv_aload_n F.1 F.2.1 dX8_add_90 rfl (lv_at hl 1 rfl) ?_
      refine gf_RX8_22 F hW hY rfl dX8_add_91 ?_
      refine lv_iload_n F.1 F.2.1 dX8_add_94 rfl (lv_at hl 3 rfl) ?_
      refine lv_iload_n F.1 F.2.1 dX8_add_95 rfl (lv_at hl 4 rfl) ?_
      have hv2 : capV X w21 (y + 51) N sd x0 y0 co (wdZ f0 fb N 0 N) := ⟨ho23, ha7⟩
      refine cl_RX8_332 (As := [.int (iI xx), .int (iI yy)]) (rest := []) F hl (c_X1_putAt l X w21 (y + 51) N sd x0 y0 co (wdZ f0 fb N 0 N) xx yy hv2) hW hS ho23 rfl rfl ⟨Nat.le_of_ble_eq_true rfl, Nat.le_of_ble_eq_true rfl⟩ (Nat.le_of_ble_eq_true rfl) ⟨Nat.zero_le _, Nat.zero_le _⟩ dX8_add_96 (fun w24 H locs hp25 hW hS => ?_)
      obtain ⟨ho26, hn27⟩ := hp25
      have hY := (hn27 _ (by omega)).trans hY
      have hO := (hn27 _ (by omega)).trans hO
      have ho11 := (hn27 _ (by omega)).trans ho11
      have hac := (hn27 _ (by omega)).trans hac
      have ha7 := (hn27 _ (by omega)).trans ha7
      have hT := (hn27 _ (by omega)).trans hT
      have hL := hL.mv (w2 := w24) (fun q h1 h2 => hn27 q (by omega))
      have hH := hH.mv (w2 := w24) (fun q h1 h2 => hn27 q (by omega))
      have hv2 : capV X w24 (y + 51) N sd xx yy co (wdZ f0 fb N 0 N) := ⟨ho26, ha7⟩
      refine lv_aload_n F.1 F.2.1 dX8_add_99 rfl (lv_at hl 1 rfl) ?_
      refine gf_RX8_10 F hW hY rfl dX8_add_100 ?_
      refine gf_RX8_118 F hW hO rfl dX8_add_103 ?_
      refine h_bipush F dX8_add_106 rfl ?_
      refine h_iclt (tgt := 117) F dX8_add_108 (by decide) (by omega) (fun c28 => ?_) (fun c28 => ?_)
      · refine lv_aload_n F.1 F.2.1 dX8_add_117 rfl (lv_at hl 1 rfl) ?_
        refine h_iconst F dX8_add_118 ?_
        refine cl_RX8_377 (As := [.int (iI (-1))]) (rest := []) F hl (c_X8_reasonAgainstBox l X w24 y su σ N sd xx yy co (wdZ f0 fb N 0 N) (-1) hY hL hv2 (by omega) (by omega) (by omega) (by omega) (by omega)) hW hS hY rfl rfl ⟨Nat.le_of_ble_eq_true rfl, Nat.le_of_ble_eq_true rfl⟩ (Nat.le_of_ble_eq_true rfl) ⟨Nat.zero_le _, Nat.zero_le _⟩ dX8_add_119 (fun w1 H locs hp29 hW hS => ?_)
        rw [hp29] at hW; clear hp29; clear w1
        refine h_top (show (whyS σ N sd xx yy (-1) : Int) = r9 from hwy) ?_
        refine lv_istore (lv' := [(6, .int (iI r9)), (5, .int (iI (bz true))), (0, .ref y), (1, .int (iI sd)), (2, .int (iI xx)), (3, .int (iI yy)), (4, .int (iI co))]) F.1 F.2.1 dX8_add_122 hl (by decide) rfl (fun ls hl => ?_)
        refine lv_iload F.1 F.2.1 dX8_add_124 (lv_at hl 0 rfl) ?_
        refine h_ifeq (tgt := 136) F dX8_add_126 (by decide) (by omega) (fun c30 => ?_) (fun c30 => ?_)
        · exfalso; omega
        · refine lv_aload_n F.1 F.2.1 dX8_add_129 rfl (lv_at hl 2 rfl) ?_
          refine lv_iload F.1 F.2.1 dX8_add_130 (lv_at hl 0 rfl) ?_
          refine cl_RX8_374 (As := [.int (iI r9)]) (rest := []) F hl (c_X8_refuse l X w24 y su ac r9 hY hac (by omega)) hW hS hY rfl rfl ⟨Nat.le_of_ble_eq_true rfl, Nat.le_of_ble_eq_true rfl⟩ (Nat.le_of_ble_eq_true rfl) ⟨Nat.zero_le _, Nat.zero_le _⟩ dX8_add_132 (fun w31 H locs hp32 hW hS => ?_)
          obtain ⟨ha33, hn34⟩ := hp32
          have hY := (hn34 _ (by omega)).trans hY
          have hO := (hn34 _ (by omega)).trans hO
          have ho26 := (hn34 _ (by omega)).trans ho26
          have ho11 := (hn34 _ (by omega)).trans ho11
          have ha7 := (hn34 _ (by omega)).trans ha7
          have hT := (hn34 _ (by omega)).trans hT
          have hL := hL.mv (w2 := w31) (fun q h1 h2 => hn34 q (by omega))
          have hH := hH.mv (w2 := w31) (fun q h1 h2 => hn34 q (by omega))
          exact h_ireti F hr hlk hW hS ⟨ho26, ho11, ha7, ha33, (fun q h09 h19 h29 h39 => by rw [hn34 q (by omega), hn27 q (by omega), hn22 q (by omega), hn19 q (by omega), hn12 q (by omega), hn8 q (by omega) (by omega)])⟩ dX8_add_135
      · exfalso; omega
    · exfalso; omega
set_option maxHeartbeats 4000000 in
set_option maxRecDepth 100000 in
theorem c_X8_add (l : Launch) (X : Cx) (w : Wo) (y : Nat) (su : Int) (ac : Int → Int) (σ : Int → Int) (nx sz : Int) (pas : Int → Int → Int) (n0 sd0 x0 y0 co0 : Int) (f0 : Int → Int) (N : Int) (fb : Int → Int) (sd xx yy co : Int) (hY : clO X w y su) (hac : w (y + 305) = some (aZ X 9 ac)) (hL : loomAt X w (y + 1) σ) (hH : hisAt X w (y + 53) nx sz pas) (hv : capV X w (y + 51) n0 sd0 x0 y0 co0 f0) (hB : w (y + 307) = some (.inr (0, [.ref (y + 308), .int (iI N)]))) (hT : w (y + 308) = some (aZ X 400 fb)) (hN : 0 ≤ N ∧ N ≤ 400) (hfb : ∀ i, 0 ≤ i → i < N → 0 ≤ fb i ∧ fb i ≤ 255) (hw1 : (decide (1 ≤ N ∧ N ≤ 8) && al (fun i => decide (97 ≤ fb i ∧ fb i ≤ 122)) 0 N) = true) (hsd : sd = 0 ∨ sd = 1) (hco : 1 ≤ co ∧ co ≤ 6) (hx : -2147483648 ≤ xx ∧ xx < 2147483648) (hy : -2147483648 ≤ yy ∧ yy < 2147483648) (hop : σ 5 < 8) (hwy : whyS σ N sd xx yy (-1) = 0) : CM l X yX8_add cX8_add 7 (some (.int)) (rmk 5 128) [.ref y, .int (iI sd), .int (iI xx), .int (iI yy), .int (iI co)] w (some (.int (iI (σ 5)))) (fun w' => w' (y + 51) = some (.inr (1, [.ref ((y + 51) + 1), .int (iI N), .int (iI sd), .int (iI xx), .int (iI yy), .int (iI co)])) ∧ w' (y + 307) = some (.inr (0, [.ref (y + 308), .int (iI 0)])) ∧ w' ((y + 51) + 1) = some (aZ X 8 (wdZ f0 fb N 0 N)) ∧ w' (y + 305) = some (aZ X 9 (up ac 0 (ac 0 + 1))) ∧ hisAt X w' (y + 53) ((if nx = 8 then 0 else nx) + 1) (min 8 (sz + 1)) (keepP sz pas σ) ∧ loomAt X w' (y + 1) (adS σ N sd xx yy co fb) ∧ ∀ q : Nat, q ≠ y + 305 → q ≠ y + 307 → q ≠ y + 51 → q ≠ y + 51 + 1 → (q < y + 1 ∨ y + 1 + 25 ≤ q) → (q < y + 53 ∨ y + 255 ≤ q) → w' q = w q) := by
  refine CM.of (lv := [(0, .ref y), (1, .int (iI sd)), (2, .int (iI xx)), (3, .int (iI yy)), (4, .int (iI co))]) (by decide) (Nat.le_of_ble_eq_true rfl) rfl (fun p e s m below meth c ls F hr hlk hin hW hS hl => ?_)
  have hZ0 := hW.2.2
  have hB9 := hW.1.2
  clear hin
  unfold clO at hY
  have hO := hL.1.o
  have hA := hL.1
  have hwf := hL.2.2
  have hF := hwf.1
  unfold WF0 at hF
  have hbx := hv.1
  have hba := hv.2
  have hw2 := hw1
  rw [Bool.and_eq_true] at hw2
  have hw3 := of_decide_eq_true hw2.1
  refine lv_aload_n F.1 F.2.1 dX8_add_0 rfl (lv_at hl 0 rfl) ?_
  refine cl_RX8_365 (As := []) (rest := []) F hl (c_X8_isWordOfText l X w y su N fb hY hB hT (by omega) hfb) hW hS hY rfl rfl ⟨Nat.le_of_ble_eq_true rfl, Nat.le_of_ble_eq_true rfl⟩ (Nat.le_of_ble_eq_true rfl) ⟨Nat.zero_le _, Nat.zero_le _⟩ dX8_add_1 (fun w1 H locs hp1 hW hS => ?_)
  rw [hp1] at hW; clear hp1; clear w1
  refine h_top (show (bz (decide (1 ≤ N ∧ N ≤ 8) && al (fun i => decide (97 ≤ fb i ∧ fb i ≤ 122)) 0 N) : Int) = bz true from congrArg bz hw1) ?_
  refine lv_istore (lv' := [(5, .int (iI (bz true))), (0, .ref y), (1, .int (iI sd)), (2, .int (iI xx)), (3, .int (iI yy)), (4, .int (iI co))]) F.1 F.2.1 dX8_add_4 hl (by decide) rfl (fun ls hl => ?_)
  refine lv_iload F.1 F.2.1 dX8_add_6 (lv_at hl 0 rfl) ?_
  refine h_top (show (bz true : Int) = 1 from rfl) ?_
  refine h_ifeq (tgt := 30) F dX8_add_8 (by decide) (by decide) (fun c9 => absurd c9 (by decide)) (fun _ => ?_)
  refine lv_aload_n F.1 F.2.1 dX8_add_11 rfl (lv_at hl 1 rfl) ?_
  refine gf_RX8_22 F hW hY rfl dX8_add_12 ?_
  refine lv_aload_n F.1 F.2.1 dX8_add_15 rfl (lv_at hl 1 rfl) ?_
  refine gf_RX8_49 F hW hY rfl dX8_add_16 ?_
  refine h_iconst F dX8_add_19 ?_
  refine lv_aload_n F.1 F.2.1 dX8_add_20 rfl (lv_at hl 1 rfl) ?_
  refine gf_RX8_49 F hW hY rfl dX8_add_21 ?_
  refine cl_RX8_81 (As := []) (rest := [.int (iI 0), .ref (y + 307), .ref (y + 51)]) F hl (c_X0_size l X w (y + 307) (y + 308) N fb hB hT) hW hS hB rfl rfl ⟨Nat.le_of_ble_eq_true rfl, Nat.le_of_ble_eq_true rfl⟩ (Nat.le_of_ble_eq_true rfl) ⟨Nat.zero_le _, Nat.zero_le _⟩ dX8_add_24 (fun w1 H locs hp3 hW hS => ?_)
  rw [hp3] at hW; clear hp3; clear w1
  refine cl_RX8_368 (As := [.ref (y + 307), .int (iI 0), .int (iI N)]) (rest := []) F hl (c_X1_takeWord l X w (y + 51) n0 sd0 x0 y0 co0 f0 (y + 307) (y + 308) N fb 0 N hv hB hT (by omega) (by omega)) hW hS hbx rfl rfl ⟨Nat.le_of_ble_eq_true rfl, Nat.le_of_ble_eq_true rfl⟩ (Nat.le_of_ble_eq_true rfl) ⟨Nat.zero_le _, Nat.zero_le _⟩ dX8_add_27 (fun w4 H locs hp5 hW hS => ?_)
  obtain ⟨ho6, ha7, hn8⟩ := hp5
  have hY := (hn8 _ (by omega) (by omega)).trans hY
  have hO := (hn8 _ (by omega) (by omega)).trans hO
  have hB := (hn8 _ (by omega) (by omega)).trans hB
  have hac := (hn8 _ (by omega) (by omega)).trans hac
  have hT := (hn8 _ (by omega) (by omega)).trans hT
  have hL := hL.mv (w2 := w4) (fun q h1 h2 => hn8 q (by omega) (by omega))
  have hH := hH.mv (w2 := w4) (fun q h1 h2 => hn8 q (by omega) (by omega))
  have e8 : min (N - 0) 8 = N := by omega
  rw [e8] at ho6 ha7
  refine lv_aload_n F.1 F.2.1 dX8_add_30 rfl (lv_at hl 1 rfl) ?_
  refine gf_RX8_49 F hW hY rfl dX8_add_31 ?_
  refine h_iconst F dX8_add_34 ?_
  refine cl_RX8_101 (As := [.int (iI 0)]) (rest := []) F hl (c_X0_cutTo l X w4 (y + 307) (y + 308) N fb 0 hB hT (by omega)) hW hS hB rfl rfl ⟨Nat.le_of_ble_eq_true rfl, Nat.le_of_ble_eq_true rfl⟩ (Nat.le_of_ble_eq_true rfl) ⟨Nat.zero_le _, Nat.zero_le _⟩ dX8_add_35 (fun w9 H locs hp10 hW hS => ?_)
  obtain ⟨ho11, hn12⟩ := hp10
  have hY := (hn12 _ (by omega)).trans hY
  have hO := (hn12 _ (by omega)).trans hO
  have ho6 := (hn12 _ (by omega)).trans ho6
  have hac := (hn12 _ (by omega)).trans hac
  have ha7 := (hn12 _ (by omega)).trans ha7
  have hT := (hn12 _ (by omega)).trans hT
  have hL := hL.mv (w2 := w9) (fun q h1 h2 => hn12 q (by omega))
  have hH := hH.mv (w2 := w9) (fun q h1 h2 => hn12 q (by omega))
  refine lv_iload F.1 F.2.1 dX8_add_38 (lv_at hl 0 rfl) ?_
  refine h_top (show (bz true : Int) = 1 from rfl) ?_
  refine h_ifeq (tgt := 62) F dX8_add_40 (by decide) (by decide) (fun c9 => absurd c9 (by decide)) (fun _ => ?_)
  refine lv_iload_n F.1 F.2.1 dX8_add_43 rfl (lv_at hl 2 rfl) ?_
  refine cl_RX8_327 (As := [.int (iI sd)]) (rest := []) F hl (c_X8_isSide l X w9 sd (by omega)) hW hS rfl rfl ⟨Nat.le_of_ble_eq_true rfl, Nat.le_of_ble_eq_true rfl⟩ (Nat.le_of_ble_eq_true rfl) ⟨Nat.zero_le _, Nat.zero_le _⟩ dX8_add_44 (fun w1 H locs hp14 hW hS => ?_)
  rw [hp14] at hW; clear hp14; clear w1
  refine h_top (show (bz (decide (sd = 0 ∨ sd = 1)) : Int) = bz true from congrArg bz (decide_eq_true (by omega))) ?_
  refine h_ifeqb (tgt := 62) F dX8_add_47 (by decide) (fun c9 => absurd c9 (by decide)) (fun _ => ?_)
  refine lv_iload F.1 F.2.1 dX8_add_50 (lv_at hl 5 rfl) ?_
  refine h_ifle (tgt := 62) F dX8_add_52 (by decide) (by omega) (fun c16 => ?_) (fun c16 => ?_)
  · exfalso; omega
  · refine lv_iload F.1 F.2.1 dX8_add_55 (lv_at hl 5 rfl) ?_
    refine h_bipush F dX8_add_57 rfl ?_
    refine h_iclt (tgt := 73) F dX8_add_59 (by decide) (by omega) (fun c17 => ?_) (fun c17 => ?_)
    · refine lv_aload_n F.1 F.2.1 dX8_add_73 rfl (lv_at hl 1 rfl) ?_
      refine gf_RX8_22 F hW hY rfl dX8_add_74 ?_
      refine lv_iload_n F.1 F.2.1 dX8_add_77 rfl (lv_at hl 2 rfl) ?_
      refine pf_RX8_177 F hW hS ho6 (Nat.le_of_ble_eq_true rfl) dX8_add_78 (fun w18 H locs ho20 hn19 hW hS => ?_)
      have ho20 : w18 (y + 51) = some (.inr (1, [.ref ((y + 51) + 1), .int (iI N), .int (iI sd), .int (iI x0), .int (iI y0), .int (iI co0)])) := ho20
      have hY := (hn19 _ (by omega)).trans hY
      have hO := (hn19 _ (by omega)).trans hO
      have ho11 := (hn19 _ (by omega)).trans ho11
      have hac := (hn19 _ (by omega)).trans hac
      have ha7 := (hn19 _ (by omega)).trans ha7
      have hT := (hn19 _ (by omega)).trans hT
      have hL := hL.mv (w2 := w18) (fun q h1 h2 => hn19 q (by omega))
      have hH := hH.mv (w2 := w18) (fun q h1 h2 => hn19 q (by omega))
      refine lv_aload_n F.1 F.2.1 dX8_add_81 rfl (lv_at hl 1 rfl) ?_
      refine gf_RX8_22 F hW hY rfl dX8_add_82 ?_
      refine lv_iload F.1 F.2.1 dX8_add_85 (lv_at hl 5 rfl) ?_
      refine pf_RX8_186 F hW hS ho20 (Nat.le_of_ble_eq_true rfl) dX8_add_87 (fun w21 H locs ho23 hn22 hW hS => ?_)
      have ho23 : w21 (y + 51) = some (.inr (1, [.ref ((y + 51) + 1), .int (iI N), .int (iI sd), .int (iI x0), .int (iI y0), .int (iI co)])) := ho23
      have hY := (hn22 _ (by omega)).trans hY
      have hO := (hn22 _ (by omega)).trans hO
      have ho11 := (hn22 _ (by omega)).trans ho11
      have hac := (hn22 _ (by omega)).trans hac
      have ha7 := (hn22 _ (by omega)).trans ha7
      have hT := (hn22 _ (by omega)).trans hT
      have hL := hL.mv (w2 := w21) (fun q h1 h2 => hn22 q (by omega))
      have hH := hH.mv (w2 := w21) (fun q h1 h2 => hn22 q (by omega))
      refine lv_aload_n F.1 F.2.1 dX8_add_90 rfl (lv_at hl 1 rfl) ?_
      refine gf_RX8_22 F hW hY rfl dX8_add_91 ?_
      refine lv_iload_n F.1 F.2.1 dX8_add_94 rfl (lv_at hl 3 rfl) ?_
      refine lv_iload_n F.1 F.2.1 dX8_add_95 rfl (lv_at hl 4 rfl) ?_
      have hv2 : capV X w21 (y + 51) N sd x0 y0 co (wdZ f0 fb N 0 N) := ⟨ho23, ha7⟩
      refine cl_RX8_332 (As := [.int (iI xx), .int (iI yy)]) (rest := []) F hl (c_X1_putAt l X w21 (y + 51) N sd x0 y0 co (wdZ f0 fb N 0 N) xx yy hv2) hW hS ho23 rfl rfl ⟨Nat.le_of_ble_eq_true rfl, Nat.le_of_ble_eq_true rfl⟩ (Nat.le_of_ble_eq_true rfl) ⟨Nat.zero_le _, Nat.zero_le _⟩ dX8_add_96 (fun w24 H locs hp25 hW hS => ?_)
      obtain ⟨ho26, hn27⟩ := hp25
      have hY := (hn27 _ (by omega)).trans hY
      have hO := (hn27 _ (by omega)).trans hO
      have ho11 := (hn27 _ (by omega)).trans ho11
      have hac := (hn27 _ (by omega)).trans hac
      have ha7 := (hn27 _ (by omega)).trans ha7
      have hT := (hn27 _ (by omega)).trans hT
      have hL := hL.mv (w2 := w24) (fun q h1 h2 => hn27 q (by omega))
      have hH := hH.mv (w2 := w24) (fun q h1 h2 => hn27 q (by omega))
      have hv2 : capV X w24 (y + 51) N sd xx yy co (wdZ f0 fb N 0 N) := ⟨ho26, ha7⟩
      refine lv_aload_n F.1 F.2.1 dX8_add_99 rfl (lv_at hl 1 rfl) ?_
      refine gf_RX8_10 F hW hY rfl dX8_add_100 ?_
      refine gf_RX8_118 F hW hO rfl dX8_add_103 ?_
      refine h_bipush F dX8_add_106 rfl ?_
      refine h_iclt (tgt := 117) F dX8_add_108 (by decide) (by omega) (fun c28 => ?_) (fun c28 => ?_)
      · refine lv_aload_n F.1 F.2.1 dX8_add_117 rfl (lv_at hl 1 rfl) ?_
        refine h_iconst F dX8_add_118 ?_
        refine cl_RX8_377 (As := [.int (iI (-1))]) (rest := []) F hl (c_X8_reasonAgainstBox l X w24 y su σ N sd xx yy co (wdZ f0 fb N 0 N) (-1) hY hL hv2 (by omega) (by omega) (by omega) (by omega) (by omega)) hW hS hY rfl rfl ⟨Nat.le_of_ble_eq_true rfl, Nat.le_of_ble_eq_true rfl⟩ (Nat.le_of_ble_eq_true rfl) ⟨Nat.zero_le _, Nat.zero_le _⟩ dX8_add_119 (fun w1 H locs hp29 hW hS => ?_)
        rw [hp29] at hW; clear hp29; clear w1
        refine h_top (show (whyS σ N sd xx yy (-1) : Int) = 0 from hwy) ?_
        refine lv_istore (lv' := [(6, .int (iI 0)), (5, .int (iI (bz true))), (0, .ref y), (1, .int (iI sd)), (2, .int (iI xx)), (3, .int (iI yy)), (4, .int (iI co))]) F.1 F.2.1 dX8_add_122 hl (by decide) rfl (fun ls hl => ?_)
        refine lv_iload F.1 F.2.1 dX8_add_124 (lv_at hl 0 rfl) ?_
        refine h_ifeq (tgt := 136) F dX8_add_126 (by decide) (by decide) (fun _ => ?_) (fun c9 => absurd c9 (by decide))
        refine lv_aload_n F.1 F.2.1 dX8_add_136 rfl (lv_at hl 2 rfl) ?_
        refine cl_RX8_380 (As := []) (rest := []) F hl (c_X8_beginAct l X w24 y su ac σ nx sz pas hY hac hL hH) hW hS hY rfl rfl ⟨Nat.le_of_ble_eq_true rfl, Nat.le_of_ble_eq_true rfl⟩ (Nat.le_of_ble_eq_true rfl) ⟨Nat.zero_le _, Nat.zero_le _⟩ dX8_add_137 (fun w31 H locs hp32 hW hS => ?_)
        obtain ⟨ha33, hmB, hn34⟩ := hp32
        have hY := (hn34 _ (by omega) (by omega)).trans hY
        have hO := (hn34 _ (by omega) (by omega)).trans hO
        have ho26 := (hn34 _ (by omega) (by omega)).trans ho26
        have ho11 := (hn34 _ (by omega) (by omega)).trans ho11
        have ha7 := (hn34 _ (by omega) (by omega)).trans ha7
        have hT := (hn34 _ (by omega) (by omega)).trans hT
        have hL := hL.mv (w2 := w31) (fun q h1 h2 => hn34 q (by omega) (by omega))
        refine lv_aload_n F.1 F.2.1 dX8_add_140 rfl (lv_at hl 2 rfl) ?_
        refine gf_RX8_10 F hW hY rfl dX8_add_141 ?_
        refine lv_aload_n F.1 F.2.1 dX8_add_144 rfl (lv_at hl 2 rfl) ?_
        refine gf_RX8_22 F hW hY rfl dX8_add_145 ?_
        have hfw : ∀ j, 0 ≤ j → j < N → (wdZ f0 fb N 0 N) j = fb j - 97 + 1 := fun j j0 j1 => by unfold wdZ byS; rw [if_pos (by omega), if_pos (by omega), show 0 + j = j by omega]
        have hfr : ∀ j, 0 ≤ j → j < N → 1 ≤ (wdZ f0 fb N 0 N) j ∧ (wdZ f0 fb N 0 N) j ≤ 26 := fun j j0 j1 => by rw [hfw j j0 j1]; have h9 := of_decide_eq_true (al_iff.mp hw2.2 j j0 j1); omega
        have hdR := ad_R (sd := sd) (x := xx) (y := yy) (co := co) (tx := fb) hwf.cap8 (by omega) (by omega) hfw
        have hWt := hang_WF hwf (by omega) hdR (by omega) hsd hco hfr hwy
        have hv2 : capV X w31 (y + 51) N sd xx yy co (wdZ f0 fb N 0 N) := ⟨ho26, ha7⟩
        refine cl_RX8_383 (As := [.ref (y + 51)]) (rest := []) F hl (c_X5_hang l X w31 (y + 1) σ (adS σ N sd xx yy co fb) (y + 51) N sd xx yy co (wdZ f0 fb N 0 N) hL.1 hwf.cap8 (by omega) hv2 (by omega) (by omega) (by omega) hdR) hW hS hO rfl rfl ⟨Nat.le_of_ble_eq_true rfl, Nat.le_of_ble_eq_true rfl⟩ (Nat.le_of_ble_eq_true rfl) ⟨Nat.zero_le _, Nat.zero_le _⟩ dX8_add_148 (fun w35 H locs hp36 hW hS => ?_)
        obtain ⟨hAh, hn37⟩ := hp36
        have hY := (hn37 _ (by omega) (by omega)).trans hY
        have ho26 := (hn37 _ (by omega) (by omega)).trans ho26
        have ho11 := (hn37 _ (by omega) (by omega)).trans ho11
        have ha33 := (hn37 _ (by omega) (by omega)).trans ha33
        have ha7 := (hn37 _ (by omega) (by omega)).trans ha7
        have hT := (hn37 _ (by omega) (by omega)).trans hT
        have hmB := hmB.mv (w2 := w35) (fun q h1 h2 => hn37 q (by omega) (by omega))
        have hO2 := hAh.o
        refine lv_aload_n F.1 F.2.1 dX8_add_151 rfl (lv_at hl 2 rfl) ?_
        refine gf_RX8_10 F hW hY rfl dX8_add_152 ?_
        refine cl_RX8_108 (As := []) (rest := []) F hl (c_X5_paint l X w35 (y + 1) (adS σ N sd xx yy co fb) hAh hWt) hW hS hO2 rfl rfl ⟨Nat.le_of_ble_eq_true rfl, Nat.le_of_ble_eq_true rfl⟩ (Nat.le_of_ble_eq_true rfl) ⟨Nat.zero_le _, Nat.zero_le _⟩ dX8_add_155 (fun w38 H locs hp39 hW hS => ?_)
        obtain ⟨hLf, hn40⟩ := hp39
        have hY := (hn40 _ (by omega)).trans hY
        have ho26 := (hn40 _ (by omega)).trans ho26
        have ho11 := (hn40 _ (by omega)).trans ho11
        have ha33 := (hn40 _ (by omega)).trans ha33
        have ha7 := (hn40 _ (by omega)).trans ha7
        have hT := (hn40 _ (by omega)).trans hT
        have hmB := hmB.mv (w2 := w38) (fun q h1 h2 => hn40 q (by omega))
        have hO3 := hLf.1.o
        refine lv_aload_n F.1 F.2.1 dX8_add_158 rfl (lv_at hl 2 rfl) ?_
        refine gf_RX8_10 F hW hY rfl dX8_add_159 ?_
        refine gf_RX8_118 F hW hO3 rfl dX8_add_162 ?_
        refine h_iconst F dX8_add_165 ?_
        refine h_isub (a := (adS σ N sd xx yy co fb) 5) (b := 1) F dX8_add_166 ?_
        refine h_top (show (((adS σ N sd xx yy co fb) 5) - 1 : Int) = σ 5 from by rw [show (adS σ N sd xx yy co fb) 5 = σ 5 + 1 from up_s _ _ _]; omega) ?_
        exact h_ireti F hr hlk hW hS ⟨ho26, ho11, ha7, ha33, hmB, hLf, (fun q h09 h19 h29 h39 h49 h59 => by rw [hn40 q (by omega), hn37 q (by omega) (by omega), hn34 q (by omega) (by omega), hn27 q (by omega), hn22 q (by omega), hn19 q (by omega), hn12 q (by omega), hn8 q (by omega) (by omega)])⟩ dX8_add_167
      · exfalso; omega
    · exfalso; omega
set_option maxHeartbeats 4000000 in
set_option maxRecDepth 100000 in
theorem c_X8_drop (l : Launch) (X : Cx) (w : Wo) (y : Nat) (su : Int) (ac : Int → Int) (σ : Int → Int) (nx sz : Int) (pas : Int → Int → Int) (k : Int) (hY : clO X w y su) (hac : w (y + 305) = some (aZ X 9 ac)) (hL : loomAt X w (y + 1) σ) (hH : hisAt X w (y + 53) nx sz pas) (hk : 0 ≤ k ∧ k < σ 5) : CM l X yX8_drop cX8_drop 2 (some (.int)) (rmk 5 128) [.ref y, .int (iI k)] w (some (.int (iI (σ 5 - 1)))) (fun w' => w' (y + 305) = some (aZ X 9 (up ac 0 (ac 0 + 1))) ∧ hisAt X w' (y + 53) ((if nx = 8 then 0 else nx) + 1) (min 8 (sz + 1)) (keepP sz pas σ) ∧ loomAt X w' (y + 1) (drpS σ k) ∧ ∀ q : Nat, q ≠ y + 305 → (q < y + 1 ∨ y + 1 + 25 ≤ q) → (q < y + 53 ∨ y + 255 ≤ q) → w' q = w q) := by
  refine CM.of (lv := [(0, .ref y), (1, .int (iI k))]) (by decide) (Nat.le_of_ble_eq_true rfl) rfl (fun p e s m below meth c ls F hr hlk hin hW hS hl => ?_)
  have hZ0 := hW.2.2
  have hB9 := hW.1.2
  clear hin
  unfold clO at hY
  have hO := hL.1.o
  have hA := hL.1
  have hwf := hL.2.2
  have hF := hwf.1
  unfold WF0 at hF
  refine lv_aload_n F.1 F.2.1 dX8_drop_0 rfl (lv_at hl 0 rfl) ?_
  refine lv_iload_n F.1 F.2.1 dX8_drop_1 rfl (lv_at hl 1 rfl) ?_
  refine cl_RX8_167 (As := [.int (iI k)]) (rest := []) F hl (c_X8_checkCaption l X w y su σ k hY hL (by omega)) hW hS hY rfl rfl ⟨Nat.le_of_ble_eq_true rfl, Nat.le_of_ble_eq_true rfl⟩ (Nat.le_of_ble_eq_true rfl) ⟨Nat.zero_le _, Nat.zero_le _⟩ dX8_drop_2 (fun w1 H locs hp1 hW hS => ?_)
  rw [hp1] at hW; clear hp1; clear w1
  refine lv_aload_n F.1 F.2.1 dX8_drop_5 rfl (lv_at hl 0 rfl) ?_
  refine cl_RX8_380 (As := []) (rest := []) F hl (c_X8_beginAct l X w y su ac σ nx sz pas hY hac hL hH) hW hS hY rfl rfl ⟨Nat.le_of_ble_eq_true rfl, Nat.le_of_ble_eq_true rfl⟩ (Nat.le_of_ble_eq_true rfl) ⟨Nat.zero_le _, Nat.zero_le _⟩ dX8_drop_6 (fun w2 H locs hp3 hW hS => ?_)
  obtain ⟨ha4, hmB, hn5⟩ := hp3
  have hY := (hn5 _ (by omega) (by omega)).trans hY
  have hO := (hn5 _ (by omega) (by omega)).trans hO
  have hL := hL.mv (w2 := w2) (fun q h1 h2 => hn5 q (by omega) (by omega))
  refine lv_aload_n F.1 F.2.1 dX8_drop_9 rfl (lv_at hl 0 rfl) ?_
  refine gf_RX8_10 F hW hY rfl dX8_drop_10 ?_
  refine lv_iload_n F.1 F.2.1 dX8_drop_13 rfl (lv_at hl 1 rfl) ?_
  have hdR := drp_R (k := k) hwf.cap8 (by omega)
  have hWt := drp_WF hwf (by omega) hdR
  refine cl_RX8_387 (As := [.int (iI k)]) (rest := []) F hl (c_X5_takeAway l X w2 (y + 1) σ (drpS σ k) k hL.1 hwf.cap8 (by omega) (by omega) hdR) hW hS hO rfl rfl ⟨Nat.le_of_ble_eq_true rfl, Nat.le_of_ble_eq_true rfl⟩ (Nat.le_of_ble_eq_true rfl) ⟨Nat.zero_le _, Nat.zero_le _⟩ dX8_drop_14 (fun w6 H locs hp7 hW hS => ?_)
  obtain ⟨hAh, hn8⟩ := hp7
  have hY := (hn8 _ (by omega) (by omega)).trans hY
  have ha4 := (hn8 _ (by omega) (by omega)).trans ha4
  have hmB := hmB.mv (w2 := w6) (fun q h1 h2 => hn8 q (by omega) (by omega))
  have hO2 := hAh.o
  refine lv_aload_n F.1 F.2.1 dX8_drop_17 rfl (lv_at hl 0 rfl) ?_
  refine gf_RX8_10 F hW hY rfl dX8_drop_18 ?_
  refine cl_RX8_108 (As := []) (rest := []) F hl (c_X5_paint l X w6 (y + 1) (drpS σ k) hAh hWt) hW hS hO2 rfl rfl ⟨Nat.le_of_ble_eq_true rfl, Nat.le_of_ble_eq_true rfl⟩ (Nat.le_of_ble_eq_true rfl) ⟨Nat.zero_le _, Nat.zero_le _⟩ dX8_drop_21 (fun w9 H locs hp10 hW hS => ?_)
  obtain ⟨hLf, hn11⟩ := hp10
  have hY := (hn11 _ (by omega)).trans hY
  have ha4 := (hn11 _ (by omega)).trans ha4
  have hmB := hmB.mv (w2 := w9) (fun q h1 h2 => hn11 q (by omega))
  have hO3 := hLf.1.o
  refine lv_aload_n F.1 F.2.1 dX8_drop_24 rfl (lv_at hl 0 rfl) ?_
  refine gf_RX8_10 F hW hY rfl dX8_drop_25 ?_
  refine gf_RX8_118 F hW hO3 rfl dX8_drop_28 ?_
  refine h_top (show ((drpS σ k) 5 : Int) = σ 5 - 1 from up_s _ _ _) ?_
  exact h_ireti F hr hlk hW hS ⟨ha4, hmB, hLf, (fun q h09 h19 h29 => by rw [hn11 q (by omega), hn8 q (by omega) (by omega), hn5 q (by omega) (by omega)])⟩ dX8_drop_31
set_option maxHeartbeats 4000000 in
set_option maxRecDepth 100000 in
theorem c_move_r (l : Launch) (X : Cx) (w : Wo) (y : Nat) (su : Int) (ac : Int → Int) (σ : Int → Int) (nx sz : Int) (pas : Int → Int → Int) (n0 sd0 x0 y0 co0 : Int) (f0 : Int → Int) (k xx yy : Int) (r9 : Int) (hY : clO X w y su) (hac : w (y + 305) = some (aZ X 9 ac)) (hL : loomAt X w (y + 1) σ) (hH : hisAt X w (y + 53) nx sz pas) (hv : capV X w (y + 51) n0 sd0 x0 y0 co0 f0) (hk : 0 ≤ k ∧ k < σ 5) (hx : -2147483648 ≤ xx ∧ xx < 2147483648) (hy : -2147483648 ≤ yy ∧ yy < 2147483648) (hwy : whyS σ (cp σ k 0) (cp σ k 1) xx yy k = r9) (hr9 : r9 = 5 ∨ r9 = 6) : CM l X yX8_move cX8_move 5 (some (.int)) (rmk 5 128) [.ref y, .int (iI k), .int (iI xx), .int (iI yy)] w (some (.int (iI (-r9)))) (fun w' => w' (y + 51) = some (.inr (1, [.ref ((y + 51) + 1), .int (iI (cp σ k 0)), .int (iI (cp σ k 1)), .int (iI xx), .int (iI yy), .int (iI (cp σ k 4))])) ∧ w' (y + 305) = some (aZ X 9 (up ac r9 (ac r9 + 1))) ∧ (∃ f9, w' (y + 51 + 1) = some (aZ X 8 f9)) ∧ ∀ q : Nat, q ≠ y + 305 → q ≠ y + 51 → q ≠ y + 51 + 1 → w' q = w q) := by
  refine CM.of (lv := [(0, .ref y), (1, .int (iI k)), (2, .int (iI xx)), (3, .int (iI yy))]) (by decide) (Nat.le_of_ble_eq_true rfl) rfl (fun p e s m below meth c ls F hr hlk hin hW hS hl => ?_)
  have hZ0 := hW.2.2
  have hB9 := hW.1.2
  clear hin
  unfold clO at hY
  have hO := hL.1.o
  have hA := hL.1
  have hwf := hL.2.2
  have hF := hwf.1
  unfold WF0 at hF
  have hbx := hv.1
  have hba := hv.2
  obtain ⟨m1, m2, m3, m4, m5, m6⟩ := hwf.2.2.1 k (by omega) (by omega)
  refine lv_aload_n F.1 F.2.1 dX8_move_0 rfl (lv_at hl 0 rfl) ?_
  refine lv_iload_n F.1 F.2.1 dX8_move_1 rfl (lv_at hl 1 rfl) ?_
  refine cl_RX8_167 (As := [.int (iI k)]) (rest := []) F hl (c_X8_checkCaption l X w y su σ k hY hL (by omega)) hW hS hY rfl rfl ⟨Nat.le_of_ble_eq_true rfl, Nat.le_of_ble_eq_true rfl⟩ (Nat.le_of_ble_eq_true rfl) ⟨Nat.zero_le _, Nat.zero_le _⟩ dX8_move_2 (fun w1 H locs hp1 hW hS => ?_)
  rw [hp1] at hW; clear hp1; clear w1
  refine lv_aload_n F.1 F.2.1 dX8_move_5 rfl (lv_at hl 0 rfl) ?_
  refine gf_RX8_22 F hW hY rfl dX8_move_6 ?_
  refine lv_aload_n F.1 F.2.1 dX8_move_9 rfl (lv_at hl 0 rfl) ?_
  refine gf_RX8_10 F hW hY rfl dX8_move_10 ?_
  refine lv_iload_n F.1 F.2.1 dX8_move_13 rfl (lv_at hl 1 rfl) ?_
  refine cl_RX8_170 (As := [.int (iI k)]) (rest := [.ref (y + 51)]) F hl (c_X5_captionAt l X w (y + 1) σ k hA hwf (by omega)) hW hS hO rfl rfl ⟨Nat.le_of_ble_eq_true rfl, Nat.le_of_ble_eq_true rfl⟩ (Nat.le_of_ble_eq_true rfl) ⟨Nat.zero_le _, Nat.zero_le _⟩ dX8_move_14 (fun w1 H locs hp2 hW hS => ?_)
  rw [hp2] at hW; clear hp2; clear w1
  have hq := hL.1.cap k (by omega) (by omega)
  obtain ⟨fk, hqv, hqf⟩ := hq
  have hqo := hqv.1
  refine cl_RX8_390 (As := [.ref ((y + 1) + 9 + 2 * k.toNat)]) (rest := []) F hl (c_X1_copyFrom l X w (y + 51) n0 sd0 x0 y0 co0 f0 ((y + 1) + 9 + 2 * k.toNat) (cp σ k 0) (cp σ k 1) (cp σ k 2) (cp σ k 3) (cp σ k 4) fk hv hqv (by omega)) hW hS hbx rfl rfl ⟨Nat.le_of_ble_eq_true rfl, Nat.le_of_ble_eq_true rfl⟩ (Nat.le_of_ble_eq_true rfl) ⟨Nat.zero_le _, Nat.zero_le _⟩ dX8_move_17 (fun w3 H locs hp4 hW hS => ?_)
  obtain ⟨ho5, ha6, hn7⟩ := hp4
  have hY := (hn7 _ (by omega) (by omega)).trans hY
  have hO := (hn7 _ (by omega) (by omega)).trans hO
  have hqo := (hn7 _ (by omega) (by omega)).trans hqo
  have hac := (hn7 _ (by omega) (by omega)).trans hac
  have hL := hL.mv (w2 := w3) (fun q h1 h2 => hn7 q (by omega) (by omega))
  have hH := hH.mv (w2 := w3) (fun q h1 h2 => hn7 q (by omega) (by omega))
  refine lv_aload_n F.1 F.2.1 dX8_move_20 rfl (lv_at hl 0 rfl) ?_
  refine gf_RX8_22 F hW hY rfl dX8_move_21 ?_
  refine lv_iload_n F.1 F.2.1 dX8_move_24 rfl (lv_at hl 2 rfl) ?_
  refine lv_iload_n F.1 F.2.1 dX8_move_25 rfl (lv_at hl 3 rfl) ?_
  have hv2 : capV X w3 (y + 51) (cp σ k 0) (cp σ k 1) (cp σ k 2) (cp σ k 3) (cp σ k 4) (cpZ fk f0 8) := ⟨ho5, ha6⟩
  refine cl_RX8_332 (As := [.int (iI xx), .int (iI yy)]) (rest := []) F hl (c_X1_putAt l X w3 (y + 51) (cp σ k 0) (cp σ k 1) (cp σ k 2) (cp σ k 3) (cp σ k 4) (cpZ fk f0 8) xx yy hv2) hW hS ho5 rfl rfl ⟨Nat.le_of_ble_eq_true rfl, Nat.le_of_ble_eq_true rfl⟩ (Nat.le_of_ble_eq_true rfl) ⟨Nat.zero_le _, Nat.zero_le _⟩ dX8_move_26 (fun w8 H locs hp9 hW hS => ?_)
  obtain ⟨ho10, hn11⟩ := hp9
  have hY := (hn11 _ (by omega)).trans hY
  have hO := (hn11 _ (by omega)).trans hO
  have hqo := (hn11 _ (by omega)).trans hqo
  have hac := (hn11 _ (by omega)).trans hac
  have ha6 := (hn11 _ (by omega)).trans ha6
  have hL := hL.mv (w2 := w8) (fun q h1 h2 => hn11 q (by omega))
  have hH := hH.mv (w2 := w8) (fun q h1 h2 => hn11 q (by omega))
  refine lv_aload_n F.1 F.2.1 dX8_move_29 rfl (lv_at hl 0 rfl) ?_
  refine lv_iload_n F.1 F.2.1 dX8_move_30 rfl (lv_at hl 1 rfl) ?_
  have hv2 : capV X w8 (y + 51) (cp σ k 0) (cp σ k 1) xx yy (cp σ k 4) (cpZ fk f0 8) := ⟨ho10, ha6⟩
  refine cl_RX8_377 (As := [.int (iI k)]) (rest := []) F hl (c_X8_reasonAgainstBox l X w8 y su σ (cp σ k 0) (cp σ k 1) xx yy (cp σ k 4) (cpZ fk f0 8) k hY hL hv2 (by omega) (by omega) (by omega) (by omega) (by omega)) hW hS hY rfl rfl ⟨Nat.le_of_ble_eq_true rfl, Nat.le_of_ble_eq_true rfl⟩ (Nat.le_of_ble_eq_true rfl) ⟨Nat.zero_le _, Nat.zero_le _⟩ dX8_move_31 (fun w1 H locs hp12 hW hS => ?_)
  rw [hp12] at hW; clear hp12; clear w1
  refine h_top (show (whyS σ (cp σ k 0) (cp σ k 1) xx yy k : Int) = r9 from hwy) ?_
  refine lv_istore (lv' := [(4, .int (iI r9)), (0, .ref y), (1, .int (iI k)), (2, .int (iI xx)), (3, .int (iI yy))]) F.1 F.2.1 dX8_move_34 hl (by decide) rfl (fun ls hl => ?_)
  refine lv_iload F.1 F.2.1 dX8_move_36 (lv_at hl 0 rfl) ?_
  refine h_ifeq (tgt := 48) F dX8_move_38 (by decide) (by omega) (fun c13 => ?_) (fun c13 => ?_)
  · exfalso; omega
  · refine lv_aload_n F.1 F.2.1 dX8_move_41 rfl (lv_at hl 1 rfl) ?_
    refine lv_iload F.1 F.2.1 dX8_move_42 (lv_at hl 0 rfl) ?_
    refine cl_RX8_374 (As := [.int (iI r9)]) (rest := []) F hl (c_X8_refuse l X w8 y su ac r9 hY hac (by omega)) hW hS hY rfl rfl ⟨Nat.le_of_ble_eq_true rfl, Nat.le_of_ble_eq_true rfl⟩ (Nat.le_of_ble_eq_true rfl) ⟨Nat.zero_le _, Nat.zero_le _⟩ dX8_move_44 (fun w14 H locs hp15 hW hS => ?_)
    obtain ⟨ha16, hn17⟩ := hp15
    have hY := (hn17 _ (by omega)).trans hY
    have hO := (hn17 _ (by omega)).trans hO
    have ho10 := (hn17 _ (by omega)).trans ho10
    have hqo := (hn17 _ (by omega)).trans hqo
    have ha6 := (hn17 _ (by omega)).trans ha6
    have hL := hL.mv (w2 := w14) (fun q h1 h2 => hn17 q (by omega))
    have hH := hH.mv (w2 := w14) (fun q h1 h2 => hn17 q (by omega))
    exact h_ireti F hr hlk hW hS ⟨ho10, ha16, ⟨_, ha6⟩, (fun q h09 h19 h29 => by rw [hn17 q (by omega), hn11 q (by omega), hn7 q (by omega) (by omega)])⟩ dX8_move_47
set_option maxHeartbeats 4000000 in
set_option maxRecDepth 100000 in
theorem c_X8_move (l : Launch) (X : Cx) (w : Wo) (y : Nat) (su : Int) (ac : Int → Int) (σ : Int → Int) (nx sz : Int) (pas : Int → Int → Int) (n0 sd0 x0 y0 co0 : Int) (f0 : Int → Int) (k xx yy : Int) (hY : clO X w y su) (hac : w (y + 305) = some (aZ X 9 ac)) (hL : loomAt X w (y + 1) σ) (hH : hisAt X w (y + 53) nx sz pas) (hv : capV X w (y + 51) n0 sd0 x0 y0 co0 f0) (hk : 0 ≤ k ∧ k < σ 5) (hx : -2147483648 ≤ xx ∧ xx < 2147483648) (hy : -2147483648 ≤ yy ∧ yy < 2147483648) (hwy : whyS σ (cp σ k 0) (cp σ k 1) xx yy k = 0) : CM l X yX8_move cX8_move 5 (some (.int)) (rmk 5 128) [.ref y, .int (iI k), .int (iI xx), .int (iI yy)] w (some (.int (iI (misFrom (movS σ k xx yy) 0)))) (fun w' => w' (y + 51) = some (.inr (1, [.ref ((y + 51) + 1), .int (iI (cp σ k 0)), .int (iI (cp σ k 1)), .int (iI xx), .int (iI yy), .int (iI (cp σ k 4))])) ∧ w' (y + 305) = some (aZ X 9 (up ac 0 (ac 0 + 1))) ∧ (∃ f9, w' (y + 51 + 1) = some (aZ X 8 f9)) ∧ hisAt X w' (y + 53) ((if nx = 8 then 0 else nx) + 1) (min 8 (sz + 1)) (keepP sz pas σ) ∧ loomAt X w' (y + 1) (movS σ k xx yy) ∧ ∀ q : Nat, q ≠ y + 305 → q ≠ y + 51 → q ≠ y + 51 + 1 → (q < y + 1 ∨ y + 1 + 25 ≤ q) → (q < y + 53 ∨ y + 255 ≤ q) → w' q = w q) := by
  refine CM.of (lv := [(0, .ref y), (1, .int (iI k)), (2, .int (iI xx)), (3, .int (iI yy))]) (by decide) (Nat.le_of_ble_eq_true rfl) rfl (fun p e s m below meth c ls F hr hlk hin hW hS hl => ?_)
  have hZ0 := hW.2.2
  have hB9 := hW.1.2
  clear hin
  unfold clO at hY
  have hO := hL.1.o
  have hA := hL.1
  have hwf := hL.2.2
  have hF := hwf.1
  unfold WF0 at hF
  have hbx := hv.1
  have hba := hv.2
  obtain ⟨m1, m2, m3, m4, m5, m6⟩ := hwf.2.2.1 k (by omega) (by omega)
  refine lv_aload_n F.1 F.2.1 dX8_move_0 rfl (lv_at hl 0 rfl) ?_
  refine lv_iload_n F.1 F.2.1 dX8_move_1 rfl (lv_at hl 1 rfl) ?_
  refine cl_RX8_167 (As := [.int (iI k)]) (rest := []) F hl (c_X8_checkCaption l X w y su σ k hY hL (by omega)) hW hS hY rfl rfl ⟨Nat.le_of_ble_eq_true rfl, Nat.le_of_ble_eq_true rfl⟩ (Nat.le_of_ble_eq_true rfl) ⟨Nat.zero_le _, Nat.zero_le _⟩ dX8_move_2 (fun w1 H locs hp1 hW hS => ?_)
  rw [hp1] at hW; clear hp1; clear w1
  refine lv_aload_n F.1 F.2.1 dX8_move_5 rfl (lv_at hl 0 rfl) ?_
  refine gf_RX8_22 F hW hY rfl dX8_move_6 ?_
  refine lv_aload_n F.1 F.2.1 dX8_move_9 rfl (lv_at hl 0 rfl) ?_
  refine gf_RX8_10 F hW hY rfl dX8_move_10 ?_
  refine lv_iload_n F.1 F.2.1 dX8_move_13 rfl (lv_at hl 1 rfl) ?_
  refine cl_RX8_170 (As := [.int (iI k)]) (rest := [.ref (y + 51)]) F hl (c_X5_captionAt l X w (y + 1) σ k hA hwf (by omega)) hW hS hO rfl rfl ⟨Nat.le_of_ble_eq_true rfl, Nat.le_of_ble_eq_true rfl⟩ (Nat.le_of_ble_eq_true rfl) ⟨Nat.zero_le _, Nat.zero_le _⟩ dX8_move_14 (fun w1 H locs hp2 hW hS => ?_)
  rw [hp2] at hW; clear hp2; clear w1
  have hq := hL.1.cap k (by omega) (by omega)
  obtain ⟨fk, hqv, hqf⟩ := hq
  have hqo := hqv.1
  refine cl_RX8_390 (As := [.ref ((y + 1) + 9 + 2 * k.toNat)]) (rest := []) F hl (c_X1_copyFrom l X w (y + 51) n0 sd0 x0 y0 co0 f0 ((y + 1) + 9 + 2 * k.toNat) (cp σ k 0) (cp σ k 1) (cp σ k 2) (cp σ k 3) (cp σ k 4) fk hv hqv (by omega)) hW hS hbx rfl rfl ⟨Nat.le_of_ble_eq_true rfl, Nat.le_of_ble_eq_true rfl⟩ (Nat.le_of_ble_eq_true rfl) ⟨Nat.zero_le _, Nat.zero_le _⟩ dX8_move_17 (fun w3 H locs hp4 hW hS => ?_)
  obtain ⟨ho5, ha6, hn7⟩ := hp4
  have hY := (hn7 _ (by omega) (by omega)).trans hY
  have hO := (hn7 _ (by omega) (by omega)).trans hO
  have hqo := (hn7 _ (by omega) (by omega)).trans hqo
  have hac := (hn7 _ (by omega) (by omega)).trans hac
  have hL := hL.mv (w2 := w3) (fun q h1 h2 => hn7 q (by omega) (by omega))
  have hH := hH.mv (w2 := w3) (fun q h1 h2 => hn7 q (by omega) (by omega))
  refine lv_aload_n F.1 F.2.1 dX8_move_20 rfl (lv_at hl 0 rfl) ?_
  refine gf_RX8_22 F hW hY rfl dX8_move_21 ?_
  refine lv_iload_n F.1 F.2.1 dX8_move_24 rfl (lv_at hl 2 rfl) ?_
  refine lv_iload_n F.1 F.2.1 dX8_move_25 rfl (lv_at hl 3 rfl) ?_
  have hv2 : capV X w3 (y + 51) (cp σ k 0) (cp σ k 1) (cp σ k 2) (cp σ k 3) (cp σ k 4) (cpZ fk f0 8) := ⟨ho5, ha6⟩
  refine cl_RX8_332 (As := [.int (iI xx), .int (iI yy)]) (rest := []) F hl (c_X1_putAt l X w3 (y + 51) (cp σ k 0) (cp σ k 1) (cp σ k 2) (cp σ k 3) (cp σ k 4) (cpZ fk f0 8) xx yy hv2) hW hS ho5 rfl rfl ⟨Nat.le_of_ble_eq_true rfl, Nat.le_of_ble_eq_true rfl⟩ (Nat.le_of_ble_eq_true rfl) ⟨Nat.zero_le _, Nat.zero_le _⟩ dX8_move_26 (fun w8 H locs hp9 hW hS => ?_)
  obtain ⟨ho10, hn11⟩ := hp9
  have hY := (hn11 _ (by omega)).trans hY
  have hO := (hn11 _ (by omega)).trans hO
  have hqo := (hn11 _ (by omega)).trans hqo
  have hac := (hn11 _ (by omega)).trans hac
  have ha6 := (hn11 _ (by omega)).trans ha6
  have hL := hL.mv (w2 := w8) (fun q h1 h2 => hn11 q (by omega))
  have hH := hH.mv (w2 := w8) (fun q h1 h2 => hn11 q (by omega))
  refine lv_aload_n F.1 F.2.1 dX8_move_29 rfl (lv_at hl 0 rfl) ?_
  refine lv_iload_n F.1 F.2.1 dX8_move_30 rfl (lv_at hl 1 rfl) ?_
  have hv2 : capV X w8 (y + 51) (cp σ k 0) (cp σ k 1) xx yy (cp σ k 4) (cpZ fk f0 8) := ⟨ho10, ha6⟩
  refine cl_RX8_377 (As := [.int (iI k)]) (rest := []) F hl (c_X8_reasonAgainstBox l X w8 y su σ (cp σ k 0) (cp σ k 1) xx yy (cp σ k 4) (cpZ fk f0 8) k hY hL hv2 (by omega) (by omega) (by omega) (by omega) (by omega)) hW hS hY rfl rfl ⟨Nat.le_of_ble_eq_true rfl, Nat.le_of_ble_eq_true rfl⟩ (Nat.le_of_ble_eq_true rfl) ⟨Nat.zero_le _, Nat.zero_le _⟩ dX8_move_31 (fun w1 H locs hp12 hW hS => ?_)
  rw [hp12] at hW; clear hp12; clear w1
  refine h_top (show (whyS σ (cp σ k 0) (cp σ k 1) xx yy k : Int) = 0 from hwy) ?_
  refine lv_istore (lv' := [(4, .int (iI 0)), (0, .ref y), (1, .int (iI k)), (2, .int (iI xx)), (3, .int (iI yy))]) F.1 F.2.1 dX8_move_34 hl (by decide) rfl (fun ls hl => ?_)
  refine lv_iload F.1 F.2.1 dX8_move_36 (lv_at hl 0 rfl) ?_
  refine h_ifeq (tgt := 48) F dX8_move_38 (by decide) (by decide) (fun _ => ?_) (fun c9 => absurd c9 (by decide))
  refine lv_aload_n F.1 F.2.1 dX8_move_48 rfl (lv_at hl 1 rfl) ?_
  refine cl_RX8_380 (As := []) (rest := []) F hl (c_X8_beginAct l X w8 y su ac σ nx sz pas hY hac hL hH) hW hS hY rfl rfl ⟨Nat.le_of_ble_eq_true rfl, Nat.le_of_ble_eq_true rfl⟩ (Nat.le_of_ble_eq_true rfl) ⟨Nat.zero_le _, Nat.zero_le _⟩ dX8_move_49 (fun w14 H locs hp15 hW hS => ?_)
  obtain ⟨ha16, hmB, hn17⟩ := hp15
  have hY := (hn17 _ (by omega) (by omega)).trans hY
  have hO := (hn17 _ (by omega) (by omega)).trans hO
  have ho10 := (hn17 _ (by omega) (by omega)).trans ho10
  have hqo := (hn17 _ (by omega) (by omega)).trans hqo
  have ha6 := (hn17 _ (by omega) (by omega)).trans ha6
  have hL := hL.mv (w2 := w14) (fun q h1 h2 => hn17 q (by omega) (by omega))
  refine lv_aload_n F.1 F.2.1 dX8_move_52 rfl (lv_at hl 1 rfl) ?_
  refine gf_RX8_10 F hW hY rfl dX8_move_53 ?_
  refine lv_iload_n F.1 F.2.1 dX8_move_56 rfl (lv_at hl 2 rfl) ?_
  refine cl_RX8_170 (As := [.int (iI k)]) (rest := []) F hl (c_X5_captionAt l X w14 (y + 1) σ k hL.1 hwf (by omega)) hW hS hO rfl rfl ⟨Nat.le_of_ble_eq_true rfl, Nat.le_of_ble_eq_true rfl⟩ (Nat.le_of_ble_eq_true rfl) ⟨Nat.zero_le _, Nat.zero_le _⟩ dX8_move_57 (fun w1 H locs hp18 hW hS => ?_)
  rw [hp18] at hW; clear hp18; clear w1
  have hq2 := hL.1.cap k (by omega) (by omega)
  obtain ⟨fz, hqv2, hqf2⟩ := hq2
  have hqo2 := hqv2.1
  refine lv_iload_n F.1 F.2.1 dX8_move_60 rfl (lv_at hl 3 rfl) ?_
  refine lv_iload_n F.1 F.2.1 dX8_move_61 rfl (lv_at hl 4 rfl) ?_
  refine cl_RX8_332 (As := [.int (iI xx), .int (iI yy)]) (rest := []) F hl (c_X1_putAt l X w14 ((y + 1) + 9 + 2 * k.toNat) (cp σ k 0) (cp σ k 1) (cp σ k 2) (cp σ k 3) (cp σ k 4) fz xx yy hqv2) hW hS hqo2 rfl rfl ⟨Nat.le_of_ble_eq_true rfl, Nat.le_of_ble_eq_true rfl⟩ (Nat.le_of_ble_eq_true rfl) ⟨Nat.zero_le _, Nat.zero_le _⟩ dX8_move_62 (fun w19 H locs hp20 hW hS => ?_)
  obtain ⟨ho21, hn22⟩ := hp20
  have hY := (hn22 _ (by omega)).trans hY
  have ho10 := (hn22 _ (by omega)).trans ho10
  have ha16 := (hn22 _ (by omega)).trans ha16
  have ha6 := (hn22 _ (by omega)).trans ha6
  have hmB := hmB.mv (w2 := w19) (fun q h1 h2 => hn22 q (by omega))
  have hWt := mov_WF hwf (by omega) hwy
  have hAm := mov_lm (x := xx) (y := yy) hL.1 hwf.cap8 (by omega) ho21 (hn22 _ (by omega)) hqv2.2 hqf2 (fun q hq9 => hn22 q hq9)
  have hO2 := hAm.o
  refine lv_aload_n F.1 F.2.1 dX8_move_65 rfl (lv_at hl 1 rfl) ?_
  refine gf_RX8_10 F hW hY rfl dX8_move_66 ?_
  refine cl_RX8_108 (As := []) (rest := []) F hl (c_X5_paint l X w19 (y + 1) (movS σ k xx yy) hAm hWt) hW hS hO2 rfl rfl ⟨Nat.le_of_ble_eq_true rfl, Nat.le_of_ble_eq_true rfl⟩ (Nat.le_of_ble_eq_true rfl) ⟨Nat.zero_le _, Nat.zero_le _⟩ dX8_move_69 (fun w23 H locs hp24 hW hS => ?_)
  obtain ⟨hLf, hn25⟩ := hp24
  have hY := (hn25 _ (by omega)).trans hY
  have ho10 := (hn25 _ (by omega)).trans ho10
  have ho21 := (hn25 _ (by omega)).trans ho21
  have ha16 := (hn25 _ (by omega)).trans ha16
  have ha6 := (hn25 _ (by omega)).trans ha6
  have hmB := hmB.mv (w2 := w23) (fun q h1 h2 => hn25 q (by omega))
  have hO3 := hLf.1.o
  refine lv_aload_n F.1 F.2.1 dX8_move_72 rfl (lv_at hl 1 rfl) ?_
  refine gf_RX8_10 F hW hY rfl dX8_move_73 ?_
  refine h_iconst F dX8_move_76 ?_
  have hm4 : (movS σ k xx yy) 4 = σ 4 := mov_lo (by omega)
  refine cl_RX8_261 (As := [.int (iI 0)]) (rest := []) F hl (c_X5_mistakesFrom l X w23 (y + 1) (movS σ k xx yy) 0 hLf (by omega)) hW hS hO3 rfl rfl ⟨Nat.le_of_ble_eq_true rfl, Nat.le_of_ble_eq_true rfl⟩ (Nat.le_of_ble_eq_true rfl) ⟨Nat.zero_le _, Nat.zero_le _⟩ dX8_move_77 (fun w1 H locs hp26 hW hS => ?_)
  rw [hp26] at hW; clear hp26; clear w1
  exact h_ireti F hr hlk hW hS ⟨ho10, ha16, ⟨_, ha6⟩, hmB, hLf, (fun q h09 h19 h29 h39 h49 => by rw [hn25 q (by omega), hn22 q (by omega), hn17 q (by omega) (by omega), hn11 q (by omega), hn7 q (by omega) (by omega)])⟩ dX8_move_80
