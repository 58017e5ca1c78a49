set_option maxHeartbeats 4000000 in
set_option maxRecDepth 100000 in
theorem c_L_read (l : Launch) (X : Cx) (w : Wo) (p9 : Int) (hp : -1 ≤ p9 ∧ p9 < 32768) : CM l X yL_read cL_read 2 (some (.int)) (rmG 0 0 0 0) [.int (iI p9)] w (some (.int (iI (ltrS p9)))) (fun w' => w' = w) := by
  refine CM.of (lv := [(0, .int (iI p9))]) (by decide) (Nat.le_of_ble_eq_true rfl) rfl (fun p e s m below meth c ls F hr hlk hin hW hS hl => ?_)
  have hZ0 := hW.2.2
  have hB9 := hW.1.2
  clear hin
  refine h_iconst F dL_read_0 ?_
  refine lv_istore_n (lv' := [(1, .int (iI 0)), (0, .int (iI p9))]) F.1 F.2.1 dL_read_1 rfl hl (by decide) rfl (fun ls hl => ?_)
  have loop2 : ∀ (n9 : Nat) (k : Int), (hrg : 0 ≤ k ∧ k ≤ 26) → (hms : 26 - k < (n9 : Int)) → (hno : ∀ j, 0 ≤ j → j < k → decide (gl j = p9) = false) → (H : Heap) → (locs : List Loc) → (ls : Array Slot) → Wd X w s H → va_S (cxA X) s.heap H locs → lv_has ls 2 [(1, .int (iI k)), (0, .int (iI p9))] → W p l e (rmG 0 0 0 0) s m (List.toArray [.int (iI p9)]) below meth c H locs (0) (0) (MX X below (List.toArray [.int (iI p9)]) s 0 0 (some (.int (iI (ltrS p9)))) (fun w' => w' = w)) (F0 m 2 ls []) := by
    intro n9
    induction n9 with
    | zero => intro k  hrg hms; exfalso; omega
    | succ n9 ih2 =>
      intro k  hrg hms  hno H locs ls hW hS hl
      refine lv_iload_n F.1 F.2.1 dL_read_2 rfl (lv_at hl 0 rfl) ?_
      refine h_bipush F dL_read_3 rfl ?_
      refine h_icge (tgt := 27) F dL_read_5 (by decide) (by omega) (fun c1 => ?_) (fun c1 => ?_)
      · refine h_iconst F dL_read_27 ?_
        refine h_top (show (0 : Int) = ltrS p9 from by rw [ltr_no (fun j h1 h2 => hno j h1 (by omega))]) ?_
        exact h_ireti F hr hlk hW hS rfl dL_read_28
      · refine h_gstat F hZ0.2.1.1 hS kf_RL_29 dL_read_8 ?_
        refine lv_iload_n F.1 F.2.1 dL_read_11 rfl (lv_at hl 0 rfl) ?_
        refine h_gli9 F hZ0 hS (by omega) dL_read_12 ?_
        refine lv_iload_n F.1 F.2.1 dL_read_13 rfl (lv_at hl 1 rfl) ?_
        have hgr := gl_r k
        refine h_icne (tgt := 21) F dL_read_14 (by decide) (by omega) (fun c2 => ?_) (fun c2 => ?_)
        · have hz9 := c2
          refine h_iinc (k := 0) (a := k) (lv' := [(1, .int (iI (k + 1))), (0, .int (iI p9))]) F dL_read_21 hl rfl (by decide) rfl (fun ls hl => ?_)
          refine h_goto (tgt := 2) F dL_read_24 (by decide) ?_
          have eq3 : ((k + 1) : Int) = k + 1 := by first | rfl | omega | simp
          exact ih2 (k + 1)  (by omega) (by omega)  (fun j h1 h2 => if hj : j = k then (by rw [hj]; exact decide_eq_false hz9) else hno j h1 (by omega)) _ _ ls hW hS (by rw [eq3]; exact lv_sub hl [0, 1] rfl)
        · have hz9 := c2
          refine lv_iload_n F.1 F.2.1 dL_read_17 rfl (lv_at hl 0 rfl) ?_
          refine h_iconst F dL_read_18 ?_
          refine h_iadd (a := k) (b := 1) F dL_read_19 ?_
          refine h_top (show (k + 1 : Int) = ltrS p9 from by rw [ltr_at (by omega) hno hz9]) ?_
          exact h_ireti F hr hlk hW hS rfl dL_read_20
  exact loop2 ((26 - 0) + 1 : Int).toNat 0   (by omega) (by omega)  (fun j h1 h2 => by omega) _ _ ls hW hS (lv_sub hl [0, 1] rfl)
set_option maxHeartbeats 4000000 in
set_option maxRecDepth 100000 in
theorem c_L_turned (l : Launch) (X : Cx) (w : Wo) (p9 : Int) (hp : 0 ≤ p9 ∧ p9 < 32768) : CM l X yL_turned cL_turned 4 (some (.int)) (rmG 0 0 0 0) [.int (iI p9)] w (some (.int (iI (revS p9)))) (fun w' => w' = w) := by
  refine CM.of (lv := [(0, .int (iI p9))]) (by decide) (Nat.le_of_ble_eq_true rfl) rfl (fun p e s m below meth c ls F hr hlk hin hW hS hl => ?_)
  have hZ0 := hW.2.2
  have hB9 := hW.1.2
  clear hin
  refine h_iconst F dL_turned_0 ?_
  refine lv_istore_n (lv' := [(1, .int (iI 0)), (0, .int (iI p9))]) F.1 F.2.1 dL_turned_1 rfl hl (by decide) rfl (fun ls hl => ?_)
  refine h_iconst F dL_turned_2 ?_
  refine lv_istore_n (lv' := [(2, .int (iI 4)), (1, .int (iI 0)), (0, .int (iI p9))]) F.1 F.2.1 dL_turned_3 rfl hl (by decide) rfl (fun ls hl => ?_)
  have loop4 : ∀ (n9 : Nat) (u : Int), (hrg : 0 ≤ u ∧ u ≤ 5) → (hms : 5 - u < (n9 : Int)) → (H : Heap) → (locs : List Loc) → (ls : Array Slot) → Wd X w s H → va_S (cxA X) s.heap H locs → lv_has ls 4 [(1, .int (iI (bs (revB p9) (3 * u)))), (2, .int (iI (4 - u))), (0, .int (iI p9))] → W p l e (rmG 0 0 0 0) s m (List.toArray [.int (iI p9)]) below meth c H locs (0) (0) (MX X below (List.toArray [.int (iI p9)]) s 0 0 (some (.int (iI (revS p9)))) (fun w' => w' = w)) (F0 m 4 ls []) := by
    intro n9
    induction n9 with
    | zero => intro u  hrg hms; exfalso; omega
    | succ n9 ih4 =>
      intro u  hrg hms   H locs ls hW hS hl
      refine lv_iload_n F.1 F.2.1 dL_turned_4 rfl (lv_at hl 1 rfl) ?_
      refine h_iflt (tgt := 46) F dL_turned_5 (by decide) (by omega) (fun c1 => ?_) (fun c1 => ?_)
      · refine lv_iload_n F.1 F.2.1 dL_turned_46 rfl (lv_at hl 0 rfl) ?_
        refine h_top (show (bs (revB p9) (3 * u) : Int) = revS p9 from by rw [show u = 5 by omega]; rfl) ?_
        exact h_ireti F hr hlk hW hS rfl dL_turned_47
      · have hyr := sh_rng hp (3 * (4 - u)).toNat
        refine lv_iload_n F.1 F.2.1 dL_turned_8 rfl (lv_at hl 2 rfl) ?_
        refine h_iconst F dL_turned_9 ?_
        refine lv_iload_n F.1 F.2.1 dL_turned_10 rfl (lv_at hl 1 rfl) ?_
        refine h_imul (a := 3) (b := 4 - u) F dL_turned_11 ?_
        refine h_ishr (z := iI (p9 / 2 ^ (3 * (4 - u)).toNat)) F dL_turned_12 (shr3 hp (by omega)) ?_
        refine h_bipush F dL_turned_13 rfl ?_
        refine h_iand (z := iI (p9 / 2 ^ (3 * (4 - u)).toNat % 8)) F dL_turned_15 (and7 hyr) ?_
        refine lv_istore_n (lv' := [(3, .int (iI (p9 / 2 ^ (3 * (4 - u)).toNat % 8))), (1, .int (iI (bs (revB p9) (3 * u)))), (2, .int (iI (4 - u))), (0, .int (iI p9))]) F.1 F.2.1 dL_turned_16 rfl hl (by decide) rfl (fun ls hl => ?_)
        refine lv_iload_n F.1 F.2.1 dL_turned_17 rfl (lv_at hl 1 rfl) ?_
        refine h_bipush F dL_turned_18 rfl ?_
        refine h_imul (a := bs (revB p9) (3 * u)) (b := 8) F dL_turned_20 ?_
        refine lv_iload_n F.1 F.2.1 dL_turned_21 rfl (lv_at hl 0 rfl) ?_
        refine h_iconst F dL_turned_22 ?_
        refine h_irem F dL_turned_23 (by omega) ?_
        refine h_iconst F dL_turned_24 ?_
        refine h_imul (a := (p9 / 2 ^ (3 * (4 - u)).toNat % 8) % 2) (b := 4) F dL_turned_25 ?_
        refine lv_iload_n F.1 F.2.1 dL_turned_26 rfl (lv_at hl 0 rfl) ?_
        refine h_iconst F dL_turned_27 ?_
        refine h_idiv F dL_turned_28 (by omega) ?_
        refine h_iconst F dL_turned_29 ?_
        refine h_irem F dL_turned_30 (by omega) ?_
        refine h_iconst F dL_turned_31 ?_
        refine h_imul (a := ((p9 / 2 ^ (3 * (4 - u)).toNat % 8) / 2) % 2) (b := 2) F dL_turned_32 ?_
        refine h_iadd (a := ((p9 / 2 ^ (3 * (4 - u)).toNat % 8) % 2) * 4) (b := (((p9 / 2 ^ (3 * (4 - u)).toNat % 8) / 2) % 2) * 2) F dL_turned_33 ?_
        refine lv_iload_n F.1 F.2.1 dL_turned_34 rfl (lv_at hl 0 rfl) ?_
        refine h_iconst F dL_turned_35 ?_
        refine h_idiv F dL_turned_36 (by omega) ?_
        refine h_iadd (a := (((p9 / 2 ^ (3 * (4 - u)).toNat % 8) % 2) * 4) + ((((p9 / 2 ^ (3 * (4 - u)).toNat % 8) / 2) % 2) * 2)) (b := (p9 / 2 ^ (3 * (4 - u)).toNat % 8) / 4) F dL_turned_37 ?_
        refine h_iadd (a := (bs (revB p9) (3 * u)) * 8) (b := ((((p9 / 2 ^ (3 * (4 - u)).toNat % 8) % 2) * 4) + ((((p9 / 2 ^ (3 * (4 - u)).toNat % 8) / 2) % 2) * 2)) + ((p9 / 2 ^ (3 * (4 - u)).toNat % 8) / 4)) F dL_turned_38 ?_
        refine lv_istore_n (lv' := [(1, .int (iI (((bs (revB p9) (3 * u)) * 8) + (((((p9 / 2 ^ (3 * (4 - u)).toNat % 8) % 2) * 4) + ((((p9 / 2 ^ (3 * (4 - u)).toNat % 8) / 2) % 2) * 2)) + ((p9 / 2 ^ (3 * (4 - u)).toNat % 8) / 4))))), (3, .int (iI (p9 / 2 ^ (3 * (4 - u)).toNat % 8))), (2, .int (iI (4 - u))), (0, .int (iI p9))]) F.1 F.2.1 dL_turned_39 rfl hl (by decide) rfl (fun ls hl => ?_)
        refine h_iinc (k := 2) (a := 4 - u) (lv' := [(2, .int (iI ((4 - u) + (-1)))), (1, .int (iI (((bs (revB p9) (3 * u)) * 8) + (((((p9 / 2 ^ (3 * (4 - u)).toNat % 8) % 2) * 4) + ((((p9 / 2 ^ (3 * (4 - u)).toNat % 8) / 2) % 2) * 2)) + ((p9 / 2 ^ (3 * (4 - u)).toNat % 8) / 4))))), (3, .int (iI (p9 / 2 ^ (3 * (4 - u)).toNat % 8))), (0, .int (iI p9))]) F dL_turned_40 hl rfl (by decide) rfl (fun ls hl => ?_)
        refine h_goto (tgt := 4) F dL_turned_43 (by decide) ?_
        have eq2 : (bs (revB p9) (3 * (u + 1)) : Int) = ((bs (revB p9) (3 * u)) * 8) + (((((p9 / 2 ^ (3 * (4 - u)).toNat % 8) % 2) * 4) + ((((p9 / 2 ^ (3 * (4 - u)).toNat % 8) / 2) % 2) * 2)) + ((p9 / 2 ^ (3 * (4 - u)).toNat % 8) / 4)) := by rw [show 3 * (u + 1) = 3 * (4 - (4 - u)) + 3 by omega, rev3 hp (by omega), show 3 * (4 - (4 - u)) = 3 * u by omega]
        have eq3 : (4 - (u + 1) : Int) = (4 - u) + (-1) := by first | rfl | omega | simp
        exact ih4 (u + 1)  (by omega) (by omega)   _ _ ls hW hS (by rw [eq2, eq3]; exact lv_sub hl [1, 0, 3] rfl)
  have eq4 : (bs (revB p9) (3 * 0) : Int) = 0 := rfl
  have eq5 : (4 - 0 : Int) = 4 := by first | rfl | omega | simp
  exact loop4 ((5 - 0) + 1 : Int).toNat 0   (by omega) (by omega)   _ _ ls hW hS (by rw [eq4, eq5]; exact lv_sub hl [1, 0, 2] rfl)
set_option maxHeartbeats 4000000 in
set_option maxRecDepth 100000 in
theorem c_L_draw (l : Launch) (X : Cx) (w : Wo) (gq : Nat) (gf : Int → Int) (m9 : Int) (hg9 : w gq = some (aZ X 1 gf)) (hm : 1 ≤ m9 ∧ m9 < 1000000) : CR l X yL_draw cL_draw 2 (some (.int)) (rmG 0 0 0 0) [.ref gq, .int (iI m9)] w (fun v' w' => ∃ (d9 : Int), ∃ (gf2 : Int → Int), v' = .int (iI d9) ∧ (0 ≤ d9 ∧ d9 < m9) ∧ w' gq = some (aZ X 1 gf2) ∧ ∀ (q : Nat) (e : va_E), w q = some e → q ≠ gq → w' q = some e) := by
  refine CR.of (lv := [(0, .ref gq), (1, .int (iI m9))]) (by decide) (Nat.le_of_ble_eq_true rfl) rfl (fun p e s m below meth c ls F hr hlk hin hW hS hl => ?_)
  have hZ0 := hW.2.2
  have hB9 := hW.1.2
  clear hin
  refine lv_aload_n F.1 F.2.1 dL_draw_0 rfl (lv_at hl 0 rfl) ?_
  refine h_iconst F dL_draw_1 ?_
  refine lv_aload_n F.1 F.2.1 dL_draw_2 rfl (lv_at hl 0 rfl) ?_
  refine h_iconst F dL_draw_3 ?_
  refine h_iald F hW hg9 (by omega) (by omega) dL_draw_4 ?_
  refine h_ldc (n := 1664525) F kk_RL_27 dL_draw_5 ?_
  refine h_imul (a := gf 0) (b := 1664525) F dL_draw_7 ?_
  refine h_ldc (n := 1013904223) F kk_RL_28 dL_draw_8 ?_
  refine h_iadd (a := (gf 0) * 1664525) (b := 1013904223) F dL_draw_10 ?_
  refine h_iast F hW hS hg9 (by omega) (by omega) dL_draw_11 (fun w1 H locs ho3 hn2 hW hS => ?_)
  refine lv_aload_n F.1 F.2.1 dL_draw_12 rfl (lv_at hl 0 rfl) ?_
  refine h_iconst F dL_draw_13 ?_
  refine h_iald F hW ho3 (by omega) (by omega) dL_draw_14 ?_
  refine h_bipush F dL_draw_15 rfl ?_
  obtain ⟨du, hdu, hdr⟩ := ushr8 (iI ((up gf 0 (((gf 0) * 1664525) + 1013904223)) 0))
  refine h_iushr (z := iI du) F dL_draw_17 hdu ?_
  refine lv_iload_n F.1 F.2.1 dL_draw_18 rfl (lv_at hl 1 rfl) ?_
  refine h_irem F dL_draw_19 (by omega) ?_
  refine W.wd (mc := 0) (ms := 0) (by omega) (by omega) ?_
  have hX9 : ∀ (q : Nat) (e : va_E), w q = some e → q ≠ gq → w1 q = some e := fun q e h9 h09 => by
    have h9 := (hn2 q (by omega)).trans h9
    exact h9
  exact r_ireti F hr hlk hW hS ⟨_, _, rfl, ⟨Int.emod_nonneg _ (by omega), Int.emod_lt_of_pos _ (by omega)⟩, (by (rw [ho3]) <;> (rfl)), hX9⟩ dL_draw_20
set_option maxHeartbeats 4000000 in
set_option maxRecDepth 100000 in
theorem c_L_is (l : Launch) (X : Cx) (w : Wo) (ac : Nat) (af : Int → Int) (to du : Int) (hac : w ac = some (aZ X 9 af)) (hdu : -8 ≤ du ∧ du ≤ 1000000 ∧ -1000000 ≤ to ∧ to ≤ 1000000) : CM l X yL_is cL_is 3 (some (.boolean)) (rmG 0 0 0 0) [.int (iI to), .int (iI du), .ref ac] w (some (.int (iI (bz (decide (to = du)))))) (fun w' => w' ac = some (aZ X 9 (up af (if du < 0 then -du else 0) (af (if du < 0 then -du else 0) + 1))) ∧ ∀ q : Nat, q ≠ ac → w' q = w q) := by
  refine CM.of (lv := [(0, .int (iI to)), (1, .int (iI du)), (2, .ref ac)]) (by decide) (Nat.le_of_ble_eq_true rfl) rfl (fun p e s m below meth c ls F hr hlk hin hW hS hl => ?_)
  have hZ0 := hW.2.2
  have hB9 := hW.1.2
  clear hin
  refine lv_aload_n F.1 F.2.1 dL_is_0 rfl (lv_at hl 2 rfl) ?_
  refine lv_iload_n F.1 F.2.1 dL_is_1 rfl (lv_at hl 1 rfl) ?_
  refine h_ifge (tgt := 10) F dL_is_2 (by decide) (by omega) (fun c1 => ?_) (fun c1 => ?_)
  · have hz9 := c1
    refine h_iconst F dL_is_10 ?_
    refine lv_dup2_11 F.1 F.2.1 dL_is_11 rfl rfl ?_
    refine h_iald F hW hac (by omega) (by omega) dL_is_12 ?_
    refine h_iconst F dL_is_13 ?_
    refine h_iadd (a := af 0) (b := 1) F dL_is_14 ?_
    refine h_iast F hW hS hac (by omega) (by omega) dL_is_15 (fun w2 H locs ho4 hn3 hW hS => ?_)
    refine lv_iload_n F.1 F.2.1 dL_is_16 rfl (lv_at hl 0 rfl) ?_
    refine lv_iload_n F.1 F.2.1 dL_is_17 rfl (lv_at hl 1 rfl) ?_
    refine h_icne (tgt := 25) F dL_is_18 (by decide) (by omega) (fun c5 => ?_) (fun c5 => ?_)
    · refine h_iconst F dL_is_25 ?_
      refine h_top (show (0 : Int) = bz (decide (to = du)) from bzf (by first | exact decide_eq_false (by omega) | (simp only [Bool.and_eq_false_iff, Bool.or_eq_false_iff, decide_eq_false_iff_not]; omega) | simp_all)) ?_
      exact h_iretz F hr hlk hW hS ⟨(by (rw [ho4]) <;> (first | rw [if_pos hz9] | rw [if_neg (by omega)])), (fun q h09 => by rw [hn3 q (by omega)])⟩ dL_is_26
    · refine h_iconst F dL_is_21 ?_
      refine h_goto (tgt := 26) F dL_is_22 (by decide) ?_
      refine h_top (show (1 : Int) = bz (decide (to = du)) from bzt (by first | exact decide_eq_true (by omega) | (simp only [Bool.and_eq_true, Bool.or_eq_true, decide_eq_true_eq]; omega) | simp_all)) ?_
      exact h_iretz F hr hlk hW hS ⟨(by (rw [ho4]) <;> (first | rw [if_pos hz9] | rw [if_neg (by omega)])), (fun q h09 => by rw [hn3 q (by omega)])⟩ dL_is_26
  · have hz9 := c1
    refine lv_iload_n F.1 F.2.1 dL_is_5 rfl (lv_at hl 1 rfl) ?_
    refine h_ineg F dL_is_6 ?_
    refine h_goto (tgt := 11) F dL_is_7 (by decide) ?_
    refine lv_dup2_11 F.1 F.2.1 dL_is_11 rfl rfl ?_
    refine h_iald F hW hac (by omega) (by omega) dL_is_12 ?_
    refine h_iconst F dL_is_13 ?_
    refine h_iadd (a := af (-du)) (b := 1) F dL_is_14 ?_
    refine h_iast F hW hS hac (by omega) (by omega) dL_is_15 (fun w6 H locs ho8 hn7 hW hS => ?_)
    refine lv_iload_n F.1 F.2.1 dL_is_16 rfl (lv_at hl 0 rfl) ?_
    refine lv_iload_n F.1 F.2.1 dL_is_17 rfl (lv_at hl 1 rfl) ?_
    refine h_icne (tgt := 25) F dL_is_18 (by decide) (by omega) (fun c9 => ?_) (fun c9 => ?_)
    · refine h_iconst F dL_is_25 ?_
      refine h_top (show (0 : Int) = bz (decide (to = du)) from bzf (by first | exact decide_eq_false (by omega) | (simp only [Bool.and_eq_false_iff, Bool.or_eq_false_iff, decide_eq_false_iff_not]; omega) | simp_all)) ?_
      exact h_iretz F hr hlk hW hS ⟨(by (rw [ho8]) <;> (first | rw [if_pos hz9] | rw [if_neg (by omega)])), (fun q h09 => by rw [hn7 q (by omega)])⟩ dL_is_26
    · refine h_iconst F dL_is_21 ?_
      refine h_goto (tgt := 26) F dL_is_22 (by decide) ?_
      refine h_top (show (1 : Int) = bz (decide (to = du)) from bzt (by first | exact decide_eq_true (by omega) | (simp only [Bool.and_eq_true, Bool.or_eq_true, decide_eq_true_eq]; omega) | simp_all)) ?_
      exact h_iretz F hr hlk hW hS ⟨(by (rw [ho8]) <;> (first | rw [if_pos hz9] | rw [if_neg (by omega)])), (fun q h09 => by rw [hn7 q (by omega)])⟩ dL_is_26
