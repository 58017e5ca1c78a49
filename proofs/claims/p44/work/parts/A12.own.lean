set_option maxHeartbeats 4000000 in
set_option maxRecDepth 100000 in
theorem c_X9_wide (l : Launch) (X : Cx) (w : Wo) (q wd n : Nat) (sd co x y : Int) (f : Int → Int) (hcp : w q = some (.inr (9, [.ref wd, .int (iI sd), .int (iI co), .int (iI x), .int (iI y)]))) (hs : str X w wd n f) (hn9 : n < 1000000) : CM l X yX9_wide cX9_wide 1 (some (.int)) (rmG 2 0 0 40) [.ref q] w (some (.int (iI (4 * (n : Int) - 1)))) (fun w' => w' = w) := by
  refine CM.of (lv := [(0, .ref q)]) (by decide) (Nat.le_of_ble_eq_true rfl) rfl (fun p e s m below meth c ls F hr hlk hin hW hS hl => ?_)
  have hZ0 := hW.2.2
  have hB9 := hW.1.2
  clear hin
  refine h_iconst F dX9_wide_0 ?_
  refine lv_aload_n F.1 F.2.1 dX9_wide_1 rfl (lv_at hl 0 rfl) ?_
  refine gf_RX9_7 F hW hcp rfl dX9_wide_2 ?_
  refine cs_RX9_26 (As := []) (rest := [.int (iI 4)]) F hl (cS_len l X w wd n f hs (by omega)) hW hS (str.rc hs hW hZ0 hS) rfl rfl ⟨Nat.le_of_ble_eq_true rfl, Nat.le_of_ble_eq_true rfl⟩ (Nat.le_of_ble_eq_true rfl) ⟨(by show 0 + 0 ≤ 0; omega), (by show 0 + 0 ≤ 0; omega)⟩ dX9_wide_5 (fun w1 H locs hp1 hW hS => ?_)
  rw [hp1] at hW; clear hp1; clear w1
  refine h_imul (a := 4) (b := ((n : Nat) : Int)) F dX9_wide_8 ?_
  refine h_iconst F dX9_wide_9 ?_
  refine h_isub (a := 4 * ((n : Nat) : Int)) (b := 1) F dX9_wide_10 ?_
  refine h_top (show ((4 * ((n : Nat) : Int)) - 1 : Int) = 4 * (n : Int) - 1 from by first | rfl | omega | (simp_all; done)) ?_
  exact h_ireti F hr hlk hW hS rfl dX9_wide_11
set_option maxHeartbeats 4000000 in
set_option maxRecDepth 100000 in
theorem c_X9_ink (l : Launch) (X : Cx) (w : Wo) (q wd n : Nat) (sd co x y : Int) (f : Int → Int) (ov dn : Int) (hcp : w q = some (.inr (9, [.ref wd, .int (iI sd), .int (iI co), .int (iI x), .int (iI y)]))) (hs : str X w wd n f) (hf : ∀ j, 0 ≤ j → j < (n : Int) → 97 ≤ f j ∧ f j < 123) (hn9 : 1 ≤ n ∧ n ≤ 8) (hov : -1000 ≤ ov ∧ ov ≤ 1000) (hdn : -1000 ≤ dn ∧ dn ≤ 1000) : CM l X yX9_ink cX9_ink 5 (some (.boolean)) (rmG 4 0 0 85) [.ref q, .int (iI ov), .int (iI dn)] w (some (.int (iI (bz (ikB n f ov dn))))) (fun w' => w' = w) := by
  refine CM.of (lv := [(0, .ref q), (1, .int (iI ov)), (2, .int (iI dn))]) (by decide) (Nat.le_of_ble_eq_true rfl) rfl (fun p e s m below meth c ls F hr hlk hin hW hS hl => ?_)
  have hZ0 := hW.2.2
  have hB9 := hW.1.2
  clear hin
  refine lv_iload_n F.1 F.2.1 dX9_ink_0 rfl (lv_at hl 1 rfl) ?_
  refine h_iflt (tgt := 28) F dX9_ink_1 (by decide) (by omega) (fun c1 => ?_) (fun c1 => ?_)
  · refine h_iconst F dX9_ink_28 ?_
    refine h_top (show (0 : Int) = bz (ikB n f ov dn) from bzf (ik_0 (by omega))) ?_
    exact h_iretz F hr hlk hW hS rfl dX9_ink_29
  · refine lv_iload_n F.1 F.2.1 dX9_ink_4 rfl (lv_at hl 1 rfl) ?_
    refine lv_aload_n F.1 F.2.1 dX9_ink_5 rfl (lv_at hl 0 rfl) ?_
    refine cl_RX9_32 (As := []) (rest := [.int (iI ov)]) F hl (c_X9_wide l X w q wd n sd co x y f hcp hs (by omega)) hW hS hcp rfl rfl ⟨Nat.le_of_ble_eq_true rfl, Nat.le_of_ble_eq_true rfl⟩ (Nat.le_of_ble_eq_true rfl) ⟨(by show 0 + 0 ≤ 0; omega), (by show 0 + 0 ≤ 0; omega)⟩ dX9_ink_6 (fun w1 H locs hp2 hW hS => ?_)
    rw [hp2] at hW; clear hp2; clear w1
    refine h_icge (tgt := 28) F dX9_ink_9 (by decide) (by omega) (fun c3 => ?_) (fun c3 => ?_)
    · refine h_iconst F dX9_ink_28 ?_
      refine h_top (show (0 : Int) = bz (ikB n f ov dn) from bzf (ik_0 (by omega))) ?_
      exact h_iretz F hr hlk hW hS rfl dX9_ink_29
    · refine lv_iload_n F.1 F.2.1 dX9_ink_12 rfl (lv_at hl 1 rfl) ?_
      refine h_iconst F dX9_ink_13 ?_
      refine h_irem F dX9_ink_14 (by omega) ?_
      refine h_iconst F dX9_ink_15 ?_
      refine h_iceq (tgt := 28) F dX9_ink_16 (by decide) (by omega) (fun c4 => ?_) (fun c4 => ?_)
      · refine h_iconst F dX9_ink_28 ?_
        refine h_top (show (0 : Int) = bz (ikB n f ov dn) from bzf (ik_0 (by omega))) ?_
        exact h_iretz F hr hlk hW hS rfl dX9_ink_29
      · refine lv_iload_n F.1 F.2.1 dX9_ink_19 rfl (lv_at hl 2 rfl) ?_
        refine h_iflt (tgt := 28) F dX9_ink_20 (by decide) (by omega) (fun c5 => ?_) (fun c5 => ?_)
        · refine h_iconst F dX9_ink_28 ?_
          refine h_top (show (0 : Int) = bz (ikB n f ov dn) from bzf (ik_0 (by omega))) ?_
          exact h_iretz F hr hlk hW hS rfl dX9_ink_29
        · refine lv_iload_n F.1 F.2.1 dX9_ink_23 rfl (lv_at hl 2 rfl) ?_
          refine h_iconst F dX9_ink_24 ?_
          refine h_icle (tgt := 30) F dX9_ink_25 (by decide) (by omega) (fun c6 => ?_) (fun c6 => ?_)
          · have hfz := hf (ov / 4) (by omega) (by omega)
            refine va_getsN F.1 F.2.1 hZ0.2.1.1 hS F.2.2.2.1 (va_Nw.use rfl (hW.2.1.2.2.2.2.2.2.2.2.2.1 _ kG_RX9_35)) (fun _ h => h) dX9_ink_30 ?_
            refine lv_aload_n F.1 F.2.1 dX9_ink_33 rfl (lv_at hl 0 rfl) ?_
            refine gf_RX9_7 F hW hcp rfl dX9_ink_34 ?_
            refine lv_iload_n F.1 F.2.1 dX9_ink_37 rfl (lv_at hl 1 rfl) ?_
            refine h_iconst F dX9_ink_38 ?_
            refine h_idiv F dX9_ink_39 (by omega) ?_
            refine cs_RX9_41 (As := [.int (iI (ov / 4))]) (rest := [.ref (X.2.2 2)]) F hl (cS_chr l X w wd n f (ov / 4) hs (fun j h1 h2 => by have := hf j h1 h2; omega) (by omega)) hW hS (str.rc hs hW hZ0 hS) rfl rfl ⟨Nat.le_of_ble_eq_true rfl, Nat.le_of_ble_eq_true rfl⟩ (Nat.le_of_ble_eq_true rfl) ⟨(by show 0 + 0 + 0 ≤ 0; omega), (by show 0 + 0 + 0 ≤ 0; omega)⟩ dX9_ink_40 (fun w1 H locs hp7 hW hS => ?_)
            rw [hp7] at hW; clear hp7; clear w1
            refine h_bipush F dX9_ink_43 rfl ?_
            refine h_isub (a := f (ov / 4)) (b := 97) F dX9_ink_45 ?_
            refine h_gli9 F hZ0 hS (by omega) dX9_ink_46 ?_
            refine lv_istore_n (lv' := [(3, .int (iI (gl ((f (ov / 4)) - 97)))), (0, .ref q), (1, .int (iI ov)), (2, .int (iI dn))]) F.1 F.2.1 dX9_ink_47 rfl hl (by decide) rfl (fun ls hl => ?_)
            refine h_iconst F dX9_ink_48 ?_
            refine lv_iload_n F.1 F.2.1 dX9_ink_49 rfl (lv_at hl 3 rfl) ?_
            refine h_imul (a := 3) (b := dn) F dX9_ink_50 ?_
            refine lv_iload_n F.1 F.2.1 dX9_ink_51 rfl (lv_at hl 2 rfl) ?_
            refine h_iconst F dX9_ink_52 ?_
            refine h_irem F dX9_ink_53 (by omega) ?_
            refine h_iadd (a := 3 * dn) (b := ov % 4) F dX9_ink_54 ?_
            refine lv_istore (lv' := [(4, .int (iI ((3 * dn) + (ov % 4)))), (3, .int (iI (gl ((f (ov / 4)) - 97)))), (0, .ref q), (1, .int (iI ov)), (2, .int (iI dn))]) F.1 F.2.1 dX9_ink_55 hl (by decide) rfl (fun ls hl => ?_)
            have loop57 : ∀ (n9 : Nat) (k : Int), (hrg : 3 * dn + ov % 4 ≤ k ∧ k ≤ 14) → (hms : 14 - k < (n9 : Int)) → (H : Heap) → (locs : List Loc) → (ls : Array Slot) → Wd X w s H → va_S (cxA X) s.heap H locs → lv_has ls 5 [(3, .int (iI (gl (f (ov / 4) - 97) / 2 ^ (k - (3 * dn + ov % 4)).toNat))), (4, .int (iI k)), (0, .ref q), (1, .int (iI ov)), (2, .int (iI dn))] → W p l e (rmG 4 0 0 85) s m (List.toArray [.ref q, .int (iI ov), .int (iI dn)]) below meth c H locs (0 + 0 + 0) (0 + 0 + 0) (MX X below (List.toArray [.ref q, .int (iI ov), .int (iI dn)]) s 0 0 (some (.int (iI (bz (ikB n f ov dn))))) (fun w' => w' = w)) (F0 m 57 ls []) := by
              intro n9
              induction n9 with
              | zero => intro k  hrg hms; exfalso; omega
              | succ n9 ih57 =>
                intro k  hrg hms   H locs ls hW hS hl
                have hgr := sh_rng (gl_r (f (ov / 4) - 97)) (k - (3 * dn + ov % 4)).toNat
                refine lv_iload F.1 F.2.1 dX9_ink_57 (lv_at hl 1 rfl) ?_
                refine h_bipush F dX9_ink_59 rfl ?_
                refine h_icge (tgt := 74) F dX9_ink_61 (by decide) (by omega) (fun c8 => ?_) (fun c8 => ?_)
                · refine lv_iload_n F.1 F.2.1 dX9_ink_74 rfl (lv_at hl 0 rfl) ?_
                  refine h_iconst F dX9_ink_75 ?_
                  refine h_irem F dX9_ink_76 (by omega) ?_
                  refine h_iconst F dX9_ink_77 ?_
                  refine h_icne (tgt := 85) F dX9_ink_78 (by decide) (by omega) (fun c9 => ?_) (fun c9 => ?_)
                  · have hz9 := c9
                    have hk14 : k = 14 := by omega
                    refine h_iconst F dX9_ink_85 ?_
                    refine h_top (show (0 : Int) = bz (ikB n f ov dn) from bzf (by rw [ik_v (by omega)]; exact decide_eq_false (by rw [hk14] at hz9; exact hz9))) ?_
                    exact h_iretz F hr hlk hW hS rfl dX9_ink_86
                  · have hz9 := c9
                    have hk14 : k = 14 := by omega
                    refine h_iconst F dX9_ink_81 ?_
                    refine h_goto (tgt := 86) F dX9_ink_82 (by decide) ?_
                    refine h_top (show (1 : Int) = bz (ikB n f ov dn) from bzt (by rw [ik_v (by omega)]; exact decide_eq_true (by rw [hk14] at hz9; exact hz9))) ?_
                    exact h_iretz F hr hlk hW hS rfl dX9_ink_86
                · refine lv_iload_n F.1 F.2.1 dX9_ink_64 rfl (lv_at hl 0 rfl) ?_
                  refine h_iconst F dX9_ink_65 ?_
                  refine h_idiv F dX9_ink_66 (by omega) ?_
                  refine lv_istore_n (lv' := [(3, .int (iI ((gl (f (ov / 4) - 97) / 2 ^ (k - (3 * dn + ov % 4)).toNat) / 2))), (4, .int (iI k)), (0, .ref q), (1, .int (iI ov)), (2, .int (iI dn))]) F.1 F.2.1 dX9_ink_67 rfl hl (by decide) rfl (fun ls hl => ?_)
                  refine h_iinc (k := 1) (a := k) (lv' := [(4, .int (iI (k + 1))), (3, .int (iI ((gl (f (ov / 4) - 97) / 2 ^ (k - (3 * dn + ov % 4)).toNat) / 2))), (0, .ref q), (1, .int (iI ov)), (2, .int (iI dn))]) F dX9_ink_68 hl rfl (by decide) rfl (fun ls hl => ?_)
                  refine h_goto (tgt := 57) F dX9_ink_71 (by decide) ?_
                  have eq10 : (gl (f (ov / 4) - 97) / 2 ^ ((k + 1) - (3 * dn + ov % 4)).toNat : Int) = (gl (f (ov / 4) - 97) / 2 ^ (k - (3 * dn + ov % 4)).toNat) / 2 := sh_half (by omega)
                  have eq11 : ((k + 1) : Int) = k + 1 := by first | rfl | omega | simp
                  exact ih57 (k + 1)  (by omega) (by omega)   _ _ ls hW hS (by rw [eq10, eq11]; exact lv_sub hl [1, 0, 2, 3, 4] rfl)
            have eq12 : (gl (f (ov / 4) - 97) / 2 ^ ((3 * dn + ov % 4) - (3 * dn + ov % 4)).toNat : Int) = gl ((f (ov / 4)) - 97) := by rw [Int.sub_self]; simp
            have eq13 : ((3 * dn + ov % 4) : Int) = (3 * dn) + (ov % 4) := by first | rfl | omega | simp
            exact loop57 ((14 - (3 * dn + ov % 4)) + 1 : Int).toNat (3 * dn + ov % 4)   (by omega) (by omega)   _ _ ls hW hS (by rw [eq12, eq13]; exact lv_sub hl [1, 0, 2, 3, 4] rfl)
          · refine h_iconst F dX9_ink_28 ?_
            refine h_top (show (0 : Int) = bz (ikB n f ov dn) from bzf (ik_0 (by omega))) ?_
            exact h_iretz F hr hlk hW hS rfl dX9_ink_29
set_option maxHeartbeats 4000000 in
set_option maxRecDepth 100000 in
theorem c_X10_rows (l : Launch) (X : Cx) (w : Wo) (h : Nat) (σ : Int → Int) (hO : ownA X w h σ) : CM l X yX10_rows cX10_rows 1 (some (.int)) (rmG 1 0 0 20) [.ref h] w (some (.int (iI (σ 4)))) (fun w' => w' = w) := by
  refine CM.of (lv := [(0, .ref h)]) (by decide) (Nat.le_of_ble_eq_true rfl) rfl (fun p e s m below meth c ls F hr hlk hin hW hS hl => ?_)
  have hZ0 := hW.2.2
  have hB9 := hW.1.2
  clear hin
  obtain ⟨st, lc, ec, lr, er, mc, mr, kc, kr, gc, gr, cd, rwa, fs, nr, wh, h1, ⟨h2, h2f⟩, ⟨h3, h3e, h3k, h3l⟩, hck, ⟨h4, h4e, h4k, h4l⟩, hrr, ⟨hnr, hwh, hem⟩, ⟨hWF, hw0, hw1⟩, hst, hinj, hcj, hlne, hene⟩ := hO
  obtain ⟨wf0, wf1, wf2, wf3, wf4, wf5⟩ := hWF.1
  have hnc := nr_cases hnr wf4.2
  refine lv_aload_n F.1 F.2.1 dX10_rows_0 rfl (lv_at hl 0 rfl) ?_
  refine gf_RX10_30 F hW h1 rfl dX10_rows_1 ?_
  refine h_ifeqb (tgt := 14) F dX10_rows_4 (by decide) (fun c1 => ?_) (fun c1 => ?_)
  · rw [hwh] at c1
    have hwz := of_decide_eq_false c1
    refine lv_aload_n F.1 F.2.1 dX10_rows_14 rfl (lv_at hl 0 rfl) ?_
    refine gf_RX10_24 F hW h1 rfl dX10_rows_15 ?_
    refine cl_RX10_37 (As := []) (rest := []) F hl (c_Jx4a65c_size_8abf5 l X w lr mr er nr h4) hW hS h4 rfl rfl ⟨Nat.le_of_ble_eq_true rfl, Nat.le_of_ble_eq_true rfl⟩ (Nat.le_of_ble_eq_true rfl) ⟨(by show 0 + 0 ≤ 0; omega), (by show 0 + 0 ≤ 0; omega)⟩ dX10_rows_18 (fun w1 H locs hp2 hW hS => ?_)
    rw [hp2] at hW; clear hp2; clear w1
    refine h_iconst F dX10_rows_23 ?_
    refine h_isub (a := nr) (b := 1) F dX10_rows_24 ?_
    refine h_top (show (nr - 1 : Int) = σ 4 from by omega) ?_
    exact h_ireti F hr hlk hW hS rfl dX10_rows_25
  · rw [hwh] at c1
    have hwz := of_decide_eq_true c1
    refine lv_aload_n F.1 F.2.1 dX10_rows_7 rfl (lv_at hl 0 rfl) ?_
    refine gf_RX10_34 F hW h1 rfl dX10_rows_8 ?_
    refine h_goto (tgt := 25) F dX10_rows_11 (by decide) ?_
    refine h_top (show (σ 1 : Int) = σ 4 from by omega) ?_
    exact h_ireti F hr hlk hW hS rfl dX10_rows_25
set_option maxHeartbeats 4000000 in
set_option maxRecDepth 100000 in
theorem c_X10_at (l : Launch) (X : Cx) (w : Wo) (h : Nat) (σ : Int → Int) (x9 y9 : Int) (hO : ownA X w h σ) (hcx : 0 ≤ x9 ∧ x9 < σ 0) (hry : 0 ≤ y9 ∧ y9 < σ 1) : CM l X yX10_at cX10_at 3 (some (.int)) (rmG 3 0 0 64) [.ref h, .int (iI x9), .int (iI y9)] w (some (.int (iI (cellS σ x9 y9)))) (fun w' => w' = w) := by
  refine CM.of (lv := [(0, .ref h), (1, .int (iI x9)), (2, .int (iI y9))]) (by decide) (Nat.le_of_ble_eq_true rfl) rfl (fun p e s m below meth c ls F hr hlk hin hW hS hl => ?_)
  have hZ0 := hW.2.2
  have hB9 := hW.1.2
  clear hin
  obtain ⟨st, lc, ec, lr, er, mc, mr, kc, kr, gc, gr, cd, rwa, fs, nr, wh, h1, ⟨h2, h2f⟩, ⟨h3, h3e, h3k, h3l⟩, hck, ⟨h4, h4e, h4k, h4l⟩, hrr, ⟨hnr, hwh, hem⟩, ⟨hWF, hw0, hw1⟩, hst, hinj, hcj, hlne, hene⟩ := hO
  obtain ⟨wf0, wf1, wf2, wf3, wf4, wf5⟩ := hWF.1
  have hnc := nr_cases hnr wf4.2
  refine lv_iload_n F.1 F.2.1 dX10_at_0 rfl (lv_at hl 2 rfl) ?_
  refine lv_aload_n F.1 F.2.1 dX10_at_1 rfl (lv_at hl 0 rfl) ?_
  refine gf_RX10_24 F hW h1 rfl dX10_at_2 ?_
  refine cl_RX10_37 (As := []) (rest := [.int (iI y9)]) F hl (c_Jx4a65c_size_8abf5 l X w lr mr er nr h4) hW hS h4 rfl rfl ⟨Nat.le_of_ble_eq_true rfl, Nat.le_of_ble_eq_true rfl⟩ (Nat.le_of_ble_eq_true rfl) ⟨(by show 0 + 0 ≤ 0; omega), (by show 0 + 0 ≤ 0; omega)⟩ dX10_at_5 (fun w1 H locs hp1 hW hS => ?_)
  rw [hp1] at hW; clear hp1; clear w1
  refine h_icge (tgt := 31) F dX10_at_10 (by decide) (by omega) (fun c2 => ?_) (fun c2 => ?_)
  · refine h_iconst F dX10_at_31 ?_
    refine h_top (show ((-1) : Int) = cellS σ x9 y9 from by rw [hem x9 y9 hcx.1 hcx.2 (by omega) hry.2]) ?_
    exact h_ireti F hr hlk hW hS rfl dX10_at_32
  · refine lv_aload_n F.1 F.2.1 dX10_at_13 rfl (lv_at hl 0 rfl) ?_
    refine gf_RX10_24 F hW h1 rfl dX10_at_14 ?_
    refine lv_iload_n F.1 F.2.1 dX10_at_17 rfl (lv_at hl 2 rfl) ?_
    refine cl_RX10_51 (As := [.int (iI y9)]) (rest := []) F hl (c_Jx4a65c_get_915e3 l X w lr mr er nr kr gr y9 (rwa y9) h4 h4e (by omega) ((hrr y9 (by omega) (by omega)).1)) hW hS h4 rfl rfl ⟨Nat.le_of_ble_eq_true rfl, Nat.le_of_ble_eq_true rfl⟩ (Nat.le_of_ble_eq_true rfl) ⟨(by show 0 + 0 + 0 ≤ 0; omega), (by show 0 + 0 + 0 ≤ 0; omega)⟩ dX10_at_18 (fun w1 H locs hp3 hW hS => ?_)
    rw [hp3] at hW; clear hp3; clear w1
    obtain ⟨fr, hfr1, hfr2⟩ := (hrr y9 (by omega) (by omega)).2
    refine h_castI F hW hfr1 kl_RX10_55 dX10_at_23 ?_
    refine lv_iload_n F.1 F.2.1 dX10_at_26 rfl (lv_at hl 1 rfl) ?_
    refine h_iald F hW hfr1 (by omega) (by omega) dX10_at_27 ?_
    refine h_goto (tgt := 32) F dX10_at_28 (by decide) ?_
    refine h_top (show (fr x9 : Int) = cellS σ x9 y9 from hfr2 x9 hcx.1 hcx.2) ?_
    exact h_ireti F hr hlk hW hS rfl dX10_at_32
set_option maxHeartbeats 4000000 in
set_option maxRecDepth 100000 in
theorem c_X10_over (l : Launch) (X : Cx) (w : Wo) (h q wd : Nat) (σ : Int → Int) (sd co x y col : Int) (hO : ownA X w h σ) (hcp : w q = some (.inr (9, [.ref wd, .int (iI sd), .int (iI co), .int (iI x), .int (iI y)]))) (hx9 : -1000 ≤ x ∧ x < 1000 ∧ (sd = 0 ∨ sd = 1)) (hcol : -1000 ≤ col ∧ col < 1000) : CM l X yX10_over cX10_over 3 (some (.int)) (rmG 0 0 0 0) [.ref h, .ref q, .int (iI col)] w (some (.int (iI (ovC (σ 0) sd x col)))) (fun w' => w' = w) := by
  refine CM.of (lv := [(0, .ref h), (1, .ref q), (2, .int (iI col))]) (by decide) (Nat.le_of_ble_eq_true rfl) rfl (fun p e s m below meth c ls F hr hlk hin hW hS hl => ?_)
  have hZ0 := hW.2.2
  have hB9 := hW.1.2
  clear hin
  obtain ⟨st, lc, ec, lr, er, mc, mr, kc, kr, gc, gr, cd, rwa, fs, nr, wh, h1, ⟨h2, h2f⟩, ⟨h3, h3e, h3k, h3l⟩, hck, ⟨h4, h4e, h4k, h4l⟩, hrr, ⟨hnr, hwh, hem⟩, ⟨hWF, hw0, hw1⟩, hst, hinj, hcj, hlne, hene⟩ := hO
  obtain ⟨wf0, wf1, wf2, wf3, wf4, wf5⟩ := hWF.1
  have hnc := nr_cases hnr wf4.2
  refine lv_aload_n F.1 F.2.1 dX10_over_0 rfl (lv_at hl 1 rfl) ?_
  refine gf_RX10_56 F hW hcp rfl dX10_over_1 ?_
  refine h_ifne (tgt := 11) F dX10_over_4 (by decide) (by omega) (fun c1 => ?_) (fun c1 => ?_)
  · have hz9 := c1
    refine lv_aload_n F.1 F.2.1 dX10_over_11 rfl (lv_at hl 0 rfl) ?_
    refine gf_RX10_27 F hW h1 rfl dX10_over_12 ?_
    refine h_iconst F dX10_over_15 ?_
    refine h_isub (a := σ 0) (b := 1) F dX10_over_16 ?_
    refine lv_iload_n F.1 F.2.1 dX10_over_17 rfl (lv_at hl 2 rfl) ?_
    refine h_isub (a := (σ 0) - 1) (b := col) F dX10_over_18 ?_
    refine lv_aload_n F.1 F.2.1 dX10_over_19 rfl (lv_at hl 1 rfl) ?_
    refine gf_RX10_61 F hW hcp rfl dX10_over_20 ?_
    refine h_isub (a := ((σ 0) - 1) - col) (b := x) F dX10_over_23 ?_
    refine h_top (show ((((σ 0) - 1) - col) - x : Int) = ovC (σ 0) sd x col from by unfold ovC; rw [if_neg hz9]) ?_
    exact h_ireti F hr hlk hW hS rfl dX10_over_24
  · have hz9 := c1
    refine lv_iload_n F.1 F.2.1 dX10_over_7 rfl (lv_at hl 2 rfl) ?_
    refine h_goto (tgt := 19) F dX10_over_8 (by decide) ?_
    refine lv_aload_n F.1 F.2.1 dX10_over_19 rfl (lv_at hl 1 rfl) ?_
    refine gf_RX10_61 F hW hcp rfl dX10_over_20 ?_
    refine h_isub (a := col) (b := x) F dX10_over_23 ?_
    refine h_top (show (col - x : Int) = ovC (σ 0) sd x col from by unfold ovC; rw [if_pos hz9]) ?_
    exact h_ireti F hr hlk hW hS rfl dX10_over_24
set_option maxHeartbeats 4000000 in
set_option maxRecDepth 100000 in
theorem c_X10_lies (l : Launch) (X : Cx) (w : Wo) (h : Nat) (σ : Int → Int) (n x y : Int) (hO : ownA X w h σ) (hnb : 0 ≤ n ∧ n ≤ 1000) (hxy : -1000 ≤ x ∧ x ≤ 1000 ∧ -1000 ≤ y ∧ y ≤ 1000) : CM l X yX10_lies cX10_lies 4 (some (.boolean)) (rmG 0 0 0 0) [.ref h, .int (iI n), .int (iI x), .int (iI y)] w (some (.int (iI (bz (liesS σ n x y))))) (fun w' => w' = w) := by
  refine CM.of (lv := [(0, .ref h), (1, .int (iI n)), (2, .int (iI x)), (3, .int (iI y))]) (by decide) (Nat.le_of_ble_eq_true rfl) rfl (fun p e s m below meth c ls F hr hlk hin hW hS hl => ?_)
  have hZ0 := hW.2.2
  have hB9 := hW.1.2
  clear hin
  obtain ⟨st, lc, ec, lr, er, mc, mr, kc, kr, gc, gr, cd, rwa, fs, nr, wh, h1, ⟨h2, h2f⟩, ⟨h3, h3e, h3k, h3l⟩, hck, ⟨h4, h4e, h4k, h4l⟩, hrr, ⟨hnr, hwh, hem⟩, ⟨hWF, hw0, hw1⟩, hst, hinj, hcj, hlne, hene⟩ := hO
  obtain ⟨wf0, wf1, wf2, wf3, wf4, wf5⟩ := hWF.1
  have hnc := nr_cases hnr wf4.2
  refine lv_iload_n F.1 F.2.1 dX10_lies_0 rfl (lv_at hl 2 rfl) ?_
  refine h_iflt (tgt := 36) F dX10_lies_1 (by decide) (by omega) (fun c1 => ?_) (fun c1 => ?_)
  · refine h_iconst F dX10_lies_36 ?_
    refine h_top (show (0 : Int) = bz (liesS σ n x y) from bzf (decide_eq_false (by omega))) ?_
    exact h_iretz F hr hlk hW hS rfl dX10_lies_37
  · refine lv_iload_n F.1 F.2.1 dX10_lies_4 rfl (lv_at hl 3 rfl) ?_
    refine h_iflt (tgt := 36) F dX10_lies_5 (by decide) (by omega) (fun c2 => ?_) (fun c2 => ?_)
    · refine h_iconst F dX10_lies_36 ?_
      refine h_top (show (0 : Int) = bz (liesS σ n x y) from bzf (decide_eq_false (by omega))) ?_
      exact h_iretz F hr hlk hW hS rfl dX10_lies_37
    · refine lv_iload_n F.1 F.2.1 dX10_lies_8 rfl (lv_at hl 2 rfl) ?_
      refine h_iconst F dX10_lies_9 ?_
      refine lv_iload_n F.1 F.2.1 dX10_lies_10 rfl (lv_at hl 1 rfl) ?_
      refine h_imul (a := 4) (b := n) F dX10_lies_11 ?_
      refine h_iadd (a := x) (b := 4 * n) F dX10_lies_12 ?_
      refine h_iconst F dX10_lies_13 ?_
      refine h_isub (a := x + (4 * n)) (b := 1) F dX10_lies_14 ?_
      refine lv_aload_n F.1 F.2.1 dX10_lies_15 rfl (lv_at hl 0 rfl) ?_
      refine gf_RX10_27 F hW h1 rfl dX10_lies_16 ?_
      refine h_icgt (tgt := 36) F dX10_lies_19 (by decide) (by omega) (fun c3 => ?_) (fun c3 => ?_)
      · refine h_iconst F dX10_lies_36 ?_
        refine h_top (show (0 : Int) = bz (liesS σ n x y) from bzf (decide_eq_false (by omega))) ?_
        exact h_iretz F hr hlk hW hS rfl dX10_lies_37
      · refine lv_iload_n F.1 F.2.1 dX10_lies_22 rfl (lv_at hl 3 rfl) ?_
        refine h_iconst F dX10_lies_23 ?_
        refine h_iadd (a := y) (b := 5) F dX10_lies_24 ?_
        refine lv_aload_n F.1 F.2.1 dX10_lies_25 rfl (lv_at hl 0 rfl) ?_
        refine gf_RX10_34 F hW h1 rfl dX10_lies_26 ?_
        refine h_icgt (tgt := 36) F dX10_lies_29 (by decide) (by omega) (fun c4 => ?_) (fun c4 => ?_)
        · refine h_iconst F dX10_lies_36 ?_
          refine h_top (show (0 : Int) = bz (liesS σ n x y) from bzf (decide_eq_false (by omega))) ?_
          exact h_iretz F hr hlk hW hS rfl dX10_lies_37
        · refine h_iconst F dX10_lies_32 ?_
          refine h_goto (tgt := 37) F dX10_lies_33 (by decide) ?_
          refine h_top (show (1 : Int) = bz (liesS σ n x y) from bzt (decide_eq_true (by omega))) ?_
          exact h_iretz F hr hlk hW hS rfl dX10_lies_37
set_option maxHeartbeats 4000000 in
set_option maxRecDepth 100000 in
theorem c_X10_design (l : Launch) (X : Cx) (w : Wo) (h : Nat) (σ : Int → Int) (x9 y9 : Int) (hO : ownA X w h σ) (hcx : 0 ≤ x9 ∧ x9 < σ 0) (hry : 0 ≤ y9 ∧ y9 < σ 1) : CM l X yX10_design cX10_design 6 (some (.int)) (rmG 5 1 4 109) [.ref h, .int (iI x9), .int (iI y9)] w (some (.int (iI (desS σ x9 y9)))) (fun w' => w' = w) := by
  refine CM.of (lv := [(0, .ref h), (1, .int (iI x9)), (2, .int (iI y9))]) (by decide) (Nat.le_of_ble_eq_true rfl) rfl (fun p e s m below meth c ls F hr hlk hin hW hS hl => ?_)
  have hZ0 := hW.2.2
  have hB9 := hW.1.2
  clear hin
  have hO0 := hO
  obtain ⟨st, lc, ec, lr, er, mc, mr, kc, kr, gc, gr, cd, rwa, fs, nr, wh, h1, ⟨h2, h2f⟩, ⟨h3, h3e, h3k, h3l⟩, hck, ⟨h4, h4e, h4k, h4l⟩, hrr, ⟨hnr, hwh, hem⟩, ⟨hWF, hw0, hw1⟩, hst, hinj, hcj, hlne, hene⟩ := hO
  obtain ⟨wf0, wf1, wf2, wf3, wf4, wf5⟩ := hWF.1
  have hnc := nr_cases hnr wf4.2
  refine h_iconst F dX10_design_0 ?_
  refine lv_istore_n (lv' := [(3, .int (iI 0)), (0, .ref h), (1, .int (iI x9)), (2, .int (iI y9))]) F.1 F.2.1 dX10_design_1 rfl hl (by decide) rfl (fun ls hl => ?_)
  refine lv_aload_n F.1 F.2.1 dX10_design_2 rfl (lv_at hl 1 rfl) ?_
  refine gf_RX10_20 F hW h1 rfl dX10_design_3 ?_
  refine cr_RX10_64 (As := []) (rest := []) F hl (c_Jx4a65c_iterator_32c93 l X w lc mc ec (σ 5) h3) hW hS h3 rfl rfl ⟨Nat.le_of_ble_eq_true rfl, Nat.le_of_ble_eq_true rfl⟩ (Nat.le_of_ble_eq_true rfl) ⟨(by show 0 + 1 ≤ 1; omega), (by show 0 + 4 ≤ 4; omega)⟩ dX10_design_6 (fun v3 w1 H locs hp2 hW hS => ?_)
  obtain ⟨it, rfl, hfr4, ho5, hx6⟩ := hp2
  have hb7 := hfr4 _ _ h1
  have hb8 := hfr4 _ _ h4
  have hb9 := hfr4 _ _ h3
  have hb10 := hfr4 _ _ h4e
  have hb11 := hfr4 _ _ h2
  have h1 := hx6 _ _ h1 
  have h4 := hx6 _ _ h4 
  have h3 := hx6 _ _ h3 
  have h4e := hx6 _ _ h4e 
  have h2 := hx6 _ _ h2 
  refine lv_astore (lv' := [(4, .ref it), (3, .int (iI 0)), (0, .ref h), (1, .int (iI x9)), (2, .int (iI y9))]) F.1 F.2.1 dX10_design_11 hl (by decide) rfl (fun ls hl => ?_)
  have loop13 : ∀ (n9 : Nat) (k : Int), (hrg : 0 ≤ k ∧ k ≤ σ 5) → (hms : σ 5 - k < (n9 : Int)) → (w6 : Wo) → (hO13_0 : w6 it = some (.inr (13, [.int (iI k), .int (iI (k - 1)), .int mc, .ref lc]))) → (hF13 : ∀ q : Nat, q < it → w6 q = w1 q) → (H : Heap) → (locs : List Loc) → (ls : Array Slot) → Wd X w6 s H → va_S (cxA X) s.heap H locs → lv_has ls 6 [(3, .int (iI (dzN σ x9 y9 k.toNat))), (4, .ref it), (0, .ref h), (1, .int (iI x9)), (2, .int (iI y9))] → W p l e (rmG 5 1 4 109) s m (List.toArray [.ref h, .int (iI x9), .int (iI y9)]) below meth c H locs (0 + 1) (0 + 4) (MX X below (List.toArray [.ref h, .int (iI x9), .int (iI y9)]) s 1 4 (some (.int (iI (desS σ x9 y9)))) (fun w' => w' = w)) (F0 m 13 ls []) := by
    intro n9
    induction n9 with
    | zero => intro k  hrg hms; exfalso; omega
    | succ n9 ih13 =>
      intro k  hrg hms w6 hO13_0 hF13  H locs ls hW hS hl
      have h1 := (hF13 _ (by omega)).trans h1
      have h4 := (hF13 _ (by omega)).trans h4
      have h3 := (hF13 _ (by omega)).trans h3
      have h4e := (hF13 _ (by omega)).trans h4e
      have h2 := (hF13 _ (by omega)).trans h2
      refine lv_aload F.1 F.2.1 dX10_design_13 (lv_at hl 1 rfl) ?_
      refine cl_RX10_68 (As := []) (rest := []) F hl (c_Jx35411_hasNext_aae02 l X w6 it lc k (iI (k - 1)) mc mc ec (σ 5) hO13_0 h3 (by omega)) hW hS hO13_0 rfl rfl ⟨Nat.le_of_ble_eq_true rfl, Nat.le_of_ble_eq_true rfl⟩ (Nat.le_of_ble_eq_true rfl) ⟨(by show 0 + 1 + 0 ≤ 1; omega), (by show 0 + 4 + 0 ≤ 4; omega)⟩ dX10_design_15 (fun w1 H locs hp12 hW hS => ?_)
      rw [hp12] at hW; clear hp12; clear w1
      refine h_ifeqb (tgt := 68) F dX10_design_20 (by decide) (fun c13 => ?_) (fun c13 => ?_)
      · have hke : k = σ 5 := by have := of_decide_eq_false c13; omega
        refine lv_iload_n F.1 F.2.1 dX10_design_68 rfl (lv_at hl 0 rfl) ?_
        refine W.wd (mc := 1) (ms := 4) (by omega) (by omega) ?_
        have hW := Wd.dn hW (w := w) (fun q e h9 => by
          have z9_14 := hfr4 q e h9
          have h9 := hx6 q e h9 
          have h9 := (hF13 q (by omega)).trans h9
          exact h9)
        refine h_top (show (dzN σ x9 y9 k.toNat : Int) = desS σ x9 y9 from by rw [hke]; exact dz_des hWF x9 y9) ?_
        exact h_ireti F hr hlk hW hS rfl dX10_design_69
      · have hkl : k < σ 5 := of_decide_eq_true c13
        have hec0 : w ec = some (aR X 5 kc gc) := by
          rcases h3e with hz9 | hz9
          · omega
          · exact hz9.1
        have hecb := hfr4 _ _ hec0
        have hecw := (show ext w w6 from fun q e h9 => by have z9_1 := hfr4 q e h9; have h9 := hx6 q e h9 ; have h9 := (hF13 q (by omega)).trans h9; exact h9) _ _ hec0
        refine lv_aload F.1 F.2.1 dX10_design_23 (lv_at hl 1 rfl) ?_
        refine cl_RX10_74 (As := []) (rest := []) F hl (c_Jx35411_next_0502b l X w6 it lc k (iI (k - 1)) mc ec (σ 5) kc gc (cd k) hO13_0 h3 hecw (by omega) ((hck k (by omega) (by omega)).1) (⟨by omega, by omega⟩)) hW hS hO13_0 rfl rfl ⟨Nat.le_of_ble_eq_true rfl, Nat.le_of_ble_eq_true rfl⟩ (Nat.le_of_ble_eq_true rfl) ⟨(by show 0 + 1 + 0 + 0 ≤ 1; omega), (by show 0 + 4 + 0 + 0 ≤ 4; omega)⟩ dX10_design_25 (fun w15 H locs hp16 hW hS => ?_)
        obtain ⟨ho17, hn18⟩ := hp16
        have h1 := (hn18 _ (by omega)).trans h1
        have h4 := (hn18 _ (by omega)).trans h4
        have h3 := (hn18 _ (by omega)).trans h3
        have h4e := (hn18 _ (by omega)).trans h4e
        have h2 := (hn18 _ (by omega)).trans h2
        have hEx : ext w w15 := (show ext w w15 from fun q e h9 => by have z9_1 := hfr4 q e h9; have h9 := hx6 q e h9 ; have h9 := (hF13 q (by omega)).trans h9; have h9 := (hn18 q (by omega)).trans h9; exact h9)
        obtain ⟨fk, ⟨wdk, hcpk, hsk⟩, hfk⟩ := (hck k (by omega) (by omega)).2
        have hcpk := hEx _ _ hcpk
        have hsk := hsk.ex hEx
        have hok := hWF.2.2.1 k (by omega) (by omega)
        obtain ⟨ok0, ok1, ok2, ok3, ok4, ok5⟩ := hok
        refine h_castO F hW (ci := 9) rfl hcpk kl_RX10_57 dX10_design_30 ?_
        refine lv_astore (lv' := [(5, .ref (cd k)), (3, .int (iI (dzN σ x9 y9 k.toNat))), (4, .ref it), (0, .ref h), (1, .int (iI x9)), (2, .int (iI y9))]) F.1 F.2.1 dX10_design_33 hl (by decide) rfl (fun ls hl => ?_)
        refine lv_aload F.1 F.2.1 dX10_design_35 (lv_at hl 0 rfl) ?_
        refine lv_aload_n F.1 F.2.1 dX10_design_37 rfl (lv_at hl 3 rfl) ?_
        refine lv_aload F.1 F.2.1 dX10_design_38 (lv_at hl 0 rfl) ?_
        refine lv_iload_n F.1 F.2.1 dX10_design_40 rfl (lv_at hl 4 rfl) ?_
        refine cl_RX10_78 (As := [.ref (cd k), .int (iI x9)]) (rest := [.ref (cd k)]) F hl (c_X10_over l X w15 h (cd k) wdk σ (cp σ k 1) (cp σ k 4) (cp σ k 2) (cp σ k 3) x9 (hO0.ex hEx) hcpk (by omega) (by omega)) hW hS h1 rfl rfl ⟨Nat.le_of_ble_eq_true rfl, Nat.le_of_ble_eq_true rfl⟩ (Nat.le_of_ble_eq_true rfl) ⟨(by show 0 + 1 + 0 + 0 + 0 ≤ 1; omega), (by show 0 + 4 + 0 + 0 + 0 ≤ 4; omega)⟩ dX10_design_41 (fun w1 H locs hp19 hW hS => ?_)
        rw [hp19] at hW; clear hp19; clear w1
        refine lv_aload F.1 F.2.1 dX10_design_44 (lv_at hl 0 rfl) ?_
        refine gf_RX10_82 F hW hcpk rfl dX10_design_46 ?_
        refine h_iconst F dX10_design_49 ?_
        refine h_iadd (a := cp σ k 3) (b := 4) F dX10_design_50 ?_
        refine lv_iload_n F.1 F.2.1 dX10_design_51 rfl (lv_at hl 5 rfl) ?_
        refine h_isub (a := (cp σ k 3) + 4) (b := y9) F dX10_design_52 ?_
        refine cl_RX10_85 (As := [.int (iI (ovC (σ 0) (cp σ k 1) (cp σ k 2) x9)), .int (iI (((cp σ k 3) + 4) - y9))]) (rest := []) F hl (c_X9_ink l X w15 (cd k) wdk ((cp σ k 0).toNat) (cp σ k 1) (cp σ k 4) (cp σ k 2) (cp σ k 3) fk (ovC (σ 0) (cp σ k 1) (cp σ k 2) x9) (((cp σ k 3) + 4) - y9) hcpk hsk (fun j h1 h2 => by have := hfk j h1 (by omega); have := ok5 j h1 (by omega); omega) (by omega) (by unfold ovC; split <;> omega) (by omega)) hW hS hcpk rfl rfl ⟨Nat.le_of_ble_eq_true rfl, Nat.le_of_ble_eq_true rfl⟩ (Nat.le_of_ble_eq_true rfl) ⟨(by show 0 + 1 + 0 + 0 + 0 + 0 ≤ 1; omega), (by show 0 + 4 + 0 + 0 + 0 + 0 ≤ 4; omega)⟩ dX10_design_53 (fun w1 H locs hp20 hW hS => ?_)
        rw [hp20] at hW; clear hp20; clear w1
        refine h_top (show (bz (ikB ((cp σ k 0).toNat) fk (ovC (σ 0) (cp σ k 1) (cp σ k 2) x9) (((cp σ k 3) + 4) - y9)) : Int) = bz (hitS σ x9 y9 k) from congrArg bz (ik_hit ⟨ok0, ok1, ok2, ok3, ok4, ok5⟩ hfk)) ?_
        refine h_ifeqb (tgt := 65) F dX10_design_56 (by decide) (fun c21 => ?_) (fun c21 => ?_)
        · have hst9 : dzN σ x9 y9 (k + 1).toNat = dzN σ x9 y9 k.toNat := by rw [dz_s (by omega), if_neg (by rw [c21]; decide)]
          refine h_goto (tgt := 13) F dX10_design_65 (by decide) ?_
          have eq22 : (dzN σ x9 y9 (k + 1).toNat : Int) = dzN σ x9 y9 k.toNat := hst9
          exact ih13 (k + 1)  (by omega) (by omega) w15 (by rw [show k + 1 - 1 = k by omega]; exact ho17) (fun q h09 => by rw [hn18 q (by omega), hF13 q (by omega)])  _ _ ls hW hS (by rw [eq22]; exact lv_sub hl [1, 2, 3, 4, 5] rfl)
        · have hst9 : dzN σ x9 y9 (k + 1).toNat = cp σ k 4 := by rw [dz_s (by omega), if_pos c21]
          refine lv_aload F.1 F.2.1 dX10_design_59 (lv_at hl 0 rfl) ?_
          refine gf_RX10_89 F hW hcpk rfl dX10_design_61 ?_
          refine lv_istore_n (lv' := [(3, .int (iI (cp σ k 4))), (5, .ref (cd k)), (4, .ref it), (0, .ref h), (1, .int (iI x9)), (2, .int (iI y9))]) F.1 F.2.1 dX10_design_64 rfl hl (by decide) rfl (fun ls hl => ?_)
          refine h_goto (tgt := 13) F dX10_design_65 (by decide) ?_
          have eq23 : (dzN σ x9 y9 (k + 1).toNat : Int) = cp σ k 4 := hst9
          exact ih13 (k + 1)  (by omega) (by omega) w15 (by rw [show k + 1 - 1 = k by omega]; exact ho17) (fun q h09 => by rw [hn18 q (by omega), hF13 q (by omega)])  _ _ ls hW hS (by rw [eq23]; exact lv_sub hl [0, 2, 3, 4, 5] rfl)
  have eq24 : (dzN σ x9 y9 (0 : Int).toNat : Int) = 0 := rfl
  exact loop13 ((σ 5 - 0) + 1 : Int).toNat 0   (by omega) (by omega) w1 (by skip; exact ho5) (fun q _ => rfl)  _ _ ls hW hS (by rw [eq24]; exact lv_sub hl [1, 0, 2, 3, 4] rfl)
