set_option maxHeartbeats 4000000 in
set_option maxRecDepth 100000 in
theorem c_X10_picture (l : Launch) (X : Cx) (w : Wo) (h q wd : Nat) (σ : Int → Int) (k9 j9 : Int) (g9 : Bool) (hO : ownA X w h σ) (hk : 0 ≤ k9 ∧ k9 < σ 5) (hj : 0 ≤ j9 ∧ j9 < cp σ k9 0) (hcp : w q = some (.inr (9, [.ref wd, .int (iI (cp σ k9 1)), .int (iI (cp σ k9 4)), .int (iI (cp σ k9 2)), .int (iI (cp σ k9 3))]))) : CM l X yX10_picture cX10_picture 9 (some (.int)) (rmG 4 0 0 86) [.ref h, .ref q, .int (iI j9), .int (iI (bz g9))] w (some (.int (iI (picS σ k9 j9 g9)))) (fun w' => w' = w) := by
  refine CM.of (lv := [(0, .ref h), (1, .ref q), (2, .int (iI j9)), (3, .int (iI (bz g9)))]) (by decide) (Nat.le_of_ble_eq_true rfl) rfl (fun p e s m below meth c ls F hr hlk hin hW hS hl => ?_)
  have hZ0 := hW.2.2
  have hB9 := hW.1.2
  clear hin
  have hO0 := hO
  obtain ⟨st, lc, ec, lr, er, mc, mr, kc, kr, gc, gr, cd, rwa, fs, nr, wh, h1, ⟨h2, h2f⟩, ⟨h3, h3e, h3k, h3l⟩, hck, ⟨h4, h4e, h4k, h4l⟩, hrr, ⟨hnr, hwh, hem⟩, ⟨hWF, hw0, hw1⟩, hst, hinj, hcj, hlne, hene⟩ := hO
  obtain ⟨wf0, wf1, wf2, wf3, wf4, wf5⟩ := hWF.1
  have hnc := nr_cases hnr wf4.2
  obtain ⟨ok0, ok1, ok2, ok3, ok4, -⟩ := hWF.2.2.1 k9 hk.1 hk.2
  refine h_iconst F dX10_picture_0 ?_
  refine lv_istore (lv' := [(4, .int (iI 0)), (0, .ref h), (1, .ref q), (2, .int (iI j9)), (3, .int (iI (bz g9)))]) F.1 F.2.1 dX10_picture_1 hl (by decide) rfl (fun ls hl => ?_)
  refine h_iconst F dX10_picture_3 ?_
  refine lv_istore (lv' := [(5, .int (iI 0)), (4, .int (iI 0)), (0, .ref h), (1, .ref q), (2, .int (iI j9)), (3, .int (iI (bz g9)))]) F.1 F.2.1 dX10_picture_4 hl (by decide) rfl (fun ls hl => ?_)
  have loop6 : ∀ (n9 : Nat) (d : Int), (hrg : 0 ≤ d ∧ d ≤ 5) → (hms : 5 - d < (n9 : Int)) → (H : Heap) → (locs : List Loc) → (ls : Array Slot) → Wd X w s H → va_S (cxA X) s.heap H locs → lv_has ls 9 [(4, .int (iI (bs (picB σ k9 j9 g9) (3 * d)))), (5, .int (iI d)), (0, .ref h), (1, .ref q), (2, .int (iI j9)), (3, .int (iI (bz g9)))] → W p l e (rmG 4 0 0 86) s m (List.toArray [.ref h, .ref q, .int (iI j9), .int (iI (bz g9))]) below meth c H locs (0) (0) (MX X below (List.toArray [.ref h, .ref q, .int (iI j9), .int (iI (bz g9))]) s 0 0 (some (.int (iI (picS σ k9 j9 g9)))) (fun w' => w' = w)) (F0 m 6 ls []) := by
    intro n9
    induction n9 with
    | zero => intro d  hrg hms; exfalso; omega
    | succ n9 ih6 =>
      intro d  hrg hms   H locs ls hW hS hl
      refine lv_iload F.1 F.2.1 dX10_picture_6 (lv_at hl 1 rfl) ?_
      refine h_iconst F dX10_picture_8 ?_
      refine h_icge (tgt := 119) F dX10_picture_9 (by decide) (by omega) (fun c1 => ?_) (fun c1 => ?_)
      · refine lv_iload F.1 F.2.1 dX10_picture_119 (lv_at hl 0 rfl) ?_
        refine h_top (show (bs (picB σ k9 j9 g9) (3 * d) : Int) = picS σ k9 j9 g9 from by rw [show (3 : Int) * d = 15 by omega]; rfl) ?_
        exact h_ireti F hr hlk hW hS rfl dX10_picture_121
      · refine h_iconst F dX10_picture_12 ?_
        refine lv_istore (lv' := [(6, .int (iI 0)), (4, .int (iI (bs (picB σ k9 j9 g9) (3 * d)))), (5, .int (iI d)), (0, .ref h), (1, .ref q), (2, .int (iI j9)), (3, .int (iI (bz g9)))]) F.1 F.2.1 dX10_picture_13 hl (by decide) rfl (fun ls hl => ?_)
        have loop15 : ∀ (n9 : Nat) (z : Int), (hrg : 0 ≤ z ∧ z ≤ 3) → (hms : 3 - z < (n9 : Int)) → (H : Heap) → (locs : List Loc) → (ls : Array Slot) → Wd X w s H → va_S (cxA X) s.heap H locs → lv_has ls 9 [(4, .int (iI (bs (picB σ k9 j9 g9) (3 * d + z)))), (6, .int (iI z)), (5, .int (iI d)), (0, .ref h), (1, .ref q), (2, .int (iI j9)), (3, .int (iI (bz g9)))] → W p l e (rmG 4 0 0 86) s m (List.toArray [.ref h, .ref q, .int (iI j9), .int (iI (bz g9))]) below meth c H locs (0) (0) (MX X below (List.toArray [.ref h, .ref q, .int (iI j9), .int (iI (bz g9))]) s 0 0 (some (.int (iI (picS σ k9 j9 g9)))) (fun w' => w' = w)) (F0 m 15 ls []) := by
          intro n9
          induction n9 with
          | zero => intro z  hrg hms; exfalso; omega
          | succ n9 ih15 =>
            intro z  hrg hms   H locs ls hW hS hl
            refine lv_iload F.1 F.2.1 dX10_picture_15 (lv_at hl 1 rfl) ?_
            refine h_iconst F dX10_picture_17 ?_
            refine h_icge (tgt := 113) F dX10_picture_18 (by decide) (by omega) (fun c2 => ?_) (fun c2 => ?_)
            · refine h_iinc (k := 2) (a := d) (lv' := [(5, .int (iI (d + 1))), (4, .int (iI (bs (picB σ k9 j9 g9) (3 * d + z)))), (6, .int (iI z)), (0, .ref h), (1, .ref q), (2, .int (iI j9)), (3, .int (iI (bz g9)))]) F dX10_picture_113 hl rfl (by decide) rfl (fun ls hl => ?_)
              refine h_goto (tgt := 6) F dX10_picture_116 (by decide) ?_
              have eq3 : (bs (picB σ k9 j9 g9) (3 * (d + 1)) : Int) = bs (picB σ k9 j9 g9) (3 * d + z) := by rw [show 3 * (d + 1) = 3 * d + z by omega]
              have eq4 : ((d + 1) : Int) = d + 1 := by first | rfl | omega | simp
              exact ih6 (d + 1)  (by omega) (by omega)   _ _ ls hW hS (by rw [eq3, eq4]; exact lv_sub hl [1, 0, 3, 4, 5, 6] rfl)
            · refine lv_aload_n F.1 F.2.1 dX10_picture_21 rfl (lv_at hl 4 rfl) ?_
              refine gf_RX10_61 F hW hcp rfl dX10_picture_22 ?_
              refine h_iconst F dX10_picture_25 ?_
              refine lv_iload_n F.1 F.2.1 dX10_picture_26 rfl (lv_at hl 5 rfl) ?_
              refine h_imul (a := 4) (b := j9) F dX10_picture_27 ?_
              refine h_iadd (a := cp σ k9 2) (b := 4 * j9) F dX10_picture_28 ?_
              refine lv_iload F.1 F.2.1 dX10_picture_29 (lv_at hl 1 rfl) ?_
              refine h_iadd (a := (cp σ k9 2) + (4 * j9)) (b := z) F dX10_picture_31 ?_
              refine lv_istore (lv' := [(7, .int (iI (((cp σ k9 2) + (4 * j9)) + z))), (4, .int (iI (bs (picB σ k9 j9 g9) (3 * d + z)))), (6, .int (iI z)), (5, .int (iI d)), (0, .ref h), (1, .ref q), (2, .int (iI j9)), (3, .int (iI (bz g9)))]) F.1 F.2.1 dX10_picture_32 hl (by decide) rfl (fun ls hl => ?_)
              have join55 : ∀ (H : Heap) (locs : List Loc) (ls : Array Slot), Wd X w s H → va_S (cxA X) s.heap H locs → lv_has ls 9 [(7, .int (iI (((cp σ k9 2) + (4 * j9)) + z))), (4, .int (iI (bs (picB σ k9 j9 g9) (3 * d + z)))), (6, .int (iI z)), (5, .int (iI d)), (0, .ref h), (1, .ref q), (2, .int (iI j9)), (3, .int (iI (bz g9)))] → W p l e (rmG 4 0 0 86) s m (List.toArray [.ref h, .ref q, .int (iI j9), .int (iI (bz g9))]) below meth c H locs (0) (0) (MX X below (List.toArray [.ref h, .ref q, .int (iI j9), .int (iI (bz g9))]) s 0 0 (some (.int (iI (picS σ k9 j9 g9)))) (fun w' => w' = w)) (F0 m 55 ls [.int (iI (capCol σ k9 (cp σ k9 2 + 4 * j9 + z)))]) := by
                intro  H locs ls  hW hS hl
                refine lv_istore (lv' := [(8, .int (iI (capCol σ k9 (cp σ k9 2 + 4 * j9 + z)))), (7, .int (iI (((cp σ k9 2) + (4 * j9)) + z))), (4, .int (iI (bs (picB σ k9 j9 g9) (3 * d + z)))), (6, .int (iI z)), (5, .int (iI d)), (0, .ref h), (1, .ref q), (2, .int (iI j9)), (3, .int (iI (bz g9)))]) F.1 F.2.1 dX10_picture_55 hl (by decide) rfl (fun ls hl => ?_)
                have hcc : 0 ≤ capCol σ k9 (cp σ k9 2 + 4 * j9 + z) ∧ capCol σ k9 (cp σ k9 2 + 4 * j9 + z) < σ 0 := by unfold capCol turnS; split <;> omega
                have hcg : 0 ≤ (if g9 then turnS σ (capCol σ k9 (cp σ k9 2 + 4 * j9 + z)) else capCol σ k9 (cp σ k9 2 + 4 * j9 + z)) ∧ (if g9 then turnS σ (capCol σ k9 (cp σ k9 2 + 4 * j9 + z)) else capCol σ k9 (cp σ k9 2 + 4 * j9 + z)) < σ 0 := by unfold turnS; split <;> omega
                refine lv_iload F.1 F.2.1 dX10_picture_57 (lv_at hl 2 rfl) ?_
                refine h_iconst F dX10_picture_59 ?_
                refine h_imul (a := bs (picB σ k9 j9 g9) (3 * d + z)) (b := 2) F dX10_picture_60 ?_
                refine lv_aload_n F.1 F.2.1 dX10_picture_61 rfl (lv_at hl 5 rfl) ?_
                have join80 : ∀ (H : Heap) (locs : List Loc) (ls : Array Slot), Wd X w s H → va_S (cxA X) s.heap H locs → lv_has ls 9 [(8, .int (iI (capCol σ k9 (cp σ k9 2 + 4 * j9 + z)))), (7, .int (iI (((cp σ k9 2) + (4 * j9)) + z))), (4, .int (iI (bs (picB σ k9 j9 g9) (3 * d + z)))), (6, .int (iI z)), (5, .int (iI d)), (0, .ref h), (1, .ref q), (2, .int (iI j9)), (3, .int (iI (bz g9)))] → W p l e (rmG 4 0 0 86) s m (List.toArray [.ref h, .ref q, .int (iI j9), .int (iI (bz g9))]) below meth c H locs (0) (0) (MX X below (List.toArray [.ref h, .ref q, .int (iI j9), .int (iI (bz g9))]) s 0 0 (some (.int (iI (picS σ k9 j9 g9)))) (fun w' => w' = w)) (F0 m 80 ls [.int (iI (if g9 then turnS σ (capCol σ k9 (cp σ k9 2 + 4 * j9 + z)) else capCol σ k9 (cp σ k9 2 + 4 * j9 + z))), .ref h, .int (iI ((bs (picB σ k9 j9 g9) (3 * d + z)) * 2))]) := by
                  intro  H locs ls  hW hS hl
                  refine lv_aload_n F.1 F.2.1 dX10_picture_80 rfl (lv_at hl 6 rfl) ?_
                  refine gf_RX10_82 F hW hcp rfl dX10_picture_81 ?_
                  refine h_iconst F dX10_picture_84 ?_
                  refine h_iadd (a := cp σ k9 3) (b := 4) F dX10_picture_85 ?_
                  refine lv_iload F.1 F.2.1 dX10_picture_86 (lv_at hl 4 rfl) ?_
                  refine h_isub (a := (cp σ k9 3) + 4) (b := d) F dX10_picture_88 ?_
                  refine h_top (show (((cp σ k9 3) + 4) - d : Int) = cp σ k9 3 + (4 - d) from by omega) ?_
                  refine cl_RX10_103 (As := [.int (iI (if g9 then turnS σ (capCol σ k9 (cp σ k9 2 + 4 * j9 + z)) else capCol σ k9 (cp σ k9 2 + 4 * j9 + z))), .int (iI (cp σ k9 3 + (4 - d)))]) (rest := [.int (iI ((bs (picB σ k9 j9 g9) (3 * d + z)) * 2))]) F hl (c_X10_at l X w h σ (if g9 then turnS σ (capCol σ k9 (cp σ k9 2 + 4 * j9 + z)) else capCol σ k9 (cp σ k9 2 + 4 * j9 + z)) (cp σ k9 3 + (4 - d)) hO0 hcg (by omega)) hW hS h1 rfl rfl ⟨Nat.le_of_ble_eq_true rfl, Nat.le_of_ble_eq_true rfl⟩ (Nat.le_of_ble_eq_true rfl) ⟨(by show 0 + 0 ≤ 0; omega), (by show 0 + 0 ≤ 0; omega)⟩ dX10_picture_89 (fun w1 H locs hp5 hW hS => ?_)
                  rw [hp5] at hW; clear hp5; clear w1
                  refine lv_aload_n F.1 F.2.1 dX10_picture_92 rfl (lv_at hl 6 rfl) ?_
                  refine gf_RX10_89 F hW hcp rfl dX10_picture_93 ?_
                  have hcr := hWF.2.2.2.1 ((if g9 then turnS σ (capCol σ k9 (cp σ k9 2 + 4 * j9 + z)) else capCol σ k9 (cp σ k9 2 + 4 * j9 + z))) (cp σ k9 3 + (4 - d)) hcg.1 hcg.2 (by omega) (by omega)
                  refine h_icne (tgt := 103) F dX10_picture_96 (by decide) (by omega) (fun c6 => ?_) (fun c6 => ?_)
                  · have hst9 : bs (picB σ k9 j9 g9) (3 * d + (z + 1)) = bs (picB σ k9 j9 g9) (3 * d + z) * 2 + 0 := by rw [show 3 * d + (z + 1) = (3 * d + z) + 1 by omega, bs_s _ (by omega), picB_at (by omega), decide_eq_false c6]; show _ + (0 : Int) = _; omega
                    refine h_iconst F dX10_picture_103 ?_
                    refine h_iadd (a := (bs (picB σ k9 j9 g9) (3 * d + z)) * 2) (b := 0) F dX10_picture_104 ?_
                    refine lv_istore (lv' := [(4, .int (iI (((bs (picB σ k9 j9 g9) (3 * d + z)) * 2) + 0))), (8, .int (iI (capCol σ k9 (cp σ k9 2 + 4 * j9 + z)))), (7, .int (iI (((cp σ k9 2) + (4 * j9)) + z))), (6, .int (iI z)), (5, .int (iI d)), (0, .ref h), (1, .ref q), (2, .int (iI j9)), (3, .int (iI (bz g9)))]) F.1 F.2.1 dX10_picture_105 hl (by decide) rfl (fun ls hl => ?_)
                    refine h_iinc (k := 3) (a := z) (lv' := [(6, .int (iI (z + 1))), (4, .int (iI (((bs (picB σ k9 j9 g9) (3 * d + z)) * 2) + 0))), (8, .int (iI (capCol σ k9 (cp σ k9 2 + 4 * j9 + z)))), (7, .int (iI (((cp σ k9 2) + (4 * j9)) + z))), (5, .int (iI d)), (0, .ref h), (1, .ref q), (2, .int (iI j9)), (3, .int (iI (bz g9)))]) F dX10_picture_107 hl rfl (by decide) rfl (fun ls hl => ?_)
                    refine h_goto (tgt := 15) F dX10_picture_110 (by decide) ?_
                    have eq7 : (bs (picB σ k9 j9 g9) (3 * d + (z + 1)) : Int) = ((bs (picB σ k9 j9 g9) (3 * d + z)) * 2) + 0 := hst9
                    have eq8 : ((z + 1) : Int) = z + 1 := by first | rfl | omega | simp
                    exact ih15 (z + 1)  (by omega) (by omega)   _ _ ls hW hS (by rw [eq7, eq8]; exact lv_sub hl [1, 0, 4, 5, 6, 7, 8] rfl)
                  · have hst9 : bs (picB σ k9 j9 g9) (3 * d + (z + 1)) = bs (picB σ k9 j9 g9) (3 * d + z) * 2 + 1 := by rw [show 3 * d + (z + 1) = (3 * d + z) + 1 by omega, bs_s _ (by omega), picB_at (by omega), decide_eq_true c6]; show _ + (1 : Int) = _; omega
                    refine h_iconst F dX10_picture_99 ?_
                    refine h_goto (tgt := 104) F dX10_picture_100 (by decide) ?_
                    refine h_iadd (a := (bs (picB σ k9 j9 g9) (3 * d + z)) * 2) (b := 1) F dX10_picture_104 ?_
                    refine lv_istore (lv' := [(4, .int (iI (((bs (picB σ k9 j9 g9) (3 * d + z)) * 2) + 1))), (8, .int (iI (capCol σ k9 (cp σ k9 2 + 4 * j9 + z)))), (7, .int (iI (((cp σ k9 2) + (4 * j9)) + z))), (6, .int (iI z)), (5, .int (iI d)), (0, .ref h), (1, .ref q), (2, .int (iI j9)), (3, .int (iI (bz g9)))]) F.1 F.2.1 dX10_picture_105 hl (by decide) rfl (fun ls hl => ?_)
                    refine h_iinc (k := 3) (a := z) (lv' := [(6, .int (iI (z + 1))), (4, .int (iI (((bs (picB σ k9 j9 g9) (3 * d + z)) * 2) + 1))), (8, .int (iI (capCol σ k9 (cp σ k9 2 + 4 * j9 + z)))), (7, .int (iI (((cp σ k9 2) + (4 * j9)) + z))), (5, .int (iI d)), (0, .ref h), (1, .ref q), (2, .int (iI j9)), (3, .int (iI (bz g9)))]) F dX10_picture_107 hl rfl (by decide) rfl (fun ls hl => ?_)
                    refine h_goto (tgt := 15) F dX10_picture_110 (by decide) ?_
                    have eq9 : (bs (picB σ k9 j9 g9) (3 * d + (z + 1)) : Int) = ((bs (picB σ k9 j9 g9) (3 * d + z)) * 2) + 1 := hst9
                    have eq10 : ((z + 1) : Int) = z + 1 := by first | rfl | omega | simp
                    exact ih15 (z + 1)  (by omega) (by omega)   _ _ ls hW hS (by rw [eq9, eq10]; exact lv_sub hl [1, 0, 4, 5, 6, 7, 8] rfl)
                refine lv_iload_n F.1 F.2.1 dX10_picture_62 rfl (lv_at hl 8 rfl) ?_
                refine h_ifeqb (tgt := 78) F dX10_picture_63 (by decide) (fun c11 => ?_) (fun c11 => ?_)
                · have hgz := c11
                  refine lv_iload F.1 F.2.1 dX10_picture_78 (lv_at hl 0 rfl) ?_
                  refine h_top (show (capCol σ k9 (cp σ k9 2 + 4 * j9 + z) : Int) = (if g9 then turnS σ (capCol σ k9 (cp σ k9 2 + 4 * j9 + z)) else capCol σ k9 (cp σ k9 2 + 4 * j9 + z)) from by rw [hgz]; rfl) ?_
                  exact join80  _ _ ls  hW hS (lv_sub hl [0, 1, 2, 3, 4, 5, 6, 7, 8] rfl)
                · have hgz := c11
                  refine lv_aload_n F.1 F.2.1 dX10_picture_66 rfl (lv_at hl 5 rfl) ?_
                  refine gf_RX10_27 F hW h1 rfl dX10_picture_67 ?_
                  refine h_iconst F dX10_picture_70 ?_
                  refine h_isub (a := σ 0) (b := 1) F dX10_picture_71 ?_
                  refine lv_iload F.1 F.2.1 dX10_picture_72 (lv_at hl 0 rfl) ?_
                  refine h_isub (a := (σ 0) - 1) (b := capCol σ k9 (cp σ k9 2 + 4 * j9 + z)) F dX10_picture_74 ?_
                  refine h_goto (tgt := 80) F dX10_picture_75 (by decide) ?_
                  refine h_top (show (((σ 0) - 1) - (capCol σ k9 (cp σ k9 2 + 4 * j9 + z)) : Int) = (if g9 then turnS σ (capCol σ k9 (cp σ k9 2 + 4 * j9 + z)) else capCol σ k9 (cp σ k9 2 + 4 * j9 + z)) from by rw [hgz]; rfl) ?_
                  exact join80  _ _ ls  hW hS (lv_sub hl [0, 1, 2, 3, 4, 5, 6, 7, 8] rfl)
              refine lv_aload_n F.1 F.2.1 dX10_picture_34 rfl (lv_at hl 5 rfl) ?_
              refine gf_RX10_56 F hW hcp rfl dX10_picture_35 ?_
              refine h_ifne (tgt := 46) F dX10_picture_38 (by decide) (by omega) (fun c12 => ?_) (fun c12 => ?_)
              · skip
                refine lv_aload_n F.1 F.2.1 dX10_picture_46 rfl (lv_at hl 4 rfl) ?_
                refine gf_RX10_27 F hW h1 rfl dX10_picture_47 ?_
                refine h_iconst F dX10_picture_50 ?_
                refine h_isub (a := σ 0) (b := 1) F dX10_picture_51 ?_
                refine lv_iload F.1 F.2.1 dX10_picture_52 (lv_at hl 0 rfl) ?_
                refine h_isub (a := (σ 0) - 1) (b := ((cp σ k9 2) + (4 * j9)) + z) F dX10_picture_54 ?_
                refine h_top (show (((σ 0) - 1) - (((cp σ k9 2) + (4 * j9)) + z) : Int) = capCol σ k9 (cp σ k9 2 + 4 * j9 + z) from by unfold capCol turnS; split <;> omega) ?_
                exact join55  _ _ ls  hW hS (lv_sub hl [0, 1, 2, 3, 4, 5, 6, 7] rfl)
              · refine lv_iload F.1 F.2.1 dX10_picture_41 (lv_at hl 0 rfl) ?_
                refine h_goto (tgt := 55) F dX10_picture_43 (by decide) ?_
                refine h_top (show (((cp σ k9 2) + (4 * j9)) + z : Int) = capCol σ k9 (cp σ k9 2 + 4 * j9 + z) from by unfold capCol turnS; split <;> omega) ?_
                exact join55  _ _ ls  hW hS (lv_sub hl [0, 1, 2, 3, 4, 5, 6, 7] rfl)
        have eq13 : (bs (picB σ k9 j9 g9) (3 * d + 0) : Int) = bs (picB σ k9 j9 g9) (3 * d) := by rw [Int.add_zero]
        exact loop15 ((3 - 0) + 1 : Int).toNat 0   (by omega) (by omega)   _ _ ls hW hS (by rw [eq13]; exact lv_sub hl [1, 0, 2, 3, 4, 5, 6] rfl)
  have eq14 : (bs (picB σ k9 j9 g9) (3 * 0) : Int) = 0 := rfl
  exact loop6 ((5 - 0) + 1 : Int).toNat 0   (by omega) (by omega)   _ _ ls hW hS (by rw [eq14]; exact lv_sub hl [1, 0, 2, 3, 4, 5] rfl)
set_option maxHeartbeats 4000000 in
set_option maxRecDepth 100000 in
theorem c_meets_n (l : Launch) (X : Cx) (w : Wo) (h q wd nn : Nat) (σ : Int → Int) (n sd co x y bu : Int) (f : Int → Int) (hO : ownA X w h σ) (hcp : w q = some (.inr (9, [.ref wd, .int (iI sd), .int (iI co), .int (iI x), .int (iI y)]))) (hs : str X w wd nn f) (hnn : (nn : Int) = n ∧ 1 ≤ n ∧ n ≤ 8 ∧ (sd = 0 ∨ sd = 1)) (hxy : 0 ≤ x ∧ x + 4 * n - 1 ≤ σ 0 ∧ 0 ≤ y ∧ y ≤ 1000) (hbu : ((Value.null) = .null ∧ bu = -1) ∨ ∃ r, (Value.null) = .ref r ∧ 0 ≤ bu ∧ bu < σ 5 ∧ cpIs X w h bu r) : CM l X yX10_meets cX10_meets 7 (some (.boolean)) (rmG 3 1 4 65) [.ref h, .ref q, .null] w (some (.int (iI (bz (meetS σ n sd x y bu))))) (fun w' => w' = w) := by
  refine CM.of (lv := [(0, .ref h), (1, .ref q), (2, .null)]) (by decide) (Nat.le_of_ble_eq_true rfl) rfl (fun p e s m below meth c ls F hr hlk hin hW hS hl => ?_)
  have hZ0 := hW.2.2
  have hB9 := hW.1.2
  clear hin
  have hO0 := hO
  obtain ⟨st, lc, ec, lr, er, mc, mr, kc, kr, gc, gr, cd, rwa, fs, nr, wh, h1, ⟨h2, h2f⟩, ⟨h3, h3e, h3k, h3l⟩, hck, ⟨h4, h4e, h4k, h4l⟩, hrr, ⟨hnr, hwh, hem⟩, ⟨hWF, hw0, hw1⟩, hst, hinj, hcj, hlne, hene⟩ := hO
  obtain ⟨wf0, wf1, wf2, wf3, wf4, wf5⟩ := hWF.1
  have hnc := nr_cases hnr wf4.2
  have hn9 : (nn : Int) = n := hnn.1
  have hO1 : w h = some (.inr (10, [.int (iI (σ 0)), .int (iI (σ 1)), .int (iI (σ 2)), .int (iI (σ 3)), .ref st, .ref lc, .ref lr, .int (iI (bz wh))])) := h1
  have hg0 := h3
  refine h_iconst F dX10_meets_0 ?_
  refine lv_istore_n (lv' := [(3, .int (iI 0)), (0, .ref h), (1, .ref q), (2, .null)]) F.1 F.2.1 dX10_meets_1 rfl hl (by decide) rfl (fun ls hl => ?_)
  refine lv_aload_n F.1 F.2.1 dX10_meets_2 rfl (lv_at hl 1 rfl) ?_
  refine gf_RX10_20 F hW h1 rfl dX10_meets_3 ?_
  refine cr_RX10_64 (As := []) (rest := []) F hl (c_Jx4a65c_iterator_32c93 l X w lc mc ec (σ 5) h3) hW hS h3 rfl rfl ⟨Nat.le_of_ble_eq_true rfl, Nat.le_of_ble_eq_true rfl⟩ (Nat.le_of_ble_eq_true rfl) ⟨(by show 0 + 1 ≤ 1; omega), (by show 0 + 4 ≤ 4; omega)⟩ dX10_meets_6 (fun v3 w1 H locs hp2 hW hS => ?_)
  obtain ⟨it, rfl, hfr4, ho5, hx6⟩ := hp2
  have hb7 := hfr4 _ _ h1
  have hb8 := hfr4 _ _ h4
  have hb9 := hfr4 _ _ h3
  have hb10 := hfr4 _ _ hcp
  have hb11 := hfr4 _ _ h4e
  have hb12 := hfr4 _ _ h2
  have h1 := hx6 _ _ h1 
  have h4 := hx6 _ _ h4 
  have h3 := hx6 _ _ h3 
  have hcp := hx6 _ _ hcp 
  have h4e := hx6 _ _ h4e 
  have h2 := hx6 _ _ h2 
  refine lv_astore (lv' := [(4, .ref it), (3, .int (iI 0)), (0, .ref h), (1, .ref q), (2, .null)]) F.1 F.2.1 dX10_meets_11 hl (by decide) rfl (fun ls hl => ?_)
  have loop13 : ∀ (n9 : Nat) (k : Int), (hrg : 0 ≤ k ∧ k ≤ σ 5) → (hms : σ 5 - k < (n9 : Int)) → (w6 : Wo) → (hO13_0 : w6 it = some (.inr (13, [.int (iI k), .int (iI (k - 1)), .int mc, .ref lc]))) → (hF13 : ∀ q : Nat, q < it → w6 q = w1 q) → (H : Heap) → (locs : List Loc) → (ls : Array Slot) → Wd X w6 s H → va_S (cxA X) s.heap H locs → lv_has ls 7 [(3, .int (iI (bz (mtE σ n sd x y bu k)))), (4, .ref it), (0, .ref h), (1, .ref q), (2, .null)] → W p l e (rmG 3 1 4 65) s m (List.toArray [.ref h, .ref q, .null]) below meth c H locs (0 + 1) (0 + 4) (MX X below (List.toArray [.ref h, .ref q, .null]) s 1 4 (some (.int (iI (bz (meetS σ n sd x y bu))))) (fun w' => w' = w)) (F0 m 13 ls []) := by
    intro n9
    induction n9 with
    | zero => intro k  hrg hms; exfalso; omega
    | succ n9 ih13 =>
      intro k  hrg hms w6 hO13_0 hF13  H locs ls hW hS hl
      have h1 := (hF13 _ (by omega)).trans h1
      have h4 := (hF13 _ (by omega)).trans h4
      have h3 := (hF13 _ (by omega)).trans h3
      have hcp := (hF13 _ (by omega)).trans hcp
      have h4e := (hF13 _ (by omega)).trans h4e
      have h2 := (hF13 _ (by omega)).trans h2
      refine lv_aload F.1 F.2.1 dX10_meets_13 (lv_at hl 1 rfl) ?_
      refine cl_RX10_68 (As := []) (rest := []) F hl (c_Jx35411_hasNext_aae02 l X w6 it lc k (iI (k - 1)) mc mc ec (σ 5) hO13_0 h3 (by omega)) hW hS hO13_0 rfl rfl ⟨Nat.le_of_ble_eq_true rfl, Nat.le_of_ble_eq_true rfl⟩ (Nat.le_of_ble_eq_true rfl) ⟨(by show 0 + 1 + 0 ≤ 1; omega), (by show 0 + 4 + 0 ≤ 4; omega)⟩ dX10_meets_15 (fun w1 H locs hp13 hW hS => ?_)
      rw [hp13] at hW; clear hp13; clear w1
      refine h_ifeqb (tgt := 143) F dX10_meets_20 (by decide) (fun c14 => ?_) (fun c14 => ?_)
      · have hke : k = σ 5 := by have := of_decide_eq_false c14; omega
        refine lv_iload_n F.1 F.2.1 dX10_meets_143 rfl (lv_at hl 0 rfl) ?_
        refine W.wd (mc := 1) (ms := 4) (by omega) (by omega) ?_
        have hW := Wd.dn hW (w := w) (fun q e h9 => by
          have z9_15 := hfr4 q e h9
          have h9 := hx6 q e h9 
          have h9 := (hF13 q (by omega)).trans h9
          exact h9)
        refine h_top (show (bz (mtE σ n sd x y bu k) : Int) = bz (meetS σ n sd x y bu) from by rw [hke]; rfl) ?_
        exact h_iretz F hr hlk hW hS rfl dX10_meets_144
      · have hkl : k < σ 5 := of_decide_eq_true c14
        have hec0 : w ec = some (aR X 5 kc gc) := by
          rcases h3e with hz9 | hz9
          · omega
          · exact hz9.1
        have hecb := hfr4 _ _ hec0
        have hecw : w6 ec = some (aR X 5 kc gc) := (show ext w w6 from fun q e h9 => by have z9_1 := hfr4 q e h9; have h9 := hx6 q e h9 ; have h9 := (hF13 q (by omega)).trans h9; exact h9) _ _ hec0
        refine lv_aload F.1 F.2.1 dX10_meets_23 (lv_at hl 1 rfl) ?_
        refine cl_RX10_74 (As := []) (rest := []) F hl (c_Jx35411_next_0502b l X w6 it lc k (iI (k - 1)) mc ec (σ 5) kc gc (cd k) hO13_0 h3 hecw (by omega) ((hck k (by omega) (by omega)).1) (⟨by omega, by omega⟩)) hW hS hO13_0 rfl rfl ⟨Nat.le_of_ble_eq_true rfl, Nat.le_of_ble_eq_true rfl⟩ (Nat.le_of_ble_eq_true rfl) ⟨(by show 0 + 1 + 0 + 0 ≤ 1; omega), (by show 0 + 4 + 0 + 0 ≤ 4; omega)⟩ dX10_meets_25 (fun w16 H locs hp17 hW hS => ?_)
        obtain ⟨ho18, hn19⟩ := hp17
        have h1 := (hn19 _ (by omega)).trans h1
        have h4 := (hn19 _ (by omega)).trans h4
        have h3 := (hn19 _ (by omega)).trans h3
        have hcp := (hn19 _ (by omega)).trans hcp
        have h4e := (hn19 _ (by omega)).trans h4e
        have h2 := (hn19 _ (by omega)).trans h2
        have hEx : ext w w16 := (show ext w w16 from fun q e h9 => by have z9_1 := hfr4 q e h9; have h9 := hx6 q e h9 ; have h9 := (hF13 q (by omega)).trans h9; have h9 := (hn19 q (by omega)).trans h9; exact h9)
        obtain ⟨fk, ⟨wdk, hcpk, hsk⟩, hfk⟩ := (hck k (by omega) (by omega)).2
        have hcpk := hEx _ _ hcpk
        have hsk := hsk.ex hEx
        have hsa := hs.ex hEx
        have hok := hWF.2.2.1 k (by omega) (by omega)
        obtain ⟨ok0, ok1, ok2, ok3, ok4, ok5⟩ := hok
        have hbk : ((Value.null) = .ref (cd k)) = (k = bu) := mt_bu hbu hO1 hec0 hg0 hcj hkl (by omega) (hck k (by omega) (by omega)).1 (fun z z0 z1 => (hck z z0 z1).1)
        refine h_castO F hW (ci := 9) rfl hcpk kl_RX10_57 dX10_meets_30 ?_
        refine lv_astore (lv' := [(5, .ref (cd k)), (3, .int (iI (bz (mtE σ n sd x y bu k)))), (4, .ref it), (0, .ref h), (1, .ref q), (2, .null)]) F.1 F.2.1 dX10_meets_33 hl (by decide) rfl (fun ls hl => ?_)
        refine lv_aload F.1 F.2.1 dX10_meets_35 (lv_at hl 0 rfl) ?_
        refine lv_aload_nN F.1 F.2.1 dX10_meets_37 rfl (lv_at hl 5 rfl) ?_
        refine mt_acmp (tgt := 13) (v := (Value.null)) (r := cd k) F dX10_meets_38 (by decide) (hbu.elim (fun z9 => Or.inl z9.1) (fun z9 => z9.elim (fun r9 z8 => Or.inr ⟨r9, z8.1⟩))) (fun heq9 => ?_) (fun hne9 => ?_)
        · have hkb : k = bu := by rw [← hbk]; exact heq9
          have hsk9 : mtE σ n sd x y bu (k + 1) = mtE σ n sd x y bu k := by unfold mtE; rw [ex_s _ (by omega), decide_eq_false (p := k ≠ bu) (fun e9 => e9 hkb), Bool.false_and, Bool.or_false]
          have eq20 : (bz (mtE σ n sd x y bu (k + 1)) : Int) = bz (mtE σ n sd x y bu k) := by rw [hsk9]
          exact ih13 (k + 1)  (by omega) (by omega) w16 (by rw [show k + 1 - 1 = k by omega]; exact ho18) (fun q h09 => by rw [hn19 q (by omega), hF13 q (by omega)])  _ _ ls hW hS (by rw [eq20]; exact lv_sub hl [1, 2, 3, 4, 5] rfl)
        · have hkb : k ≠ bu := fun e9 => hne9 (by rw [hbk]; exact e9)
          refine lv_aload F.1 F.2.1 dX10_meets_41 (lv_at hl 0 rfl) ?_
          refine gf_RX10_82 F hW hcpk rfl dX10_meets_43 ?_
          refine lv_aload_n F.1 F.2.1 dX10_meets_46 rfl (lv_at hl 4 rfl) ?_
          refine gf_RX10_82 F hW hcp rfl dX10_meets_47 ?_
          refine h_isub (a := cp σ k 3) (b := y) F dX10_meets_50 ?_
          refine h_mabs (index := 92) (a := (cp σ k 3) - y) F hl km_RX10_92 (Nat.le_of_ble_eq_true rfl) (Nat.le_of_ble_eq_true rfl) (by show 0 + 1 + 0 + 0 ≤ 1; omega) (by show 0 + 4 + 0 + 0 ≤ 4; omega) (by omega) dX10_meets_51 ?_
          refine h_iconst F dX10_meets_54 ?_
          refine h_icle (tgt := 61) F dX10_meets_55 (by decide) (by omega) (fun c21 => ?_) (fun c21 => ?_)
          · refine h_iconst F dX10_meets_61 ?_
            refine lv_istore (lv' := [(6, .int (iI 0)), (5, .ref (cd k)), (3, .int (iI (bz (mtE σ n sd x y bu k)))), (4, .ref it), (0, .ref h), (1, .ref q), (2, .null)]) F.1 F.2.1 dX10_meets_62 hl (by decide) rfl (fun ls hl => ?_)
            have loop64 : ∀ (n9 : Nat) (z : Int), (hrg : 0 ≤ z ∧ z ≤ σ 0) → (hms : σ 0 - z < (n9 : Int)) → (H : Heap) → (locs : List Loc) → (ls : Array Slot) → Wd X w16 s H → va_S (cxA X) s.heap H locs → lv_has ls 7 [(3, .int (iI (bz (mtE σ n sd x y bu k || ex (colB σ n sd x k) 0 (z))))), (6, .int (iI z)), (5, .ref (cd k)), (4, .ref it), (0, .ref h), (1, .ref q), (2, .null)] → W p l e (rmG 3 1 4 65) s m (List.toArray [.ref h, .ref q, .null]) below meth c H locs (0 + 1 + 0 + 0) (0 + 4 + 0 + 0) (MX X below (List.toArray [.ref h, .ref q, .null]) s 1 4 (some (.int (iI (bz (meetS σ n sd x y bu))))) (fun w' => w' = w)) (F0 m 64 ls []) := by
              intro n9
              induction n9 with
              | zero => intro z  hrg hms; exfalso; omega
              | succ n9 ih64 =>
                intro z  hrg hms   H locs ls hW hS hl
                refine lv_iload F.1 F.2.1 dX10_meets_64 (lv_at hl 1 rfl) ?_
                refine lv_aload_n F.1 F.2.1 dX10_meets_66 rfl (lv_at hl 4 rfl) ?_
                refine gf_RX10_27 F hW h1 rfl dX10_meets_67 ?_
                refine h_icge (tgt := 140) F dX10_meets_70 (by decide) (by omega) (fun c22 => ?_) (fun c22 => ?_)
                · have hsk9 : mtE σ n sd x y bu (k + 1) = (mtE σ n sd x y bu k || ex (colB σ n sd x k) 0 (z)) := by unfold mtE; rw [ex_s _ (by omega), show z = σ 0 by omega, ← col_mt ⟨ok0, ok1, ok2, ok3, ok4, ok5⟩ (by omega) (by omega) (by omega), decide_eq_true (p := cp σ k 3 - y ≤ 4 ∧ y - cp σ k 3 ≤ 4) (by omega), decide_eq_true (p := k ≠ bu) hkb, Bool.and_true, Bool.true_and]
                  refine h_goto (tgt := 13) F dX10_meets_140 (by decide) ?_
                  have eq23 : (bz (mtE σ n sd x y bu (k + 1)) : Int) = bz (mtE σ n sd x y bu k || ex (colB σ n sd x k) 0 (z)) := by rw [hsk9]
                  exact ih13 (k + 1)  (by omega) (by omega) w16 (by rw [show k + 1 - 1 = k by omega]; exact ho18) (fun q h09 => by rw [hn19 q (by omega), hF13 q (by omega)])  _ _ ls hW hS (by rw [eq23]; exact lv_sub hl [0, 3, 4, 5, 6] rfl)
                · refine lv_iload_n F.1 F.2.1 dX10_meets_73 rfl (lv_at hl 0 rfl) ?_
                  refine h_ifneb (tgt := 128) F dX10_meets_74 (by decide) (fun c24 => ?_) (fun c24 => ?_)
                  · have hst9 : bz (mtE σ n sd x y bu k || ex (colB σ n sd x k) 0 (z + 1)) = 1 := (Bool.or_eq_true_iff.mp c24).elim (fun hz8 => by rw [hz8, Bool.true_or]; rfl) (fun hz8 => by rw [ex_s _ (by omega), hz8, Bool.true_or, Bool.or_true]; rfl)
                    refine h_iconst F dX10_meets_128 ?_
                    refine h_goto (tgt := 133) F dX10_meets_129 (by decide) ?_
                    refine lv_istore_n (lv' := [(3, .int (iI 1)), (6, .int (iI z)), (5, .ref (cd k)), (4, .ref it), (0, .ref h), (1, .ref q), (2, .null)]) F.1 F.2.1 dX10_meets_133 rfl hl (by decide) rfl (fun ls hl => ?_)
                    refine h_iinc (k := 1) (a := z) (lv' := [(6, .int (iI (z + 1))), (3, .int (iI 1)), (5, .ref (cd k)), (4, .ref it), (0, .ref h), (1, .ref q), (2, .null)]) F dX10_meets_134 hl rfl (by decide) rfl (fun ls hl => ?_)
                    refine h_goto (tgt := 64) F dX10_meets_137 (by decide) ?_
                    have eq25 : (bz (mtE σ n sd x y bu k || ex (colB σ n sd x k) 0 ((z + 1))) : Int) = 1 := hst9
                    have eq26 : ((z + 1) : Int) = z + 1 := by first | rfl | omega | simp
                    exact ih64 (z + 1)  (by omega) (by omega)   _ _ ls hW hS (by rw [eq25, eq26]; exact lv_sub hl [1, 0, 2, 3, 4, 5, 6] rfl)
                  · have hpf : (mtE σ n sd x y bu k || ex (colB σ n sd x k) 0 (z)) = false := c24
                    refine lv_aload_n F.1 F.2.1 dX10_meets_77 rfl (lv_at hl 4 rfl) ?_
                    refine lv_aload_n F.1 F.2.1 dX10_meets_78 rfl (lv_at hl 5 rfl) ?_
                    refine lv_iload F.1 F.2.1 dX10_meets_79 (lv_at hl 1 rfl) ?_
                    refine cl_RX10_78 (As := [.ref q, .int (iI z)]) (rest := []) F hl (c_X10_over l X w16 h q wd σ sd co x y z (hO0.ex hEx) hcp (by omega) (by omega)) hW hS h1 rfl rfl ⟨Nat.le_of_ble_eq_true rfl, Nat.le_of_ble_eq_true rfl⟩ (Nat.le_of_ble_eq_true rfl) ⟨(by show 0 + 1 + 0 + 0 + 0 ≤ 1; omega), (by show 0 + 4 + 0 + 0 + 0 ≤ 4; omega)⟩ dX10_meets_81 (fun w1 H locs hp27 hW hS => ?_)
                    rw [hp27] at hW; clear hp27; clear w1
                    refine h_iflt (tgt := 132) F dX10_meets_84 (by decide) (by unfold ovC; split <;> omega) (fun c28 => ?_) (fun c28 => ?_)
                    · have hst9 : bz (mtE σ n sd x y bu k || ex (colB σ n sd x k) 0 (z + 1)) = 0 := by rw [show ex (colB σ n sd x k) 0 (z + 1) = ex (colB σ n sd x k) 0 z from by rw [ex_s _ (by omega), show colB σ n sd x k z = false from decide_eq_false (by omega), Bool.or_false], hpf]; rfl
                      refine h_iconst F dX10_meets_132 ?_
                      refine lv_istore_n (lv' := [(3, .int (iI 0)), (6, .int (iI z)), (5, .ref (cd k)), (4, .ref it), (0, .ref h), (1, .ref q), (2, .null)]) F.1 F.2.1 dX10_meets_133 rfl hl (by decide) rfl (fun ls hl => ?_)
                      refine h_iinc (k := 1) (a := z) (lv' := [(6, .int (iI (z + 1))), (3, .int (iI 0)), (5, .ref (cd k)), (4, .ref it), (0, .ref h), (1, .ref q), (2, .null)]) F dX10_meets_134 hl rfl (by decide) rfl (fun ls hl => ?_)
                      refine h_goto (tgt := 64) F dX10_meets_137 (by decide) ?_
                      have eq29 : (bz (mtE σ n sd x y bu k || ex (colB σ n sd x k) 0 ((z + 1))) : Int) = 0 := hst9
                      have eq30 : ((z + 1) : Int) = z + 1 := by first | rfl | omega | simp
                      exact ih64 (z + 1)  (by omega) (by omega)   _ _ ls hW hS (by rw [eq29, eq30]; exact lv_sub hl [1, 0, 2, 3, 4, 5, 6] rfl)
                    · refine lv_aload_n F.1 F.2.1 dX10_meets_87 rfl (lv_at hl 4 rfl) ?_
                      refine lv_aload_n F.1 F.2.1 dX10_meets_88 rfl (lv_at hl 5 rfl) ?_
                      refine lv_iload F.1 F.2.1 dX10_meets_89 (lv_at hl 1 rfl) ?_
                      refine cl_RX10_78 (As := [.ref q, .int (iI z)]) (rest := []) F hl (c_X10_over l X w16 h q wd σ sd co x y z (hO0.ex hEx) hcp (by omega) (by omega)) hW hS h1 rfl rfl ⟨Nat.le_of_ble_eq_true rfl, Nat.le_of_ble_eq_true rfl⟩ (Nat.le_of_ble_eq_true rfl) ⟨(by show 0 + 1 + 0 + 0 + 0 + 0 ≤ 1; omega), (by show 0 + 4 + 0 + 0 + 0 + 0 ≤ 4; omega)⟩ dX10_meets_91 (fun w1 H locs hp31 hW hS => ?_)
                      rw [hp31] at hW; clear hp31; clear w1
                      refine lv_aload_n F.1 F.2.1 dX10_meets_94 rfl (lv_at hl 5 rfl) ?_
                      refine cl_RX10_98 (As := []) (rest := [.int (iI (ovC (σ 0) sd x z))]) F hl (c_X9_wide l X w16 q wd nn sd co x y f hcp hsa (by omega)) hW hS hcp rfl rfl ⟨Nat.le_of_ble_eq_true rfl, Nat.le_of_ble_eq_true rfl⟩ (Nat.le_of_ble_eq_true rfl) ⟨(by show 0 + 1 + 0 + 0 + 0 + 0 + 0 ≤ 1; omega), (by show 0 + 4 + 0 + 0 + 0 + 0 + 0 ≤ 4; omega)⟩ dX10_meets_95 (fun w1 H locs hp32 hW hS => ?_)
                      rw [hp32] at hW; clear hp32; clear w1
                      refine h_icge (tgt := 132) F dX10_meets_98 (by decide) (by unfold ovC; split <;> omega) (fun c33 => ?_) (fun c33 => ?_)
                      · have hst9 : bz (mtE σ n sd x y bu k || ex (colB σ n sd x k) 0 (z + 1)) = 0 := by rw [show ex (colB σ n sd x k) 0 (z + 1) = ex (colB σ n sd x k) 0 z from by rw [ex_s _ (by omega), show colB σ n sd x k z = false from decide_eq_false (by omega), Bool.or_false], hpf]; rfl
                        refine h_iconst F dX10_meets_132 ?_
                        refine lv_istore_n (lv' := [(3, .int (iI 0)), (6, .int (iI z)), (5, .ref (cd k)), (4, .ref it), (0, .ref h), (1, .ref q), (2, .null)]) F.1 F.2.1 dX10_meets_133 rfl hl (by decide) rfl (fun ls hl => ?_)
                        refine h_iinc (k := 1) (a := z) (lv' := [(6, .int (iI (z + 1))), (3, .int (iI 0)), (5, .ref (cd k)), (4, .ref it), (0, .ref h), (1, .ref q), (2, .null)]) F dX10_meets_134 hl rfl (by decide) rfl (fun ls hl => ?_)
                        refine h_goto (tgt := 64) F dX10_meets_137 (by decide) ?_
                        have eq34 : (bz (mtE σ n sd x y bu k || ex (colB σ n sd x k) 0 ((z + 1))) : Int) = 0 := hst9
                        have eq35 : ((z + 1) : Int) = z + 1 := by first | rfl | omega | simp
                        exact ih64 (z + 1)  (by omega) (by omega)   _ _ ls hW hS (by rw [eq34, eq35]; exact lv_sub hl [1, 0, 2, 3, 4, 5, 6] rfl)
                      · refine lv_aload_n F.1 F.2.1 dX10_meets_101 rfl (lv_at hl 4 rfl) ?_
                        refine lv_aload F.1 F.2.1 dX10_meets_102 (lv_at hl 2 rfl) ?_
                        refine lv_iload F.1 F.2.1 dX10_meets_104 (lv_at hl 1 rfl) ?_
                        refine cl_RX10_78 (As := [.ref (cd k), .int (iI z)]) (rest := []) F hl (c_X10_over l X w16 h (cd k) wdk σ (cp σ k 1) (cp σ k 4) (cp σ k 2) (cp σ k 3) z (hO0.ex hEx) hcpk (by omega) (by omega)) hW hS h1 rfl rfl ⟨Nat.le_of_ble_eq_true rfl, Nat.le_of_ble_eq_true rfl⟩ (Nat.le_of_ble_eq_true rfl) ⟨(by show 0 + 1 + 0 + 0 + 0 + 0 + 0 + 0 ≤ 1; omega), (by show 0 + 4 + 0 + 0 + 0 + 0 + 0 + 0 ≤ 4; omega)⟩ dX10_meets_106 (fun w1 H locs hp36 hW hS => ?_)
                        rw [hp36] at hW; clear hp36; clear w1
                        refine h_iflt (tgt := 132) F dX10_meets_109 (by decide) (by unfold ovC; split <;> omega) (fun c37 => ?_) (fun c37 => ?_)
                        · have hst9 : bz (mtE σ n sd x y bu k || ex (colB σ n sd x k) 0 (z + 1)) = 0 := by rw [show ex (colB σ n sd x k) 0 (z + 1) = ex (colB σ n sd x k) 0 z from by rw [ex_s _ (by omega), show colB σ n sd x k z = false from decide_eq_false (by omega), Bool.or_false], hpf]; rfl
                          refine h_iconst F dX10_meets_132 ?_
                          refine lv_istore_n (lv' := [(3, .int (iI 0)), (6, .int (iI z)), (5, .ref (cd k)), (4, .ref it), (0, .ref h), (1, .ref q), (2, .null)]) F.1 F.2.1 dX10_meets_133 rfl hl (by decide) rfl (fun ls hl => ?_)
                          refine h_iinc (k := 1) (a := z) (lv' := [(6, .int (iI (z + 1))), (3, .int (iI 0)), (5, .ref (cd k)), (4, .ref it), (0, .ref h), (1, .ref q), (2, .null)]) F dX10_meets_134 hl rfl (by decide) rfl (fun ls hl => ?_)
                          refine h_goto (tgt := 64) F dX10_meets_137 (by decide) ?_
                          have eq38 : (bz (mtE σ n sd x y bu k || ex (colB σ n sd x k) 0 ((z + 1))) : Int) = 0 := hst9
                          have eq39 : ((z + 1) : Int) = z + 1 := by first | rfl | omega | simp
                          exact ih64 (z + 1)  (by omega) (by omega)   _ _ ls hW hS (by rw [eq38, eq39]; exact lv_sub hl [1, 0, 2, 3, 4, 5, 6] rfl)
                        · refine lv_aload_n F.1 F.2.1 dX10_meets_112 rfl (lv_at hl 4 rfl) ?_
                          refine lv_aload F.1 F.2.1 dX10_meets_113 (lv_at hl 2 rfl) ?_
                          refine lv_iload F.1 F.2.1 dX10_meets_115 (lv_at hl 1 rfl) ?_
                          refine cl_RX10_78 (As := [.ref (cd k), .int (iI z)]) (rest := []) F hl (c_X10_over l X w16 h (cd k) wdk σ (cp σ k 1) (cp σ k 4) (cp σ k 2) (cp σ k 3) z (hO0.ex hEx) hcpk (by omega) (by omega)) hW hS h1 rfl rfl ⟨Nat.le_of_ble_eq_true rfl, Nat.le_of_ble_eq_true rfl⟩ (Nat.le_of_ble_eq_true rfl) ⟨(by show 0 + 1 + 0 + 0 + 0 + 0 + 0 + 0 + 0 ≤ 1; omega), (by show 0 + 4 + 0 + 0 + 0 + 0 + 0 + 0 + 0 ≤ 4; omega)⟩ dX10_meets_117 (fun w1 H locs hp40 hW hS => ?_)
                          rw [hp40] at hW; clear hp40; clear w1
                          refine lv_aload F.1 F.2.1 dX10_meets_120 (lv_at hl 2 rfl) ?_
                          refine cl_RX10_98 (As := []) (rest := [.int (iI (ovC (σ 0) (cp σ k 1) (cp σ k 2) z))]) F hl (c_X9_wide l X w16 (cd k) wdk ((cp σ k 0).toNat) (cp σ k 1) (cp σ k 4) (cp σ k 2) (cp σ k 3) fk hcpk hsk (by omega)) hW hS hcpk rfl rfl ⟨Nat.le_of_ble_eq_true rfl, Nat.le_of_ble_eq_true rfl⟩ (Nat.le_of_ble_eq_true rfl) ⟨(by show 0 + 1 + 0 + 0 + 0 + 0 + 0 + 0 + 0 + 0 ≤ 1; omega), (by show 0 + 4 + 0 + 0 + 0 + 0 + 0 + 0 + 0 + 0 ≤ 4; omega)⟩ dX10_meets_122 (fun w1 H locs hp41 hW hS => ?_)
                          rw [hp41] at hW; clear hp41; clear w1
                          refine h_icge (tgt := 132) F dX10_meets_125 (by decide) (by unfold ovC; split <;> omega) (fun c42 => ?_) (fun c42 => ?_)
                          · have hst9 : bz (mtE σ n sd x y bu k || ex (colB σ n sd x k) 0 (z + 1)) = 0 := by rw [show ex (colB σ n sd x k) 0 (z + 1) = ex (colB σ n sd x k) 0 z from by rw [ex_s _ (by omega), show colB σ n sd x k z = false from decide_eq_false (by omega), Bool.or_false], hpf]; rfl
                            refine h_iconst F dX10_meets_132 ?_
                            refine lv_istore_n (lv' := [(3, .int (iI 0)), (6, .int (iI z)), (5, .ref (cd k)), (4, .ref it), (0, .ref h), (1, .ref q), (2, .null)]) F.1 F.2.1 dX10_meets_133 rfl hl (by decide) rfl (fun ls hl => ?_)
                            refine h_iinc (k := 1) (a := z) (lv' := [(6, .int (iI (z + 1))), (3, .int (iI 0)), (5, .ref (cd k)), (4, .ref it), (0, .ref h), (1, .ref q), (2, .null)]) F dX10_meets_134 hl rfl (by decide) rfl (fun ls hl => ?_)
                            refine h_goto (tgt := 64) F dX10_meets_137 (by decide) ?_
                            have eq43 : (bz (mtE σ n sd x y bu k || ex (colB σ n sd x k) 0 ((z + 1))) : Int) = 0 := hst9
                            have eq44 : ((z + 1) : Int) = z + 1 := by first | rfl | omega | simp
                            exact ih64 (z + 1)  (by omega) (by omega)   _ _ ls hW hS (by rw [eq43, eq44]; exact lv_sub hl [1, 0, 2, 3, 4, 5, 6] rfl)
                          · have hst9 : bz (mtE σ n sd x y bu k || ex (colB σ n sd x k) 0 (z + 1)) = 1 := by rw [ex_s _ (by omega), show colB σ n sd x k z = true from decide_eq_true (by omega), Bool.or_true, Bool.or_true]; rfl
                            refine h_iconst F dX10_meets_128 ?_
                            refine h_goto (tgt := 133) F dX10_meets_129 (by decide) ?_
                            refine lv_istore_n (lv' := [(3, .int (iI 1)), (6, .int (iI z)), (5, .ref (cd k)), (4, .ref it), (0, .ref h), (1, .ref q), (2, .null)]) F.1 F.2.1 dX10_meets_133 rfl hl (by decide) rfl (fun ls hl => ?_)
                            refine h_iinc (k := 1) (a := z) (lv' := [(6, .int (iI (z + 1))), (3, .int (iI 1)), (5, .ref (cd k)), (4, .ref it), (0, .ref h), (1, .ref q), (2, .null)]) F dX10_meets_134 hl rfl (by decide) rfl (fun ls hl => ?_)
                            refine h_goto (tgt := 64) F dX10_meets_137 (by decide) ?_
                            have eq45 : (bz (mtE σ n sd x y bu k || ex (colB σ n sd x k) 0 ((z + 1))) : Int) = 1 := hst9
                            have eq46 : ((z + 1) : Int) = z + 1 := by first | rfl | omega | simp
                            exact ih64 (z + 1)  (by omega) (by omega)   _ _ ls hW hS (by rw [eq45, eq46]; exact lv_sub hl [1, 0, 2, 3, 4, 5, 6] rfl)
            have eq47 : (bz (mtE σ n sd x y bu k || ex (colB σ n sd x k) 0 (0)) : Int) = bz (mtE σ n sd x y bu k) := by rw [ex_0, Bool.or_false]
            exact loop64 ((σ 0 - 0) + 1 : Int).toNat 0   (by omega) (by omega)   _ _ ls hW hS (by rw [eq47]; exact lv_sub hl [2, 0, 1, 3, 4, 5, 6] rfl)
          · have hsk9 : mtE σ n sd x y bu (k + 1) = mtE σ n sd x y bu k := by unfold mtE; rw [ex_s _ (by omega), ← col_mt ⟨ok0, ok1, ok2, ok3, ok4, ok5⟩ (by omega) (by omega) (by omega), decide_eq_false (p := cp σ k 3 - y ≤ 4 ∧ y - cp σ k 3 ≤ 4) (by omega), Bool.and_false, Bool.and_false, Bool.or_false]
            refine h_goto (tgt := 13) F dX10_meets_58 (by decide) ?_
            have eq48 : (bz (mtE σ n sd x y bu (k + 1)) : Int) = bz (mtE σ n sd x y bu k) := by rw [hsk9]
            exact ih13 (k + 1)  (by omega) (by omega) w16 (by rw [show k + 1 - 1 = k by omega]; exact ho18) (fun q h09 => by rw [hn19 q (by omega), hF13 q (by omega)])  _ _ ls hW hS (by rw [eq48]; exact lv_sub hl [1, 2, 3, 4, 5] rfl)
  have eq49 : (bz (mtE σ n sd x y bu 0) : Int) = 0 := rfl
  exact loop13 ((σ 5 - 0) + 1 : Int).toNat 0   (by omega) (by omega) w1 (by skip; exact ho5) (fun q _ => rfl)  _ _ ls hW hS (by rw [eq49]; exact lv_sub hl [1, 0, 2, 3, 4] rfl)
set_option maxHeartbeats 4000000 in
set_option maxRecDepth 100000 in
theorem c_meets_r (l : Launch) (X : Cx) (w : Wo) (h q wd nn : Nat) (r9 : Nat) (σ : Int → Int) (n sd co x y bu : Int) (f : Int → Int) (hO : ownA X w h σ) (hcp : w q = some (.inr (9, [.ref wd, .int (iI sd), .int (iI co), .int (iI x), .int (iI y)]))) (hs : str X w wd nn f) (hnn : (nn : Int) = n ∧ 1 ≤ n ∧ n ≤ 8 ∧ (sd = 0 ∨ sd = 1)) (hxy : 0 ≤ x ∧ x + 4 * n - 1 ≤ σ 0 ∧ 0 ≤ y ∧ y ≤ 1000) (hbu : ((Value.ref r9) = .null ∧ bu = -1) ∨ ∃ r, (Value.ref r9) = .ref r ∧ 0 ≤ bu ∧ bu < σ 5 ∧ cpIs X w h bu r) : CM l X yX10_meets cX10_meets 7 (some (.boolean)) (rmG 3 1 4 65) [.ref h, .ref q, .ref r9] w (some (.int (iI (bz (meetS σ n sd x y bu))))) (fun w' => w' = w) := by
  refine CM.of (lv := [(0, .ref h), (1, .ref q), (2, .ref r9)]) (by decide) (Nat.le_of_ble_eq_true rfl) rfl (fun p e s m below meth c ls F hr hlk hin hW hS hl => ?_)
  have hZ0 := hW.2.2
  have hB9 := hW.1.2
  clear hin
  have hO0 := hO
  obtain ⟨st, lc, ec, lr, er, mc, mr, kc, kr, gc, gr, cd, rwa, fs, nr, wh, h1, ⟨h2, h2f⟩, ⟨h3, h3e, h3k, h3l⟩, hck, ⟨h4, h4e, h4k, h4l⟩, hrr, ⟨hnr, hwh, hem⟩, ⟨hWF, hw0, hw1⟩, hst, hinj, hcj, hlne, hene⟩ := hO
  obtain ⟨wf0, wf1, wf2, wf3, wf4, wf5⟩ := hWF.1
  have hnc := nr_cases hnr wf4.2
  have hn9 : (nn : Int) = n := hnn.1
  have hO1 : w h = some (.inr (10, [.int (iI (σ 0)), .int (iI (σ 1)), .int (iI (σ 2)), .int (iI (σ 3)), .ref st, .ref lc, .ref lr, .int (iI (bz wh))])) := h1
  have hg0 := h3
  refine h_iconst F dX10_meets_0 ?_
  refine lv_istore_n (lv' := [(3, .int (iI 0)), (0, .ref h), (1, .ref q), (2, .ref r9)]) F.1 F.2.1 dX10_meets_1 rfl hl (by decide) rfl (fun ls hl => ?_)
  refine lv_aload_n F.1 F.2.1 dX10_meets_2 rfl (lv_at hl 1 rfl) ?_
  refine gf_RX10_20 F hW h1 rfl dX10_meets_3 ?_
  refine cr_RX10_64 (As := []) (rest := []) F hl (c_Jx4a65c_iterator_32c93 l X w lc mc ec (σ 5) h3) hW hS h3 rfl rfl ⟨Nat.le_of_ble_eq_true rfl, Nat.le_of_ble_eq_true rfl⟩ (Nat.le_of_ble_eq_true rfl) ⟨(by show 0 + 1 ≤ 1; omega), (by show 0 + 4 ≤ 4; omega)⟩ dX10_meets_6 (fun v3 w1 H locs hp2 hW hS => ?_)
  obtain ⟨it, rfl, hfr4, ho5, hx6⟩ := hp2
  have hb7 := hfr4 _ _ h1
  have hb8 := hfr4 _ _ h4
  have hb9 := hfr4 _ _ h3
  have hb10 := hfr4 _ _ hcp
  have hb11 := hfr4 _ _ h4e
  have hb12 := hfr4 _ _ h2
  have h1 := hx6 _ _ h1 
  have h4 := hx6 _ _ h4 
  have h3 := hx6 _ _ h3 
  have hcp := hx6 _ _ hcp 
  have h4e := hx6 _ _ h4e 
  have h2 := hx6 _ _ h2 
  refine lv_astore (lv' := [(4, .ref it), (3, .int (iI 0)), (0, .ref h), (1, .ref q), (2, .ref r9)]) F.1 F.2.1 dX10_meets_11 hl (by decide) rfl (fun ls hl => ?_)
  have loop13 : ∀ (n9 : Nat) (k : Int), (hrg : 0 ≤ k ∧ k ≤ σ 5) → (hms : σ 5 - k < (n9 : Int)) → (w6 : Wo) → (hO13_0 : w6 it = some (.inr (13, [.int (iI k), .int (iI (k - 1)), .int mc, .ref lc]))) → (hF13 : ∀ q : Nat, q < it → w6 q = w1 q) → (H : Heap) → (locs : List Loc) → (ls : Array Slot) → Wd X w6 s H → va_S (cxA X) s.heap H locs → lv_has ls 7 [(3, .int (iI (bz (mtE σ n sd x y bu k)))), (4, .ref it), (0, .ref h), (1, .ref q), (2, .ref r9)] → W p l e (rmG 3 1 4 65) s m (List.toArray [.ref h, .ref q, .ref r9]) below meth c H locs (0 + 1) (0 + 4) (MX X below (List.toArray [.ref h, .ref q, .ref r9]) s 1 4 (some (.int (iI (bz (meetS σ n sd x y bu))))) (fun w' => w' = w)) (F0 m 13 ls []) := by
    intro n9
    induction n9 with
    | zero => intro k  hrg hms; exfalso; omega
    | succ n9 ih13 =>
      intro k  hrg hms w6 hO13_0 hF13  H locs ls hW hS hl
      have h1 := (hF13 _ (by omega)).trans h1
      have h4 := (hF13 _ (by omega)).trans h4
      have h3 := (hF13 _ (by omega)).trans h3
      have hcp := (hF13 _ (by omega)).trans hcp
      have h4e := (hF13 _ (by omega)).trans h4e
      have h2 := (hF13 _ (by omega)).trans h2
      refine lv_aload F.1 F.2.1 dX10_meets_13 (lv_at hl 1 rfl) ?_
      refine cl_RX10_68 (As := []) (rest := []) F hl (c_Jx35411_hasNext_aae02 l X w6 it lc k (iI (k - 1)) mc mc ec (σ 5) hO13_0 h3 (by omega)) hW hS hO13_0 rfl rfl ⟨Nat.le_of_ble_eq_true rfl, Nat.le_of_ble_eq_true rfl⟩ (Nat.le_of_ble_eq_true rfl) ⟨(by show 0 + 1 + 0 ≤ 1; omega), (by show 0 + 4 + 0 ≤ 4; omega)⟩ dX10_meets_15 (fun w1 H locs hp13 hW hS => ?_)
      rw [hp13] at hW; clear hp13; clear w1
      refine h_ifeqb (tgt := 143) F dX10_meets_20 (by decide) (fun c14 => ?_) (fun c14 => ?_)
      · have hke : k = σ 5 := by have := of_decide_eq_false c14; omega
        refine lv_iload_n F.1 F.2.1 dX10_meets_143 rfl (lv_at hl 0 rfl) ?_
        refine W.wd (mc := 1) (ms := 4) (by omega) (by omega) ?_
        have hW := Wd.dn hW (w := w) (fun q e h9 => by
          have z9_15 := hfr4 q e h9
          have h9 := hx6 q e h9 
          have h9 := (hF13 q (by omega)).trans h9
          exact h9)
        refine h_top (show (bz (mtE σ n sd x y bu k) : Int) = bz (meetS σ n sd x y bu) from by rw [hke]; rfl) ?_
        exact h_iretz F hr hlk hW hS rfl dX10_meets_144
      · have hkl : k < σ 5 := of_decide_eq_true c14
        have hec0 : w ec = some (aR X 5 kc gc) := by
          rcases h3e with hz9 | hz9
          · omega
          · exact hz9.1
        have hecb := hfr4 _ _ hec0
        have hecw : w6 ec = some (aR X 5 kc gc) := (show ext w w6 from fun q e h9 => by have z9_1 := hfr4 q e h9; have h9 := hx6 q e h9 ; have h9 := (hF13 q (by omega)).trans h9; exact h9) _ _ hec0
        refine lv_aload F.1 F.2.1 dX10_meets_23 (lv_at hl 1 rfl) ?_
        refine cl_RX10_74 (As := []) (rest := []) F hl (c_Jx35411_next_0502b l X w6 it lc k (iI (k - 1)) mc ec (σ 5) kc gc (cd k) hO13_0 h3 hecw (by omega) ((hck k (by omega) (by omega)).1) (⟨by omega, by omega⟩)) hW hS hO13_0 rfl rfl ⟨Nat.le_of_ble_eq_true rfl, Nat.le_of_ble_eq_true rfl⟩ (Nat.le_of_ble_eq_true rfl) ⟨(by show 0 + 1 + 0 + 0 ≤ 1; omega), (by show 0 + 4 + 0 + 0 ≤ 4; omega)⟩ dX10_meets_25 (fun w16 H locs hp17 hW hS => ?_)
        obtain ⟨ho18, hn19⟩ := hp17
        have h1 := (hn19 _ (by omega)).trans h1
        have h4 := (hn19 _ (by omega)).trans h4
        have h3 := (hn19 _ (by omega)).trans h3
        have hcp := (hn19 _ (by omega)).trans hcp
        have h4e := (hn19 _ (by omega)).trans h4e
        have h2 := (hn19 _ (by omega)).trans h2
        have hEx : ext w w16 := (show ext w w16 from fun q e h9 => by have z9_1 := hfr4 q e h9; have h9 := hx6 q e h9 ; have h9 := (hF13 q (by omega)).trans h9; have h9 := (hn19 q (by omega)).trans h9; exact h9)
        obtain ⟨fk, ⟨wdk, hcpk, hsk⟩, hfk⟩ := (hck k (by omega) (by omega)).2
        have hcpk := hEx _ _ hcpk
        have hsk := hsk.ex hEx
        have hsa := hs.ex hEx
        have hok := hWF.2.2.1 k (by omega) (by omega)
        obtain ⟨ok0, ok1, ok2, ok3, ok4, ok5⟩ := hok
        have hbk : ((Value.ref r9) = .ref (cd k)) = (k = bu) := mt_bu hbu hO1 hec0 hg0 hcj hkl (by omega) (hck k (by omega) (by omega)).1 (fun z z0 z1 => (hck z z0 z1).1)
        refine h_castO F hW (ci := 9) rfl hcpk kl_RX10_57 dX10_meets_30 ?_
        refine lv_astore (lv' := [(5, .ref (cd k)), (3, .int (iI (bz (mtE σ n sd x y bu k)))), (4, .ref it), (0, .ref h), (1, .ref q), (2, .ref r9)]) F.1 F.2.1 dX10_meets_33 hl (by decide) rfl (fun ls hl => ?_)
        refine lv_aload F.1 F.2.1 dX10_meets_35 (lv_at hl 0 rfl) ?_
        refine lv_aload_n F.1 F.2.1 dX10_meets_37 rfl (lv_at hl 5 rfl) ?_
        refine mt_acmp (tgt := 13) (v := (Value.ref r9)) (r := cd k) F dX10_meets_38 (by decide) (hbu.elim (fun z9 => Or.inl z9.1) (fun z9 => z9.elim (fun r9 z8 => Or.inr ⟨r9, z8.1⟩))) (fun heq9 => ?_) (fun hne9 => ?_)
        · have hkb : k = bu := by rw [← hbk]; exact heq9
          have hsk9 : mtE σ n sd x y bu (k + 1) = mtE σ n sd x y bu k := by unfold mtE; rw [ex_s _ (by omega), decide_eq_false (p := k ≠ bu) (fun e9 => e9 hkb), Bool.false_and, Bool.or_false]
          have eq20 : (bz (mtE σ n sd x y bu (k + 1)) : Int) = bz (mtE σ n sd x y bu k) := by rw [hsk9]
          exact ih13 (k + 1)  (by omega) (by omega) w16 (by rw [show k + 1 - 1 = k by omega]; exact ho18) (fun q h09 => by rw [hn19 q (by omega), hF13 q (by omega)])  _ _ ls hW hS (by rw [eq20]; exact lv_sub hl [1, 2, 3, 4, 5] rfl)
        · have hkb : k ≠ bu := fun e9 => hne9 (by rw [hbk]; exact e9)
          refine lv_aload F.1 F.2.1 dX10_meets_41 (lv_at hl 0 rfl) ?_
          refine gf_RX10_82 F hW hcpk rfl dX10_meets_43 ?_
          refine lv_aload_n F.1 F.2.1 dX10_meets_46 rfl (lv_at hl 4 rfl) ?_
          refine gf_RX10_82 F hW hcp rfl dX10_meets_47 ?_
          refine h_isub (a := cp σ k 3) (b := y) F dX10_meets_50 ?_
          refine h_mabs (index := 92) (a := (cp σ k 3) - y) F hl km_RX10_92 (Nat.le_of_ble_eq_true rfl) (Nat.le_of_ble_eq_true rfl) (by show 0 + 1 + 0 + 0 ≤ 1; omega) (by show 0 + 4 + 0 + 0 ≤ 4; omega) (by omega) dX10_meets_51 ?_
          refine h_iconst F dX10_meets_54 ?_
          refine h_icle (tgt := 61) F dX10_meets_55 (by decide) (by omega) (fun c21 => ?_) (fun c21 => ?_)
          · refine h_iconst F dX10_meets_61 ?_
            refine lv_istore (lv' := [(6, .int (iI 0)), (5, .ref (cd k)), (3, .int (iI (bz (mtE σ n sd x y bu k)))), (4, .ref it), (0, .ref h), (1, .ref q), (2, .ref r9)]) F.1 F.2.1 dX10_meets_62 hl (by decide) rfl (fun ls hl => ?_)
            have loop64 : ∀ (n9 : Nat) (z : Int), (hrg : 0 ≤ z ∧ z ≤ σ 0) → (hms : σ 0 - z < (n9 : Int)) → (H : Heap) → (locs : List Loc) → (ls : Array Slot) → Wd X w16 s H → va_S (cxA X) s.heap H locs → lv_has ls 7 [(3, .int (iI (bz (mtE σ n sd x y bu k || ex (colB σ n sd x k) 0 (z))))), (6, .int (iI z)), (5, .ref (cd k)), (4, .ref it), (0, .ref h), (1, .ref q), (2, .ref r9)] → W p l e (rmG 3 1 4 65) s m (List.toArray [.ref h, .ref q, .ref r9]) below meth c H locs (0 + 1 + 0 + 0) (0 + 4 + 0 + 0) (MX X below (List.toArray [.ref h, .ref q, .ref r9]) s 1 4 (some (.int (iI (bz (meetS σ n sd x y bu))))) (fun w' => w' = w)) (F0 m 64 ls []) := by
              intro n9
              induction n9 with
              | zero => intro z  hrg hms; exfalso; omega
              | succ n9 ih64 =>
                intro z  hrg hms   H locs ls hW hS hl
                refine lv_iload F.1 F.2.1 dX10_meets_64 (lv_at hl 1 rfl) ?_
                refine lv_aload_n F.1 F.2.1 dX10_meets_66 rfl (lv_at hl 4 rfl) ?_
                refine gf_RX10_27 F hW h1 rfl dX10_meets_67 ?_
                refine h_icge (tgt := 140) F dX10_meets_70 (by decide) (by omega) (fun c22 => ?_) (fun c22 => ?_)
                · have hsk9 : mtE σ n sd x y bu (k + 1) = (mtE σ n sd x y bu k || ex (colB σ n sd x k) 0 (z)) := by unfold mtE; rw [ex_s _ (by omega), show z = σ 0 by omega, ← col_mt ⟨ok0, ok1, ok2, ok3, ok4, ok5⟩ (by omega) (by omega) (by omega), decide_eq_true (p := cp σ k 3 - y ≤ 4 ∧ y - cp σ k 3 ≤ 4) (by omega), decide_eq_true (p := k ≠ bu) hkb, Bool.and_true, Bool.true_and]
                  refine h_goto (tgt := 13) F dX10_meets_140 (by decide) ?_
                  have eq23 : (bz (mtE σ n sd x y bu (k + 1)) : Int) = bz (mtE σ n sd x y bu k || ex (colB σ n sd x k) 0 (z)) := by rw [hsk9]
                  exact ih13 (k + 1)  (by omega) (by omega) w16 (by rw [show k + 1 - 1 = k by omega]; exact ho18) (fun q h09 => by rw [hn19 q (by omega), hF13 q (by omega)])  _ _ ls hW hS (by rw [eq23]; exact lv_sub hl [0, 3, 4, 5, 6] rfl)
                · refine lv_iload_n F.1 F.2.1 dX10_meets_73 rfl (lv_at hl 0 rfl) ?_
                  refine h_ifneb (tgt := 128) F dX10_meets_74 (by decide) (fun c24 => ?_) (fun c24 => ?_)
                  · have hst9 : bz (mtE σ n sd x y bu k || ex (colB σ n sd x k) 0 (z + 1)) = 1 := (Bool.or_eq_true_iff.mp c24).elim (fun hz8 => by rw [hz8, Bool.true_or]; rfl) (fun hz8 => by rw [ex_s _ (by omega), hz8, Bool.true_or, Bool.or_true]; rfl)
                    refine h_iconst F dX10_meets_128 ?_
                    refine h_goto (tgt := 133) F dX10_meets_129 (by decide) ?_
                    refine lv_istore_n (lv' := [(3, .int (iI 1)), (6, .int (iI z)), (5, .ref (cd k)), (4, .ref it), (0, .ref h), (1, .ref q), (2, .ref r9)]) F.1 F.2.1 dX10_meets_133 rfl hl (by decide) rfl (fun ls hl => ?_)
                    refine h_iinc (k := 1) (a := z) (lv' := [(6, .int (iI (z + 1))), (3, .int (iI 1)), (5, .ref (cd k)), (4, .ref it), (0, .ref h), (1, .ref q), (2, .ref r9)]) F dX10_meets_134 hl rfl (by decide) rfl (fun ls hl => ?_)
                    refine h_goto (tgt := 64) F dX10_meets_137 (by decide) ?_
                    have eq25 : (bz (mtE σ n sd x y bu k || ex (colB σ n sd x k) 0 ((z + 1))) : Int) = 1 := hst9
                    have eq26 : ((z + 1) : Int) = z + 1 := by first | rfl | omega | simp
                    exact ih64 (z + 1)  (by omega) (by omega)   _ _ ls hW hS (by rw [eq25, eq26]; exact lv_sub hl [1, 0, 2, 3, 4, 5, 6] rfl)
                  · have hpf : (mtE σ n sd x y bu k || ex (colB σ n sd x k) 0 (z)) = false := c24
                    refine lv_aload_n F.1 F.2.1 dX10_meets_77 rfl (lv_at hl 4 rfl) ?_
                    refine lv_aload_n F.1 F.2.1 dX10_meets_78 rfl (lv_at hl 5 rfl) ?_
                    refine lv_iload F.1 F.2.1 dX10_meets_79 (lv_at hl 1 rfl) ?_
                    refine cl_RX10_78 (As := [.ref q, .int (iI z)]) (rest := []) F hl (c_X10_over l X w16 h q wd σ sd co x y z (hO0.ex hEx) hcp (by omega) (by omega)) hW hS h1 rfl rfl ⟨Nat.le_of_ble_eq_true rfl, Nat.le_of_ble_eq_true rfl⟩ (Nat.le_of_ble_eq_true rfl) ⟨(by show 0 + 1 + 0 + 0 + 0 ≤ 1; omega), (by show 0 + 4 + 0 + 0 + 0 ≤ 4; omega)⟩ dX10_meets_81 (fun w1 H locs hp27 hW hS => ?_)
                    rw [hp27] at hW; clear hp27; clear w1
                    refine h_iflt (tgt := 132) F dX10_meets_84 (by decide) (by unfold ovC; split <;> omega) (fun c28 => ?_) (fun c28 => ?_)
                    · have hst9 : bz (mtE σ n sd x y bu k || ex (colB σ n sd x k) 0 (z + 1)) = 0 := by rw [show ex (colB σ n sd x k) 0 (z + 1) = ex (colB σ n sd x k) 0 z from by rw [ex_s _ (by omega), show colB σ n sd x k z = false from decide_eq_false (by omega), Bool.or_false], hpf]; rfl
                      refine h_iconst F dX10_meets_132 ?_
                      refine lv_istore_n (lv' := [(3, .int (iI 0)), (6, .int (iI z)), (5, .ref (cd k)), (4, .ref it), (0, .ref h), (1, .ref q), (2, .ref r9)]) F.1 F.2.1 dX10_meets_133 rfl hl (by decide) rfl (fun ls hl => ?_)
                      refine h_iinc (k := 1) (a := z) (lv' := [(6, .int (iI (z + 1))), (3, .int (iI 0)), (5, .ref (cd k)), (4, .ref it), (0, .ref h), (1, .ref q), (2, .ref r9)]) F dX10_meets_134 hl rfl (by decide) rfl (fun ls hl => ?_)
                      refine h_goto (tgt := 64) F dX10_meets_137 (by decide) ?_
                      have eq29 : (bz (mtE σ n sd x y bu k || ex (colB σ n sd x k) 0 ((z + 1))) : Int) = 0 := hst9
                      have eq30 : ((z + 1) : Int) = z + 1 := by first | rfl | omega | simp
                      exact ih64 (z + 1)  (by omega) (by omega)   _ _ ls hW hS (by rw [eq29, eq30]; exact lv_sub hl [1, 0, 2, 3, 4, 5, 6] rfl)
                    · refine lv_aload_n F.1 F.2.1 dX10_meets_87 rfl (lv_at hl 4 rfl) ?_
                      refine lv_aload_n F.1 F.2.1 dX10_meets_88 rfl (lv_at hl 5 rfl) ?_
                      refine lv_iload F.1 F.2.1 dX10_meets_89 (lv_at hl 1 rfl) ?_
                      refine cl_RX10_78 (As := [.ref q, .int (iI z)]) (rest := []) F hl (c_X10_over l X w16 h q wd σ sd co x y z (hO0.ex hEx) hcp (by omega) (by omega)) hW hS h1 rfl rfl ⟨Nat.le_of_ble_eq_true rfl, Nat.le_of_ble_eq_true rfl⟩ (Nat.le_of_ble_eq_true rfl) ⟨(by show 0 + 1 + 0 + 0 + 0 + 0 ≤ 1; omega), (by show 0 + 4 + 0 + 0 + 0 + 0 ≤ 4; omega)⟩ dX10_meets_91 (fun w1 H locs hp31 hW hS => ?_)
                      rw [hp31] at hW; clear hp31; clear w1
                      refine lv_aload_n F.1 F.2.1 dX10_meets_94 rfl (lv_at hl 5 rfl) ?_
                      refine cl_RX10_98 (As := []) (rest := [.int (iI (ovC (σ 0) sd x z))]) F hl (c_X9_wide l X w16 q wd nn sd co x y f hcp hsa (by omega)) hW hS hcp rfl rfl ⟨Nat.le_of_ble_eq_true rfl, Nat.le_of_ble_eq_true rfl⟩ (Nat.le_of_ble_eq_true rfl) ⟨(by show 0 + 1 + 0 + 0 + 0 + 0 + 0 ≤ 1; omega), (by show 0 + 4 + 0 + 0 + 0 + 0 + 0 ≤ 4; omega)⟩ dX10_meets_95 (fun w1 H locs hp32 hW hS => ?_)
                      rw [hp32] at hW; clear hp32; clear w1
                      refine h_icge (tgt := 132) F dX10_meets_98 (by decide) (by unfold ovC; split <;> omega) (fun c33 => ?_) (fun c33 => ?_)
                      · have hst9 : bz (mtE σ n sd x y bu k || ex (colB σ n sd x k) 0 (z + 1)) = 0 := by rw [show ex (colB σ n sd x k) 0 (z + 1) = ex (colB σ n sd x k) 0 z from by rw [ex_s _ (by omega), show colB σ n sd x k z = false from decide_eq_false (by omega), Bool.or_false], hpf]; rfl
                        refine h_iconst F dX10_meets_132 ?_
                        refine lv_istore_n (lv' := [(3, .int (iI 0)), (6, .int (iI z)), (5, .ref (cd k)), (4, .ref it), (0, .ref h), (1, .ref q), (2, .ref r9)]) F.1 F.2.1 dX10_meets_133 rfl hl (by decide) rfl (fun ls hl => ?_)
                        refine h_iinc (k := 1) (a := z) (lv' := [(6, .int (iI (z + 1))), (3, .int (iI 0)), (5, .ref (cd k)), (4, .ref it), (0, .ref h), (1, .ref q), (2, .ref r9)]) F dX10_meets_134 hl rfl (by decide) rfl (fun ls hl => ?_)
                        refine h_goto (tgt := 64) F dX10_meets_137 (by decide) ?_
                        have eq34 : (bz (mtE σ n sd x y bu k || ex (colB σ n sd x k) 0 ((z + 1))) : Int) = 0 := hst9
                        have eq35 : ((z + 1) : Int) = z + 1 := by first | rfl | omega | simp
                        exact ih64 (z + 1)  (by omega) (by omega)   _ _ ls hW hS (by rw [eq34, eq35]; exact lv_sub hl [1, 0, 2, 3, 4, 5, 6] rfl)
                      · refine lv_aload_n F.1 F.2.1 dX10_meets_101 rfl (lv_at hl 4 rfl) ?_
                        refine lv_aload F.1 F.2.1 dX10_meets_102 (lv_at hl 2 rfl) ?_
                        refine lv_iload F.1 F.2.1 dX10_meets_104 (lv_at hl 1 rfl) ?_
                        refine cl_RX10_78 (As := [.ref (cd k), .int (iI z)]) (rest := []) F hl (c_X10_over l X w16 h (cd k) wdk σ (cp σ k 1) (cp σ k 4) (cp σ k 2) (cp σ k 3) z (hO0.ex hEx) hcpk (by omega) (by omega)) hW hS h1 rfl rfl ⟨Nat.le_of_ble_eq_true rfl, Nat.le_of_ble_eq_true rfl⟩ (Nat.le_of_ble_eq_true rfl) ⟨(by show 0 + 1 + 0 + 0 + 0 + 0 + 0 + 0 ≤ 1; omega), (by show 0 + 4 + 0 + 0 + 0 + 0 + 0 + 0 ≤ 4; omega)⟩ dX10_meets_106 (fun w1 H locs hp36 hW hS => ?_)
                        rw [hp36] at hW; clear hp36; clear w1
                        refine h_iflt (tgt := 132) F dX10_meets_109 (by decide) (by unfold ovC; split <;> omega) (fun c37 => ?_) (fun c37 => ?_)
                        · have hst9 : bz (mtE σ n sd x y bu k || ex (colB σ n sd x k) 0 (z + 1)) = 0 := by rw [show ex (colB σ n sd x k) 0 (z + 1) = ex (colB σ n sd x k) 0 z from by rw [ex_s _ (by omega), show colB σ n sd x k z = false from decide_eq_false (by omega), Bool.or_false], hpf]; rfl
                          refine h_iconst F dX10_meets_132 ?_
                          refine lv_istore_n (lv' := [(3, .int (iI 0)), (6, .int (iI z)), (5, .ref (cd k)), (4, .ref it), (0, .ref h), (1, .ref q), (2, .ref r9)]) F.1 F.2.1 dX10_meets_133 rfl hl (by decide) rfl (fun ls hl => ?_)
                          refine h_iinc (k := 1) (a := z) (lv' := [(6, .int (iI (z + 1))), (3, .int (iI 0)), (5, .ref (cd k)), (4, .ref it), (0, .ref h), (1, .ref q), (2, .ref r9)]) F dX10_meets_134 hl rfl (by decide) rfl (fun ls hl => ?_)
                          refine h_goto (tgt := 64) F dX10_meets_137 (by decide) ?_
                          have eq38 : (bz (mtE σ n sd x y bu k || ex (colB σ n sd x k) 0 ((z + 1))) : Int) = 0 := hst9
                          have eq39 : ((z + 1) : Int) = z + 1 := by first | rfl | omega | simp
                          exact ih64 (z + 1)  (by omega) (by omega)   _ _ ls hW hS (by rw [eq38, eq39]; exact lv_sub hl [1, 0, 2, 3, 4, 5, 6] rfl)
                        · refine lv_aload_n F.1 F.2.1 dX10_meets_112 rfl (lv_at hl 4 rfl) ?_
                          refine lv_aload F.1 F.2.1 dX10_meets_113 (lv_at hl 2 rfl) ?_
                          refine lv_iload F.1 F.2.1 dX10_meets_115 (lv_at hl 1 rfl) ?_
                          refine cl_RX10_78 (As := [.ref (cd k), .int (iI z)]) (rest := []) F hl (c_X10_over l X w16 h (cd k) wdk σ (cp σ k 1) (cp σ k 4) (cp σ k 2) (cp σ k 3) z (hO0.ex hEx) hcpk (by omega) (by omega)) hW hS h1 rfl rfl ⟨Nat.le_of_ble_eq_true rfl, Nat.le_of_ble_eq_true rfl⟩ (Nat.le_of_ble_eq_true rfl) ⟨(by show 0 + 1 + 0 + 0 + 0 + 0 + 0 + 0 + 0 ≤ 1; omega), (by show 0 + 4 + 0 + 0 + 0 + 0 + 0 + 0 + 0 ≤ 4; omega)⟩ dX10_meets_117 (fun w1 H locs hp40 hW hS => ?_)
                          rw [hp40] at hW; clear hp40; clear w1
                          refine lv_aload F.1 F.2.1 dX10_meets_120 (lv_at hl 2 rfl) ?_
                          refine cl_RX10_98 (As := []) (rest := [.int (iI (ovC (σ 0) (cp σ k 1) (cp σ k 2) z))]) F hl (c_X9_wide l X w16 (cd k) wdk ((cp σ k 0).toNat) (cp σ k 1) (cp σ k 4) (cp σ k 2) (cp σ k 3) fk hcpk hsk (by omega)) hW hS hcpk rfl rfl ⟨Nat.le_of_ble_eq_true rfl, Nat.le_of_ble_eq_true rfl⟩ (Nat.le_of_ble_eq_true rfl) ⟨(by show 0 + 1 + 0 + 0 + 0 + 0 + 0 + 0 + 0 + 0 ≤ 1; omega), (by show 0 + 4 + 0 + 0 + 0 + 0 + 0 + 0 + 0 + 0 ≤ 4; omega)⟩ dX10_meets_122 (fun w1 H locs hp41 hW hS => ?_)
                          rw [hp41] at hW; clear hp41; clear w1
                          refine h_icge (tgt := 132) F dX10_meets_125 (by decide) (by unfold ovC; split <;> omega) (fun c42 => ?_) (fun c42 => ?_)
                          · have hst9 : bz (mtE σ n sd x y bu k || ex (colB σ n sd x k) 0 (z + 1)) = 0 := by rw [show ex (colB σ n sd x k) 0 (z + 1) = ex (colB σ n sd x k) 0 z from by rw [ex_s _ (by omega), show colB σ n sd x k z = false from decide_eq_false (by omega), Bool.or_false], hpf]; rfl
                            refine h_iconst F dX10_meets_132 ?_
                            refine lv_istore_n (lv' := [(3, .int (iI 0)), (6, .int (iI z)), (5, .ref (cd k)), (4, .ref it), (0, .ref h), (1, .ref q), (2, .ref r9)]) F.1 F.2.1 dX10_meets_133 rfl hl (by decide) rfl (fun ls hl => ?_)
                            refine h_iinc (k := 1) (a := z) (lv' := [(6, .int (iI (z + 1))), (3, .int (iI 0)), (5, .ref (cd k)), (4, .ref it), (0, .ref h), (1, .ref q), (2, .ref r9)]) F dX10_meets_134 hl rfl (by decide) rfl (fun ls hl => ?_)
                            refine h_goto (tgt := 64) F dX10_meets_137 (by decide) ?_
                            have eq43 : (bz (mtE σ n sd x y bu k || ex (colB σ n sd x k) 0 ((z + 1))) : Int) = 0 := hst9
                            have eq44 : ((z + 1) : Int) = z + 1 := by first | rfl | omega | simp
                            exact ih64 (z + 1)  (by omega) (by omega)   _ _ ls hW hS (by rw [eq43, eq44]; exact lv_sub hl [1, 0, 2, 3, 4, 5, 6] rfl)
                          · have hst9 : bz (mtE σ n sd x y bu k || ex (colB σ n sd x k) 0 (z + 1)) = 1 := by rw [ex_s _ (by omega), show colB σ n sd x k z = true from decide_eq_true (by omega), Bool.or_true, Bool.or_true]; rfl
                            refine h_iconst F dX10_meets_128 ?_
                            refine h_goto (tgt := 133) F dX10_meets_129 (by decide) ?_
                            refine lv_istore_n (lv' := [(3, .int (iI 1)), (6, .int (iI z)), (5, .ref (cd k)), (4, .ref it), (0, .ref h), (1, .ref q), (2, .ref r9)]) F.1 F.2.1 dX10_meets_133 rfl hl (by decide) rfl (fun ls hl => ?_)
                            refine h_iinc (k := 1) (a := z) (lv' := [(6, .int (iI (z + 1))), (3, .int (iI 1)), (5, .ref (cd k)), (4, .ref it), (0, .ref h), (1, .ref q), (2, .ref r9)]) F dX10_meets_134 hl rfl (by decide) rfl (fun ls hl => ?_)
                            refine h_goto (tgt := 64) F dX10_meets_137 (by decide) ?_
                            have eq45 : (bz (mtE σ n sd x y bu k || ex (colB σ n sd x k) 0 ((z + 1))) : Int) = 1 := hst9
                            have eq46 : ((z + 1) : Int) = z + 1 := by first | rfl | omega | simp
                            exact ih64 (z + 1)  (by omega) (by omega)   _ _ ls hW hS (by rw [eq45, eq46]; exact lv_sub hl [1, 0, 2, 3, 4, 5, 6] rfl)
            have eq47 : (bz (mtE σ n sd x y bu k || ex (colB σ n sd x k) 0 (0)) : Int) = bz (mtE σ n sd x y bu k) := by rw [ex_0, Bool.or_false]
            exact loop64 ((σ 0 - 0) + 1 : Int).toNat 0   (by omega) (by omega)   _ _ ls hW hS (by rw [eq47]; exact lv_sub hl [2, 0, 1, 3, 4, 5, 6] rfl)
          · have hsk9 : mtE σ n sd x y bu (k + 1) = mtE σ n sd x y bu k := by unfold mtE; rw [ex_s _ (by omega), ← col_mt ⟨ok0, ok1, ok2, ok3, ok4, ok5⟩ (by omega) (by omega) (by omega), decide_eq_false (p := cp σ k 3 - y ≤ 4 ∧ y - cp σ k 3 ≤ 4) (by omega), Bool.and_false, Bool.and_false, Bool.or_false]
            refine h_goto (tgt := 13) F dX10_meets_58 (by decide) ?_
            have eq48 : (bz (mtE σ n sd x y bu (k + 1)) : Int) = bz (mtE σ n sd x y bu k) := by rw [hsk9]
            exact ih13 (k + 1)  (by omega) (by omega) w16 (by rw [show k + 1 - 1 = k by omega]; exact ho18) (fun q h09 => by rw [hn19 q (by omega), hF13 q (by omega)])  _ _ ls hW hS (by rw [eq48]; exact lv_sub hl [1, 2, 3, 4, 5] rfl)
  have eq49 : (bz (mtE σ n sd x y bu 0) : Int) = 0 := rfl
  exact loop13 ((σ 5 - 0) + 1 : Int).toNat 0   (by omega) (by omega) w1 (by skip; exact ho5) (fun q _ => rfl)  _ _ ls hW hS (by rw [eq49]; exact lv_sub hl [1, 0, 2, 3, 4] rfl)
