set_option maxHeartbeats 4000000 in
set_option maxRecDepth 100000 in
theorem c_X10_empty (l : Launch) (X : Cx) (w : Wo) (h : Nat) (σ : Int → Int) (u1 u2 u3 u4 u5 u6 u7 : Value) (h1 : w h = some (.inr (10, [.int (iI (σ 0)), u1, u2, u3, u4, u5, u6, u7]))) (hw : 0 ≤ σ 0 ∧ σ 0 ≤ 19) : CR l X yX10_empty cX10_empty 3 (some (.array .int)) (rmG 0 1 19 0) [.ref h] w (fun v' w' => ∃ (a9 : Nat), ∃ (f9 : Int → Int), v' = .ref a9 ∧ frs w a9 ∧ w' a9 = some (aZ X ((σ 0).toNat) f9) ∧ (∀ j, 0 ≤ j → j < σ 0 → f9 j = -1) ∧ ∀ (q : Nat) (e : va_E), w q = some e → w' q = some e) := by
  refine CR.of (lv := [(0, .ref h)]) (by decide) (Nat.le_of_ble_eq_true rfl) rfl (fun p e s m below meth c ls F hr hlk hin hW hS hl => ?_)
  have hZ0 := hW.2.2
  have hB9 := hW.1.2
  clear hin
  refine lv_aload_n F.1 F.2.1 dX10_empty_0 rfl (lv_at hl 0 rfl) ?_
  refine gf_RX10_27 F hW h1 rfl dX10_empty_1 ?_
  refine q_newP (N := ((σ 0).toNat)) (k := 0) (atype := .int) (x := .inl (fun j : Nat => iI ((fun _ : Int => 0) (j : Int)))) F hW hS haCI rfl (hxI _) (by omega) (by omega) ⟨(by show 0 + 1 ≤ 1; omega), (by show 0 + (σ 0).toNat ≤ 19; omega)⟩ dX10_empty_4 (fun a9 w1 H hfr4 hcx5 ha3 hn2 hW hS => ?_)
  have ha3 : w1 a9 = some (aZ X ((σ 0).toNat) (fun _ => 0)) := ha3
  have hb6 := hfr4 _ _ h1
  have h1 := (hn2 _ (by omega)).trans h1
  refine lv_astore_n (lv' := [(1, .ref a9), (0, .ref h)]) F.1 F.2.1 dX10_empty_6 rfl hl (by decide) rfl (fun ls hl => ?_)
  refine h_iconst F dX10_empty_7 ?_
  refine lv_istore_n (lv' := [(2, .int (iI 0)), (1, .ref a9), (0, .ref h)]) F.1 F.2.1 dX10_empty_8 rfl hl (by decide) rfl (fun ls hl => ?_)
  have loop9 : ∀ (n9 : Nat) (k : Int) (fz : Int → Int), (hrg : 0 ≤ k ∧ k ≤ σ 0) → (hms : σ 0 - k < (n9 : Int)) → (w6 : Wo) → (hA9_0 : w6 a9 = some (aZ X ((σ 0).toNat) fz)) → (hF9 : ∀ q : Nat, q ≠ a9 → w6 q = w1 q) → (hfz : ∀ j, 0 ≤ j → j < k → fz j = -1) → (H : Heap) → (locs : List Loc) → (ls : Array Slot) → Wd X w6 s H → va_S (cxA X) s.heap H locs → lv_has ls 3 [(2, .int (iI k)), (1, .ref a9), (0, .ref h)] → W p l e (rmG 0 1 19 0) s m (List.toArray [.ref h]) below meth c H locs (0 + 1) (0 + (σ 0).toNat) (MR X below (List.toArray [.ref h]) s 1 19 (fun v' w' => ∃ (a9 : Nat), ∃ (f9 : Int → Int), v' = .ref a9 ∧ frs w a9 ∧ w' a9 = some (aZ X ((σ 0).toNat) f9) ∧ (∀ j, 0 ≤ j → j < σ 0 → f9 j = -1) ∧ ∀ (q : Nat) (e : va_E), w q = some e → w' q = some e)) (F0 m 9 ls []) := by
    intro n9
    induction n9 with
    | zero => intro k fz  hrg hms; exfalso; omega
    | succ n9 ih9 =>
      intro k fz  hrg hms w6 hA9_0 hF9 hfz H locs ls hW hS hl
      have h1 := (hF9 _ (by omega)).trans h1
      refine lv_iload_n F.1 F.2.1 dX10_empty_9 rfl (lv_at hl 0 rfl) ?_
      refine lv_aload_n F.1 F.2.1 dX10_empty_10 rfl (lv_at hl 2 rfl) ?_
      refine gf_RX10_27 F hW h1 rfl dX10_empty_11 ?_
      refine h_icge (tgt := 27) F dX10_empty_14 (by decide) (by omega) (fun c7 => ?_) (fun c7 => ?_)
      · refine lv_aload_n F.1 F.2.1 dX10_empty_27 rfl (lv_at hl 1 rfl) ?_
        refine W.wd (mc := 1) (ms := 19) (by omega) (by omega) ?_
        have hX9 : ∀ (q : Nat) (e : va_E), w q = some e → w6 q = some e := fun q e h9  => by
          have z9_8 := hfr4 q e h9
          have h9 := (hn2 q (by omega)).trans h9
          have h9 := (hF9 q (by omega)).trans h9
          exact h9
        exact r_aret F (Or.inr ⟨_, hr⟩) hlk hW hS ⟨_, _, rfl, hfr4, (by (rw [hA9_0]) <;> (rfl)), (fun j h1 h2 => hfz j h1 (by omega)), hX9⟩ dX10_empty_28
      · refine lv_aload_n F.1 F.2.1 dX10_empty_17 rfl (lv_at hl 1 rfl) ?_
        refine lv_iload_n F.1 F.2.1 dX10_empty_18 rfl (lv_at hl 0 rfl) ?_
        refine h_iconst F dX10_empty_19 ?_
        refine h_iast F hW hS hA9_0 (by omega) (by omega) dX10_empty_20 (fun w9 H locs ho11 hn10 hW hS => ?_)
        have h1 := (hn10 _ (by omega)).trans h1
        refine h_iinc (k := 0) (a := k) (lv' := [(2, .int (iI (k + 1))), (1, .ref a9), (0, .ref h)]) F dX10_empty_21 hl rfl (by decide) rfl (fun ls hl => ?_)
        refine h_goto (tgt := 9) F dX10_empty_24 (by decide) ?_
        have eq12 : ((k + 1) : Int) = k + 1 := by first | rfl | omega | simp
        exact ih9 (k + 1)  (up fz k (-1)) (by omega) (by omega) w9 ho11 (fun q h09 => by rw [hn10 q (by omega), hF9 q (by omega)]) (fun j h1 h2 => if hj : j = k then (by rw [hj, up_s]) else (by rw [up_n hj]; exact hfz j h1 (by omega))) _ _ ls hW hS (by rw [eq12]; exact lv_sub hl [0, 1, 2] rfl)
  exact loop9 ((σ 0 - 0) + 1 : Int).toNat 0  (fun _ => 0) (by omega) (by omega) w1 ha3 (fun q _ => rfl) (fun j h1 h2 => by omega) _ _ ls hW hS (lv_sub hl [0, 1, 2] rfl)
set_option maxHeartbeats 4000000 in
set_option maxRecDepth 100000 in
theorem c_X10_enough (l : Launch) (X : Cx) (w : Wo) (h : Nat) (σ : Int → Int) (m9 : Int) (b9 : Bool) (hO : ownA X w h σ) (hm : 0 ≤ m9 ∧ σ 4 + m9 ≤ σ 1) : CM l X yX10_enough cX10_enough 8 (some (.boolean)) (rmG 7 248 995 157) [.ref h, .int (iI m9), .int (iI (bz b9))] w (some (.int (iI (bz (enoS σ b9 m9))))) (fun w' => w' = w) := by
  refine CM.of (lv := [(0, .ref h), (1, .int (iI m9)), (2, .int (iI (bz b9)))]) (by decide) (Nat.le_of_ble_eq_true rfl) rfl (fun p e s m below meth c ls F hr hlk hin hW hS hl => ?_)
  have hZ0 := hW.2.2
  have hB9 := hW.1.2
  clear hin
  have hO0 := hO
  obtain ⟨st, lc, ec, lr, er, mc, mr, kc, kr, gc, gr, cd, rwa, fs, nr, wh, h1, ⟨h2, h2f⟩, ⟨h3, h3e, h3k, h3l⟩, hck, ⟨h4, h4e, h4k, h4l⟩, hrr, ⟨hnr, hwh, hem⟩, ⟨hWF, hw0, hw1⟩, hst, hinj, hcj, hlne, hene⟩ := hO
  obtain ⟨wf0, wf1, wf2, wf3, wf4, wf5⟩ := hWF.1
  have hnc := nr_cases hnr wf4.2
  refine lv_aload_n F.1 F.2.1 dX10_enough_0 rfl (lv_at hl 0 rfl) ?_
  refine gf_RX10_13 F hW h1 rfl dX10_enough_1 ?_
  refine h_cloneI (index := 123) F hl hW hZ0 hB9 hS h2 km_RX10_123 (Nat.le_of_ble_eq_true rfl) (Nat.le_of_ble_eq_true rfl) ⟨(by show 0 + 1 ≤ 248; omega), (by show 0 + 7 ≤ 995; omega)⟩ dX10_enough_4 (fun lf w1 H hnk4 ha3 hn2 hW hS => ?_)
  have hb5 := hnk4 _ _ h1
  have hb6 := hnk4 _ _ h4
  have hb7 := hnk4 _ _ h3
  have hb8 := hnk4 _ _ h4e
  have hb9 := hnk4 _ _ h2
  have h1 := (hn2 _ (by omega)).trans h1
  have h4 := (hn2 _ (by omega)).trans h4
  have h3 := (hn2 _ (by omega)).trans h3
  have h4e := (hn2 _ (by omega)).trans h4e
  have h2 := (hn2 _ (by omega)).trans h2
  refine h_castI F hW ha3 kl_RX10_55 dX10_enough_7 ?_
  refine lv_astore_n (lv' := [(3, .ref lf), (0, .ref h), (1, .int (iI m9)), (2, .int (iI (bz b9)))]) F.1 F.2.1 dX10_enough_10 rfl hl (by decide) rfl (fun ls hl => ?_)
  refine lv_aload_n F.1 F.2.1 dX10_enough_11 rfl (lv_at hl 1 rfl) ?_
  have hO1 := hO0.ex (show ext w w1 from fun q e h9 => by have z9_1 := hnk4 q e h9; have h9 := (hn2 q (by omega)).trans h9; exact h9)
  refine cl_RX10_100 (As := []) (rest := []) F hl (c_X10_rows l X w1 h σ hO1) hW hS h1 rfl rfl ⟨Nat.le_of_ble_eq_true rfl, Nat.le_of_ble_eq_true rfl⟩ (Nat.le_of_ble_eq_true rfl) ⟨(by show 0 + 1 + 0 ≤ 248; omega), (by show 0 + 7 + 0 ≤ 995; omega)⟩ dX10_enough_12 (fun w1 H locs hp10 hW hS => ?_)
  rw [hp10] at hW; clear hp10; clear w1
  refine lv_istore (lv' := [(4, .int (iI (σ 4))), (3, .ref lf), (0, .ref h), (1, .int (iI m9)), (2, .int (iI (bz b9)))]) F.1 F.2.1 dX10_enough_15 hl (by decide) rfl (fun ls hl => ?_)
  have loop17 : ∀ (n9 : Nat) (r : Int) (kc17 ks17 : Nat) (fl : Int → Int), (hrg : σ 4 ≤ r ∧ r ≤ σ 4 + m9) → (hms : σ 4 + m9 - r < (n9 : Int)) → (w6 : Wo) → (hA17_0 : w6 lf = some (aZ X 7 fl)) → (hF17 : ∀ q : Nat, q ≠ lf → w6 q = w1 q) → (hkc17 : ((kc17 : Nat) : Int) ≤ ((0 + 1 + 0 : Nat) : Int) + 19 * (r - σ 4)) → (hks17 : ((ks17 : Nat) : Int) ≤ ((0 + 7 + 0 : Nat) : Int) + 76 * (r - σ 4)) → (hfl : ∀ co, 0 ≤ co → co < 7 → fl co = σ (6 + co) - takeS σ b9 co (r - σ 4)) → (H : Heap) → (locs : List Loc) → (ls : Array Slot) → Wd X w6 s H → va_S (cxA X) s.heap H locs → lv_has ls 8 [(4, .int (iI r)), (3, .ref lf), (0, .ref h), (1, .int (iI m9)), (2, .int (iI (bz b9)))] → W p l e (rmG 7 248 995 157) s m (List.toArray [.ref h, .int (iI m9), .int (iI (bz b9))]) below meth c H locs kc17 ks17 (MX X below (List.toArray [.ref h, .int (iI m9), .int (iI (bz b9))]) s 248 995 (some (.int (iI (bz (enoS σ b9 m9))))) (fun w' => w' = w)) (F0 m 17 ls []) := by
    intro n9
    induction n9 with
    | zero => intro r kc17 ks17  fl  hrg hms; exfalso; omega
    | succ n9 ih17 =>
      intro r kc17 ks17  fl  hrg hms w6 hA17_0 hF17 hkc17 hks17 hfl H locs ls hW hS hl
      have h1 := (hF17 _ (by omega)).trans h1
      have h4 := (hF17 _ (by omega)).trans h4
      have h3 := (hF17 _ (by omega)).trans h3
      have h4e := (hF17 _ (by omega)).trans h4e
      have h2 := (hF17 _ (by omega)).trans h2
      have hE17 := (show ext w w6 from fun q e h9 => by have z9_1 := hnk4 q e h9; have h9 := (hn2 q (by omega)).trans h9; have h9 := (hF17 q (by omega)).trans h9; exact h9)
      refine lv_iload F.1 F.2.1 dX10_enough_17 (lv_at hl 0 rfl) ?_
      refine lv_aload_n F.1 F.2.1 dX10_enough_19 rfl (lv_at hl 2 rfl) ?_
      refine cl_RX10_100 (As := []) (rest := [.int (iI r)]) F hl (c_X10_rows l X w6 h σ (hO0.ex hE17)) hW hS h1 rfl rfl ⟨Nat.le_of_ble_eq_true rfl, Nat.le_of_ble_eq_true rfl⟩ (Nat.le_of_ble_eq_true rfl) ⟨(by show kc17 + 0 ≤ 248; omega), (by show ks17 + 0 ≤ 995; omega)⟩ dX10_enough_20 (fun w1 H locs hp11 hW hS => ?_)
      rw [hp11] at hW; clear hp11; clear w1
      refine lv_iload_n F.1 F.2.1 dX10_enough_23 rfl (lv_at hl 3 rfl) ?_
      refine h_iadd (a := σ 4) (b := m9) F dX10_enough_24 ?_
      refine h_icge (tgt := 78) F dX10_enough_25 (by decide) (by omega) (fun c12 => ?_) (fun c12 => ?_)
      · refine lv_aload_n F.1 F.2.1 dX10_enough_78 rfl (lv_at hl 1 rfl) ?_
        refine lv_astore (lv' := [(4, .ref lf), (3, .ref lf), (0, .ref h), (1, .int (iI m9)), (2, .int (iI (bz b9)))]) F.1 F.2.1 dX10_enough_79 hl (by decide) rfl (fun ls hl => ?_)
        refine lv_aload F.1 F.2.1 dX10_enough_81 (lv_at hl 0 rfl) ?_
        refine h_alen (k := 0) (n := 7) F hW rfl hA17_0 dX10_enough_83 ?_
        refine lv_istore (lv' := [(5, .int (iI ((7 : Nat) : Int))), (4, .ref lf), (3, .ref lf), (0, .ref h), (1, .int (iI m9)), (2, .int (iI (bz b9)))]) F.1 F.2.1 dX10_enough_84 hl (by decide) rfl (fun ls hl => ?_)
        refine h_iconst F dX10_enough_86 ?_
        refine lv_istore (lv' := [(6, .int (iI 0)), (5, .int (iI ((7 : Nat) : Int))), (4, .ref lf), (3, .ref lf), (0, .ref h), (1, .int (iI m9)), (2, .int (iI (bz b9)))]) F.1 F.2.1 dX10_enough_87 hl (by decide) rfl (fun ls hl => ?_)
        have loop89 : ∀ (n9 : Nat) (j : Int), (hrg : 0 ≤ j ∧ j ≤ 7) → (hms : 7 - j < (n9 : Int)) → (hal : al (fun co => decide (takeS σ b9 co m9 ≤ σ (6 + co))) 0 j = true) → (H : Heap) → (locs : List Loc) → (ls : Array Slot) → Wd X w6 s H → va_S (cxA X) s.heap H locs → lv_has ls 8 [(6, .int (iI j)), (5, .int (iI ((7 : Nat) : Int))), (4, .ref lf), (3, .ref lf), (0, .ref h), (1, .int (iI m9)), (2, .int (iI (bz b9)))] → W p l e (rmG 7 248 995 157) s m (List.toArray [.ref h, .int (iI m9), .int (iI (bz b9))]) below meth c H locs (kc17 + 0) (ks17 + 0) (MX X below (List.toArray [.ref h, .int (iI m9), .int (iI (bz b9))]) s 248 995 (some (.int (iI (bz (enoS σ b9 m9))))) (fun w' => w' = w)) (F0 m 89 ls []) := by
          intro n9
          induction n9 with
          | zero => intro j  hrg hms; exfalso; omega
          | succ n9 ih89 =>
            intro j  hrg hms  hal H locs ls hW hS hl
            refine lv_iload F.1 F.2.1 dX10_enough_89 (lv_at hl 0 rfl) ?_
            refine lv_iload F.1 F.2.1 dX10_enough_91 (lv_at hl 1 rfl) ?_
            refine h_icge (tgt := 116) F dX10_enough_93 (by decide) (by omega) (fun c13 => ?_) (fun c13 => ?_)
            · refine h_iconst F dX10_enough_116 ?_
              refine W.wd (mc := 248) (ms := 995) (by omega) (by omega) ?_
              have hW := Wd.dn hW (w := w) (fun q e h9 => by
                have z9_14 := hnk4 q e h9
                have h9 := (hn2 q (by omega)).trans h9
                have h9 := (hF17 q (by omega)).trans h9
                exact h9)
              refine h_top (show (1 : Int) = bz (enoS σ b9 m9) from bzt (by unfold enoS; rw [show (7 : Int) = j by omega]; exact hal)) ?_
              exact h_iretz F hr hlk hW hS rfl dX10_enough_117
            · refine lv_aload F.1 F.2.1 dX10_enough_96 (lv_at hl 2 rfl) ?_
              refine lv_iload F.1 F.2.1 dX10_enough_98 (lv_at hl 0 rfl) ?_
              refine h_iald F hW hA17_0 (by omega) (by omega) dX10_enough_100 ?_
              refine lv_istore (lv' := [(7, .int (iI (fl j))), (6, .int (iI j)), (5, .int (iI ((7 : Nat) : Int))), (4, .ref lf), (3, .ref lf), (0, .ref h), (1, .int (iI m9)), (2, .int (iI (bz b9)))]) F.1 F.2.1 dX10_enough_101 hl (by decide) rfl (fun ls hl => ?_)
              refine lv_iload F.1 F.2.1 dX10_enough_103 (lv_at hl 0 rfl) ?_
              refine h_ifge (tgt := 110) F dX10_enough_105 (by decide) (by have := hWF.2.1 j (by omega) (by omega); have := tkw_r hWF b9 j m9 hm hw0 hw1; rw [hfl j (by omega) (by omega), show r - σ 4 = m9 by omega]; omega) (fun c15 => ?_) (fun c15 => ?_)
              · have hz9 := c15
                rw [hfl j (by omega) (by omega), show r - σ 4 = m9 by omega] at hz9
                refine h_iinc (k := 1) (a := j) (lv' := [(6, .int (iI (j + 1))), (7, .int (iI (fl j))), (5, .int (iI ((7 : Nat) : Int))), (4, .ref lf), (3, .ref lf), (0, .ref h), (1, .int (iI m9)), (2, .int (iI (bz b9)))]) F dX10_enough_110 hl rfl (by decide) rfl (fun ls hl => ?_)
                refine h_goto (tgt := 89) F dX10_enough_113 (by decide) ?_
                have eq16 : ((j + 1) : Int) = j + 1 := by first | rfl | omega | simp
                exact ih89 (j + 1)  (by omega) (by omega)  (by rw [al_s _ (by omega), hal, decide_eq_true (by omega)]; rfl) _ _ ls hW hS (by rw [eq16]; exact lv_sub hl [0, 2, 3, 4, 5, 6, 7] rfl)
              · have hz9 := c15
                rw [hfl j (by omega) (by omega), show r - σ 4 = m9 by omega] at hz9
                refine h_iconst F dX10_enough_108 ?_
                refine W.wd (mc := 248) (ms := 995) (by omega) (by omega) ?_
                have hW := Wd.dn hW (w := w) (fun q e h9 => by
                  have z9_17 := hnk4 q e h9
                  have h9 := (hn2 q (by omega)).trans h9
                  have h9 := (hF17 q (by omega)).trans h9
                  exact h9)
                refine h_top (show (0 : Int) = bz (enoS σ b9 m9) from bzf (by unfold enoS; rw [← Bool.not_eq_true]; intro hz8; have := of_decide_eq_true (al_iff.mp hz8 j (by omega) (by omega)); omega)) ?_
                exact h_iretz F hr hlk hW hS rfl dX10_enough_109
        exact loop89 ((7 - 0) + 1 : Int).toNat 0   (by omega) (by omega)  (al_0 _ _) _ _ ls hW hS (lv_sub hl [0, 1, 2, 3, 4, 5, 6] rfl)
      · refine h_iconst F dX10_enough_28 ?_
        refine lv_istore (lv' := [(5, .int (iI 0)), (4, .int (iI r)), (3, .ref lf), (0, .ref h), (1, .int (iI m9)), (2, .int (iI (bz b9)))]) F.1 F.2.1 dX10_enough_29 hl (by decide) rfl (fun ls hl => ?_)
        have loop31 : ∀ (n9 : Nat) (k : Int) (kc31 ks31 : Nat) (fi9 : Int → Int), (hrg : 0 ≤ k ∧ k ≤ σ 0) → (hms : σ 0 - k < (n9 : Int)) → (w7 : Wo) → (hA31_0 : w7 lf = some (aZ X 7 fi9)) → (hF31 : ∀ q : Nat, q ≠ lf → w7 q = w6 q) → (hkc31 : ((kc31 : Nat) : Int) ≤ ((kc17 + 0 : Nat) : Int) + 1 * k) → (hks31 : ((ks31 : Nat) : Int) ≤ ((ks17 + 0 : Nat) : Int) + 4 * k) → (hfi : ∀ co, 0 ≤ co → co < 7 → fi9 co = σ (6 + co) - takeS σ b9 co (r - σ 4) - cnt (fun z => decide (cellS σ z r = -1) && decide (desS σ (if b9 then turnS σ z else z) r = co)) 0 k) → (H : Heap) → (locs : List Loc) → (ls : Array Slot) → Wd X w7 s H → va_S (cxA X) s.heap H locs → lv_has ls 8 [(5, .int (iI k)), (4, .int (iI r)), (3, .ref lf), (0, .ref h), (1, .int (iI m9)), (2, .int (iI (bz b9)))] → W p l e (rmG 7 248 995 157) s m (List.toArray [.ref h, .int (iI m9), .int (iI (bz b9))]) below meth c H locs kc31 ks31 (MX X below (List.toArray [.ref h, .int (iI m9), .int (iI (bz b9))]) s 248 995 (some (.int (iI (bz (enoS σ b9 m9))))) (fun w' => w' = w)) (F0 m 31 ls []) := by
          intro n9
          induction n9 with
          | zero => intro k kc31 ks31  fi9  hrg hms; exfalso; omega
          | succ n9 ih31 =>
            intro k kc31 ks31  fi9  hrg hms w7 hA31_0 hF31 hkc31 hks31 hfi H locs ls hW hS hl
            have h1 := (hF31 _ (by omega)).trans h1
            have h4 := (hF31 _ (by omega)).trans h4
            have h3 := (hF31 _ (by omega)).trans h3
            have h4e := (hF31 _ (by omega)).trans h4e
            have h2 := (hF31 _ (by omega)).trans h2
            have hE31 := (show ext w w7 from fun q e h9 => by have z9_1 := hnk4 q e h9; have h9 := (hn2 q (by omega)).trans h9; have h9 := (hF17 q (by omega)).trans h9; have h9 := (hF31 q (by omega)).trans h9; exact h9)
            refine lv_iload F.1 F.2.1 dX10_enough_31 (lv_at hl 0 rfl) ?_
            refine lv_aload_n F.1 F.2.1 dX10_enough_33 rfl (lv_at hl 3 rfl) ?_
            refine gf_RX10_27 F hW h1 rfl dX10_enough_34 ?_
            refine h_icge (tgt := 72) F dX10_enough_37 (by decide) (by omega) (fun c18 => ?_) (fun c18 => ?_)
            · refine h_iinc (k := 1) (a := r) (lv' := [(4, .int (iI (r + 1))), (5, .int (iI k)), (3, .ref lf), (0, .ref h), (1, .int (iI m9)), (2, .int (iI (bz b9)))]) F dX10_enough_72 hl rfl (by decide) rfl (fun ls hl => ?_)
              refine h_goto (tgt := 17) F dX10_enough_75 (by decide) ?_
              have eq19 : ((r + 1) : Int) = r + 1 := by first | rfl | omega | simp
              exact ih17 (r + 1) (kc31) (ks31)  fi9 (by omega) (by omega) w7 hA31_0 (fun q h09 => by rw [hF31 q (by omega), hF17 q (by omega)]) (by omega) (by omega) (fun co h1 h2 => by rw [hfi co h1 h2, show k = σ 0 by omega, show r + 1 - σ 4 = (r - σ 4) + 1 by omega, tkw_s (by omega), show σ 4 + (r - σ 4) = r by omega]; unfold takeR; omega) _ _ ls hW hS (by rw [eq19]; exact lv_sub hl [0, 2, 3, 4, 5] rfl)
            · refine lv_aload_n F.1 F.2.1 dX10_enough_40 rfl (lv_at hl 3 rfl) ?_
              refine lv_iload F.1 F.2.1 dX10_enough_41 (lv_at hl 0 rfl) ?_
              refine lv_iload F.1 F.2.1 dX10_enough_43 (lv_at hl 1 rfl) ?_
              refine cl_RX10_103 (As := [.int (iI k), .int (iI r)]) (rest := []) F hl (c_X10_at l X w7 h σ k r (hO0.ex hE31) (by omega) (by omega)) hW hS h1 rfl rfl ⟨Nat.le_of_ble_eq_true rfl, Nat.le_of_ble_eq_true rfl⟩ (Nat.le_of_ble_eq_true rfl) ⟨(by show kc31 + 0 ≤ 248; omega), (by show ks31 + 0 ≤ 995; omega)⟩ dX10_enough_45 (fun w1 H locs hp20 hW hS => ?_)
              rw [hp20] at hW; clear hp20; clear w1
              refine h_ifge (tgt := 66) F dX10_enough_48 (by decide) (by have := hWF.2.2.2.1 k r (by omega) (by omega) (by omega) (by omega); omega) (fun c21 => ?_) (fun c21 => ?_)
              · have hge9 := c21
                have hst9 : ∀ co, 0 ≤ co → co < 7 → fi9 co = σ (6 + co) - takeS σ b9 co (r - σ 4) - cnt (fun z => decide (cellS σ z r = -1) && decide (desS σ (if b9 then turnS σ z else z) r = co)) 0 (k + 1) := fun co h1 h2 => by rw [cnt_f (by omega) (by rw [decide_eq_false (by omega)]; rfl)]; exact hfi co h1 h2
                skip
                refine h_iinc (k := 0) (a := k) (lv' := [(5, .int (iI (k + 1))), (4, .int (iI r)), (3, .ref lf), (0, .ref h), (1, .int (iI m9)), (2, .int (iI (bz b9)))]) F dX10_enough_66 hl rfl (by decide) rfl (fun ls hl => ?_)
                refine h_goto (tgt := 31) F dX10_enough_69 (by decide) ?_
                have eq22 : ((k + 1) : Int) = k + 1 := by first | rfl | omega | simp
                exact ih31 (k + 1) (kc31 + 0) (ks31 + 0)  fi9 (by omega) (by omega) w7 hA31_0 (fun q h09 => by rw [hF31 q (by omega)]) (by omega) (by omega) (fun co h1 h2 => hst9 co h1 h2) _ _ ls hW hS (by rw [eq22]; exact lv_sub hl [0, 1, 2, 3, 4, 5] rfl)
              · have hcm : cellS σ k r = -1 := by have := hWF.2.2.2.1 k r (by omega) (by omega) (by omega) (by omega); omega
                have hdu : dueS σ b9 k r = desS σ (if b9 then turnS σ k else k) r := by unfold dueS; rw [if_neg (by omega)]
                have hdr := desS_r hWF (if b9 then turnS σ k else k) r
                refine lv_aload_n F.1 F.2.1 dX10_enough_51 rfl (lv_at hl 2 rfl) ?_
                refine lv_aload_n F.1 F.2.1 dX10_enough_52 rfl (lv_at hl 3 rfl) ?_
                refine lv_iload F.1 F.2.1 dX10_enough_53 (lv_at hl 0 rfl) ?_
                refine lv_iload F.1 F.2.1 dX10_enough_55 (lv_at hl 1 rfl) ?_
                refine lv_iload_n F.1 F.2.1 dX10_enough_57 rfl (lv_at hl 5 rfl) ?_
                refine cl_RX10_126 (As := [.int (iI k), .int (iI r), .int (iI (bz b9))]) (rest := [.ref lf]) F hl (c_X10_due l X w7 h σ k r b9 (hO0.ex hE31) (by omega) (by omega)) hW hS h1 rfl rfl ⟨Nat.le_of_ble_eq_true rfl, Nat.le_of_ble_eq_true rfl⟩ (Nat.le_of_ble_eq_true rfl) ⟨(by show kc31 + 0 + 1 ≤ 248; omega), (by show ks31 + 0 + 4 ≤ 995; omega)⟩ dX10_enough_58 (fun w1 H locs hp23 hW hS => ?_)
                rw [hp23] at hW; clear hp23; clear w1
                refine h_top (show (dueS σ b9 k r : Int) = desS σ (if b9 then turnS σ k else k) r from hdu) ?_
                refine lv_dup2_11 F.1 F.2.1 dX10_enough_61 rfl rfl ?_
                refine h_iald F hW hA31_0 (by omega) (by omega) dX10_enough_62 ?_
                refine h_iconst F dX10_enough_63 ?_
                refine h_isub (a := fi9 (desS σ (if b9 then turnS σ k else k) r)) (b := 1) F dX10_enough_64 ?_
                refine h_iast F hW hS hA31_0 (by omega) (by omega) dX10_enough_65 (fun w24 H locs ho26 hn25 hW hS => ?_)
                have h1 := (hn25 _ (by omega)).trans h1
                have h4 := (hn25 _ (by omega)).trans h4
                have h3 := (hn25 _ (by omega)).trans h3
                have h4e := (hn25 _ (by omega)).trans h4e
                have h2 := (hn25 _ (by omega)).trans h2
                have hst9 : ∀ co, 0 ≤ co → co < 7 → (up fi9 (desS σ (if b9 then turnS σ k else k) r) ((fi9 (desS σ (if b9 then turnS σ k else k) r)) - 1)) co = σ (6 + co) - takeS σ b9 co (r - σ 4) - cnt (fun z => decide (cellS σ z r = -1) && decide (desS σ (if b9 then turnS σ z else z) r = co)) 0 (k + 1) := fun co h1 h2 => if hj : co = desS σ (if b9 then turnS σ k else k) r then (by rw [hj, up_s, cnt_t (by omega) (by rw [decide_eq_true hcm, decide_eq_true rfl]; rfl), hfi _ (by omega) (by omega)]; omega) else (by rw [up_n hj, cnt_f (by omega) (by rw [decide_eq_false (p := desS σ (if b9 then turnS σ k else k) r = co) (fun e9 => hj e9.symm)]; exact Bool.and_false _)]; exact hfi co h1 h2)
                refine h_iinc (k := 0) (a := k) (lv' := [(5, .int (iI (k + 1))), (4, .int (iI r)), (3, .ref lf), (0, .ref h), (1, .int (iI m9)), (2, .int (iI (bz b9)))]) F dX10_enough_66 hl rfl (by decide) rfl (fun ls hl => ?_)
                refine h_goto (tgt := 31) F dX10_enough_69 (by decide) ?_
                have eq27 : ((k + 1) : Int) = k + 1 := by first | rfl | omega | simp
                exact ih31 (k + 1) (kc31 + 0 + 1) (ks31 + 0 + 4)  (up fi9 (desS σ (if b9 then turnS σ k else k) r) ((fi9 (desS σ (if b9 then turnS σ k else k) r)) - 1)) (by omega) (by omega) w24 ho26 (fun q h09 => by rw [hn25 q (by omega), hF31 q (by omega)]) (by omega) (by omega) (fun co h1 h2 => hst9 co h1 h2) _ _ ls hW hS (by rw [eq27]; exact lv_sub hl [0, 1, 2, 3, 4, 5] rfl)
        exact loop31 ((σ 0 - 0) + 1 : Int).toNat 0 (kc17 + 0) (ks17 + 0)  fl (by omega) (by omega) w6 hA17_0 (fun q _ => rfl) (by omega) (by omega) (fun co h1 h2 => by rw [hfl co h1 h2, cnt_0]; omega) _ _ ls hW hS (lv_sub hl [0, 1, 2, 3, 4, 5] rfl)
  have eq28 : ((σ 4) : Int) = σ 4 := by first | rfl | omega | simp
  exact loop17 ((σ 4 + m9 - (σ 4)) + 1 : Int).toNat (σ 4) (0 + 1 + 0) (0 + 7 + 0)  fs (by omega) (by omega) w1 ha3 (fun q _ => rfl) (by omega) (by omega) (fun co h1 h2 => by rw [h2f co h1 h2, Int.sub_self]; unfold takeS; rw [Int.add_zero, sm_0]; omega) _ _ ls hW hS (by rw [eq28]; exact lv_sub hl [0, 1, 2, 3, 4] rfl)
