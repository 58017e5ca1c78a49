/-- a row that is full: its joins as it is are those as it would be -/
theorem jo_full {σ : Int → Int} {r : Int} (h : ∀ c, 0 ≤ c → c < σ 0 → 0 ≤ cellS σ c r) : cnt (fun z => decide (cellS σ z r ≠ cellS σ (z + 1) r)) 0 (σ 0 - 1) = joS σ r := by
  unfold joS
  refine cnt_c (fun z z0 z1 => ?_)
  have h1 := h z z0 (by omega)
  have h2 := h (z + 1) (by omega) (by omega)
  unfold wvS
  rw [if_neg (by omega), if_neg (by omega)]
set_option maxHeartbeats 4000000 in
set_option maxRecDepth 100000 in
theorem c_X9_copies (l : Launch) (X : Cx) (w : Wo) (u t n1 n2 : Nat) (f g : Int → Int) (a b : Int) (hu : w u = some (aZ X n1 f)) (ht : w t = some (aZ X n2 g)) (hne : u ≠ t) (ha : 0 ≤ a ∧ a + 1317 ≤ (n1 : Int) ∧ (n1 : Int) < 2147483648) (hb : 0 ≤ b ∧ b + 1317 ≤ (n2 : Int) ∧ (n2 : Int) < 2147483648) : CM l X yX9_copies cX9_copies 5 none (rmk 0 0) [.ref u, .int (iI a), .ref t, .int (iI b)] w none (fun w' => w' t = some (aZ X n2 (cpN f g a b 1317)) ∧ ∀ q : Nat, q ≠ t → w' q = w q) := by
  refine CM.of (lv := [(0, .ref u), (1, .int (iI a)), (2, .ref t), (3, .int (iI b))]) (by decide) (Nat.le_of_ble_eq_true rfl) rfl (fun p e s m below meth c ls F hr hlk hin hW hS hl => ?_)
  have hZ0 := hW.2.2
  have hB9 := hW.1.2
  clear hin
  refine h_iconst F dX9_copies_0 ?_
  refine lv_istore (lv' := [(4, .int (iI 0)), (0, .ref u), (1, .int (iI a)), (2, .ref t), (3, .int (iI b))]) F.1 F.2.1 dX9_copies_1 hl (by decide) rfl (fun ls hl => ?_)
  have loop3 : ∀ (n9 : Nat) (i : Int), (hrg : 0 ≤ i ∧ i ≤ 1317) → (hms : 1317 - i < (n9 : Int)) → (wz9 : Wo) → (hA3_0 : wz9 t = some (aZ X n2 (cpN f g a b i))) → (hF3 : ∀ q : Nat, q ≠ t → wz9 q = w q) → (H : Heap) → (locs : List Loc) → (ls : Array Slot) → Wd X wz9 s H → va_S (cxA X) s.heap H locs → lv_has ls 5 [(4, .int (iI i)), (0, .ref u), (1, .int (iI a)), (2, .ref t), (3, .int (iI b))] → W p l e (rmk 0 0) s m (List.toArray [.ref u, .int (iI a), .ref t, .int (iI b)]) below meth c H locs 0 0 (MX X below (List.toArray [.ref u, .int (iI a), .ref t, .int (iI b)]) s 0 0 none (fun w' => w' t = some (aZ X n2 (cpN f g a b 1317)) ∧ ∀ q : Nat, q ≠ t → w' q = w q)) (F0 m 3 ls []) := by
    intro n9
    induction n9 with
    | zero => intro i  hrg hms; exfalso; omega
    | succ n9 ih3 =>
      intro i  hrg hms wz9 hA3_0 hF3  H locs ls hW hS hl
      have hu := (hF3 _ (by omega)).trans hu
      refine lv_iload F.1 F.2.1 dX9_copies_3 (lv_at hl 0 rfl) ?_
      refine h_sipush F dX9_copies_5 rfl ?_
      refine h_icge (tgt := 29) F dX9_copies_8 (by decide) (by omega) (fun c1 => ?_) (fun c1 => ?_)
      · exact h_vret F hr hlk hW hS ⟨(by (rw [hA3_0]) <;> (rw [show i = 1317 by omega])), (fun q h09 => by rw [hF3 q (by omega)])⟩ dX9_copies_29
      · refine lv_aload_n F.1 F.2.1 dX9_copies_11 rfl (lv_at hl 3 rfl) ?_
        refine lv_iload_n F.1 F.2.1 dX9_copies_12 rfl (lv_at hl 4 rfl) ?_
        refine lv_iload F.1 F.2.1 dX9_copies_13 (lv_at hl 0 rfl) ?_
        refine h_iadd (a := b) (b := i) F dX9_copies_15 ?_
        refine lv_aload_n F.1 F.2.1 dX9_copies_16 rfl (lv_at hl 1 rfl) ?_
        refine lv_iload_n F.1 F.2.1 dX9_copies_17 rfl (lv_at hl 2 rfl) ?_
        refine lv_iload F.1 F.2.1 dX9_copies_18 (lv_at hl 0 rfl) ?_
        refine h_iadd (a := a) (b := i) F dX9_copies_20 ?_
        refine h_iald F hW hu (by omega) (by omega) dX9_copies_21 ?_
        refine h_iast F hW hS hA3_0 (by omega) (by omega) dX9_copies_22 (fun w2 H locs ho4 hn3 hW hS => ?_)
        have hu := (hn3 _ (by omega)).trans hu
        refine h_iinc (k := 0) (a := i) (lv' := [(4, .int (iI (i + 1))), (0, .ref u), (1, .int (iI a)), (2, .ref t), (3, .int (iI b))]) F dX9_copies_23 hl rfl (by decide) rfl (fun ls hl => ?_)
        refine h_goto (tgt := 3) F dX9_copies_26 (by decide) ?_
        have eq5 : ((i + 1) : Int) = i + 1 := by first | rfl | omega | simp
        exact ih3 (i + 1)  (by omega) (by omega) w2 (by rw [show (cpN f g a b (i + 1) : Int → Int) = up (cpN f g a b i) (b + i) (f (a + i)) from cpN_s _ _ _ _ (by omega)]; exact ho4) (fun q h09 => by rw [hn3 q (by omega), hF3 q (by omega)])  _ _ ls hW hS (by rw [eq5]; exact lv_sub hl [0, 1, 2, 3, 4] rfl)
  exact loop3 ((1317 - 0) + 1 : Int).toNat 0  (by omega) (by omega) w (by rw [show (cpN f g a b 0 : Int → Int) = g from cpN_0 _ _ _ _]; exact ht) (fun q _ => rfl)  _ _ ls hW hS (lv_sub hl [0, 1, 2, 3, 4] rfl)
set_option maxHeartbeats 4000000 in
set_option maxRecDepth 100000 in
theorem c_X9_begins (l : Launch) (X : Cx) (w : Wo) (u : Nat) (f : Int → Int) (wd ht : Int) (hu : w u = some (aZ X 1317 f)) : CM l X yX9_begins cX9_begins 4 none (rmk 0 0) [.ref u, .int (iI wd), .int (iI ht)] w none (fun w' => w' u = some (aZ X 1317 (bgS f wd ht)) ∧ ∀ q : Nat, q ≠ u → w' q = w q) := by
  refine CM.of (lv := [(0, .ref u), (1, .int (iI wd)), (2, .int (iI ht))]) (by decide) (Nat.le_of_ble_eq_true rfl) rfl (fun p e s m below meth c ls F hr hlk hin hW hS hl => ?_)
  have hZ0 := hW.2.2
  have hB9 := hW.1.2
  clear hin
  refine h_iconst F dX9_begins_0 ?_
  refine lv_istore_n (lv' := [(3, .int (iI 0)), (0, .ref u), (1, .int (iI wd)), (2, .int (iI ht))]) F.1 F.2.1 dX9_begins_1 rfl hl (by decide) rfl (fun ls hl => ?_)
  have loop2 : ∀ (n9 : Nat) (i : Int), (hrg : 0 ≤ i ∧ i ≤ 1317) → (hms : 1317 - i < (n9 : Int)) → (wz9 : Wo) → (hA2_0 : wz9 u = some (aZ X 1317 (bgN f i))) → (hF2 : ∀ q : Nat, q ≠ u → wz9 q = w q) → (H : Heap) → (locs : List Loc) → (ls : Array Slot) → Wd X wz9 s H → va_S (cxA X) s.heap H locs → lv_has ls 4 [(3, .int (iI i)), (0, .ref u), (1, .int (iI wd)), (2, .int (iI ht))] → W p l e (rmk 0 0) s m (List.toArray [.ref u, .int (iI wd), .int (iI ht)]) below meth c H locs 0 0 (MX X below (List.toArray [.ref u, .int (iI wd), .int (iI ht)]) s 0 0 none (fun w' => w' u = some (aZ X 1317 (bgS f wd ht)) ∧ ∀ q : Nat, q ≠ u → w' q = w q)) (F0 m 2 ls []) := by
    intro n9
    induction n9 with
    | zero => intro i  hrg hms; exfalso; omega
    | succ n9 ih2 =>
      intro i  hrg hms wz9 hA2_0 hF2  H locs ls hW hS hl
      refine lv_iload_n F.1 F.2.1 dX9_begins_2 rfl (lv_at hl 0 rfl) ?_
      refine h_sipush F dX9_begins_3 rfl ?_
      refine h_icge (tgt := 29) F dX9_begins_6 (by decide) (by omega) (fun c1 => ?_) (fun c1 => ?_)
      · refine lv_aload_n F.1 F.2.1 dX9_begins_29 rfl (lv_at hl 1 rfl) ?_
        refine h_iconst F dX9_begins_30 ?_
        refine lv_iload_n F.1 F.2.1 dX9_begins_31 rfl (lv_at hl 2 rfl) ?_
        refine h_iast F hW hS hA2_0 (by omega) (by omega) dX9_begins_32 (fun w2 H locs ho4 hn3 hW hS => ?_)
        refine lv_aload_n F.1 F.2.1 dX9_begins_33 rfl (lv_at hl 1 rfl) ?_
        refine h_iconst F dX9_begins_34 ?_
        refine lv_iload_n F.1 F.2.1 dX9_begins_35 rfl (lv_at hl 3 rfl) ?_
        refine h_iast F hW hS ho4 (by omega) (by omega) dX9_begins_36 (fun w5 H locs ho7 hn6 hW hS => ?_)
        refine lv_aload_n F.1 F.2.1 dX9_begins_37 rfl (lv_at hl 1 rfl) ?_
        refine h_iconst F dX9_begins_38 ?_
        refine h_iconst F dX9_begins_39 ?_
        refine h_iast F hW hS ho7 (by omega) (by omega) dX9_begins_40 (fun w8 H locs ho10 hn9 hW hS => ?_)
        refine h_iconst F dX9_begins_41 ?_
        refine lv_istore_n (lv' := [(3, .int (iI 0)), (0, .ref u), (1, .int (iI wd)), (2, .int (iI ht))]) F.1 F.2.1 dX9_begins_42 rfl hl (by decide) rfl (fun ls hl => ?_)
        have loop43 : ∀ (n9 : Nat) (j : Int), (hrg : 0 ≤ j ∧ j ≤ 7) → (hms : 7 - j < (n9 : Int)) → (wz8 : Wo) → (hA43_0 : wz8 u = some (aZ X 1317 (bgC (up (up (up (bgN f 1317) 0 wd) 1 ht) 2 4) j))) → (hF43 : ∀ q : Nat, q ≠ u → wz8 q = w8 q) → (H : Heap) → (locs : List Loc) → (ls : Array Slot) → Wd X wz8 s H → va_S (cxA X) s.heap H locs → lv_has ls 4 [(3, .int (iI j)), (0, .ref u), (1, .int (iI wd)), (2, .int (iI ht))] → W p l e (rmk 0 0) s m (List.toArray [.ref u, .int (iI wd), .int (iI ht)]) below meth c H locs 0 0 (MX X below (List.toArray [.ref u, .int (iI wd), .int (iI ht)]) s 0 0 none (fun w' => w' u = some (aZ X 1317 (bgS f wd ht)) ∧ ∀ q : Nat, q ≠ u → w' q = w q)) (F0 m 43 ls []) := by
          intro n9
          induction n9 with
          | zero => intro j  hrg hms; exfalso; omega
          | succ n9 ih43 =>
            intro j  hrg hms wz8 hA43_0 hF43  H locs ls hW hS hl
            refine lv_iload_n F.1 F.2.1 dX9_begins_43 rfl (lv_at hl 0 rfl) ?_
            refine h_bipush F dX9_begins_44 rfl ?_
            refine h_icge (tgt := 64) F dX9_begins_46 (by decide) (by omega) (fun c11 => ?_) (fun c11 => ?_)
            · exact h_vret F hr hlk hW hS ⟨(by (rw [hA43_0]) <;> (rw [show j = 7 by omega]; rfl)), (fun q h09 => by rw [hF43 q (by omega), hn9 q (by omega), hn6 q (by omega), hn3 q (by omega), hF2 q (by omega)])⟩ dX9_begins_64
            · refine lv_aload_n F.1 F.2.1 dX9_begins_49 rfl (lv_at hl 1 rfl) ?_
              refine h_bipush F dX9_begins_50 rfl ?_
              refine lv_iload_n F.1 F.2.1 dX9_begins_52 rfl (lv_at hl 0 rfl) ?_
              refine h_iadd (a := 6) (b := j) F dX9_begins_53 ?_
              refine h_sipush F dX9_begins_54 rfl ?_
              refine h_iast F hW hS hA43_0 (by omega) (by omega) dX9_begins_57 (fun w12 H locs ho14 hn13 hW hS => ?_)
              refine h_iinc (k := 0) (a := j) (lv' := [(3, .int (iI (j + 1))), (0, .ref u), (1, .int (iI wd)), (2, .int (iI ht))]) F dX9_begins_58 hl rfl (by decide) rfl (fun ls hl => ?_)
              refine h_goto (tgt := 43) F dX9_begins_61 (by decide) ?_
              have eq15 : ((j + 1) : Int) = j + 1 := by first | rfl | omega | simp
              exact ih43 (j + 1)  (by omega) (by omega) w12 (by rw [show (bgC (up (up (up (bgN f 1317) 0 wd) 1 ht) 2 4) (j + 1) : Int → Int) = up (bgC (up (up (up (bgN f 1317) 0 wd) 1 ht) 2 4) j) (6 + j) 500 from (bgC_s _ (by omega)).symm]; exact ho14) (fun q h09 => by rw [hn13 q (by omega), hF43 q (by omega)])  _ _ ls hW hS (by rw [eq15]; exact lv_sub hl [0, 1, 2, 3] rfl)
        exact loop43 ((7 - 0) + 1 : Int).toNat 0  (by omega) (by omega) w8 (by rw [show (bgC (up (up (up (bgN f 1317) 0 wd) 1 ht) 2 4) 0 : Int → Int) = up (up (up (bgN f i) 0 wd) 1 ht) 2 4 from by rw [bgC_0, show i = 1317 by omega]]; exact ho10) (fun q _ => rfl)  _ _ ls hW hS (lv_sub hl [0, 1, 2, 3] rfl)
      · refine lv_aload_n F.1 F.2.1 dX9_begins_9 rfl (lv_at hl 1 rfl) ?_
        refine lv_iload_n F.1 F.2.1 dX9_begins_10 rfl (lv_at hl 0 rfl) ?_
        refine lv_iload_n F.1 F.2.1 dX9_begins_11 rfl (lv_at hl 0 rfl) ?_
        have join22 : ∀ (H : Heap) (locs : List Loc) (ls : Array Slot), Wd X wz9 s H → va_S (cxA X) s.heap H locs → lv_has ls 4 [(3, .int (iI i)), (0, .ref u), (1, .int (iI wd)), (2, .int (iI ht))] → W p l e (rmk 0 0) s m (List.toArray [.ref u, .int (iI wd), .int (iI ht)]) below meth c H locs 0 0 (MX X below (List.toArray [.ref u, .int (iI wd), .int (iI ht)]) s 0 0 none (fun w' => w' u = some (aZ X 1317 (bgS f wd ht)) ∧ ∀ q : Nat, q ≠ u → w' q = w q)) (F0 m 22 ls [.int (iI (if i < 117 then 0 else -1)), .int (iI i), .ref u]) := by
          intro  H locs ls  hW hS hl
          refine h_iast F hW hS hA2_0 (by omega) (by omega) dX9_begins_22 (fun w16 H locs ho18 hn17 hW hS => ?_)
          refine h_iinc (k := 0) (a := i) (lv' := [(3, .int (iI (i + 1))), (0, .ref u), (1, .int (iI wd)), (2, .int (iI ht))]) F dX9_begins_23 hl rfl (by decide) rfl (fun ls hl => ?_)
          refine h_goto (tgt := 2) F dX9_begins_26 (by decide) ?_
          have eq19 : ((i + 1) : Int) = i + 1 := by first | rfl | omega | simp
          exact ih2 (i + 1)  (by omega) (by omega) w16 (by rw [show (bgN f (i + 1) : Int → Int) = up (bgN f i) i (if i < 117 then 0 else -1) from (bgN_s _ (by omega)).symm]; exact ho18) (fun q h09 => by rw [hn17 q (by omega), hF2 q (by omega)])  _ _ ls hW hS (by rw [eq19]; exact lv_sub hl [0, 1, 2, 3] rfl)
        refine h_bipush F dX9_begins_12 rfl ?_
        refine h_icge (tgt := 21) F dX9_begins_14 (by decide) (by omega) (fun c20 => ?_) (fun c20 => ?_)
        · refine h_iconst F dX9_begins_21 ?_
          refine h_top (show ((-1) : Int) = (if i < 117 then 0 else -1) from by first | rw [if_pos (by omega)] | rw [if_neg (by omega)]) ?_
          exact join22  _ _ ls  hW hS (lv_sub hl [0, 1, 2, 3] rfl)
        · refine h_iconst F dX9_begins_17 ?_
          refine h_goto (tgt := 22) F dX9_begins_18 (by decide) ?_
          refine h_top (show (0 : Int) = (if i < 117 then 0 else -1) from by first | rw [if_pos (by omega)] | rw [if_neg (by omega)]) ?_
          exact join22  _ _ ls  hW hS (lv_sub hl [0, 1, 2, 3] rfl)
  exact loop2 ((1317 - 0) + 1 : Int).toNat 0  (by omega) (by omega) w (by rw [show (bgN f 0 : Int → Int) = f from bgN_0 _]; exact hu) (fun q _ => rfl)  _ _ ls hW hS (lv_sub hl [0, 1, 2, 3] rfl)
set_option maxHeartbeats 4000000 in
set_option maxRecDepth 100000 in
theorem c_X9_refuses (l : Launch) (X : Cx) (w : Wo) (mo : Nat) (v σ : Int → Int) (rf : Int → Int) (r : Int) (hM : w mo = some (.inr (9, mL mo v))) (hrf : w (mo + 6) = some (aZ X 8 rf)) (hr : 0 ≤ r ∧ r < 8) : CM l X yX9_refuses cX9_refuses 2 (some (.int)) (rmk 0 0) [.ref mo, .int (iI r)] w (some (.int (iI (-r)))) (fun w' => w' (mo + 6) = some (aZ X 8 (up rf r (rf r + 1))) ∧ ∀ q : Nat, q ≠ mo + 6 → w' q = w q) := by
  refine CM.of (lv := [(0, .ref mo), (1, .int (iI r))]) (by decide) (Nat.le_of_ble_eq_true rfl) rfl (fun p e s m below meth c ls F hr hlk hin hW hS hl => ?_)
  have hZ0 := hW.2.2
  have hB9 := hW.1.2
  clear hin
  refine lv_aload_n F.1 F.2.1 dX9_refuses_0 rfl (lv_at hl 0 rfl) ?_
  refine gf_RX9_26 F hW hM rfl dX9_refuses_1 ?_
  refine lv_iload_n F.1 F.2.1 dX9_refuses_4 rfl (lv_at hl 1 rfl) ?_
  refine lv_dup2_11 F.1 F.2.1 dX9_refuses_5 rfl rfl ?_
  refine h_iald F hW hrf (by omega) (by omega) dX9_refuses_6 ?_
  refine h_iconst F dX9_refuses_7 ?_
  refine h_iadd (a := rf r) (b := 1) F dX9_refuses_8 ?_
  refine h_iast F hW hS hrf (by omega) (by omega) dX9_refuses_9 (fun w1 H locs ho3 hn2 hW hS => ?_)
  have hM := (hn2 _ (by omega)).trans hM
  refine lv_iload_n F.1 F.2.1 dX9_refuses_10 rfl (lv_at hl 1 rfl) ?_
  refine h_ineg F dX9_refuses_11 ?_
  exact h_ireti F hr hlk hW hS ⟨(by (rw [ho3]) <;> (rfl)), (fun q h09 => by rw [hn2 q (by omega)])⟩ dX9_refuses_12
set_option maxHeartbeats 4000000 in
set_option maxRecDepth 100000 in
theorem c_acts_8 (l : Launch) (X : Cx) (w : Wo) (mo : Nat) (v σ : Int → Int) (pa : Int → Int) (hM : w mo = some (.inr (9, mL mo v))) (hs : w (mo + 1) = some (aZ X 1317 σ)) (hpa : w (mo + 3) = some (aZ X 10536 pa)) (hun : v 5 = 8) : CM l X yX9_acts cX9_acts 2 none (rmk 1 24) [.ref mo] w none (fun w' => w' mo = some (.inr (9, mL mo (up (up (up v 5 7) 5 8) 8 (v 8 + 1)))) ∧ w' (mo + 3) = some (aZ X 10536 (cpN σ (shfN pa 9219) 0 (1317 * 7) 1317)) ∧ ∀ q : Nat, q ≠ mo → q ≠ mo + 3 → w' q = w q) := by
  refine CM.of (lv := [(0, .ref mo)]) (by decide) (Nat.le_of_ble_eq_true rfl) rfl (fun p e s m below meth c ls F hr hlk hin hW hS hl => ?_)
  have hZ0 := hW.2.2
  have hB9 := hW.1.2
  clear hin
  refine lv_aload_n F.1 F.2.1 dX9_acts_0 rfl (lv_at hl 0 rfl) ?_
  refine gf_RX9_61 F hW hM rfl dX9_acts_1 ?_
  refine h_bipush F dX9_acts_4 rfl ?_
  refine h_icne (tgt := 50) F dX9_acts_6 (by decide) (by omega) (fun c1 => ?_) (fun c1 => ?_)
  · exfalso; omega
  · refine h_iconst F dX9_acts_9 ?_
    refine lv_istore_n (lv' := [(1, .int (iI 0)), (0, .ref mo)]) F.1 F.2.1 dX9_acts_10 rfl hl (by decide) rfl (fun ls hl => ?_)
    have loop11 : ∀ (n9 : Nat) (i : Int), (hrg : 0 ≤ i ∧ i ≤ 9219) → (hms : 9219 - i < (n9 : Int)) → (wz9 : Wo) → (hA11_0 : wz9 (mo + 3) = some (aZ X 10536 (shfN pa i))) → (hF11 : ∀ q : Nat, q ≠ mo + 3 → wz9 q = w q) → (H : Heap) → (locs : List Loc) → (ls : Array Slot) → Wd X wz9 s H → va_S (cxA X) s.heap H locs → lv_has ls 2 [(1, .int (iI i)), (0, .ref mo)] → W p l e (rmk 1 24) s m (List.toArray [.ref mo]) below meth c H locs 0 0 (MX X below (List.toArray [.ref mo]) s 0 0 none (fun w' => w' mo = some (.inr (9, mL mo (up (up (up v 5 7) 5 8) 8 (v 8 + 1)))) ∧ w' (mo + 3) = some (aZ X 10536 (cpN σ (shfN pa 9219) 0 (1317 * 7) 1317)) ∧ ∀ q : Nat, q ≠ mo → q ≠ mo + 3 → w' q = w q)) (F0 m 11 ls []) := by
      intro n9
      induction n9 with
      | zero => intro i  hrg hms; exfalso; omega
      | succ n9 ih11 =>
        intro i  hrg hms wz9 hA11_0 hF11  H locs ls hW hS hl
        have hM := (hF11 _ (by omega)).trans hM
        have hs := (hF11 _ (by omega)).trans hs
        refine lv_iload_n F.1 F.2.1 dX9_acts_11 rfl (lv_at hl 0 rfl) ?_
        refine h_sipush F dX9_acts_12 rfl ?_
        refine h_icge (tgt := 40) F dX9_acts_15 (by decide) (by omega) (fun c2 => ?_) (fun c2 => ?_)
        · refine lv_aload_n F.1 F.2.1 dX9_acts_40 rfl (lv_at hl 1 rfl) ?_
          refine lv_dup F.1 F.2.1 dX9_acts_41 rfl ?_
          refine gf_RX9_61 F hW hM rfl dX9_acts_42 ?_
          refine h_iconst F dX9_acts_45 ?_
          refine h_isub (a := v 5) (b := 1) F dX9_acts_46 ?_
          refine h_top (show ((v 5) - 1 : Int) = 7 from by omega) ?_
          refine pf_RX9_61 F hW hS hM (Nat.le_of_ble_eq_true rfl) dX9_acts_47 (fun w3 H locs ho5 hn4 hW hS => ?_)
          rw [mL_5] at ho5
          have hs := (hn4 _ (by omega)).trans hs
          have hA11_0 := (hn4 _ (by omega)).trans hA11_0
          refine lv_aload_n F.1 F.2.1 dX9_acts_50 rfl (lv_at hl 1 rfl) ?_
          refine gf_RX9_7 F hW ho5 rfl dX9_acts_51 ?_
          refine h_iconst F dX9_acts_54 ?_
          refine lv_aload_n F.1 F.2.1 dX9_acts_55 rfl (lv_at hl 1 rfl) ?_
          refine gf_RX9_16 F hW ho5 rfl dX9_acts_56 ?_
          refine h_sipush F dX9_acts_59 rfl ?_
          refine lv_aload_n F.1 F.2.1 dX9_acts_62 rfl (lv_at hl 1 rfl) ?_
          refine gf_RX9_61 F hW ho5 rfl dX9_acts_63 ?_
          refine h_top (show ((up v 5 7) 5 : Int) = 7 from rfl) ?_
          refine h_imul (a := 1317) (b := 7) F dX9_acts_66 ?_
          refine cl_RX9_64 (As := [.ref (mo + 1), .int (iI 0), .ref (mo + 3), .int (iI (1317 * 7))]) (rest := []) F hl (c_X9_copies l X w3 (mo + 1) (mo + 3) 1317 10536 σ (shfN pa i) 0 (1317 * 7) hs hA11_0 (by omega) (by omega) (by omega)) hW hS rfl rfl ⟨Nat.le_of_ble_eq_true rfl, Nat.le_of_ble_eq_true rfl⟩ (Nat.le_of_ble_eq_true rfl) ⟨Nat.zero_le _, Nat.zero_le _⟩ dX9_acts_67 (fun w6 H locs hp7 hW hS => ?_)
          obtain ⟨ha8, hn9⟩ := hp7
          have ho5 := (hn9 _ (by omega)).trans ho5
          have hs := (hn9 _ (by omega)).trans hs
          refine lv_aload_n F.1 F.2.1 dX9_acts_70 rfl (lv_at hl 1 rfl) ?_
          refine lv_dup F.1 F.2.1 dX9_acts_71 rfl ?_
          refine gf_RX9_61 F hW ho5 rfl dX9_acts_72 ?_
          refine h_top (show ((up v 5 7) 5 : Int) = 7 from rfl) ?_
          refine h_iconst F dX9_acts_75 ?_
          refine h_iadd (a := 7) (b := 1) F dX9_acts_76 ?_
          refine h_top (show (7 + 1 : Int) = 8 from by decide) ?_
          refine pf_RX9_61 F hW hS ho5 (Nat.le_of_ble_eq_true rfl) dX9_acts_77 (fun w10 H locs ho12 hn11 hW hS => ?_)
          rw [mL_5] at ho12
          have hs := (hn11 _ (by omega)).trans hs
          have ha8 := (hn11 _ (by omega)).trans ha8
          refine lv_aload_n F.1 F.2.1 dX9_acts_80 rfl (lv_at hl 1 rfl) ?_
          refine lv_dup F.1 F.2.1 dX9_acts_81 rfl ?_
          refine gf_RX9_68 F hW ho12 rfl dX9_acts_82 ?_
          refine h_top (show ((up (up v 5 7) 5 8) 8 : Int) = v 8 from rfl) ?_
          refine h_iconst F dX9_acts_85 ?_
          refine h_iadd (a := v 8) (b := 1) F dX9_acts_86 ?_
          refine pf_RX9_68 F hW hS ho12 (Nat.le_of_ble_eq_true rfl) dX9_acts_87 (fun w13 H locs ho15 hn14 hW hS => ?_)
          rw [mL_8] at ho15
          have hs := (hn14 _ (by omega)).trans hs
          have ha8 := (hn14 _ (by omega)).trans ha8
          exact h_vret F hr hlk hW hS ⟨(by (rw [ho15]) <;> (rfl)), (by (rw [ha8]) <;> (rw [show i = 9219 by omega])), (fun q h09 h19 => by rw [hn14 q (by omega), hn11 q (by omega), hn9 q (by omega), hn4 q (by omega), hF11 q (by omega)])⟩ dX9_acts_90
        · refine lv_aload_n F.1 F.2.1 dX9_acts_18 rfl (lv_at hl 1 rfl) ?_
          refine gf_RX9_16 F hW hM rfl dX9_acts_19 ?_
          refine lv_iload_n F.1 F.2.1 dX9_acts_22 rfl (lv_at hl 0 rfl) ?_
          refine lv_aload_n F.1 F.2.1 dX9_acts_23 rfl (lv_at hl 1 rfl) ?_
          refine gf_RX9_16 F hW hM rfl dX9_acts_24 ?_
          refine lv_iload_n F.1 F.2.1 dX9_acts_27 rfl (lv_at hl 0 rfl) ?_
          refine h_sipush F dX9_acts_28 rfl ?_
          refine h_iadd (a := i) (b := 1317) F dX9_acts_31 ?_
          refine h_iald F hW hA11_0 (by omega) (by omega) dX9_acts_32 ?_
          refine h_iast F hW hS hA11_0 (by omega) (by omega) dX9_acts_33 (fun w16 H locs ho18 hn17 hW hS => ?_)
          have hM := (hn17 _ (by omega)).trans hM
          have hs := (hn17 _ (by omega)).trans hs
          refine h_iinc (k := 0) (a := i) (lv' := [(1, .int (iI (i + 1))), (0, .ref mo)]) F dX9_acts_34 hl rfl (by decide) rfl (fun ls hl => ?_)
          refine h_goto (tgt := 11) F dX9_acts_37 (by decide) ?_
          have eq19 : ((i + 1) : Int) = i + 1 := by first | rfl | omega | simp
          exact ih11 (i + 1)  (by omega) (by omega) w16 (by rw [show (shfN pa (i + 1) : Int → Int) = up (shfN pa i) i ((shfN pa i) (i + 1317)) from shfN_s _ (by omega)]; exact ho18) (fun q h09 => by rw [hn17 q (by omega), hF11 q (by omega)])  _ _ ls hW hS (by rw [eq19]; exact lv_sub hl [0, 1] rfl)
    exact loop11 ((9219 - 0) + 1 : Int).toNat 0  (by omega) (by omega) w (by rw [show (shfN pa 0 : Int → Int) = pa from shfN_0 _]; exact hpa) (fun q _ => rfl)  _ _ ls hW hS (lv_sub hl [0, 1] rfl)
set_option maxHeartbeats 4000000 in
set_option maxRecDepth 100000 in
theorem c_acts_n (l : Launch) (X : Cx) (w : Wo) (mo : Nat) (v σ : Int → Int) (pa : Int → Int) (hM : w mo = some (.inr (9, mL mo v))) (hs : w (mo + 1) = some (aZ X 1317 σ)) (hpa : w (mo + 3) = some (aZ X 10536 pa)) (hun : 0 ≤ v 5 ∧ v 5 < 8) : CM l X yX9_acts cX9_acts 2 none (rmk 1 24) [.ref mo] w none (fun w' => w' mo = some (.inr (9, mL mo (up (up v 5 (v 5 + 1)) 8 (v 8 + 1)))) ∧ w' (mo + 3) = some (aZ X 10536 (cpN σ pa 0 (1317 * v 5) 1317)) ∧ ∀ q : Nat, q ≠ mo → q ≠ mo + 3 → w' q = w q) := by
  refine CM.of (lv := [(0, .ref mo)]) (by decide) (Nat.le_of_ble_eq_true rfl) rfl (fun p e s m below meth c ls F hr hlk hin hW hS hl => ?_)
  have hZ0 := hW.2.2
  have hB9 := hW.1.2
  clear hin
  refine lv_aload_n F.1 F.2.1 dX9_acts_0 rfl (lv_at hl 0 rfl) ?_
  refine gf_RX9_61 F hW hM rfl dX9_acts_1 ?_
  refine h_bipush F dX9_acts_4 rfl ?_
  refine h_icne (tgt := 50) F dX9_acts_6 (by decide) (by omega) (fun c1 => ?_) (fun c1 => ?_)
  · refine lv_aload_n F.1 F.2.1 dX9_acts_50 rfl (lv_at hl 0 rfl) ?_
    refine gf_RX9_7 F hW hM rfl dX9_acts_51 ?_
    refine h_iconst F dX9_acts_54 ?_
    refine lv_aload_n F.1 F.2.1 dX9_acts_55 rfl (lv_at hl 0 rfl) ?_
    refine gf_RX9_16 F hW hM rfl dX9_acts_56 ?_
    refine h_sipush F dX9_acts_59 rfl ?_
    refine lv_aload_n F.1 F.2.1 dX9_acts_62 rfl (lv_at hl 0 rfl) ?_
    refine gf_RX9_61 F hW hM rfl dX9_acts_63 ?_
    refine h_imul (a := 1317) (b := v 5) F dX9_acts_66 ?_
    refine cl_RX9_64 (As := [.ref (mo + 1), .int (iI 0), .ref (mo + 3), .int (iI (1317 * (v 5)))]) (rest := []) F hl (c_X9_copies l X w (mo + 1) (mo + 3) 1317 10536 σ pa 0 (1317 * (v 5)) hs hpa (by omega) (by omega) (by omega)) hW hS rfl rfl ⟨Nat.le_of_ble_eq_true rfl, Nat.le_of_ble_eq_true rfl⟩ (Nat.le_of_ble_eq_true rfl) ⟨Nat.zero_le _, Nat.zero_le _⟩ dX9_acts_67 (fun w2 H locs hp3 hW hS => ?_)
    obtain ⟨ha4, hn5⟩ := hp3
    have hM := (hn5 _ (by omega)).trans hM
    have hs := (hn5 _ (by omega)).trans hs
    refine lv_aload_n F.1 F.2.1 dX9_acts_70 rfl (lv_at hl 0 rfl) ?_
    refine lv_dup F.1 F.2.1 dX9_acts_71 rfl ?_
    refine gf_RX9_61 F hW hM rfl dX9_acts_72 ?_
    refine h_iconst F dX9_acts_75 ?_
    refine h_iadd (a := v 5) (b := 1) F dX9_acts_76 ?_
    refine pf_RX9_61 F hW hS hM (Nat.le_of_ble_eq_true rfl) dX9_acts_77 (fun w6 H locs ho8 hn7 hW hS => ?_)
    rw [mL_5] at ho8
    have hs := (hn7 _ (by omega)).trans hs
    have ha4 := (hn7 _ (by omega)).trans ha4
    refine lv_aload_n F.1 F.2.1 dX9_acts_80 rfl (lv_at hl 0 rfl) ?_
    refine lv_dup F.1 F.2.1 dX9_acts_81 rfl ?_
    refine gf_RX9_68 F hW ho8 rfl dX9_acts_82 ?_
    refine h_top (show ((up v 5 ((v 5) + 1)) 8 : Int) = v 8 from rfl) ?_
    refine h_iconst F dX9_acts_85 ?_
    refine h_iadd (a := v 8) (b := 1) F dX9_acts_86 ?_
    refine pf_RX9_68 F hW hS ho8 (Nat.le_of_ble_eq_true rfl) dX9_acts_87 (fun w9 H locs ho11 hn10 hW hS => ?_)
    rw [mL_8] at ho11
    have hs := (hn10 _ (by omega)).trans hs
    have ha4 := (hn10 _ (by omega)).trans ha4
    exact h_vret F hr hlk hW hS ⟨(by (rw [ho11]) <;> (rfl)), (by (rw [ha4]) <;> (rfl)), (fun q h09 h19 => by rw [hn10 q (by omega), hn7 q (by omega), hn5 q (by omega)])⟩ dX9_acts_90
  · exfalso; omega
theorem c_X9_acts (l : Launch) (X : Cx) (w : Wo) (mo : Nat) (v σ : Int → Int) (pa : Int → Int) (hM : w mo = some (.inr (9, mL mo v))) (hs : w (mo + 1) = some (aZ X 1317 σ)) (hpa : w (mo + 3) = some (aZ X 10536 pa)) (hun : 0 ≤ v 5 ∧ v 5 ≤ 8) : CM l X yX9_acts cX9_acts 2 none (rmk 1 24) [.ref mo] w none (fun w' => w' mo = some (.inr (9, mL mo (up (up v 5 (min 8 (v 5 + 1))) 8 (v 8 + 1)))) ∧ w' (mo + 3) = some (aZ X 10536 (actP (v 5) pa σ)) ∧ ∀ q : Nat, q ≠ mo → q ≠ mo + 3 → w' q = w q) := by
  unfold actP
  by_cases h : v 5 = 8
  · rw [if_pos h, show up (up v 5 (min 8 (v 5 + 1))) 8 (v 8 + 1) = up (up (up v 5 7) 5 8) 8 (v 8 + 1) by rw [up_up, h]; rfl]
    exact c_acts_8 l X w mo v σ pa hM hs hpa h
  · rw [if_neg h, show min 8 (v 5 + 1) = v 5 + 1 by omega]
    exact c_acts_n l X w mo v σ pa hM hs hpa (by omega)
set_option maxHeartbeats 4000000 in
set_option maxRecDepth 100000 in
theorem c_turn0 (l : Launch) (X : Cx) (w : Wo) (mo : Nat) (v σ : Int → Int) (cn : Int) (hM : w mo = some (.inr (9, mL mo v))) (hs : w (mo + 1) = some (aZ X 1317 σ)) : CM l X yX9_turned cX9_turned 2 (some (.int)) (rmk 0 0) [.ref mo, .int (iI cn)] w (some (.int (iI (turnS σ cn)))) (fun w' => w' = w) := by
  refine CM.of (lv := [(0, .ref mo), (1, .int (iI cn))]) (by decide) (Nat.le_of_ble_eq_true rfl) rfl (fun p e s m below meth c ls F hr hlk hin hW hS hl => ?_)
  have hZ0 := hW.2.2
  have hB9 := hW.1.2
  clear hin
  refine lv_aload_n F.1 F.2.1 dX9_turned_0 rfl (lv_at hl 0 rfl) ?_
  refine gf_RX9_7 F hW hM rfl dX9_turned_1 ?_
  refine h_iconst F dX9_turned_4 ?_
  refine h_iald F hW hs (by omega) (by omega) dX9_turned_5 ?_
  refine h_iconst F dX9_turned_6 ?_
  refine h_isub (a := σ 0) (b := 1) F dX9_turned_7 ?_
  refine lv_iload_n F.1 F.2.1 dX9_turned_8 rfl (lv_at hl 1 rfl) ?_
  refine h_isub (a := (σ 0) - 1) (b := cn) F dX9_turned_9 ?_
  refine h_top (show (((σ 0) - 1) - cn : Int) = turnS σ cn from by first | rfl | omega | (simp_all; done)) ?_
  exact h_ireti F hr hlk hW hS rfl dX9_turned_10
set_option maxHeartbeats 4000000 in
set_option maxRecDepth 100000 in
theorem c_colAt0 (l : Launch) (X : Cx) (w : Wo) (mo : Nat) (v σ : Int → Int) (cn rn : Int) (hM : w mo = some (.inr (9, mL mo v))) (hs : w (mo + 1) = some (aZ X 1317 σ)) (hc : 0 ≤ cn ∧ cn < 40 ∧ 0 ≤ rn ∧ rn < 30) : CM l X yX9_colourAt cX9_colourAt 3 (some (.int)) (rmk 1 21) [.ref mo, .int (iI cn), .int (iI rn)] w (some (.int (iI (cellS σ cn rn)))) (fun w' => w' = w) := by
  refine CM.of (lv := [(0, .ref mo), (1, .int (iI cn)), (2, .int (iI rn))]) (by decide) (Nat.le_of_ble_eq_true rfl) rfl (fun p e s m below meth c ls F hr hlk hin hW hS hl => ?_)
  have hZ0 := hW.2.2
  have hB9 := hW.1.2
  clear hin
  refine lv_aload_n F.1 F.2.1 dX9_colourAt_0 rfl (lv_at hl 0 rfl) ?_
  refine gf_RX9_7 F hW hM rfl dX9_colourAt_1 ?_
  refine lv_iload_n F.1 F.2.1 dX9_colourAt_4 rfl (lv_at hl 1 rfl) ?_
  refine lv_iload_n F.1 F.2.1 dX9_colourAt_5 rfl (lv_at hl 2 rfl) ?_
  refine cl_RX9_86 (As := [.int (iI cn), .int (iI rn)]) (rest := [.ref (mo + 1)]) F hl (c_X9_at l X w cn rn ) hW hS rfl rfl ⟨Nat.le_of_ble_eq_true rfl, Nat.le_of_ble_eq_true rfl⟩ (Nat.le_of_ble_eq_true rfl) ⟨Nat.zero_le _, Nat.zero_le _⟩ dX9_colourAt_6 (fun w1 H locs hp1 hW hS => ?_)
  rw [hp1] at hW; clear hp1; clear w1
  refine h_iald F hW hs (by omega) (by omega) dX9_colourAt_9 ?_
  refine h_top (show (σ (117 + 40 * rn + cn) : Int) = cellS σ cn rn from by first | rfl | omega | (simp_all; done)) ?_
  exact h_ireti F hr hlk hW hS rfl dX9_colourAt_10
set_option maxHeartbeats 4000000 in
set_option maxRecDepth 100000 in
theorem c_X9_looks (l : Launch) (X : Cx) (w : Wo) (mo : Nat) (v σ : Int → Int) (pa : Int → Int) (hM : w mo = some (.inr (9, mL mo v))) (hs : w (mo + 1) = some (aZ X 1317 σ)) (hwf : WF σ) (hpa : w (mo + 3) = some (aZ X 10536 pa)) (hun : 0 ≤ v 5 ∧ v 5 ≤ 8) : CM l X yX9_looks cX9_looks 2 (some (.int)) (rmk 6 138) [.ref mo] w (some (.int (iI (misSeen (up σ 3 (σ 4)) - misSeen σ)))) (fun w' => w' mo = some (.inr (9, mL mo (up (up v 5 (min 8 (v 5 + 1))) 8 (v 8 + 1)))) ∧ w' (mo + 1) = some (aZ X 1317 (up σ 3 (σ 4))) ∧ w' (mo + 3) = some (aZ X 10536 (actP (v 5) pa σ)) ∧ ∀ q : Nat, q ≠ mo → q ≠ mo + 1 → q ≠ mo + 3 → w' q = w q) := by
  refine CM.of (lv := [(0, .ref mo)]) (by decide) (Nat.le_of_ble_eq_true rfl) rfl (fun p e s m below meth c ls F hr hlk hin hW hS hl => ?_)
  have hZ0 := hW.2.2
  have hB9 := hW.1.2
  clear hin
  have hF := hwf.1
  unfold WF0 at hF
  refine lv_aload_n F.1 F.2.1 dX9_looks_0 rfl (lv_at hl 0 rfl) ?_
  refine cl_RX9_250 (As := []) (rest := []) F hl (c_X9_acts l X w mo v σ pa hM hs hpa hun) hW hS hM rfl rfl ⟨Nat.le_of_ble_eq_true rfl, Nat.le_of_ble_eq_true rfl⟩ (Nat.le_of_ble_eq_true rfl) ⟨Nat.zero_le _, Nat.zero_le _⟩ dX9_looks_1 (fun w1 H locs hp2 hW hS => ?_)
  obtain ⟨ho3, ha4, hn5⟩ := hp2
  have hs := (hn5 _ (by omega) (by omega)).trans hs
  refine lv_aload_n F.1 F.2.1 dX9_looks_4 rfl (lv_at hl 0 rfl) ?_
  refine h_iconst F dX9_looks_5 ?_
  refine cl_RX9_136 (As := [.int (iI 1)]) (rest := []) F hl (c_mall_t l X w1 mo (up (up v 5 (min 8 (v 5 + 1))) 8 (v 8 + 1)) σ ho3 hs hwf) hW hS ho3 rfl rfl ⟨Nat.le_of_ble_eq_true rfl, Nat.le_of_ble_eq_true rfl⟩ (Nat.le_of_ble_eq_true rfl) ⟨Nat.zero_le _, Nat.zero_le _⟩ dX9_looks_6 (fun w1 H locs hp6 hW hS => ?_)
  rw [hp6] at hW; clear hp6; clear w1
  refine lv_istore_n (lv' := [(1, .int (iI (misSeen σ))), (0, .ref mo)]) F.1 F.2.1 dX9_looks_9 rfl hl (by decide) rfl (fun ls hl => ?_)
  refine lv_aload_n F.1 F.2.1 dX9_looks_10 rfl (lv_at hl 1 rfl) ?_
  refine gf_RX9_7 F hW ho3 rfl dX9_looks_11 ?_
  refine h_iconst F dX9_looks_14 ?_
  refine lv_aload_n F.1 F.2.1 dX9_looks_15 rfl (lv_at hl 1 rfl) ?_
  refine gf_RX9_7 F hW ho3 rfl dX9_looks_16 ?_
  refine h_iconst F dX9_looks_19 ?_
  refine h_iald F hW hs (by omega) (by omega) dX9_looks_20 ?_
  refine h_iast F hW hS hs (by omega) (by omega) dX9_looks_21 (fun w7 H locs ho9 hn8 hW hS => ?_)
  have ho3 := (hn8 _ (by omega)).trans ho3
  have ha4 := (hn8 _ (by omega)).trans ha4
  refine lv_aload_n F.1 F.2.1 dX9_looks_22 rfl (lv_at hl 1 rfl) ?_
  refine h_iconst F dX9_looks_23 ?_
  refine cl_RX9_136 (As := [.int (iI 1)]) (rest := []) F hl (c_mall_t l X w7 mo (up (up v 5 (min 8 (v 5 + 1))) 8 (v 8 + 1)) (up σ 3 (σ 4)) ho3 ho9 (WF_fld hwf 3 (σ 4) (by omega) (fun z => absurd z (by decide)))) hW hS ho3 rfl rfl ⟨Nat.le_of_ble_eq_true rfl, Nat.le_of_ble_eq_true rfl⟩ (Nat.le_of_ble_eq_true rfl) ⟨Nat.zero_le _, Nat.zero_le _⟩ dX9_looks_24 (fun w1 H locs hp10 hW hS => ?_)
  rw [hp10] at hW; clear hp10; clear w1
  refine lv_iload_n F.1 F.2.1 dX9_looks_27 rfl (lv_at hl 0 rfl) ?_
  refine h_isub (a := misSeen (up σ 3 (σ 4))) (b := misSeen σ) F dX9_looks_28 ?_
  refine h_top (show ((misSeen (up σ 3 (σ 4))) - (misSeen σ) : Int) = misSeen (up σ 3 (σ 4)) - misSeen σ from by first | rfl | omega | (simp_all; done)) ?_
  exact h_ireti F hr hlk hW hS ⟨ho3, ho9, ha4, (fun q h09 h19 h29 => by rw [hn8 q (by omega), hn5 q (by omega) (by omega)])⟩ dX9_looks_29
set_option maxHeartbeats 4000000 in
set_option maxRecDepth 100000 in
theorem c_X9_finishes (l : Launch) (X : Cx) (w : Wo) (mo : Nat) (v σ : Int → Int) (hM : w mo = some (.inr (9, mL mo v))) (hs : w (mo + 1) = some (aZ X 1317 σ)) (hwf : WF σ) (hop : σ 4 < σ 1) (hfu : ∀ c, 0 ≤ c → c < σ 0 → 0 ≤ cellS σ c (σ 4)) : CM l X yX9_finishes cX9_finishes 2 (some (.int)) (rmk 5 115) [.ref mo] w (some (.int (iI (misRow (up σ 4 (σ 4 + 1)) (σ 4))))) (fun w' => w' mo = some (.inr (9, mL mo (up v 9 (v 9 + mnS σ (σ 4))))) ∧ w' (mo + 1) = some (aZ X 1317 (up σ 4 (σ 4 + 1))) ∧ ∀ q : Nat, q ≠ mo → q ≠ mo + 1 → w' q = w q) := by
  refine CM.of (lv := [(0, .ref mo)]) (by decide) (Nat.le_of_ble_eq_true rfl) rfl (fun p e s m below meth c ls F hr hlk hin hW hS hl => ?_)
  have hZ0 := hW.2.2
  have hB9 := hW.1.2
  clear hin
  have hF := hwf.1
  unfold WF0 at hF
  have hjo := joS_r hwf.1 (σ 4)
  have hje := jo_full (r := σ 4) hfu
  refine lv_aload_n F.1 F.2.1 dX9_finishes_0 rfl (lv_at hl 0 rfl) ?_
  refine gf_RX9_7 F hW hM rfl dX9_finishes_1 ?_
  refine h_iconst F dX9_finishes_4 ?_
  refine h_iald F hW hs (by omega) (by omega) dX9_finishes_5 ?_
  refine lv_istore_n (lv' := [(1, .int (iI (σ 4))), (0, .ref mo)]) F.1 F.2.1 dX9_finishes_6 rfl hl (by decide) rfl (fun ls hl => ?_)
  refine lv_aload_n F.1 F.2.1 dX9_finishes_7 rfl (lv_at hl 1 rfl) ?_
  refine lv_dup F.1 F.2.1 dX9_finishes_8 rfl ?_
  refine gf_RX9_216 F hW hM rfl dX9_finishes_9 ?_
  refine lv_aload_n F.1 F.2.1 dX9_finishes_12 rfl (lv_at hl 1 rfl) ?_
  refine gf_RX9_7 F hW hM rfl dX9_finishes_13 ?_
  refine h_iconst F dX9_finishes_16 ?_
  refine h_iald F hW hs (by omega) (by omega) dX9_finishes_17 ?_
  refine lv_aload_n F.1 F.2.1 dX9_finishes_18 rfl (lv_at hl 1 rfl) ?_
  refine lv_iload_n F.1 F.2.1 dX9_finishes_19 rfl (lv_at hl 0 rfl) ?_
  refine cl_RX9_205 (As := [.int (iI (σ 4))]) (rest := [.int (iI (σ 0)), .int (iI (v 9)), .ref mo]) F hl (c_X9_joinsOf l X w mo v σ (σ 4) hM hs hwf (by omega)) hW hS hM rfl rfl ⟨Nat.le_of_ble_eq_true rfl, Nat.le_of_ble_eq_true rfl⟩ (Nat.le_of_ble_eq_true rfl) ⟨Nat.zero_le _, Nat.zero_le _⟩ dX9_finishes_20 (fun w1 H locs hp1 hW hS => ?_)
  rw [hp1] at hW; clear hp1; clear w1
  refine h_top (show (cnt (fun z => decide (cellS σ z (σ 4) ≠ cellS σ (z + 1) (σ 4))) 0 (σ 0 - 1) : Int) = joS σ (σ 4) from hje) ?_
  refine cl_RX9_229 (As := [.int (iI (σ 0)), .int (iI (joS σ (σ 4)))]) (rest := [.int (iI (v 9)), .ref mo]) F hl (c_X9_minutesOf l X w (σ 0) (joS σ (σ 4)) (by omega) (by omega)) hW hS rfl rfl ⟨Nat.le_of_ble_eq_true rfl, Nat.le_of_ble_eq_true rfl⟩ (Nat.le_of_ble_eq_true rfl) ⟨Nat.zero_le _, Nat.zero_le _⟩ dX9_finishes_23 (fun w1 H locs hp2 hW hS => ?_)
  rw [hp2] at hW; clear hp2; clear w1
  refine h_top (show (minZ (σ 0) (joS σ (σ 4)) : Int) = mnS σ (σ 4) from rfl) ?_
  refine h_iadd (a := v 9) (b := mnS σ (σ 4)) F dX9_finishes_26 ?_
  refine pf_RX9_216 F hW hS hM (Nat.le_of_ble_eq_true rfl) dX9_finishes_27 (fun w3 H locs ho5 hn4 hW hS => ?_)
  rw [mL_9] at ho5
  have hs := (hn4 _ (by omega)).trans hs
  refine lv_aload_n F.1 F.2.1 dX9_finishes_30 rfl (lv_at hl 1 rfl) ?_
  refine gf_RX9_7 F hW ho5 rfl dX9_finishes_31 ?_
  refine h_iconst F dX9_finishes_34 ?_
  refine lv_dup2_11 F.1 F.2.1 dX9_finishes_35 rfl rfl ?_
  refine h_iald F hW hs (by omega) (by omega) dX9_finishes_36 ?_
  refine h_iconst F dX9_finishes_37 ?_
  refine h_iadd (a := σ 4) (b := 1) F dX9_finishes_38 ?_
  refine h_iast F hW hS hs (by omega) (by omega) dX9_finishes_39 (fun w6 H locs ho8 hn7 hW hS => ?_)
  have ho5 := (hn7 _ (by omega)).trans ho5
  refine lv_aload_n F.1 F.2.1 dX9_finishes_40 rfl (lv_at hl 1 rfl) ?_
  refine lv_iload_n F.1 F.2.1 dX9_finishes_41 rfl (lv_at hl 0 rfl) ?_
  refine cl_RX9_127 (As := [.int (iI (σ 4))]) (rest := []) F hl (c_X9_mistakesIn l X w6 mo (up v 9 ((v 9) + (mnS σ (σ 4)))) (up σ 4 ((σ 4) + 1)) (σ 4) ho5 ho8 (WF_fld hwf 4 (σ 4 + 1) (by omega) (fun _ c r c0 c1 r0 r1 => (by by_cases g : r = σ 4; (rw [g]; exact hfu c c0 c1); exact hwf.2.2.2.2.1 c r c0 c1 r0 (by omega)))) (by show 0 ≤ σ 4 ∧ σ 4 < σ 1; omega)) hW hS ho5 rfl rfl ⟨Nat.le_of_ble_eq_true rfl, Nat.le_of_ble_eq_true rfl⟩ (Nat.le_of_ble_eq_true rfl) ⟨Nat.zero_le _, Nat.zero_le _⟩ dX9_finishes_42 (fun w1 H locs hp9 hW hS => ?_)
  rw [hp9] at hW; clear hp9; clear w1
  refine h_top (show (misRow (up σ 4 ((σ 4) + 1)) (σ 4) : Int) = misRow (up σ 4 (σ 4 + 1)) (σ 4) from by first | rfl | omega | (simp_all; done)) ?_
  exact h_ireti F hr hlk hW hS ⟨(by (rw [ho5]) <;> (rfl)), (by (rw [ho8]) <;> (rfl)), (fun q h09 h19 => by rw [hn7 q (by omega), hn4 q (by omega)])⟩ dX9_finishes_45
set_option maxHeartbeats 4000000 in
set_option maxRecDepth 100000 in
theorem c_passes0_r1 (l : Launch) (X : Cx) (w : Wo) (mo : Nat) (v σ : Int → Int) (rf : Int → Int) (co fr to : Int) (hM : w mo = some (.inr (9, mL mo v))) (hs : w (mo + 1) = some (aZ X 1317 σ)) (hwf : WF σ) (hrf : w (mo + 6) = some (aZ X 8 rf)) (hco : 0 ≤ co ∧ co < 7) (hft : 0 ≤ fr ∧ fr ≤ to ∧ to < σ 0) (hop : σ 4 = σ 1) : CM l X yX9_passes0 cX9_passes0 6 (some (.int)) (rmk 2 45) [.ref mo, .int (iI co), .int (iI fr), .int (iI to)] w (some (.int (iI (-1)))) (fun w' => w' (mo + 6) = some (aZ X 8 (up rf 1 (rf 1 + 1))) ∧ ∀ q : Nat, q ≠ mo + 6 → w' q = w q) := by
  refine CM.of (lv := [(0, .ref mo), (1, .int (iI co)), (2, .int (iI fr)), (3, .int (iI to))]) (by decide) (Nat.le_of_ble_eq_true rfl) rfl (fun p e s m below meth c ls F hr hlk hin hW hS hl => ?_)
  have hZ0 := hW.2.2
  have hB9 := hW.1.2
  clear hin
  have hF := hwf.1
  unfold WF0 at hF
  have hsr := hwf.2.1 co (by omega) (by omega)
  refine lv_aload_n F.1 F.2.1 dX9_passes0_0 rfl (lv_at hl 0 rfl) ?_
  refine gf_RX9_7 F hW hM rfl dX9_passes0_1 ?_
  refine h_iconst F dX9_passes0_4 ?_
  refine h_iald F hW hs (by omega) (by omega) dX9_passes0_5 ?_
  refine lv_aload_n F.1 F.2.1 dX9_passes0_6 rfl (lv_at hl 0 rfl) ?_
  refine gf_RX9_7 F hW hM rfl dX9_passes0_7 ?_
  refine h_iconst F dX9_passes0_10 ?_
  refine h_iald F hW hs (by omega) (by omega) dX9_passes0_11 ?_
  refine h_icne (tgt := 21) F dX9_passes0_12 (by decide) (by omega) (fun c1 => ?_) (fun c1 => ?_)
  · exfalso; omega
  · refine lv_aload_n F.1 F.2.1 dX9_passes0_15 rfl (lv_at hl 0 rfl) ?_
    refine h_iconst F dX9_passes0_16 ?_
    refine cl_RX9_247 (As := [.int (iI 1)]) (rest := []) F hl (c_X9_refuses l X w mo v σ rf 1 hM hrf (by omega)) hW hS hM rfl rfl ⟨Nat.le_of_ble_eq_true rfl, Nat.le_of_ble_eq_true rfl⟩ (Nat.le_of_ble_eq_true rfl) ⟨Nat.zero_le _, Nat.zero_le _⟩ dX9_passes0_17 (fun w2 H locs hp3 hW hS => ?_)
    obtain ⟨ha4, hn5⟩ := hp3
    have hM := (hn5 _ (by omega)).trans hM
    have hs := (hn5 _ (by omega)).trans hs
    exact h_ireti F hr hlk hW hS ⟨ha4, (fun q h09 => by rw [hn5 q (by omega)])⟩ dX9_passes0_20
set_option maxHeartbeats 4000000 in
set_option maxRecDepth 100000 in
theorem c_passes0_r2 (l : Launch) (X : Cx) (w : Wo) (mo : Nat) (v σ : Int → Int) (rf : Int → Int) (co fr to : Int) (hM : w mo = some (.inr (9, mL mo v))) (hs : w (mo + 1) = some (aZ X 1317 σ)) (hwf : WF σ) (hrf : w (mo + 6) = some (aZ X 8 rf)) (hco : 0 ≤ co ∧ co < 7) (hft : 0 ≤ fr ∧ fr ≤ to ∧ to < σ 0) (hop : σ 4 < σ 1) (hst : σ (6 + co) < to - fr + 1) : CM l X yX9_passes0 cX9_passes0 6 (some (.int)) (rmk 2 45) [.ref mo, .int (iI co), .int (iI fr), .int (iI to)] w (some (.int (iI (-2)))) (fun w' => w' (mo + 6) = some (aZ X 8 (up rf 2 (rf 2 + 1))) ∧ ∀ q : Nat, q ≠ mo + 6 → w' q = w q) := by
  refine CM.of (lv := [(0, .ref mo), (1, .int (iI co)), (2, .int (iI fr)), (3, .int (iI to))]) (by decide) (Nat.le_of_ble_eq_true rfl) rfl (fun p e s m below meth c ls F hr hlk hin hW hS hl => ?_)
  have hZ0 := hW.2.2
  have hB9 := hW.1.2
  clear hin
  have hF := hwf.1
  unfold WF0 at hF
  have hsr := hwf.2.1 co (by omega) (by omega)
  refine lv_aload_n F.1 F.2.1 dX9_passes0_0 rfl (lv_at hl 0 rfl) ?_
  refine gf_RX9_7 F hW hM rfl dX9_passes0_1 ?_
  refine h_iconst F dX9_passes0_4 ?_
  refine h_iald F hW hs (by omega) (by omega) dX9_passes0_5 ?_
  refine lv_aload_n F.1 F.2.1 dX9_passes0_6 rfl (lv_at hl 0 rfl) ?_
  refine gf_RX9_7 F hW hM rfl dX9_passes0_7 ?_
  refine h_iconst F dX9_passes0_10 ?_
  refine h_iald F hW hs (by omega) (by omega) dX9_passes0_11 ?_
  refine h_icne (tgt := 21) F dX9_passes0_12 (by decide) (by omega) (fun c1 => ?_) (fun c1 => ?_)
  · refine lv_iload_n F.1 F.2.1 dX9_passes0_21 rfl (lv_at hl 3 rfl) ?_
    refine lv_iload_n F.1 F.2.1 dX9_passes0_22 rfl (lv_at hl 2 rfl) ?_
    refine h_isub (a := to) (b := fr) F dX9_passes0_23 ?_
    refine h_iconst F dX9_passes0_24 ?_
    refine h_iadd (a := to - fr) (b := 1) F dX9_passes0_25 ?_
    refine lv_istore (lv' := [(4, .int (iI ((to - fr) + 1))), (0, .ref mo), (1, .int (iI co)), (2, .int (iI fr)), (3, .int (iI to))]) F.1 F.2.1 dX9_passes0_26 hl (by decide) rfl (fun ls hl => ?_)
    refine lv_aload_n F.1 F.2.1 dX9_passes0_28 rfl (lv_at hl 1 rfl) ?_
    refine gf_RX9_7 F hW hM rfl dX9_passes0_29 ?_
    refine h_bipush F dX9_passes0_32 rfl ?_
    refine lv_iload_n F.1 F.2.1 dX9_passes0_34 rfl (lv_at hl 2 rfl) ?_
    refine h_iadd (a := 6) (b := co) F dX9_passes0_35 ?_
    refine h_iald F hW hs (by omega) (by omega) dX9_passes0_36 ?_
    refine lv_iload F.1 F.2.1 dX9_passes0_37 (lv_at hl 0 rfl) ?_
    refine h_icge (tgt := 48) F dX9_passes0_39 (by decide) (by omega) (fun c2 => ?_) (fun c2 => ?_)
    · exfalso; omega
    · refine lv_aload_n F.1 F.2.1 dX9_passes0_42 rfl (lv_at hl 1 rfl) ?_
      refine h_iconst F dX9_passes0_43 ?_
      refine cl_RX9_247 (As := [.int (iI 2)]) (rest := []) F hl (c_X9_refuses l X w mo v σ rf 2 hM hrf (by omega)) hW hS hM rfl rfl ⟨Nat.le_of_ble_eq_true rfl, Nat.le_of_ble_eq_true rfl⟩ (Nat.le_of_ble_eq_true rfl) ⟨Nat.zero_le _, Nat.zero_le _⟩ dX9_passes0_44 (fun w3 H locs hp4 hW hS => ?_)
      obtain ⟨ha5, hn6⟩ := hp4
      have hM := (hn6 _ (by omega)).trans hM
      have hs := (hn6 _ (by omega)).trans hs
      exact h_ireti F hr hlk hW hS ⟨ha5, (fun q h09 => by rw [hn6 q (by omega)])⟩ dX9_passes0_47
  · exfalso; omega
set_option maxHeartbeats 4000000 in
set_option maxRecDepth 100000 in
theorem c_X9_passes0 (l : Launch) (X : Cx) (w : Wo) (mo : Nat) (v σ : Int → Int) (pa : Int → Int) (co fr to : Int) (hM : w mo = some (.inr (9, mL mo v))) (hs : w (mo + 1) = some (aZ X 1317 σ)) (hwf : WF σ) (hpa : w (mo + 3) = some (aZ X 10536 pa)) (hun : 0 ≤ v 5 ∧ v 5 ≤ 8) (hco : 0 ≤ co ∧ co < 7) (hft : 0 ≤ fr ∧ fr ≤ to ∧ to < σ 0) (hop : σ 4 < σ 1) (hst : to - fr + 1 ≤ σ (6 + co)) : CM l X yX9_passes0 cX9_passes0 6 (some (.int)) (rmk 2 45) [.ref mo, .int (iI co), .int (iI fr), .int (iI to)] w (some (.int (iI (σ (6 + co) - (to - fr + 1))))) (fun w' => w' mo = some (.inr (9, mL mo (up (up v 5 (min 8 (v 5 + 1))) 8 (v 8 + 1)))) ∧ w' (mo + 1) = some (aZ X 1317 (passN σ co fr (to - fr + 1).toNat)) ∧ w' (mo + 3) = some (aZ X 10536 (actP (v 5) pa σ)) ∧ ∀ q : Nat, q ≠ mo → q ≠ mo + 1 → q ≠ mo + 3 → w' q = w q) := by
  refine CM.of (lv := [(0, .ref mo), (1, .int (iI co)), (2, .int (iI fr)), (3, .int (iI to))]) (by decide) (Nat.le_of_ble_eq_true rfl) rfl (fun p e s m below meth c ls F hr hlk hin hW hS hl => ?_)
  have hZ0 := hW.2.2
  have hB9 := hW.1.2
  clear hin
  have hF := hwf.1
  unfold WF0 at hF
  have hsr := hwf.2.1 co (by omega) (by omega)
  refine lv_aload_n F.1 F.2.1 dX9_passes0_0 rfl (lv_at hl 0 rfl) ?_
  refine gf_RX9_7 F hW hM rfl dX9_passes0_1 ?_
  refine h_iconst F dX9_passes0_4 ?_
  refine h_iald F hW hs (by omega) (by omega) dX9_passes0_5 ?_
  refine lv_aload_n F.1 F.2.1 dX9_passes0_6 rfl (lv_at hl 0 rfl) ?_
  refine gf_RX9_7 F hW hM rfl dX9_passes0_7 ?_
  refine h_iconst F dX9_passes0_10 ?_
  refine h_iald F hW hs (by omega) (by omega) dX9_passes0_11 ?_
  refine h_icne (tgt := 21) F dX9_passes0_12 (by decide) (by omega) (fun c1 => ?_) (fun c1 => ?_)
  · refine lv_iload_n F.1 F.2.1 dX9_passes0_21 rfl (lv_at hl 3 rfl) ?_
    refine lv_iload_n F.1 F.2.1 dX9_passes0_22 rfl (lv_at hl 2 rfl) ?_
    refine h_isub (a := to) (b := fr) F dX9_passes0_23 ?_
    refine h_iconst F dX9_passes0_24 ?_
    refine h_iadd (a := to - fr) (b := 1) F dX9_passes0_25 ?_
    refine lv_istore (lv' := [(4, .int (iI ((to - fr) + 1))), (0, .ref mo), (1, .int (iI co)), (2, .int (iI fr)), (3, .int (iI to))]) F.1 F.2.1 dX9_passes0_26 hl (by decide) rfl (fun ls hl => ?_)
    refine lv_aload_n F.1 F.2.1 dX9_passes0_28 rfl (lv_at hl 1 rfl) ?_
    refine gf_RX9_7 F hW hM rfl dX9_passes0_29 ?_
    refine h_bipush F dX9_passes0_32 rfl ?_
    refine lv_iload_n F.1 F.2.1 dX9_passes0_34 rfl (lv_at hl 2 rfl) ?_
    refine h_iadd (a := 6) (b := co) F dX9_passes0_35 ?_
    refine h_iald F hW hs (by omega) (by omega) dX9_passes0_36 ?_
    refine lv_iload F.1 F.2.1 dX9_passes0_37 (lv_at hl 0 rfl) ?_
    refine h_icge (tgt := 48) F dX9_passes0_39 (by decide) (by omega) (fun c2 => ?_) (fun c2 => ?_)
    · refine lv_aload_n F.1 F.2.1 dX9_passes0_48 rfl (lv_at hl 1 rfl) ?_
      refine cl_RX9_250 (As := []) (rest := []) F hl (c_X9_acts l X w mo v σ pa hM hs hpa hun) hW hS hM rfl rfl ⟨Nat.le_of_ble_eq_true rfl, Nat.le_of_ble_eq_true rfl⟩ (Nat.le_of_ble_eq_true rfl) ⟨Nat.zero_le _, Nat.zero_le _⟩ dX9_passes0_49 (fun w3 H locs hp4 hW hS => ?_)
      obtain ⟨ho5, ha6, hn7⟩ := hp4
      have hs := (hn7 _ (by omega) (by omega)).trans hs
      refine lv_aload_n F.1 F.2.1 dX9_passes0_52 rfl (lv_at hl 1 rfl) ?_
      refine gf_RX9_7 F hW ho5 rfl dX9_passes0_53 ?_
      refine h_bipush F dX9_passes0_56 rfl ?_
      refine lv_iload_n F.1 F.2.1 dX9_passes0_58 rfl (lv_at hl 2 rfl) ?_
      refine h_iadd (a := 6) (b := co) F dX9_passes0_59 ?_
      refine lv_dup2_11 F.1 F.2.1 dX9_passes0_60 rfl rfl ?_
      refine h_iald F hW hs (by omega) (by omega) dX9_passes0_61 ?_
      refine h_top (show (σ (6 + co) : Int) = σ (6 + co) from rfl) ?_
      refine lv_iload F.1 F.2.1 dX9_passes0_62 (lv_at hl 0 rfl) ?_
      refine h_isub (a := σ (6 + co)) (b := (to - fr) + 1) F dX9_passes0_64 ?_
      refine h_iast F hW hS hs (by omega) (by omega) dX9_passes0_65 (fun w8 H locs ho10 hn9 hW hS => ?_)
      have ho5 := (hn9 _ (by omega)).trans ho5
      have ha6 := (hn9 _ (by omega)).trans ha6
      refine lv_iload_n F.1 F.2.1 dX9_passes0_66 rfl (lv_at hl 3 rfl) ?_
      refine lv_istore (lv' := [(5, .int (iI fr)), (4, .int (iI ((to - fr) + 1))), (0, .ref mo), (1, .int (iI co)), (2, .int (iI fr)), (3, .int (iI to))]) F.1 F.2.1 dX9_passes0_67 hl (by decide) rfl (fun ls hl => ?_)
      have loop69 : ∀ (n9 : Nat) (i : Int), (hrg : fr ≤ i ∧ i ≤ to + 1) → (hms : to + 1 - i < (n9 : Int)) → (wz9 : Wo) → (hA69_0 : wz9 (mo + 1) = some (aZ X 1317 (pasM σ co (to - fr + 1) fr i))) → (hF69 : ∀ q : Nat, q ≠ mo + 1 → wz9 q = w8 q) → (H : Heap) → (locs : List Loc) → (ls : Array Slot) → Wd X wz9 s H → va_S (cxA X) s.heap H locs → lv_has ls 6 [(5, .int (iI i)), (4, .int (iI ((to - fr) + 1))), (0, .ref mo), (1, .int (iI co)), (2, .int (iI fr)), (3, .int (iI to))] → W p l e (rmk 2 45) s m (List.toArray [.ref mo, .int (iI co), .int (iI fr), .int (iI to)]) below meth c H locs 0 0 (MX X below (List.toArray [.ref mo, .int (iI co), .int (iI fr), .int (iI to)]) s 0 0 (some (.int (iI (σ (6 + co) - (to - fr + 1))))) (fun w' => w' mo = some (.inr (9, mL mo (up (up v 5 (min 8 (v 5 + 1))) 8 (v 8 + 1)))) ∧ w' (mo + 1) = some (aZ X 1317 (passN σ co fr (to - fr + 1).toNat)) ∧ w' (mo + 3) = some (aZ X 10536 (actP (v 5) pa σ)) ∧ ∀ q : Nat, q ≠ mo → q ≠ mo + 1 → q ≠ mo + 3 → w' q = w q)) (F0 m 69 ls []) := by
        intro n9
        induction n9 with
        | zero => intro i  hrg hms; exfalso; omega
        | succ n9 ih69 =>
          intro i  hrg hms wz9 hA69_0 hF69  H locs ls hW hS hl
          have ho5 := (hF69 _ (by omega)).trans ho5
          have ha6 := (hF69 _ (by omega)).trans ha6
          have hlo := fun p (h1 : p < 117) (h2 : p ≠ 6 + co) => pasM_lo (σ := σ) (co := co) (N := (to - fr + 1)) (fr := fr) (i := i) (p := p) (by omega) h1 h2 (by omega) (by omega)
          refine lv_iload F.1 F.2.1 dX9_passes0_69 (lv_at hl 0 rfl) ?_
          refine lv_iload_n F.1 F.2.1 dX9_passes0_71 rfl (lv_at hl 5 rfl) ?_
          refine h_icgt (tgt := 102) F dX9_passes0_72 (by decide) (by omega) (fun c11 => ?_) (fun c11 => ?_)
          · have hie : i = to + 1 := by omega
            refine lv_aload_n F.1 F.2.1 dX9_passes0_102 rfl (lv_at hl 2 rfl) ?_
            refine gf_RX9_7 F hW ho5 rfl dX9_passes0_103 ?_
            refine h_bipush F dX9_passes0_106 rfl ?_
            refine lv_iload_n F.1 F.2.1 dX9_passes0_108 rfl (lv_at hl 3 rfl) ?_
            refine h_iadd (a := 6) (b := co) F dX9_passes0_109 ?_
            refine h_iald F hW hA69_0 (by omega) (by omega) dX9_passes0_110 ?_
            refine h_top (show ((pasM σ co (to - fr + 1) fr i) (6 + co) : Int) = σ (6 + co) - (to - fr + 1) from by unfold pasM; rw [up_s]) ?_
            exact h_ireti F hr hlk hW hS ⟨ho5, (by (rw [hA69_0]) <;> (first | rfl | rw [pasM_e (by omega) (by omega)])), ha6, (fun q h09 h19 h29 => by rw [hF69 q (by omega), hn9 q (by omega), hn7 q (by omega) (by omega)])⟩ dX9_passes0_111
          · refine lv_aload_n F.1 F.2.1 dX9_passes0_75 rfl (lv_at hl 2 rfl) ?_
            refine gf_RX9_7 F hW ho5 rfl dX9_passes0_76 ?_
            refine lv_aload_n F.1 F.2.1 dX9_passes0_79 rfl (lv_at hl 2 rfl) ?_
            refine lv_iload F.1 F.2.1 dX9_passes0_80 (lv_at hl 0 rfl) ?_
            refine cl_RX9_102 (As := [.int (iI i)]) (rest := [.ref (mo + 1)]) F hl (c_turn0 l X wz9 mo (up (up v 5 (min 8 (v 5 + 1))) 8 (v 8 + 1)) (pasM σ co (to - fr + 1) fr i) i ho5 hA69_0) hW hS ho5 rfl rfl ⟨Nat.le_of_ble_eq_true rfl, Nat.le_of_ble_eq_true rfl⟩ (Nat.le_of_ble_eq_true rfl) ⟨Nat.zero_le _, Nat.zero_le _⟩ dX9_passes0_82 (fun w1 H locs hp12 hW hS => ?_)
            rw [hp12] at hW; clear hp12; clear w1
            refine h_top (show (turnS (pasM σ co (to - fr + 1) fr i) i : Int) = turnS σ i from by unfold turnS; rw [hlo 0 (by decide) (by omega)]) ?_
            refine lv_aload_n F.1 F.2.1 dX9_passes0_85 rfl (lv_at hl 2 rfl) ?_
            refine gf_RX9_7 F hW ho5 rfl dX9_passes0_86 ?_
            refine h_iconst F dX9_passes0_89 ?_
            refine h_iald F hW hA69_0 (by omega) (by omega) dX9_passes0_90 ?_
            refine h_top (show ((pasM σ co (to - fr + 1) fr i) 4 : Int) = σ 4 from hlo 4 (by decide) (by omega)) ?_
            have htt : 0 ≤ turnS σ i ∧ turnS σ i < σ 0 := by unfold turnS; omega
            refine cl_RX9_86 (As := [.int (iI (turnS σ i)), .int (iI (σ 4))]) (rest := [.ref (mo + 1)]) F hl (c_X9_at l X wz9 (turnS σ i) (σ 4) ) hW hS rfl rfl ⟨Nat.le_of_ble_eq_true rfl, Nat.le_of_ble_eq_true rfl⟩ (Nat.le_of_ble_eq_true rfl) ⟨Nat.zero_le _, Nat.zero_le _⟩ dX9_passes0_91 (fun w1 H locs hp13 hW hS => ?_)
            rw [hp13] at hW; clear hp13; clear w1
            refine lv_iload_n F.1 F.2.1 dX9_passes0_94 rfl (lv_at hl 3 rfl) ?_
            refine h_iast F hW hS hA69_0 (by omega) (by omega) dX9_passes0_95 (fun w14 H locs ho16 hn15 hW hS => ?_)
            have ho5 := (hn15 _ (by omega)).trans ho5
            have ha6 := (hn15 _ (by omega)).trans ha6
            refine h_iinc (k := 0) (a := i) (lv' := [(5, .int (iI (i + 1))), (4, .int (iI ((to - fr) + 1))), (0, .ref mo), (1, .int (iI co)), (2, .int (iI fr)), (3, .int (iI to))]) F dX9_passes0_96 hl rfl (by decide) rfl (fun ls hl => ?_)
            refine h_goto (tgt := 69) F dX9_passes0_99 (by decide) ?_
            have eq17 : ((i + 1) : Int) = i + 1 := by first | rfl | omega | simp
            exact ih69 (i + 1)  (by omega) (by omega) w14 (by rw [show (pasM σ co (to - fr + 1) fr (i + 1) : Int → Int) = up (pasM σ co (to - fr + 1) fr i) (117 + 40 * (σ 4) + (turnS σ i)) co from (pasM_s (by omega) hco (by omega) htt.1)]; exact ho16) (fun q h09 => by rw [hn15 q (by omega), hF69 q (by omega)])  _ _ ls hW hS (by rw [eq17]; exact lv_sub hl [0, 1, 2, 3, 4, 5] rfl)
      exact loop69 ((to + 1 - fr) + 1 : Int).toNat fr  (by omega) (by omega) w8 (by rw [show (pasM σ co (to - fr + 1) fr fr : Int → Int) = up σ (6 + co) ((σ (6 + co)) - ((to - fr) + 1)) from pasM_0 _ _ _ _]; exact ho10) (fun q _ => rfl)  _ _ ls hW hS (lv_sub hl [0, 1, 2, 3, 4, 5] rfl)
    · exfalso; omega
  · exfalso; omega
