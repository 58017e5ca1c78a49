theorem wovR_r {σ : Int → Int} (h : WF σ) (co r : Int) : 0 ≤ wovR σ co r ∧ wovR σ co r ≤ 40 := by
  have h1 := cnt_r (fun c => decide (cellS σ c r = co)) (lo := 0) (hi := σ 0) (by have := h.1.1; omega)
  have h2 := h.1.1
  unfold wovR
  omega
def slQ (σ : Int → Int) (L : Int) : Int := sm (slB σ L) 0 (σ 0 - 1)
def lgQ (σ : Int → Int) : Int := mx (lgB σ) 0 (σ 0 - 1)
theorem lgB_r (σ : Int → Int) (h : 0 ≤ σ 4) (c : Int) : 0 ≤ lgB σ c ∧ lgB σ c ≤ σ 4 := mx_r h (fun i h1 h2 => by
  have := rnS_r σ c h1
  show (if _ then _ else _) ≤ _
  split <;> omega)
def colQ (σ : Int → Int) (co wh : Int) : Int := if wh = 0 then σ (6 + co) else if wh = 4 then sm (wovR σ co) 0 (σ 1) / 2 else if wh = 1 then sm (fun y => if y < σ 4 then wovR σ co y else 0) 0 (σ 1) else if wh = 2 then sm (plnR σ co) 0 (σ 1) else sm (towR σ co) 0 (σ 1)
def letQ (σ : Int → Int) (k j wh : Int) : Int := if wh = 0 then tdS σ k j else if legS σ k = false then -1 else if wh = 3 then picS σ k j false else if wh = 2 then rdS σ k j true else rdS σ k j false
def accQ (v ac : Int → Int) (wh : Int) : Int := if wh = 0 then v 8 else if wh = 8 then v 9 else ac wh
def lastsP (σ : Int → Int) (n : Int) : Bool := !enoS σ false (n + 1)
def fitB (σ : Int → Int) (k : Int) : Bool := decide (cnt (fun z => legS σ k && decide (rdS σ k z false = tdS σ k z)) 0 (cp σ k 0) = cp σ k 0)
def fitQ (σ : Int → Int) : Bool := decide (σ 4 = σ 1) && al (fitB σ) 0 (σ 5)
def alkQ (σ : Int → Int) (k : Int) : Bool := al (fun z => al (fun y => inkS σ k z y == inkS σ k (4 * cp σ k 0 - 2 - z) y) 0 5) 0 (4 * cp σ k 0 - 1)
def jwS (σ : Int → Int) (r : Int) : Int := cnt (fun z => decide (wvS σ z r ≠ wvS σ (z + 1) r)) 0 (σ 0 - 1)
def minQ (σ : Int → Int) (rows : Int) : Int := sm (fun r => minZ (σ 0) (jwS σ r)) (σ 4) (min (σ 1) (σ 4 + rows))
theorem jwS_r {σ : Int → Int} (h : WF σ) (r : Int) : 0 ≤ jwS σ r ∧ jwS σ r < 40 := by
  have h1 := h.1.1
  have h2 := cnt_r (fun z => decide (wvS σ z r ≠ wvS σ (z + 1) r)) (lo := 0) (hi := σ 0 - 1) (by omega)
  unfold jwS
  omega
def plP (σ : Int → Int) (n sd y x : Int) : Bool := liesS σ n x y && !meetS σ n sd x y (-1)
def plY (σ : Int → Int) (n sd y : Int) : Bool := ex (plP σ n sd y) 0 (σ 0)
def plQ (σ : Int → Int) (n sd : Int) : Int := if fi (plY σ n sd) (σ 4) (σ 1) < σ 1 then 100 * fi (plY σ n sd) (σ 4) (σ 1) + fi (plP σ n sd (fi (plY σ n sd) (σ 4) (σ 1))) 0 (σ 0) else -1
set_option maxHeartbeats 4000000 in
set_option maxRecDepth 100000 in
theorem c_X5_slitsOf (l : Launch) (X : Cx) (w : Wo) (a : Nat) (σ : Int → Int) (le : Int) (hL : loomAt X w a σ) (hle : 2 ≤ le ∧ le ≤ 30) : CM l X yX5_slitsOf cX5_slitsOf 6 (some (.int)) (rmk 3 68) [.ref a, .int (iI le)] w (some (.int (iI (sm (slA σ le) 0 (σ 0 - 1))))) (fun w' => w' = w) := by
  refine CM.of (lv := [(0, .ref a), (1, .int (iI le))]) (by decide) (Nat.le_of_ble_eq_true rfl) rfl (fun p e s m below meth c ls F hr hlk hin hW hS hl => ?_)
  have hZ0 := hW.2.2
  have hB9 := hW.1.2
  clear hin
  have hA := hL.1
  have hwf := hL.2.2
  have hO := hA.o
  have hg1 := hA.g1
  have hg3 := hA.g3
  have hF := hwf.1
  unfold WF0 at hF
  refine h_iconst F dX5_slitsOf_0 ?_
  refine lv_istore_n (lv' := [(2, .int (iI 0)), (0, .ref a), (1, .int (iI le))]) F.1 F.2.1 dX5_slitsOf_1 rfl hl (by decide) rfl (fun ls hl => ?_)
  refine h_iconst F dX5_slitsOf_2 ?_
  refine lv_istore_n (lv' := [(3, .int (iI 0)), (2, .int (iI 0)), (0, .ref a), (1, .int (iI le))]) F.1 F.2.1 dX5_slitsOf_3 rfl hl (by decide) rfl (fun ls hl => ?_)
  have loop4 : ∀ (n9 : Nat) (i : Int), (hrg : 0 ≤ i ∧ i ≤ σ 0 - 1) → (hms : σ 0 - 1 - i < (n9 : Int)) → (H : Heap) → (locs : List Loc) → (ls : Array Slot) → Wd X w s H → va_S (cxA X) s.heap H locs → lv_has ls 6 [(2, .int (iI (sm (slA σ le) 0 i))), (3, .int (iI i)), (0, .ref a), (1, .int (iI le))] → W p l e (rmk 3 68) s m (List.toArray [.ref a, .int (iI le)]) below meth c H locs 0 0 (MX X below (List.toArray [.ref a, .int (iI le)]) s 0 0 (some (.int (iI (sm (slA σ le) 0 (σ 0 - 1))))) (fun w' => w' = w)) (F0 m 4 ls []) := by
    intro n9
    induction n9 with
    | zero => intro i  hrg hms; exfalso; omega
    | succ n9 ih4 =>
      intro i  hrg hms   H locs ls hW hS hl
      refine lv_iload_n F.1 F.2.1 dX5_slitsOf_4 rfl (lv_at hl 1 rfl) ?_
      refine lv_aload_n F.1 F.2.1 dX5_slitsOf_5 rfl (lv_at hl 2 rfl) ?_
      refine gf_RX5_40 F hW hO rfl dX5_slitsOf_6 ?_
      refine h_iconst F dX5_slitsOf_9 ?_
      refine h_isub (a := σ 0) (b := 1) F dX5_slitsOf_10 ?_
      refine h_icge (tgt := 70) F dX5_slitsOf_11 (by decide) (by omega) (fun c1 => ?_) (fun c1 => ?_)
      · refine lv_iload_n F.1 F.2.1 dX5_slitsOf_70 rfl (lv_at hl 0 rfl) ?_
        refine h_top (show (sm (slA σ le) 0 i : Int) = sm (slA σ le) 0 (σ 0 - 1) from by rw [show i = σ 0 - 1 by omega]) ?_
        exact h_ireti F hr hlk hW hS rfl dX5_slitsOf_71
      · refine h_iconst F dX5_slitsOf_14 ?_
        refine lv_istore (lv' := [(4, .int (iI 0)), (2, .int (iI (sm (slA σ le) 0 i))), (3, .int (iI i)), (0, .ref a), (1, .int (iI le))]) F.1 F.2.1 dX5_slitsOf_15 hl (by decide) rfl (fun ls hl => ?_)
        refine h_iconst F dX5_slitsOf_17 ?_
        refine lv_istore (lv' := [(5, .int (iI 0)), (4, .int (iI 0)), (2, .int (iI (sm (slA σ le) 0 i))), (3, .int (iI i)), (0, .ref a), (1, .int (iI le))]) F.1 F.2.1 dX5_slitsOf_18 hl (by decide) rfl (fun ls hl => ?_)
        have loop20 : ∀ (n9 : Nat) (r : Int), (hrg : 0 ≤ r ∧ r ≤ σ 4) → (hms : σ 4 - r < (n9 : Int)) → (H : Heap) → (locs : List Loc) → (ls : Array Slot) → Wd X w s H → va_S (cxA X) s.heap H locs → lv_has ls 6 [(2, .int (iI (sm (slA σ le) 0 i + cnt (fun z => decide (rnS σ i (z + 1) = le)) 0 r))), (4, .int (iI (rnS σ i r))), (5, .int (iI r)), (3, .int (iI i)), (0, .ref a), (1, .int (iI le))] → W p l e (rmk 3 68) s m (List.toArray [.ref a, .int (iI le)]) below meth c H locs 0 0 (MX X below (List.toArray [.ref a, .int (iI le)]) s 0 0 (some (.int (iI (sm (slA σ le) 0 (σ 0 - 1))))) (fun w' => w' = w)) (F0 m 20 ls []) := by
          intro n9
          induction n9 with
          | zero => intro r  hrg hms; exfalso; omega
          | succ n9 ih20 =>
            intro r  hrg hms   H locs ls hW hS hl
            refine lv_iload F.1 F.2.1 dX5_slitsOf_20 (lv_at hl 2 rfl) ?_
            refine lv_aload_n F.1 F.2.1 dX5_slitsOf_22 rfl (lv_at hl 4 rfl) ?_
            refine gf_RX5_47 F hW hO rfl dX5_slitsOf_23 ?_
            refine h_icge (tgt := 64) F dX5_slitsOf_26 (by decide) (by omega) (fun c2 => ?_) (fun c2 => ?_)
            · refine h_iinc (k := 3) (a := i) (lv' := [(3, .int (iI (i + 1))), (2, .int (iI (sm (slA σ le) 0 i + cnt (fun z => decide (rnS σ i (z + 1) = le)) 0 r))), (4, .int (iI (rnS σ i r))), (5, .int (iI r)), (0, .ref a), (1, .int (iI le))]) F dX5_slitsOf_64 hl rfl (by decide) rfl (fun ls hl => ?_)
              refine h_goto (tgt := 4) F dX5_slitsOf_67 (by decide) ?_
              have eq3 : (sm (slA σ le) 0 (i + 1) : Int) = sm (slA σ le) 0 i + cnt (fun z => decide (rnS σ i (z + 1) = le)) 0 r := by rw [sm_s _ (by omega), show r = σ 4 by omega]; rfl
              have eq4 : ((i + 1) : Int) = i + 1 := by first | rfl | omega | simp
              exact ih4 (i + 1)  (by omega) (by omega)   _ _ ls hW hS (by rw [eq3, eq4]; exact lv_sub hl [1, 0, 4, 5] rfl)
            · refine lv_aload_n F.1 F.2.1 dX5_slitsOf_29 rfl (lv_at hl 4 rfl) ?_
              refine lv_iload_n F.1 F.2.1 dX5_slitsOf_30 rfl (lv_at hl 3 rfl) ?_
              refine lv_iload F.1 F.2.1 dX5_slitsOf_31 (lv_at hl 2 rfl) ?_
              refine cl_RX5_222 (As := [.int (iI i), .int (iI r)]) (rest := []) F hl (c_X5_isJoin l X w a σ i r hA hwf (by omega)) hW hS hO rfl rfl ⟨Nat.le_of_ble_eq_true rfl, Nat.le_of_ble_eq_true rfl⟩ (Nat.le_of_ble_eq_true rfl) ⟨Nat.zero_le _, Nat.zero_le _⟩ dX5_slitsOf_33 (fun w1 H locs hp5 hW hS => ?_)
              rw [hp5] at hW; clear hp5; clear w1
              refine h_ifeqb (tgt := 46) F dX5_slitsOf_36 (by decide) (fun c6 => ?_) (fun c6 => ?_)
              · have c6d := of_decide_eq_false c6
                have hrs : rnS σ i (r + 1) = 0 := by rw [rnS_s σ i (by omega)]; exact if_neg (by unfold jnS; rw [c6]; decide)
                have hr2 := rnS_r σ i (r := r) (by omega)
                refine h_iconst F dX5_slitsOf_46 ?_
                refine lv_istore (lv' := [(4, .int (iI 0)), (2, .int (iI (sm (slA σ le) 0 i + cnt (fun z => decide (rnS σ i (z + 1) = le)) 0 r))), (5, .int (iI r)), (3, .int (iI i)), (0, .ref a), (1, .int (iI le))]) F.1 F.2.1 dX5_slitsOf_47 hl (by decide) rfl (fun ls hl => ?_)
                refine lv_iload F.1 F.2.1 dX5_slitsOf_49 (lv_at hl 0 rfl) ?_
                refine lv_iload_n F.1 F.2.1 dX5_slitsOf_51 rfl (lv_at hl 5 rfl) ?_
                refine h_icne (tgt := 58) F dX5_slitsOf_52 (by decide) (by omega) (fun c7 => ?_) (fun c7 => ?_)
                · refine h_iinc (k := 2) (a := r) (lv' := [(5, .int (iI (r + 1))), (4, .int (iI 0)), (2, .int (iI (sm (slA σ le) 0 i + cnt (fun z => decide (rnS σ i (z + 1) = le)) 0 r))), (3, .int (iI i)), (0, .ref a), (1, .int (iI le))]) F dX5_slitsOf_58 hl rfl (by decide) rfl (fun ls hl => ?_)
                  refine h_goto (tgt := 20) F dX5_slitsOf_61 (by decide) ?_
                  have eq8 : (sm (slA σ le) 0 i + cnt (fun z => decide (rnS σ i (z + 1) = le)) 0 (r + 1) : Int) = sm (slA σ le) 0 i + cnt (fun z => decide (rnS σ i (z + 1) = le)) 0 r := by first | (rw [cnt_t (by omega) (decide_eq_true (by rw [hrs]; assumption))]; omega) | rw [cnt_f (by omega) (decide_eq_false (by rw [hrs]; assumption))]
                  have eq9 : (rnS σ i (r + 1) : Int) = 0 := hrs
                  have eq10 : ((r + 1) : Int) = r + 1 := by first | rfl | omega | simp
                  exact ih20 (r + 1)  (by omega) (by omega)   _ _ ls hW hS (by rw [eq8, eq9, eq10]; exact lv_sub hl [2, 1, 0, 3, 4, 5] rfl)
                · refine h_iinc (k := 1) (a := sm (slA σ le) 0 i + cnt (fun z => decide (rnS σ i (z + 1) = le)) 0 r) (lv' := [(2, .int (iI ((sm (slA σ le) 0 i + cnt (fun z => decide (rnS σ i (z + 1) = le)) 0 r) + 1))), (4, .int (iI 0)), (5, .int (iI r)), (3, .int (iI i)), (0, .ref a), (1, .int (iI le))]) F dX5_slitsOf_55 hl rfl (by decide) rfl (fun ls hl => ?_)
                  refine h_iinc (k := 2) (a := r) (lv' := [(5, .int (iI (r + 1))), (2, .int (iI ((sm (slA σ le) 0 i + cnt (fun z => decide (rnS σ i (z + 1) = le)) 0 r) + 1))), (4, .int (iI 0)), (3, .int (iI i)), (0, .ref a), (1, .int (iI le))]) F dX5_slitsOf_58 hl rfl (by decide) rfl (fun ls hl => ?_)
                  refine h_goto (tgt := 20) F dX5_slitsOf_61 (by decide) ?_
                  have eq11 : (sm (slA σ le) 0 i + cnt (fun z => decide (rnS σ i (z + 1) = le)) 0 (r + 1) : Int) = (sm (slA σ le) 0 i + cnt (fun z => decide (rnS σ i (z + 1) = le)) 0 r) + 1 := by first | (rw [cnt_t (by omega) (decide_eq_true (by rw [hrs]; assumption))]; omega) | rw [cnt_f (by omega) (decide_eq_false (by rw [hrs]; assumption))]
                  have eq12 : (rnS σ i (r + 1) : Int) = 0 := hrs
                  have eq13 : ((r + 1) : Int) = r + 1 := by first | rfl | omega | simp
                  exact ih20 (r + 1)  (by omega) (by omega)   _ _ ls hW hS (by rw [eq11, eq12, eq13]; exact lv_sub hl [1, 2, 0, 3, 4, 5] rfl)
              · have c6d := of_decide_eq_true c6
                have hrs : rnS σ i (r + 1) = rnS σ i r + 1 := by rw [rnS_s σ i (by omega)]; exact if_pos (by unfold jnS; rw [c6])
                have hr2 := rnS_r σ i (r := r) (by omega)
                refine lv_iload F.1 F.2.1 dX5_slitsOf_39 (lv_at hl 1 rfl) ?_
                refine h_iconst F dX5_slitsOf_41 ?_
                refine h_iadd (a := rnS σ i r) (b := 1) F dX5_slitsOf_42 ?_
                refine h_goto (tgt := 47) F dX5_slitsOf_43 (by decide) ?_
                refine lv_istore (lv' := [(4, .int (iI ((rnS σ i r) + 1))), (2, .int (iI (sm (slA σ le) 0 i + cnt (fun z => decide (rnS σ i (z + 1) = le)) 0 r))), (5, .int (iI r)), (3, .int (iI i)), (0, .ref a), (1, .int (iI le))]) F.1 F.2.1 dX5_slitsOf_47 hl (by decide) rfl (fun ls hl => ?_)
                refine lv_iload F.1 F.2.1 dX5_slitsOf_49 (lv_at hl 0 rfl) ?_
                refine lv_iload_n F.1 F.2.1 dX5_slitsOf_51 rfl (lv_at hl 5 rfl) ?_
                refine h_icne (tgt := 58) F dX5_slitsOf_52 (by decide) (by omega) (fun c14 => ?_) (fun c14 => ?_)
                · refine h_iinc (k := 2) (a := r) (lv' := [(5, .int (iI (r + 1))), (4, .int (iI ((rnS σ i r) + 1))), (2, .int (iI (sm (slA σ le) 0 i + cnt (fun z => decide (rnS σ i (z + 1) = le)) 0 r))), (3, .int (iI i)), (0, .ref a), (1, .int (iI le))]) F dX5_slitsOf_58 hl rfl (by decide) rfl (fun ls hl => ?_)
                  refine h_goto (tgt := 20) F dX5_slitsOf_61 (by decide) ?_
                  have eq15 : (sm (slA σ le) 0 i + cnt (fun z => decide (rnS σ i (z + 1) = le)) 0 (r + 1) : Int) = sm (slA σ le) 0 i + cnt (fun z => decide (rnS σ i (z + 1) = le)) 0 r := by first | (rw [cnt_t (by omega) (decide_eq_true (by rw [hrs]; assumption))]; omega) | rw [cnt_f (by omega) (decide_eq_false (by rw [hrs]; assumption))]
                  have eq16 : (rnS σ i (r + 1) : Int) = (rnS σ i r) + 1 := hrs
                  have eq17 : ((r + 1) : Int) = r + 1 := by first | rfl | omega | simp
                  exact ih20 (r + 1)  (by omega) (by omega)   _ _ ls hW hS (by rw [eq15, eq16, eq17]; exact lv_sub hl [2, 1, 0, 3, 4, 5] rfl)
                · refine h_iinc (k := 1) (a := sm (slA σ le) 0 i + cnt (fun z => decide (rnS σ i (z + 1) = le)) 0 r) (lv' := [(2, .int (iI ((sm (slA σ le) 0 i + cnt (fun z => decide (rnS σ i (z + 1) = le)) 0 r) + 1))), (4, .int (iI ((rnS σ i r) + 1))), (5, .int (iI r)), (3, .int (iI i)), (0, .ref a), (1, .int (iI le))]) F dX5_slitsOf_55 hl rfl (by decide) rfl (fun ls hl => ?_)
                  refine h_iinc (k := 2) (a := r) (lv' := [(5, .int (iI (r + 1))), (2, .int (iI ((sm (slA σ le) 0 i + cnt (fun z => decide (rnS σ i (z + 1) = le)) 0 r) + 1))), (4, .int (iI ((rnS σ i r) + 1))), (3, .int (iI i)), (0, .ref a), (1, .int (iI le))]) F dX5_slitsOf_58 hl rfl (by decide) rfl (fun ls hl => ?_)
                  refine h_goto (tgt := 20) F dX5_slitsOf_61 (by decide) ?_
                  have eq18 : (sm (slA σ le) 0 i + cnt (fun z => decide (rnS σ i (z + 1) = le)) 0 (r + 1) : Int) = (sm (slA σ le) 0 i + cnt (fun z => decide (rnS σ i (z + 1) = le)) 0 r) + 1 := by first | (rw [cnt_t (by omega) (decide_eq_true (by rw [hrs]; assumption))]; omega) | rw [cnt_f (by omega) (decide_eq_false (by rw [hrs]; assumption))]
                  have eq19 : (rnS σ i (r + 1) : Int) = (rnS σ i r) + 1 := hrs
                  have eq20 : ((r + 1) : Int) = r + 1 := by first | rfl | omega | simp
                  exact ih20 (r + 1)  (by omega) (by omega)   _ _ ls hW hS (by rw [eq18, eq19, eq20]; exact lv_sub hl [1, 2, 0, 3, 4, 5] rfl)
        have eq21 : (sm (slA σ le) 0 i + cnt (fun z => decide (rnS σ i (z + 1) = le)) 0 0 : Int) = sm (slA σ le) 0 i := by rw [cnt_0]; omega
        have eq22 : (rnS σ i 0 : Int) = 0 := rnS_0 _ _
        exact loop20 ((σ 4 - 0) + 1 : Int).toNat 0  (by omega) (by omega)   _ _ ls hW hS (by rw [eq21, eq22]; exact lv_sub hl [2, 1, 0, 3, 4, 5] rfl)
  have eq23 : (sm (slA σ le) 0 0 : Int) = 0 := sm_0 _ _
  exact loop4 ((σ 0 - 1 - 0) + 1 : Int).toNat 0  (by omega) (by omega)   _ _ ls hW hS (by rw [eq23]; exact lv_sub hl [1, 0, 2, 3] rfl)
set_option maxHeartbeats 4000000 in
set_option maxRecDepth 100000 in
theorem c_X5_longestRun (l : Launch) (X : Cx) (w : Wo) (a : Nat) (σ : Int → Int) (hL : loomAt X w a σ) : CM l X yX5_longestRun cX5_longestRun 5 (some (.int)) (rmk 3 68) [.ref a] w (some (.int (iI (mx (lgA σ) 0 (σ 0 - 1))))) (fun w' => w' = w) := by
  refine CM.of (lv := [(0, .ref a)]) (by decide) (Nat.le_of_ble_eq_true rfl) rfl (fun p e s m below meth c ls F hr hlk hin hW hS hl => ?_)
  have hZ0 := hW.2.2
  have hB9 := hW.1.2
  clear hin
  have hA := hL.1
  have hwf := hL.2.2
  have hO := hA.o
  have hg1 := hA.g1
  have hg3 := hA.g3
  have hF := hwf.1
  unfold WF0 at hF
  refine h_iconst F dX5_longestRun_0 ?_
  refine lv_istore_n (lv' := [(1, .int (iI 0)), (0, .ref a)]) F.1 F.2.1 dX5_longestRun_1 rfl hl (by decide) rfl (fun ls hl => ?_)
  refine h_iconst F dX5_longestRun_2 ?_
  refine lv_istore_n (lv' := [(2, .int (iI 0)), (1, .int (iI 0)), (0, .ref a)]) F.1 F.2.1 dX5_longestRun_3 rfl hl (by decide) rfl (fun ls hl => ?_)
  have loop4 : ∀ (n9 : Nat) (i : Int), (hrg : 0 ≤ i ∧ i ≤ σ 0 - 1) → (hms : σ 0 - 1 - i < (n9 : Int)) → (H : Heap) → (locs : List Loc) → (ls : Array Slot) → Wd X w s H → va_S (cxA X) s.heap H locs → lv_has ls 5 [(1, .int (iI (mx (lgA σ) 0 i))), (2, .int (iI i)), (0, .ref a)] → W p l e (rmk 3 68) s m (List.toArray [.ref a]) below meth c H locs 0 0 (MX X below (List.toArray [.ref a]) s 0 0 (some (.int (iI (mx (lgA σ) 0 (σ 0 - 1))))) (fun w' => w' = w)) (F0 m 4 ls []) := by
    intro n9
    induction n9 with
    | zero => intro i  hrg hms; exfalso; omega
    | succ n9 ih4 =>
      intro i  hrg hms   H locs ls hW hS hl
      refine lv_iload_n F.1 F.2.1 dX5_longestRun_4 rfl (lv_at hl 1 rfl) ?_
      refine lv_aload_n F.1 F.2.1 dX5_longestRun_5 rfl (lv_at hl 2 rfl) ?_
      refine gf_RX5_40 F hW hO rfl dX5_longestRun_6 ?_
      refine h_iconst F dX5_longestRun_9 ?_
      refine h_isub (a := σ 0) (b := 1) F dX5_longestRun_10 ?_
      refine h_icge (tgt := 64) F dX5_longestRun_11 (by decide) (by omega) (fun c1 => ?_) (fun c1 => ?_)
      · refine lv_iload_n F.1 F.2.1 dX5_longestRun_64 rfl (lv_at hl 0 rfl) ?_
        refine h_top (show (mx (lgA σ) 0 i : Int) = mx (lgA σ) 0 (σ 0 - 1) from by rw [show i = σ 0 - 1 by omega]) ?_
        exact h_ireti F hr hlk hW hS rfl dX5_longestRun_65
      · refine h_iconst F dX5_longestRun_14 ?_
        refine lv_istore_n (lv' := [(3, .int (iI 0)), (1, .int (iI (mx (lgA σ) 0 i))), (2, .int (iI i)), (0, .ref a)]) F.1 F.2.1 dX5_longestRun_15 rfl hl (by decide) rfl (fun ls hl => ?_)
        refine h_iconst F dX5_longestRun_16 ?_
        refine lv_istore (lv' := [(4, .int (iI 0)), (3, .int (iI 0)), (1, .int (iI (mx (lgA σ) 0 i))), (2, .int (iI i)), (0, .ref a)]) F.1 F.2.1 dX5_longestRun_17 hl (by decide) rfl (fun ls hl => ?_)
        have loop19 : ∀ (n9 : Nat) (r : Int), (hrg : 0 ≤ r ∧ r ≤ σ 4) → (hms : σ 4 - r < (n9 : Int)) → (H : Heap) → (locs : List Loc) → (ls : Array Slot) → Wd X w s H → va_S (cxA X) s.heap H locs → lv_has ls 5 [(1, .int (iI (max (mx (lgA σ) 0 i) (mx (fun z => rnS σ i (z + 1)) 0 r)))), (3, .int (iI (rnS σ i r))), (4, .int (iI r)), (2, .int (iI i)), (0, .ref a)] → W p l e (rmk 3 68) s m (List.toArray [.ref a]) below meth c H locs 0 0 (MX X below (List.toArray [.ref a]) s 0 0 (some (.int (iI (mx (lgA σ) 0 (σ 0 - 1))))) (fun w' => w' = w)) (F0 m 19 ls []) := by
          intro n9
          induction n9 with
          | zero => intro r  hrg hms; exfalso; omega
          | succ n9 ih19 =>
            intro r  hrg hms   H locs ls hW hS hl
            refine lv_iload F.1 F.2.1 dX5_longestRun_19 (lv_at hl 2 rfl) ?_
            refine lv_aload_n F.1 F.2.1 dX5_longestRun_21 rfl (lv_at hl 4 rfl) ?_
            refine gf_RX5_47 F hW hO rfl dX5_longestRun_22 ?_
            refine h_icge (tgt := 58) F dX5_longestRun_25 (by decide) (by omega) (fun c2 => ?_) (fun c2 => ?_)
            · refine h_iinc (k := 3) (a := i) (lv' := [(2, .int (iI (i + 1))), (1, .int (iI (max (mx (lgA σ) 0 i) (mx (fun z => rnS σ i (z + 1)) 0 r)))), (3, .int (iI (rnS σ i r))), (4, .int (iI r)), (0, .ref a)]) F dX5_longestRun_58 hl rfl (by decide) rfl (fun ls hl => ?_)
              refine h_goto (tgt := 4) F dX5_longestRun_61 (by decide) ?_
              have eq3 : (mx (lgA σ) 0 (i + 1) : Int) = max (mx (lgA σ) 0 i) (mx (fun z => rnS σ i (z + 1)) 0 r) := by rw [mx_s _ (by omega), show r = σ 4 by omega]; rfl
              have eq4 : ((i + 1) : Int) = i + 1 := by first | rfl | omega | simp
              exact ih4 (i + 1)  (by omega) (by omega)   _ _ ls hW hS (by rw [eq3, eq4]; exact lv_sub hl [1, 0, 4] rfl)
            · refine lv_aload_n F.1 F.2.1 dX5_longestRun_28 rfl (lv_at hl 4 rfl) ?_
              refine lv_iload_n F.1 F.2.1 dX5_longestRun_29 rfl (lv_at hl 3 rfl) ?_
              refine lv_iload F.1 F.2.1 dX5_longestRun_30 (lv_at hl 2 rfl) ?_
              refine cl_RX5_222 (As := [.int (iI i), .int (iI r)]) (rest := []) F hl (c_X5_isJoin l X w a σ i r hA hwf (by omega)) hW hS hO rfl rfl ⟨Nat.le_of_ble_eq_true rfl, Nat.le_of_ble_eq_true rfl⟩ (Nat.le_of_ble_eq_true rfl) ⟨Nat.zero_le _, Nat.zero_le _⟩ dX5_longestRun_32 (fun w1 H locs hp5 hW hS => ?_)
              rw [hp5] at hW; clear hp5; clear w1
              refine h_ifeqb (tgt := 44) F dX5_longestRun_35 (by decide) (fun c6 => ?_) (fun c6 => ?_)
              · have c6d := of_decide_eq_false c6
                have hrs : rnS σ i (r + 1) = 0 := by rw [rnS_s σ i (by omega)]; exact if_neg (by unfold jnS; rw [c6]; decide)
                have hr2 := rnS_r σ i (r := r) (by omega)
                have hm1 := mx_r (f := lgA σ) (lo := 0) (hi := i) (M := 30) (by decide) (fun q _ _ => by rw [lg_eq (by omega)]; have := lgB_r σ (by omega) q; omega)
                have hm2 := mx_r (f := fun z => rnS σ i (z + 1)) (lo := 0) (hi := r) (M := 30) (by decide) (fun q h1 _ => by have := rnS_r σ i (r := q + 1) (by omega); omega)
                refine h_iconst F dX5_longestRun_44 ?_
                refine lv_istore_n (lv' := [(3, .int (iI 0)), (1, .int (iI (max (mx (lgA σ) 0 i) (mx (fun z => rnS σ i (z + 1)) 0 r)))), (4, .int (iI r)), (2, .int (iI i)), (0, .ref a)]) F.1 F.2.1 dX5_longestRun_45 rfl hl (by decide) rfl (fun ls hl => ?_)
                refine lv_iload_n F.1 F.2.1 dX5_longestRun_46 rfl (lv_at hl 1 rfl) ?_
                refine lv_iload_n F.1 F.2.1 dX5_longestRun_47 rfl (lv_at hl 0 rfl) ?_
                refine h_mmax (index := 148) (a := max (mx (lgA σ) 0 i) (mx (fun z => rnS σ i (z + 1)) 0 r)) (b := 0) F hl km_RX5_148 (Nat.le_of_ble_eq_true rfl) (Nat.le_of_ble_eq_true rfl) (Nat.zero_le _) (Nat.zero_le _) (by omega) dX5_longestRun_48 ?_
                refine lv_istore_n (lv' := [(1, .int (iI (max (max (mx (lgA σ) 0 i) (mx (fun z => rnS σ i (z + 1)) 0 r)) 0))), (3, .int (iI 0)), (4, .int (iI r)), (2, .int (iI i)), (0, .ref a)]) F.1 F.2.1 dX5_longestRun_51 rfl hl (by decide) rfl (fun ls hl => ?_)
                refine h_iinc (k := 2) (a := r) (lv' := [(4, .int (iI (r + 1))), (1, .int (iI (max (max (mx (lgA σ) 0 i) (mx (fun z => rnS σ i (z + 1)) 0 r)) 0))), (3, .int (iI 0)), (2, .int (iI i)), (0, .ref a)]) F dX5_longestRun_52 hl rfl (by decide) rfl (fun ls hl => ?_)
                refine h_goto (tgt := 19) F dX5_longestRun_55 (by decide) ?_
                have eq7 : (max (mx (lgA σ) 0 i) (mx (fun z => rnS σ i (z + 1)) 0 (r + 1)) : Int) = max (max (mx (lgA σ) 0 i) (mx (fun z => rnS σ i (z + 1)) 0 r)) 0 := by rw [mx_s _ (by omega), hrs]; omega
                have eq8 : (rnS σ i (r + 1) : Int) = 0 := hrs
                have eq9 : ((r + 1) : Int) = r + 1 := by first | rfl | omega | simp
                exact ih19 (r + 1)  (by omega) (by omega)   _ _ ls hW hS (by rw [eq7, eq8, eq9]; exact lv_sub hl [1, 2, 0, 3, 4] rfl)
              · have c6d := of_decide_eq_true c6
                have hrs : rnS σ i (r + 1) = rnS σ i r + 1 := by rw [rnS_s σ i (by omega)]; exact if_pos (by unfold jnS; rw [c6])
                have hr2 := rnS_r σ i (r := r) (by omega)
                have hm1 := mx_r (f := lgA σ) (lo := 0) (hi := i) (M := 30) (by decide) (fun q _ _ => by rw [lg_eq (by omega)]; have := lgB_r σ (by omega) q; omega)
                have hm2 := mx_r (f := fun z => rnS σ i (z + 1)) (lo := 0) (hi := r) (M := 30) (by decide) (fun q h1 _ => by have := rnS_r σ i (r := q + 1) (by omega); omega)
                refine lv_iload_n F.1 F.2.1 dX5_longestRun_38 rfl (lv_at hl 1 rfl) ?_
                refine h_iconst F dX5_longestRun_39 ?_
                refine h_iadd (a := rnS σ i r) (b := 1) F dX5_longestRun_40 ?_
                refine h_goto (tgt := 45) F dX5_longestRun_41 (by decide) ?_
                refine lv_istore_n (lv' := [(3, .int (iI ((rnS σ i r) + 1))), (1, .int (iI (max (mx (lgA σ) 0 i) (mx (fun z => rnS σ i (z + 1)) 0 r)))), (4, .int (iI r)), (2, .int (iI i)), (0, .ref a)]) F.1 F.2.1 dX5_longestRun_45 rfl hl (by decide) rfl (fun ls hl => ?_)
                refine lv_iload_n F.1 F.2.1 dX5_longestRun_46 rfl (lv_at hl 1 rfl) ?_
                refine lv_iload_n F.1 F.2.1 dX5_longestRun_47 rfl (lv_at hl 0 rfl) ?_
                refine h_mmax (index := 148) (a := max (mx (lgA σ) 0 i) (mx (fun z => rnS σ i (z + 1)) 0 r)) (b := (rnS σ i r) + 1) F hl km_RX5_148 (Nat.le_of_ble_eq_true rfl) (Nat.le_of_ble_eq_true rfl) (Nat.zero_le _) (Nat.zero_le _) (by omega) dX5_longestRun_48 ?_
                refine lv_istore_n (lv' := [(1, .int (iI (max (max (mx (lgA σ) 0 i) (mx (fun z => rnS σ i (z + 1)) 0 r)) ((rnS σ i r) + 1)))), (3, .int (iI ((rnS σ i r) + 1))), (4, .int (iI r)), (2, .int (iI i)), (0, .ref a)]) F.1 F.2.1 dX5_longestRun_51 rfl hl (by decide) rfl (fun ls hl => ?_)
                refine h_iinc (k := 2) (a := r) (lv' := [(4, .int (iI (r + 1))), (1, .int (iI (max (max (mx (lgA σ) 0 i) (mx (fun z => rnS σ i (z + 1)) 0 r)) ((rnS σ i r) + 1)))), (3, .int (iI ((rnS σ i r) + 1))), (2, .int (iI i)), (0, .ref a)]) F dX5_longestRun_52 hl rfl (by decide) rfl (fun ls hl => ?_)
                refine h_goto (tgt := 19) F dX5_longestRun_55 (by decide) ?_
                have eq10 : (max (mx (lgA σ) 0 i) (mx (fun z => rnS σ i (z + 1)) 0 (r + 1)) : Int) = max (max (mx (lgA σ) 0 i) (mx (fun z => rnS σ i (z + 1)) 0 r)) ((rnS σ i r) + 1) := by rw [mx_s _ (by omega), hrs]; omega
                have eq11 : (rnS σ i (r + 1) : Int) = (rnS σ i r) + 1 := hrs
                have eq12 : ((r + 1) : Int) = r + 1 := by first | rfl | omega | simp
                exact ih19 (r + 1)  (by omega) (by omega)   _ _ ls hW hS (by rw [eq10, eq11, eq12]; exact lv_sub hl [1, 2, 0, 3, 4] rfl)
        have eq13 : (max (mx (lgA σ) 0 i) (mx (fun z => rnS σ i (z + 1)) 0 0) : Int) = mx (lgA σ) 0 i := by rw [mx_0]; have := mxN_0 (lgA σ) 0 (i - 0).toNat; unfold mx; omega
        have eq14 : (rnS σ i 0 : Int) = 0 := rnS_0 _ _
        exact loop19 ((σ 4 - 0) + 1 : Int).toNat 0  (by omega) (by omega)   _ _ ls hW hS (by rw [eq13, eq14]; exact lv_sub hl [2, 1, 0, 3, 4] rfl)
  have eq15 : (mx (lgA σ) 0 0 : Int) = 0 := mx_0 _ _
  exact loop4 ((σ 0 - 1 - 0) + 1 : Int).toNat 0  (by omega) (by omega)   _ _ ls hW hS (by rw [eq15]; exact lv_sub hl [1, 0, 2] rfl)
