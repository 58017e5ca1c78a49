/-- the first i places are x -/
def flZ (f : Int → Int) (i x : Int) : Int → Int := fun j => if 0 ≤ j ∧ j < i then x else f j
def flJ (g : Nat → Int64) (i : Int) (x : Int64) : Nat → Int64 := fun j => if (j : Int) < i then x else g j
/-- a cell of a grid gets a colour -/
def gup (gr : Int → Int → Int) (c r co : Int) : Int → Int → Int := fun c2 r2 => if c2 = c ∧ r2 = r then co else gr c2 r2
theorem up_fl (f : Int → Int) {i : Int} (h : 0 ≤ i) (x : Int) : up (flZ f i x) i x = flZ f (i + 1) x := by
  funext j
  unfold up flZ
  by_cases h1 : j = i
  · rw [if_pos h1, if_pos (by omega)]
  · rw [if_neg h1]
    by_cases h2 : 0 ≤ j ∧ j < i
    · rw [if_pos h2, if_pos (by omega)]
    · rw [if_neg h2, if_neg (by omega)]
theorem fl_0 (f : Int → Int) (x : Int) : flZ f 0 x = f := by
  funext j
  unfold flZ
  exact if_neg (by omega)
theorem up_flJ (g : Nat → Int64) {i : Int} (h : 0 ≤ i) (x : Int64) : vp_updL (flJ g i x) i.toNat x = flJ g (i + 1) x := by
  funext j
  unfold vp_updL flJ
  by_cases h1 : j = i.toNat
  · rw [if_pos h1, if_pos (by omega)]
  · rw [if_neg h1]
    by_cases h2 : (j : Int) < i
    · rw [if_pos h2, if_pos (by omega)]
    · rw [if_neg h2, if_neg (by omega)]
theorem fl_0J (g : Nat → Int64) (x : Int64) : flJ g 0 x = g := by
  funext j
  unfold flJ
  exact if_neg (by omega)
theorem dig_0 : ∀ k : Nat, k < 20 → dig (lI 0) k = 0 := by decide +kernel
theorem dig_m : ∀ k : Nat, k < 20 → dig (lI (-1)) k = 7 := by decide +kernel
theorem dig_c : ∀ c : Nat, c < 7 → dig (lI (c : Int)) 0 = c := by decide +kernel
set_option maxHeartbeats 4000000 in
set_option maxRecDepth 100000 in
theorem c_J7_fill_53178 (l : Launch) (X : Cx) (w : Wo) (u n : Nat) (f : Int → Int) (x : Int) (hu : w u = some (aZ X n f)) (hn : (n : Int) < 2147483648) : CM l X yJ7_fill_53178 cJ7_fill_53178 4 none (rmk 0 0) [.ref u, .int (iI x)] w none (fun w' => w' u = some (aZ X n (flZ f n x)) ∧ ∀ q : Nat, q ≠ u → w' q = w q) := by
  refine CM.of (lv := [(0, .ref u), (1, .int (iI x))]) (by decide) (Nat.le_of_ble_eq_true rfl) rfl (fun p e s m below meth c ls F hr hlk hin hW hS hl => ?_)
  have hZ0 := hW.2.2
  have hB9 := hW.1.2
  clear hin
  refine h_iconst F dJ7_fill_53178_0 ?_
  refine lv_istore_n (lv' := [(2, .int (iI 0)), (0, .ref u), (1, .int (iI x))]) F.1 F.2.1 dJ7_fill_53178_1 rfl hl (by decide) rfl (fun ls hl => ?_)
  refine lv_aload_n F.1 F.2.1 dJ7_fill_53178_2 rfl (lv_at hl 1 rfl) ?_
  refine h_alen (k := 0) (n := n) F hW rfl hu dJ7_fill_53178_3 ?_
  refine lv_istore_n (lv' := [(3, .int (iI n)), (2, .int (iI 0)), (0, .ref u), (1, .int (iI x))]) F.1 F.2.1 dJ7_fill_53178_4 rfl hl (by decide) rfl (fun ls hl => ?_)
  have loop5 : ∀ (n9 : Nat) (i : Int), (hrg : 0 ≤ i ∧ i ≤ (n : Int)) → (hms : (n : Int) - i < (n9 : Int)) → (w9 : Wo) → (hA5_0 : w9 u = some (aZ X n (flZ f i x))) → (hF5 : ∀ q : Nat, q ≠ u → w9 q = w q) → (H : Heap) → (locs : List Loc) → (ls : Array Slot) → Wd X w9 s H → va_S (cxA X) s.heap H locs → lv_has ls 4 [(2, .int (iI i)), (3, .int (iI n)), (0, .ref u), (1, .int (iI x))] → W p l e (rmk 0 0) s m (List.toArray [.ref u, .int (iI x)]) below meth c H locs 0 0 (MX X below (List.toArray [.ref u, .int (iI x)]) s 0 0 none (fun w' => w' u = some (aZ X n (flZ f n x)) ∧ ∀ q : Nat, q ≠ u → w' q = w q)) (F0 m 5 ls []) := by
    intro n9
    induction n9 with
    | zero => intro i  hrg hms; exfalso; omega
    | succ n9 ih5 =>
      intro i  hrg hms w9 hA5_0 hF5  H locs ls hW hS hl
      refine lv_iload_n F.1 F.2.1 dJ7_fill_53178_5 rfl (lv_at hl 0 rfl) ?_
      refine lv_iload_n F.1 F.2.1 dJ7_fill_53178_6 rfl (lv_at hl 1 rfl) ?_
      refine h_icge (tgt := 20) F dJ7_fill_53178_7 (by decide) (by omega) (fun c1 => ?_) (fun c1 => ?_)
      · exact h_vret F hr hlk hW hS ⟨(by rw [hA5_0]; rw [show i = (n : Int) by omega]), (fun q h09 => by rw [hF5 q (by omega)])⟩ dJ7_fill_53178_20
      · refine lv_aload_n F.1 F.2.1 dJ7_fill_53178_10 rfl (lv_at hl 2 rfl) ?_
        refine lv_iload_n F.1 F.2.1 dJ7_fill_53178_11 rfl (lv_at hl 0 rfl) ?_
        refine lv_iload_n F.1 F.2.1 dJ7_fill_53178_12 rfl (lv_at hl 3 rfl) ?_
        refine h_iast F hW hS hA5_0 (by omega) (by omega) dJ7_fill_53178_13 (fun w2 H locs ho4 hn3 hW hS => ?_)
        refine h_iinc (k := 0) (a := i) (lv' := [(2, .int (iI (i + 1))), (3, .int (iI n)), (0, .ref u), (1, .int (iI x))]) F dJ7_fill_53178_14 hl rfl (by decide) rfl (fun ls hl => ?_)
        refine h_goto (tgt := 5) F dJ7_fill_53178_17 (by decide) ?_
        have eq5 : ((i + 1) : Int) = i + 1 := by first | rfl | omega | simp
        exact ih5 (i + 1)  (by omega) (by omega) w2 (by rw [show (flZ f (i + 1) x : Int → Int) = up (flZ f i x) i x from (up_fl _ (by omega) _).symm]; exact ho4) (fun q h09 => by rw [hn3 q (by omega), hF5 q h09])  _ _ ls hW hS (by rw [eq5]; exact lv_sub hl [0, 1, 2, 3] rfl)
  exact loop5 (((n : Int) - 0) + 1 : Int).toNat 0  (by omega) (by omega) w (by rw [show (flZ f 0 x : Int → Int) = f from fl_0 _ _]; exact hu) (fun q _ => rfl)  _ _ ls hW hS (lv_sub hl [1, 0, 2, 3] rfl)
set_option maxHeartbeats 4000000 in
set_option maxRecDepth 100000 in
theorem c_J7_fill_d0a16 (l : Launch) (X : Cx) (w : Wo) (u n : Nat) (g : Nat → Int64) (x : Int64) (hu : w u = some (aJ X n g)) (hn : (n : Int) < 2147483648) : CM l X yJ7_fill_d0a16 cJ7_fill_d0a16 5 none (rmk 0 0) [.ref u, .long x] w none (fun w' => w' u = some (aJ X n (flJ g n x)) ∧ ∀ q : Nat, q ≠ u → w' q = w q) := by
  refine CM.of (lv := [(0, .ref u), (1, .long x)]) (by decide) (Nat.le_of_ble_eq_true rfl) rfl (fun p e s m below meth c ls F hr hlk hin hW hS hl => ?_)
  have hZ0 := hW.2.2
  have hB9 := hW.1.2
  clear hin
  refine h_iconst F dJ7_fill_d0a16_0 ?_
  refine lv_istore_n (lv' := [(3, .int (iI 0)), (0, .ref u), (1, .long x)]) F.1 F.2.1 dJ7_fill_d0a16_1 rfl hl (by decide) rfl (fun ls hl => ?_)
  refine lv_aload_n F.1 F.2.1 dJ7_fill_d0a16_2 rfl (lv_at hl 1 rfl) ?_
  refine h_alen (k := 1) (n := n) F hW rfl hu dJ7_fill_d0a16_3 ?_
  refine lv_istore (lv' := [(4, .int (iI n)), (3, .int (iI 0)), (0, .ref u), (1, .long x)]) F.1 F.2.1 dJ7_fill_d0a16_4 hl (by decide) rfl (fun ls hl => ?_)
  have loop6 : ∀ (n9 : Nat) (i : Int), (hrg : 0 ≤ i ∧ i ≤ (n : Int)) → (hms : (n : Int) - i < (n9 : Int)) → (w9 : Wo) → (hA6_0 : w9 u = some (aJ X n (flJ g i x))) → (hF6 : ∀ q : Nat, q ≠ u → w9 q = w q) → (H : Heap) → (locs : List Loc) → (ls : Array Slot) → Wd X w9 s H → va_S (cxA X) s.heap H locs → lv_has ls 5 [(3, .int (iI i)), (4, .int (iI n)), (0, .ref u), (1, .long x)] → W p l e (rmk 0 0) s m (List.toArray [.ref u, .long x]) below meth c H locs 0 0 (MX X below (List.toArray [.ref u, .long x]) s 0 0 none (fun w' => w' u = some (aJ X n (flJ g n x)) ∧ ∀ q : Nat, q ≠ u → w' q = w q)) (F0 m 6 ls []) := by
    intro n9
    induction n9 with
    | zero => intro i  hrg hms; exfalso; omega
    | succ n9 ih6 =>
      intro i  hrg hms w9 hA6_0 hF6  H locs ls hW hS hl
      refine lv_iload_n F.1 F.2.1 dJ7_fill_d0a16_6 rfl (lv_at hl 0 rfl) ?_
      refine lv_iload F.1 F.2.1 dJ7_fill_d0a16_7 (lv_at hl 1 rfl) ?_
      refine h_icge (tgt := 22) F dJ7_fill_d0a16_9 (by decide) (by omega) (fun c1 => ?_) (fun c1 => ?_)
      · exact h_vret F hr hlk hW hS ⟨(by rw [hA6_0]; rw [show i = (n : Int) by omega]), (fun q h09 => by rw [hF6 q (by omega)])⟩ dJ7_fill_d0a16_22
      · refine lv_aload_n F.1 F.2.1 dJ7_fill_d0a16_12 rfl (lv_at hl 2 rfl) ?_
        refine lv_iload_n F.1 F.2.1 dJ7_fill_d0a16_13 rfl (lv_at hl 0 rfl) ?_
        refine lv_lload_n F.1 F.2.1 dJ7_fill_d0a16_14 rfl (lv_at hl 3 rfl) ?_
        refine h_last F hW hS hA6_0 (by omega) (by omega) dJ7_fill_d0a16_15 (fun w2 H locs ho4 hn3 hW hS => ?_)
        refine h_iinc (k := 0) (a := i) (lv' := [(3, .int (iI (i + 1))), (4, .int (iI n)), (0, .ref u), (1, .long x)]) F dJ7_fill_d0a16_16 hl rfl (by decide) rfl (fun ls hl => ?_)
        refine h_goto (tgt := 6) F dJ7_fill_d0a16_19 (by decide) ?_
        have eq5 : ((i + 1) : Int) = i + 1 := by first | rfl | omega | simp
        exact ih6 (i + 1)  (by omega) (by omega) w2 (by rw [show (flJ g (i + 1) x : Int → Int) = vp_updL (flJ g i x) i.toNat x from (up_flJ _ (by omega) _).symm]; exact ho4) (fun q h09 => by rw [hn3 q (by omega), hF6 q h09])  _ _ ls hW hS (by rw [eq5]; exact lv_sub hl [0, 1, 2, 3] rfl)
  exact loop6 (((n : Int) - 0) + 1 : Int).toNat 0  (by omega) (by omega) w (by rw [show (flJ g 0 x : Int → Int) = g from fl_0J _ _]; exact hu) (fun q _ => rfl)  _ _ ls hW hS (lv_sub hl [1, 0, 2, 3] rfl)
