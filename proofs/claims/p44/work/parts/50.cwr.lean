/-- the first i places are x -/
def flZ (f : Int → Int) (i x : Int) : Int → Int := fun j => if 0 ≤ j ∧ j < i then x else f j
def flJ (g : Nat → Int64) (i : Int) (x : Int64) : Nat → Int64 := fun j => if (j : Int) < i then x else g j
/-- a cell of a grid gets a colour -/
def gup (gr : Int → Int → Int) (c r co : Int) : Int → Int → Int := fun c2 r2 => if c2 = c ∧ r2 = r then co else gr c2 r2
/-- words from lo to i are all ones -/
def clJ (g : Nat → Int64) (lo i : Int) : Nat → Int64 := fun j => if lo ≤ (j : Int) ∧ (j : Int) < i then lI (-1) else g j
/-- a word taken out of bytes -/
def wdZ (f fb : Int → Int) (N fr i : Int) : Int → Int := fun j => if 0 ≤ j ∧ j < i then byS fb N (fr + j) - 97 + 1 else f j
theorem up_fl (f : Int → Int) {i : Int} (h : 0 ≤ i) (x : Int) : up (flZ f i x) i x = flZ f (i + 1) x := by
  funext j
  unfold up flZ
  by_cases h1 : j = i
  · rw [if_pos h1, if_pos (by omega)]
  · rw [if_neg h1]
    by_cases h2 : 0 ≤ j ∧ j < i
    · rw [if_pos h2, if_pos (by omega)]
    · rw [if_neg h2, if_neg (by omega)]
theorem fl_0 (f : Int → Int) (x : Int) : flZ f 0 x = f := by
  funext j
  unfold flZ
  exact if_neg (by omega)
theorem up_flJ (g : Nat → Int64) {i : Int} (h : 0 ≤ i) (x : Int64) : vp_updL (flJ g i x) i.toNat x = flJ g (i + 1) x := by
  funext j
  unfold vp_updL flJ
  by_cases h1 : j = i.toNat
  · rw [if_pos h1, if_pos (by omega)]
  · rw [if_neg h1]
    by_cases h2 : (j : Int) < i
    · rw [if_pos h2, if_pos (by omega)]
    · rw [if_neg h2, if_neg (by omega)]
theorem fl_0J (g : Nat → Int64) (x : Int64) : flJ g 0 x = g := by
  funext j
  unfold flJ
  exact if_neg (by omega)
theorem dig_0 : ∀ k : Nat, k < 20 → dig (lI 0) k = 0 := by decide +kernel
theorem dig_m : ∀ k : Nat, k < 20 → dig (lI (-1)) k = 7 := by decide +kernel
theorem dig_c : ∀ c : Nat, c < 7 → dig (lI (c : Int)) 0 = c := by decide +kernel
theorem dig_co {co : Int} (h : -1 ≤ co ∧ co ≤ 6) : dig (lI co) 0 = gcode co := by
  by_cases h1 : co = -1
  · subst h1; exact dig_m 0 (by decide)
  · have := dig_c co.toNat (by omega)
    rw [show ((co.toNat : Nat) : Int) = co by omega] at this
    rw [this]; unfold gcode; rw [if_neg h1]
theorem gOK_set {g : Nat → Int64} {gr : Int → Int → Int} {cn rn co : Int} (h : gOK g gr) (hc : 0 ≤ cn ∧ cn < 40 ∧ 0 ≤ rn ∧ rn < 30) (hco : -1 ≤ co ∧ co ≤ 6) : gOK (vp_updL g (2 * rn + cn / 20).toNat ((g (2 * rn + cn / 20).toNat &&& ((lI 7 <<< ((iI (3 * (cn % 20))).toInt64 &&& 63)) ^^^ lI (-1))) ||| ((lI co &&& lI 7) <<< ((iI (3 * (cn % 20))).toInt64 &&& 63)))) (gup gr cn rn co) := by
  intro c r h1 h2 h3 h4
  obtain ⟨e1, e2⟩ := h c r h1 h2 h3 h4
  have hk : (((cn % 20).toNat : Nat) : Int) = cn % 20 := by omega
  have key := fun j hj => gd_set (g (2 * rn + cn / 20).toNat) (lI co) (k := (cn % 20).toNat) (by omega) (j := j) hj
  rw [hk] at key
  unfold vp_updL gup
  by_cases hw : (2 * r + c / 20).toNat = (2 * rn + cn / 20).toNat
  · rw [if_pos hw, key _ (by omega)]
    by_cases hcc : (c % 20).toNat = (cn % 20).toNat
    · rw [if_pos hcc, if_pos (by omega)]
      exact ⟨dig_co hco, hco⟩
    · rw [if_neg hcc, if_neg (by omega), ← hw]
      exact ⟨e1, e2⟩
  · rw [if_neg hw, if_neg (by intro z; apply hw; rw [z.1, z.2])]
    exact ⟨e1, e2⟩
theorem gOK_0 {g : Nat → Int64} : gOK (flJ g 60 (lI 0)) (fun _ _ => 0) := by
  intro c r h1 h2 h3 h4
  unfold flJ
  rw [if_pos (by omega), dig_0 _ (by omega)]
  exact ⟨rfl, by show (-1 : Int) ≤ 0 ∧ (0 : Int) ≤ 6; decide⟩
theorem gOK_cl {g : Nat → Int64} {gr : Int → Int → Int} {rn : Int} (h : gOK g gr) (hr : 0 ≤ rn) : gOK (clJ g (2 * rn) 60) (fun c r => if rn ≤ r then -1 else gr c r) := by
  intro c r h1 h2 h3 h4
  unfold clJ
  show dig (if _ then _ else _) _ = gcode (if rn ≤ r then -1 else gr c r) ∧ -1 ≤ (if rn ≤ r then -1 else gr c r) ∧ (if rn ≤ r then -1 else gr c r) ≤ 6
  by_cases hh : rn ≤ r
  · rw [if_pos (by omega), if_pos hh, dig_m _ (by omega)]
    exact ⟨rfl, by decide⟩
  · rw [if_neg (by omega), if_neg hh]
    exact h c r h1 h2 h3 h4
theorem gOK_cp {g g1 : Nat → Int64} {gr : Int → Int → Int} (h : gOK g gr) : gOK (fun j : Nat => if (j : Int) < 60 then g j else g1 j) gr := by
  intro c r h1 h2 h3 h4
  show dig (if _ then _ else _) _ = _ ∧ _
  rw [if_pos (by omega)]
  exact h c r h1 h2 h3 h4
theorem up_cl (g : Nat → Int64) {lo i : Int} (h : 0 ≤ lo ∧ lo ≤ i) : vp_updL (clJ g lo i) i.toNat (lI (-1)) = clJ g lo (i + 1) := by
  funext j
  unfold vp_updL clJ
  by_cases h1 : j = i.toNat
  · rw [if_pos h1, if_pos (by omega)]
  · rw [if_neg h1]
    by_cases h2 : lo ≤ (j : Int) ∧ (j : Int) < i
    · rw [if_pos h2, if_pos (by omega)]
    · rw [if_neg h2, if_neg (by omega)]
theorem cl_0 (g : Nat → Int64) (lo : Int) : clJ g lo lo = g := by
  funext j
  unfold clJ
  exact if_neg (by omega)
theorem wd_0 (f fb : Int → Int) (N fr : Int) : wdZ f fb N fr 0 = f := by
  funext j
  unfold wdZ
  exact if_neg (by omega)
theorem wd_s (f fb : Int → Int) (N fr : Int) {i : Int} (h : 0 ≤ i) : up (wdZ f fb N fr i) i (byS fb N (fr + i) - 97 + 1) = wdZ f fb N fr (i + 1) := by
  funext j
  unfold up wdZ
  by_cases h1 : j = i
  · rw [if_pos h1, if_pos (by omega), h1]
  · rw [if_neg h1]
    by_cases h2 : 0 ≤ j ∧ j < i
    · rw [if_pos h2, if_pos (by omega)]
    · rw [if_neg h2, if_neg (by omega)]
set_option maxHeartbeats 4000000 in
set_option maxRecDepth 100000 in
theorem c_J7_fill_53178 (l : Launch) (X : Cx) (w : Wo) (u n : Nat) (f : Int → Int) (x : Int) (hu : w u = some (aZ X n f)) (hn : (n : Int) < 2147483648) : CM l X yJ7_fill_53178 cJ7_fill_53178 4 none (rmk 0 0) [.ref u, .int (iI x)] w none (fun w' => w' u = some (aZ X n (flZ f n x)) ∧ ∀ q : Nat, q ≠ u → w' q = w q) := by
  refine CM.of (lv := [(0, .ref u), (1, .int (iI x))]) (by decide) (Nat.le_of_ble_eq_true rfl) rfl (fun p e s m below meth c ls F hr hlk hin hW hS hl => ?_)
  have hZ0 := hW.2.2
  have hB9 := hW.1.2
  clear hin
  refine h_iconst F dJ7_fill_53178_0 ?_
  refine lv_istore_n (lv' := [(2, .int (iI 0)), (0, .ref u), (1, .int (iI x))]) F.1 F.2.1 dJ7_fill_53178_1 rfl hl (by decide) rfl (fun ls hl => ?_)
  refine lv_aload_n F.1 F.2.1 dJ7_fill_53178_2 rfl (lv_at hl 1 rfl) ?_
  refine h_alen (k := 0) (n := n) F hW rfl hu dJ7_fill_53178_3 ?_
  refine lv_istore_n (lv' := [(3, .int (iI n)), (2, .int (iI 0)), (0, .ref u), (1, .int (iI x))]) F.1 F.2.1 dJ7_fill_53178_4 rfl hl (by decide) rfl (fun ls hl => ?_)
  have loop5 : ∀ (n9 : Nat) (i : Int), (hrg : 0 ≤ i ∧ i ≤ (n : Int)) → (hms : (n : Int) - i < (n9 : Int)) → (w9 : Wo) → (hA5_0 : w9 u = some (aZ X n (flZ f i x))) → (hF5 : ∀ q : Nat, q ≠ u → w9 q = w q) → (H : Heap) → (locs : List Loc) → (ls : Array Slot) → Wd X w9 s H → va_S (cxA X) s.heap H locs → lv_has ls 4 [(2, .int (iI i)), (3, .int (iI n)), (0, .ref u), (1, .int (iI x))] → W p l e (rmk 0 0) s m (List.toArray [.ref u, .int (iI x)]) below meth c H locs 0 0 (MX X below (List.toArray [.ref u, .int (iI x)]) s 0 0 none (fun w' => w' u = some (aZ X n (flZ f n x)) ∧ ∀ q : Nat, q ≠ u → w' q = w q)) (F0 m 5 ls []) := by
    intro n9
    induction n9 with
    | zero => intro i  hrg hms; exfalso; omega
    | succ n9 ih5 =>
      intro i  hrg hms w9 hA5_0 hF5  H locs ls hW hS hl
      refine lv_iload_n F.1 F.2.1 dJ7_fill_53178_5 rfl (lv_at hl 0 rfl) ?_
      refine lv_iload_n F.1 F.2.1 dJ7_fill_53178_6 rfl (lv_at hl 1 rfl) ?_
      refine h_icge (tgt := 20) F dJ7_fill_53178_7 (by decide) (by omega) (fun c1 => ?_) (fun c1 => ?_)
      · exact h_vret F hr hlk hW hS ⟨(by rw [hA5_0]; rw [show i = (n : Int) by omega]), (fun q h09 => by rw [hF5 q (by omega)])⟩ dJ7_fill_53178_20
      · refine lv_aload_n F.1 F.2.1 dJ7_fill_53178_10 rfl (lv_at hl 2 rfl) ?_
        refine lv_iload_n F.1 F.2.1 dJ7_fill_53178_11 rfl (lv_at hl 0 rfl) ?_
        refine lv_iload_n F.1 F.2.1 dJ7_fill_53178_12 rfl (lv_at hl 3 rfl) ?_
        refine h_iast F hW hS hA5_0 (by omega) (by omega) dJ7_fill_53178_13 (fun w2 H locs ho4 hn3 hW hS => ?_)
        refine h_iinc (k := 0) (a := i) (lv' := [(2, .int (iI (i + 1))), (3, .int (iI n)), (0, .ref u), (1, .int (iI x))]) F dJ7_fill_53178_14 hl rfl (by decide) rfl (fun ls hl => ?_)
        refine h_goto (tgt := 5) F dJ7_fill_53178_17 (by decide) ?_
        have eq5 : ((i + 1) : Int) = i + 1 := by first | rfl | omega | simp
        exact ih5 (i + 1)  (by omega) (by omega) w2 (by rw [show (flZ f (i + 1) x : Int → Int) = up (flZ f i x) i x from (up_fl _ (by omega) _).symm]; exact ho4) (fun q h09 => by rw [hn3 q (by omega), hF5 q h09])  _ _ ls hW hS (by rw [eq5]; exact lv_sub hl [0, 1, 2, 3] rfl)
  exact loop5 (((n : Int) - 0) + 1 : Int).toNat 0  (by omega) (by omega) w (by rw [show (flZ f 0 x : Int → Int) = f from fl_0 _ _]; exact hu) (fun q _ => rfl)  _ _ ls hW hS (lv_sub hl [1, 0, 2, 3] rfl)
set_option maxHeartbeats 4000000 in
set_option maxRecDepth 100000 in
theorem c_J7_fill_d0a16 (l : Launch) (X : Cx) (w : Wo) (u n : Nat) (g : Nat → Int64) (x : Int64) (hu : w u = some (aJ X n g)) (hn : (n : Int) < 2147483648) : CM l X yJ7_fill_d0a16 cJ7_fill_d0a16 5 none (rmk 0 0) [.ref u, .long x] w none (fun w' => w' u = some (aJ X n (flJ g n x)) ∧ ∀ q : Nat, q ≠ u → w' q = w q) := by
  refine CM.of (lv := [(0, .ref u), (1, .long x)]) (by decide) (Nat.le_of_ble_eq_true rfl) rfl (fun p e s m below meth c ls F hr hlk hin hW hS hl => ?_)
  have hZ0 := hW.2.2
  have hB9 := hW.1.2
  clear hin
  refine h_iconst F dJ7_fill_d0a16_0 ?_
  refine lv_istore_n (lv' := [(3, .int (iI 0)), (0, .ref u), (1, .long x)]) F.1 F.2.1 dJ7_fill_d0a16_1 rfl hl (by decide) rfl (fun ls hl => ?_)
  refine lv_aload_n F.1 F.2.1 dJ7_fill_d0a16_2 rfl (lv_at hl 1 rfl) ?_
  refine h_alen (k := 1) (n := n) F hW rfl hu dJ7_fill_d0a16_3 ?_
  refine lv_istore (lv' := [(4, .int (iI n)), (3, .int (iI 0)), (0, .ref u), (1, .long x)]) F.1 F.2.1 dJ7_fill_d0a16_4 hl (by decide) rfl (fun ls hl => ?_)
  have loop6 : ∀ (n9 : Nat) (i : Int), (hrg : 0 ≤ i ∧ i ≤ (n : Int)) → (hms : (n : Int) - i < (n9 : Int)) → (w9 : Wo) → (hA6_0 : w9 u = some (aJ X n (flJ g i x))) → (hF6 : ∀ q : Nat, q ≠ u → w9 q = w q) → (H : Heap) → (locs : List Loc) → (ls : Array Slot) → Wd X w9 s H → va_S (cxA X) s.heap H locs → lv_has ls 5 [(3, .int (iI i)), (4, .int (iI n)), (0, .ref u), (1, .long x)] → W p l e (rmk 0 0) s m (List.toArray [.ref u, .long x]) below meth c H locs 0 0 (MX X below (List.toArray [.ref u, .long x]) s 0 0 none (fun w' => w' u = some (aJ X n (flJ g n x)) ∧ ∀ q : Nat, q ≠ u → w' q = w q)) (F0 m 6 ls []) := by
    intro n9
    induction n9 with
    | zero => intro i  hrg hms; exfalso; omega
    | succ n9 ih6 =>
      intro i  hrg hms w9 hA6_0 hF6  H locs ls hW hS hl
      refine lv_iload_n F.1 F.2.1 dJ7_fill_d0a16_6 rfl (lv_at hl 0 rfl) ?_
      refine lv_iload F.1 F.2.1 dJ7_fill_d0a16_7 (lv_at hl 1 rfl) ?_
      refine h_icge (tgt := 22) F dJ7_fill_d0a16_9 (by decide) (by omega) (fun c1 => ?_) (fun c1 => ?_)
      · exact h_vret F hr hlk hW hS ⟨(by rw [hA6_0]; rw [show i = (n : Int) by omega]), (fun q h09 => by rw [hF6 q (by omega)])⟩ dJ7_fill_d0a16_22
      · refine lv_aload_n F.1 F.2.1 dJ7_fill_d0a16_12 rfl (lv_at hl 2 rfl) ?_
        refine lv_iload_n F.1 F.2.1 dJ7_fill_d0a16_13 rfl (lv_at hl 0 rfl) ?_
        refine lv_lload_n F.1 F.2.1 dJ7_fill_d0a16_14 rfl (lv_at hl 3 rfl) ?_
        refine h_last F hW hS hA6_0 (by omega) (by omega) dJ7_fill_d0a16_15 (fun w2 H locs ho4 hn3 hW hS => ?_)
        refine h_iinc (k := 0) (a := i) (lv' := [(3, .int (iI (i + 1))), (4, .int (iI n)), (0, .ref u), (1, .long x)]) F dJ7_fill_d0a16_16 hl rfl (by decide) rfl (fun ls hl => ?_)
        refine h_goto (tgt := 6) F dJ7_fill_d0a16_19 (by decide) ?_
        have eq5 : ((i + 1) : Int) = i + 1 := by first | rfl | omega | simp
        exact ih6 (i + 1)  (by omega) (by omega) w2 (by rw [show (flJ g (i + 1) x : Nat → Int64) = vp_updL (flJ g i x) i.toNat x from (up_flJ _ (by omega) _).symm]; exact ho4) (fun q h09 => by rw [hn3 q (by omega), hF6 q h09])  _ _ ls hW hS (by rw [eq5]; exact lv_sub hl [0, 1, 2, 3] rfl)
  exact loop6 (((n : Int) - 0) + 1 : Int).toNat 0  (by omega) (by omega) w (by rw [show (flJ g 0 x : Nat → Int64) = g from fl_0J _ _]; exact hu) (fun q _ => rfl)  _ _ ls hW hS (lv_sub hl [1, 0, 2, 3] rfl)
set_option maxHeartbeats 4000000 in
set_option maxRecDepth 100000 in
theorem c_X3_set (l : Launch) (X : Cx) (w : Wo) (a : Nat) (gr : Int → Int → Int) (cn rn co : Int) (hg : gridAt X w a gr) (hc : 0 ≤ cn ∧ cn < 40 ∧ 0 ≤ rn ∧ rn < 30) (hco : -1 ≤ co ∧ co ≤ 6) : CM l X yX3_set cX3_set 6 none (rmk 1 21) [.ref a, .int (iI cn), .int (iI rn), .int (iI co)] w none (fun w' => gridAt X w' a (gup gr cn rn co) ∧ ∀ q : Nat, q ≠ a + 1 → w' q = w q) := by
  refine CM.of (lv := [(0, .ref a), (1, .int (iI cn)), (2, .int (iI rn)), (3, .int (iI co))]) (by decide) (Nat.le_of_ble_eq_true rfl) rfl (fun p e s m below meth c ls F hr hlk hin hW hS hl => ?_)
  have hZ0 := hW.2.2
  have hB9 := hW.1.2
  clear hin
  obtain ⟨hg0, g, hg1, hgo⟩ := hg
  refine h_iconst F dX3_set_0 ?_
  refine lv_iload_n F.1 F.2.1 dX3_set_1 rfl (lv_at hl 2 rfl) ?_
  refine h_imul (a := 2) (b := rn) F dX3_set_2 ?_
  refine lv_iload_n F.1 F.2.1 dX3_set_3 rfl (lv_at hl 1 rfl) ?_
  refine h_bipush F dX3_set_4 rfl ?_
  refine h_idiv F dX3_set_6 (by omega) ?_
  refine h_iadd (a := 2 * rn) (b := cn / 20) F dX3_set_7 ?_
  refine lv_istore (lv' := [(4, .int (iI ((2 * rn) + (cn / 20)))), (0, .ref a), (1, .int (iI cn)), (2, .int (iI rn)), (3, .int (iI co))]) F.1 F.2.1 dX3_set_8 hl (by decide) rfl (fun ls hl => ?_)
  refine lv_iload_n F.1 F.2.1 dX3_set_10 rfl (lv_at hl 2 rfl) ?_
  refine lv_iload_n F.1 F.2.1 dX3_set_11 rfl (lv_at hl 3 rfl) ?_
  refine cl_RX3_21 (As := [.int (iI cn), .int (iI rn)]) (rest := []) F hl (c_X3_isCell l X w cn rn (by omega) (by omega)) hW hS rfl rfl ⟨Nat.le_of_ble_eq_true rfl, Nat.le_of_ble_eq_true rfl⟩ (Nat.le_of_ble_eq_true rfl) ⟨Nat.zero_le _, Nat.zero_le _⟩ dX3_set_12 (fun w1 H locs hp1 hW hS => ?_)
  rw [hp1] at hW; clear hp1; clear w1
  refine h_ifeqb (tgt := 33) F dX3_set_15 (by decide) (fun c2 => ?_) (fun c2 => ?_)
  · have c2d := of_decide_eq_false c2
    exfalso; have := of_decide_eq_false c2; omega
  · have c2d := of_decide_eq_true c2
    refine lv_iload F.1 F.2.1 dX3_set_18 (lv_at hl 0 rfl) ?_
    refine h_iflt (tgt := 33) F dX3_set_20 (by decide) (by omega) (fun c3 => ?_) (fun c3 => ?_)
    · exfalso; omega
    · refine lv_iload F.1 F.2.1 dX3_set_23 (lv_at hl 0 rfl) ?_
      refine lv_aload_n F.1 F.2.1 dX3_set_25 rfl (lv_at hl 1 rfl) ?_
      refine gf_RX3_11 F hW hg0 rfl dX3_set_26 ?_
      refine h_alen (k := 1) (n := 60) F hW rfl hg1 dX3_set_29 ?_
      refine h_iclt (tgt := 34) F dX3_set_30 (by decide) (by omega) (fun c4 => ?_) (fun c4 => ?_)
      · refine lv_iload_n F.1 F.2.1 dX3_set_34 rfl (lv_at hl 2 rfl) ?_
        refine cl_RX3_25 (As := [.int (iI cn)]) (rest := []) F hl (c_X3_shiftOf l X w cn (by omega)) hW hS rfl rfl ⟨Nat.le_of_ble_eq_true rfl, Nat.le_of_ble_eq_true rfl⟩ (Nat.le_of_ble_eq_true rfl) ⟨Nat.zero_le _, Nat.zero_le _⟩ dX3_set_35 (fun w1 H locs hp5 hW hS => ?_)
        rw [hp5] at hW; clear hp5; clear w1
        refine lv_istore (lv' := [(5, .int (iI (3 * (cn % 20)))), (4, .int (iI ((2 * rn) + (cn / 20)))), (0, .ref a), (1, .int (iI cn)), (2, .int (iI rn)), (3, .int (iI co))]) F.1 F.2.1 dX3_set_38 hl (by decide) rfl (fun ls hl => ?_)
        refine lv_aload_n F.1 F.2.1 dX3_set_40 rfl (lv_at hl 2 rfl) ?_
        refine gf_RX3_11 F hW hg0 rfl dX3_set_41 ?_
        refine lv_iload F.1 F.2.1 dX3_set_44 (lv_at hl 1 rfl) ?_
        refine lv_aload_n F.1 F.2.1 dX3_set_46 rfl (lv_at hl 2 rfl) ?_
        refine gf_RX3_11 F hW hg0 rfl dX3_set_47 ?_
        refine lv_iload F.1 F.2.1 dX3_set_50 (lv_at hl 1 rfl) ?_
        refine h_lald F hW hg1 (by omega) (by omega) dX3_set_52 ?_
        refine h_ldc2 (n := 7) F kk_RX3_29 dX3_set_53 ?_
        refine lv_iload F.1 F.2.1 dX3_set_56 (lv_at hl 0 rfl) ?_
        refine lv_lshl F.1 F.2.1 dX3_set_58 (v := (lI 7) <<< ((iI (3 * (cn % 20))).toInt64 &&& 63)) rfl ?_
        refine h_ldc2 (n := (-1)) F (by rw [show lI (-1) = (-1 : Int64) by decide +kernel]; exact kk_RX3_31) dX3_set_59 ?_
        refine lv_lxor F.1 F.2.1 dX3_set_62 ?_
        refine lv_land F.1 F.2.1 dX3_set_63 ?_
        refine lv_iload_n F.1 F.2.1 dX3_set_64 rfl (lv_at hl 5 rfl) ?_
        refine h_i2l F dX3_set_65 (by omega) ?_
        refine h_ldc2 (n := 7) F kk_RX3_29 dX3_set_66 ?_
        refine lv_land F.1 F.2.1 dX3_set_69 ?_
        refine lv_iload F.1 F.2.1 dX3_set_70 (lv_at hl 0 rfl) ?_
        refine lv_lshl F.1 F.2.1 dX3_set_72 (v := ((lI co) &&& (lI 7)) <<< ((iI (3 * (cn % 20))).toInt64 &&& 63)) rfl ?_
        refine lv_lor F.1 F.2.1 dX3_set_73 ?_
        refine h_last F hW hS hg1 (by omega) (by omega) dX3_set_74 (fun w6 H locs ho8 hn7 hW hS => ?_)
        have hg0 := (hn7 _ (by omega)).trans hg0
        exact h_vret F hr hlk hW hS ⟨⟨hg0, _, ho8, gOK_set hgo (by omega) (by omega)⟩, (fun q h09 => by rw [hn7 q (by omega)])⟩ dX3_set_75
      · exfalso; omega
set_option maxHeartbeats 4000000 in
set_option maxRecDepth 100000 in
theorem c_X3_clearToGround (l : Launch) (X : Cx) (w : Wo) (a : Nat) (gr : Int → Int → Int) (hg : gridAt X w a gr) : CM l X yX3_clearToGround cX3_clearToGround 1 none (rmk 1 24) [.ref a] w none (fun w' => gridAt X w' a (fun _ _ => 0) ∧ ∀ q : Nat, q ≠ a + 1 → w' q = w q) := by
  refine CM.of (lv := [(0, .ref a)]) (by decide) (Nat.le_of_ble_eq_true rfl) rfl (fun p e s m below meth c ls F hr hlk hin hW hS hl => ?_)
  have hZ0 := hW.2.2
  have hB9 := hW.1.2
  clear hin
  obtain ⟨hg0, g, hg1, hgo⟩ := hg
  refine lv_aload_n F.1 F.2.1 dX3_clearToGround_0 rfl (lv_at hl 0 rfl) ?_
  refine gf_RX3_11 F hW hg0 rfl dX3_clearToGround_1 ?_
  refine h_lconst (n := 0) (z := 0) F dX3_clearToGround_4 rfl ?_
  refine cl_RX3_33 (As := [.ref (a + 1), .long (lI 0)]) (rest := []) F hl (c_J7_fill_d0a16 l X w (a + 1) 60 g (lI 0) hg1 (by omega)) hW hS rfl rfl ⟨Nat.le_of_ble_eq_true rfl, Nat.le_of_ble_eq_true rfl⟩ (Nat.le_of_ble_eq_true rfl) ⟨Nat.zero_le _, Nat.zero_le _⟩ dX3_clearToGround_5 (fun w1 H locs hp2 hW hS => ?_)
  obtain ⟨ha3, hn4⟩ := hp2
  have hg0 := (hn4 _ (by omega)).trans hg0
  exact h_vret F hr hlk hW hS ⟨⟨hg0, _, ha3, gOK_0⟩, (fun q h09 => by rw [hn4 q (by omega)])⟩ dX3_clearToGround_8
set_option maxHeartbeats 4000000 in
set_option maxRecDepth 100000 in
theorem c_X3_clearFrom (l : Launch) (X : Cx) (w : Wo) (a : Nat) (gr : Int → Int → Int) (rn : Int) (hg : gridAt X w a gr) (hr : 0 ≤ rn ∧ rn ≤ 30) : CM l X yX3_clearFrom cX3_clearFrom 3 none (rmk 1 24) [.ref a, .int (iI rn)] w none (fun w' => gridAt X w' a (fun c2 r2 => if rn ≤ r2 then -1 else gr c2 r2) ∧ ∀ q : Nat, q ≠ a + 1 → w' q = w q) := by
  refine CM.of (lv := [(0, .ref a), (1, .int (iI rn))]) (by decide) (Nat.le_of_ble_eq_true rfl) rfl (fun p e s m below meth c ls F hr hlk hin hW hS hl => ?_)
  have hZ0 := hW.2.2
  have hB9 := hW.1.2
  clear hin
  obtain ⟨hg0, g, hg1, hgo⟩ := hg
  refine h_iconst F dX3_clearFrom_0 ?_
  refine h_iconst F dX3_clearFrom_1 ?_
  refine lv_iload_n F.1 F.2.1 dX3_clearFrom_2 rfl (lv_at hl 1 rfl) ?_
  refine h_imul (a := 2) (b := rn) F dX3_clearFrom_3 ?_
  refine h_mmax (index := 39) (a := 0) (b := 2 * rn) F hl km_RX3_39 (Nat.le_of_ble_eq_true rfl) (Nat.le_of_ble_eq_true rfl) (Nat.zero_le _) (Nat.zero_le _) (by omega) dX3_clearFrom_4 ?_
  refine h_top (show (max 0 (2 * rn) : Int) = 2 * rn from by omega) ?_
  refine lv_istore_n (lv' := [(2, .int (iI (2 * rn))), (0, .ref a), (1, .int (iI rn))]) F.1 F.2.1 dX3_clearFrom_7 rfl hl (by decide) rfl (fun ls hl => ?_)
  have loop8 : ∀ (n9 : Nat) (i : Int), (hrg : 2 * rn ≤ i ∧ i ≤ 60) → (hms : 60 - i < (n9 : Int)) → (w9 : Wo) → (hA8_0 : w9 (a + 1) = some (aJ X 60 (clJ g (2 * rn) i))) → (hF8 : ∀ q : Nat, q ≠ a + 1 → w9 q = w q) → (H : Heap) → (locs : List Loc) → (ls : Array Slot) → Wd X w9 s H → va_S (cxA X) s.heap H locs → lv_has ls 3 [(2, .int (iI i)), (0, .ref a), (1, .int (iI rn))] → W p l e (rmk 1 24) s m (List.toArray [.ref a, .int (iI rn)]) below meth c H locs 0 0 (MX X below (List.toArray [.ref a, .int (iI rn)]) s 0 0 none (fun w' => gridAt X w' a (fun c2 r2 => if rn ≤ r2 then -1 else gr c2 r2) ∧ ∀ q : Nat, q ≠ a + 1 → w' q = w q)) (F0 m 8 ls []) := by
    intro n9
    induction n9 with
    | zero => intro i  hrg hms; exfalso; omega
    | succ n9 ih8 =>
      intro i  hrg hms w9 hA8_0 hF8  H locs ls hW hS hl
      have hg0 := (hF8 _ (by omega)).trans hg0
      refine lv_iload_n F.1 F.2.1 dX3_clearFrom_8 rfl (lv_at hl 0 rfl) ?_
      refine lv_aload_n F.1 F.2.1 dX3_clearFrom_9 rfl (lv_at hl 1 rfl) ?_
      refine gf_RX3_11 F hW hg0 rfl dX3_clearFrom_10 ?_
      refine h_alen (k := 1) (n := 60) F hW rfl hA8_0 dX3_clearFrom_13 ?_
      refine h_icge (tgt := 32) F dX3_clearFrom_14 (by decide) (by omega) (fun c1 => ?_) (fun c1 => ?_)
      · exact h_vret F hr hlk hW hS ⟨⟨hg0, _, (by rw [hA8_0, show i = 60 by omega]), gOK_cl hgo (by omega)⟩, (fun q h09 => by rw [hF8 q (by omega)])⟩ dX3_clearFrom_32
      · refine lv_aload_n F.1 F.2.1 dX3_clearFrom_17 rfl (lv_at hl 1 rfl) ?_
        refine gf_RX3_11 F hW hg0 rfl dX3_clearFrom_18 ?_
        refine lv_iload_n F.1 F.2.1 dX3_clearFrom_21 rfl (lv_at hl 0 rfl) ?_
        refine h_ldc2 (n := (-1)) F (by rw [show lI (-1) = (-1 : Int64) by decide +kernel]; exact kk_RX3_31) dX3_clearFrom_22 ?_
        refine h_last F hW hS hA8_0 (by omega) (by omega) dX3_clearFrom_25 (fun w2 H locs ho4 hn3 hW hS => ?_)
        have hg0 := (hn3 _ (by omega)).trans hg0
        refine h_iinc (k := 0) (a := i) (lv' := [(2, .int (iI (i + 1))), (0, .ref a), (1, .int (iI rn))]) F dX3_clearFrom_26 hl rfl (by decide) rfl (fun ls hl => ?_)
        refine h_goto (tgt := 8) F dX3_clearFrom_29 (by decide) ?_
        have eq5 : ((i + 1) : Int) = i + 1 := by first | rfl | omega | simp
        exact ih8 (i + 1)  (by omega) (by omega) w2 (by rw [show (clJ g (2 * rn) (i + 1) : Nat → Int64) = vp_updL (clJ g (2 * rn) i) i.toNat (-1) from (up_cl _ (by omega)).symm]; exact ho4) (fun q h09 => by rw [hn3 q (by omega), hF8 q h09])  _ _ ls hW hS (by rw [eq5]; exact lv_sub hl [0, 1, 2] rfl)
  have eq6 : ((2 * rn) : Int) = 2 * rn := by first | rfl | omega | simp
  exact loop8 ((60 - (2 * rn)) + 1 : Int).toNat (2 * rn)  (by omega) (by omega) w (by rw [show (clJ g (2 * rn) (2 * rn) : Nat → Int64) = g from cl_0 _ _]; exact hg1) (fun q _ => rfl)  _ _ ls hW hS (by rw [eq6]; exact lv_sub hl [0, 1, 2] rfl)
set_option maxHeartbeats 4000000 in
set_option maxRecDepth 100000 in
theorem c_X3_copyFrom (l : Launch) (X : Cx) (w : Wo) (a b : Nat) (gr gr2 : Int → Int → Int) (hg : gridAt X w a gr) (hg2 : gridAt X w b gr2) (hne : a + 1 < b ∨ b + 1 < a) : CM l X yX3_copyFrom cX3_copyFrom 2 none (rmk 1 44) [.ref a, .ref b] w none (fun w' => gridAt X w' a gr2 ∧ ∀ q : Nat, q ≠ a + 1 → w' q = w q) := by
  refine CM.of (lv := [(0, .ref a), (1, .ref b)]) (by decide) (Nat.le_of_ble_eq_true rfl) rfl (fun p e s m below meth c ls F hr hlk hin hW hS hl => ?_)
  have hZ0 := hW.2.2
  have hB9 := hW.1.2
  clear hin
  obtain ⟨hg0, g, hg1, hgo⟩ := hg
  obtain ⟨hb0, g2, hb1, hbo⟩ := hg2
  refine lv_aload_n F.1 F.2.1 dX3_copyFrom_0 rfl (lv_at hl 1 rfl) ?_
  refine gf_RX3_11 F hW hb0 rfl dX3_copyFrom_1 ?_
  refine h_iconst F dX3_copyFrom_4 ?_
  refine lv_aload_n F.1 F.2.1 dX3_copyFrom_5 rfl (lv_at hl 0 rfl) ?_
  refine gf_RX3_11 F hW hg0 rfl dX3_copyFrom_6 ?_
  refine h_iconst F dX3_copyFrom_9 ?_
  refine lv_aload_n F.1 F.2.1 dX3_copyFrom_10 rfl (lv_at hl 0 rfl) ?_
  refine gf_RX3_11 F hW hg0 rfl dX3_copyFrom_11 ?_
  refine h_alen (k := 1) (n := 60) F hW rfl hg1 dX3_copyFrom_14 ?_
  refine h_copyl (index := 15) F hl hW hZ0 hB9 hS km_RX3_15 hb1 hg1 (by omega) (Nat.le_of_ble_eq_true rfl) (Nat.le_of_ble_eq_true rfl) dX3_copyFrom_15 (fun w1 H locs ha3 hn2 hW hS => ?_)
  have hg0 := (hn2 _ (by omega)).trans hg0
  have hb0 := (hn2 _ (by omega)).trans hb0
  have hb1 := (hn2 _ (by omega)).trans hb1
  exact h_vret F hr hlk hW hS ⟨⟨hg0, _, ha3, gOK_cp hbo⟩, (fun q h09 => by rw [hn2 q (by omega)])⟩ dX3_copyFrom_18
set_option maxHeartbeats 4000000 in
set_option maxRecDepth 100000 in
theorem c_X1_putAt (l : Launch) (X : Cx) (w : Wo) (z : Nat) (n sd x y co : Int) (f : Int → Int) (x2 y2 : Int) (hv : capV X w z n sd x y co f) : CM l X yX1_putAt cX1_putAt 3 none (rmk 0 0) [.ref z, .int (iI x2), .int (iI y2)] w none (fun w' => w' z = some (.inr (1, [.ref (z + 1), .int (iI n), .int (iI sd), .int (iI x2), .int (iI y2), .int (iI co)])) ∧ ∀ q : Nat, q ≠ z → w' q = w q) := by
  refine CM.of (lv := [(0, .ref z), (1, .int (iI x2)), (2, .int (iI y2))]) (by decide) (Nat.le_of_ble_eq_true rfl) rfl (fun p e s m below meth c ls F hr hlk hin hW hS hl => ?_)
  have hZ0 := hW.2.2
  have hB9 := hW.1.2
  clear hin
  have hv1 := hv.1
  refine lv_aload_n F.1 F.2.1 dX1_putAt_0 rfl (lv_at hl 0 rfl) ?_
  refine lv_iload_n F.1 F.2.1 dX1_putAt_1 rfl (lv_at hl 1 rfl) ?_
  refine pf_RX1_28 F hW hS hv1 (Nat.le_of_ble_eq_true rfl) dX1_putAt_2 (fun w1 H locs ho3 hn2 hW hS => ?_)
  have ho3 : w1 z = some (.inr (1, [.ref (z + 1), .int (iI n), .int (iI sd), .int (iI x2), .int (iI y), .int (iI co)])) := ho3
  refine lv_aload_n F.1 F.2.1 dX1_putAt_5 rfl (lv_at hl 0 rfl) ?_
  refine lv_iload_n F.1 F.2.1 dX1_putAt_6 rfl (lv_at hl 2 rfl) ?_
  refine pf_RX1_31 F hW hS ho3 (Nat.le_of_ble_eq_true rfl) dX1_putAt_7 (fun w4 H locs ho6 hn5 hW hS => ?_)
  have ho6 : w4 z = some (.inr (1, [.ref (z + 1), .int (iI n), .int (iI sd), .int (iI x2), .int (iI y2), .int (iI co)])) := ho6
  exact h_vret F hr hlk hW hS ⟨ho6, (fun q h09 => by rw [hn5 q (by omega), hn2 q (by omega)])⟩ dX1_putAt_10
set_option maxHeartbeats 4000000 in
set_option maxRecDepth 100000 in
theorem c_X1_copyFrom (l : Launch) (X : Cx) (w : Wo) (z : Nat) (n sd x y co : Int) (f : Int → Int) (z2 : Nat) (n2 sd2 x2 y2 co2 : Int) (f2 : Int → Int) (hv : capV X w z n sd x y co f) (hv2 : capV X w z2 n2 sd2 x2 y2 co2 f2) (hne : z + 1 < z2 ∨ z2 + 1 < z) : CM l X yX1_copyFrom cX1_copyFrom 2 none (rmk 1 44) [.ref z, .ref z2] w none (fun w' => w' z = some (.inr (1, [.ref (z + 1), .int (iI n2), .int (iI sd2), .int (iI x2), .int (iI y2), .int (iI co2)])) ∧ w' (z + 1) = some (aZ X 8 (cpZ f2 f 8)) ∧ ∀ q : Nat, q ≠ z → q ≠ z + 1 → w' q = w q) := by
  refine CM.of (lv := [(0, .ref z), (1, .ref z2)]) (by decide) (Nat.le_of_ble_eq_true rfl) rfl (fun p e s m below meth c ls F hr hlk hin hW hS hl => ?_)
  have hZ0 := hW.2.2
  have hB9 := hW.1.2
  clear hin
  have hv1 := hv.1
  have hv3 := hv.2
  have hw1 := hv2.1
  have hw3 := hv2.2
  refine lv_aload_n F.1 F.2.1 dX1_copyFrom_0 rfl (lv_at hl 1 rfl) ?_
  refine gf_RX1_9 F hW hw1 rfl dX1_copyFrom_1 ?_
  refine h_iconst F dX1_copyFrom_4 ?_
  refine lv_aload_n F.1 F.2.1 dX1_copyFrom_5 rfl (lv_at hl 0 rfl) ?_
  refine gf_RX1_9 F hW hv1 rfl dX1_copyFrom_6 ?_
  refine h_iconst F dX1_copyFrom_9 ?_
  refine lv_aload_n F.1 F.2.1 dX1_copyFrom_10 rfl (lv_at hl 0 rfl) ?_
  refine gf_RX1_9 F hW hv1 rfl dX1_copyFrom_11 ?_
  refine h_alen (k := 0) (n := 8) F hW rfl hv3 dX1_copyFrom_14 ?_
  refine h_copyi (index := 15) F hl hW hZ0 hB9 hS km_RX1_15 hw3 hv3 (by omega) (Nat.le_of_ble_eq_true rfl) (Nat.le_of_ble_eq_true rfl) dX1_copyFrom_15 (fun w1 H locs ha3 hn2 hW hS => ?_)
  have hv1 := (hn2 _ (by omega)).trans hv1
  have hw1 := (hn2 _ (by omega)).trans hw1
  have hw3 := (hn2 _ (by omega)).trans hw3
  refine lv_aload_n F.1 F.2.1 dX1_copyFrom_18 rfl (lv_at hl 0 rfl) ?_
  refine lv_aload_n F.1 F.2.1 dX1_copyFrom_19 rfl (lv_at hl 1 rfl) ?_
  refine gf_RX1_21 F hW hw1 rfl dX1_copyFrom_20 ?_
  refine pf_RX1_21 F hW hS hv1 (Nat.le_of_ble_eq_true rfl) dX1_copyFrom_23 (fun w4 H locs ho6 hn5 hW hS => ?_)
  have ho6 : w4 z = some (.inr (1, [.ref (z + 1), .int (iI n2), .int (iI sd), .int (iI x), .int (iI y), .int (iI co)])) := ho6
  have hw1 := (hn5 _ (by omega)).trans hw1
  have ha3 := (hn5 _ (by omega)).trans ha3
  have hw3 := (hn5 _ (by omega)).trans hw3
  refine lv_aload_n F.1 F.2.1 dX1_copyFrom_26 rfl (lv_at hl 0 rfl) ?_
  refine lv_aload_n F.1 F.2.1 dX1_copyFrom_27 rfl (lv_at hl 1 rfl) ?_
  refine gf_RX1_25 F hW hw1 rfl dX1_copyFrom_28 ?_
  refine pf_RX1_25 F hW hS ho6 (Nat.le_of_ble_eq_true rfl) dX1_copyFrom_31 (fun w7 H locs ho9 hn8 hW hS => ?_)
  have ho9 : w7 z = some (.inr (1, [.ref (z + 1), .int (iI n2), .int (iI sd2), .int (iI x), .int (iI y), .int (iI co)])) := ho9
  have hw1 := (hn8 _ (by omega)).trans hw1
  have ha3 := (hn8 _ (by omega)).trans ha3
  have hw3 := (hn8 _ (by omega)).trans hw3
  refine lv_aload_n F.1 F.2.1 dX1_copyFrom_34 rfl (lv_at hl 0 rfl) ?_
  refine lv_aload_n F.1 F.2.1 dX1_copyFrom_35 rfl (lv_at hl 1 rfl) ?_
  refine gf_RX1_28 F hW hw1 rfl dX1_copyFrom_36 ?_
  refine pf_RX1_28 F hW hS ho9 (Nat.le_of_ble_eq_true rfl) dX1_copyFrom_39 (fun w10 H locs ho12 hn11 hW hS => ?_)
  have ho12 : w10 z = some (.inr (1, [.ref (z + 1), .int (iI n2), .int (iI sd2), .int (iI x2), .int (iI y), .int (iI co)])) := ho12
  have hw1 := (hn11 _ (by omega)).trans hw1
  have ha3 := (hn11 _ (by omega)).trans ha3
  have hw3 := (hn11 _ (by omega)).trans hw3
  refine lv_aload_n F.1 F.2.1 dX1_copyFrom_42 rfl (lv_at hl 0 rfl) ?_
  refine lv_aload_n F.1 F.2.1 dX1_copyFrom_43 rfl (lv_at hl 1 rfl) ?_
  refine gf_RX1_31 F hW hw1 rfl dX1_copyFrom_44 ?_
  refine pf_RX1_31 F hW hS ho12 (Nat.le_of_ble_eq_true rfl) dX1_copyFrom_47 (fun w13 H locs ho15 hn14 hW hS => ?_)
  have ho15 : w13 z = some (.inr (1, [.ref (z + 1), .int (iI n2), .int (iI sd2), .int (iI x2), .int (iI y2), .int (iI co)])) := ho15
  have hw1 := (hn14 _ (by omega)).trans hw1
  have ha3 := (hn14 _ (by omega)).trans ha3
  have hw3 := (hn14 _ (by omega)).trans hw3
  refine lv_aload_n F.1 F.2.1 dX1_copyFrom_50 rfl (lv_at hl 0 rfl) ?_
  refine lv_aload_n F.1 F.2.1 dX1_copyFrom_51 rfl (lv_at hl 1 rfl) ?_
  refine gf_RX1_34 F hW hw1 rfl dX1_copyFrom_52 ?_
  refine pf_RX1_34 F hW hS ho15 (Nat.le_of_ble_eq_true rfl) dX1_copyFrom_55 (fun w16 H locs ho18 hn17 hW hS => ?_)
  have ho18 : w16 z = some (.inr (1, [.ref (z + 1), .int (iI n2), .int (iI sd2), .int (iI x2), .int (iI y2), .int (iI co2)])) := ho18
  have hw1 := (hn17 _ (by omega)).trans hw1
  have ha3 := (hn17 _ (by omega)).trans ha3
  have hw3 := (hn17 _ (by omega)).trans hw3
  exact h_vret F hr hlk hW hS ⟨ho18, ha3, (fun q h09 h19 => by rw [hn17 q (by omega), hn14 q (by omega), hn11 q (by omega), hn8 q (by omega), hn5 q (by omega), hn2 q (by omega)])⟩ dX1_copyFrom_58
set_option maxHeartbeats 4000000 in
set_option maxRecDepth 100000 in
theorem c_X1_takeWord (l : Launch) (X : Cx) (w : Wo) (z : Nat) (n sd x y co : Int) (f : Int → Int) (b t : Nat) (N : Int) (fb : Int → Int) (fr to : Int) (hv : capV X w z n sd x y co f) (hB : w b = some (.inr (0, [.ref t, .int (iI N)]))) (hT : w t = some (aZ X 400 fb)) (hne : z ≠ b ∧ z ≠ t ∧ z + 1 ≠ b ∧ z + 1 ≠ t) (hr : 0 ≤ fr ∧ fr < to ∧ to ≤ 400 ∧ 0 ≤ N ∧ N ≤ 400) : CM l X yX1_takeWord cX1_takeWord 5 none (rmk 1 24) [.ref z, .ref b, .int (iI fr), .int (iI to)] w none (fun w' => w' z = some (.inr (1, [.ref (z + 1), .int (iI (min (to - fr) 8)), .int (iI sd), .int (iI x), .int (iI y), .int (iI co)])) ∧ w' (z + 1) = some (aZ X 8 (wdZ f fb N fr (min (to - fr) 8))) ∧ ∀ q : Nat, q ≠ z → q ≠ z + 1 → w' q = w q) := by
  refine CM.of (lv := [(0, .ref z), (1, .ref b), (2, .int (iI fr)), (3, .int (iI to))]) (by decide) (Nat.le_of_ble_eq_true rfl) rfl (fun p e s m below meth c ls F hr hlk hin hW hS hl => ?_)
  have hZ0 := hW.2.2
  have hB9 := hW.1.2
  clear hin
  have hv1 := hv.1
  have hv3 := hv.2
  refine lv_aload_n F.1 F.2.1 dX1_takeWord_0 rfl (lv_at hl 0 rfl) ?_
  refine lv_iload_n F.1 F.2.1 dX1_takeWord_1 rfl (lv_at hl 3 rfl) ?_
  refine lv_iload_n F.1 F.2.1 dX1_takeWord_2 rfl (lv_at hl 2 rfl) ?_
  refine h_isub (a := to) (b := fr) F dX1_takeWord_3 ?_
  refine h_bipush F dX1_takeWord_4 rfl ?_
  refine h_mmin (index := 37) (a := to - fr) (b := 8) F hl km_RX1_37 (Nat.le_of_ble_eq_true rfl) (Nat.le_of_ble_eq_true rfl) (Nat.zero_le _) (Nat.zero_le _) (by omega) dX1_takeWord_6 ?_
  refine pf_RX1_21 F hW hS hv1 (Nat.le_of_ble_eq_true rfl) dX1_takeWord_9 (fun w1 H locs ho3 hn2 hW hS => ?_)
  have ho3 : w1 z = some (.inr (1, [.ref (z + 1), .int (iI (min (to - fr) 8)), .int (iI sd), .int (iI x), .int (iI y), .int (iI co)])) := ho3
  have hB := (hn2 _ (by omega)).trans hB
  have hv3 := (hn2 _ (by omega)).trans hv3
  have hT := (hn2 _ (by omega)).trans hT
  refine h_iconst F dX1_takeWord_12 ?_
  refine lv_istore (lv' := [(4, .int (iI 0)), (0, .ref z), (1, .ref b), (2, .int (iI fr)), (3, .int (iI to))]) F.1 F.2.1 dX1_takeWord_13 hl (by decide) rfl (fun ls hl => ?_)
  have loop15 : ∀ (n9 : Nat) (i : Int), (hrg : 0 ≤ i ∧ i ≤ min (to - fr) 8) → (hms : min (to - fr) 8 - i < (n9 : Int)) → (w9 : Wo) → (hO15_0 : w9 z = some (.inr (1, [.ref (z + 1), .int (iI (min (to - fr) 8)), .int (iI sd), .int (iI x), .int (iI y), .int (iI co)]))) → (hA15_0 : w9 (z + 1) = some (aZ X 8 (wdZ f fb N fr i))) → (hF15 : ∀ q : Nat, q ≠ z → q ≠ z + 1 → w9 q = w1 q) → (H : Heap) → (locs : List Loc) → (ls : Array Slot) → Wd X w9 s H → va_S (cxA X) s.heap H locs → lv_has ls 5 [(4, .int (iI i)), (0, .ref z), (1, .ref b), (2, .int (iI fr)), (3, .int (iI to))] → W p l e (rmk 1 24) s m (List.toArray [.ref z, .ref b, .int (iI fr), .int (iI to)]) below meth c H locs 0 0 (MX X below (List.toArray [.ref z, .ref b, .int (iI fr), .int (iI to)]) s 0 0 none (fun w' => w' z = some (.inr (1, [.ref (z + 1), .int (iI (min (to - fr) 8)), .int (iI sd), .int (iI x), .int (iI y), .int (iI co)])) ∧ w' (z + 1) = some (aZ X 8 (wdZ f fb N fr (min (to - fr) 8))) ∧ ∀ q : Nat, q ≠ z → q ≠ z + 1 → w' q = w q)) (F0 m 15 ls []) := by
    intro n9
    induction n9 with
    | zero => intro i  hrg hms; exfalso; omega
    | succ n9 ih15 =>
      intro i  hrg hms w9 hO15_0 hA15_0 hF15  H locs ls hW hS hl
      have hB := (hF15 _ (by omega) (by omega)).trans hB
      have hT := (hF15 _ (by omega) (by omega)).trans hT
      refine lv_iload F.1 F.2.1 dX1_takeWord_15 (lv_at hl 0 rfl) ?_
      refine lv_aload_n F.1 F.2.1 dX1_takeWord_17 rfl (lv_at hl 1 rfl) ?_
      refine gf_RX1_21 F hW hO15_0 rfl dX1_takeWord_18 ?_
      refine h_icge (tgt := 52) F dX1_takeWord_21 (by decide) (by omega) (fun c4 => ?_) (fun c4 => ?_)
      · exact h_vret F hr hlk hW hS ⟨hO15_0, (by rw [hA15_0]; rw [show i = min (to - fr) 8 by omega]), (fun q h09 h19 => by rw [hF15 q (by omega) (by omega), hn2 q (by omega)])⟩ dX1_takeWord_52
      · refine lv_aload_n F.1 F.2.1 dX1_takeWord_24 rfl (lv_at hl 1 rfl) ?_
        refine gf_RX1_9 F hW hO15_0 rfl dX1_takeWord_25 ?_
        refine lv_iload F.1 F.2.1 dX1_takeWord_28 (lv_at hl 0 rfl) ?_
        refine lv_aload_n F.1 F.2.1 dX1_takeWord_30 rfl (lv_at hl 2 rfl) ?_
        refine lv_iload_n F.1 F.2.1 dX1_takeWord_31 rfl (lv_at hl 3 rfl) ?_
        refine lv_iload F.1 F.2.1 dX1_takeWord_32 (lv_at hl 0 rfl) ?_
        refine h_iadd (a := fr) (b := i) F dX1_takeWord_34 ?_
        refine cl_RX1_43 (As := [.int (iI (fr + i))]) (rest := [.int (iI i), .ref (z + 1)]) F hl (c_X0_byteAt l X w9 b t N fb (fr + i) hB hT (by omega) (by omega)) hW hS hB rfl rfl ⟨Nat.le_of_ble_eq_true rfl, Nat.le_of_ble_eq_true rfl⟩ (Nat.le_of_ble_eq_true rfl) ⟨Nat.zero_le _, Nat.zero_le _⟩ dX1_takeWord_35 (fun w1 H locs hp5 hW hS => ?_)
        rw [hp5] at hW; clear hp5; clear w1
        refine h_bipush F dX1_takeWord_38 rfl ?_
        refine h_isub (a := byS fb N (fr + i)) (b := 97) F dX1_takeWord_40 ?_
        refine h_iconst F dX1_takeWord_41 ?_
        refine h_iadd (a := (byS fb N (fr + i)) - 97) (b := 1) F dX1_takeWord_42 ?_
        refine cl_RX1_49 (As := [.ref (z + 1), .int (iI i), .int (iI (((byS fb N (fr + i)) - 97) + 1))]) (rest := []) F hl (c_X8_put l X w9 (z + 1) 8 (wdZ f fb N fr i) i (((byS fb N (fr + i)) - 97) + 1) hA15_0 (by omega) (by omega)) hW hS rfl rfl ⟨Nat.le_of_ble_eq_true rfl, Nat.le_of_ble_eq_true rfl⟩ (Nat.le_of_ble_eq_true rfl) ⟨Nat.zero_le _, Nat.zero_le _⟩ dX1_takeWord_43 (fun w6 H locs hp7 hW hS => ?_)
        obtain ⟨ha8, hn9⟩ := hp7
        have hO15_0 := (hn9 _ (by omega)).trans hO15_0
        have hB := (hn9 _ (by omega)).trans hB
        have hT := (hn9 _ (by omega)).trans hT
        refine h_iinc (k := 0) (a := i) (lv' := [(4, .int (iI (i + 1))), (0, .ref z), (1, .ref b), (2, .int (iI fr)), (3, .int (iI to))]) F dX1_takeWord_46 hl rfl (by decide) rfl (fun ls hl => ?_)
        refine h_goto (tgt := 15) F dX1_takeWord_49 (by decide) ?_
        have eq10 : ((i + 1) : Int) = i + 1 := by first | rfl | omega | simp
        exact ih15 (i + 1)  (by omega) (by omega) w6 hO15_0 (by rw [show (wdZ f fb N fr (i + 1) : Int → Int) = up (wdZ f fb N fr i) i (((byS fb N (fr + i)) - 97) + 1) from (wd_s _ _ _ _ (by omega)).symm]; exact ha8) (fun q h09 h19 => by rw [hn9 q (by omega), hF15 q h09 h19])  _ _ ls hW hS (by rw [eq10]; exact lv_sub hl [0, 1, 2, 3, 4] rfl)
  exact loop15 ((min (to - fr) 8 - 0) + 1 : Int).toNat 0  (by omega) (by omega) w1 ho3 (by rw [show (wdZ f fb N fr 0 : Int → Int) = f from wd_0 _ _ _ _]; exact hv3) (fun q _ _ => rfl)  _ _ ls hW hS (lv_sub hl [0, 1, 2, 3, 4] rfl)
