/-! ===== the constructors ===== -/
theorem cap0 : cap8 (fun _ => 0) := ⟨by show (0 : Int) ≤ 0 ∧ (0 : Int) ≤ 8; decide, fun k k0 k1 => by have e : k < 0 := k1; omega⟩
theorem dig0 (i : Nat) : dig (lI 0) i = gcode 0 ∧ -1 ≤ (0 : Int) ∧ (0 : Int) ≤ 6 := ⟨by unfold dig; simp [lI, gcode], by omega, by omega⟩

set_option maxHeartbeats 8000000 in
set_option maxRecDepth 100000 in
theorem n_X0_init (l : Launch) (X : Cx) (w : Wo) (a : Nat) (ho0 : w a = some (.inr (0, [.null, .int (iI 0)]))) : CN l X yX0_init cX0_init 1 { frames := 1, cells := 1, slots := 400, locals := 13 } [.ref a] (a + 1) w (fun w' => w' a = some (.inr (0, [.ref (a + 1), .int (iI 0)])) ∧ w' (a + 1) = some (aZ X 400 (fun _ => 0)) ∧ (∃ e0, w' (a + 1) = some e0) ∧ ∀ q : Nat, q ≠ a → q ≠ a + 1 → w' q = w q) := by
  refine CN.of (lv := [(0, .ref a)]) (by decide) (Nat.le_of_ble_eq_true rfl) rfl (fun p e s m below meth c ls F hr hlk hin hW hn9 hS hl => ?_)
  have hZ0 := hW.2.2
  have hB9 := hW.1.2
  refine lv_aload_n F.1 F.2.1 dX0_init_0 rfl (lv_at hl 0 rfl) ?_
  refine h_obj F hl hoL0 hoI dX0_init_1 ⟨Nat.le_of_ble_eq_true rfl, Nat.le_of_ble_eq_true rfl⟩ ?_
  refine lv_aload_n F.1 F.2.1 dX0_init_4 rfl (lv_at hl 0 rfl) ?_
  refine h_sipush F dX0_init_5 rfl ?_
  refine h_size0 hS (fun hz => ?_)
  have hz := hz.trans (show _ = a + 1 by omega)
  refine h_newP (a := a + 1) (N := 400) (k := 0) (atype := .int) (x := .inl (fun j : Nat => iI ((fun _ : Int => 0) (j : Int)))) F hW hS hz haCI rfl (hxI _) rfl (by decide) (by (try dsimp only); omega) dX0_init_8 (fun w1 H ha3 hn2 hW hS => ?_)
  have ha3 : w1 (a + 1) = some (aZ X 400 (fun _ => 0)) := ha3
  clear hz
  have ho0 := (hn2 _ (by omega)).trans ho0
  have hfr : ∀ q : Nat, q ≠ a → q ≠ a + 1 → w1 q = w q := fun q h09 h19 => (hn2 q (by omega))
  refine pf_RX0_9 F hW hS ho0 (Nat.le_of_ble_eq_true rfl) hin dX0_init_10 (fun w4 H locs ho6 hn5 hW hS => ?_)
  have ho6 : w4 a = some (.inr (0, [.ref (a + 1), .int (iI 0)])) := ho6
  have ha3 := (hn5 _ (by omega)).trans ha3
  have hfr : ∀ q : Nat, q ≠ a → q ≠ a + 1 → w4 q = w q := fun q h09 h19 => (hn5 q (by omega)).trans (hfr q h09 h19)
  refine W.widen (k := 1) (n := 400) (by (try dsimp only); omega) (by (try dsimp only); omega) ?_
  exact h_vret F hr hlk hW hS ⟨ho6, ha3, ⟨_, ha3⟩, hfr⟩ dX0_init_13
set_option maxHeartbeats 8000000 in
set_option maxRecDepth 100000 in
theorem n_X1_init (l : Launch) (X : Cx) (w : Wo) (a : Nat) (ho0 : w a = some (.inr (1, [.null, .int (iI 0), .int (iI 0), .int (iI 0), .int (iI 0), .int (iI 0)]))) : CN l X yX1_init cX1_init 1 { frames := 1, cells := 1, slots := 8, locals := 13 } [.ref a] (a + 1) w (fun w' => capV X w' a 0 0 0 0 0 (fun _ => 0) ∧ (∃ e0, w' (a + 1) = some e0) ∧ ∀ q : Nat, q ≠ a → q ≠ a + 1 → w' q = w q) := by
  refine CN.of (lv := [(0, .ref a)]) (by decide) (Nat.le_of_ble_eq_true rfl) rfl (fun p e s m below meth c ls F hr hlk hin hW hn9 hS hl => ?_)
  have hZ0 := hW.2.2
  have hB9 := hW.1.2
  refine lv_aload_n F.1 F.2.1 dX1_init_0 rfl (lv_at hl 0 rfl) ?_
  refine h_obj F hl hoL1 hoI dX1_init_1 ⟨Nat.le_of_ble_eq_true rfl, Nat.le_of_ble_eq_true rfl⟩ ?_
  refine lv_aload_n F.1 F.2.1 dX1_init_4 rfl (lv_at hl 0 rfl) ?_
  refine h_bipush F dX1_init_5 rfl ?_
  refine h_size0 hS (fun hz => ?_)
  have hz := hz.trans (show _ = a + 1 by omega)
  refine h_newP (a := a + 1) (N := 8) (k := 0) (atype := .int) (x := .inl (fun j : Nat => iI ((fun _ : Int => 0) (j : Int)))) F hW hS hz haCI rfl (hxI _) rfl (by decide) (by (try dsimp only); omega) dX1_init_7 (fun w1 H ha3 hn2 hW hS => ?_)
  have ha3 : w1 (a + 1) = some (aZ X 8 (fun _ => 0)) := ha3
  clear hz
  have ho0 := (hn2 _ (by omega)).trans ho0
  have hfr : ∀ q : Nat, q ≠ a → q ≠ a + 1 → w1 q = w q := fun q h09 h19 => (hn2 q (by omega))
  refine pf_RX1_9 F hW hS ho0 (Nat.le_of_ble_eq_true rfl) hin dX1_init_9 (fun w4 H locs ho6 hn5 hW hS => ?_)
  have ho6 : w4 a = some (.inr (1, [.ref (a + 1), .int (iI 0), .int (iI 0), .int (iI 0), .int (iI 0), .int (iI 0)])) := ho6
  have ha3 := (hn5 _ (by omega)).trans ha3
  have hfr : ∀ q : Nat, q ≠ a → q ≠ a + 1 → w4 q = w q := fun q h09 h19 => (hn5 q (by omega)).trans (hfr q h09 h19)
  refine W.widen (k := 1) (n := 8) (by (try dsimp only); omega) (by (try dsimp only); omega) ?_
  exact h_vret F hr hlk hW hS ⟨⟨ho6, ha3⟩, ⟨_, ha3⟩, hfr⟩ dX1_init_12
set_option maxHeartbeats 8000000 in
set_option maxRecDepth 100000 in
theorem n_X3_init (l : Launch) (X : Cx) (w : Wo) (a : Nat) (ho0 : w a = some (.inr (3, [.null]))) : CN l X yX3_init cX3_init 1 { frames := 1, cells := 1, slots := 60, locals := 13 } [.ref a] (a + 1) w (fun w' => w' a = some (.inr (3, [.ref (a + 1)])) ∧ w' (a + 1) = some (aJ X 60 (fun _ => lI 0)) ∧ (∃ e0, w' (a + 1) = some e0) ∧ ∀ q : Nat, q ≠ a → q ≠ a + 1 → w' q = w q) := by
  refine CN.of (lv := [(0, .ref a)]) (by decide) (Nat.le_of_ble_eq_true rfl) rfl (fun p e s m below meth c ls F hr hlk hin hW hn9 hS hl => ?_)
  have hZ0 := hW.2.2
  have hB9 := hW.1.2
  refine lv_aload_n F.1 F.2.1 dX3_init_0 rfl (lv_at hl 0 rfl) ?_
  refine h_obj F hl hoL3 hoI dX3_init_1 ⟨Nat.le_of_ble_eq_true rfl, Nat.le_of_ble_eq_true rfl⟩ ?_
  refine lv_aload_n F.1 F.2.1 dX3_init_4 rfl (lv_at hl 0 rfl) ?_
  refine h_bipush F dX3_init_5 rfl ?_
  refine h_size0 hS (fun hz => ?_)
  have hz := hz.trans (show _ = a + 1 by omega)
  refine h_newP (a := a + 1) (N := 60) (k := 1) (atype := .long) (x := .inr (.inl (fun _ => lI 0))) F hW hS hz haCJ rfl (hxJ _) rfl (by decide) (by (try dsimp only); omega) dX3_init_7 (fun w1 H ha3 hn2 hW hS => ?_)
  have ha3 : w1 (a + 1) = some (aJ X 60 (fun _ => lI 0)) := ha3
  clear hz
  have ho0 := (hn2 _ (by omega)).trans ho0
  have hfr : ∀ q : Nat, q ≠ a → q ≠ a + 1 → w1 q = w q := fun q h09 h19 => (hn2 q (by omega))
  refine pf_RX3_11 F hW hS ho0 (Nat.le_of_ble_eq_true rfl) hin dX3_init_9 (fun w4 H locs ho6 hn5 hW hS => ?_)
  have ho6 : w4 a = some (.inr (3, [.ref (a + 1)])) := ho6
  have ha3 := (hn5 _ (by omega)).trans ha3
  have hfr : ∀ q : Nat, q ≠ a → q ≠ a + 1 → w4 q = w q := fun q h09 h19 => (hn5 q (by omega)).trans (hfr q h09 h19)
  refine W.widen (k := 1) (n := 60) (by (try dsimp only); omega) (by (try dsimp only); omega) ?_
  exact h_vret F hr hlk hW hS ⟨ho6, ha3, ⟨_, ha3⟩, hfr⟩ dX3_init_12
set_option maxHeartbeats 8000000 in
set_option maxRecDepth 100000 in
theorem n_X6_init (l : Launch) (X : Cx) (w : Wo) (a b : Nat) (ho0 : w a = some (.inr (6, [.null, .int (iI 0), .int (iI 0), .int (iI 0), .int (iI 0), .int (iI 0), .int (iI 0), .int (iI 0)]))) : CN l X yX6_init cX6_init 2 { frames := 1, cells := 0, slots := 0, locals := 13 } [.ref a, .ref b] (a + 1) w (fun w' => w' a = some (.inr (6, [.ref b, .int (iI 0), .int (iI 0), .int (iI 0), .int (iI 0), .int (iI 0), .int (iI 0), .int (iI (-1))])) ∧ (∃ e0, w' (a) = some e0) ∧ ∀ q : Nat, q ≠ a → w' q = w q) := by
  refine CN.of (lv := [(0, .ref a), (1, .ref b)]) (by decide) (Nat.le_of_ble_eq_true rfl) rfl (fun p e s m below meth c ls F hr hlk hin hW hn9 hS hl => ?_)
  have hZ0 := hW.2.2
  have hB9 := hW.1.2
  refine lv_aload_n F.1 F.2.1 dX6_init_0 rfl (lv_at hl 0 rfl) ?_
  refine h_obj F hl hoL6 hoI dX6_init_1 ⟨Nat.le_of_ble_eq_true rfl, Nat.le_of_ble_eq_true rfl⟩ ?_
  refine lv_aload_n F.1 F.2.1 dX6_init_4 rfl (lv_at hl 0 rfl) ?_
  refine h_iconst F dX6_init_5 ?_
  refine pf_RX6_9 F hW hS ho0 (Nat.le_of_ble_eq_true rfl) dX6_init_6 (fun w1 H locs ho3 hn2 hW hS => ?_)
  have ho3 : w1 a = some (.inr (6, [.null, .int (iI 0), .int (iI 0), .int (iI 0), .int (iI 0), .int (iI 0), .int (iI 0), .int (iI (-1))])) := ho3
  have hfr : ∀ q : Nat, q ≠ a → w1 q = w q := fun q h09 => (hn2 q (by omega))
  refine lv_aload_n F.1 F.2.1 dX6_init_9 rfl (lv_at hl 0 rfl) ?_
  refine lv_aload_n F.1 F.2.1 dX6_init_10 rfl (lv_at hl 1 rfl) ?_
  refine pf_RX6_15 F hW hS ho3 (Nat.le_of_ble_eq_true rfl) hin dX6_init_11 (fun w4 H locs ho6 hn5 hW hS => ?_)
  have ho6 : w4 a = some (.inr (6, [.ref b, .int (iI 0), .int (iI 0), .int (iI 0), .int (iI 0), .int (iI 0), .int (iI 0), .int (iI (-1))])) := ho6
  have hfr : ∀ q : Nat, q ≠ a → w4 q = w q := fun q h09 => (hn5 q (by omega)).trans (hfr q h09)
  refine W.widen (k := 0) (n := 0) (by (try dsimp only); omega) (by (try dsimp only); omega) ?_
  exact h_vret F hr hlk hW hS ⟨ho6, ⟨_, ho6⟩, hfr⟩ dX6_init_14
set_option maxHeartbeats 8000000 in
set_option maxRecDepth 100000 in
theorem n_X2_init (l : Launch) (X : Cx) (w : Wo) (a b : Nat) (ho0 : w a = some (.inr (2, [.null, .null, .int (iI 0), .int (iI 0)]))) : CN l X yX2_init cX2_init 2 { frames := 2, cells := 2, slots := 14, locals := 33 } [.ref a, .ref b] (a + 1) w (fun w' => w' a = some (.inr (2, [.ref b, .ref (a + 1), .int (iI 0), .int (iI 0)])) ∧ capV X w' (a + 1) 0 0 0 0 0 (fun _ => 0) ∧ (∃ e0, w' (a + 1 + 1) = some e0) ∧ ∀ q : Nat, q ≠ a → q ≠ a + 1 → q ≠ a + 1 + 1 → w' q = w q) := by
  refine CN.of (lv := [(0, .ref a), (1, .ref b)]) (by decide) (Nat.le_of_ble_eq_true rfl) rfl (fun p e s m below meth c ls F hr hlk hin hW hn9 hS hl => ?_)
  have hZ0 := hW.2.2
  have hB9 := hW.1.2
  refine lv_aload_n F.1 F.2.1 dX2_init_0 rfl (lv_at hl 0 rfl) ?_
  refine h_obj F hl hoL2 hoI dX2_init_1 ⟨Nat.le_of_ble_eq_true rfl, Nat.le_of_ble_eq_true rfl⟩ ?_
  refine lv_aload_n F.1 F.2.1 dX2_init_4 rfl (lv_at hl 0 rfl) ?_
  refine h_size0 hS (fun hz => ?_)
  have hz := hz.trans (show _ = a + 1 by omega)
  refine h_new (ci := 1) (fs := [.null, .int (iI 0), .int (iI 0), .int (iI 0), .int (iI 0), .int (iI 0)]) F hW hS hz inX1 tyX1 tyX1_ok kl_RX2_9 kb_RX1 kn_RX1 rfl (by intro j hj; rcases (show j = 0 ∨ j = 1 ∨ j = 2 ∨ j = 3 ∨ j = 4 ∨ j = 5 by omega) with hj | hj | hj | hj | hj | hj <;> subst hj <;> rfl) (by (try dsimp only); omega) dX2_init_5 (fun w1 H ho3 hn2 hW hS => ?_)
  clear hz
  have ho0 := (hn2 _ (by omega)).trans ho0
  have hfr : ∀ q : Nat, q ≠ a → q ≠ a + 1 → q ≠ a + 1 + 1 → w1 q = w q := fun q h09 h19 h29 => (hn2 q (by omega))
  refine lv_dup F.1 F.2.1 dX2_init_8 rfl ?_
  refine h_size (q := a + 1) hW ho3 (by (try dsimp only); omega) (fun hz => ?_)
  have hz := hz.trans (show _ = (a + 1) + 1 by omega)
  refine h_callIN (As := []) (rest := [.ref (a + 1), .ref a]) F hl (n_X1_init l X w1 (a + 1) ho3) hW hS hz ⟨kc_yX1_init, kn_RX1, kN_RX2_11, ki_yX1_init⟩ rfl niX1 rfl rfl ⟨Nat.le_of_ble_eq_true rfl, Nat.le_of_ble_eq_true rfl⟩ (Nat.le_of_ble_eq_true rfl) (by (try dsimp only); omega) dX2_init_9 (fun w4 H locs hp5 hW hS => ?_)
  clear hz
  obtain ⟨hf6, ⟨ehl8, hl8⟩, hn7⟩ := hp5
  have ho0 := (hn7 _ (by omega) (by omega)).trans ho0
  have hfr : ∀ q : Nat, q ≠ a → q ≠ a + 1 → q ≠ a + 1 + 1 → w4 q = w q := fun q h09 h19 h29 => (hn7 q (by omega) (by omega)).trans (hfr q h09 h19 h29)
  have ohf6 := hf6.1
  have ahf6 := hf6.2
  refine pf_RX2_12 F hW hS ho0 (Nat.le_of_ble_eq_true rfl) hin dX2_init_12 (fun w9 H locs ho11 hn10 hW hS => ?_)
  have ho11 : w9 a = some (.inr (2, [.null, .ref (a + 1), .int (iI 0), .int (iI 0)])) := ho11
  have ohf6 := (hn10 _ (by omega)).trans ohf6
  have ahf6 := (hn10 _ (by omega)).trans ahf6
  have hfr : ∀ q : Nat, q ≠ a → q ≠ a + 1 → q ≠ a + 1 + 1 → w9 q = w q := fun q h09 h19 h29 => (hn10 q (by omega)).trans (hfr q h09 h19 h29)
  refine lv_aload_n F.1 F.2.1 dX2_init_15 rfl (lv_at hl 0 rfl) ?_
  refine lv_aload_n F.1 F.2.1 dX2_init_16 rfl (lv_at hl 1 rfl) ?_
  refine pf_RX2_18 F hW hS ho11 (Nat.le_of_ble_eq_true rfl) hin dX2_init_17 (fun w12 H locs ho14 hn13 hW hS => ?_)
  have ho14 : w12 a = some (.inr (2, [.ref b, .ref (a + 1), .int (iI 0), .int (iI 0)])) := ho14
  have ohf6 := (hn13 _ (by omega)).trans ohf6
  have ahf6 := (hn13 _ (by omega)).trans ahf6
  have hfr : ∀ q : Nat, q ≠ a → q ≠ a + 1 → q ≠ a + 1 + 1 → w12 q = w q := fun q h09 h19 h29 => (hn13 q (by omega)).trans (hfr q h09 h19 h29)
  refine W.widen (k := 2) (n := 14) (by (try dsimp only); omega) (by (try dsimp only); omega) ?_
  exact h_vret F hr hlk hW hS ⟨ho14, ⟨ohf6, ahf6⟩, ⟨_, ahf6⟩, hfr⟩ dX2_init_20
set_option maxHeartbeats 8000000 in
set_option maxRecDepth 100000 in
theorem n_X7_init (l : Launch) (X : Cx) (w : Wo) (a b : Nat) (ho0 : w a = some (.inr (7, [.null, .null, .null, .null, .int (iI 0), .int (iI 0), .int (iI 0), .null, .null, .int (iI 0), .int (iI 0)]))) : CN l X yX7_init cX7_init 2 { frames := 1, cells := 5, slots := 306, locals := 13 } [.ref a, .ref b] (a + 1) w (fun w' => w' a = some (.inr (7, [.ref b, .ref (a + 1), .ref (a + 2), .ref (a + 3), .int (iI 0), .int (iI 0), .int (iI 0), .ref (a + 4), .ref (a + 5), .int (iI 0), .int (iI 0)])) ∧ w' (a + 1) = some (aZ X 60 (fun _ => 0)) ∧ w' (a + 2) = some (aZ X 180 (fun _ => 0)) ∧ w' (a + 3) = some (aZ X 60 (fun _ => 0)) ∧ w' (a + 4) = some (aZ X 3 (fun _ => 0)) ∧ w' (a + 5) = some (aZ X 3 (fun _ => 0)) ∧ (∃ e0, w' (a + 5) = some e0) ∧ ∀ q : Nat, (q < a ∨ a + 6 ≤ q) → w' q = w q) := by
  refine CN.of (lv := [(0, .ref a), (1, .ref b)]) (by decide) (Nat.le_of_ble_eq_true rfl) rfl (fun p e s m below meth c ls F hr hlk hin hW hn9 hS hl => ?_)
  have hZ0 := hW.2.2
  have hB9 := hW.1.2
  refine lv_aload_n F.1 F.2.1 dX7_init_0 rfl (lv_at hl 0 rfl) ?_
  refine h_obj F hl hoL7 hoI dX7_init_1 ⟨Nat.le_of_ble_eq_true rfl, Nat.le_of_ble_eq_true rfl⟩ ?_
  refine lv_aload_n F.1 F.2.1 dX7_init_4 rfl (lv_at hl 0 rfl) ?_
  refine h_bipush F dX7_init_5 rfl ?_
  refine h_size0 hS (fun hz => ?_)
  have hz := hz.trans (show _ = a + 1 by omega)
  refine h_newP (a := a + 1) (N := 60) (k := 0) (atype := .int) (x := .inl (fun j : Nat => iI ((fun _ : Int => 0) (j : Int)))) F hW hS hz haCI rfl (hxI _) rfl (by decide) (by (try dsimp only); omega) dX7_init_7 (fun w1 H ha3 hn2 hW hS => ?_)
  have ha3 : w1 (a + 1) = some (aZ X 60 (fun _ => 0)) := ha3
  clear hz
  have ho0 := (hn2 _ (by omega)).trans ho0
  have hfr : ∀ q : Nat, (q < a ∨ a + 6 ≤ q) → w q = w q := fr_0
  have hfr := fr_1 (by omega) hn2 hfr
  refine pf_RX7_11 F hW hS ho0 (Nat.le_of_ble_eq_true rfl) hin dX7_init_9 (fun w4 H locs ho6 hn5 hW hS => ?_)
  have ho6 : w4 a = some (.inr (7, [.null, .ref (a + 1), .null, .null, .int (iI 0), .int (iI 0), .int (iI 0), .null, .null, .int (iI 0), .int (iI 0)])) := ho6
  have ha3 := (hn5 _ (by omega)).trans ha3
  have hfr := fr_1 (by omega) hn5 hfr
  refine lv_aload_n F.1 F.2.1 dX7_init_12 rfl (lv_at hl 0 rfl) ?_
  refine h_sipush F dX7_init_13 rfl ?_
  refine h_size (q := a + 1) hW ha3 (by (try dsimp only); omega) (fun hz => ?_)
  have hz := hz.trans (show _ = a + 2 by omega)
  refine h_newP (a := a + 2) (N := 180) (k := 0) (atype := .int) (x := .inl (fun j : Nat => iI ((fun _ : Int => 0) (j : Int)))) F hW hS hz haCI rfl (hxI _) rfl (by decide) (by (try dsimp only); omega) dX7_init_16 (fun w7 H ha9 hn8 hW hS => ?_)
  have ha9 : w7 (a + 2) = some (aZ X 180 (fun _ => 0)) := ha9
  clear hz
  have ho6 := (hn8 _ (by omega)).trans ho6
  have ha3 := (hn8 _ (by omega)).trans ha3
  have hfr := fr_1 (by omega) hn8 hfr
  refine pf_RX7_15 F hW hS ho6 (Nat.le_of_ble_eq_true rfl) hin dX7_init_18 (fun w10 H locs ho12 hn11 hW hS => ?_)
  have ho12 : w10 a = some (.inr (7, [.null, .ref (a + 1), .ref (a + 2), .null, .int (iI 0), .int (iI 0), .int (iI 0), .null, .null, .int (iI 0), .int (iI 0)])) := ho12
  have ha3 := (hn11 _ (by omega)).trans ha3
  have ha9 := (hn11 _ (by omega)).trans ha9
  have hfr := fr_1 (by omega) hn11 hfr
  refine lv_aload_n F.1 F.2.1 dX7_init_21 rfl (lv_at hl 0 rfl) ?_
  refine h_bipush F dX7_init_22 rfl ?_
  refine h_size (q := a + 2) hW ha9 (by (try dsimp only); omega) (fun hz => ?_)
  have hz := hz.trans (show _ = a + 3 by omega)
  refine h_newP (a := a + 3) (N := 60) (k := 0) (atype := .int) (x := .inl (fun j : Nat => iI ((fun _ : Int => 0) (j : Int)))) F hW hS hz haCI rfl (hxI _) rfl (by decide) (by (try dsimp only); omega) dX7_init_24 (fun w13 H ha15 hn14 hW hS => ?_)
  have ha15 : w13 (a + 3) = some (aZ X 60 (fun _ => 0)) := ha15
  clear hz
  have ho12 := (hn14 _ (by omega)).trans ho12
  have ha3 := (hn14 _ (by omega)).trans ha3
  have ha9 := (hn14 _ (by omega)).trans ha9
  have hfr := fr_1 (by omega) hn14 hfr
  refine pf_RX7_18 F hW hS ho12 (Nat.le_of_ble_eq_true rfl) hin dX7_init_26 (fun w16 H locs ho18 hn17 hW hS => ?_)
  have ho18 : w16 a = some (.inr (7, [.null, .ref (a + 1), .ref (a + 2), .ref (a + 3), .int (iI 0), .int (iI 0), .int (iI 0), .null, .null, .int (iI 0), .int (iI 0)])) := ho18
  have ha3 := (hn17 _ (by omega)).trans ha3
  have ha9 := (hn17 _ (by omega)).trans ha9
  have ha15 := (hn17 _ (by omega)).trans ha15
  have hfr := fr_1 (by omega) hn17 hfr
  refine lv_aload_n F.1 F.2.1 dX7_init_29 rfl (lv_at hl 0 rfl) ?_
  refine h_iconst F dX7_init_30 ?_
  refine h_size (q := a + 3) hW ha15 (by (try dsimp only); omega) (fun hz => ?_)
  have hz := hz.trans (show _ = a + 4 by omega)
  refine h_newP (a := a + 4) (N := 3) (k := 0) (atype := .int) (x := .inl (fun j : Nat => iI ((fun _ : Int => 0) (j : Int)))) F hW hS hz haCI rfl (hxI _) rfl (by decide) (by (try dsimp only); omega) dX7_init_31 (fun w19 H ha21 hn20 hW hS => ?_)
  have ha21 : w19 (a + 4) = some (aZ X 3 (fun _ => 0)) := ha21
  clear hz
  have ho18 := (hn20 _ (by omega)).trans ho18
  have ha3 := (hn20 _ (by omega)).trans ha3
  have ha9 := (hn20 _ (by omega)).trans ha9
  have ha15 := (hn20 _ (by omega)).trans ha15
  have hfr := fr_1 (by omega) hn20 hfr
  refine pf_RX7_21 F hW hS ho18 (Nat.le_of_ble_eq_true rfl) hin dX7_init_33 (fun w22 H locs ho24 hn23 hW hS => ?_)
  have ho24 : w22 a = some (.inr (7, [.null, .ref (a + 1), .ref (a + 2), .ref (a + 3), .int (iI 0), .int (iI 0), .int (iI 0), .ref (a + 4), .null, .int (iI 0), .int (iI 0)])) := ho24
  have ha3 := (hn23 _ (by omega)).trans ha3
  have ha9 := (hn23 _ (by omega)).trans ha9
  have ha15 := (hn23 _ (by omega)).trans ha15
  have ha21 := (hn23 _ (by omega)).trans ha21
  have hfr := fr_1 (by omega) hn23 hfr
  refine lv_aload_n F.1 F.2.1 dX7_init_36 rfl (lv_at hl 0 rfl) ?_
  refine h_iconst F dX7_init_37 ?_
  refine h_size (q := a + 4) hW ha21 (by (try dsimp only); omega) (fun hz => ?_)
  have hz := hz.trans (show _ = a + 5 by omega)
  refine h_newP (a := a + 5) (N := 3) (k := 0) (atype := .int) (x := .inl (fun j : Nat => iI ((fun _ : Int => 0) (j : Int)))) F hW hS hz haCI rfl (hxI _) rfl (by decide) (by (try dsimp only); omega) dX7_init_38 (fun w25 H ha27 hn26 hW hS => ?_)
  have ha27 : w25 (a + 5) = some (aZ X 3 (fun _ => 0)) := ha27
  clear hz
  have ho24 := (hn26 _ (by omega)).trans ho24
  have ha3 := (hn26 _ (by omega)).trans ha3
  have ha9 := (hn26 _ (by omega)).trans ha9
  have ha15 := (hn26 _ (by omega)).trans ha15
  have ha21 := (hn26 _ (by omega)).trans ha21
  have hfr := fr_1 (by omega) hn26 hfr
  refine pf_RX7_24 F hW hS ho24 (Nat.le_of_ble_eq_true rfl) hin dX7_init_40 (fun w28 H locs ho30 hn29 hW hS => ?_)
  have ho30 : w28 a = some (.inr (7, [.null, .ref (a + 1), .ref (a + 2), .ref (a + 3), .int (iI 0), .int (iI 0), .int (iI 0), .ref (a + 4), .ref (a + 5), .int (iI 0), .int (iI 0)])) := ho30
  have ha3 := (hn29 _ (by omega)).trans ha3
  have ha9 := (hn29 _ (by omega)).trans ha9
  have ha15 := (hn29 _ (by omega)).trans ha15
  have ha21 := (hn29 _ (by omega)).trans ha21
  have ha27 := (hn29 _ (by omega)).trans ha27
  have hfr := fr_1 (by omega) hn29 hfr
  refine lv_aload_n F.1 F.2.1 dX7_init_43 rfl (lv_at hl 0 rfl) ?_
  refine lv_aload_n F.1 F.2.1 dX7_init_44 rfl (lv_at hl 1 rfl) ?_
  refine pf_RX7_27 F hW hS ho30 (Nat.le_of_ble_eq_true rfl) hin dX7_init_45 (fun w31 H locs ho33 hn32 hW hS => ?_)
  have ho33 : w31 a = some (.inr (7, [.ref b, .ref (a + 1), .ref (a + 2), .ref (a + 3), .int (iI 0), .int (iI 0), .int (iI 0), .ref (a + 4), .ref (a + 5), .int (iI 0), .int (iI 0)])) := ho33
  have ha3 := (hn32 _ (by omega)).trans ha3
  have ha9 := (hn32 _ (by omega)).trans ha9
  have ha15 := (hn32 _ (by omega)).trans ha15
  have ha21 := (hn32 _ (by omega)).trans ha21
  have ha27 := (hn32 _ (by omega)).trans ha27
  have hfr := fr_1 (by omega) hn32 hfr
  refine W.widen (k := 5) (n := 306) (by (try dsimp only); omega) (by (try dsimp only); omega) ?_
  exact h_vret F hr hlk hW hS ⟨ho33, ha3, ha9, ha15, ha21, ha27, ⟨_, ha27⟩, hfr⟩ dX7_init_48
set_option maxHeartbeats 8000000 in
set_option maxRecDepth 100000 in
theorem n_X5_init (l : Launch) (X : Cx) (w : Wo) (a : Nat) (ho0 : w a = some (.inr (5, [.null, .null, .null, .null, .null, .int (iI 0), .int (iI 0), .int (iI 0), .int (iI 0), .int (iI 0), .int (iI 0)]))) : CN l X yX5_init cX5_init 2 { frames := 3, cells := 24, slots := 263, locals := 68 } [.ref a] (a + 1) w (fun w' => loomAt X w' a (resS 12 8) ∧ (∃ e0, w' (a + 23 + 1) = some e0) ∧ ∀ q : Nat, (q < a ∨ a + 25 ≤ q) → w' q = w q) := by
  refine CN.of (lv := [(0, .ref a)]) (by decide) (Nat.le_of_ble_eq_true rfl) rfl (fun p e s m below meth c ls F hr hlk hin hW hn9 hS hl => ?_)
  have hZ0 := hW.2.2
  have hB9 := hW.1.2
  refine lv_aload_n F.1 F.2.1 dX5_init_0 rfl (lv_at hl 0 rfl) ?_
  refine h_obj F hl hoL5 hoI dX5_init_1 ⟨Nat.le_of_ble_eq_true rfl, Nat.le_of_ble_eq_true rfl⟩ ?_
  refine lv_aload_n F.1 F.2.1 dX5_init_4 rfl (lv_at hl 0 rfl) ?_
  refine h_size0 hS (fun hz => ?_)
  have hz := hz.trans (show _ = a + 1 by omega)
  refine h_new (ci := 3) (fs := [.null]) F hW hS hz inX3 tyX3 tyX3_ok kl_RX5_9 kb_RX3 kn_RX3 rfl (by intro j hj; rcases (show j = 0 by omega) with hj <;> subst hj <;> rfl) (by (try dsimp only); omega) dX5_init_5 (fun w1 H ho3 hn2 hW hS => ?_)
  clear hz
  have ho0 := (hn2 _ (by omega)).trans ho0
  have hfr : ∀ q : Nat, (q < a ∨ a + 25 ≤ q) → w q = w q := fr_0
  have hfr := fr_1 (by omega) hn2 hfr
  refine lv_dup F.1 F.2.1 dX5_init_8 rfl ?_
  refine h_size (q := a + 1) hW ho3 (by (try dsimp only); omega) (fun hz => ?_)
  have hz := hz.trans (show _ = (a + 1) + 1 by omega)
  refine h_callIN (As := []) (rest := [.ref (a + 1), .ref a]) F hl (n_X3_init l X w1 (a + 1) ho3) hW hS hz ⟨kc_yX3_init, kn_RX3, kN_RX5_11, ki_yX3_init⟩ rfl niX3 rfl rfl ⟨Nat.le_of_ble_eq_true rfl, Nat.le_of_ble_eq_true rfl⟩ (Nat.le_of_ble_eq_true rfl) (by (try dsimp only); omega) dX5_init_9 (fun w4 H locs hp5 hW hS => ?_)
  clear hz
  obtain ⟨hf6, hf7, ⟨ehl9, hl9⟩, hn8⟩ := hp5
  have ho0 := (hn8 _ (by omega) (by omega)).trans ho0
  have hfr := fr_2 (by omega) hn8 hfr
  refine pf_RX5_12 F hW hS ho0 (Nat.le_of_ble_eq_true rfl) hin dX5_init_12 (fun w10 H locs ho12 hn11 hW hS => ?_)
  have ho12 : w10 a = some (.inr (5, [.ref (a + 1), .null, .null, .null, .null, .int (iI 0), .int (iI 0), .int (iI 0), .int (iI 0), .int (iI 0), .int (iI 0)])) := ho12
  have hf6 := (hn11 _ (by omega)).trans hf6
  have hf7 := (hn11 _ (by omega)).trans hf7
  have hfr := fr_1 (by omega) hn11 hfr
  refine lv_aload_n F.1 F.2.1 dX5_init_15 rfl (lv_at hl 0 rfl) ?_
  refine h_size (q := a + 2) hW hf7 (by (try dsimp only); omega) (fun hz => ?_)
  have hz := hz.trans (show _ = a + 3 by omega)
  refine h_new (ci := 3) (fs := [.null]) F hW hS hz inX3 tyX3 tyX3_ok kl_RX5_9 kb_RX3 kn_RX3 rfl (by intro j hj; rcases (show j = 0 by omega) with hj <;> subst hj <;> rfl) (by (try dsimp only); omega) dX5_init_16 (fun w13 H ho15 hn14 hW hS => ?_)
  clear hz
  have ho12 := (hn14 _ (by omega)).trans ho12
  have hf6 := (hn14 _ (by omega)).trans hf6
  have hf7 := (hn14 _ (by omega)).trans hf7
  have hfr := fr_1 (by omega) hn14 hfr
  refine lv_dup F.1 F.2.1 dX5_init_19 rfl ?_
  refine h_size (q := a + 3) hW ho15 (by (try dsimp only); omega) (fun hz => ?_)
  have hz := hz.trans (show _ = (a + 3) + 1 by omega)
  refine h_callIN (As := []) (rest := [.ref (a + 3), .ref a]) F hl (n_X3_init l X w13 (a + 3) ho15) hW hS hz ⟨kc_yX3_init, kn_RX3, kN_RX5_11, ki_yX3_init⟩ rfl niX3 rfl rfl ⟨Nat.le_of_ble_eq_true rfl, Nat.le_of_ble_eq_true rfl⟩ (Nat.le_of_ble_eq_true rfl) (by (try dsimp only); omega) dX5_init_20 (fun w16 H locs hp17 hW hS => ?_)
  clear hz
  obtain ⟨hf18, hf19, ⟨ehl21, hl21⟩, hn20⟩ := hp17
  have ho12 := (hn20 _ (by omega) (by omega)).trans ho12
  have hf6 := (hn20 _ (by omega) (by omega)).trans hf6
  have hf7 := (hn20 _ (by omega) (by omega)).trans hf7
  have hfr := fr_2 (by omega) hn20 hfr
  refine pf_RX5_18 F hW hS ho12 (Nat.le_of_ble_eq_true rfl) hin dX5_init_23 (fun w22 H locs ho24 hn23 hW hS => ?_)
  have ho24 : w22 a = some (.inr (5, [.ref (a + 1), .ref (a + 3), .null, .null, .null, .int (iI 0), .int (iI 0), .int (iI 0), .int (iI 0), .int (iI 0), .int (iI 0)])) := ho24
  have hf6 := (hn23 _ (by omega)).trans hf6
  have hf18 := (hn23 _ (by omega)).trans hf18
  have hf7 := (hn23 _ (by omega)).trans hf7
  have hf19 := (hn23 _ (by omega)).trans hf19
  have hfr := fr_1 (by omega) hn23 hfr
  refine lv_aload_n F.1 F.2.1 dX5_init_26 rfl (lv_at hl 0 rfl) ?_
  refine h_bipush F dX5_init_27 rfl ?_
  refine h_size (q := a + 4) hW hf19 (by (try dsimp only); omega) (fun hz => ?_)
  have hz := hz.trans (show _ = a + 5 by omega)
  refine h_newP (a := a + 5) (N := 7) (k := 0) (atype := .int) (x := .inl (fun j : Nat => iI ((fun _ : Int => 0) (j : Int)))) F hW hS hz haCI rfl (hxI _) rfl (by decide) (by (try dsimp only); omega) dX5_init_29 (fun w25 H ha27 hn26 hW hS => ?_)
  have ha27 : w25 (a + 5) = some (aZ X 7 (fun _ => 0)) := ha27
  clear hz
  have ho24 := (hn26 _ (by omega)).trans ho24
  have hf6 := (hn26 _ (by omega)).trans hf6
  have hf18 := (hn26 _ (by omega)).trans hf18
  have hf7 := (hn26 _ (by omega)).trans hf7
  have hf19 := (hn26 _ (by omega)).trans hf19
  have hfr := fr_1 (by omega) hn26 hfr
  refine pf_RX5_21 F hW hS ho24 (Nat.le_of_ble_eq_true rfl) hin dX5_init_31 (fun w28 H locs ho30 hn29 hW hS => ?_)
  have ho30 : w28 a = some (.inr (5, [.ref (a + 1), .ref (a + 3), .ref (a + 5), .null, .null, .int (iI 0), .int (iI 0), .int (iI 0), .int (iI 0), .int (iI 0), .int (iI 0)])) := ho30
  have hf6 := (hn29 _ (by omega)).trans hf6
  have hf18 := (hn29 _ (by omega)).trans hf18
  have hf7 := (hn29 _ (by omega)).trans hf7
  have hf19 := (hn29 _ (by omega)).trans hf19
  have ha27 := (hn29 _ (by omega)).trans ha27
  have hfr := fr_1 (by omega) hn29 hfr
  refine lv_aload_n F.1 F.2.1 dX5_init_34 rfl (lv_at hl 0 rfl) ?_
  refine h_bipush F dX5_init_35 rfl ?_
  refine h_size (q := a + 5) hW ha27 (by (try dsimp only); omega) (fun hz => ?_)
  have hz := hz.trans (show _ = a + 6 by omega)
  refine h_newR (a := a + 6) (N := 8) (k := 3) (C := RX1) F hW hS hz rfl hW.2.1.2.2.2.2.1 kl_RX5_25 rfl (by decide) (by (try dsimp only); omega) dX5_init_37 (fun w31 H ha33 hn32 hW hS => ?_)
  clear hz
  have ho30 := (hn32 _ (by omega)).trans ho30
  have hf6 := (hn32 _ (by omega)).trans hf6
  have hf18 := (hn32 _ (by omega)).trans hf18
  have hf7 := (hn32 _ (by omega)).trans hf7
  have hf19 := (hn32 _ (by omega)).trans hf19
  have ha27 := (hn32 _ (by omega)).trans ha27
  have hfr := fr_1 (by omega) hn32 hfr
  refine pf_RX5_27 F hW hS ho30 (Nat.le_of_ble_eq_true rfl) hin dX5_init_40 (fun w34 H locs ho36 hn35 hW hS => ?_)
  have ho36 : w34 a = some (.inr (5, [.ref (a + 1), .ref (a + 3), .ref (a + 5), .ref (a + 6), .null, .int (iI 0), .int (iI 0), .int (iI 0), .int (iI 0), .int (iI 0), .int (iI 0)])) := ho36
  have hf6 := (hn35 _ (by omega)).trans hf6
  have hf18 := (hn35 _ (by omega)).trans hf18
  have hf7 := (hn35 _ (by omega)).trans hf7
  have hf19 := (hn35 _ (by omega)).trans hf19
  have ha27 := (hn35 _ (by omega)).trans ha27
  have ha33 := (hn35 _ (by omega)).trans ha33
  have hfr := fr_1 (by omega) hn35 hfr
  refine lv_aload_n F.1 F.2.1 dX5_init_43 rfl (lv_at hl 0 rfl) ?_
  refine h_size (q := a + 6) hW ha33 (by (try dsimp only); omega) (fun hz => ?_)
  have hz := hz.trans (show _ = a + 7 by omega)
  refine h_new (ci := 1) (fs := [.null, .int (iI 0), .int (iI 0), .int (iI 0), .int (iI 0), .int (iI 0)]) F hW hS hz inX1 tyX1 tyX1_ok kl_RX5_25 kb_RX1 kn_RX1 rfl (by intro j hj; rcases (show j = 0 ∨ j = 1 ∨ j = 2 ∨ j = 3 ∨ j = 4 ∨ j = 5 by omega) with hj | hj | hj | hj | hj | hj <;> subst hj <;> rfl) (by (try dsimp only); omega) dX5_init_44 (fun w37 H ho39 hn38 hW hS => ?_)
  clear hz
  have ho36 := (hn38 _ (by omega)).trans ho36
  have hf6 := (hn38 _ (by omega)).trans hf6
  have hf18 := (hn38 _ (by omega)).trans hf18
  have hf7 := (hn38 _ (by omega)).trans hf7
  have hf19 := (hn38 _ (by omega)).trans hf19
  have ha27 := (hn38 _ (by omega)).trans ha27
  have ha33 := (hn38 _ (by omega)).trans ha33
  have hfr := fr_1 (by omega) hn38 hfr
  refine lv_dup F.1 F.2.1 dX5_init_47 rfl ?_
  refine h_size (q := a + 7) hW ho39 (by (try dsimp only); omega) (fun hz => ?_)
  have hz := hz.trans (show _ = (a + 7) + 1 by omega)
  refine h_callIN (As := []) (rest := [.ref (a + 7), .ref a]) F hl (n_X1_init l X w37 (a + 7) ho39) hW hS hz ⟨kc_yX1_init, kn_RX1, kN_RX5_31, ki_yX1_init⟩ rfl niX1 rfl rfl ⟨Nat.le_of_ble_eq_true rfl, Nat.le_of_ble_eq_true rfl⟩ (Nat.le_of_ble_eq_true rfl) (by (try dsimp only); omega) dX5_init_48 (fun w40 H locs hp41 hW hS => ?_)
  clear hz
  obtain ⟨hf42, ⟨ehl44, hl44⟩, hn43⟩ := hp41
  have ho36 := (hn43 _ (by omega) (by omega)).trans ho36
  have hf6 := (hn43 _ (by omega) (by omega)).trans hf6
  have hf18 := (hn43 _ (by omega) (by omega)).trans hf18
  have hf7 := (hn43 _ (by omega) (by omega)).trans hf7
  have hf19 := (hn43 _ (by omega) (by omega)).trans hf19
  have ha27 := (hn43 _ (by omega) (by omega)).trans ha27
  have ha33 := (hn43 _ (by omega) (by omega)).trans ha33
  have hfr := fr_2 (by omega) hn43 hfr
  have ohf42 := hf42.1
  have ahf42 := hf42.2
  refine pf_RX5_32 F hW hS ho36 (Nat.le_of_ble_eq_true rfl) hin dX5_init_51 (fun w45 H locs ho47 hn46 hW hS => ?_)
  have ho47 : w45 a = some (.inr (5, [.ref (a + 1), .ref (a + 3), .ref (a + 5), .ref (a + 6), .ref (a + 7), .int (iI 0), .int (iI 0), .int (iI 0), .int (iI 0), .int (iI 0), .int (iI 0)])) := ho47
  have hf6 := (hn46 _ (by omega)).trans hf6
  have hf18 := (hn46 _ (by omega)).trans hf18
  have ohf42 := (hn46 _ (by omega)).trans ohf42
  have hf7 := (hn46 _ (by omega)).trans hf7
  have hf19 := (hn46 _ (by omega)).trans hf19
  have ha27 := (hn46 _ (by omega)).trans ha27
  have ha33 := (hn46 _ (by omega)).trans ha33
  have ahf42 := (hn46 _ (by omega)).trans ahf42
  have hfr := fr_1 (by omega) hn46 hfr
  refine h_iconst F dX5_init_54 ?_
  refine lv_istore_n (lv' := [(1, .int (iI 0)), (0, .ref a)]) F.1 F.2.1 dX5_init_55 rfl hl (by decide) rfl (fun ls hl => ?_)
  refine lv_iload_n F.1 F.2.1 dX5_init_56 rfl (lv_at hl 0 rfl) ?_
  refine lv_aload_n F.1 F.2.1 dX5_init_57 rfl (lv_at hl 1 rfl) ?_
  refine gf_RX5_27 F hW ho47 rfl dX5_init_58 ?_
  refine h_alen (k := 3) (n := 8) F hW rfl ha33 dX5_init_61 ?_
  refine h_icge (tgt := 84) F dX5_init_62 (by decide) (by decide) (fun c9 => absurd c9 (by decide)) (fun _ => ?_)
  refine lv_aload_n F.1 F.2.1 dX5_init_65 rfl (lv_at hl 1 rfl) ?_
  refine gf_RX5_27 F hW ho47 rfl dX5_init_66 ?_
  refine lv_iload_n F.1 F.2.1 dX5_init_69 rfl (lv_at hl 0 rfl) ?_
  refine h_size (q := a + 8) hW ahf42 (by (try dsimp only); omega) (fun hz => ?_)
  have hz := hz.trans (show _ = a + 9 by omega)
  refine h_new (ci := 1) (fs := [.null, .int (iI 0), .int (iI 0), .int (iI 0), .int (iI 0), .int (iI 0)]) F hW hS hz inX1 tyX1 tyX1_ok kl_RX5_25 kb_RX1 kn_RX1 rfl (by intro j hj; rcases (show j = 0 ∨ j = 1 ∨ j = 2 ∨ j = 3 ∨ j = 4 ∨ j = 5 by omega) with hj | hj | hj | hj | hj | hj <;> subst hj <;> rfl) (by (try dsimp only); omega) dX5_init_70 (fun w49 H ho51 hn50 hW hS => ?_)
  clear hz
  have ho47 := (hn50 _ (by omega)).trans ho47
  have hf6 := (hn50 _ (by omega)).trans hf6
  have hf18 := (hn50 _ (by omega)).trans hf18
  have ohf42 := (hn50 _ (by omega)).trans ohf42
  have hf7 := (hn50 _ (by omega)).trans hf7
  have hf19 := (hn50 _ (by omega)).trans hf19
  have ha27 := (hn50 _ (by omega)).trans ha27
  have ha33 := (hn50 _ (by omega)).trans ha33
  have ahf42 := (hn50 _ (by omega)).trans ahf42
  have hfr := fr_1 (by omega) hn50 hfr
  refine lv_dup F.1 F.2.1 dX5_init_73 rfl ?_
  refine h_size (q := a + 9) hW ho51 (by (try dsimp only); omega) (fun hz => ?_)
  have hz := hz.trans (show _ = (a + 9) + 1 by omega)
  refine h_callIN (As := []) (rest := [.ref (a + 9), .int (iI 0), .ref (a + 6)]) F hl (n_X1_init l X w49 (a + 9) ho51) hW hS hz ⟨kc_yX1_init, kn_RX1, kN_RX5_31, ki_yX1_init⟩ rfl niX1 rfl rfl ⟨Nat.le_of_ble_eq_true rfl, Nat.le_of_ble_eq_true rfl⟩ (Nat.le_of_ble_eq_true rfl) (by (try dsimp only); omega) dX5_init_74 (fun w52 H locs hp53 hW hS => ?_)
  clear hz
  obtain ⟨hf54, ⟨ehl56, hl56⟩, hn55⟩ := hp53
  have ho47 := (hn55 _ (by omega) (by omega)).trans ho47
  have hf6 := (hn55 _ (by omega) (by omega)).trans hf6
  have hf18 := (hn55 _ (by omega) (by omega)).trans hf18
  have ohf42 := (hn55 _ (by omega) (by omega)).trans ohf42
  have hf7 := (hn55 _ (by omega) (by omega)).trans hf7
  have hf19 := (hn55 _ (by omega) (by omega)).trans hf19
  have ha27 := (hn55 _ (by omega) (by omega)).trans ha27
  have ha33 := (hn55 _ (by omega) (by omega)).trans ha33
  have ahf42 := (hn55 _ (by omega) (by omega)).trans ahf42
  have hfr := fr_2 (by omega) hn55 hfr
  have ohf54 := hf54.1
  have ahf54 := hf54.2
  refine h_aast (k := 3) F hW hS ha33 rfl ohf54 rfl (by omega) (by omega) dX5_init_77 (fun w57 H locs ha59 hn58 hW hS => ?_)
  have ho47 := (hn58 _ (by omega)).trans ho47
  have hf6 := (hn58 _ (by omega)).trans hf6
  have hf18 := (hn58 _ (by omega)).trans hf18
  have ohf42 := (hn58 _ (by omega)).trans ohf42
  have ohf54 := (hn58 _ (by omega)).trans ohf54
  have hf7 := (hn58 _ (by omega)).trans hf7
  have hf19 := (hn58 _ (by omega)).trans hf19
  have ha27 := (hn58 _ (by omega)).trans ha27
  have ahf42 := (hn58 _ (by omega)).trans ahf42
  have ahf54 := (hn58 _ (by omega)).trans ahf54
  have hfr := fr_1 (by omega) hn58 hfr
  refine h_iinc (k := 0) (a := 0) (lv' := [(1, .int (iI 1)), (0, .ref a)]) F dX5_init_78 hl rfl (by decide) rfl (fun ls hl => ?_)
  refine h_goto (tgt := 56) F dX5_init_81 (by decide) ?_
  refine lv_iload_n F.1 F.2.1 dX5_init_56 rfl (lv_at hl 0 rfl) ?_
  refine lv_aload_n F.1 F.2.1 dX5_init_57 rfl (lv_at hl 1 rfl) ?_
  refine gf_RX5_27 F hW ho47 rfl dX5_init_58 ?_
  refine h_alen (k := 3) (n := 8) F hW rfl ha59 dX5_init_61 ?_
  refine h_icge (tgt := 84) F dX5_init_62 (by decide) (by decide) (fun c9 => absurd c9 (by decide)) (fun _ => ?_)
  refine lv_aload_n F.1 F.2.1 dX5_init_65 rfl (lv_at hl 1 rfl) ?_
  refine gf_RX5_27 F hW ho47 rfl dX5_init_66 ?_
  refine lv_iload_n F.1 F.2.1 dX5_init_69 rfl (lv_at hl 0 rfl) ?_
  refine h_size (q := a + 10) hW ahf54 (by (try dsimp only); omega) (fun hz => ?_)
  have hz := hz.trans (show _ = a + 11 by omega)
  refine h_new (ci := 1) (fs := [.null, .int (iI 0), .int (iI 0), .int (iI 0), .int (iI 0), .int (iI 0)]) F hW hS hz inX1 tyX1 tyX1_ok kl_RX5_25 kb_RX1 kn_RX1 rfl (by intro j hj; rcases (show j = 0 ∨ j = 1 ∨ j = 2 ∨ j = 3 ∨ j = 4 ∨ j = 5 by omega) with hj | hj | hj | hj | hj | hj <;> subst hj <;> rfl) (by (try dsimp only); omega) dX5_init_70 (fun w61 H ho63 hn62 hW hS => ?_)
  clear hz
  have ho47 := (hn62 _ (by omega)).trans ho47
  have hf6 := (hn62 _ (by omega)).trans hf6
  have hf18 := (hn62 _ (by omega)).trans hf18
  have ohf42 := (hn62 _ (by omega)).trans ohf42
  have ohf54 := (hn62 _ (by omega)).trans ohf54
  have hf7 := (hn62 _ (by omega)).trans hf7
  have hf19 := (hn62 _ (by omega)).trans hf19
  have ha27 := (hn62 _ (by omega)).trans ha27
  have ha59 := (hn62 _ (by omega)).trans ha59
  have ahf42 := (hn62 _ (by omega)).trans ahf42
  have ahf54 := (hn62 _ (by omega)).trans ahf54
  have hfr := fr_1 (by omega) hn62 hfr
  refine lv_dup F.1 F.2.1 dX5_init_73 rfl ?_
  refine h_size (q := a + 11) hW ho63 (by (try dsimp only); omega) (fun hz => ?_)
  have hz := hz.trans (show _ = (a + 11) + 1 by omega)
  refine h_callIN (As := []) (rest := [.ref (a + 11), .int (iI 1), .ref (a + 6)]) F hl (n_X1_init l X w61 (a + 11) ho63) hW hS hz ⟨kc_yX1_init, kn_RX1, kN_RX5_31, ki_yX1_init⟩ rfl niX1 rfl rfl ⟨Nat.le_of_ble_eq_true rfl, Nat.le_of_ble_eq_true rfl⟩ (Nat.le_of_ble_eq_true rfl) (by (try dsimp only); omega) dX5_init_74 (fun w64 H locs hp65 hW hS => ?_)
  clear hz
  obtain ⟨hf66, ⟨ehl68, hl68⟩, hn67⟩ := hp65
  have ho47 := (hn67 _ (by omega) (by omega)).trans ho47
  have hf6 := (hn67 _ (by omega) (by omega)).trans hf6
  have hf18 := (hn67 _ (by omega) (by omega)).trans hf18
  have ohf42 := (hn67 _ (by omega) (by omega)).trans ohf42
  have ohf54 := (hn67 _ (by omega) (by omega)).trans ohf54
  have hf7 := (hn67 _ (by omega) (by omega)).trans hf7
  have hf19 := (hn67 _ (by omega) (by omega)).trans hf19
  have ha27 := (hn67 _ (by omega) (by omega)).trans ha27
  have ha59 := (hn67 _ (by omega) (by omega)).trans ha59
  have ahf42 := (hn67 _ (by omega) (by omega)).trans ahf42
  have ahf54 := (hn67 _ (by omega) (by omega)).trans ahf54
  have hfr := fr_2 (by omega) hn67 hfr
  have ohf66 := hf66.1
  have ahf66 := hf66.2
  refine h_aast (k := 3) F hW hS ha59 rfl ohf66 rfl (by omega) (by omega) dX5_init_77 (fun w69 H locs ha71 hn70 hW hS => ?_)
  have ho47 := (hn70 _ (by omega)).trans ho47
  have hf6 := (hn70 _ (by omega)).trans hf6
  have hf18 := (hn70 _ (by omega)).trans hf18
  have ohf42 := (hn70 _ (by omega)).trans ohf42
  have ohf54 := (hn70 _ (by omega)).trans ohf54
  have ohf66 := (hn70 _ (by omega)).trans ohf66
  have hf7 := (hn70 _ (by omega)).trans hf7
  have hf19 := (hn70 _ (by omega)).trans hf19
  have ha27 := (hn70 _ (by omega)).trans ha27
  have ahf42 := (hn70 _ (by omega)).trans ahf42
  have ahf54 := (hn70 _ (by omega)).trans ahf54
  have ahf66 := (hn70 _ (by omega)).trans ahf66
  have hfr := fr_1 (by omega) hn70 hfr
  refine h_iinc (k := 0) (a := 1) (lv' := [(1, .int (iI 2)), (0, .ref a)]) F dX5_init_78 hl rfl (by decide) rfl (fun ls hl => ?_)
  refine h_goto (tgt := 56) F dX5_init_81 (by decide) ?_
  refine lv_iload_n F.1 F.2.1 dX5_init_56 rfl (lv_at hl 0 rfl) ?_
  refine lv_aload_n F.1 F.2.1 dX5_init_57 rfl (lv_at hl 1 rfl) ?_
  refine gf_RX5_27 F hW ho47 rfl dX5_init_58 ?_
  refine h_alen (k := 3) (n := 8) F hW rfl ha71 dX5_init_61 ?_
  refine h_icge (tgt := 84) F dX5_init_62 (by decide) (by decide) (fun c9 => absurd c9 (by decide)) (fun _ => ?_)
  refine lv_aload_n F.1 F.2.1 dX5_init_65 rfl (lv_at hl 1 rfl) ?_
  refine gf_RX5_27 F hW ho47 rfl dX5_init_66 ?_
  refine lv_iload_n F.1 F.2.1 dX5_init_69 rfl (lv_at hl 0 rfl) ?_
  refine h_size (q := a + 12) hW ahf66 (by (try dsimp only); omega) (fun hz => ?_)
  have hz := hz.trans (show _ = a + 13 by omega)
  refine h_new (ci := 1) (fs := [.null, .int (iI 0), .int (iI 0), .int (iI 0), .int (iI 0), .int (iI 0)]) F hW hS hz inX1 tyX1 tyX1_ok kl_RX5_25 kb_RX1 kn_RX1 rfl (by intro j hj; rcases (show j = 0 ∨ j = 1 ∨ j = 2 ∨ j = 3 ∨ j = 4 ∨ j = 5 by omega) with hj | hj | hj | hj | hj | hj <;> subst hj <;> rfl) (by (try dsimp only); omega) dX5_init_70 (fun w73 H ho75 hn74 hW hS => ?_)
  clear hz
  have ho47 := (hn74 _ (by omega)).trans ho47
  have hf6 := (hn74 _ (by omega)).trans hf6
  have hf18 := (hn74 _ (by omega)).trans hf18
  have ohf42 := (hn74 _ (by omega)).trans ohf42
  have ohf54 := (hn74 _ (by omega)).trans ohf54
  have ohf66 := (hn74 _ (by omega)).trans ohf66
  have hf7 := (hn74 _ (by omega)).trans hf7
  have hf19 := (hn74 _ (by omega)).trans hf19
  have ha27 := (hn74 _ (by omega)).trans ha27
  have ha71 := (hn74 _ (by omega)).trans ha71
  have ahf42 := (hn74 _ (by omega)).trans ahf42
  have ahf54 := (hn74 _ (by omega)).trans ahf54
  have ahf66 := (hn74 _ (by omega)).trans ahf66
  have hfr := fr_1 (by omega) hn74 hfr
  refine lv_dup F.1 F.2.1 dX5_init_73 rfl ?_
  refine h_size (q := a + 13) hW ho75 (by (try dsimp only); omega) (fun hz => ?_)
  have hz := hz.trans (show _ = (a + 13) + 1 by omega)
  refine h_callIN (As := []) (rest := [.ref (a + 13), .int (iI 2), .ref (a + 6)]) F hl (n_X1_init l X w73 (a + 13) ho75) hW hS hz ⟨kc_yX1_init, kn_RX1, kN_RX5_31, ki_yX1_init⟩ rfl niX1 rfl rfl ⟨Nat.le_of_ble_eq_true rfl, Nat.le_of_ble_eq_true rfl⟩ (Nat.le_of_ble_eq_true rfl) (by (try dsimp only); omega) dX5_init_74 (fun w76 H locs hp77 hW hS => ?_)
  clear hz
  obtain ⟨hf78, ⟨ehl80, hl80⟩, hn79⟩ := hp77
  have ho47 := (hn79 _ (by omega) (by omega)).trans ho47
  have hf6 := (hn79 _ (by omega) (by omega)).trans hf6
  have hf18 := (hn79 _ (by omega) (by omega)).trans hf18
  have ohf42 := (hn79 _ (by omega) (by omega)).trans ohf42
  have ohf54 := (hn79 _ (by omega) (by omega)).trans ohf54
  have ohf66 := (hn79 _ (by omega) (by omega)).trans ohf66
  have hf7 := (hn79 _ (by omega) (by omega)).trans hf7
  have hf19 := (hn79 _ (by omega) (by omega)).trans hf19
  have ha27 := (hn79 _ (by omega) (by omega)).trans ha27
  have ha71 := (hn79 _ (by omega) (by omega)).trans ha71
  have ahf42 := (hn79 _ (by omega) (by omega)).trans ahf42
  have ahf54 := (hn79 _ (by omega) (by omega)).trans ahf54
  have ahf66 := (hn79 _ (by omega) (by omega)).trans ahf66
  have hfr := fr_2 (by omega) hn79 hfr
  have ohf78 := hf78.1
  have ahf78 := hf78.2
  refine h_aast (k := 3) F hW hS ha71 rfl ohf78 rfl (by omega) (by omega) dX5_init_77 (fun w81 H locs ha83 hn82 hW hS => ?_)
  have ho47 := (hn82 _ (by omega)).trans ho47
  have hf6 := (hn82 _ (by omega)).trans hf6
  have hf18 := (hn82 _ (by omega)).trans hf18
  have ohf42 := (hn82 _ (by omega)).trans ohf42
  have ohf54 := (hn82 _ (by omega)).trans ohf54
  have ohf66 := (hn82 _ (by omega)).trans ohf66
  have ohf78 := (hn82 _ (by omega)).trans ohf78
  have hf7 := (hn82 _ (by omega)).trans hf7
  have hf19 := (hn82 _ (by omega)).trans hf19
  have ha27 := (hn82 _ (by omega)).trans ha27
  have ahf42 := (hn82 _ (by omega)).trans ahf42
  have ahf54 := (hn82 _ (by omega)).trans ahf54
  have ahf66 := (hn82 _ (by omega)).trans ahf66
  have ahf78 := (hn82 _ (by omega)).trans ahf78
  have hfr := fr_1 (by omega) hn82 hfr
  refine h_iinc (k := 0) (a := 2) (lv' := [(1, .int (iI 3)), (0, .ref a)]) F dX5_init_78 hl rfl (by decide) rfl (fun ls hl => ?_)
  refine h_goto (tgt := 56) F dX5_init_81 (by decide) ?_
  refine lv_iload_n F.1 F.2.1 dX5_init_56 rfl (lv_at hl 0 rfl) ?_
  refine lv_aload_n F.1 F.2.1 dX5_init_57 rfl (lv_at hl 1 rfl) ?_
  refine gf_RX5_27 F hW ho47 rfl dX5_init_58 ?_
  refine h_alen (k := 3) (n := 8) F hW rfl ha83 dX5_init_61 ?_
  refine h_icge (tgt := 84) F dX5_init_62 (by decide) (by decide) (fun c9 => absurd c9 (by decide)) (fun _ => ?_)
  refine lv_aload_n F.1 F.2.1 dX5_init_65 rfl (lv_at hl 1 rfl) ?_
  refine gf_RX5_27 F hW ho47 rfl dX5_init_66 ?_
  refine lv_iload_n F.1 F.2.1 dX5_init_69 rfl (lv_at hl 0 rfl) ?_
  refine h_size (q := a + 14) hW ahf78 (by (try dsimp only); omega) (fun hz => ?_)
  have hz := hz.trans (show _ = a + 15 by omega)
  refine h_new (ci := 1) (fs := [.null, .int (iI 0), .int (iI 0), .int (iI 0), .int (iI 0), .int (iI 0)]) F hW hS hz inX1 tyX1 tyX1_ok kl_RX5_25 kb_RX1 kn_RX1 rfl (by intro j hj; rcases (show j = 0 ∨ j = 1 ∨ j = 2 ∨ j = 3 ∨ j = 4 ∨ j = 5 by omega) with hj | hj | hj | hj | hj | hj <;> subst hj <;> rfl) (by (try dsimp only); omega) dX5_init_70 (fun w85 H ho87 hn86 hW hS => ?_)
  clear hz
  have ho47 := (hn86 _ (by omega)).trans ho47
  have hf6 := (hn86 _ (by omega)).trans hf6
  have hf18 := (hn86 _ (by omega)).trans hf18
  have ohf42 := (hn86 _ (by omega)).trans ohf42
  have ohf54 := (hn86 _ (by omega)).trans ohf54
  have ohf66 := (hn86 _ (by omega)).trans ohf66
  have ohf78 := (hn86 _ (by omega)).trans ohf78
  have hf7 := (hn86 _ (by omega)).trans hf7
  have hf19 := (hn86 _ (by omega)).trans hf19
  have ha27 := (hn86 _ (by omega)).trans ha27
  have ha83 := (hn86 _ (by omega)).trans ha83
  have ahf42 := (hn86 _ (by omega)).trans ahf42
  have ahf54 := (hn86 _ (by omega)).trans ahf54
  have ahf66 := (hn86 _ (by omega)).trans ahf66
  have ahf78 := (hn86 _ (by omega)).trans ahf78
  have hfr := fr_1 (by omega) hn86 hfr
  refine lv_dup F.1 F.2.1 dX5_init_73 rfl ?_
  refine h_size (q := a + 15) hW ho87 (by (try dsimp only); omega) (fun hz => ?_)
  have hz := hz.trans (show _ = (a + 15) + 1 by omega)
  refine h_callIN (As := []) (rest := [.ref (a + 15), .int (iI 3), .ref (a + 6)]) F hl (n_X1_init l X w85 (a + 15) ho87) hW hS hz ⟨kc_yX1_init, kn_RX1, kN_RX5_31, ki_yX1_init⟩ rfl niX1 rfl rfl ⟨Nat.le_of_ble_eq_true rfl, Nat.le_of_ble_eq_true rfl⟩ (Nat.le_of_ble_eq_true rfl) (by (try dsimp only); omega) dX5_init_74 (fun w88 H locs hp89 hW hS => ?_)
  clear hz
  obtain ⟨hf90, ⟨ehl92, hl92⟩, hn91⟩ := hp89
  have ho47 := (hn91 _ (by omega) (by omega)).trans ho47
  have hf6 := (hn91 _ (by omega) (by omega)).trans hf6
  have hf18 := (hn91 _ (by omega) (by omega)).trans hf18
  have ohf42 := (hn91 _ (by omega) (by omega)).trans ohf42
  have ohf54 := (hn91 _ (by omega) (by omega)).trans ohf54
  have ohf66 := (hn91 _ (by omega) (by omega)).trans ohf66
  have ohf78 := (hn91 _ (by omega) (by omega)).trans ohf78
  have hf7 := (hn91 _ (by omega) (by omega)).trans hf7
  have hf19 := (hn91 _ (by omega) (by omega)).trans hf19
  have ha27 := (hn91 _ (by omega) (by omega)).trans ha27
  have ha83 := (hn91 _ (by omega) (by omega)).trans ha83
  have ahf42 := (hn91 _ (by omega) (by omega)).trans ahf42
  have ahf54 := (hn91 _ (by omega) (by omega)).trans ahf54
  have ahf66 := (hn91 _ (by omega) (by omega)).trans ahf66
  have ahf78 := (hn91 _ (by omega) (by omega)).trans ahf78
  have hfr := fr_2 (by omega) hn91 hfr
  have ohf90 := hf90.1
  have ahf90 := hf90.2
  refine h_aast (k := 3) F hW hS ha83 rfl ohf90 rfl (by omega) (by omega) dX5_init_77 (fun w93 H locs ha95 hn94 hW hS => ?_)
  have ho47 := (hn94 _ (by omega)).trans ho47
  have hf6 := (hn94 _ (by omega)).trans hf6
  have hf18 := (hn94 _ (by omega)).trans hf18
  have ohf42 := (hn94 _ (by omega)).trans ohf42
  have ohf54 := (hn94 _ (by omega)).trans ohf54
  have ohf66 := (hn94 _ (by omega)).trans ohf66
  have ohf78 := (hn94 _ (by omega)).trans ohf78
  have ohf90 := (hn94 _ (by omega)).trans ohf90
  have hf7 := (hn94 _ (by omega)).trans hf7
  have hf19 := (hn94 _ (by omega)).trans hf19
  have ha27 := (hn94 _ (by omega)).trans ha27
  have ahf42 := (hn94 _ (by omega)).trans ahf42
  have ahf54 := (hn94 _ (by omega)).trans ahf54
  have ahf66 := (hn94 _ (by omega)).trans ahf66
  have ahf78 := (hn94 _ (by omega)).trans ahf78
  have ahf90 := (hn94 _ (by omega)).trans ahf90
  have hfr := fr_1 (by omega) hn94 hfr
  refine h_iinc (k := 0) (a := 3) (lv' := [(1, .int (iI 4)), (0, .ref a)]) F dX5_init_78 hl rfl (by decide) rfl (fun ls hl => ?_)
  refine h_goto (tgt := 56) F dX5_init_81 (by decide) ?_
  refine lv_iload_n F.1 F.2.1 dX5_init_56 rfl (lv_at hl 0 rfl) ?_
  refine lv_aload_n F.1 F.2.1 dX5_init_57 rfl (lv_at hl 1 rfl) ?_
  refine gf_RX5_27 F hW ho47 rfl dX5_init_58 ?_
  refine h_alen (k := 3) (n := 8) F hW rfl ha95 dX5_init_61 ?_
  refine h_icge (tgt := 84) F dX5_init_62 (by decide) (by decide) (fun c9 => absurd c9 (by decide)) (fun _ => ?_)
  refine lv_aload_n F.1 F.2.1 dX5_init_65 rfl (lv_at hl 1 rfl) ?_
  refine gf_RX5_27 F hW ho47 rfl dX5_init_66 ?_
  refine lv_iload_n F.1 F.2.1 dX5_init_69 rfl (lv_at hl 0 rfl) ?_
  refine h_size (q := a + 16) hW ahf90 (by (try dsimp only); omega) (fun hz => ?_)
  have hz := hz.trans (show _ = a + 17 by omega)
  refine h_new (ci := 1) (fs := [.null, .int (iI 0), .int (iI 0), .int (iI 0), .int (iI 0), .int (iI 0)]) F hW hS hz inX1 tyX1 tyX1_ok kl_RX5_25 kb_RX1 kn_RX1 rfl (by intro j hj; rcases (show j = 0 ∨ j = 1 ∨ j = 2 ∨ j = 3 ∨ j = 4 ∨ j = 5 by omega) with hj | hj | hj | hj | hj | hj <;> subst hj <;> rfl) (by (try dsimp only); omega) dX5_init_70 (fun w97 H ho99 hn98 hW hS => ?_)
  clear hz
  have ho47 := (hn98 _ (by omega)).trans ho47
  have hf6 := (hn98 _ (by omega)).trans hf6
  have hf18 := (hn98 _ (by omega)).trans hf18
  have ohf42 := (hn98 _ (by omega)).trans ohf42
  have ohf54 := (hn98 _ (by omega)).trans ohf54
  have ohf66 := (hn98 _ (by omega)).trans ohf66
  have ohf78 := (hn98 _ (by omega)).trans ohf78
  have ohf90 := (hn98 _ (by omega)).trans ohf90
  have hf7 := (hn98 _ (by omega)).trans hf7
  have hf19 := (hn98 _ (by omega)).trans hf19
  have ha27 := (hn98 _ (by omega)).trans ha27
  have ha95 := (hn98 _ (by omega)).trans ha95
  have ahf42 := (hn98 _ (by omega)).trans ahf42
  have ahf54 := (hn98 _ (by omega)).trans ahf54
  have ahf66 := (hn98 _ (by omega)).trans ahf66
  have ahf78 := (hn98 _ (by omega)).trans ahf78
  have ahf90 := (hn98 _ (by omega)).trans ahf90
  have hfr := fr_1 (by omega) hn98 hfr
  refine lv_dup F.1 F.2.1 dX5_init_73 rfl ?_
  refine h_size (q := a + 17) hW ho99 (by (try dsimp only); omega) (fun hz => ?_)
  have hz := hz.trans (show _ = (a + 17) + 1 by omega)
  refine h_callIN (As := []) (rest := [.ref (a + 17), .int (iI 4), .ref (a + 6)]) F hl (n_X1_init l X w97 (a + 17) ho99) hW hS hz ⟨kc_yX1_init, kn_RX1, kN_RX5_31, ki_yX1_init⟩ rfl niX1 rfl rfl ⟨Nat.le_of_ble_eq_true rfl, Nat.le_of_ble_eq_true rfl⟩ (Nat.le_of_ble_eq_true rfl) (by (try dsimp only); omega) dX5_init_74 (fun w100 H locs hp101 hW hS => ?_)
  clear hz
  obtain ⟨hf102, ⟨ehl104, hl104⟩, hn103⟩ := hp101
  have ho47 := (hn103 _ (by omega) (by omega)).trans ho47
  have hf6 := (hn103 _ (by omega) (by omega)).trans hf6
  have hf18 := (hn103 _ (by omega) (by omega)).trans hf18
  have ohf42 := (hn103 _ (by omega) (by omega)).trans ohf42
  have ohf54 := (hn103 _ (by omega) (by omega)).trans ohf54
  have ohf66 := (hn103 _ (by omega) (by omega)).trans ohf66
  have ohf78 := (hn103 _ (by omega) (by omega)).trans ohf78
  have ohf90 := (hn103 _ (by omega) (by omega)).trans ohf90
  have hf7 := (hn103 _ (by omega) (by omega)).trans hf7
  have hf19 := (hn103 _ (by omega) (by omega)).trans hf19
  have ha27 := (hn103 _ (by omega) (by omega)).trans ha27
  have ha95 := (hn103 _ (by omega) (by omega)).trans ha95
  have ahf42 := (hn103 _ (by omega) (by omega)).trans ahf42
  have ahf54 := (hn103 _ (by omega) (by omega)).trans ahf54
  have ahf66 := (hn103 _ (by omega) (by omega)).trans ahf66
  have ahf78 := (hn103 _ (by omega) (by omega)).trans ahf78
  have ahf90 := (hn103 _ (by omega) (by omega)).trans ahf90
  have hfr := fr_2 (by omega) hn103 hfr
  have ohf102 := hf102.1
  have ahf102 := hf102.2
  refine h_aast (k := 3) F hW hS ha95 rfl ohf102 rfl (by omega) (by omega) dX5_init_77 (fun w105 H locs ha107 hn106 hW hS => ?_)
  have ho47 := (hn106 _ (by omega)).trans ho47
  have hf6 := (hn106 _ (by omega)).trans hf6
  have hf18 := (hn106 _ (by omega)).trans hf18
  have ohf42 := (hn106 _ (by omega)).trans ohf42
  have ohf54 := (hn106 _ (by omega)).trans ohf54
  have ohf66 := (hn106 _ (by omega)).trans ohf66
  have ohf78 := (hn106 _ (by omega)).trans ohf78
  have ohf90 := (hn106 _ (by omega)).trans ohf90
  have ohf102 := (hn106 _ (by omega)).trans ohf102
  have hf7 := (hn106 _ (by omega)).trans hf7
  have hf19 := (hn106 _ (by omega)).trans hf19
  have ha27 := (hn106 _ (by omega)).trans ha27
  have ahf42 := (hn106 _ (by omega)).trans ahf42
  have ahf54 := (hn106 _ (by omega)).trans ahf54
  have ahf66 := (hn106 _ (by omega)).trans ahf66
  have ahf78 := (hn106 _ (by omega)).trans ahf78
  have ahf90 := (hn106 _ (by omega)).trans ahf90
  have ahf102 := (hn106 _ (by omega)).trans ahf102
  have hfr := fr_1 (by omega) hn106 hfr
  refine h_iinc (k := 0) (a := 4) (lv' := [(1, .int (iI 5)), (0, .ref a)]) F dX5_init_78 hl rfl (by decide) rfl (fun ls hl => ?_)
  refine h_goto (tgt := 56) F dX5_init_81 (by decide) ?_
  refine lv_iload_n F.1 F.2.1 dX5_init_56 rfl (lv_at hl 0 rfl) ?_
  refine lv_aload_n F.1 F.2.1 dX5_init_57 rfl (lv_at hl 1 rfl) ?_
  refine gf_RX5_27 F hW ho47 rfl dX5_init_58 ?_
  refine h_alen (k := 3) (n := 8) F hW rfl ha107 dX5_init_61 ?_
  refine h_icge (tgt := 84) F dX5_init_62 (by decide) (by decide) (fun c9 => absurd c9 (by decide)) (fun _ => ?_)
  refine lv_aload_n F.1 F.2.1 dX5_init_65 rfl (lv_at hl 1 rfl) ?_
  refine gf_RX5_27 F hW ho47 rfl dX5_init_66 ?_
  refine lv_iload_n F.1 F.2.1 dX5_init_69 rfl (lv_at hl 0 rfl) ?_
  refine h_size (q := a + 18) hW ahf102 (by (try dsimp only); omega) (fun hz => ?_)
  have hz := hz.trans (show _ = a + 19 by omega)
  refine h_new (ci := 1) (fs := [.null, .int (iI 0), .int (iI 0), .int (iI 0), .int (iI 0), .int (iI 0)]) F hW hS hz inX1 tyX1 tyX1_ok kl_RX5_25 kb_RX1 kn_RX1 rfl (by intro j hj; rcases (show j = 0 ∨ j = 1 ∨ j = 2 ∨ j = 3 ∨ j = 4 ∨ j = 5 by omega) with hj | hj | hj | hj | hj | hj <;> subst hj <;> rfl) (by (try dsimp only); omega) dX5_init_70 (fun w109 H ho111 hn110 hW hS => ?_)
  clear hz
  have ho47 := (hn110 _ (by omega)).trans ho47
  have hf6 := (hn110 _ (by omega)).trans hf6
  have hf18 := (hn110 _ (by omega)).trans hf18
  have ohf42 := (hn110 _ (by omega)).trans ohf42
  have ohf54 := (hn110 _ (by omega)).trans ohf54
  have ohf66 := (hn110 _ (by omega)).trans ohf66
  have ohf78 := (hn110 _ (by omega)).trans ohf78
  have ohf90 := (hn110 _ (by omega)).trans ohf90
  have ohf102 := (hn110 _ (by omega)).trans ohf102
  have hf7 := (hn110 _ (by omega)).trans hf7
  have hf19 := (hn110 _ (by omega)).trans hf19
  have ha27 := (hn110 _ (by omega)).trans ha27
  have ha107 := (hn110 _ (by omega)).trans ha107
  have ahf42 := (hn110 _ (by omega)).trans ahf42
  have ahf54 := (hn110 _ (by omega)).trans ahf54
  have ahf66 := (hn110 _ (by omega)).trans ahf66
  have ahf78 := (hn110 _ (by omega)).trans ahf78
  have ahf90 := (hn110 _ (by omega)).trans ahf90
  have ahf102 := (hn110 _ (by omega)).trans ahf102
  have hfr := fr_1 (by omega) hn110 hfr
  refine lv_dup F.1 F.2.1 dX5_init_73 rfl ?_
  refine h_size (q := a + 19) hW ho111 (by (try dsimp only); omega) (fun hz => ?_)
  have hz := hz.trans (show _ = (a + 19) + 1 by omega)
  refine h_callIN (As := []) (rest := [.ref (a + 19), .int (iI 5), .ref (a + 6)]) F hl (n_X1_init l X w109 (a + 19) ho111) hW hS hz ⟨kc_yX1_init, kn_RX1, kN_RX5_31, ki_yX1_init⟩ rfl niX1 rfl rfl ⟨Nat.le_of_ble_eq_true rfl, Nat.le_of_ble_eq_true rfl⟩ (Nat.le_of_ble_eq_true rfl) (by (try dsimp only); omega) dX5_init_74 (fun w112 H locs hp113 hW hS => ?_)
  clear hz
  obtain ⟨hf114, ⟨ehl116, hl116⟩, hn115⟩ := hp113
  have ho47 := (hn115 _ (by omega) (by omega)).trans ho47
  have hf6 := (hn115 _ (by omega) (by omega)).trans hf6
  have hf18 := (hn115 _ (by omega) (by omega)).trans hf18
  have ohf42 := (hn115 _ (by omega) (by omega)).trans ohf42
  have ohf54 := (hn115 _ (by omega) (by omega)).trans ohf54
  have ohf66 := (hn115 _ (by omega) (by omega)).trans ohf66
  have ohf78 := (hn115 _ (by omega) (by omega)).trans ohf78
  have ohf90 := (hn115 _ (by omega) (by omega)).trans ohf90
  have ohf102 := (hn115 _ (by omega) (by omega)).trans ohf102
  have hf7 := (hn115 _ (by omega) (by omega)).trans hf7
  have hf19 := (hn115 _ (by omega) (by omega)).trans hf19
  have ha27 := (hn115 _ (by omega) (by omega)).trans ha27
  have ha107 := (hn115 _ (by omega) (by omega)).trans ha107
  have ahf42 := (hn115 _ (by omega) (by omega)).trans ahf42
  have ahf54 := (hn115 _ (by omega) (by omega)).trans ahf54
  have ahf66 := (hn115 _ (by omega) (by omega)).trans ahf66
  have ahf78 := (hn115 _ (by omega) (by omega)).trans ahf78
  have ahf90 := (hn115 _ (by omega) (by omega)).trans ahf90
  have ahf102 := (hn115 _ (by omega) (by omega)).trans ahf102
  have hfr := fr_2 (by omega) hn115 hfr
  have ohf114 := hf114.1
  have ahf114 := hf114.2
  refine h_aast (k := 3) F hW hS ha107 rfl ohf114 rfl (by omega) (by omega) dX5_init_77 (fun w117 H locs ha119 hn118 hW hS => ?_)
  have ho47 := (hn118 _ (by omega)).trans ho47
  have hf6 := (hn118 _ (by omega)).trans hf6
  have hf18 := (hn118 _ (by omega)).trans hf18
  have ohf42 := (hn118 _ (by omega)).trans ohf42
  have ohf54 := (hn118 _ (by omega)).trans ohf54
  have ohf66 := (hn118 _ (by omega)).trans ohf66
  have ohf78 := (hn118 _ (by omega)).trans ohf78
  have ohf90 := (hn118 _ (by omega)).trans ohf90
  have ohf102 := (hn118 _ (by omega)).trans ohf102
  have ohf114 := (hn118 _ (by omega)).trans ohf114
  have hf7 := (hn118 _ (by omega)).trans hf7
  have hf19 := (hn118 _ (by omega)).trans hf19
  have ha27 := (hn118 _ (by omega)).trans ha27
  have ahf42 := (hn118 _ (by omega)).trans ahf42
  have ahf54 := (hn118 _ (by omega)).trans ahf54
  have ahf66 := (hn118 _ (by omega)).trans ahf66
  have ahf78 := (hn118 _ (by omega)).trans ahf78
  have ahf90 := (hn118 _ (by omega)).trans ahf90
  have ahf102 := (hn118 _ (by omega)).trans ahf102
  have ahf114 := (hn118 _ (by omega)).trans ahf114
  have hfr := fr_1 (by omega) hn118 hfr
  refine h_iinc (k := 0) (a := 5) (lv' := [(1, .int (iI 6)), (0, .ref a)]) F dX5_init_78 hl rfl (by decide) rfl (fun ls hl => ?_)
  refine h_goto (tgt := 56) F dX5_init_81 (by decide) ?_
  refine lv_iload_n F.1 F.2.1 dX5_init_56 rfl (lv_at hl 0 rfl) ?_
  refine lv_aload_n F.1 F.2.1 dX5_init_57 rfl (lv_at hl 1 rfl) ?_
  refine gf_RX5_27 F hW ho47 rfl dX5_init_58 ?_
  refine h_alen (k := 3) (n := 8) F hW rfl ha119 dX5_init_61 ?_
  refine h_icge (tgt := 84) F dX5_init_62 (by decide) (by decide) (fun c9 => absurd c9 (by decide)) (fun _ => ?_)
  refine lv_aload_n F.1 F.2.1 dX5_init_65 rfl (lv_at hl 1 rfl) ?_
  refine gf_RX5_27 F hW ho47 rfl dX5_init_66 ?_
  refine lv_iload_n F.1 F.2.1 dX5_init_69 rfl (lv_at hl 0 rfl) ?_
  refine h_size (q := a + 20) hW ahf114 (by (try dsimp only); omega) (fun hz => ?_)
  have hz := hz.trans (show _ = a + 21 by omega)
  refine h_new (ci := 1) (fs := [.null, .int (iI 0), .int (iI 0), .int (iI 0), .int (iI 0), .int (iI 0)]) F hW hS hz inX1 tyX1 tyX1_ok kl_RX5_25 kb_RX1 kn_RX1 rfl (by intro j hj; rcases (show j = 0 ∨ j = 1 ∨ j = 2 ∨ j = 3 ∨ j = 4 ∨ j = 5 by omega) with hj | hj | hj | hj | hj | hj <;> subst hj <;> rfl) (by (try dsimp only); omega) dX5_init_70 (fun w121 H ho123 hn122 hW hS => ?_)
  clear hz
  have ho47 := (hn122 _ (by omega)).trans ho47
  have hf6 := (hn122 _ (by omega)).trans hf6
  have hf18 := (hn122 _ (by omega)).trans hf18
  have ohf42 := (hn122 _ (by omega)).trans ohf42
  have ohf54 := (hn122 _ (by omega)).trans ohf54
  have ohf66 := (hn122 _ (by omega)).trans ohf66
  have ohf78 := (hn122 _ (by omega)).trans ohf78
  have ohf90 := (hn122 _ (by omega)).trans ohf90
  have ohf102 := (hn122 _ (by omega)).trans ohf102
  have ohf114 := (hn122 _ (by omega)).trans ohf114
  have hf7 := (hn122 _ (by omega)).trans hf7
  have hf19 := (hn122 _ (by omega)).trans hf19
  have ha27 := (hn122 _ (by omega)).trans ha27
  have ha119 := (hn122 _ (by omega)).trans ha119
  have ahf42 := (hn122 _ (by omega)).trans ahf42
  have ahf54 := (hn122 _ (by omega)).trans ahf54
  have ahf66 := (hn122 _ (by omega)).trans ahf66
  have ahf78 := (hn122 _ (by omega)).trans ahf78
  have ahf90 := (hn122 _ (by omega)).trans ahf90
  have ahf102 := (hn122 _ (by omega)).trans ahf102
  have ahf114 := (hn122 _ (by omega)).trans ahf114
  have hfr := fr_1 (by omega) hn122 hfr
  refine lv_dup F.1 F.2.1 dX5_init_73 rfl ?_
  refine h_size (q := a + 21) hW ho123 (by (try dsimp only); omega) (fun hz => ?_)
  have hz := hz.trans (show _ = (a + 21) + 1 by omega)
  refine h_callIN (As := []) (rest := [.ref (a + 21), .int (iI 6), .ref (a + 6)]) F hl (n_X1_init l X w121 (a + 21) ho123) hW hS hz ⟨kc_yX1_init, kn_RX1, kN_RX5_31, ki_yX1_init⟩ rfl niX1 rfl rfl ⟨Nat.le_of_ble_eq_true rfl, Nat.le_of_ble_eq_true rfl⟩ (Nat.le_of_ble_eq_true rfl) (by (try dsimp only); omega) dX5_init_74 (fun w124 H locs hp125 hW hS => ?_)
  clear hz
  obtain ⟨hf126, ⟨ehl128, hl128⟩, hn127⟩ := hp125
  have ho47 := (hn127 _ (by omega) (by omega)).trans ho47
  have hf6 := (hn127 _ (by omega) (by omega)).trans hf6
  have hf18 := (hn127 _ (by omega) (by omega)).trans hf18
  have ohf42 := (hn127 _ (by omega) (by omega)).trans ohf42
  have ohf54 := (hn127 _ (by omega) (by omega)).trans ohf54
  have ohf66 := (hn127 _ (by omega) (by omega)).trans ohf66
  have ohf78 := (hn127 _ (by omega) (by omega)).trans ohf78
  have ohf90 := (hn127 _ (by omega) (by omega)).trans ohf90
  have ohf102 := (hn127 _ (by omega) (by omega)).trans ohf102
  have ohf114 := (hn127 _ (by omega) (by omega)).trans ohf114
  have hf7 := (hn127 _ (by omega) (by omega)).trans hf7
  have hf19 := (hn127 _ (by omega) (by omega)).trans hf19
  have ha27 := (hn127 _ (by omega) (by omega)).trans ha27
  have ha119 := (hn127 _ (by omega) (by omega)).trans ha119
  have ahf42 := (hn127 _ (by omega) (by omega)).trans ahf42
  have ahf54 := (hn127 _ (by omega) (by omega)).trans ahf54
  have ahf66 := (hn127 _ (by omega) (by omega)).trans ahf66
  have ahf78 := (hn127 _ (by omega) (by omega)).trans ahf78
  have ahf90 := (hn127 _ (by omega) (by omega)).trans ahf90
  have ahf102 := (hn127 _ (by omega) (by omega)).trans ahf102
  have ahf114 := (hn127 _ (by omega) (by omega)).trans ahf114
  have hfr := fr_2 (by omega) hn127 hfr
  have ohf126 := hf126.1
  have ahf126 := hf126.2
  refine h_aast (k := 3) F hW hS ha119 rfl ohf126 rfl (by omega) (by omega) dX5_init_77 (fun w129 H locs ha131 hn130 hW hS => ?_)
  have ho47 := (hn130 _ (by omega)).trans ho47
  have hf6 := (hn130 _ (by omega)).trans hf6
  have hf18 := (hn130 _ (by omega)).trans hf18
  have ohf42 := (hn130 _ (by omega)).trans ohf42
  have ohf54 := (hn130 _ (by omega)).trans ohf54
  have ohf66 := (hn130 _ (by omega)).trans ohf66
  have ohf78 := (hn130 _ (by omega)).trans ohf78
  have ohf90 := (hn130 _ (by omega)).trans ohf90
  have ohf102 := (hn130 _ (by omega)).trans ohf102
  have ohf114 := (hn130 _ (by omega)).trans ohf114
  have ohf126 := (hn130 _ (by omega)).trans ohf126
  have hf7 := (hn130 _ (by omega)).trans hf7
  have hf19 := (hn130 _ (by omega)).trans hf19
  have ha27 := (hn130 _ (by omega)).trans ha27
  have ahf42 := (hn130 _ (by omega)).trans ahf42
  have ahf54 := (hn130 _ (by omega)).trans ahf54
  have ahf66 := (hn130 _ (by omega)).trans ahf66
  have ahf78 := (hn130 _ (by omega)).trans ahf78
  have ahf90 := (hn130 _ (by omega)).trans ahf90
  have ahf102 := (hn130 _ (by omega)).trans ahf102
  have ahf114 := (hn130 _ (by omega)).trans ahf114
  have ahf126 := (hn130 _ (by omega)).trans ahf126
  have hfr := fr_1 (by omega) hn130 hfr
  refine h_iinc (k := 0) (a := 6) (lv' := [(1, .int (iI 7)), (0, .ref a)]) F dX5_init_78 hl rfl (by decide) rfl (fun ls hl => ?_)
  refine h_goto (tgt := 56) F dX5_init_81 (by decide) ?_
  refine lv_iload_n F.1 F.2.1 dX5_init_56 rfl (lv_at hl 0 rfl) ?_
  refine lv_aload_n F.1 F.2.1 dX5_init_57 rfl (lv_at hl 1 rfl) ?_
  refine gf_RX5_27 F hW ho47 rfl dX5_init_58 ?_
  refine h_alen (k := 3) (n := 8) F hW rfl ha131 dX5_init_61 ?_
  refine h_icge (tgt := 84) F dX5_init_62 (by decide) (by decide) (fun c9 => absurd c9 (by decide)) (fun _ => ?_)
  refine lv_aload_n F.1 F.2.1 dX5_init_65 rfl (lv_at hl 1 rfl) ?_
  refine gf_RX5_27 F hW ho47 rfl dX5_init_66 ?_
  refine lv_iload_n F.1 F.2.1 dX5_init_69 rfl (lv_at hl 0 rfl) ?_
  refine h_size (q := a + 22) hW ahf126 (by (try dsimp only); omega) (fun hz => ?_)
  have hz := hz.trans (show _ = a + 23 by omega)
  refine h_new (ci := 1) (fs := [.null, .int (iI 0), .int (iI 0), .int (iI 0), .int (iI 0), .int (iI 0)]) F hW hS hz inX1 tyX1 tyX1_ok kl_RX5_25 kb_RX1 kn_RX1 rfl (by intro j hj; rcases (show j = 0 ∨ j = 1 ∨ j = 2 ∨ j = 3 ∨ j = 4 ∨ j = 5 by omega) with hj | hj | hj | hj | hj | hj <;> subst hj <;> rfl) (by (try dsimp only); omega) dX5_init_70 (fun w133 H ho135 hn134 hW hS => ?_)
  clear hz
  have ho47 := (hn134 _ (by omega)).trans ho47
  have hf6 := (hn134 _ (by omega)).trans hf6
  have hf18 := (hn134 _ (by omega)).trans hf18
  have ohf42 := (hn134 _ (by omega)).trans ohf42
  have ohf54 := (hn134 _ (by omega)).trans ohf54
  have ohf66 := (hn134 _ (by omega)).trans ohf66
  have ohf78 := (hn134 _ (by omega)).trans ohf78
  have ohf90 := (hn134 _ (by omega)).trans ohf90
  have ohf102 := (hn134 _ (by omega)).trans ohf102
  have ohf114 := (hn134 _ (by omega)).trans ohf114
  have ohf126 := (hn134 _ (by omega)).trans ohf126
  have hf7 := (hn134 _ (by omega)).trans hf7
  have hf19 := (hn134 _ (by omega)).trans hf19
  have ha27 := (hn134 _ (by omega)).trans ha27
  have ha131 := (hn134 _ (by omega)).trans ha131
  have ahf42 := (hn134 _ (by omega)).trans ahf42
  have ahf54 := (hn134 _ (by omega)).trans ahf54
  have ahf66 := (hn134 _ (by omega)).trans ahf66
  have ahf78 := (hn134 _ (by omega)).trans ahf78
  have ahf90 := (hn134 _ (by omega)).trans ahf90
  have ahf102 := (hn134 _ (by omega)).trans ahf102
  have ahf114 := (hn134 _ (by omega)).trans ahf114
  have ahf126 := (hn134 _ (by omega)).trans ahf126
  have hfr := fr_1 (by omega) hn134 hfr
  refine lv_dup F.1 F.2.1 dX5_init_73 rfl ?_
  refine h_size (q := a + 23) hW ho135 (by (try dsimp only); omega) (fun hz => ?_)
  have hz := hz.trans (show _ = (a + 23) + 1 by omega)
  refine h_callIN (As := []) (rest := [.ref (a + 23), .int (iI 7), .ref (a + 6)]) F hl (n_X1_init l X w133 (a + 23) ho135) hW hS hz ⟨kc_yX1_init, kn_RX1, kN_RX5_31, ki_yX1_init⟩ rfl niX1 rfl rfl ⟨Nat.le_of_ble_eq_true rfl, Nat.le_of_ble_eq_true rfl⟩ (Nat.le_of_ble_eq_true rfl) (by (try dsimp only); omega) dX5_init_74 (fun w136 H locs hp137 hW hS => ?_)
  clear hz
  obtain ⟨hf138, ⟨ehl140, hl140⟩, hn139⟩ := hp137
  have ho47 := (hn139 _ (by omega) (by omega)).trans ho47
  have hf6 := (hn139 _ (by omega) (by omega)).trans hf6
  have hf18 := (hn139 _ (by omega) (by omega)).trans hf18
  have ohf42 := (hn139 _ (by omega) (by omega)).trans ohf42
  have ohf54 := (hn139 _ (by omega) (by omega)).trans ohf54
  have ohf66 := (hn139 _ (by omega) (by omega)).trans ohf66
  have ohf78 := (hn139 _ (by omega) (by omega)).trans ohf78
  have ohf90 := (hn139 _ (by omega) (by omega)).trans ohf90
  have ohf102 := (hn139 _ (by omega) (by omega)).trans ohf102
  have ohf114 := (hn139 _ (by omega) (by omega)).trans ohf114
  have ohf126 := (hn139 _ (by omega) (by omega)).trans ohf126
  have hf7 := (hn139 _ (by omega) (by omega)).trans hf7
  have hf19 := (hn139 _ (by omega) (by omega)).trans hf19
  have ha27 := (hn139 _ (by omega) (by omega)).trans ha27
  have ha131 := (hn139 _ (by omega) (by omega)).trans ha131
  have ahf42 := (hn139 _ (by omega) (by omega)).trans ahf42
  have ahf54 := (hn139 _ (by omega) (by omega)).trans ahf54
  have ahf66 := (hn139 _ (by omega) (by omega)).trans ahf66
  have ahf78 := (hn139 _ (by omega) (by omega)).trans ahf78
  have ahf90 := (hn139 _ (by omega) (by omega)).trans ahf90
  have ahf102 := (hn139 _ (by omega) (by omega)).trans ahf102
  have ahf114 := (hn139 _ (by omega) (by omega)).trans ahf114
  have ahf126 := (hn139 _ (by omega) (by omega)).trans ahf126
  have hfr := fr_2 (by omega) hn139 hfr
  have ohf138 := hf138.1
  have ahf138 := hf138.2
  refine h_aast (k := 3) F hW hS ha131 rfl ohf138 rfl (by omega) (by omega) dX5_init_77 (fun w141 H locs ha143 hn142 hW hS => ?_)
  have ho47 := (hn142 _ (by omega)).trans ho47
  have hf6 := (hn142 _ (by omega)).trans hf6
  have hf18 := (hn142 _ (by omega)).trans hf18
  have ohf42 := (hn142 _ (by omega)).trans ohf42
  have ohf54 := (hn142 _ (by omega)).trans ohf54
  have ohf66 := (hn142 _ (by omega)).trans ohf66
  have ohf78 := (hn142 _ (by omega)).trans ohf78
  have ohf90 := (hn142 _ (by omega)).trans ohf90
  have ohf102 := (hn142 _ (by omega)).trans ohf102
  have ohf114 := (hn142 _ (by omega)).trans ohf114
  have ohf126 := (hn142 _ (by omega)).trans ohf126
  have ohf138 := (hn142 _ (by omega)).trans ohf138
  have hf7 := (hn142 _ (by omega)).trans hf7
  have hf19 := (hn142 _ (by omega)).trans hf19
  have ha27 := (hn142 _ (by omega)).trans ha27
  have ahf42 := (hn142 _ (by omega)).trans ahf42
  have ahf54 := (hn142 _ (by omega)).trans ahf54
  have ahf66 := (hn142 _ (by omega)).trans ahf66
  have ahf78 := (hn142 _ (by omega)).trans ahf78
  have ahf90 := (hn142 _ (by omega)).trans ahf90
  have ahf102 := (hn142 _ (by omega)).trans ahf102
  have ahf114 := (hn142 _ (by omega)).trans ahf114
  have ahf126 := (hn142 _ (by omega)).trans ahf126
  have ahf138 := (hn142 _ (by omega)).trans ahf138
  have hfr := fr_1 (by omega) hn142 hfr
  refine h_iinc (k := 0) (a := 7) (lv' := [(1, .int (iI 8)), (0, .ref a)]) F dX5_init_78 hl rfl (by decide) rfl (fun ls hl => ?_)
  refine h_goto (tgt := 56) F dX5_init_81 (by decide) ?_
  refine lv_iload_n F.1 F.2.1 dX5_init_56 rfl (lv_at hl 0 rfl) ?_
  refine lv_aload_n F.1 F.2.1 dX5_init_57 rfl (lv_at hl 1 rfl) ?_
  refine gf_RX5_27 F hW ho47 rfl dX5_init_58 ?_
  refine h_alen (k := 3) (n := 8) F hW rfl ha143 dX5_init_61 ?_
  refine h_icge (tgt := 84) F dX5_init_62 (by decide) (by decide) (fun _ => ?_) (fun c9 => absurd c9 (by decide))
  refine lv_aload_n F.1 F.2.1 dX5_init_84 rfl (lv_at hl 1 rfl) ?_
  refine h_bipush F dX5_init_85 rfl ?_
  refine h_bipush F dX5_init_87 rfl ?_
  have hlm : lmA X w141 a (fun _ => 0) := by
    refine ⟨ho47, ⟨fun _ _ => 0, ⟨hf6, fun _ => lI 0, hf7, fun c r c0 c1 r0 r1 => ?_⟩, fun c r c0 c1 r0 r1 => rfl⟩, ⟨fun _ _ => 0, hf18, fun _ => lI 0, hf19, fun c r c0 c1 r0 r1 => ?_⟩, ⟨fun _ => 0, ha27, fun c c0 c1 => rfl⟩, ?_, fun i hi => ?_, fun k k0 k1 => ?_⟩
    · exact dig0 _
    · exact dig0 _
    · rw [ha143]
      congr 2
      funext i
      by_cases g : i < 8
      · rw [if_pos g]
        rcases (show i = 0 ∨ i = 1 ∨ i = 2 ∨ i = 3 ∨ i = 4 ∨ i = 5 ∨ i = 6 ∨ i = 7 by omega) with h | h | h | h | h | h | h | h <;> subst h <;> simp [va_up]
      · rw [if_neg g]
        simp only [va_up]
        (repeat rw [if_neg (by simp; omega)])
    · rcases (show i = 0 ∨ i = 1 ∨ i = 2 ∨ i = 3 ∨ i = 4 ∨ i = 5 ∨ i = 6 ∨ i = 7 ∨ i = 8 by omega) with h | h | h | h | h | h | h | h | h <;> subst h
      · exact ⟨0, 0, 0, 0, 0, fun _ => 0, ohf42, ahf42⟩
      · exact ⟨0, 0, 0, 0, 0, fun _ => 0, ohf54, ahf54⟩
      · exact ⟨0, 0, 0, 0, 0, fun _ => 0, ohf66, ahf66⟩
      · exact ⟨0, 0, 0, 0, 0, fun _ => 0, ohf78, ahf78⟩
      · exact ⟨0, 0, 0, 0, 0, fun _ => 0, ohf90, ahf90⟩
      · exact ⟨0, 0, 0, 0, 0, fun _ => 0, ohf102, ahf102⟩
      · exact ⟨0, 0, 0, 0, 0, fun _ => 0, ohf114, ahf114⟩
      · exact ⟨0, 0, 0, 0, 0, fun _ => 0, ohf126, ahf126⟩
      · exact ⟨0, 0, 0, 0, 0, fun _ => 0, ohf138, ahf138⟩
    · exfalso
      have e : (0 : Int) ≤ k := k0
      have e2 : k < 0 := k1
      omega
  refine cl_RX5_36 (As := [.int (iI 12), .int (iI 8)]) (rest := []) F hl (c_X5_reset l X w141 a (fun _ => 0) 12 8 hlm cap0 (by omega)) hW hS ho47 rfl rfl ⟨Nat.le_of_ble_eq_true rfl, Nat.le_of_ble_eq_true rfl⟩ (Nat.le_of_ble_eq_true rfl) (by (try dsimp only); omega) dX5_init_89 (fun w145 H locs hp146 hW hS => ?_)
  obtain ⟨hA9, hP9, hn147⟩ := hp146
  have hla := (hn147 _ (by omega) (by omega) (by omega) (by omega)).trans ahf138
  have hfr := fr_4 (by omega) hn147 hfr
  refine W.widen (k := 24) (n := 263) (by (try dsimp only); omega) (by (try dsimp only); omega) ?_
  exact h_vret F hr hlk hW hS ⟨⟨hA9, hP9, res_WF (by omega)⟩, ⟨_, hla⟩, hfr⟩ dX5_init_92
set_option maxHeartbeats 8000000 in
set_option maxRecDepth 100000 in
theorem n_X4_init (l : Launch) (X : Cx) (w : Wo) (a : Nat) (pas : Int → Int → Int) (ho0 : w a = some (.inr (4, [.null, .int (iI 0), .int (iI 0)]))) : CN l X yX4_init cX4_init 2 { frames := 4, cells := 201, slots := 2200, locals := 89 } [.ref a] (a + 1) w (fun w' => hisAt X w' a 0 0 pas ∧ (∃ e0, w' (a + 2 + 25 * 7 + 23 + 1) = some e0) ∧ ∀ q : Nat, (q < a ∨ a + 202 ≤ q) → w' q = w q) := by
  refine CN.of (lv := [(0, .ref a)]) (by decide) (Nat.le_of_ble_eq_true rfl) rfl (fun p e s m below meth c ls F hr hlk hin hW hn9 hS hl => ?_)
  have hZ0 := hW.2.2
  have hB9 := hW.1.2
  refine lv_aload_n F.1 F.2.1 dX4_init_0 rfl (lv_at hl 0 rfl) ?_
  refine h_obj F hl hoL4 hoI dX4_init_1 ⟨Nat.le_of_ble_eq_true rfl, Nat.le_of_ble_eq_true rfl⟩ ?_
  refine lv_aload_n F.1 F.2.1 dX4_init_4 rfl (lv_at hl 0 rfl) ?_
  refine h_bipush F dX4_init_5 rfl ?_
  refine h_size0 hS (fun hz => ?_)
  have hz := hz.trans (show _ = a + 1 by omega)
  refine h_newR (a := a + 1) (N := 8) (k := 4) (C := RX5) F hW hS hz rfl hW.2.1.2.2.2.2.2.1 kl_RX4_9 rfl (by decide) (by (try dsimp only); omega) dX4_init_7 (fun w1 H ha3 hn2 hW hS => ?_)
  clear hz
  have ho0 := (hn2 _ (by omega)).trans ho0
  have hfr : ∀ q : Nat, (q < a ∨ a + 202 ≤ q) → w q = w q := fr_0
  have hfr := fr_1 (by omega) hn2 hfr
  refine pf_RX4_11 F hW hS ho0 (Nat.le_of_ble_eq_true rfl) hin dX4_init_10 (fun w4 H locs ho6 hn5 hW hS => ?_)
  have ho6 : w4 a = some (.inr (4, [.ref (a + 1), .int (iI 0), .int (iI 0)])) := ho6
  have ha3 := (hn5 _ (by omega)).trans ha3
  have hfr := fr_1 (by omega) hn5 hfr
  refine h_iconst F dX4_init_13 ?_
  refine lv_istore_n (lv' := [(1, .int (iI 0)), (0, .ref a)]) F.1 F.2.1 dX4_init_14 rfl hl (by decide) rfl (fun ls hl => ?_)
  refine lv_iload_n F.1 F.2.1 dX4_init_15 rfl (lv_at hl 0 rfl) ?_
  refine lv_aload_n F.1 F.2.1 dX4_init_16 rfl (lv_at hl 1 rfl) ?_
  refine gf_RX4_11 F hW ho6 rfl dX4_init_17 ?_
  refine h_alen (k := 4) (n := 8) F hW rfl ha3 dX4_init_20 ?_
  refine h_icge (tgt := 43) F dX4_init_21 (by decide) (by decide) (fun c9 => absurd c9 (by decide)) (fun _ => ?_)
  refine lv_aload_n F.1 F.2.1 dX4_init_24 rfl (lv_at hl 1 rfl) ?_
  refine gf_RX4_11 F hW ho6 rfl dX4_init_25 ?_
  refine lv_iload_n F.1 F.2.1 dX4_init_28 rfl (lv_at hl 0 rfl) ?_
  refine h_size (q := a + 1) hW ha3 (by (try dsimp only); omega) (fun hz => ?_)
  have hz := hz.trans (show _ = a + 2 + 25 * 0 by omega)
  refine h_new (ci := 5) (fs := [.null, .null, .null, .null, .null, .int (iI 0), .int (iI 0), .int (iI 0), .int (iI 0), .int (iI 0), .int (iI 0)]) F hW hS hz inX5 tyX5 tyX5_ok kl_RX4_9 kb_RX5 kn_RX5 rfl (by intro j hj; rcases (show j = 0 ∨ j = 1 ∨ j = 2 ∨ j = 3 ∨ j = 4 ∨ j = 5 ∨ j = 6 ∨ j = 7 ∨ j = 8 ∨ j = 9 ∨ j = 10 by omega) with hj | hj | hj | hj | hj | hj | hj | hj | hj | hj | hj <;> subst hj <;> rfl) (by (try dsimp only); omega) dX4_init_29 (fun w8 H ho10 hn9 hW hS => ?_)
  clear hz
  have ho6 := (hn9 _ (by omega)).trans ho6
  have ha3 := (hn9 _ (by omega)).trans ha3
  have hfr := fr_1 (by omega) hn9 hfr
  refine lv_dup F.1 F.2.1 dX4_init_32 rfl ?_
  refine h_size (q := a + 2 + 25 * 0) hW ho10 (by (try dsimp only); omega) (fun hz => ?_)
  have hz := hz.trans (show _ = (a + 2 + 25 * 0) + 1 by omega)
  refine h_callI (As := []) (rest := [.ref (a + 2 + 25 * 0), .int (iI 0), .ref (a + 1)]) F hl (n_X5_init l X w8 (a + 2 + 25 * 0) ho10) hW hS hz ⟨kc_yX5_init, kn_RX5, km_RX4_17, ki_yX5_init⟩ rfl niX5 rfl rfl ⟨Nat.le_of_ble_eq_true rfl, Nat.le_of_ble_eq_true rfl⟩ (Nat.le_of_ble_eq_true rfl) (by (try dsimp only); omega) dX4_init_33 (fun w11 H locs hp12 hW hS => ?_)
  clear hz
  obtain ⟨hf13, ⟨ehl15, hl15⟩, hn14⟩ := hp12
  have ho6 := (hn14 _ (by omega)).trans ho6
  have ha3 := (hn14 _ (by omega)).trans ha3
  have hfr := fr_R (by omega) hn14 hfr
  have ohf13 := hf13.1.o
  refine h_aast (k := 4) F hW hS ha3 rfl ohf13 rfl (by omega) (by omega) dX4_init_36 (fun w16 H locs ha18 hn17 hW hS => ?_)
  have ho6 := (hn17 _ (by omega)).trans ho6
  have ohf13 := (hn17 _ (by omega)).trans ohf13
  have hf13 := lv_1 hf13 (by omega) hn17
  have hl15 := (hn17 _ (by omega)).trans hl15
  have hfr := fr_1 (by omega) hn17 hfr
  refine h_iinc (k := 0) (a := 0) (lv' := [(1, .int (iI 1)), (0, .ref a)]) F dX4_init_37 hl rfl (by decide) rfl (fun ls hl => ?_)
  refine h_goto (tgt := 15) F dX4_init_40 (by decide) ?_
  refine lv_iload_n F.1 F.2.1 dX4_init_15 rfl (lv_at hl 0 rfl) ?_
  refine lv_aload_n F.1 F.2.1 dX4_init_16 rfl (lv_at hl 1 rfl) ?_
  refine gf_RX4_11 F hW ho6 rfl dX4_init_17 ?_
  refine h_alen (k := 4) (n := 8) F hW rfl ha18 dX4_init_20 ?_
  refine h_icge (tgt := 43) F dX4_init_21 (by decide) (by decide) (fun c9 => absurd c9 (by decide)) (fun _ => ?_)
  refine lv_aload_n F.1 F.2.1 dX4_init_24 rfl (lv_at hl 1 rfl) ?_
  refine gf_RX4_11 F hW ho6 rfl dX4_init_25 ?_
  refine lv_iload_n F.1 F.2.1 dX4_init_28 rfl (lv_at hl 0 rfl) ?_
  refine h_size (q := a + 2 + 25 * 0 + 23 + 1) hW hl15 (by (try dsimp only); omega) (fun hz => ?_)
  have hz := hz.trans (show _ = a + 2 + 25 * 1 by omega)
  refine h_new (ci := 5) (fs := [.null, .null, .null, .null, .null, .int (iI 0), .int (iI 0), .int (iI 0), .int (iI 0), .int (iI 0), .int (iI 0)]) F hW hS hz inX5 tyX5 tyX5_ok kl_RX4_9 kb_RX5 kn_RX5 rfl (by intro j hj; rcases (show j = 0 ∨ j = 1 ∨ j = 2 ∨ j = 3 ∨ j = 4 ∨ j = 5 ∨ j = 6 ∨ j = 7 ∨ j = 8 ∨ j = 9 ∨ j = 10 by omega) with hj | hj | hj | hj | hj | hj | hj | hj | hj | hj | hj <;> subst hj <;> rfl) (by (try dsimp only); omega) dX4_init_29 (fun w20 H ho22 hn21 hW hS => ?_)
  clear hz
  have ho6 := (hn21 _ (by omega)).trans ho6
  have ohf13 := (hn21 _ (by omega)).trans ohf13
  have ha18 := (hn21 _ (by omega)).trans ha18
  have hf13 := lv_1 hf13 (by omega) hn21
  have hl15 := (hn21 _ (by omega)).trans hl15
  have hfr := fr_1 (by omega) hn21 hfr
  refine lv_dup F.1 F.2.1 dX4_init_32 rfl ?_
  refine h_size (q := a + 2 + 25 * 1) hW ho22 (by (try dsimp only); omega) (fun hz => ?_)
  have hz := hz.trans (show _ = (a + 2 + 25 * 1) + 1 by omega)
  refine h_callI (As := []) (rest := [.ref (a + 2 + 25 * 1), .int (iI 1), .ref (a + 1)]) F hl (n_X5_init l X w20 (a + 2 + 25 * 1) ho22) hW hS hz ⟨kc_yX5_init, kn_RX5, km_RX4_17, ki_yX5_init⟩ rfl niX5 rfl rfl ⟨Nat.le_of_ble_eq_true rfl, Nat.le_of_ble_eq_true rfl⟩ (Nat.le_of_ble_eq_true rfl) (by (try dsimp only); omega) dX4_init_33 (fun w23 H locs hp24 hW hS => ?_)
  clear hz
  obtain ⟨hf25, ⟨ehl27, hl27⟩, hn26⟩ := hp24
  have ho6 := (hn26 _ (by omega)).trans ho6
  have ohf13 := (hn26 _ (by omega)).trans ohf13
  have ha18 := (hn26 _ (by omega)).trans ha18
  have hf13 := lv_R hf13 (by omega) hn26
  have hfr := fr_R (by omega) hn26 hfr
  have ohf25 := hf25.1.o
  refine h_aast (k := 4) F hW hS ha18 rfl ohf25 rfl (by omega) (by omega) dX4_init_36 (fun w28 H locs ha30 hn29 hW hS => ?_)
  have ho6 := (hn29 _ (by omega)).trans ho6
  have ohf13 := (hn29 _ (by omega)).trans ohf13
  have ohf25 := (hn29 _ (by omega)).trans ohf25
  have hf13 := lv_1 hf13 (by omega) hn29
  have hf25 := lv_1 hf25 (by omega) hn29
  have hl27 := (hn29 _ (by omega)).trans hl27
  have hfr := fr_1 (by omega) hn29 hfr
  refine h_iinc (k := 0) (a := 1) (lv' := [(1, .int (iI 2)), (0, .ref a)]) F dX4_init_37 hl rfl (by decide) rfl (fun ls hl => ?_)
  refine h_goto (tgt := 15) F dX4_init_40 (by decide) ?_
  refine lv_iload_n F.1 F.2.1 dX4_init_15 rfl (lv_at hl 0 rfl) ?_
  refine lv_aload_n F.1 F.2.1 dX4_init_16 rfl (lv_at hl 1 rfl) ?_
  refine gf_RX4_11 F hW ho6 rfl dX4_init_17 ?_
  refine h_alen (k := 4) (n := 8) F hW rfl ha30 dX4_init_20 ?_
  refine h_icge (tgt := 43) F dX4_init_21 (by decide) (by decide) (fun c9 => absurd c9 (by decide)) (fun _ => ?_)
  refine lv_aload_n F.1 F.2.1 dX4_init_24 rfl (lv_at hl 1 rfl) ?_
  refine gf_RX4_11 F hW ho6 rfl dX4_init_25 ?_
  refine lv_iload_n F.1 F.2.1 dX4_init_28 rfl (lv_at hl 0 rfl) ?_
  refine h_size (q := a + 2 + 25 * 1 + 23 + 1) hW hl27 (by (try dsimp only); omega) (fun hz => ?_)
  have hz := hz.trans (show _ = a + 2 + 25 * 2 by omega)
  refine h_new (ci := 5) (fs := [.null, .null, .null, .null, .null, .int (iI 0), .int (iI 0), .int (iI 0), .int (iI 0), .int (iI 0), .int (iI 0)]) F hW hS hz inX5 tyX5 tyX5_ok kl_RX4_9 kb_RX5 kn_RX5 rfl (by intro j hj; rcases (show j = 0 ∨ j = 1 ∨ j = 2 ∨ j = 3 ∨ j = 4 ∨ j = 5 ∨ j = 6 ∨ j = 7 ∨ j = 8 ∨ j = 9 ∨ j = 10 by omega) with hj | hj | hj | hj | hj | hj | hj | hj | hj | hj | hj <;> subst hj <;> rfl) (by (try dsimp only); omega) dX4_init_29 (fun w32 H ho34 hn33 hW hS => ?_)
  clear hz
  have ho6 := (hn33 _ (by omega)).trans ho6
  have ohf13 := (hn33 _ (by omega)).trans ohf13
  have ohf25 := (hn33 _ (by omega)).trans ohf25
  have ha30 := (hn33 _ (by omega)).trans ha30
  have hf13 := lv_1 hf13 (by omega) hn33
  have hf25 := lv_1 hf25 (by omega) hn33
  have hl27 := (hn33 _ (by omega)).trans hl27
  have hfr := fr_1 (by omega) hn33 hfr
  refine lv_dup F.1 F.2.1 dX4_init_32 rfl ?_
  refine h_size (q := a + 2 + 25 * 2) hW ho34 (by (try dsimp only); omega) (fun hz => ?_)
  have hz := hz.trans (show _ = (a + 2 + 25 * 2) + 1 by omega)
  refine h_callI (As := []) (rest := [.ref (a + 2 + 25 * 2), .int (iI 2), .ref (a + 1)]) F hl (n_X5_init l X w32 (a + 2 + 25 * 2) ho34) hW hS hz ⟨kc_yX5_init, kn_RX5, km_RX4_17, ki_yX5_init⟩ rfl niX5 rfl rfl ⟨Nat.le_of_ble_eq_true rfl, Nat.le_of_ble_eq_true rfl⟩ (Nat.le_of_ble_eq_true rfl) (by (try dsimp only); omega) dX4_init_33 (fun w35 H locs hp36 hW hS => ?_)
  clear hz
  obtain ⟨hf37, ⟨ehl39, hl39⟩, hn38⟩ := hp36
  have ho6 := (hn38 _ (by omega)).trans ho6
  have ohf13 := (hn38 _ (by omega)).trans ohf13
  have ohf25 := (hn38 _ (by omega)).trans ohf25
  have ha30 := (hn38 _ (by omega)).trans ha30
  have hf13 := lv_R hf13 (by omega) hn38
  have hf25 := lv_R hf25 (by omega) hn38
  have hfr := fr_R (by omega) hn38 hfr
  have ohf37 := hf37.1.o
  refine h_aast (k := 4) F hW hS ha30 rfl ohf37 rfl (by omega) (by omega) dX4_init_36 (fun w40 H locs ha42 hn41 hW hS => ?_)
  have ho6 := (hn41 _ (by omega)).trans ho6
  have ohf13 := (hn41 _ (by omega)).trans ohf13
  have ohf25 := (hn41 _ (by omega)).trans ohf25
  have ohf37 := (hn41 _ (by omega)).trans ohf37
  have hf13 := lv_1 hf13 (by omega) hn41
  have hf25 := lv_1 hf25 (by omega) hn41
  have hf37 := lv_1 hf37 (by omega) hn41
  have hl39 := (hn41 _ (by omega)).trans hl39
  have hfr := fr_1 (by omega) hn41 hfr
  refine h_iinc (k := 0) (a := 2) (lv' := [(1, .int (iI 3)), (0, .ref a)]) F dX4_init_37 hl rfl (by decide) rfl (fun ls hl => ?_)
  refine h_goto (tgt := 15) F dX4_init_40 (by decide) ?_
  refine lv_iload_n F.1 F.2.1 dX4_init_15 rfl (lv_at hl 0 rfl) ?_
  refine lv_aload_n F.1 F.2.1 dX4_init_16 rfl (lv_at hl 1 rfl) ?_
  refine gf_RX4_11 F hW ho6 rfl dX4_init_17 ?_
  refine h_alen (k := 4) (n := 8) F hW rfl ha42 dX4_init_20 ?_
  refine h_icge (tgt := 43) F dX4_init_21 (by decide) (by decide) (fun c9 => absurd c9 (by decide)) (fun _ => ?_)
  refine lv_aload_n F.1 F.2.1 dX4_init_24 rfl (lv_at hl 1 rfl) ?_
  refine gf_RX4_11 F hW ho6 rfl dX4_init_25 ?_
  refine lv_iload_n F.1 F.2.1 dX4_init_28 rfl (lv_at hl 0 rfl) ?_
  refine h_size (q := a + 2 + 25 * 2 + 23 + 1) hW hl39 (by (try dsimp only); omega) (fun hz => ?_)
  have hz := hz.trans (show _ = a + 2 + 25 * 3 by omega)
  refine h_new (ci := 5) (fs := [.null, .null, .null, .null, .null, .int (iI 0), .int (iI 0), .int (iI 0), .int (iI 0), .int (iI 0), .int (iI 0)]) F hW hS hz inX5 tyX5 tyX5_ok kl_RX4_9 kb_RX5 kn_RX5 rfl (by intro j hj; rcases (show j = 0 ∨ j = 1 ∨ j = 2 ∨ j = 3 ∨ j = 4 ∨ j = 5 ∨ j = 6 ∨ j = 7 ∨ j = 8 ∨ j = 9 ∨ j = 10 by omega) with hj | hj | hj | hj | hj | hj | hj | hj | hj | hj | hj <;> subst hj <;> rfl) (by (try dsimp only); omega) dX4_init_29 (fun w44 H ho46 hn45 hW hS => ?_)
  clear hz
  have ho6 := (hn45 _ (by omega)).trans ho6
  have ohf13 := (hn45 _ (by omega)).trans ohf13
  have ohf25 := (hn45 _ (by omega)).trans ohf25
  have ohf37 := (hn45 _ (by omega)).trans ohf37
  have ha42 := (hn45 _ (by omega)).trans ha42
  have hf13 := lv_1 hf13 (by omega) hn45
  have hf25 := lv_1 hf25 (by omega) hn45
  have hf37 := lv_1 hf37 (by omega) hn45
  have hl39 := (hn45 _ (by omega)).trans hl39
  have hfr := fr_1 (by omega) hn45 hfr
  refine lv_dup F.1 F.2.1 dX4_init_32 rfl ?_
  refine h_size (q := a + 2 + 25 * 3) hW ho46 (by (try dsimp only); omega) (fun hz => ?_)
  have hz := hz.trans (show _ = (a + 2 + 25 * 3) + 1 by omega)
  refine h_callI (As := []) (rest := [.ref (a + 2 + 25 * 3), .int (iI 3), .ref (a + 1)]) F hl (n_X5_init l X w44 (a + 2 + 25 * 3) ho46) hW hS hz ⟨kc_yX5_init, kn_RX5, km_RX4_17, ki_yX5_init⟩ rfl niX5 rfl rfl ⟨Nat.le_of_ble_eq_true rfl, Nat.le_of_ble_eq_true rfl⟩ (Nat.le_of_ble_eq_true rfl) (by (try dsimp only); omega) dX4_init_33 (fun w47 H locs hp48 hW hS => ?_)
  clear hz
  obtain ⟨hf49, ⟨ehl51, hl51⟩, hn50⟩ := hp48
  have ho6 := (hn50 _ (by omega)).trans ho6
  have ohf13 := (hn50 _ (by omega)).trans ohf13
  have ohf25 := (hn50 _ (by omega)).trans ohf25
  have ohf37 := (hn50 _ (by omega)).trans ohf37
  have ha42 := (hn50 _ (by omega)).trans ha42
  have hf13 := lv_R hf13 (by omega) hn50
  have hf25 := lv_R hf25 (by omega) hn50
  have hf37 := lv_R hf37 (by omega) hn50
  have hfr := fr_R (by omega) hn50 hfr
  have ohf49 := hf49.1.o
  refine h_aast (k := 4) F hW hS ha42 rfl ohf49 rfl (by omega) (by omega) dX4_init_36 (fun w52 H locs ha54 hn53 hW hS => ?_)
  have ho6 := (hn53 _ (by omega)).trans ho6
  have ohf13 := (hn53 _ (by omega)).trans ohf13
  have ohf25 := (hn53 _ (by omega)).trans ohf25
  have ohf37 := (hn53 _ (by omega)).trans ohf37
  have ohf49 := (hn53 _ (by omega)).trans ohf49
  have hf13 := lv_1 hf13 (by omega) hn53
  have hf25 := lv_1 hf25 (by omega) hn53
  have hf37 := lv_1 hf37 (by omega) hn53
  have hf49 := lv_1 hf49 (by omega) hn53
  have hl51 := (hn53 _ (by omega)).trans hl51
  have hfr := fr_1 (by omega) hn53 hfr
  refine h_iinc (k := 0) (a := 3) (lv' := [(1, .int (iI 4)), (0, .ref a)]) F dX4_init_37 hl rfl (by decide) rfl (fun ls hl => ?_)
  refine h_goto (tgt := 15) F dX4_init_40 (by decide) ?_
  refine lv_iload_n F.1 F.2.1 dX4_init_15 rfl (lv_at hl 0 rfl) ?_
  refine lv_aload_n F.1 F.2.1 dX4_init_16 rfl (lv_at hl 1 rfl) ?_
  refine gf_RX4_11 F hW ho6 rfl dX4_init_17 ?_
  refine h_alen (k := 4) (n := 8) F hW rfl ha54 dX4_init_20 ?_
  refine h_icge (tgt := 43) F dX4_init_21 (by decide) (by decide) (fun c9 => absurd c9 (by decide)) (fun _ => ?_)
  refine lv_aload_n F.1 F.2.1 dX4_init_24 rfl (lv_at hl 1 rfl) ?_
  refine gf_RX4_11 F hW ho6 rfl dX4_init_25 ?_
  refine lv_iload_n F.1 F.2.1 dX4_init_28 rfl (lv_at hl 0 rfl) ?_
  refine h_size (q := a + 2 + 25 * 3 + 23 + 1) hW hl51 (by (try dsimp only); omega) (fun hz => ?_)
  have hz := hz.trans (show _ = a + 2 + 25 * 4 by omega)
  refine h_new (ci := 5) (fs := [.null, .null, .null, .null, .null, .int (iI 0), .int (iI 0), .int (iI 0), .int (iI 0), .int (iI 0), .int (iI 0)]) F hW hS hz inX5 tyX5 tyX5_ok kl_RX4_9 kb_RX5 kn_RX5 rfl (by intro j hj; rcases (show j = 0 ∨ j = 1 ∨ j = 2 ∨ j = 3 ∨ j = 4 ∨ j = 5 ∨ j = 6 ∨ j = 7 ∨ j = 8 ∨ j = 9 ∨ j = 10 by omega) with hj | hj | hj | hj | hj | hj | hj | hj | hj | hj | hj <;> subst hj <;> rfl) (by (try dsimp only); omega) dX4_init_29 (fun w56 H ho58 hn57 hW hS => ?_)
  clear hz
  have ho6 := (hn57 _ (by omega)).trans ho6
  have ohf13 := (hn57 _ (by omega)).trans ohf13
  have ohf25 := (hn57 _ (by omega)).trans ohf25
  have ohf37 := (hn57 _ (by omega)).trans ohf37
  have ohf49 := (hn57 _ (by omega)).trans ohf49
  have ha54 := (hn57 _ (by omega)).trans ha54
  have hf13 := lv_1 hf13 (by omega) hn57
  have hf25 := lv_1 hf25 (by omega) hn57
  have hf37 := lv_1 hf37 (by omega) hn57
  have hf49 := lv_1 hf49 (by omega) hn57
  have hl51 := (hn57 _ (by omega)).trans hl51
  have hfr := fr_1 (by omega) hn57 hfr
  refine lv_dup F.1 F.2.1 dX4_init_32 rfl ?_
  refine h_size (q := a + 2 + 25 * 4) hW ho58 (by (try dsimp only); omega) (fun hz => ?_)
  have hz := hz.trans (show _ = (a + 2 + 25 * 4) + 1 by omega)
  refine h_callI (As := []) (rest := [.ref (a + 2 + 25 * 4), .int (iI 4), .ref (a + 1)]) F hl (n_X5_init l X w56 (a + 2 + 25 * 4) ho58) hW hS hz ⟨kc_yX5_init, kn_RX5, km_RX4_17, ki_yX5_init⟩ rfl niX5 rfl rfl ⟨Nat.le_of_ble_eq_true rfl, Nat.le_of_ble_eq_true rfl⟩ (Nat.le_of_ble_eq_true rfl) (by (try dsimp only); omega) dX4_init_33 (fun w59 H locs hp60 hW hS => ?_)
  clear hz
  obtain ⟨hf61, ⟨ehl63, hl63⟩, hn62⟩ := hp60
  have ho6 := (hn62 _ (by omega)).trans ho6
  have ohf13 := (hn62 _ (by omega)).trans ohf13
  have ohf25 := (hn62 _ (by omega)).trans ohf25
  have ohf37 := (hn62 _ (by omega)).trans ohf37
  have ohf49 := (hn62 _ (by omega)).trans ohf49
  have ha54 := (hn62 _ (by omega)).trans ha54
  have hf13 := lv_R hf13 (by omega) hn62
  have hf25 := lv_R hf25 (by omega) hn62
  have hf37 := lv_R hf37 (by omega) hn62
  have hf49 := lv_R hf49 (by omega) hn62
  have hfr := fr_R (by omega) hn62 hfr
  have ohf61 := hf61.1.o
  refine h_aast (k := 4) F hW hS ha54 rfl ohf61 rfl (by omega) (by omega) dX4_init_36 (fun w64 H locs ha66 hn65 hW hS => ?_)
  have ho6 := (hn65 _ (by omega)).trans ho6
  have ohf13 := (hn65 _ (by omega)).trans ohf13
  have ohf25 := (hn65 _ (by omega)).trans ohf25
  have ohf37 := (hn65 _ (by omega)).trans ohf37
  have ohf49 := (hn65 _ (by omega)).trans ohf49
  have ohf61 := (hn65 _ (by omega)).trans ohf61
  have hf13 := lv_1 hf13 (by omega) hn65
  have hf25 := lv_1 hf25 (by omega) hn65
  have hf37 := lv_1 hf37 (by omega) hn65
  have hf49 := lv_1 hf49 (by omega) hn65
  have hf61 := lv_1 hf61 (by omega) hn65
  have hl63 := (hn65 _ (by omega)).trans hl63
  have hfr := fr_1 (by omega) hn65 hfr
  refine h_iinc (k := 0) (a := 4) (lv' := [(1, .int (iI 5)), (0, .ref a)]) F dX4_init_37 hl rfl (by decide) rfl (fun ls hl => ?_)
  refine h_goto (tgt := 15) F dX4_init_40 (by decide) ?_
  refine lv_iload_n F.1 F.2.1 dX4_init_15 rfl (lv_at hl 0 rfl) ?_
  refine lv_aload_n F.1 F.2.1 dX4_init_16 rfl (lv_at hl 1 rfl) ?_
  refine gf_RX4_11 F hW ho6 rfl dX4_init_17 ?_
  refine h_alen (k := 4) (n := 8) F hW rfl ha66 dX4_init_20 ?_
  refine h_icge (tgt := 43) F dX4_init_21 (by decide) (by decide) (fun c9 => absurd c9 (by decide)) (fun _ => ?_)
  refine lv_aload_n F.1 F.2.1 dX4_init_24 rfl (lv_at hl 1 rfl) ?_
  refine gf_RX4_11 F hW ho6 rfl dX4_init_25 ?_
  refine lv_iload_n F.1 F.2.1 dX4_init_28 rfl (lv_at hl 0 rfl) ?_
  refine h_size (q := a + 2 + 25 * 4 + 23 + 1) hW hl63 (by (try dsimp only); omega) (fun hz => ?_)
  have hz := hz.trans (show _ = a + 2 + 25 * 5 by omega)
  refine h_new (ci := 5) (fs := [.null, .null, .null, .null, .null, .int (iI 0), .int (iI 0), .int (iI 0), .int (iI 0), .int (iI 0), .int (iI 0)]) F hW hS hz inX5 tyX5 tyX5_ok kl_RX4_9 kb_RX5 kn_RX5 rfl (by intro j hj; rcases (show j = 0 ∨ j = 1 ∨ j = 2 ∨ j = 3 ∨ j = 4 ∨ j = 5 ∨ j = 6 ∨ j = 7 ∨ j = 8 ∨ j = 9 ∨ j = 10 by omega) with hj | hj | hj | hj | hj | hj | hj | hj | hj | hj | hj <;> subst hj <;> rfl) (by (try dsimp only); omega) dX4_init_29 (fun w68 H ho70 hn69 hW hS => ?_)
  clear hz
  have ho6 := (hn69 _ (by omega)).trans ho6
  have ohf13 := (hn69 _ (by omega)).trans ohf13
  have ohf25 := (hn69 _ (by omega)).trans ohf25
  have ohf37 := (hn69 _ (by omega)).trans ohf37
  have ohf49 := (hn69 _ (by omega)).trans ohf49
  have ohf61 := (hn69 _ (by omega)).trans ohf61
  have ha66 := (hn69 _ (by omega)).trans ha66
  have hf13 := lv_1 hf13 (by omega) hn69
  have hf25 := lv_1 hf25 (by omega) hn69
  have hf37 := lv_1 hf37 (by omega) hn69
  have hf49 := lv_1 hf49 (by omega) hn69
  have hf61 := lv_1 hf61 (by omega) hn69
  have hl63 := (hn69 _ (by omega)).trans hl63
  have hfr := fr_1 (by omega) hn69 hfr
  refine lv_dup F.1 F.2.1 dX4_init_32 rfl ?_
  refine h_size (q := a + 2 + 25 * 5) hW ho70 (by (try dsimp only); omega) (fun hz => ?_)
  have hz := hz.trans (show _ = (a + 2 + 25 * 5) + 1 by omega)
  refine h_callI (As := []) (rest := [.ref (a + 2 + 25 * 5), .int (iI 5), .ref (a + 1)]) F hl (n_X5_init l X w68 (a + 2 + 25 * 5) ho70) hW hS hz ⟨kc_yX5_init, kn_RX5, km_RX4_17, ki_yX5_init⟩ rfl niX5 rfl rfl ⟨Nat.le_of_ble_eq_true rfl, Nat.le_of_ble_eq_true rfl⟩ (Nat.le_of_ble_eq_true rfl) (by (try dsimp only); omega) dX4_init_33 (fun w71 H locs hp72 hW hS => ?_)
  clear hz
  obtain ⟨hf73, ⟨ehl75, hl75⟩, hn74⟩ := hp72
  have ho6 := (hn74 _ (by omega)).trans ho6
  have ohf13 := (hn74 _ (by omega)).trans ohf13
  have ohf25 := (hn74 _ (by omega)).trans ohf25
  have ohf37 := (hn74 _ (by omega)).trans ohf37
  have ohf49 := (hn74 _ (by omega)).trans ohf49
  have ohf61 := (hn74 _ (by omega)).trans ohf61
  have ha66 := (hn74 _ (by omega)).trans ha66
  have hf13 := lv_R hf13 (by omega) hn74
  have hf25 := lv_R hf25 (by omega) hn74
  have hf37 := lv_R hf37 (by omega) hn74
  have hf49 := lv_R hf49 (by omega) hn74
  have hf61 := lv_R hf61 (by omega) hn74
  have hfr := fr_R (by omega) hn74 hfr
  have ohf73 := hf73.1.o
  refine h_aast (k := 4) F hW hS ha66 rfl ohf73 rfl (by omega) (by omega) dX4_init_36 (fun w76 H locs ha78 hn77 hW hS => ?_)
  have ho6 := (hn77 _ (by omega)).trans ho6
  have ohf13 := (hn77 _ (by omega)).trans ohf13
  have ohf25 := (hn77 _ (by omega)).trans ohf25
  have ohf37 := (hn77 _ (by omega)).trans ohf37
  have ohf49 := (hn77 _ (by omega)).trans ohf49
  have ohf61 := (hn77 _ (by omega)).trans ohf61
  have ohf73 := (hn77 _ (by omega)).trans ohf73
  have hf13 := lv_1 hf13 (by omega) hn77
  have hf25 := lv_1 hf25 (by omega) hn77
  have hf37 := lv_1 hf37 (by omega) hn77
  have hf49 := lv_1 hf49 (by omega) hn77
  have hf61 := lv_1 hf61 (by omega) hn77
  have hf73 := lv_1 hf73 (by omega) hn77
  have hl75 := (hn77 _ (by omega)).trans hl75
  have hfr := fr_1 (by omega) hn77 hfr
  refine h_iinc (k := 0) (a := 5) (lv' := [(1, .int (iI 6)), (0, .ref a)]) F dX4_init_37 hl rfl (by decide) rfl (fun ls hl => ?_)
  refine h_goto (tgt := 15) F dX4_init_40 (by decide) ?_
  refine lv_iload_n F.1 F.2.1 dX4_init_15 rfl (lv_at hl 0 rfl) ?_
  refine lv_aload_n F.1 F.2.1 dX4_init_16 rfl (lv_at hl 1 rfl) ?_
  refine gf_RX4_11 F hW ho6 rfl dX4_init_17 ?_
  refine h_alen (k := 4) (n := 8) F hW rfl ha78 dX4_init_20 ?_
  refine h_icge (tgt := 43) F dX4_init_21 (by decide) (by decide) (fun c9 => absurd c9 (by decide)) (fun _ => ?_)
  refine lv_aload_n F.1 F.2.1 dX4_init_24 rfl (lv_at hl 1 rfl) ?_
  refine gf_RX4_11 F hW ho6 rfl dX4_init_25 ?_
  refine lv_iload_n F.1 F.2.1 dX4_init_28 rfl (lv_at hl 0 rfl) ?_
  refine h_size (q := a + 2 + 25 * 5 + 23 + 1) hW hl75 (by (try dsimp only); omega) (fun hz => ?_)
  have hz := hz.trans (show _ = a + 2 + 25 * 6 by omega)
  refine h_new (ci := 5) (fs := [.null, .null, .null, .null, .null, .int (iI 0), .int (iI 0), .int (iI 0), .int (iI 0), .int (iI 0), .int (iI 0)]) F hW hS hz inX5 tyX5 tyX5_ok kl_RX4_9 kb_RX5 kn_RX5 rfl (by intro j hj; rcases (show j = 0 ∨ j = 1 ∨ j = 2 ∨ j = 3 ∨ j = 4 ∨ j = 5 ∨ j = 6 ∨ j = 7 ∨ j = 8 ∨ j = 9 ∨ j = 10 by omega) with hj | hj | hj | hj | hj | hj | hj | hj | hj | hj | hj <;> subst hj <;> rfl) (by (try dsimp only); omega) dX4_init_29 (fun w80 H ho82 hn81 hW hS => ?_)
  clear hz
  have ho6 := (hn81 _ (by omega)).trans ho6
  have ohf13 := (hn81 _ (by omega)).trans ohf13
  have ohf25 := (hn81 _ (by omega)).trans ohf25
  have ohf37 := (hn81 _ (by omega)).trans ohf37
  have ohf49 := (hn81 _ (by omega)).trans ohf49
  have ohf61 := (hn81 _ (by omega)).trans ohf61
  have ohf73 := (hn81 _ (by omega)).trans ohf73
  have ha78 := (hn81 _ (by omega)).trans ha78
  have hf13 := lv_1 hf13 (by omega) hn81
  have hf25 := lv_1 hf25 (by omega) hn81
  have hf37 := lv_1 hf37 (by omega) hn81
  have hf49 := lv_1 hf49 (by omega) hn81
  have hf61 := lv_1 hf61 (by omega) hn81
  have hf73 := lv_1 hf73 (by omega) hn81
  have hl75 := (hn81 _ (by omega)).trans hl75
  have hfr := fr_1 (by omega) hn81 hfr
  refine lv_dup F.1 F.2.1 dX4_init_32 rfl ?_
  refine h_size (q := a + 2 + 25 * 6) hW ho82 (by (try dsimp only); omega) (fun hz => ?_)
  have hz := hz.trans (show _ = (a + 2 + 25 * 6) + 1 by omega)
  refine h_callI (As := []) (rest := [.ref (a + 2 + 25 * 6), .int (iI 6), .ref (a + 1)]) F hl (n_X5_init l X w80 (a + 2 + 25 * 6) ho82) hW hS hz ⟨kc_yX5_init, kn_RX5, km_RX4_17, ki_yX5_init⟩ rfl niX5 rfl rfl ⟨Nat.le_of_ble_eq_true rfl, Nat.le_of_ble_eq_true rfl⟩ (Nat.le_of_ble_eq_true rfl) (by (try dsimp only); omega) dX4_init_33 (fun w83 H locs hp84 hW hS => ?_)
  clear hz
  obtain ⟨hf85, ⟨ehl87, hl87⟩, hn86⟩ := hp84
  have ho6 := (hn86 _ (by omega)).trans ho6
  have ohf13 := (hn86 _ (by omega)).trans ohf13
  have ohf25 := (hn86 _ (by omega)).trans ohf25
  have ohf37 := (hn86 _ (by omega)).trans ohf37
  have ohf49 := (hn86 _ (by omega)).trans ohf49
  have ohf61 := (hn86 _ (by omega)).trans ohf61
  have ohf73 := (hn86 _ (by omega)).trans ohf73
  have ha78 := (hn86 _ (by omega)).trans ha78
  have hf13 := lv_R hf13 (by omega) hn86
  have hf25 := lv_R hf25 (by omega) hn86
  have hf37 := lv_R hf37 (by omega) hn86
  have hf49 := lv_R hf49 (by omega) hn86
  have hf61 := lv_R hf61 (by omega) hn86
  have hf73 := lv_R hf73 (by omega) hn86
  have hfr := fr_R (by omega) hn86 hfr
  have ohf85 := hf85.1.o
  refine h_aast (k := 4) F hW hS ha78 rfl ohf85 rfl (by omega) (by omega) dX4_init_36 (fun w88 H locs ha90 hn89 hW hS => ?_)
  have ho6 := (hn89 _ (by omega)).trans ho6
  have ohf13 := (hn89 _ (by omega)).trans ohf13
  have ohf25 := (hn89 _ (by omega)).trans ohf25
  have ohf37 := (hn89 _ (by omega)).trans ohf37
  have ohf49 := (hn89 _ (by omega)).trans ohf49
  have ohf61 := (hn89 _ (by omega)).trans ohf61
  have ohf73 := (hn89 _ (by omega)).trans ohf73
  have ohf85 := (hn89 _ (by omega)).trans ohf85
  have hf13 := lv_1 hf13 (by omega) hn89
  have hf25 := lv_1 hf25 (by omega) hn89
  have hf37 := lv_1 hf37 (by omega) hn89
  have hf49 := lv_1 hf49 (by omega) hn89
  have hf61 := lv_1 hf61 (by omega) hn89
  have hf73 := lv_1 hf73 (by omega) hn89
  have hf85 := lv_1 hf85 (by omega) hn89
  have hl87 := (hn89 _ (by omega)).trans hl87
  have hfr := fr_1 (by omega) hn89 hfr
  refine h_iinc (k := 0) (a := 6) (lv' := [(1, .int (iI 7)), (0, .ref a)]) F dX4_init_37 hl rfl (by decide) rfl (fun ls hl => ?_)
  refine h_goto (tgt := 15) F dX4_init_40 (by decide) ?_
  refine lv_iload_n F.1 F.2.1 dX4_init_15 rfl (lv_at hl 0 rfl) ?_
  refine lv_aload_n F.1 F.2.1 dX4_init_16 rfl (lv_at hl 1 rfl) ?_
  refine gf_RX4_11 F hW ho6 rfl dX4_init_17 ?_
  refine h_alen (k := 4) (n := 8) F hW rfl ha90 dX4_init_20 ?_
  refine h_icge (tgt := 43) F dX4_init_21 (by decide) (by decide) (fun c9 => absurd c9 (by decide)) (fun _ => ?_)
  refine lv_aload_n F.1 F.2.1 dX4_init_24 rfl (lv_at hl 1 rfl) ?_
  refine gf_RX4_11 F hW ho6 rfl dX4_init_25 ?_
  refine lv_iload_n F.1 F.2.1 dX4_init_28 rfl (lv_at hl 0 rfl) ?_
  refine h_size (q := a + 2 + 25 * 6 + 23 + 1) hW hl87 (by (try dsimp only); omega) (fun hz => ?_)
  have hz := hz.trans (show _ = a + 2 + 25 * 7 by omega)
  refine h_new (ci := 5) (fs := [.null, .null, .null, .null, .null, .int (iI 0), .int (iI 0), .int (iI 0), .int (iI 0), .int (iI 0), .int (iI 0)]) F hW hS hz inX5 tyX5 tyX5_ok kl_RX4_9 kb_RX5 kn_RX5 rfl (by intro j hj; rcases (show j = 0 ∨ j = 1 ∨ j = 2 ∨ j = 3 ∨ j = 4 ∨ j = 5 ∨ j = 6 ∨ j = 7 ∨ j = 8 ∨ j = 9 ∨ j = 10 by omega) with hj | hj | hj | hj | hj | hj | hj | hj | hj | hj | hj <;> subst hj <;> rfl) (by (try dsimp only); omega) dX4_init_29 (fun w92 H ho94 hn93 hW hS => ?_)
  clear hz
  have ho6 := (hn93 _ (by omega)).trans ho6
  have ohf13 := (hn93 _ (by omega)).trans ohf13
  have ohf25 := (hn93 _ (by omega)).trans ohf25
  have ohf37 := (hn93 _ (by omega)).trans ohf37
  have ohf49 := (hn93 _ (by omega)).trans ohf49
  have ohf61 := (hn93 _ (by omega)).trans ohf61
  have ohf73 := (hn93 _ (by omega)).trans ohf73
  have ohf85 := (hn93 _ (by omega)).trans ohf85
  have ha90 := (hn93 _ (by omega)).trans ha90
  have hf13 := lv_1 hf13 (by omega) hn93
  have hf25 := lv_1 hf25 (by omega) hn93
  have hf37 := lv_1 hf37 (by omega) hn93
  have hf49 := lv_1 hf49 (by omega) hn93
  have hf61 := lv_1 hf61 (by omega) hn93
  have hf73 := lv_1 hf73 (by omega) hn93
  have hf85 := lv_1 hf85 (by omega) hn93
  have hl87 := (hn93 _ (by omega)).trans hl87
  have hfr := fr_1 (by omega) hn93 hfr
  refine lv_dup F.1 F.2.1 dX4_init_32 rfl ?_
  refine h_size (q := a + 2 + 25 * 7) hW ho94 (by (try dsimp only); omega) (fun hz => ?_)
  have hz := hz.trans (show _ = (a + 2 + 25 * 7) + 1 by omega)
  refine h_callI (As := []) (rest := [.ref (a + 2 + 25 * 7), .int (iI 7), .ref (a + 1)]) F hl (n_X5_init l X w92 (a + 2 + 25 * 7) ho94) hW hS hz ⟨kc_yX5_init, kn_RX5, km_RX4_17, ki_yX5_init⟩ rfl niX5 rfl rfl ⟨Nat.le_of_ble_eq_true rfl, Nat.le_of_ble_eq_true rfl⟩ (Nat.le_of_ble_eq_true rfl) (by (try dsimp only); omega) dX4_init_33 (fun w95 H locs hp96 hW hS => ?_)
  clear hz
  obtain ⟨hf97, ⟨ehl99, hl99⟩, hn98⟩ := hp96
  have ho6 := (hn98 _ (by omega)).trans ho6
  have ohf13 := (hn98 _ (by omega)).trans ohf13
  have ohf25 := (hn98 _ (by omega)).trans ohf25
  have ohf37 := (hn98 _ (by omega)).trans ohf37
  have ohf49 := (hn98 _ (by omega)).trans ohf49
  have ohf61 := (hn98 _ (by omega)).trans ohf61
  have ohf73 := (hn98 _ (by omega)).trans ohf73
  have ohf85 := (hn98 _ (by omega)).trans ohf85
  have ha90 := (hn98 _ (by omega)).trans ha90
  have hf13 := lv_R hf13 (by omega) hn98
  have hf25 := lv_R hf25 (by omega) hn98
  have hf37 := lv_R hf37 (by omega) hn98
  have hf49 := lv_R hf49 (by omega) hn98
  have hf61 := lv_R hf61 (by omega) hn98
  have hf73 := lv_R hf73 (by omega) hn98
  have hf85 := lv_R hf85 (by omega) hn98
  have hfr := fr_R (by omega) hn98 hfr
  have ohf97 := hf97.1.o
  refine h_aast (k := 4) F hW hS ha90 rfl ohf97 rfl (by omega) (by omega) dX4_init_36 (fun w100 H locs ha102 hn101 hW hS => ?_)
  have ho6 := (hn101 _ (by omega)).trans ho6
  have ohf13 := (hn101 _ (by omega)).trans ohf13
  have ohf25 := (hn101 _ (by omega)).trans ohf25
  have ohf37 := (hn101 _ (by omega)).trans ohf37
  have ohf49 := (hn101 _ (by omega)).trans ohf49
  have ohf61 := (hn101 _ (by omega)).trans ohf61
  have ohf73 := (hn101 _ (by omega)).trans ohf73
  have ohf85 := (hn101 _ (by omega)).trans ohf85
  have ohf97 := (hn101 _ (by omega)).trans ohf97
  have hf13 := lv_1 hf13 (by omega) hn101
  have hf25 := lv_1 hf25 (by omega) hn101
  have hf37 := lv_1 hf37 (by omega) hn101
  have hf49 := lv_1 hf49 (by omega) hn101
  have hf61 := lv_1 hf61 (by omega) hn101
  have hf73 := lv_1 hf73 (by omega) hn101
  have hf85 := lv_1 hf85 (by omega) hn101
  have hf97 := lv_1 hf97 (by omega) hn101
  have hl99 := (hn101 _ (by omega)).trans hl99
  have hfr := fr_1 (by omega) hn101 hfr
  refine h_iinc (k := 0) (a := 7) (lv' := [(1, .int (iI 8)), (0, .ref a)]) F dX4_init_37 hl rfl (by decide) rfl (fun ls hl => ?_)
  refine h_goto (tgt := 15) F dX4_init_40 (by decide) ?_
  refine lv_iload_n F.1 F.2.1 dX4_init_15 rfl (lv_at hl 0 rfl) ?_
  refine lv_aload_n F.1 F.2.1 dX4_init_16 rfl (lv_at hl 1 rfl) ?_
  refine gf_RX4_11 F hW ho6 rfl dX4_init_17 ?_
  refine h_alen (k := 4) (n := 8) F hW rfl ha102 dX4_init_20 ?_
  refine h_icge (tgt := 43) F dX4_init_21 (by decide) (by decide) (fun _ => ?_) (fun c9 => absurd c9 (by decide))
  have hhi : hisAt X w100 a 0 0 pas := by
    refine ⟨ho6, ?_, by omega, fun i hi => ?_, fun i i0 i1 => absurd i0 (by omega)⟩
    · rw [ha102]
      congr 2
      funext i
      by_cases g : i < 8
      · rw [if_pos g]
        rcases (show i = 0 ∨ i = 1 ∨ i = 2 ∨ i = 3 ∨ i = 4 ∨ i = 5 ∨ i = 6 ∨ i = 7 by omega) with h | h | h | h | h | h | h | h <;> subst h <;> simp [va_up]
      · rw [if_neg g]
        simp only [va_up]
        (repeat rw [if_neg (by simp; omega)])
    · rcases (show i = 0 ∨ i = 1 ∨ i = 2 ∨ i = 3 ∨ i = 4 ∨ i = 5 ∨ i = 6 ∨ i = 7 by omega) with h | h | h | h | h | h | h | h <;> subst h
      · exact ⟨resS 12 8, hf13.1, hf13.2.2.cap8⟩
      · exact ⟨resS 12 8, hf25.1, hf25.2.2.cap8⟩
      · exact ⟨resS 12 8, hf37.1, hf37.2.2.cap8⟩
      · exact ⟨resS 12 8, hf49.1, hf49.2.2.cap8⟩
      · exact ⟨resS 12 8, hf61.1, hf61.2.2.cap8⟩
      · exact ⟨resS 12 8, hf73.1, hf73.2.2.cap8⟩
      · exact ⟨resS 12 8, hf85.1, hf85.2.2.cap8⟩
      · exact ⟨resS 12 8, hf97.1, hf97.2.2.cap8⟩
  refine W.widen (k := 201) (n := 2200) (by (try dsimp only); omega) (by (try dsimp only); omega) ?_
  exact h_vret F hr hlk hW hS ⟨hhi, ⟨_, hl99⟩, hfr⟩ dX4_init_43
set_option maxHeartbeats 8000000 in
set_option maxRecDepth 100000 in
theorem n_X8_init (l : Launch) (X : Cx) (w : Wo) (a : Nat) (ho0 : w a = some (.inr (8, [.null, .null, .null, .null, .null, .null, .int (iI 0), .null, .null, .null, .null, .null, .null, .null]))) : CN l X yX8_init cX8_init 1 { frames := 5, cells := 320, slots := 4476, locals := 110 } [.ref a] (a + 1) w (fun w' => clO X w' a 0 ∧ loomAt X w' (a + 1) (resS 12 8) ∧ loomAt X w' (a + 26) (resS 12 8) ∧ capV X w' (a + 51) 0 0 0 0 0 (fun _ => 0) ∧ hisAt X w' (a + 53) 0 0 (fun _ _ => 0) ∧ loomAt X w' (a + 255) (resS 12 8) ∧ loomAt X w' (a + 280) (resS 12 8) ∧ w' (a + 305) = some (aZ X 9 (fun _ => 0)) ∧ w' (a + 306) = some (aZ X 7 (fun _ => 0)) ∧ w' (a + 307) = some (.inr (0, [.ref (a + 308), .int (iI 0)])) ∧ w' (a + 308) = some (aZ X 400 (fun _ => 0)) ∧ w' (a + 309) = some (.inr (0, [.ref (a + 310), .int (iI 0)])) ∧ w' (a + 310) = some (aZ X 400 (fun _ => 0)) ∧ w' (a + 311) = some (.inr (6, [.ref (a + 307), .int (iI 0), .int (iI 0), .int (iI 0), .int (iI 0), .int (iI 0), .int (iI 0), .int (iI (-1))])) ∧ w' (a + 312) = some (.inr (2, [.ref (a + 311), .ref (a + 313), .int (iI 0), .int (iI 0)])) ∧ capV X w' (a + 313) 0 0 0 0 0 (fun _ => 0) ∧ scE X w' a ∧ (∃ e0, w' (a + 320) = some e0) ∧ ∀ q : Nat, (q < a ∨ a + 321 ≤ q) → w' q = w q) := by
  refine CN.of (lv := [(0, .ref a)]) (by decide) (Nat.le_of_ble_eq_true rfl) rfl (fun p e s m below meth c ls F hr hlk hin hW hn9 hS hl => ?_)
  have hZ0 := hW.2.2
  have hB9 := hW.1.2
  refine lv_aload_n F.1 F.2.1 dX8_init_0 rfl (lv_at hl 0 rfl) ?_
  refine h_obj F hl hoL8 hoI dX8_init_1 ⟨Nat.le_of_ble_eq_true rfl, Nat.le_of_ble_eq_true rfl⟩ ?_
  refine lv_aload_n F.1 F.2.1 dX8_init_4 rfl (lv_at hl 0 rfl) ?_
  refine h_size0 hS (fun hz => ?_)
  have hz := hz.trans (show _ = a + 1 by omega)
  refine h_new (ci := 5) (fs := [.null, .null, .null, .null, .null, .int (iI 0), .int (iI 0), .int (iI 0), .int (iI 0), .int (iI 0), .int (iI 0)]) F hW hS hz inX5 tyX5 tyX5_ok kl_RX8_7 kb_RX5 kn_RX5 rfl (by intro j hj; rcases (show j = 0 ∨ j = 1 ∨ j = 2 ∨ j = 3 ∨ j = 4 ∨ j = 5 ∨ j = 6 ∨ j = 7 ∨ j = 8 ∨ j = 9 ∨ j = 10 by omega) with hj | hj | hj | hj | hj | hj | hj | hj | hj | hj | hj <;> subst hj <;> rfl) (by (try dsimp only); omega) dX8_init_5 (fun w1 H ho3 hn2 hW hS => ?_)
  clear hz
  have ho0 := (hn2 _ (by omega)).trans ho0
  have hfr : ∀ q : Nat, (q < a ∨ a + 321 ≤ q) → w q = w q := fr_0
  have hfr := fr_1 (by omega) hn2 hfr
  refine lv_dup F.1 F.2.1 dX8_init_8 rfl ?_
  refine h_size (q := a + 1) hW ho3 (by (try dsimp only); omega) (fun hz => ?_)
  have hz := hz.trans (show _ = (a + 1) + 1 by omega)
  refine h_callI (As := []) (rest := [.ref (a + 1), .ref a]) F hl (n_X5_init l X w1 (a + 1) ho3) hW hS hz ⟨kc_yX5_init, kn_RX5, km_RX8_9, ki_yX5_init⟩ rfl niX5 rfl rfl ⟨Nat.le_of_ble_eq_true rfl, Nat.le_of_ble_eq_true rfl⟩ (Nat.le_of_ble_eq_true rfl) (by (try dsimp only); omega) dX8_init_9 (fun w4 H locs hp5 hW hS => ?_)
  clear hz
  obtain ⟨hf6, ⟨ehl8, hl8⟩, hn7⟩ := hp5
  have ho0 := (hn7 _ (by omega)).trans ho0
  have hfr := fr_R (by omega) hn7 hfr
  have ohf6 := hf6.1.o
  refine pf_RX8_10 F hW hS ho0 (Nat.le_of_ble_eq_true rfl) hin dX8_init_12 (fun w9 H locs ho11 hn10 hW hS => ?_)
  have ho11 : w9 a = some (.inr (8, [.ref (a + 1), .null, .null, .null, .null, .null, .int (iI 0), .null, .null, .null, .null, .null, .null, .null])) := ho11
  have ohf6 := (hn10 _ (by omega)).trans ohf6
  have hf6 := lv_1 hf6 (by omega) hn10
  have hl8 := (hn10 _ (by omega)).trans hl8
  have hfr := fr_1 (by omega) hn10 hfr
  refine lv_aload_n F.1 F.2.1 dX8_init_15 rfl (lv_at hl 0 rfl) ?_
  refine h_size (q := a + 25) hW hl8 (by (try dsimp only); omega) (fun hz => ?_)
  have hz := hz.trans (show _ = a + 26 by omega)
  refine h_new (ci := 5) (fs := [.null, .null, .null, .null, .null, .int (iI 0), .int (iI 0), .int (iI 0), .int (iI 0), .int (iI 0), .int (iI 0)]) F hW hS hz inX5 tyX5 tyX5_ok kl_RX8_7 kb_RX5 kn_RX5 rfl (by intro j hj; rcases (show j = 0 ∨ j = 1 ∨ j = 2 ∨ j = 3 ∨ j = 4 ∨ j = 5 ∨ j = 6 ∨ j = 7 ∨ j = 8 ∨ j = 9 ∨ j = 10 by omega) with hj | hj | hj | hj | hj | hj | hj | hj | hj | hj | hj <;> subst hj <;> rfl) (by (try dsimp only); omega) dX8_init_16 (fun w12 H ho14 hn13 hW hS => ?_)
  clear hz
  have ho11 := (hn13 _ (by omega)).trans ho11
  have ohf6 := (hn13 _ (by omega)).trans ohf6
  have hf6 := lv_1 hf6 (by omega) hn13
  have hl8 := (hn13 _ (by omega)).trans hl8
  have hfr := fr_1 (by omega) hn13 hfr
  refine lv_dup F.1 F.2.1 dX8_init_19 rfl ?_
  refine h_size (q := a + 26) hW ho14 (by (try dsimp only); omega) (fun hz => ?_)
  have hz := hz.trans (show _ = (a + 26) + 1 by omega)
  refine h_callI (As := []) (rest := [.ref (a + 26), .ref a]) F hl (n_X5_init l X w12 (a + 26) ho14) hW hS hz ⟨kc_yX5_init, kn_RX5, km_RX8_9, ki_yX5_init⟩ rfl niX5 rfl rfl ⟨Nat.le_of_ble_eq_true rfl, Nat.le_of_ble_eq_true rfl⟩ (Nat.le_of_ble_eq_true rfl) (by (try dsimp only); omega) dX8_init_20 (fun w15 H locs hp16 hW hS => ?_)
  clear hz
  obtain ⟨hf17, ⟨ehl19, hl19⟩, hn18⟩ := hp16
  have ho11 := (hn18 _ (by omega)).trans ho11
  have ohf6 := (hn18 _ (by omega)).trans ohf6
  have hf6 := lv_R hf6 (by omega) hn18
  have hfr := fr_R (by omega) hn18 hfr
  have ohf17 := hf17.1.o
  refine pf_RX8_16 F hW hS ho11 (Nat.le_of_ble_eq_true rfl) hin dX8_init_23 (fun w20 H locs ho22 hn21 hW hS => ?_)
  have ho22 : w20 a = some (.inr (8, [.ref (a + 1), .ref (a + 26), .null, .null, .null, .null, .int (iI 0), .null, .null, .null, .null, .null, .null, .null])) := ho22
  have ohf6 := (hn21 _ (by omega)).trans ohf6
  have ohf17 := (hn21 _ (by omega)).trans ohf17
  have hf6 := lv_1 hf6 (by omega) hn21
  have hf17 := lv_1 hf17 (by omega) hn21
  have hl19 := (hn21 _ (by omega)).trans hl19
  have hfr := fr_1 (by omega) hn21 hfr
  refine lv_aload_n F.1 F.2.1 dX8_init_26 rfl (lv_at hl 0 rfl) ?_
  refine h_size (q := a + 50) hW hl19 (by (try dsimp only); omega) (fun hz => ?_)
  have hz := hz.trans (show _ = a + 51 by omega)
  refine h_new (ci := 1) (fs := [.null, .int (iI 0), .int (iI 0), .int (iI 0), .int (iI 0), .int (iI 0)]) F hW hS hz inX1 tyX1 tyX1_ok kl_RX8_19 kb_RX1 kn_RX1 rfl (by intro j hj; rcases (show j = 0 ∨ j = 1 ∨ j = 2 ∨ j = 3 ∨ j = 4 ∨ j = 5 by omega) with hj | hj | hj | hj | hj | hj <;> subst hj <;> rfl) (by (try dsimp only); omega) dX8_init_27 (fun w23 H ho25 hn24 hW hS => ?_)
  clear hz
  have ho22 := (hn24 _ (by omega)).trans ho22
  have ohf6 := (hn24 _ (by omega)).trans ohf6
  have ohf17 := (hn24 _ (by omega)).trans ohf17
  have hf6 := lv_1 hf6 (by omega) hn24
  have hf17 := lv_1 hf17 (by omega) hn24
  have hl19 := (hn24 _ (by omega)).trans hl19
  have hfr := fr_1 (by omega) hn24 hfr
  refine lv_dup F.1 F.2.1 dX8_init_30 rfl ?_
  refine h_size (q := a + 51) hW ho25 (by (try dsimp only); omega) (fun hz => ?_)
  have hz := hz.trans (show _ = (a + 51) + 1 by omega)
  refine h_callIN (As := []) (rest := [.ref (a + 51), .ref a]) F hl (n_X1_init l X w23 (a + 51) ho25) hW hS hz ⟨kc_yX1_init, kn_RX1, kN_RX8_21, ki_yX1_init⟩ rfl niX1 rfl rfl ⟨Nat.le_of_ble_eq_true rfl, Nat.le_of_ble_eq_true rfl⟩ (Nat.le_of_ble_eq_true rfl) (by (try dsimp only); omega) dX8_init_31 (fun w26 H locs hp27 hW hS => ?_)
  clear hz
  obtain ⟨hf28, ⟨ehl30, hl30⟩, hn29⟩ := hp27
  have ho22 := (hn29 _ (by omega) (by omega)).trans ho22
  have ohf6 := (hn29 _ (by omega) (by omega)).trans ohf6
  have ohf17 := (hn29 _ (by omega) (by omega)).trans ohf17
  have hf6 := lv_2 hf6 (by omega) hn29
  have hf17 := lv_2 hf17 (by omega) hn29
  have hfr := fr_2 (by omega) hn29 hfr
  have ohf28 := hf28.1
  have ahf28 := hf28.2
  refine pf_RX8_22 F hW hS ho22 (Nat.le_of_ble_eq_true rfl) hin dX8_init_34 (fun w31 H locs ho33 hn32 hW hS => ?_)
  have ho33 : w31 a = some (.inr (8, [.ref (a + 1), .ref (a + 26), .ref (a + 51), .null, .null, .null, .int (iI 0), .null, .null, .null, .null, .null, .null, .null])) := ho33
  have ohf6 := (hn32 _ (by omega)).trans ohf6
  have ohf17 := (hn32 _ (by omega)).trans ohf17
  have ohf28 := (hn32 _ (by omega)).trans ohf28
  have ahf28 := (hn32 _ (by omega)).trans ahf28
  have hf6 := lv_1 hf6 (by omega) hn32
  have hf17 := lv_1 hf17 (by omega) hn32
  have hfr := fr_1 (by omega) hn32 hfr
  refine lv_aload_n F.1 F.2.1 dX8_init_37 rfl (lv_at hl 0 rfl) ?_
  refine h_size (q := a + 52) hW ahf28 (by (try dsimp only); omega) (fun hz => ?_)
  have hz := hz.trans (show _ = a + 53 by omega)
  refine h_new (ci := 4) (fs := [.null, .int (iI 0), .int (iI 0)]) F hW hS hz inX4 tyX4 tyX4_ok kl_RX8_26 kb_RX4 kn_RX4 rfl (by intro j hj; rcases (show j = 0 ∨ j = 1 ∨ j = 2 by omega) with hj | hj | hj <;> subst hj <;> rfl) (by (try dsimp only); omega) dX8_init_38 (fun w34 H ho36 hn35 hW hS => ?_)
  clear hz
  have ho33 := (hn35 _ (by omega)).trans ho33
  have ohf6 := (hn35 _ (by omega)).trans ohf6
  have ohf17 := (hn35 _ (by omega)).trans ohf17
  have ohf28 := (hn35 _ (by omega)).trans ohf28
  have ahf28 := (hn35 _ (by omega)).trans ahf28
  have hf6 := lv_1 hf6 (by omega) hn35
  have hf17 := lv_1 hf17 (by omega) hn35
  have hfr := fr_1 (by omega) hn35 hfr
  refine lv_dup F.1 F.2.1 dX8_init_41 rfl ?_
  refine h_size (q := a + 53) hW ho36 (by (try dsimp only); omega) (fun hz => ?_)
  have hz := hz.trans (show _ = (a + 53) + 1 by omega)
  refine h_callI (As := []) (rest := [.ref (a + 53), .ref a]) F hl (n_X4_init l X w34 (a + 53) (fun _ _ => 0) ho36) hW hS hz ⟨kc_yX4_init, kn_RX4, km_RX8_28, ki_yX4_init⟩ rfl niX4 rfl rfl ⟨Nat.le_of_ble_eq_true rfl, Nat.le_of_ble_eq_true rfl⟩ (Nat.le_of_ble_eq_true rfl) (by (try dsimp only); omega) dX8_init_42 (fun w37 H locs hp38 hW hS => ?_)
  clear hz
  obtain ⟨hf39, ⟨ehl41, hl41⟩, hn40⟩ := hp38
  have ho33 := (hn40 _ (by omega)).trans ho33
  have ohf6 := (hn40 _ (by omega)).trans ohf6
  have ohf17 := (hn40 _ (by omega)).trans ohf17
  have ohf28 := (hn40 _ (by omega)).trans ohf28
  have ahf28 := (hn40 _ (by omega)).trans ahf28
  have hf6 := lv_R hf6 (by omega) hn40
  have hf17 := lv_R hf17 (by omega) hn40
  have hfr := fr_R (by omega) hn40 hfr
  have ohf39 := hf39.1
  refine pf_RX8_29 F hW hS ho33 (Nat.le_of_ble_eq_true rfl) hin dX8_init_45 (fun w42 H locs ho44 hn43 hW hS => ?_)
  have ho44 : w42 a = some (.inr (8, [.ref (a + 1), .ref (a + 26), .ref (a + 51), .ref (a + 53), .null, .null, .int (iI 0), .null, .null, .null, .null, .null, .null, .null])) := ho44
  have ohf6 := (hn43 _ (by omega)).trans ohf6
  have ohf17 := (hn43 _ (by omega)).trans ohf17
  have ohf28 := (hn43 _ (by omega)).trans ohf28
  have ohf39 := (hn43 _ (by omega)).trans ohf39
  have ahf28 := (hn43 _ (by omega)).trans ahf28
  have hf6 := lv_1 hf6 (by omega) hn43
  have hf17 := lv_1 hf17 (by omega) hn43
  have hf39 := hv_1 hf39 (by omega) hn43
  have hl41 := (hn43 _ (by omega)).trans hl41
  have hfr := fr_1 (by omega) hn43 hfr
  refine lv_aload_n F.1 F.2.1 dX8_init_48 rfl (lv_at hl 0 rfl) ?_
  refine h_size (q := a + 53 + 2 + 25 * 7 + 23 + 1) hW hl41 (by (try dsimp only); omega) (fun hz => ?_)
  have hz := hz.trans (show _ = a + 255 by omega)
  refine h_new (ci := 5) (fs := [.null, .null, .null, .null, .null, .int (iI 0), .int (iI 0), .int (iI 0), .int (iI 0), .int (iI 0), .int (iI 0)]) F hW hS hz inX5 tyX5 tyX5_ok kl_RX8_7 kb_RX5 kn_RX5 rfl (by intro j hj; rcases (show j = 0 ∨ j = 1 ∨ j = 2 ∨ j = 3 ∨ j = 4 ∨ j = 5 ∨ j = 6 ∨ j = 7 ∨ j = 8 ∨ j = 9 ∨ j = 10 by omega) with hj | hj | hj | hj | hj | hj | hj | hj | hj | hj | hj <;> subst hj <;> rfl) (by (try dsimp only); omega) dX8_init_49 (fun w45 H ho47 hn46 hW hS => ?_)
  clear hz
  have ho44 := (hn46 _ (by omega)).trans ho44
  have ohf6 := (hn46 _ (by omega)).trans ohf6
  have ohf17 := (hn46 _ (by omega)).trans ohf17
  have ohf28 := (hn46 _ (by omega)).trans ohf28
  have ohf39 := (hn46 _ (by omega)).trans ohf39
  have ahf28 := (hn46 _ (by omega)).trans ahf28
  have hf6 := lv_1 hf6 (by omega) hn46
  have hf17 := lv_1 hf17 (by omega) hn46
  have hf39 := hv_1 hf39 (by omega) hn46
  have hl41 := (hn46 _ (by omega)).trans hl41
  have hfr := fr_1 (by omega) hn46 hfr
  refine lv_dup F.1 F.2.1 dX8_init_52 rfl ?_
  refine h_size (q := a + 255) hW ho47 (by (try dsimp only); omega) (fun hz => ?_)
  have hz := hz.trans (show _ = (a + 255) + 1 by omega)
  refine h_callI (As := []) (rest := [.ref (a + 255), .ref a]) F hl (n_X5_init l X w45 (a + 255) ho47) hW hS hz ⟨kc_yX5_init, kn_RX5, km_RX8_9, ki_yX5_init⟩ rfl niX5 rfl rfl ⟨Nat.le_of_ble_eq_true rfl, Nat.le_of_ble_eq_true rfl⟩ (Nat.le_of_ble_eq_true rfl) (by (try dsimp only); omega) dX8_init_53 (fun w48 H locs hp49 hW hS => ?_)
  clear hz
  obtain ⟨hf50, ⟨ehl52, hl52⟩, hn51⟩ := hp49
  have ho44 := (hn51 _ (by omega)).trans ho44
  have ohf6 := (hn51 _ (by omega)).trans ohf6
  have ohf17 := (hn51 _ (by omega)).trans ohf17
  have ohf28 := (hn51 _ (by omega)).trans ohf28
  have ohf39 := (hn51 _ (by omega)).trans ohf39
  have ahf28 := (hn51 _ (by omega)).trans ahf28
  have hf6 := lv_R hf6 (by omega) hn51
  have hf17 := lv_R hf17 (by omega) hn51
  have hf39 := hv_R hf39 (by omega) hn51
  have hfr := fr_R (by omega) hn51 hfr
  have ohf50 := hf50.1.o
  refine pf_RX8_33 F hW hS ho44 (Nat.le_of_ble_eq_true rfl) hin dX8_init_56 (fun w53 H locs ho55 hn54 hW hS => ?_)
  have ho55 : w53 a = some (.inr (8, [.ref (a + 1), .ref (a + 26), .ref (a + 51), .ref (a + 53), .ref (a + 255), .null, .int (iI 0), .null, .null, .null, .null, .null, .null, .null])) := ho55
  have ohf6 := (hn54 _ (by omega)).trans ohf6
  have ohf17 := (hn54 _ (by omega)).trans ohf17
  have ohf28 := (hn54 _ (by omega)).trans ohf28
  have ohf39 := (hn54 _ (by omega)).trans ohf39
  have ohf50 := (hn54 _ (by omega)).trans ohf50
  have ahf28 := (hn54 _ (by omega)).trans ahf28
  have hf6 := lv_1 hf6 (by omega) hn54
  have hf17 := lv_1 hf17 (by omega) hn54
  have hf39 := hv_1 hf39 (by omega) hn54
  have hf50 := lv_1 hf50 (by omega) hn54
  have hl52 := (hn54 _ (by omega)).trans hl52
  have hfr := fr_1 (by omega) hn54 hfr
  refine lv_aload_n F.1 F.2.1 dX8_init_59 rfl (lv_at hl 0 rfl) ?_
  refine h_size (q := a + 279) hW hl52 (by (try dsimp only); omega) (fun hz => ?_)
  have hz := hz.trans (show _ = a + 280 by omega)
  refine h_new (ci := 5) (fs := [.null, .null, .null, .null, .null, .int (iI 0), .int (iI 0), .int (iI 0), .int (iI 0), .int (iI 0), .int (iI 0)]) F hW hS hz inX5 tyX5 tyX5_ok kl_RX8_7 kb_RX5 kn_RX5 rfl (by intro j hj; rcases (show j = 0 ∨ j = 1 ∨ j = 2 ∨ j = 3 ∨ j = 4 ∨ j = 5 ∨ j = 6 ∨ j = 7 ∨ j = 8 ∨ j = 9 ∨ j = 10 by omega) with hj | hj | hj | hj | hj | hj | hj | hj | hj | hj | hj <;> subst hj <;> rfl) (by (try dsimp only); omega) dX8_init_60 (fun w56 H ho58 hn57 hW hS => ?_)
  clear hz
  have ho55 := (hn57 _ (by omega)).trans ho55
  have ohf6 := (hn57 _ (by omega)).trans ohf6
  have ohf17 := (hn57 _ (by omega)).trans ohf17
  have ohf28 := (hn57 _ (by omega)).trans ohf28
  have ohf39 := (hn57 _ (by omega)).trans ohf39
  have ohf50 := (hn57 _ (by omega)).trans ohf50
  have ahf28 := (hn57 _ (by omega)).trans ahf28
  have hf6 := lv_1 hf6 (by omega) hn57
  have hf17 := lv_1 hf17 (by omega) hn57
  have hf39 := hv_1 hf39 (by omega) hn57
  have hf50 := lv_1 hf50 (by omega) hn57
  have hl52 := (hn57 _ (by omega)).trans hl52
  have hfr := fr_1 (by omega) hn57 hfr
  refine lv_dup F.1 F.2.1 dX8_init_63 rfl ?_
  refine h_size (q := a + 280) hW ho58 (by (try dsimp only); omega) (fun hz => ?_)
  have hz := hz.trans (show _ = (a + 280) + 1 by omega)
  refine h_callI (As := []) (rest := [.ref (a + 280), .ref a]) F hl (n_X5_init l X w56 (a + 280) ho58) hW hS hz ⟨kc_yX5_init, kn_RX5, km_RX8_9, ki_yX5_init⟩ rfl niX5 rfl rfl ⟨Nat.le_of_ble_eq_true rfl, Nat.le_of_ble_eq_true rfl⟩ (Nat.le_of_ble_eq_true rfl) (by (try dsimp only); omega) dX8_init_64 (fun w59 H locs hp60 hW hS => ?_)
  clear hz
  obtain ⟨hf61, ⟨ehl63, hl63⟩, hn62⟩ := hp60
  have ho55 := (hn62 _ (by omega)).trans ho55
  have ohf6 := (hn62 _ (by omega)).trans ohf6
  have ohf17 := (hn62 _ (by omega)).trans ohf17
  have ohf28 := (hn62 _ (by omega)).trans ohf28
  have ohf39 := (hn62 _ (by omega)).trans ohf39
  have ohf50 := (hn62 _ (by omega)).trans ohf50
  have ahf28 := (hn62 _ (by omega)).trans ahf28
  have hf6 := lv_R hf6 (by omega) hn62
  have hf17 := lv_R hf17 (by omega) hn62
  have hf39 := hv_R hf39 (by omega) hn62
  have hf50 := lv_R hf50 (by omega) hn62
  have hfr := fr_R (by omega) hn62 hfr
  have ohf61 := hf61.1.o
  refine pf_RX8_36 F hW hS ho55 (Nat.le_of_ble_eq_true rfl) hin dX8_init_67 (fun w64 H locs ho66 hn65 hW hS => ?_)
  have ho66 : w64 a = some (.inr (8, [.ref (a + 1), .ref (a + 26), .ref (a + 51), .ref (a + 53), .ref (a + 255), .ref (a + 280), .int (iI 0), .null, .null, .null, .null, .null, .null, .null])) := ho66
  have ohf6 := (hn65 _ (by omega)).trans ohf6
  have ohf17 := (hn65 _ (by omega)).trans ohf17
  have ohf28 := (hn65 _ (by omega)).trans ohf28
  have ohf39 := (hn65 _ (by omega)).trans ohf39
  have ohf50 := (hn65 _ (by omega)).trans ohf50
  have ohf61 := (hn65 _ (by omega)).trans ohf61
  have ahf28 := (hn65 _ (by omega)).trans ahf28
  have hf6 := lv_1 hf6 (by omega) hn65
  have hf17 := lv_1 hf17 (by omega) hn65
  have hf39 := hv_1 hf39 (by omega) hn65
  have hf50 := lv_1 hf50 (by omega) hn65
  have hf61 := lv_1 hf61 (by omega) hn65
  have hl63 := (hn65 _ (by omega)).trans hl63
  have hfr := fr_1 (by omega) hn65 hfr
  refine lv_aload_n F.1 F.2.1 dX8_init_70 rfl (lv_at hl 0 rfl) ?_
  refine h_bipush F dX8_init_71 rfl ?_
  refine h_size (q := a + 304) hW hl63 (by (try dsimp only); omega) (fun hz => ?_)
  have hz := hz.trans (show _ = a + 305 by omega)
  refine h_newP (a := a + 305) (N := 9) (k := 0) (atype := .int) (x := .inl (fun j : Nat => iI ((fun _ : Int => 0) (j : Int)))) F hW hS hz haCI rfl (hxI _) rfl (by decide) (by (try dsimp only); omega) dX8_init_73 (fun w67 H ha69 hn68 hW hS => ?_)
  have ha69 : w67 (a + 305) = some (aZ X 9 (fun _ => 0)) := ha69
  clear hz
  have ho66 := (hn68 _ (by omega)).trans ho66
  have ohf6 := (hn68 _ (by omega)).trans ohf6
  have ohf17 := (hn68 _ (by omega)).trans ohf17
  have ohf28 := (hn68 _ (by omega)).trans ohf28
  have ohf39 := (hn68 _ (by omega)).trans ohf39
  have ohf50 := (hn68 _ (by omega)).trans ohf50
  have ohf61 := (hn68 _ (by omega)).trans ohf61
  have ahf28 := (hn68 _ (by omega)).trans ahf28
  have hf6 := lv_1 hf6 (by omega) hn68
  have hf17 := lv_1 hf17 (by omega) hn68
  have hf39 := hv_1 hf39 (by omega) hn68
  have hf50 := lv_1 hf50 (by omega) hn68
  have hf61 := lv_1 hf61 (by omega) hn68
  have hl63 := (hn68 _ (by omega)).trans hl63
  have hfr := fr_1 (by omega) hn68 hfr
  refine pf_RX8_39 F hW hS ho66 (Nat.le_of_ble_eq_true rfl) hin dX8_init_75 (fun w70 H locs ho72 hn71 hW hS => ?_)
  have ho72 : w70 a = some (.inr (8, [.ref (a + 1), .ref (a + 26), .ref (a + 51), .ref (a + 53), .ref (a + 255), .ref (a + 280), .int (iI 0), .ref (a + 305), .null, .null, .null, .null, .null, .null])) := ho72
  have ohf6 := (hn71 _ (by omega)).trans ohf6
  have ohf17 := (hn71 _ (by omega)).trans ohf17
  have ohf28 := (hn71 _ (by omega)).trans ohf28
  have ohf39 := (hn71 _ (by omega)).trans ohf39
  have ohf50 := (hn71 _ (by omega)).trans ohf50
  have ohf61 := (hn71 _ (by omega)).trans ohf61
  have ahf28 := (hn71 _ (by omega)).trans ahf28
  have ha69 := (hn71 _ (by omega)).trans ha69
  have hf6 := lv_1 hf6 (by omega) hn71
  have hf17 := lv_1 hf17 (by omega) hn71
  have hf39 := hv_1 hf39 (by omega) hn71
  have hf50 := lv_1 hf50 (by omega) hn71
  have hf61 := lv_1 hf61 (by omega) hn71
  have hfr := fr_1 (by omega) hn71 hfr
  refine lv_aload_n F.1 F.2.1 dX8_init_78 rfl (lv_at hl 0 rfl) ?_
  refine h_bipush F dX8_init_79 rfl ?_
  refine h_size (q := a + 305) hW ha69 (by (try dsimp only); omega) (fun hz => ?_)
  have hz := hz.trans (show _ = a + 306 by omega)
  refine h_newP (a := a + 306) (N := 7) (k := 0) (atype := .int) (x := .inl (fun j : Nat => iI ((fun _ : Int => 0) (j : Int)))) F hW hS hz haCI rfl (hxI _) rfl (by decide) (by (try dsimp only); omega) dX8_init_81 (fun w73 H ha75 hn74 hW hS => ?_)
  have ha75 : w73 (a + 306) = some (aZ X 7 (fun _ => 0)) := ha75
  clear hz
  have ho72 := (hn74 _ (by omega)).trans ho72
  have ohf6 := (hn74 _ (by omega)).trans ohf6
  have ohf17 := (hn74 _ (by omega)).trans ohf17
  have ohf28 := (hn74 _ (by omega)).trans ohf28
  have ohf39 := (hn74 _ (by omega)).trans ohf39
  have ohf50 := (hn74 _ (by omega)).trans ohf50
  have ohf61 := (hn74 _ (by omega)).trans ohf61
  have ahf28 := (hn74 _ (by omega)).trans ahf28
  have ha69 := (hn74 _ (by omega)).trans ha69
  have hf6 := lv_1 hf6 (by omega) hn74
  have hf17 := lv_1 hf17 (by omega) hn74
  have hf39 := hv_1 hf39 (by omega) hn74
  have hf50 := lv_1 hf50 (by omega) hn74
  have hf61 := lv_1 hf61 (by omega) hn74
  have hfr := fr_1 (by omega) hn74 hfr
  refine pf_RX8_43 F hW hS ho72 (Nat.le_of_ble_eq_true rfl) hin dX8_init_83 (fun w76 H locs ho78 hn77 hW hS => ?_)
  have ho78 : w76 a = some (.inr (8, [.ref (a + 1), .ref (a + 26), .ref (a + 51), .ref (a + 53), .ref (a + 255), .ref (a + 280), .int (iI 0), .ref (a + 305), .ref (a + 306), .null, .null, .null, .null, .null])) := ho78
  have ohf6 := (hn77 _ (by omega)).trans ohf6
  have ohf17 := (hn77 _ (by omega)).trans ohf17
  have ohf28 := (hn77 _ (by omega)).trans ohf28
  have ohf39 := (hn77 _ (by omega)).trans ohf39
  have ohf50 := (hn77 _ (by omega)).trans ohf50
  have ohf61 := (hn77 _ (by omega)).trans ohf61
  have ahf28 := (hn77 _ (by omega)).trans ahf28
  have ha69 := (hn77 _ (by omega)).trans ha69
  have ha75 := (hn77 _ (by omega)).trans ha75
  have hf6 := lv_1 hf6 (by omega) hn77
  have hf17 := lv_1 hf17 (by omega) hn77
  have hf39 := hv_1 hf39 (by omega) hn77
  have hf50 := lv_1 hf50 (by omega) hn77
  have hf61 := lv_1 hf61 (by omega) hn77
  have hfr := fr_1 (by omega) hn77 hfr
  refine lv_aload_n F.1 F.2.1 dX8_init_86 rfl (lv_at hl 0 rfl) ?_
  refine h_size (q := a + 306) hW ha75 (by (try dsimp only); omega) (fun hz => ?_)
  have hz := hz.trans (show _ = a + 307 by omega)
  refine h_new (ci := 0) (fs := [.null, .int (iI 0)]) F hW hS hz inX0 tyX0 tyX0_ok kl_RX8_46 kb_RX0 kn_RX0 rfl (by intro j hj; rcases (show j = 0 ∨ j = 1 by omega) with hj | hj <;> subst hj <;> rfl) (by (try dsimp only); omega) dX8_init_87 (fun w79 H ho81 hn80 hW hS => ?_)
  clear hz
  have ho78 := (hn80 _ (by omega)).trans ho78
  have ohf6 := (hn80 _ (by omega)).trans ohf6
  have ohf17 := (hn80 _ (by omega)).trans ohf17
  have ohf28 := (hn80 _ (by omega)).trans ohf28
  have ohf39 := (hn80 _ (by omega)).trans ohf39
  have ohf50 := (hn80 _ (by omega)).trans ohf50
  have ohf61 := (hn80 _ (by omega)).trans ohf61
  have ahf28 := (hn80 _ (by omega)).trans ahf28
  have ha69 := (hn80 _ (by omega)).trans ha69
  have ha75 := (hn80 _ (by omega)).trans ha75
  have hf6 := lv_1 hf6 (by omega) hn80
  have hf17 := lv_1 hf17 (by omega) hn80
  have hf39 := hv_1 hf39 (by omega) hn80
  have hf50 := lv_1 hf50 (by omega) hn80
  have hf61 := lv_1 hf61 (by omega) hn80
  have hfr := fr_1 (by omega) hn80 hfr
  refine lv_dup F.1 F.2.1 dX8_init_90 rfl ?_
  refine h_size (q := a + 307) hW ho81 (by (try dsimp only); omega) (fun hz => ?_)
  have hz := hz.trans (show _ = (a + 307) + 1 by omega)
  refine h_callIN (As := []) (rest := [.ref (a + 307), .ref a]) F hl (n_X0_init l X w79 (a + 307) ho81) hW hS hz ⟨kc_yX0_init, kn_RX0, kN_RX8_48, ki_yX0_init⟩ rfl niX0 rfl rfl ⟨Nat.le_of_ble_eq_true rfl, Nat.le_of_ble_eq_true rfl⟩ (Nat.le_of_ble_eq_true rfl) (by (try dsimp only); omega) dX8_init_91 (fun w82 H locs hp83 hW hS => ?_)
  clear hz
  obtain ⟨hf84, hf85, ⟨ehl87, hl87⟩, hn86⟩ := hp83
  have ho78 := (hn86 _ (by omega) (by omega)).trans ho78
  have ohf6 := (hn86 _ (by omega) (by omega)).trans ohf6
  have ohf17 := (hn86 _ (by omega) (by omega)).trans ohf17
  have ohf28 := (hn86 _ (by omega) (by omega)).trans ohf28
  have ohf39 := (hn86 _ (by omega) (by omega)).trans ohf39
  have ohf50 := (hn86 _ (by omega) (by omega)).trans ohf50
  have ohf61 := (hn86 _ (by omega) (by omega)).trans ohf61
  have ahf28 := (hn86 _ (by omega) (by omega)).trans ahf28
  have ha69 := (hn86 _ (by omega) (by omega)).trans ha69
  have ha75 := (hn86 _ (by omega) (by omega)).trans ha75
  have hf6 := lv_2 hf6 (by omega) hn86
  have hf17 := lv_2 hf17 (by omega) hn86
  have hf39 := hv_2 hf39 (by omega) hn86
  have hf50 := lv_2 hf50 (by omega) hn86
  have hf61 := lv_2 hf61 (by omega) hn86
  have hfr := fr_2 (by omega) hn86 hfr
  refine pf_RX8_49 F hW hS ho78 (Nat.le_of_ble_eq_true rfl) hin dX8_init_94 (fun w88 H locs ho90 hn89 hW hS => ?_)
  have ho90 : w88 a = some (.inr (8, [.ref (a + 1), .ref (a + 26), .ref (a + 51), .ref (a + 53), .ref (a + 255), .ref (a + 280), .int (iI 0), .ref (a + 305), .ref (a + 306), .ref (a + 307), .null, .null, .null, .null])) := ho90
  have ohf6 := (hn89 _ (by omega)).trans ohf6
  have ohf17 := (hn89 _ (by omega)).trans ohf17
  have ohf28 := (hn89 _ (by omega)).trans ohf28
  have ohf39 := (hn89 _ (by omega)).trans ohf39
  have ohf50 := (hn89 _ (by omega)).trans ohf50
  have ohf61 := (hn89 _ (by omega)).trans ohf61
  have hf84 := (hn89 _ (by omega)).trans hf84
  have ahf28 := (hn89 _ (by omega)).trans ahf28
  have ha69 := (hn89 _ (by omega)).trans ha69
  have ha75 := (hn89 _ (by omega)).trans ha75
  have hf85 := (hn89 _ (by omega)).trans hf85
  have hf6 := lv_1 hf6 (by omega) hn89
  have hf17 := lv_1 hf17 (by omega) hn89
  have hf39 := hv_1 hf39 (by omega) hn89
  have hf50 := lv_1 hf50 (by omega) hn89
  have hf61 := lv_1 hf61 (by omega) hn89
  have hfr := fr_1 (by omega) hn89 hfr
  refine lv_aload_n F.1 F.2.1 dX8_init_97 rfl (lv_at hl 0 rfl) ?_
  refine h_size (q := a + 308) hW hf85 (by (try dsimp only); omega) (fun hz => ?_)
  have hz := hz.trans (show _ = a + 309 by omega)
  refine h_new (ci := 0) (fs := [.null, .int (iI 0)]) F hW hS hz inX0 tyX0 tyX0_ok kl_RX8_46 kb_RX0 kn_RX0 rfl (by intro j hj; rcases (show j = 0 ∨ j = 1 by omega) with hj | hj <;> subst hj <;> rfl) (by (try dsimp only); omega) dX8_init_98 (fun w91 H ho93 hn92 hW hS => ?_)
  clear hz
  have ho90 := (hn92 _ (by omega)).trans ho90
  have ohf6 := (hn92 _ (by omega)).trans ohf6
  have ohf17 := (hn92 _ (by omega)).trans ohf17
  have ohf28 := (hn92 _ (by omega)).trans ohf28
  have ohf39 := (hn92 _ (by omega)).trans ohf39
  have ohf50 := (hn92 _ (by omega)).trans ohf50
  have ohf61 := (hn92 _ (by omega)).trans ohf61
  have hf84 := (hn92 _ (by omega)).trans hf84
  have ahf28 := (hn92 _ (by omega)).trans ahf28
  have ha69 := (hn92 _ (by omega)).trans ha69
  have ha75 := (hn92 _ (by omega)).trans ha75
  have hf85 := (hn92 _ (by omega)).trans hf85
  have hf6 := lv_1 hf6 (by omega) hn92
  have hf17 := lv_1 hf17 (by omega) hn92
  have hf39 := hv_1 hf39 (by omega) hn92
  have hf50 := lv_1 hf50 (by omega) hn92
  have hf61 := lv_1 hf61 (by omega) hn92
  have hfr := fr_1 (by omega) hn92 hfr
  refine lv_dup F.1 F.2.1 dX8_init_101 rfl ?_
  refine h_size (q := a + 309) hW ho93 (by (try dsimp only); omega) (fun hz => ?_)
  have hz := hz.trans (show _ = (a + 309) + 1 by omega)
  refine h_callIN (As := []) (rest := [.ref (a + 309), .ref a]) F hl (n_X0_init l X w91 (a + 309) ho93) hW hS hz ⟨kc_yX0_init, kn_RX0, kN_RX8_48, ki_yX0_init⟩ rfl niX0 rfl rfl ⟨Nat.le_of_ble_eq_true rfl, Nat.le_of_ble_eq_true rfl⟩ (Nat.le_of_ble_eq_true rfl) (by (try dsimp only); omega) dX8_init_102 (fun w94 H locs hp95 hW hS => ?_)
  clear hz
  obtain ⟨hf96, hf97, ⟨ehl99, hl99⟩, hn98⟩ := hp95
  have ho90 := (hn98 _ (by omega) (by omega)).trans ho90
  have ohf6 := (hn98 _ (by omega) (by omega)).trans ohf6
  have ohf17 := (hn98 _ (by omega) (by omega)).trans ohf17
  have ohf28 := (hn98 _ (by omega) (by omega)).trans ohf28
  have ohf39 := (hn98 _ (by omega) (by omega)).trans ohf39
  have ohf50 := (hn98 _ (by omega) (by omega)).trans ohf50
  have ohf61 := (hn98 _ (by omega) (by omega)).trans ohf61
  have hf84 := (hn98 _ (by omega) (by omega)).trans hf84
  have ahf28 := (hn98 _ (by omega) (by omega)).trans ahf28
  have ha69 := (hn98 _ (by omega) (by omega)).trans ha69
  have ha75 := (hn98 _ (by omega) (by omega)).trans ha75
  have hf85 := (hn98 _ (by omega) (by omega)).trans hf85
  have hf6 := lv_2 hf6 (by omega) hn98
  have hf17 := lv_2 hf17 (by omega) hn98
  have hf39 := hv_2 hf39 (by omega) hn98
  have hf50 := lv_2 hf50 (by omega) hn98
  have hf61 := lv_2 hf61 (by omega) hn98
  have hfr := fr_2 (by omega) hn98 hfr
  refine pf_RX8_53 F hW hS ho90 (Nat.le_of_ble_eq_true rfl) hin dX8_init_105 (fun w100 H locs ho102 hn101 hW hS => ?_)
  have ho102 : w100 a = some (.inr (8, [.ref (a + 1), .ref (a + 26), .ref (a + 51), .ref (a + 53), .ref (a + 255), .ref (a + 280), .int (iI 0), .ref (a + 305), .ref (a + 306), .ref (a + 307), .ref (a + 309), .null, .null, .null])) := ho102
  have ohf6 := (hn101 _ (by omega)).trans ohf6
  have ohf17 := (hn101 _ (by omega)).trans ohf17
  have ohf28 := (hn101 _ (by omega)).trans ohf28
  have ohf39 := (hn101 _ (by omega)).trans ohf39
  have ohf50 := (hn101 _ (by omega)).trans ohf50
  have ohf61 := (hn101 _ (by omega)).trans ohf61
  have hf84 := (hn101 _ (by omega)).trans hf84
  have hf96 := (hn101 _ (by omega)).trans hf96
  have ahf28 := (hn101 _ (by omega)).trans ahf28
  have ha69 := (hn101 _ (by omega)).trans ha69
  have ha75 := (hn101 _ (by omega)).trans ha75
  have hf85 := (hn101 _ (by omega)).trans hf85
  have hf97 := (hn101 _ (by omega)).trans hf97
  have hf6 := lv_1 hf6 (by omega) hn101
  have hf17 := lv_1 hf17 (by omega) hn101
  have hf39 := hv_1 hf39 (by omega) hn101
  have hf50 := lv_1 hf50 (by omega) hn101
  have hf61 := lv_1 hf61 (by omega) hn101
  have hfr := fr_1 (by omega) hn101 hfr
  refine lv_aload_n F.1 F.2.1 dX8_init_108 rfl (lv_at hl 0 rfl) ?_
  refine h_size (q := a + 310) hW hf97 (by (try dsimp only); omega) (fun hz => ?_)
  have hz := hz.trans (show _ = a + 311 by omega)
  refine h_new (ci := 6) (fs := [.null, .int (iI 0), .int (iI 0), .int (iI 0), .int (iI 0), .int (iI 0), .int (iI 0), .int (iI 0)]) F hW hS hz inX6 tyX6 tyX6_ok kl_RX8_56 kb_RX6 kn_RX6 rfl (by intro j hj; rcases (show j = 0 ∨ j = 1 ∨ j = 2 ∨ j = 3 ∨ j = 4 ∨ j = 5 ∨ j = 6 ∨ j = 7 by omega) with hj | hj | hj | hj | hj | hj | hj | hj <;> subst hj <;> rfl) (by (try dsimp only); omega) dX8_init_109 (fun w103 H ho105 hn104 hW hS => ?_)
  clear hz
  have ho102 := (hn104 _ (by omega)).trans ho102
  have ohf6 := (hn104 _ (by omega)).trans ohf6
  have ohf17 := (hn104 _ (by omega)).trans ohf17
  have ohf28 := (hn104 _ (by omega)).trans ohf28
  have ohf39 := (hn104 _ (by omega)).trans ohf39
  have ohf50 := (hn104 _ (by omega)).trans ohf50
  have ohf61 := (hn104 _ (by omega)).trans ohf61
  have hf84 := (hn104 _ (by omega)).trans hf84
  have hf96 := (hn104 _ (by omega)).trans hf96
  have ahf28 := (hn104 _ (by omega)).trans ahf28
  have ha69 := (hn104 _ (by omega)).trans ha69
  have ha75 := (hn104 _ (by omega)).trans ha75
  have hf85 := (hn104 _ (by omega)).trans hf85
  have hf97 := (hn104 _ (by omega)).trans hf97
  have hf6 := lv_1 hf6 (by omega) hn104
  have hf17 := lv_1 hf17 (by omega) hn104
  have hf39 := hv_1 hf39 (by omega) hn104
  have hf50 := lv_1 hf50 (by omega) hn104
  have hf61 := lv_1 hf61 (by omega) hn104
  have hfr := fr_1 (by omega) hn104 hfr
  refine lv_dup F.1 F.2.1 dX8_init_112 rfl ?_
  refine lv_aload_n F.1 F.2.1 dX8_init_113 rfl (lv_at hl 0 rfl) ?_
  refine gf_RX8_49 F hW ho102 rfl dX8_init_114 ?_
  refine h_size (q := a + 311) hW ho105 (by (try dsimp only); omega) (fun hz => ?_)
  have hz := hz.trans (show _ = (a + 311) + 1 by omega)
  refine h_callI (As := [.ref (a + 307)]) (rest := [.ref (a + 311), .ref a]) F hl (n_X6_init l X w103 (a + 311) (a + 307) ho105) hW hS hz ⟨kc_yX6_init, kn_RX6, km_RX8_58, ki_yX6_init⟩ rfl niX6 rfl rfl ⟨Nat.le_of_ble_eq_true rfl, Nat.le_of_ble_eq_true rfl⟩ (Nat.le_of_ble_eq_true rfl) (by (try dsimp only); omega) dX8_init_117 (fun w106 H locs hp107 hW hS => ?_)
  clear hz
  obtain ⟨hf108, ⟨ehl110, hl110⟩, hn109⟩ := hp107
  have ho102 := (hn109 _ (by omega)).trans ho102
  have ohf6 := (hn109 _ (by omega)).trans ohf6
  have ohf17 := (hn109 _ (by omega)).trans ohf17
  have ohf28 := (hn109 _ (by omega)).trans ohf28
  have ohf39 := (hn109 _ (by omega)).trans ohf39
  have ohf50 := (hn109 _ (by omega)).trans ohf50
  have ohf61 := (hn109 _ (by omega)).trans ohf61
  have hf84 := (hn109 _ (by omega)).trans hf84
  have hf96 := (hn109 _ (by omega)).trans hf96
  have ahf28 := (hn109 _ (by omega)).trans ahf28
  have ha69 := (hn109 _ (by omega)).trans ha69
  have ha75 := (hn109 _ (by omega)).trans ha75
  have hf85 := (hn109 _ (by omega)).trans hf85
  have hf97 := (hn109 _ (by omega)).trans hf97
  have hf6 := lv_1 hf6 (by omega) hn109
  have hf17 := lv_1 hf17 (by omega) hn109
  have hf39 := hv_1 hf39 (by omega) hn109
  have hf50 := lv_1 hf50 (by omega) hn109
  have hf61 := lv_1 hf61 (by omega) hn109
  have hfr := fr_1 (by omega) hn109 hfr
  refine pf_RX8_61 F hW hS ho102 (Nat.le_of_ble_eq_true rfl) hin dX8_init_120 (fun w111 H locs ho113 hn112 hW hS => ?_)
  have ho113 : w111 a = some (.inr (8, [.ref (a + 1), .ref (a + 26), .ref (a + 51), .ref (a + 53), .ref (a + 255), .ref (a + 280), .int (iI 0), .ref (a + 305), .ref (a + 306), .ref (a + 307), .ref (a + 309), .ref (a + 311), .null, .null])) := ho113
  have ohf6 := (hn112 _ (by omega)).trans ohf6
  have ohf17 := (hn112 _ (by omega)).trans ohf17
  have ohf28 := (hn112 _ (by omega)).trans ohf28
  have ohf39 := (hn112 _ (by omega)).trans ohf39
  have ohf50 := (hn112 _ (by omega)).trans ohf50
  have ohf61 := (hn112 _ (by omega)).trans ohf61
  have hf84 := (hn112 _ (by omega)).trans hf84
  have hf96 := (hn112 _ (by omega)).trans hf96
  have hf108 := (hn112 _ (by omega)).trans hf108
  have ahf28 := (hn112 _ (by omega)).trans ahf28
  have ha69 := (hn112 _ (by omega)).trans ha69
  have ha75 := (hn112 _ (by omega)).trans ha75
  have hf85 := (hn112 _ (by omega)).trans hf85
  have hf97 := (hn112 _ (by omega)).trans hf97
  have hf6 := lv_1 hf6 (by omega) hn112
  have hf17 := lv_1 hf17 (by omega) hn112
  have hf39 := hv_1 hf39 (by omega) hn112
  have hf50 := lv_1 hf50 (by omega) hn112
  have hf61 := lv_1 hf61 (by omega) hn112
  have hfr := fr_1 (by omega) hn112 hfr
  refine lv_aload_n F.1 F.2.1 dX8_init_123 rfl (lv_at hl 0 rfl) ?_
  refine h_size (q := a + 311) hW hf108 (by (try dsimp only); omega) (fun hz => ?_)
  have hz := hz.trans (show _ = a + 312 by omega)
  refine h_new (ci := 2) (fs := [.null, .null, .int (iI 0), .int (iI 0)]) F hW hS hz inX2 tyX2 tyX2_ok kl_RX8_65 kb_RX2 kn_RX2 rfl (by intro j hj; rcases (show j = 0 ∨ j = 1 ∨ j = 2 ∨ j = 3 by omega) with hj | hj | hj | hj <;> subst hj <;> rfl) (by (try dsimp only); omega) dX8_init_124 (fun w114 H ho116 hn115 hW hS => ?_)
  clear hz
  have ho113 := (hn115 _ (by omega)).trans ho113
  have ohf6 := (hn115 _ (by omega)).trans ohf6
  have ohf17 := (hn115 _ (by omega)).trans ohf17
  have ohf28 := (hn115 _ (by omega)).trans ohf28
  have ohf39 := (hn115 _ (by omega)).trans ohf39
  have ohf50 := (hn115 _ (by omega)).trans ohf50
  have ohf61 := (hn115 _ (by omega)).trans ohf61
  have hf84 := (hn115 _ (by omega)).trans hf84
  have hf96 := (hn115 _ (by omega)).trans hf96
  have hf108 := (hn115 _ (by omega)).trans hf108
  have ahf28 := (hn115 _ (by omega)).trans ahf28
  have ha69 := (hn115 _ (by omega)).trans ha69
  have ha75 := (hn115 _ (by omega)).trans ha75
  have hf85 := (hn115 _ (by omega)).trans hf85
  have hf97 := (hn115 _ (by omega)).trans hf97
  have hf6 := lv_1 hf6 (by omega) hn115
  have hf17 := lv_1 hf17 (by omega) hn115
  have hf39 := hv_1 hf39 (by omega) hn115
  have hf50 := lv_1 hf50 (by omega) hn115
  have hf61 := lv_1 hf61 (by omega) hn115
  have hfr := fr_1 (by omega) hn115 hfr
  refine lv_dup F.1 F.2.1 dX8_init_127 rfl ?_
  refine lv_aload_n F.1 F.2.1 dX8_init_128 rfl (lv_at hl 0 rfl) ?_
  refine gf_RX8_61 F hW ho113 rfl dX8_init_129 ?_
  refine h_size (q := a + 312) hW ho116 (by (try dsimp only); omega) (fun hz => ?_)
  have hz := hz.trans (show _ = (a + 312) + 1 by omega)
  refine h_callI (As := [.ref (a + 311)]) (rest := [.ref (a + 312), .ref a]) F hl (n_X2_init l X w114 (a + 312) (a + 311) ho116) hW hS hz ⟨kc_yX2_init, kn_RX2, km_RX8_67, ki_yX2_init⟩ rfl niX2 rfl rfl ⟨Nat.le_of_ble_eq_true rfl, Nat.le_of_ble_eq_true rfl⟩ (Nat.le_of_ble_eq_true rfl) (by (try dsimp only); omega) dX8_init_132 (fun w117 H locs hp118 hW hS => ?_)
  clear hz
  obtain ⟨hf119, hf120, ⟨ehl122, hl122⟩, hn121⟩ := hp118
  have ho113 := (hn121 _ (by omega) (by omega) (by omega)).trans ho113
  have ohf6 := (hn121 _ (by omega) (by omega) (by omega)).trans ohf6
  have ohf17 := (hn121 _ (by omega) (by omega) (by omega)).trans ohf17
  have ohf28 := (hn121 _ (by omega) (by omega) (by omega)).trans ohf28
  have ohf39 := (hn121 _ (by omega) (by omega) (by omega)).trans ohf39
  have ohf50 := (hn121 _ (by omega) (by omega) (by omega)).trans ohf50
  have ohf61 := (hn121 _ (by omega) (by omega) (by omega)).trans ohf61
  have hf84 := (hn121 _ (by omega) (by omega) (by omega)).trans hf84
  have hf96 := (hn121 _ (by omega) (by omega) (by omega)).trans hf96
  have hf108 := (hn121 _ (by omega) (by omega) (by omega)).trans hf108
  have ahf28 := (hn121 _ (by omega) (by omega) (by omega)).trans ahf28
  have ha69 := (hn121 _ (by omega) (by omega) (by omega)).trans ha69
  have ha75 := (hn121 _ (by omega) (by omega) (by omega)).trans ha75
  have hf85 := (hn121 _ (by omega) (by omega) (by omega)).trans hf85
  have hf97 := (hn121 _ (by omega) (by omega) (by omega)).trans hf97
  have hf6 := lv_3 hf6 (by omega) hn121
  have hf17 := lv_3 hf17 (by omega) hn121
  have hf39 := hv_3 hf39 (by omega) hn121
  have hf50 := lv_3 hf50 (by omega) hn121
  have hf61 := lv_3 hf61 (by omega) hn121
  have hfr := fr_3 (by omega) hn121 hfr
  have ohf120 := hf120.1
  have ahf120 := hf120.2
  refine pf_RX8_70 F hW hS ho113 (Nat.le_of_ble_eq_true rfl) hin dX8_init_135 (fun w123 H locs ho125 hn124 hW hS => ?_)
  have ho125 : w123 a = some (.inr (8, [.ref (a + 1), .ref (a + 26), .ref (a + 51), .ref (a + 53), .ref (a + 255), .ref (a + 280), .int (iI 0), .ref (a + 305), .ref (a + 306), .ref (a + 307), .ref (a + 309), .ref (a + 311), .ref (a + 312), .null])) := ho125
  have ohf6 := (hn124 _ (by omega)).trans ohf6
  have ohf17 := (hn124 _ (by omega)).trans ohf17
  have ohf28 := (hn124 _ (by omega)).trans ohf28
  have ohf39 := (hn124 _ (by omega)).trans ohf39
  have ohf50 := (hn124 _ (by omega)).trans ohf50
  have ohf61 := (hn124 _ (by omega)).trans ohf61
  have hf84 := (hn124 _ (by omega)).trans hf84
  have hf96 := (hn124 _ (by omega)).trans hf96
  have hf108 := (hn124 _ (by omega)).trans hf108
  have hf119 := (hn124 _ (by omega)).trans hf119
  have ohf120 := (hn124 _ (by omega)).trans ohf120
  have ahf28 := (hn124 _ (by omega)).trans ahf28
  have ha69 := (hn124 _ (by omega)).trans ha69
  have ha75 := (hn124 _ (by omega)).trans ha75
  have hf85 := (hn124 _ (by omega)).trans hf85
  have hf97 := (hn124 _ (by omega)).trans hf97
  have ahf120 := (hn124 _ (by omega)).trans ahf120
  have hf6 := lv_1 hf6 (by omega) hn124
  have hf17 := lv_1 hf17 (by omega) hn124
  have hf39 := hv_1 hf39 (by omega) hn124
  have hf50 := lv_1 hf50 (by omega) hn124
  have hf61 := lv_1 hf61 (by omega) hn124
  have hfr := fr_1 (by omega) hn124 hfr
  refine lv_aload_n F.1 F.2.1 dX8_init_138 rfl (lv_at hl 0 rfl) ?_
  refine h_size (q := a + 314) hW ahf120 (by (try dsimp only); omega) (fun hz => ?_)
  have hz := hz.trans (show _ = a + 315 by omega)
  refine h_new (ci := 7) (fs := [.null, .null, .null, .null, .int (iI 0), .int (iI 0), .int (iI 0), .null, .null, .int (iI 0), .int (iI 0)]) F hW hS hz inX7 tyX7 tyX7_ok kl_RX8_74 kb_RX7 kn_RX7 rfl (by intro j hj; rcases (show j = 0 ∨ j = 1 ∨ j = 2 ∨ j = 3 ∨ j = 4 ∨ j = 5 ∨ j = 6 ∨ j = 7 ∨ j = 8 ∨ j = 9 ∨ j = 10 by omega) with hj | hj | hj | hj | hj | hj | hj | hj | hj | hj | hj <;> subst hj <;> rfl) (by (try dsimp only); omega) dX8_init_139 (fun w126 H ho128 hn127 hW hS => ?_)
  clear hz
  have ho125 := (hn127 _ (by omega)).trans ho125
  have ohf6 := (hn127 _ (by omega)).trans ohf6
  have ohf17 := (hn127 _ (by omega)).trans ohf17
  have ohf28 := (hn127 _ (by omega)).trans ohf28
  have ohf39 := (hn127 _ (by omega)).trans ohf39
  have ohf50 := (hn127 _ (by omega)).trans ohf50
  have ohf61 := (hn127 _ (by omega)).trans ohf61
  have hf84 := (hn127 _ (by omega)).trans hf84
  have hf96 := (hn127 _ (by omega)).trans hf96
  have hf108 := (hn127 _ (by omega)).trans hf108
  have hf119 := (hn127 _ (by omega)).trans hf119
  have ohf120 := (hn127 _ (by omega)).trans ohf120
  have ahf28 := (hn127 _ (by omega)).trans ahf28
  have ha69 := (hn127 _ (by omega)).trans ha69
  have ha75 := (hn127 _ (by omega)).trans ha75
  have hf85 := (hn127 _ (by omega)).trans hf85
  have hf97 := (hn127 _ (by omega)).trans hf97
  have ahf120 := (hn127 _ (by omega)).trans ahf120
  have hf6 := lv_1 hf6 (by omega) hn127
  have hf17 := lv_1 hf17 (by omega) hn127
  have hf39 := hv_1 hf39 (by omega) hn127
  have hf50 := lv_1 hf50 (by omega) hn127
  have hf61 := lv_1 hf61 (by omega) hn127
  have hfr := fr_1 (by omega) hn127 hfr
  refine lv_dup F.1 F.2.1 dX8_init_142 rfl ?_
  refine lv_aload_n F.1 F.2.1 dX8_init_143 rfl (lv_at hl 0 rfl) ?_
  refine gf_RX8_61 F hW ho125 rfl dX8_init_144 ?_
  refine h_size (q := a + 315) hW ho128 (by (try dsimp only); omega) (fun hz => ?_)
  have hz := hz.trans (show _ = (a + 315) + 1 by omega)
  refine h_callI (As := [.ref (a + 311)]) (rest := [.ref (a + 315), .ref a]) F hl (n_X7_init l X w126 (a + 315) (a + 311) ho128) hW hS hz ⟨kc_yX7_init, kn_RX7, km_RX8_76, ki_yX7_init⟩ rfl niX7 rfl rfl ⟨Nat.le_of_ble_eq_true rfl, Nat.le_of_ble_eq_true rfl⟩ (Nat.le_of_ble_eq_true rfl) (by (try dsimp only); omega) dX8_init_147 (fun w129 H locs hp130 hW hS => ?_)
  clear hz
  obtain ⟨hf131, hf132, hf133, hf134, hf135, hf136, ⟨ehl138, hl138⟩, hn137⟩ := hp130
  have ho125 := (hn137 _ (by omega)).trans ho125
  have ohf6 := (hn137 _ (by omega)).trans ohf6
  have ohf17 := (hn137 _ (by omega)).trans ohf17
  have ohf28 := (hn137 _ (by omega)).trans ohf28
  have ohf39 := (hn137 _ (by omega)).trans ohf39
  have ohf50 := (hn137 _ (by omega)).trans ohf50
  have ohf61 := (hn137 _ (by omega)).trans ohf61
  have hf84 := (hn137 _ (by omega)).trans hf84
  have hf96 := (hn137 _ (by omega)).trans hf96
  have hf108 := (hn137 _ (by omega)).trans hf108
  have hf119 := (hn137 _ (by omega)).trans hf119
  have ohf120 := (hn137 _ (by omega)).trans ohf120
  have ahf28 := (hn137 _ (by omega)).trans ahf28
  have ha69 := (hn137 _ (by omega)).trans ha69
  have ha75 := (hn137 _ (by omega)).trans ha75
  have hf85 := (hn137 _ (by omega)).trans hf85
  have hf97 := (hn137 _ (by omega)).trans hf97
  have ahf120 := (hn137 _ (by omega)).trans ahf120
  have hf6 := lv_R hf6 (by omega) hn137
  have hf17 := lv_R hf17 (by omega) hn137
  have hf39 := hv_R hf39 (by omega) hn137
  have hf50 := lv_R hf50 (by omega) hn137
  have hf61 := lv_R hf61 (by omega) hn137
  have hfr := fr_R (by omega) hn137 hfr
  refine pf_RX8_77 F hW hS ho125 (Nat.le_of_ble_eq_true rfl) hin dX8_init_150 (fun w139 H locs ho141 hn140 hW hS => ?_)
  have ho141 : w139 a = some (.inr (8, [.ref (a + 1), .ref (a + 26), .ref (a + 51), .ref (a + 53), .ref (a + 255), .ref (a + 280), .int (iI 0), .ref (a + 305), .ref (a + 306), .ref (a + 307), .ref (a + 309), .ref (a + 311), .ref (a + 312), .ref (a + 315)])) := ho141
  have ohf6 := (hn140 _ (by omega)).trans ohf6
  have ohf17 := (hn140 _ (by omega)).trans ohf17
  have ohf28 := (hn140 _ (by omega)).trans ohf28
  have ohf39 := (hn140 _ (by omega)).trans ohf39
  have ohf50 := (hn140 _ (by omega)).trans ohf50
  have ohf61 := (hn140 _ (by omega)).trans ohf61
  have hf84 := (hn140 _ (by omega)).trans hf84
  have hf96 := (hn140 _ (by omega)).trans hf96
  have hf108 := (hn140 _ (by omega)).trans hf108
  have hf119 := (hn140 _ (by omega)).trans hf119
  have ohf120 := (hn140 _ (by omega)).trans ohf120
  have hf131 := (hn140 _ (by omega)).trans hf131
  have ahf28 := (hn140 _ (by omega)).trans ahf28
  have ha69 := (hn140 _ (by omega)).trans ha69
  have ha75 := (hn140 _ (by omega)).trans ha75
  have hf85 := (hn140 _ (by omega)).trans hf85
  have hf97 := (hn140 _ (by omega)).trans hf97
  have ahf120 := (hn140 _ (by omega)).trans ahf120
  have hf132 := (hn140 _ (by omega)).trans hf132
  have hf133 := (hn140 _ (by omega)).trans hf133
  have hf134 := (hn140 _ (by omega)).trans hf134
  have hf135 := (hn140 _ (by omega)).trans hf135
  have hf136 := (hn140 _ (by omega)).trans hf136
  have hf6 := lv_1 hf6 (by omega) hn140
  have hf17 := lv_1 hf17 (by omega) hn140
  have hf39 := hv_1 hf39 (by omega) hn140
  have hf50 := lv_1 hf50 (by omega) hn140
  have hf61 := lv_1 hf61 (by omega) hn140
  have hfr := fr_1 (by omega) hn140 hfr
  have k1 := hf6
  have k26 := hf17
  have k255 := hf50
  have k280 := hf61
  have khis := hf39
  have ksc : scE X w139 a := ⟨0, 0, 0, 0, 0, fun _ => 0, fun _ => 0, fun _ => 0, fun _ => 0, fun _ => 0, hf131, hf132, hf133, hf134, hf135, hf136⟩
  refine W.widen (k := 320) (n := 4476) (by (try dsimp only); omega) (by (try dsimp only); omega) ?_
  exact h_vret F hr hlk hW hS ⟨ho141, k1, k26, ⟨ohf28, ahf28⟩, khis, k255, k280, ha69, ha75, hf84, hf85, hf96, hf97, hf108, hf119, ⟨ohf120, ahf120⟩, ksc, ⟨_, hf136⟩, hfr⟩ dX8_init_153
