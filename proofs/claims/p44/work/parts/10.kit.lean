/-! ===== THE KIT OF THIS CLAIM: ints as Int, worlds as functions of addresses, one contract form ===== -/
def iI (z : Int) : Int32 := Int32.ofInt z
theorem iI_add (a b : Int) : iI a + iI b = iI (a + b) := (Int32.ofInt_add a b).symm
theorem iI_sub (a b : Int) : iI a - iI b = iI (a - b) := (Int32.ofInt_sub a b).symm
theorem iI_mul (a b : Int) : iI a * iI b = iI (a * b) := (Int32.ofInt_mul a b).symm
theorem iI_neg (a : Int) : -iI a = iI (-a) := (Int32.ofInt_neg a).symm
theorem iI_toInt {a : Int} (h : -2147483648 ≤ a ∧ a < 2147483648) : (iI a).toInt = a := Int32.toInt_ofInt_of_le (by omega) (by omega)
theorem iI_of (x : Int32) : x = iI x.toInt := (Int32.ofInt_toInt x).symm
theorem iI_rng (x : Int32) : -2147483648 ≤ x.toInt ∧ x.toInt < 2147483648 := by
  have h1 := Int32.le_toInt x
  have h2 := Int32.toInt_lt x
  omega
theorem iI_lt {a b : Int} (ha : -2147483648 ≤ a ∧ a < 2147483648) (hb : -2147483648 ≤ b ∧ b < 2147483648) : iI a < iI b ↔ a < b := by
  rw [Int32.lt_iff_toInt_lt, iI_toInt ha, iI_toInt hb]
theorem iI_le {a b : Int} (ha : -2147483648 ≤ a ∧ a < 2147483648) (hb : -2147483648 ≤ b ∧ b < 2147483648) : iI a ≤ iI b ↔ a ≤ b := by
  rw [Int32.le_iff_toInt_le, iI_toInt ha, iI_toInt hb]
theorem iI_eq {a b : Int} (ha : -2147483648 ≤ a ∧ a < 2147483648) (hb : -2147483648 ≤ b ∧ b < 2147483648) : iI a = iI b ↔ a = b :=
  ⟨fun h => by have h2 := congrArg Int32.toInt h; rwa [iI_toInt ha, iI_toInt hb] at h2, fun h => by rw [h]⟩
theorem iI_0 : (0 : Int32) = iI 0 := rfl
theorem iI_nI (n : Nat) : nI n = iI (n : Int) := (Int32.ofInt_eq_ofNat).symm
theorem iI_clamp {a : Int} (h : 0 ≤ a ∧ a < 2147483648) : (iI a).toNatClampNeg = a.toNat := Int32.toNatClampNeg_ofInt_of_le (by omega) (by omega)
theorem iI_in {a : Int} {n : Nat} (h : 0 ≤ a ∧ a < n) (hn : (n : Int) < 2147483648) : vp_in (iI a) n := by
  rw [vp_in_iff, iI_toInt (by omega)]
  exact h
def lI (z : Int) : Int64 := Int64.ofInt z
theorem lI_toInt {a : Int} (h : -9223372036854775808 ≤ a ∧ a < 9223372036854775808) : (lI a).toInt = a := Int64.toInt_ofInt_of_le (by omega) (by omega)
theorem lI_i {a : Int} (h : -2147483648 ≤ a ∧ a < 2147483648) : (iI a).toInt64 = lI a := by
  rw [← Int64.ofInt_int32ToInt, iI_toInt h]; rfl
theorem lI_lt {a b : Int} (ha : -9223372036854775808 ≤ a ∧ a < 9223372036854775808) (hb : -9223372036854775808 ≤ b ∧ b < 9223372036854775808) : lI a < lI b ↔ a < b := by
  rw [Int64.lt_iff_toInt_lt, lI_toInt ha, lI_toInt hb]
theorem lI_eq {a b : Int} (ha : -9223372036854775808 ≤ a ∧ a < 9223372036854775808) (hb : -9223372036854775808 ≤ b ∧ b < 9223372036854775808) : lI a = lI b ↔ a = b :=
  ⟨fun h => by have h2 := congrArg Int64.toInt h; rwa [lI_toInt ha, lI_toInt hb] at h2, fun h => by rw [h]⟩
theorem lI_add (a b : Int) : lI a + lI b = lI (a + b) := (Int64.ofInt_add a b).symm
theorem lI_sub (a b : Int) : lI a - lI b = lI (a - b) := (Int64.ofInt_sub a b).symm
theorem lI_mul (a b : Int) : lI a * lI b = lI (a * b) := (Int64.ofInt_mul a b).symm
/-- a truth value as Java's -/
def bz (b : Bool) : Int := if b then 1 else 0
theorem bz_t : bz true = 1 := rfl
theorem bz_f : bz false = 0 := rfl
theorem bz_r (b : Bool) : 0 ≤ bz b ∧ bz b ≤ 1 := by cases b <;> decide
theorem bz_0 {b : Bool} (h : bz b = 0) : b = false := by cases b <;> first | rfl | exact absurd h (by decide)
theorem bz_1 {b : Bool} (h : bz b ≠ 0) : b = true := by cases b <;> first | rfl | exact absurd rfl h
/-- one place of a row is set -/
def up (f : Int → Int) (k x : Int) : Int → Int := fun j => if j = k then x else f j
theorem up_s (f : Int → Int) (k x : Int) : up f k x k = x := by simp [up]
theorem up_n {f : Int → Int} {k x j : Int} (h : j ≠ k) : up f k x j = f j := by simp [up, h]
/-- the comparison of two longs -/
theorem lI_cmp {a b : Int} (ha : -9223372036854775808 ≤ a ∧ a < 9223372036854775808) (hb : -9223372036854775808 ≤ b ∧ b < 9223372036854775808) : lg_cmp (lI a) (lI b) = iI (if a < b then -1 else if a = b then 0 else 1) := by
  unfold lg_cmp
  by_cases h1 : a < b
  · rw [if_pos h1, if_neg (fun z => by have := (lI_lt hb ha).mp z; omega), if_neg (fun z => by have := (lI_eq ha hb).mp z; omega)]; rfl
  · rw [if_neg h1]
    by_cases h2 : a = b
    · rw [if_pos h2, if_neg (fun z => by have := (lI_lt hb ha).mp z; omega), if_pos (by rw [h2])]; rfl
    · rw [if_neg h2, if_pos ((lI_lt hb ha).mpr (by omega))]; rfl
-- worlds
abbrev Wo : Type := Nat → Option va_E
/-- what a run fixes: the classes' numbers, the array classes' (0 int, 1 long, 2 byte, 3 Caption, 4 Loom, 5 Object), addresses (0: where new cells begin; 1, 2: the two GLYPHS; 3: ArrayList's empty row; 4, 5: the digits; 10 + i, 30 + i: the word i of the texts, and its bytes; 60 + i, 80 + i: the law's) -/
abbrev Cx : Type := va_G × (Nat → ClassId) × (Nat → Nat)
abbrev cxB (X : Cx) : Nat := X.2.2 0
abbrev cxA (X : Cx) : Nat → Prop := fun q => X.2.2 0 ≤ q
abbrev cxT (X : Cx) : List (ClassId × FieldType) := [(X.2.1 0, .int), (X.2.1 1, .long), (X.2.1 2, .byte), (X.2.1 3, .object RX1), (X.2.1 4, .object RX5), (X.2.1 5, .object "java/lang/Object")]
abbrev aZ (X : Cx) (n : Nat) (f : Int → Int) : va_E := .inl (X.2.1 0, n, .inl (fun j : Nat => iI (f (j : Int))))
abbrev aJ (X : Cx) (n : Nat) (g : Nat → Int64) : va_E := .inl (X.2.1 1, n, .inr (.inl g))
abbrev aR (X : Cx) (k n : Nat) (f : Nat → Option Nat) : va_E := .inl (X.2.1 k, n, .inr (.inr (.inr (.inr f))))
abbrev oB (ci : Nat) (fs : List Value) : va_E := .inr (ci, fs)
/-- the glyphs, and the words of the texts -/
def glL : List Int := [11245, 18927, 31015, 5103, 31143, 31140, 31087, 23533, 29847, 4687, 23469, 18727, 24557, 27501, 31599, 31716, 31689, 27565, 31183, 29842, 23407, 23402, 23549, 23213, 23186, 29351]
def gl (k : Int) : Int := glL.getD k.toNat 0
def wdL : List (List Int) := [[108, 111, 111, 109], [99, 97, 112, 116, 105, 111, 110], [114, 101, 97, 114], [97, 116], [105, 110], [115, 116, 111, 99, 107], [100, 101, 108, 97, 121], [112, 97, 115, 115], [98, 101, 97, 116], [119, 101, 97, 118, 101], [98, 108, 105, 110, 100], [117, 110, 112, 105, 99, 107], [108, 111, 111, 107], [114, 101, 112, 101, 97, 116]]
def wdB : List (List Int32) := wdL.map (fun l => l.map iI)
def wdN : List Nat := wdL.map List.length
/-- the law's own words -/
def lwL : List (List Int) := [[108, 111, 111, 109, 32], [99, 97, 112, 116, 105, 111, 110, 32], [32, 114, 101, 97, 114], [], [32, 97, 116, 32], [32, 105, 110, 32], [100, 101, 108, 97, 121, 32], [115, 116, 111, 99, 107, 32], [97, 97, 97], [112, 97, 115, 115, 32], [32], [59], [119, 101, 97, 118, 101, 32], [32, 98, 108, 105, 110, 100, 59], [97, 104, 105, 116, 111, 120, 98, 101, 100, 122]]
def lwB : List (List Int32) := lwL.map (fun l => l.map iI)
def lwN : List Nat := lwL.map List.length
/-- what old cells hold: the statics, the String constants -/
def cxZ (X : Cx) (U : State) (H : Heap) : Prop :=
  (va_Z RX8 "GLYPHS" "[I" (.ref (X.2.2 1)) (cxA X) U H ∧ va_T .int (X.2.2 1) 26 (fun j => .int (iI (gl (j : Int)))) (cxA X) U H) ∧
  (va_Z RL "GLYPHS" "[I" (.ref (X.2.2 2)) (cxA X) U H ∧ va_T .int (X.2.2 2) 26 (fun j => .int (iI (gl (j : Int)))) (cxA X) U H) ∧
  va_Z "java/lang/String" "COMPACT_STRINGS" "Z" (.int 1) (cxA X) U H ∧
  vk_S 14 wdN wdB (fun i => X.2.2 (10 + i)) (fun i => X.2.2 (30 + i)) (cxA X) U H ∧
  va_Zq "jdk/internal/util/Preconditions" "SIOOBE_FORMATTER" "Ljava/util/function/BiFunction;" (cxA X) U H ∧ vk_S 15 lwN lwB (fun i => X.2.2 (60 + i)) (fun i => X.2.2 (80 + i)) (cxA X) U H ∧
  (va_Z RJx4a65c "DEFAULTCAPACITY_EMPTY_ELEMENTDATA" "[Ljava/lang/Object;" (.ref (X.2.2 3)) (cxA X) U H ∧ va_T (.object "java/lang/Object") (X.2.2 3) 0 (fun _ => .null) (cxA X) U H) ∧
  (va_Z RJ6 "DigitTens" "[B" (.ref (X.2.2 4)) (cxA X) U H ∧ va_T .byte (X.2.2 4) 100 (fun j => .int (iI (48 + (j : Int) / 10))) (cxA X) U H) ∧
  (va_Z RJ6 "DigitOnes" "[B" (.ref (X.2.2 5)) (cxA X) U H ∧ va_T .byte (X.2.2 5) 100 (fun j => .int (iI (48 + (j : Int) % 10))) (cxA X) U H)
/-- which entry of which class's pool is which word of the texts -/
def cxW : List (String × Nat × String × Nat) := [(RX2, 49, "loom", 0), (RX2, 68, "caption", 1), (RX2, 127, "rear", 2), (RX2, 129, "at", 3), (RX2, 102, "in", 4), (RX2, 76, "stock", 5), (RX2, 81, "delay", 6),
  (RX7, 63, "pass", 7), (RX7, 69, "beat", 8), (RX7, 71, "weave", 9), (RX7, 121, "blind", 10), (RX7, 73, "unpick", 11), (RX7, 75, "look", 12), (RX7, 77, "repeat", 13)]
def cxV : List (String × Nat × String × Nat) := [(RL, 97, "loom ", 0), (RL, 112, "caption ", 1), (RL, 123, " rear", 2), (RL, 125, "", 3), (RL, 127, " at ", 4), (RL, 135, " in ", 5), (RL, 143, "delay ", 6), (RL, 148, "stock ", 7), (RL, 281, "aaa", 8), (RL, 333, "pass ", 9), (RL, 335, " ", 10), (RL, 337, ";", 11), (RL, 355, "weave ", 12), (RL, 357, " blind;", 13), (RL, 43, "ahitoxbedz", 14)]
/-- the private methods of AbstractStringBuilder, selected on a StringBuilder -/
def privL : List MethodName := [yJ5_ensureCapacityInternal_d00df, yJ5_newCapacity_0f7a4, yJ5_putStringAt_47b60, yJ5_inflateIfNeededFor_a7421]
def castL : List (String × String) := [(RX9, "java/lang/Object"), ("[I", "java/lang/Object"), ("[B", "java/lang/Cloneable")]
/-- the methods that are called by an interface -/
def faceL : List (String × MethodName × MethodName) := [(RJx4a65c, ⟨"java/util/List", "size", "()I"⟩, yJx4a65c_size_8abf5), (RJx4a65c, ⟨"java/util/List", "get", "(I)Ljava/lang/Object;"⟩, yJx4a65c_get_915e3), (RJx4a65c, ⟨"java/util/List", "set", "(ILjava/lang/Object;)Ljava/lang/Object;"⟩, yJx4a65c_set_bcc79), (RJx4a65c, ⟨"java/util/List", "add", "(Ljava/lang/Object;)Z"⟩, yJx4a65c_add_9ea2d), (RJx4a65c, ⟨"java/util/List", "remove", "(I)Ljava/lang/Object;"⟩, yJx4a65c_remove_915e3), (RJx4a65c, ⟨"java/util/List", "isEmpty", "()Z"⟩, yJx4a65c_isEmpty_aae02), (RJx4a65c, ⟨"java/util/List", "iterator", "()Ljava/util/Iterator;"⟩, yJx4a65c_iterator_32c93), (RJx35411, ⟨"java/util/Iterator", "hasNext", "()Z"⟩, yJx35411_hasNext_aae02), (RJx35411, ⟨"java/util/Iterator", "next", "()Ljava/lang/Object;"⟩, yJx35411_next_0502b)]
theorem faceOK : ∀ q ∈ faceL, q.2.1.cls ≠ "java/lang/invoke/MethodHandle" ∧ q.2.1.cls ≠ "java/lang/invoke/VarHandle" := by decide +kernel
def cxK (X : Cx) (U : State) : Prop := va_K X.1 vwCl (cxT X) U ∧ (∀ q ∈ cxW, vk_R q.1 q.2.1 q.2.2.1 (X.2.2 (10 + q.2.2.2)) U) ∧ (∀ q ∈ nestL, va_Nw (.methodLinkNest q.1 q.2.1 q.2.2.1 q.2.2.2) U) ∧ va_Nw (.fieldLinkNest RX1 57 RX8 "GLYPHS" "[I" RX8) U ∧ va_AO RX1 U ∧ va_AO RX5 U ∧ (∀ q ∈ cxV, vk_R q.1 q.2.1 q.2.2.1 (X.2.2 (60 + q.2.2.2)) U) ∧ va_AO "java/lang/Object" U ∧ va_Nw (.castable "[I" "java/lang/Cloneable") U ∧ (∀ q ∈ fnestL, va_Nw (.fieldLinkNest q.1 q.2.1 q.2.2.1 q.2.2.2.1 q.2.2.2.2.1 q.2.2.2.2.2) U) ∧ (∀ q ∈ faceL, va_Fw q.1 q.2.1 q.2.2 U) ∧ va_Dc U ∧ va_Mi "[Ljava/lang/Object;" (X.2.2 6) U ∧ (∀ q ∈ castL, va_Nw (.castable q.1 q.2) U) ∧ (∀ q ∈ privL, va_Nw (.selects RJ4 q q) U)
/-- the heap holds the world -/
def cxH (X : Cx) (w : Wo) (H : Heap) : Prop := (∀ (q : Nat) (e : va_E), w q = some e → va_at X.1 vwCl (q, e) H ∧ cxB X ≤ q) ∧ cxB X ≤ H.size
def Wd (X : Cx) (w : Wo) (U : State) (H : Heap) : Prop := cxH X w H ∧ cxK X U ∧ cxZ X U H
theorem cxZ.kept {X : Cx} {U : State} {H H1 : Heap} (h : cxZ X U H) (hq : ∀ a : Nat, a < H.size → ¬ cxA X a → H1[a]? = H[a]?) : cxZ X U H1 :=
  ⟨⟨h.1.1.kept hq, h.1.2.kept hq⟩, ⟨h.2.1.1.kept hq, h.2.1.2.kept hq⟩, h.2.2.1.kept hq, h.2.2.2.1.kept hq, h.2.2.2.2.1.kept hq, h.2.2.2.2.2.1.kept hq, ⟨h.2.2.2.2.2.2.1.1.kept hq, h.2.2.2.2.2.2.1.2.kept hq⟩, ⟨h.2.2.2.2.2.2.2.1.1.kept hq, h.2.2.2.2.2.2.2.1.2.kept hq⟩, ⟨h.2.2.2.2.2.2.2.2.1.kept hq, h.2.2.2.2.2.2.2.2.2.kept hq⟩⟩
theorem cxZ.moved {X : Cx} {u U : State} {H : Heap} (hv : u.vm.Alike U.vm) (h : cxZ X u H) : cxZ X U H :=
  ⟨⟨h.1.1.moved hv, h.1.2.moved hv⟩, ⟨h.2.1.1.moved hv, h.2.1.2.moved hv⟩, h.2.2.1.moved hv, h.2.2.2.1.moved hv, h.2.2.2.2.1.moved hv, h.2.2.2.2.2.1.moved hv, ⟨h.2.2.2.2.2.2.1.1.moved hv, h.2.2.2.2.2.2.1.2.moved hv⟩, ⟨h.2.2.2.2.2.2.2.1.1.moved hv, h.2.2.2.2.2.2.2.1.2.moved hv⟩, ⟨h.2.2.2.2.2.2.2.2.1.moved hv, h.2.2.2.2.2.2.2.2.2.moved hv⟩⟩
theorem cxK.warm {X : Cx} {u U : State} (hW : u.WarmedH U.vm) (h : cxK X u) : cxK X U := ⟨va_K.moved hW.alike h.1, fun q hq => (h.2.1 q hq).warm hW, fun q hq => (h.2.2.1 q hq).warmM hW, h.2.2.2.1.warmF hW, h.2.2.2.2.1.moved hW.alike, h.2.2.2.2.2.1.moved hW.alike, fun q hq => (h.2.2.2.2.2.2.1 q hq).warm hW, h.2.2.2.2.2.2.2.1.moved hW.alike, h.2.2.2.2.2.2.2.2.1.warmC hW, fun q hq => (h.2.2.2.2.2.2.2.2.2.1 q hq).warmF hW, fun q hq => va_Fw.moved (faceOK q hq) hW.alike (h.2.2.2.2.2.2.2.2.2.2.1 q hq), va_Dc.moved hW.alike h.2.2.2.2.2.2.2.2.2.2.2.1, va_Mi.moved hW.alike h.2.2.2.2.2.2.2.2.2.2.2.2.1, fun q hq => (h.2.2.2.2.2.2.2.2.2.2.2.2.2.1 q hq).warmC hW, fun q hq => word_at hW (Or.inl rfl) (h.2.2.2.2.2.2.2.2.2.2.2.2.2.2 q hq)⟩
theorem cxK.call {X : Cx} {U : State} {g : JFrame} {mk : MethodId} {a : Array Value} (h : cxK X U) : cxK X (U.calling g mk a) := ⟨va_K.moved (u := U) (U := U.calling g mk a) (Vm.Alike.refl U.vm) h.1, fun q hq => (h.2.1 q hq).same rfl, fun q hq => va_Nw.same rfl rfl (h.2.2.1 q hq), va_Nw.same rfl rfl h.2.2.2.1, va_AO.moved (u := U) (U := U.calling g mk a) (Vm.Alike.refl U.vm) h.2.2.2.2.1, va_AO.moved (u := U) (U := U.calling g mk a) (Vm.Alike.refl U.vm) h.2.2.2.2.2.1, fun q hq => (h.2.2.2.2.2.2.1 q hq).same rfl, va_AO.moved (u := U) (U := U.calling g mk a) (Vm.Alike.refl U.vm) h.2.2.2.2.2.2.2.1, va_Nw.same rfl rfl h.2.2.2.2.2.2.2.2.1, fun q hq => va_Nw.same rfl rfl (h.2.2.2.2.2.2.2.2.2.1 q hq), fun q hq => va_Fw.moved (faceOK q hq) (u := U) (U := U.calling g mk a) (Vm.Alike.refl U.vm) (h.2.2.2.2.2.2.2.2.2.2.1 q hq), va_Dc.moved (u := U) (U := U.calling g mk a) (Vm.Alike.refl U.vm) h.2.2.2.2.2.2.2.2.2.2.2.1, va_Mi.moved (u := U) (U := U.calling g mk a) (Vm.Alike.refl U.vm) h.2.2.2.2.2.2.2.2.2.2.2.2.1, fun q hq => va_Nw.same rfl rfl (h.2.2.2.2.2.2.2.2.2.2.2.2.2.1 q hq), fun q hq => va_Nw.same rfl rfl (h.2.2.2.2.2.2.2.2.2.2.2.2.2.2 q hq)⟩
theorem Wd.warm {X : Cx} {w : Wo} {u U : State} {H : Heap} (hW : u.WarmedH U.vm) (h : Wd X w u H) : Wd X w U H := ⟨h.1, h.2.1.warm hW, h.2.2.moved hW.alike⟩
theorem Wd.call {X : Cx} {w : Wo} {U : State} {H : Heap} {g : JFrame} {mk : MethodId} {a : Array Value} (h : Wd X w U H) : Wd X w (U.calling g mk a) H := ⟨h.1, h.2.1.call, h.2.2.moved (u := U) (U := U.calling g mk a) (Vm.Alike.refl U.vm)⟩
theorem Wd.put {X : Cx} {w : Wo} {U : State} {H H1 : Heap} {a : Nat} {e0 e : va_E} (h : Wd X w U H) (ha : w a = some e0) (he : va_at X.1 vwCl (a, e) H1) (z : H1.size = H.size) (oq : ∀ q : Nat, q ≠ a → H1[q]? = H[q]?) : ∃ w1 : Wo, w1 a = some e ∧ (∀ q, q ≠ a → w1 q = w q) ∧ Wd X w1 U H1 := by
  refine ⟨fun q => if q = a then some e else w q, by simp, fun q hq => by simp [hq], ⟨fun q e1 hq => ?_, by rw [z]; exact h.1.2⟩, h.2.1, h.2.2.kept fun q _ h2 => oq q (fun z2 => h2 (by rw [z2]; exact (h.1.1 a e0 ha).2))⟩
  by_cases hqa : q = a
  · subst hqa
    simp at hq
    subst hq
    exact ⟨he, (h.1.1 q e0 ha).2⟩
  · simp [hqa] at hq
    exact ⟨((h.1.1 q e1 hq).1).kept (oq q hqa), (h.1.1 q e1 hq).2⟩
theorem Wd.new {X : Cx} {w : Wo} {U : State} {H H1 : Heap} {e : va_E} (h : Wd X w U H) (he : va_at X.1 vwCl (H.size, e) H1) (z : H1.size = H.size + 1) (oq : ∀ q : Nat, q < H.size → H1[q]? = H[q]?) : ∃ w1 : Wo, w1 H.size = some e ∧ (∀ q, q ≠ H.size → w1 q = w q) ∧ Wd X w1 U H1 := by
  refine ⟨fun q => if q = H.size then some e else w q, by simp, fun q hq => by simp [hq], ⟨fun q e1 hq => ?_, by rw [z]; exact Nat.le_succ_of_le h.1.2⟩, h.2.1, h.2.2.kept fun q h1 _ => oq q h1⟩
  by_cases hqa : q = H.size
  · subst hqa
    simp at hq
    subst hq
    exact ⟨he, h.1.2⟩
  · simp [hqa] at hq
    have h2 := h.1.1 q e1 hq
    exact ⟨(h2.1).kept (oq q (va_at.lt h2.1)), h2.2⟩
theorem Wd.skip {X : Cx} {w : Wo} {U : State} {H H1 : Heap} (h : Wd X w U H) (z : H.size ≤ H1.size) (oq : ∀ q : Nat, q < H.size → H1[q]? = H[q]?) : Wd X w U H1 :=
  ⟨⟨fun q e1 hq => ⟨((h.1.1 q e1 hq).1).kept (oq q (va_at.lt (h.1.1 q e1 hq).1)), (h.1.1 q e1 hq).2⟩, Nat.le_trans h.1.2 z⟩, h.2.1, h.2.2.kept fun q h1 _ => oq q h1⟩
/-- THE CONTRACT: from the world w the method y returns the values v (none or one), the world is w' then, with P w'; nothing but cells from cxB on is written; mc cells of ms slots are new -/
def CM (l : Launch) (X : Cx) (y : MethodName) (cb : ByteArray) (maxL : Nat) (ret : Option FieldType) (rm : Room) (As : List Value) (w : Wo) (v : Option Value) (P : Wo → Prop) : Prop :=
  Met l y (Cond.code y cb maxL ret :: BIG) rm (va_Pc As (fun U => Wd X w U U.heap)) (fun _ st oc t => (∃ w' : Wo, oc = .returned v ∧ P w' ∧ cxH X w' t.heap) ∧ va_F (cxA X) st t) rm.cells rm.slots (cxA X)
/-- what the end of a method with that contract is -/
abbrev MX (X : Cx) (below : List Frame) (args : Array Value) (s : State) (mc ms : Nat) (v : Option Value) (P : Wo → Prop) : State → Prop := MQ below (fun _ st oc t => (∃ w' : Wo, oc = .returned v ∧ P w' ∧ cxH X w' t.heap) ∧ va_F (cxA X) st t) args s mc ms (cxA X)
abbrev rmk (f l : Nat) : Room := { frames := f, cells := 0, slots := 0, locals := l }
abbrev Fx (p : Program) (m : MethodId) (c : Code) (cc : ByteArray) (nL : Nat) (s : State) (args : Array Value) (own : String) : Prop := CallFix p m c cc nL s args BIG own
theorem big_in {y : MethodName} {cb : ByteArray} {maxL : Nat} {ret : Option FieldType} (h : Cond.code y cb maxL ret ∈ BIG) : GoodIn BIG (Cond.code y cb maxL ret :: BIG) := fun w hw => by
  have hm : w ∈ BIG := by
    rcases List.mem_cons.mp hw with rfl | h2
    · exact h
    · exact h2
  exact ⟨hm, good_of_word (big_good hm)⟩
theorem big_ap {a b : List Cond} (h : ∀ w ∈ a, w ∈ BIG) (g : GoodIn BIG b) : GoodIn BIG (a ++ b) := fun w hw => by
  rcases List.mem_append.mp hw with h2 | h2
  · exact ⟨h w h2, good_of_word (big_good (h w h2))⟩
  · exact g w h2
section KX
variable {p : Program} {l : Launch} {e : Env} {R : Room} {s : State} {m : MethodId} {args : Array Value} {below : List Frame} {meth : Method} {c : Code} {H H0 : Heap} {locs : List Loc} {cells slots : Nat} {Q : State → Prop}
  {cc : ByteArray} {nL pc : Nat} {own : String} {ls : Array Slot} {rest : List Value} {X : Cx} {w : Wo} {lv0 : List (Nat × Value)}
/-- a contract, from its entry -/
theorem CM.of {y : MethodName} {cb : ByteArray} {maxL : Nat} {ret : Option FieldType} {rm : Room} {As : List Value} {v : Option Value} {P : Wo → Prop} {lv : List (Nat × Value)} (hy : plainName y.cls = true) (hlen : (lg_sl As).length ≤ maxL) (hlv : lv_args 0 As = lv)
    (body : ∀ (p : Program) (e : Env) (s : State) (m : MethodId) (below : List Frame) (meth : Method) (c : Code) (ls : Array Slot), Fx p m c cb maxL s As.toArray y.cls → meth.sig.returnType = ret → meth.locks = false → meth.name = y.name → Wd X w s s.heap → va_S (cxA X) s.heap s.heap [] → lv_has ls maxL lv →
      W p l e rm s m As.toArray below meth c s.heap [] 0 0 (MX X below As.toArray s rm.cells rm.slots v P) (F0 m 0 ls [])) : CM l X y cb maxL ret rm As w v P := by
  refine Met.ofW (cc := cb) (maxL := maxL) (ret := ret) hy rfl ?_
  intro p e s m args below meth c s₁ B hml hv
  obtain ⟨rfl, hW⟩ := hv
  have hts := atoms_spec (ws := Cond.code y cb maxL ret :: BIG) B.pre
  have hl := lv_entry As (n := maxL) hlen
  rw [lg_entry_eq]
  generalize (lg_sl As ++ List.replicate (maxL - (lg_sl As).length) Slot.unset).toArray = ls at hl ⊢
  rw [hlv] at hl
  exact body p e s m below meth c ls ⟨B.exec, B.bytes, hml, findClass_of_methodNamed B.named, fun w h => hts w (List.mem_cons_of_mem _ h)⟩ B.returns B.notSynchronized (name_of_methodNamed B.named B.method).1 hW va_S.rf hl
-- ends
theorem h_ireti {P : Wo → Prop} {x : Int32} (F : Fx p m c cc nL s args own) (hr : meth.sig.returnType = some .int) (hlk : meth.locks = false) (hW : Wd X w s H) (hS : va_S (cxA X) s.heap H locs) (hP : P w) (hd : decode cc pc = .ok (.ireturn, 1)) :
    W p l e R s m args below meth c H locs cells slots (MX X below args s cells slots (some (.int x)) P) (F0 m pc ls [.int x]) :=
  W.iret F.1 F.2.1 hr (fun t ht _ => ⟨⟨w, rfl, hP, by rw [ht]; exact hW.1⟩, hS.F ht⟩) hS.2.2 hd hlk
theorem h_iretz {P : Wo → Prop} {b : Bool} (F : Fx p m c cc nL s args own) (hr : meth.sig.returnType = some .boolean) (hlk : meth.locks = false) (hW : Wd X w s H) (hS : va_S (cxA X) s.heap H locs) (hP : P w) (hd : decode cc pc = .ok (.ireturn, 1)) :
    W p l e R s m args below meth c H locs cells slots (MX X below args s cells slots (some (.int (iI (bz b)))) P) (F0 m pc ls [.int (iI (bz b))]) :=
  W.zret F.1 F.2.1 hr (by cases b <;> rfl) (fun t ht _ => ⟨⟨w, rfl, hP, by rw [ht]; exact hW.1⟩, hS.F ht⟩) hS.2.2 hd hlk
theorem h_vret {P : Wo → Prop} (F : Fx p m c cc nL s args own) (hr : meth.sig.returnType = none) (hlk : meth.locks = false) (hW : Wd X w s H) (hS : va_S (cxA X) s.heap H locs) (hP : P w) (hd : decode cc pc = .ok (.return_, 1)) :
    W p l e R s m args below meth c H locs cells slots (MX X below args s cells slots none P) (F0 m pc ls []) :=
  W.vret F.1 F.2.1 hr (fun t ht _ => ⟨⟨w, rfl, hP, by rw [ht]; exact hW.1⟩, hS.F ht⟩) hS.2.2 hd hlk
theorem h_aret {P : Wo → Prop} {x : Nat} {C : String} (F : Fx p m c cc nL s args own) (hr : meth.sig.returnType = some (.object C)) (hlk : meth.locks = false) (hW : Wd X w s H) (hS : va_S (cxA X) s.heap H locs) (hP : P w) (hd : decode cc pc = .ok (.areturn, 1)) :
    W p l e R s m args below meth c H locs cells slots (MX X below args s cells slots (some (.ref x)) P) (F0 m pc ls [.ref x]) :=
  W.aret F.1 F.2.1 hr (Or.inl ⟨C, rfl⟩) (Or.inr ⟨x, rfl⟩) (fun t ht _ => ⟨⟨w, rfl, hP, by rw [ht]; exact hW.1⟩, hS.F ht⟩) hS.2.2 hd hlk
-- ints
theorem h_iadd {a b : Int} (F : Fx p m c cc nL s args own) (hd : decode cc pc = .ok (.iadd, 1)) (k : W p l e R s m args below meth c H locs cells slots Q (F0 m (pc + 1) ls (.int (iI (a + b)) :: rest))) : W p l e R s m args below meth c H locs cells slots Q (F0 m pc ls (.int (iI b) :: .int (iI a) :: rest)) := lv_iadd F.1 F.2.1 hd (by rw [iI_add]; exact k)
theorem h_isub {a b : Int} (F : Fx p m c cc nL s args own) (hd : decode cc pc = .ok (.isub, 1)) (k : W p l e R s m args below meth c H locs cells slots Q (F0 m (pc + 1) ls (.int (iI (a - b)) :: rest))) : W p l e R s m args below meth c H locs cells slots Q (F0 m pc ls (.int (iI b) :: .int (iI a) :: rest)) := lv_isub F.1 F.2.1 hd (by rw [iI_sub]; exact k)
theorem h_imul {a b : Int} (F : Fx p m c cc nL s args own) (hd : decode cc pc = .ok (.imul, 1)) (k : W p l e R s m args below meth c H locs cells slots Q (F0 m (pc + 1) ls (.int (iI (a * b)) :: rest))) : W p l e R s m args below meth c H locs cells slots Q (F0 m pc ls (.int (iI b) :: .int (iI a) :: rest)) := lv_imul F.1 F.2.1 hd (by rw [iI_mul]; exact k)
theorem h_ineg {a : Int} (F : Fx p m c cc nL s args own) (hd : decode cc pc = .ok (.ineg, 1)) (k : W p l e R s m args below meth c H locs cells slots Q (F0 m (pc + 1) ls (.int (iI (-a)) :: rest))) : W p l e R s m args below meth c H locs cells slots Q (F0 m pc ls (.int (iI a) :: rest)) := lv_ineg F.1 F.2.1 hd (by rw [iI_neg]; exact k)
theorem h_iconst {n : Int} (F : Fx p m c cc nL s args own) (hd : decode cc pc = .ok (.iconst n, 1)) (k : W p l e R s m args below meth c H locs cells slots Q (F0 m (pc + 1) ls (.int (iI n) :: rest))) : W p l e R s m args below meth c H locs cells slots Q (F0 m pc ls rest) := lv_iconst F.1 F.2.1 hd rfl k
theorem h_bipush {n : Int} (F : Fx p m c cc nL s args own) (hd : decode cc pc = .ok (.bipush n, 2)) (hn : (Int8.ofInt n).toInt32 = iI n) (k : W p l e R s m args below meth c H locs cells slots Q (F0 m (pc + 2) ls (.int (iI n) :: rest))) : W p l e R s m args below meth c H locs cells slots Q (F0 m pc ls rest) := lv_bipush F.1 F.2.1 hd hn k
theorem h_sipush {n : Int} (F : Fx p m c cc nL s args own) (hd : decode cc pc = .ok (.sipush n, 3)) (hn : (Int16.ofInt n).toInt32 = iI n) (k : W p l e R s m args below meth c H locs cells slots Q (F0 m (pc + 3) ls (.int (iI n) :: rest))) : W p l e R s m args below meth c H locs cells slots Q (F0 m pc ls rest) := lv_sipush F.1 F.2.1 hd hn k
theorem h_ldc {n : Int} {index : Nat} (F : Fx p m c cc nL s args own) (hc : Cond.constant own index (iI n) ∈ BIG) (hd : decode cc pc = .ok (.ldc index, 2)) (k : W p l e R s m args below meth c H locs cells slots Q (F0 m (pc + 2) ls (.int (iI n) :: rest))) : W p l e R s m args below meth c H locs cells slots Q (F0 m pc ls rest) := lv_ldc F.1 F.2.1 F.2.2.2.1 (F.2.2.2.2 _ hc) hd k
theorem h_ldcw {n : Int} {index : Nat} (F : Fx p m c cc nL s args own) (hc : Cond.constant own index (iI n) ∈ BIG) (hd : decode cc pc = .ok (.ldc_w index, 3)) (k : W p l e R s m args below meth c H locs cells slots Q (F0 m (pc + 3) ls (.int (iI n) :: rest))) : W p l e R s m args below meth c H locs cells slots Q (F0 m pc ls rest) := lv_ldcw F.1 F.2.1 F.2.2.2.1 (F.2.2.2.2 _ hc) hd k
theorem h_top {a b : Int} (h : a = b) (k : W p l e R s m args below meth c H locs cells slots Q (F0 m pc ls (.int (iI b) :: rest))) : W p l e R s m args below meth c H locs cells slots Q (F0 m pc ls (.int (iI a) :: rest)) := by rw [h]; exact k
theorem h_topv {v v2 : Value} (h : v = v2) (k : W p l e R s m args below meth c H locs cells slots Q (F0 m pc ls (v2 :: rest))) : W p l e R s m args below meth c H locs cells slots Q (F0 m pc ls (v :: rest)) := by rw [h]; exact k
theorem h_iinc {i k : Nat} {n a : Int} {lv lv' : List (Nat × Value)} (F : Fx p m c cc nL s args own) (hd : decode cc pc = .ok (.iinc i n, 3)) (h : lv_has ls nL lv) (hk : lv[k]? = some (i, .int (iI a))) (hn : i < nL) (hl : (i, Value.int (iI (a + n))) :: lv.filter (fun q => !(q.1 == i) && !(q.1 + 1 == i && q.2.category == 2)) = lv')
    (kk : ∀ ls' : Array Slot, lv_has ls' nL lv' → W p l e R s m args below meth c H locs cells slots Q (F0 m (pc + 3) ls' rest)) : W p l e R s m args below meth c H locs cells slots Q (F0 m pc ls rest) := lv_iinc F.1 F.2.1 hd h hk (by show iI a + iI n = _; rw [iI_add]) hn hl kk
-- branches
theorem h_ifeq {a : Int} {off : Int} {tgt : Nat} (F : Fx p m c cc nL s args own) (hd : decode cc pc = .ok (.ifCond .eq off, 3)) (ht : (pc : Int) + off = (tgt : Int)) (ha : -2147483648 ≤ a ∧ a < 2147483648) (kt : a = 0 → W p l e R s m args below meth c H locs cells slots Q (F0 m tgt ls rest)) (kf : a ≠ 0 → W p l e R s m args below meth c H locs cells slots Q (F0 m (pc + 3) ls rest)) : W p l e R s m args below meth c H locs cells slots Q (F0 m pc ls (.int (iI a) :: rest)) :=
  lv_if_eq F.1 F.2.1 hd ht (fun h => kt ((iI_eq ha (by omega)).mp (by rw [h]; rfl))) (fun h => kf (fun z => h (by rw [z]; rfl)))
theorem h_ifne {a : Int} {off : Int} {tgt : Nat} (F : Fx p m c cc nL s args own) (hd : decode cc pc = .ok (.ifCond .ne off, 3)) (ht : (pc : Int) + off = (tgt : Int)) (ha : -2147483648 ≤ a ∧ a < 2147483648) (kt : a ≠ 0 → W p l e R s m args below meth c H locs cells slots Q (F0 m tgt ls rest)) (kf : a = 0 → W p l e R s m args below meth c H locs cells slots Q (F0 m (pc + 3) ls rest)) : W p l e R s m args below meth c H locs cells slots Q (F0 m pc ls (.int (iI a) :: rest)) :=
  lv_if_ne F.1 F.2.1 hd ht (fun h => kt (fun z => h (by rw [z]; rfl))) (fun h => kf ((iI_eq ha (by omega)).mp (by rw [h]; rfl)))
theorem h_ifeqb {b : Bool} {off : Int} {tgt : Nat} (F : Fx p m c cc nL s args own) (hd : decode cc pc = .ok (.ifCond .eq off, 3)) (ht : (pc : Int) + off = (tgt : Int)) (kt : b = false → W p l e R s m args below meth c H locs cells slots Q (F0 m tgt ls rest)) (kf : b = true → W p l e R s m args below meth c H locs cells slots Q (F0 m (pc + 3) ls rest)) : W p l e R s m args below meth c H locs cells slots Q (F0 m pc ls (.int (iI (bz b)) :: rest)) :=
  h_ifeq F hd ht (by have := bz_r b; omega) (fun h => kt (bz_0 h)) (fun h => kf (bz_1 h))
theorem h_ifneb {b : Bool} {off : Int} {tgt : Nat} (F : Fx p m c cc nL s args own) (hd : decode cc pc = .ok (.ifCond .ne off, 3)) (ht : (pc : Int) + off = (tgt : Int)) (kt : b = true → W p l e R s m args below meth c H locs cells slots Q (F0 m tgt ls rest)) (kf : b = false → W p l e R s m args below meth c H locs cells slots Q (F0 m (pc + 3) ls rest)) : W p l e R s m args below meth c H locs cells slots Q (F0 m pc ls (.int (iI (bz b)) :: rest)) :=
  h_ifne F hd ht (by have := bz_r b; omega) (fun h => kt (bz_1 h)) (fun h => kf (bz_0 h))
theorem h_iflt {a : Int} {off : Int} {tgt : Nat} (F : Fx p m c cc nL s args own) (hd : decode cc pc = .ok (.ifCond .lt off, 3)) (ht : (pc : Int) + off = (tgt : Int)) (ha : -2147483648 ≤ a ∧ a < 2147483648) (kt : a < 0 → W p l e R s m args below meth c H locs cells slots Q (F0 m tgt ls rest)) (kf : 0 ≤ a → W p l e R s m args below meth c H locs cells slots Q (F0 m (pc + 3) ls rest)) : W p l e R s m args below meth c H locs cells slots Q (F0 m pc ls (.int (iI a) :: rest)) :=
  lv_if_lt F.1 F.2.1 hd ht (fun h => kt ((iI_lt ha (b := 0) (by omega)).mp h)) (fun h => kf (Int.not_lt.mp fun z => h ((iI_lt ha (b := 0) (by omega)).mpr z)))
theorem h_ifge {a : Int} {off : Int} {tgt : Nat} (F : Fx p m c cc nL s args own) (hd : decode cc pc = .ok (.ifCond .ge off, 3)) (ht : (pc : Int) + off = (tgt : Int)) (ha : -2147483648 ≤ a ∧ a < 2147483648) (kt : 0 ≤ a → W p l e R s m args below meth c H locs cells slots Q (F0 m tgt ls rest)) (kf : a < 0 → W p l e R s m args below meth c H locs cells slots Q (F0 m (pc + 3) ls rest)) : W p l e R s m args below meth c H locs cells slots Q (F0 m pc ls (.int (iI a) :: rest)) :=
  lv_if_ge F.1 F.2.1 hd ht (fun h => kt ((iI_le (a := 0) (by omega) ha).mp h)) (fun h => kf (Int.not_le.mp fun z => h ((iI_le (a := 0) (by omega) ha).mpr z)))
theorem h_ifgt {a : Int} {off : Int} {tgt : Nat} (F : Fx p m c cc nL s args own) (hd : decode cc pc = .ok (.ifCond .gt off, 3)) (ht : (pc : Int) + off = (tgt : Int)) (ha : -2147483648 ≤ a ∧ a < 2147483648) (kt : 0 < a → W p l e R s m args below meth c H locs cells slots Q (F0 m tgt ls rest)) (kf : a ≤ 0 → W p l e R s m args below meth c H locs cells slots Q (F0 m (pc + 3) ls rest)) : W p l e R s m args below meth c H locs cells slots Q (F0 m pc ls (.int (iI a) :: rest)) :=
  lv_if_gt F.1 F.2.1 hd ht (fun h => kt ((iI_lt (a := 0) (by omega) ha).mp h)) (fun h => kf (Int.not_lt.mp fun z => h ((iI_lt (a := 0) (by omega) ha).mpr z)))
theorem h_ifle {a : Int} {off : Int} {tgt : Nat} (F : Fx p m c cc nL s args own) (hd : decode cc pc = .ok (.ifCond .le off, 3)) (ht : (pc : Int) + off = (tgt : Int)) (ha : -2147483648 ≤ a ∧ a < 2147483648) (kt : a ≤ 0 → W p l e R s m args below meth c H locs cells slots Q (F0 m tgt ls rest)) (kf : 0 < a → W p l e R s m args below meth c H locs cells slots Q (F0 m (pc + 3) ls rest)) : W p l e R s m args below meth c H locs cells slots Q (F0 m pc ls (.int (iI a) :: rest)) :=
  lv_if_le F.1 F.2.1 hd ht (fun h => kt ((iI_le ha (b := 0) (by omega)).mp h)) (fun h => kf (Int.not_le.mp fun z => h ((iI_le ha (b := 0) (by omega)).mpr z)))
theorem h_icge {a b : Int} {off : Int} {tgt : Nat} (F : Fx p m c cc nL s args own) (hd : decode cc pc = .ok (.if_icmp .ge off, 3)) (ht : (pc : Int) + off = (tgt : Int)) (ha : (-2147483648 ≤ a ∧ a < 2147483648) ∧ -2147483648 ≤ b ∧ b < 2147483648) (kt : b ≤ a → W p l e R s m args below meth c H locs cells slots Q (F0 m tgt ls rest)) (kf : a < b → W p l e R s m args below meth c H locs cells slots Q (F0 m (pc + 3) ls rest)) : W p l e R s m args below meth c H locs cells slots Q (F0 m pc ls (.int (iI b) :: .int (iI a) :: rest)) :=
  lv_icmp_ge F.1 F.2.1 hd ht (fun h => kt ((iI_le ha.2 ha.1).mp h)) (fun h => kf (Int.not_le.mp fun z => h ((iI_le ha.2 ha.1).mpr z)))
theorem h_iclt {a b : Int} {off : Int} {tgt : Nat} (F : Fx p m c cc nL s args own) (hd : decode cc pc = .ok (.if_icmp .lt off, 3)) (ht : (pc : Int) + off = (tgt : Int)) (ha : (-2147483648 ≤ a ∧ a < 2147483648) ∧ -2147483648 ≤ b ∧ b < 2147483648) (kt : a < b → W p l e R s m args below meth c H locs cells slots Q (F0 m tgt ls rest)) (kf : b ≤ a → W p l e R s m args below meth c H locs cells slots Q (F0 m (pc + 3) ls rest)) : W p l e R s m args below meth c H locs cells slots Q (F0 m pc ls (.int (iI b) :: .int (iI a) :: rest)) :=
  lv_icmp_lt F.1 F.2.1 hd ht (fun h => kt ((iI_lt ha.1 ha.2).mp h)) (fun h => kf (Int.not_lt.mp fun z => h ((iI_lt ha.1 ha.2).mpr z)))
theorem h_icgt {a b : Int} {off : Int} {tgt : Nat} (F : Fx p m c cc nL s args own) (hd : decode cc pc = .ok (.if_icmp .gt off, 3)) (ht : (pc : Int) + off = (tgt : Int)) (ha : (-2147483648 ≤ a ∧ a < 2147483648) ∧ -2147483648 ≤ b ∧ b < 2147483648) (kt : b < a → W p l e R s m args below meth c H locs cells slots Q (F0 m tgt ls rest)) (kf : a ≤ b → W p l e R s m args below meth c H locs cells slots Q (F0 m (pc + 3) ls rest)) : W p l e R s m args below meth c H locs cells slots Q (F0 m pc ls (.int (iI b) :: .int (iI a) :: rest)) :=
  lv_icmp_gt F.1 F.2.1 hd ht (fun h => kt ((iI_lt ha.2 ha.1).mp h)) (fun h => kf (Int.not_lt.mp fun z => h ((iI_lt ha.2 ha.1).mpr z)))
theorem h_icle {a b : Int} {off : Int} {tgt : Nat} (F : Fx p m c cc nL s args own) (hd : decode cc pc = .ok (.if_icmp .le off, 3)) (ht : (pc : Int) + off = (tgt : Int)) (ha : (-2147483648 ≤ a ∧ a < 2147483648) ∧ -2147483648 ≤ b ∧ b < 2147483648) (kt : a ≤ b → W p l e R s m args below meth c H locs cells slots Q (F0 m tgt ls rest)) (kf : b < a → W p l e R s m args below meth c H locs cells slots Q (F0 m (pc + 3) ls rest)) : W p l e R s m args below meth c H locs cells slots Q (F0 m pc ls (.int (iI b) :: .int (iI a) :: rest)) :=
  lv_icmp_le F.1 F.2.1 hd ht (fun h => kt ((iI_le ha.1 ha.2).mp h)) (fun h => kf (Int.not_le.mp fun z => h ((iI_le ha.1 ha.2).mpr z)))
theorem h_iceq {a b : Int} {off : Int} {tgt : Nat} (F : Fx p m c cc nL s args own) (hd : decode cc pc = .ok (.if_icmp .eq off, 3)) (ht : (pc : Int) + off = (tgt : Int)) (ha : (-2147483648 ≤ a ∧ a < 2147483648) ∧ -2147483648 ≤ b ∧ b < 2147483648) (kt : a = b → W p l e R s m args below meth c H locs cells slots Q (F0 m tgt ls rest)) (kf : a ≠ b → W p l e R s m args below meth c H locs cells slots Q (F0 m (pc + 3) ls rest)) : W p l e R s m args below meth c H locs cells slots Q (F0 m pc ls (.int (iI b) :: .int (iI a) :: rest)) :=
  lv_icmp_eq F.1 F.2.1 hd ht (fun h => kt ((iI_eq ha.1 ha.2).mp h)) (fun h => kf (fun z => h (by rw [z])))
theorem h_icne {a b : Int} {off : Int} {tgt : Nat} (F : Fx p m c cc nL s args own) (hd : decode cc pc = .ok (.if_icmp .ne off, 3)) (ht : (pc : Int) + off = (tgt : Int)) (ha : (-2147483648 ≤ a ∧ a < 2147483648) ∧ -2147483648 ≤ b ∧ b < 2147483648) (kt : a ≠ b → W p l e R s m args below meth c H locs cells slots Q (F0 m tgt ls rest)) (kf : a = b → W p l e R s m args below meth c H locs cells slots Q (F0 m (pc + 3) ls rest)) : W p l e R s m args below meth c H locs cells slots Q (F0 m pc ls (.int (iI b) :: .int (iI a) :: rest)) :=
  lv_icmp_ne F.1 F.2.1 hd ht (fun h => kt (fun z => h (by rw [z]))) (fun h => kf ((iI_eq ha.1 ha.2).mp h))
theorem h_goto {off : Int} {tgt : Nat} (F : Fx p m c cc nL s args own) (hd : decode cc pc = .ok (.goto off, 3)) (ht : (pc : Int) + off = (tgt : Int)) (k : W p l e R s m args below meth c H locs cells slots Q (F0 m tgt ls rest)) : W p l e R s m args below meth c H locs cells slots Q (F0 m pc ls rest) := lv_goto F.1 F.2.1 hd ht k
-- longs
theorem h_i2l {a : Int} (F : Fx p m c cc nL s args own) (hd : decode cc pc = .ok (.i2l, 1)) (ha : -2147483648 ≤ a ∧ a < 2147483648) (k : W p l e R s m args below meth c H locs cells slots Q (F0 m (pc + 1) ls (.long (lI a) :: rest))) : W p l e R s m args below meth c H locs cells slots Q (F0 m pc ls (.int (iI a) :: rest)) := lv_i2l F.1 F.2.1 hd (lI_i ha) k
theorem h_lcmp {a b : Int} (F : Fx p m c cc nL s args own) (hd : decode cc pc = .ok (.lcmp, 1)) (ha : -9223372036854775808 ≤ a ∧ a < 9223372036854775808) (hb : -9223372036854775808 ≤ b ∧ b < 9223372036854775808) (k : W p l e R s m args below meth c H locs cells slots Q (F0 m (pc + 1) ls (.int (iI (if a < b then -1 else if a = b then 0 else 1)) :: rest))) : W p l e R s m args below meth c H locs cells slots Q (F0 m pc ls (.long (lI b) :: .long (lI a) :: rest)) := W.lcmp F.1 F.2.1 hd (by rw [lI_cmp ha hb]; exact k)
theorem h_lclt {a b : Int} {off : Int} {tgt : Nat} (F : Fx p m c cc nL s args own) (hd0 : decode cc pc = .ok (.lcmp, 1)) {pc2 : Nat} (hp2 : pc + 1 = pc2) (hd : decode cc pc2 = .ok (.ifCond .lt off, 3)) (ha : (-9223372036854775808 ≤ a ∧ a < 9223372036854775808) ∧ -9223372036854775808 ≤ b ∧ b < 9223372036854775808) (ht : (pc2 : Int) + off = (tgt : Int)) (kt : a < b → W p l e R s m args below meth c H locs cells slots Q (F0 m tgt ls rest)) (kf : b ≤ a → W p l e R s m args below meth c H locs cells slots Q (F0 m (pc2 + 3) ls rest)) : W p l e R s m args below meth c H locs cells slots Q (F0 m pc ls (.long (lI b) :: .long (lI a) :: rest)) := by
  refine h_lcmp F hd0 ha.1 ha.2 ?_
  subst hp2
  refine h_iflt F hd ht (by split <;> (try split) <;> omega) (fun h => kt ?_) (fun h => kf ?_)
  · revert h; split <;> (try split) <;> omega
  · revert h; split <;> (try split) <;> omega
theorem h_lcge {a b : Int} {off : Int} {tgt : Nat} (F : Fx p m c cc nL s args own) (hd0 : decode cc pc = .ok (.lcmp, 1)) {pc2 : Nat} (hp2 : pc + 1 = pc2) (hd : decode cc pc2 = .ok (.ifCond .ge off, 3)) (ha : (-9223372036854775808 ≤ a ∧ a < 9223372036854775808) ∧ -9223372036854775808 ≤ b ∧ b < 9223372036854775808) (ht : (pc2 : Int) + off = (tgt : Int)) (kt : b ≤ a → W p l e R s m args below meth c H locs cells slots Q (F0 m tgt ls rest)) (kf : a < b → W p l e R s m args below meth c H locs cells slots Q (F0 m (pc2 + 3) ls rest)) : W p l e R s m args below meth c H locs cells slots Q (F0 m pc ls (.long (lI b) :: .long (lI a) :: rest)) := by
  refine h_lcmp F hd0 ha.1 ha.2 ?_
  subst hp2
  refine h_ifge F hd ht (by split <;> (try split) <;> omega) (fun h => kt ?_) (fun h => kf ?_)
  · revert h; split <;> (try split) <;> omega
  · revert h; split <;> (try split) <;> omega
theorem h_lcgt {a b : Int} {off : Int} {tgt : Nat} (F : Fx p m c cc nL s args own) (hd0 : decode cc pc = .ok (.lcmp, 1)) {pc2 : Nat} (hp2 : pc + 1 = pc2) (hd : decode cc pc2 = .ok (.ifCond .gt off, 3)) (ha : (-9223372036854775808 ≤ a ∧ a < 9223372036854775808) ∧ -9223372036854775808 ≤ b ∧ b < 9223372036854775808) (ht : (pc2 : Int) + off = (tgt : Int)) (kt : b < a → W p l e R s m args below meth c H locs cells slots Q (F0 m tgt ls rest)) (kf : a ≤ b → W p l e R s m args below meth c H locs cells slots Q (F0 m (pc2 + 3) ls rest)) : W p l e R s m args below meth c H locs cells slots Q (F0 m pc ls (.long (lI b) :: .long (lI a) :: rest)) := by
  refine h_lcmp F hd0 ha.1 ha.2 ?_
  subst hp2
  refine h_ifgt F hd ht (by split <;> (try split) <;> omega) (fun h => kt ?_) (fun h => kf ?_)
  · revert h; split <;> (try split) <;> omega
  · revert h; split <;> (try split) <;> omega
theorem h_lcle {a b : Int} {off : Int} {tgt : Nat} (F : Fx p m c cc nL s args own) (hd0 : decode cc pc = .ok (.lcmp, 1)) {pc2 : Nat} (hp2 : pc + 1 = pc2) (hd : decode cc pc2 = .ok (.ifCond .le off, 3)) (ha : (-9223372036854775808 ≤ a ∧ a < 9223372036854775808) ∧ -9223372036854775808 ≤ b ∧ b < 9223372036854775808) (ht : (pc2 : Int) + off = (tgt : Int)) (kt : a ≤ b → W p l e R s m args below meth c H locs cells slots Q (F0 m tgt ls rest)) (kf : b < a → W p l e R s m args below meth c H locs cells slots Q (F0 m (pc2 + 3) ls rest)) : W p l e R s m args below meth c H locs cells slots Q (F0 m pc ls (.long (lI b) :: .long (lI a) :: rest)) := by
  refine h_lcmp F hd0 ha.1 ha.2 ?_
  subst hp2
  refine h_ifle F hd ht (by split <;> (try split) <;> omega) (fun h => kt ?_) (fun h => kf ?_)
  · revert h; split <;> (try split) <;> omega
  · revert h; split <;> (try split) <;> omega
theorem h_lceq {a b : Int} {off : Int} {tgt : Nat} (F : Fx p m c cc nL s args own) (hd0 : decode cc pc = .ok (.lcmp, 1)) {pc2 : Nat} (hp2 : pc + 1 = pc2) (hd : decode cc pc2 = .ok (.ifCond .eq off, 3)) (ha : (-9223372036854775808 ≤ a ∧ a < 9223372036854775808) ∧ -9223372036854775808 ≤ b ∧ b < 9223372036854775808) (ht : (pc2 : Int) + off = (tgt : Int)) (kt : a = b → W p l e R s m args below meth c H locs cells slots Q (F0 m tgt ls rest)) (kf : a ≠ b → W p l e R s m args below meth c H locs cells slots Q (F0 m (pc2 + 3) ls rest)) : W p l e R s m args below meth c H locs cells slots Q (F0 m pc ls (.long (lI b) :: .long (lI a) :: rest)) := by
  refine h_lcmp F hd0 ha.1 ha.2 ?_
  subst hp2
  refine h_ifeq F hd ht (by split <;> (try split) <;> omega) (fun h => kt ?_) (fun h => kf ?_)
  · revert h; split <;> (try split) <;> omega
  · revert h; split <;> (try split) <;> omega
theorem h_lcne {a b : Int} {off : Int} {tgt : Nat} (F : Fx p m c cc nL s args own) (hd0 : decode cc pc = .ok (.lcmp, 1)) {pc2 : Nat} (hp2 : pc + 1 = pc2) (hd : decode cc pc2 = .ok (.ifCond .ne off, 3)) (ha : (-9223372036854775808 ≤ a ∧ a < 9223372036854775808) ∧ -9223372036854775808 ≤ b ∧ b < 9223372036854775808) (ht : (pc2 : Int) + off = (tgt : Int)) (kt : a ≠ b → W p l e R s m args below meth c H locs cells slots Q (F0 m tgt ls rest)) (kf : a = b → W p l e R s m args below meth c H locs cells slots Q (F0 m (pc2 + 3) ls rest)) : W p l e R s m args below meth c H locs cells slots Q (F0 m pc ls (.long (lI b) :: .long (lI a) :: rest)) := by
  refine h_lcmp F hd0 ha.1 ha.2 ?_
  subst hp2
  refine h_ifne F hd ht (by split <;> (try split) <;> omega) (fun h => kt ?_) (fun h => kf ?_)
  · revert h; split <;> (try split) <;> omega
  · revert h; split <;> (try split) <;> omega
-- fields
theorem h_get {C : String} {T : u_T} {N ci k index a : Nat} {fs : List Value} {v : Value} (F : Fx p m c cc nL s args own) (hW : Wd X w s H) (hin : ∀ w ∈ u_ws C T N, w ∈ BIG) (hc : vwCl[ci]? = some (C, T, N)) (hk : k < N) (hC : (T k).1 = C) (hl : Cond.fieldLink own index C (T k).2.1 (T k).2.2.1 ∈ BIG) (ha : w a = some (.inr (ci, fs))) (hv : fs[k]? = some v) (hd : decode cc pc = .ok (.getfield index, 3))
    (kk : W p l e R s m args below meth c H locs cells slots Q (F0 m (pc + 3) ls (v :: rest))) : W p l e R s m args below meth c H locs cells slots Q (F0 m pc ls (.ref a :: rest)) :=
  va_get (D := X.1) (cl := vwCl) (ws := [(a, .inr (ci, fs))]) (ref := C) F.1 F.2.1 F.2.2.2.2 hin F.2.2.2.1 hW.2.1.1 (fun k q hq => by
    have hz : k < 1 := (List.getElem?_eq_some_iff.mp hq).1
    rw [show k = 0 by omega] at hq
    cases hq
    exact (hW.1.1 a _ ha).1) 0 rfl hc k hk (F.2.2.2.2 _ hl) (fun x h => by rw [hC] at h; exact h) hv hd kk
theorem h_put {C : String} {T : u_T} {N ci k index a : Nat} {fs : List Value} {v : Value} {ty : FieldType} (F : Fx p m c cc nL s args own) (hW : Wd X w s H) (hS : va_S (cxA X) H0 H locs) (hin : ∀ w ∈ u_ws C T N, w ∈ BIG) (ty0 : Nat → FieldType) (hty : ∀ k, k < N → parseFieldDescriptor (T k).2.2.1 = some (ty0 k)) (hnm : ∀ a, a < N → ∀ b, b < N → a ≠ b → (T a).2.1 ≠ (T b).2.1) (hc : vwCl[ci]? = some (C, T, N)) (hk : k < N) (hC : (T k).1 = C) (hl : Cond.fieldLink own index C (T k).2.1 (T k).2.2.1 ∈ BIG) (hfin : (T k).2.2.2 = false) (hd9 : parseFieldDescriptor (T k).2.2.1 = some ty)
    (ha : w a = some (.inr (ci, fs))) (hn : narrow ty v = v) (hfit : fits ty v = true) (hlen : k < fs.length) (hd : decode cc pc = .ok (.putfield index, 3))
    (kk : ∀ (w1 : Wo) (H1 : Heap) (locs1 : List Loc), w1 a = some (.inr (ci, fs.set k v)) → (∀ q, q ≠ a → w1 q = w q) → Wd X w1 s H1 → va_S (cxA X) H0 H1 locs1 → W p l e R s m args below meth c H1 locs1 cells slots Q (F0 m (pc + 3) ls rest)) : W p l e R s m args below meth c H locs cells slots Q (F0 m pc ls (v :: .ref a :: rest)) := by
  have hap := va_apart (own := own) F.2.2.2.2 hin ty0 hty hnm hW.2.1.1 hc
  obtain ⟨r, h1, cell, q1, q2, q3, q4⟩ := (hW.1.1 a _ ha).1
  have hr : r = (C, T, N) := Option.some.inj (h1.symm.trans hc)
  subst hr
  obtain ⟨hS2, hfc, kC, hkC, hkind⟩ := hW.2.1.1.1 ci _ hc
  obtain ⟨cf, kf, fi, f, hi, hsl⟩ := hS2 k hk
  have hlay := F.2.2.2.2 _ (hin _ (u_in_lay hk))
  unfold u_lay at hlay
  rw [if_neg (by rw [hfin]; decide)] at hlay
  have hst := (u_facts hfc hkC (u_lays F.2.2.2.2 hin hk) hi).1
  have h6 := u_store hfc hkC hkind hlay hi hd9 hn hfit
  refine W.putK F.1 F.2.1 (f := f) ⟨F.2.2.2.1, F.2.2.2.2 _ hl, ⟨_, _, _, by have hi2 := hi; rw [hC] at hi2; exact hi2⟩, hst⟩ (by rw [q2]; exact h6) q1 q3 (by rw [hsl]; exact k2_hasslot (q4 k hk)) rfl rfl hd fun H' e1 e2 e3 => ?_
  rw [hsl] at e1 ⊢
  have he : va_at X.1 vwCl (a, .inr (ci, fs.set k v)) H' := ⟨_, hc, t_OB.to (V := updV (vp_V fs) k v) ⟨_, e1, q2, q3, t_set q4 hap hk v⟩ (fun j _ => vp_updV_set hlen v j)⟩
  obtain ⟨w1, g1, g2, g3⟩ := hW.put ha he e2 e3
  exact kk w1 H' _ g1 g2 g3 (hS.put e2 e3 (hW.1.1 a _ ha).2)
theorem h_putF {C : String} {T : u_T} {N ci k index a : Nat} {fs : List Value} {v : Value} {ty : FieldType} (F : Fx p m c cc nL s args own) (hW : Wd X w s H) (hS : va_S (cxA X) H0 H locs) (hin : ∀ w ∈ u_ws C T N, w ∈ BIG) (ty0 : Nat → FieldType) (hty : ∀ k, k < N → parseFieldDescriptor (T k).2.2.1 = some (ty0 k)) (hnm : ∀ a, a < N → ∀ b, b < N → a ≠ b → (T a).2.1 ≠ (T b).2.1) (hc : vwCl[ci]? = some (C, T, N)) (hk : k < N) (hC : (T k).1 = C) (hl : Cond.fieldLink own index C (T k).2.1 (T k).2.2.1 ∈ BIG) (hfin : (T k).2.2.2 = true) (hdecl : C = own) (hin2 : meth.name = "<init>") (hd9 : parseFieldDescriptor (T k).2.2.1 = some ty)
    (ha : w a = some (.inr (ci, fs))) (hn : narrow ty v = v) (hfit : fits ty v = true) (hlen : k < fs.length) (hd : decode cc pc = .ok (.putfield index, 3))
    (kk : ∀ (w1 : Wo) (H1 : Heap) (locs1 : List Loc), w1 a = some (.inr (ci, fs.set k v)) → (∀ q, q ≠ a → w1 q = w q) → Wd X w1 s H1 → va_S (cxA X) H0 H1 locs1 → W p l e R s m args below meth c H1 locs1 cells slots Q (F0 m (pc + 3) ls rest)) : W p l e R s m args below meth c H locs cells slots Q (F0 m pc ls (v :: .ref a :: rest)) := by
  have hap := va_apart (own := own) F.2.2.2.2 hin ty0 hty hnm hW.2.1.1 hc
  obtain ⟨r, h1, cell, q1, q2, q3, q4⟩ := (hW.1.1 a _ ha).1
  have hr : r = (C, T, N) := Option.some.inj (h1.symm.trans hc)
  subst hr
  obtain ⟨hS2, hfc, kC, hkC, hkind⟩ := hW.2.1.1.1 ci _ hc
  obtain ⟨cf, kf, fi, f, hi, hsl⟩ := hS2 k hk
  have hlay := F.2.2.2.2 _ (hin _ (u_in_lay hk))
  unfold u_lay at hlay
  rw [if_pos hfin] at hlay
  have hst := (u_facts hfc hkC (u_lays F.2.2.2.2 hin hk) hi).1
  have hcf : m.cls = cf := by
    obtain ⟨_, _, c', _, _, _, -, -, hf', -, -, -, hown2, -⟩ := Cond.laysFinal_spec hlay
    have e1 : c' = cf := by have := hi.symm.trans hf'; simp at this; exact this.1.symm
    rw [hC, hdecl] at hown2
    rw [← e1]; exact Option.some.inj (F.2.2.2.1.symm.trans hown2)
  have h6 := u_fits hfc hkC hkind (Or.inr hlay) hi hd9 hn hfit
  refine W.putFinK F.1 F.2.1 F.2.2.2.1 (F.2.2.2.2 _ hl) (by have hi2 := hi; rw [hC] at hi2; exact hi2) hst hcf hin2 (by rw [q2]; exact h6) q1 q3 (by rw [hsl]; exact k2_hasslot (q4 k hk)) rfl rfl hd fun H' e1 e2 e3 => ?_
  rw [hsl] at e1 ⊢
  have he : va_at X.1 vwCl (a, .inr (ci, fs.set k v)) H' := ⟨_, hc, t_OB.to (V := updV (vp_V fs) k v) ⟨_, e1, q2, q3, t_set q4 hap hk v⟩ (fun j _ => vp_updV_set hlen v j)⟩
  obtain ⟨w1, g1, g2, g3⟩ := hW.put ha he e2 e3
  exact kk w1 H' _ g1 g2 g3 (hS.put e2 e3 (hW.1.1 a _ ha).2)
-- arrays
theorem h_one {a : Nat} {e0 : va_E} (hW : Wd X w s H) (ha : w a = some e0) : va_P X.1 vwCl [(a, e0)] H := fun k q hq => by
  have hz : k < 1 := (List.getElem?_eq_some_iff.mp hq).1
  rw [show k = 0 by omega] at hq
  cases hq
  exact (hW.1.1 a _ ha).1
theorem h_iald {a n : Nat} {f : Int → Int} {i : Int} (F : Fx p m c cc nL s args own) (hW : Wd X w s H) (ha : w a = some (aZ X n f)) (hi : 0 ≤ i ∧ i < (n : Int)) (hn : (n : Int) < 2147483648) (hd : decode cc pc = .ok (.iaload, 1))
    (kk : W p l e R s m args below meth c H locs cells slots Q (F0 m (pc + 1) ls (.int (iI (f i)) :: rest))) : W p l e R s m args below meth c H locs cells slots Q (F0 m pc ls (.int (iI i) :: .ref a :: rest)) := by
  refine va_iald F.1 F.2.1 hW.2.1.1 (h_one hW ha) 0 0 rfl rfl (iI_in hi hn) hd ?_
  rw [iI_clamp (by omega), show (i.toNat : Int) = i by omega]
  exact kk
theorem h_lald {a n : Nat} {g : Nat → Int64} {i : Int} (F : Fx p m c cc nL s args own) (hW : Wd X w s H) (ha : w a = some (aJ X n g)) (hi : 0 ≤ i ∧ i < (n : Int)) (hn : (n : Int) < 2147483648) (hd : decode cc pc = .ok (.laload, 1))
    (kk : W p l e R s m args below meth c H locs cells slots Q (F0 m (pc + 1) ls (.long (g i.toNat) :: rest))) : W p l e R s m args below meth c H locs cells slots Q (F0 m pc ls (.int (iI i) :: .ref a :: rest)) := by
  refine va_lald F.1 F.2.1 hW.2.1.1 (h_one hW ha) 0 1 rfl rfl (iI_in hi hn) hd ?_
  rw [iI_clamp (by omega)]
  exact kk
theorem h_alen {a n k : Nat} {x : (Nat → Int32) ⊕ (Nat → Int64) ⊕ (Nat → UInt32) ⊕ (Nat → UInt64) ⊕ (Nat → Option Nat)} {ty : FieldType} (F : Fx p m c cc nL s args own) (hW : Wd X w s H) (ht : (cxT X)[k]? = some (X.2.1 k, ty)) (ha : w a = some (.inl (X.2.1 k, n, x))) (hd : decode cc pc = .ok (.arraylength, 1))
    (kk : W p l e R s m args below meth c H locs cells slots Q (F0 m (pc + 1) ls (.int (iI (n : Int)) :: rest))) : W p l e R s m args below meth c H locs cells slots Q (F0 m pc ls (.ref a :: rest)) :=
  va_alen (x := (n, x)) F.1 F.2.1 hW.2.1.1 (h_one hW ha) 0 k rfl ht (iI_nI n) hd kk
theorem h_iast {a n : Nat} {f : Int → Int} {i x : Int} (F : Fx p m c cc nL s args own) (hW : Wd X w s H) (hS : va_S (cxA X) H0 H locs) (ha : w a = some (aZ X n f)) (hi : 0 ≤ i ∧ i < (n : Int)) (hn : (n : Int) < 2147483648) (hd : decode cc pc = .ok (.iastore, 1))
    (kk : ∀ (w1 : Wo) (H1 : Heap) (locs1 : List Loc), w1 a = some (aZ X n (up f i x)) → (∀ q, q ≠ a → w1 q = w q) → Wd X w1 s H1 → va_S (cxA X) H0 H1 locs1 → W p l e R s m args below meth c H1 locs1 cells slots Q (F0 m (pc + 1) ls rest)) : W p l e R s m args below meth c H locs cells slots Q (F0 m pc ls (.int (iI x) :: .int (iI i) :: .ref a :: rest)) := by
  refine W.iast F.1 F.2.1 (hW.1.1 a _ ha).1 ((hW.2.1.1.2 0 _ rfl).1 n (fun j => .int (iI (f (j : Int))))) (fun q => by cases q) (by show ¬ (iI i < 0 ∨ (arrV _ _ _).slots.size ≤ _); rw [arrV_size]; exact iI_in hi hn) rfl rfl hd fun H1 e1 z oq => ?_
  have he : va_at X.1 vwCl (a, aZ X n (up f i x)) H1 := by
    show H1[a]? = some (vp_cell _ _)
    rw [e1]
    show some ((vp_cell _ _).setSlot _ _) = _
    rw [vp_cell_i, vp_cell_i, arrV_store]
    congr 2
    funext q
    rw [iI_clamp (by omega)]
    by_cases hq : q = i.toNat
    · subst hq
      rw [show (i.toNat : Int) = i by omega]
      simp [updV, up]
    · have h2 : (q : Int) ≠ i := by omega
      simp [updV, up, hq, h2]
  obtain ⟨w1, g1, g2, g3⟩ := hW.put ha he z oq
  exact kk w1 H1 _ g1 g2 g3 (hS.put z oq (hW.1.1 a _ ha).2)
theorem h_last {a n : Nat} {g : Nat → Int64} {i : Int} {x : Int64} (F : Fx p m c cc nL s args own) (hW : Wd X w s H) (hS : va_S (cxA X) H0 H locs) (ha : w a = some (aJ X n g)) (hi : 0 ≤ i ∧ i < (n : Int)) (hn : (n : Int) < 2147483648) (hd : decode cc pc = .ok (.lastore, 1))
    (kk : ∀ (w1 : Wo) (H1 : Heap) (locs1 : List Loc), w1 a = some (aJ X n (vp_updL g i.toNat x)) → (∀ q, q ≠ a → w1 q = w q) → Wd X w1 s H1 → va_S (cxA X) H0 H1 locs1 → W p l e R s m args below meth c H1 locs1 cells slots Q (F0 m (pc + 1) ls rest)) : W p l e R s m args below meth c H locs cells slots Q (F0 m pc ls (.long x :: .int (iI i) :: .ref a :: rest)) := by
  refine W.last F.1 F.2.1 (hW.1.1 a _ ha).1 ((hW.2.1.1.2 1 _ rfl).1 n (fun j => .long (g j))) (fun q => by cases q) (by show ¬ (iI i < 0 ∨ (arrV _ _ _).slots.size ≤ _); rw [arrV_size]; exact iI_in hi hn) rfl rfl hd fun H1 e1 z oq => ?_
  have he : va_at X.1 vwCl (a, aJ X n (vp_updL g i.toNat x)) H1 := by
    show H1[a]? = some (vp_cell _ _)
    rw [e1]
    show some ((vp_cell _ _).setSlot _ _) = _
    rw [vp_cell_l, vp_cell_l, arrV_store]
    congr 2
    funext q
    rw [iI_clamp (by omega)]
    by_cases hq : q = i.toNat
    · subst hq
      simp [updV, vp_updL]
    · simp [updV, vp_updL, hq]
  obtain ⟨w1, g1, g2, g3⟩ := hW.put ha he z oq
  exact kk w1 H1 _ g1 g2 g3 (hS.put z oq (hW.1.1 a _ ha).2)
theorem h_aald {a n k : Nat} {C : String} {f : Nat → Option Nat} {i : Int} {x : Nat} (F : Fx p m c cc nL s args own) (hW : Wd X w s H) (ht : (cxT X)[k]? = some (X.2.1 k, .object C)) (ha : w a = some (aR X k n f)) (hi : 0 ≤ i ∧ i < (n : Int)) (hn : (n : Int) < 2147483648) (hx : f i.toNat = some x) (hd : decode cc pc = .ok (.aaload, 1))
    (kk : W p l e R s m args below meth c H locs cells slots Q (F0 m (pc + 1) ls (.ref x :: rest))) : W p l e R s m args below meth c H locs cells slots Q (F0 m pc ls (.int (iI i) :: .ref a :: rest)) := by
  refine va_aldq F.1 F.2.1 hW.2.1.1 (h_one hW ha) 0 k rfl ht (iI_in hi hn) hd ?_
  rw [iI_clamp (by omega), hx]
  exact kk
-- statics
theorem h_gl8 {index : Nat} (F : Fx p m c cc nL s args RX8) (hZ0 : cxZ X s s.heap) (hS : va_S (cxA X) s.heap H locs) (hl : Cond.fieldLink RX8 index RX8 "GLYPHS" "[I" ∈ BIG) (hd : decode cc pc = .ok (.getstatic index, 3))
    (kk : W p l e R s m args below meth c H locs cells slots Q (F0 m (pc + 3) ls (.ref (X.2.2 1) :: rest))) : W p l e R s m args below meth c H locs cells slots Q (F0 m pc ls rest) :=
  va_gets F.1 F.2.1 hZ0.1.1 hS F.2.2.2.1 (F.2.2.2.2 _ hl) (fun _ h => h) hd kk
theorem h_gl9 {index : Nat} (F : Fx p m c cc nL s args RL) (hZ0 : cxZ X s s.heap) (hS : va_S (cxA X) s.heap H locs) (hl : Cond.fieldLink RL index RL "GLYPHS" "[I" ∈ BIG) (hd : decode cc pc = .ok (.getstatic index, 3))
    (kk : W p l e R s m args below meth c H locs cells slots Q (F0 m (pc + 3) ls (.ref (X.2.2 2) :: rest))) : W p l e R s m args below meth c H locs cells slots Q (F0 m pc ls rest) :=
  va_gets F.1 F.2.1 hZ0.2.1.1 hS F.2.2.2.1 (F.2.2.2.2 _ hl) (fun _ h => h) hd kk
theorem h_gl1 {index : Nat} (F : Fx p m c cc nL s args RX1) (hW : Wd X w s H) (hZ0 : cxZ X s s.heap) (hS : va_S (cxA X) s.heap H locs) (hi : index = 57) (hd : decode cc pc = .ok (.getstatic index, 3))
    (kk : W p l e R s m args below meth c H locs cells slots Q (F0 m (pc + 3) ls (.ref (X.2.2 1) :: rest))) : W p l e R s m args below meth c H locs cells slots Q (F0 m pc ls rest) :=
  va_getsN F.1 F.2.1 hZ0.1.1 hS F.2.2.2.1 (va_Nw.use rfl (by rw [hi]; exact hW.2.1.2.2.2.1)) (fun _ h => h) hd kk
theorem h_gli8 {i : Int} (F : Fx p m c cc nL s args own) (hZ0 : cxZ X s s.heap) (hS : va_S (cxA X) s.heap H locs) (hi : 0 ≤ i ∧ i < 26) (hd : decode cc pc = .ok (.iaload, 1))
    (kk : W p l e R s m args below meth c H locs cells slots Q (F0 m (pc + 1) ls (.int (iI (gl i)) :: rest))) : W p l e R s m args below meth c H locs cells slots Q (F0 m pc ls (.int (iI i) :: .ref (X.2.2 1) :: rest)) :=
  va_ti F.1 F.2.1 hZ0.1.2 hS (iI_in (n := 26) (by omega) (by omega)) (by rw [iI_clamp (by omega), show (i.toNat : Int) = i by omega]) hd kk
theorem h_gli9 {i : Int} (F : Fx p m c cc nL s args own) (hZ0 : cxZ X s s.heap) (hS : va_S (cxA X) s.heap H locs) (hi : 0 ≤ i ∧ i < 26) (hd : decode cc pc = .ok (.iaload, 1))
    (kk : W p l e R s m args below meth c H locs cells slots Q (F0 m (pc + 1) ls (.int (iI (gl i)) :: rest))) : W p l e R s m args below meth c H locs cells slots Q (F0 m pc ls (.int (iI i) :: .ref (X.2.2 2) :: rest)) :=
  va_ti F.1 F.2.1 hZ0.2.1.2 hS (iI_in (n := 26) (by omega) (by omega)) (by rw [iI_clamp (by omega), show (i.toNat : Int) = i by omega]) hd kk
-- calls
theorem h_callV {C : String} {y : MethodName} {cb : ByteArray} {maxL index n ci N a : Nat} {T : u_T} {fs : List Value} {ret : Option FieldType} {rm : Room} {As st : List Value} {v : Option Value} {P : Wo → Prop} (F : Fx p m c cc nL s args own) (hl : lv_has ls nL lv0) (hM : CM l X y cb maxL ret rm (.ref a :: As) w v P) (hW : Wd X w s H) (hS : va_S (cxA X) H0 H locs)
    (hG : GoodIn BIG (wsV own index C y (Cond.code y cb maxL ret :: BIG))) (hy : y.cls = C ∧ y.cls ≠ "java/lang/invoke/MethodHandle" ∧ y.cls ≠ "java/lang/invoke/VarHandle" ∧ (parseMethodDescriptor y.desc).map (fun d => d.parameters.length) = some n) (hc : vwCl[ci]? = some (C, T, N))
    (ha : w a = some (.inr (ci, fs))) (hst : st = As.reverse ++ .ref a :: rest) (hn : As.length = n) (hR : rm.frames + 1 ≤ R.frames ∧ 8 + (maxL + 11) + rm.locals ≤ R.locals) (hcat : (rest.map fun v => v.category).sum ≤ 8) (hf : cells + rm.cells ≤ R.cells ∧ slots + rm.slots ≤ R.slots) (hd : decode cc pc = .ok (.invokevirtual index, 3))
    (kk : ∀ (w1 : Wo) (H1 : Heap) (locs1 : List Loc), P w1 → Wd X w1 s H1 → va_S (cxA X) H0 H1 locs1 → W p l e R s m args below meth c H1 locs1 (cells + rm.cells) (slots + rm.slots) Q (F0 m (pc + 3) ls (v.toList ++ rest))) : W p l e R s m args below meth c H locs cells slots Q (F0 m pc ls st) := by
  have hr := va_runV (p := p) (l := l) (e := e) (R := R) (s := s) (m := m) (args := args) (below := below) (meth := meth) (c := c) (H := H) (locs := locs) (cells := cells) (slots := slots) (g := F0 m pc ls st) (As := As) (rest := rest) F hM (cwV n F.2.2.2.2 hG rfl rfl rfl hy hR)
    ⟨fun a U g mk q => ⟨q.1, Wd.call q.2⟩, va_recv hW.2.1.1 (h_one hW ha) hc (q0 := 0) rfl, fun U hU hWm => ⟨rfl, by show Wd X w U U.heap; rw [hU]; exact hW.warm hWm⟩⟩ rfl hn hl.1 hst (by show 2 * 0 + _ ≤ 8; rw [Nat.mul_zero, Nat.zero_add]; exact hcat) hd hf
  intro T9 hT X9
  obtain ⟨v9, st₀, t, T', L, h0, X', hL, e1, e2, ⟨⟨w1, hv, hp, hb⟩, hz, hk⟩, st9⟩ := hr T9 hT X9
  cases hv
  rw [h0] at hz hk
  have hk1 : ∀ q : Nat, q < H.size → ¬ cxA X q → T'.heap[q]? = H[q]? := fun q h1 h2 => by rw [e1]; exact hk q h1 h2
  obtain ⟨t2, a1, b1⟩ := kk w1 T'.heap (locs ++ L) hp ⟨by rw [e1]; exact hb, hW.2.1, hW.2.2.kept hk1⟩ ⟨Nat.le_trans hS.1 (by rw [e1]; exact hz), fun q h1 h2 => by rw [hk1 q (Nat.lt_of_lt_of_le h1 hS.1) h2]; exact hS.2.1 q h1 h2, fun q hq => by
      rcases List.mem_append.mp hq with h | h
      · exact hS.2.2 q h
      · exact hL q h⟩ T' rfl X'
  exact ⟨t2, st9 t2 a1, b1⟩
theorem h_callS {y : MethodName} {cb : ByteArray} {maxL index n : Nat} {ret : Option FieldType} {rm : Room} {As st : List Value} {v : Option Value} {P : Wo → Prop} (F : Fx p m c cc nL s args own) (hl : lv_has ls nL lv0) (hM : CM l X y cb maxL ret rm As w v P) (hW : Wd X w s H) (hS : va_S (cxA X) H0 H locs)
    (hG : GoodIn BIG (va_wsS own index y (Cond.code y cb maxL ret :: BIG))) (hy : y.cls ≠ "java/lang/invoke/MethodHandle" ∧ y.cls ≠ "java/lang/invoke/VarHandle" ∧ (parseMethodDescriptor y.desc).map (fun d => d.parameters.length) = some n)
    (hst : st = As.reverse ++ rest) (hn : As.length = n) (hR : rm.frames + 1 ≤ R.frames ∧ 8 + (maxL + 11) + rm.locals ≤ R.locals) (hcat : (rest.map fun v => v.category).sum ≤ 8) (hf : cells + rm.cells ≤ R.cells ∧ slots + rm.slots ≤ R.slots) (hd : decode cc pc = .ok (.invokestatic index, 3))
    (kk : ∀ (w1 : Wo) (H1 : Heap) (locs1 : List Loc), P w1 → Wd X w1 s H1 → va_S (cxA X) H0 H1 locs1 → W p l e R s m args below meth c H1 locs1 (cells + rm.cells) (slots + rm.slots) Q (F0 m (pc + 3) ls (v.toList ++ rest))) : W p l e R s m args below meth c H locs cells slots Q (F0 m pc ls st) := by
  have hr := va_runS (p := p) (l := l) (e := e) (R := R) (s := s) (m := m) (args := args) (below := below) (meth := meth) (c := c) (H := H) (locs := locs) (cells := cells) (slots := slots) (g := F0 m pc ls st) (As := As) (rest := rest) F hM (va_cwS n F.2.2.2.2 hG rfl rfl rfl hy hR)
    ⟨fun a U g mk q => ⟨q.1, Wd.call q.2⟩, fun U hU hWm => ⟨rfl, by show Wd X w U U.heap; rw [hU]; exact hW.warm hWm⟩⟩ rfl hn hl.1 hst (by show 2 * 0 + _ ≤ 8; rw [Nat.mul_zero, Nat.zero_add]; exact hcat) hd hf
  intro T9 hT X9
  obtain ⟨v9, st₀, t, T', L, h0, X', hL, e1, e2, ⟨⟨w1, hv, hp, hb⟩, hz, hk⟩, st9⟩ := hr T9 hT X9
  cases hv
  rw [h0] at hz hk
  have hk1 : ∀ q : Nat, q < H.size → ¬ cxA X q → T'.heap[q]? = H[q]? := fun q h1 h2 => by rw [e1]; exact hk q h1 h2
  obtain ⟨t2, a1, b1⟩ := kk w1 T'.heap (locs ++ L) hp ⟨by rw [e1]; exact hb, hW.2.1, hW.2.2.kept hk1⟩ ⟨Nat.le_trans hS.1 (by rw [e1]; exact hz), fun q h1 h2 => by rw [hk1 q (Nat.lt_of_lt_of_le h1 hS.1) h2]; exact hS.2.1 q h1 h2, fun q hq => by
      rcases List.mem_append.mp hq with h | h
      · exact hS.2.2 q h
      · exact hL q h⟩ T' rfl X'
  exact ⟨t2, st9 t2 a1, b1⟩
theorem h_callSN {y : MethodName} {cb : ByteArray} {maxL index n : Nat} {ret : Option FieldType} {rm : Room} {As st : List Value} {v : Option Value} {P : Wo → Prop} (F : Fx p m c cc nL s args own) (hl : lv_has ls nL lv0) (hM : CM l X y cb maxL ret rm As w v P) (hW : Wd X w s H) (hS : va_S (cxA X) H0 H locs)
    {host : String} (hG : Cond.code y cb maxL ret ∈ BIG ∧ Cond.initialized y.cls ∈ BIG ∧ Cond.static y ∈ BIG) (hN : (own, index, y, host) ∈ nestL) (hy : y.cls ≠ "java/lang/invoke/MethodHandle" ∧ y.cls ≠ "java/lang/invoke/VarHandle" ∧ (parseMethodDescriptor y.desc).map (fun d => d.parameters.length) = some n)
    (hst : st = As.reverse ++ rest) (hn : As.length = n) (hR : rm.frames + 1 ≤ R.frames ∧ 8 + (maxL + 11) + rm.locals ≤ R.locals) (hcat : (rest.map fun v => v.category).sum ≤ 8) (hf : cells + rm.cells ≤ R.cells ∧ slots + rm.slots ≤ R.slots) (hd : decode cc pc = .ok (.invokestatic index, 3))
    (kk : ∀ (w1 : Wo) (H1 : Heap) (locs1 : List Loc), P w1 → Wd X w1 s H1 → va_S (cxA X) H0 H1 locs1 → W p l e R s m args below meth c H1 locs1 (cells + rm.cells) (slots + rm.slots) Q (F0 m (pc + 3) ls (v.toList ++ rest))) : W p l e R s m args below meth c H locs cells slots Q (F0 m pc ls st) := by
  have hr := va_runSN (p := p) (l := l) (e := e) (R := R) (s := s) (m := m) (args := args) (below := below) (meth := meth) (c := c) (H := H) (locs := locs) (cells := cells) (slots := slots) (g := F0 m pc ls st) (As := As) (rest := rest) F hM ⟨va_cnB n F.2.2.2.2 (big_in hG.1) rfl rfl rfl (hW.2.1.2.2.1 _ hN) (F.2.2.2.2 _ hG.2.1) hy hR, F.2.2.2.2 _ hG.2.2, trivial⟩
    ⟨fun a U g mk q => ⟨q.1, Wd.call q.2⟩, fun U hU hWm => ⟨rfl, by show Wd X w U U.heap; rw [hU]; exact hW.warm hWm⟩⟩ rfl hn hl.1 hst (by show 2 * 0 + _ ≤ 8; rw [Nat.mul_zero, Nat.zero_add]; exact hcat) hd hf
  intro T9 hT X9
  obtain ⟨v9, st₀, t, T', L, h0, X', hL, e1, e2, ⟨⟨w1, hv, hp, hb⟩, hz, hk⟩, st9⟩ := hr T9 hT X9
  cases hv
  rw [h0] at hz hk
  have hk1 : ∀ q : Nat, q < H.size → ¬ cxA X q → T'.heap[q]? = H[q]? := fun q h1 h2 => by rw [e1]; exact hk q h1 h2
  obtain ⟨t2, a1, b1⟩ := kk w1 T'.heap (locs ++ L) hp ⟨by rw [e1]; exact hb, hW.2.1, hW.2.2.kept hk1⟩ ⟨Nat.le_trans hS.1 (by rw [e1]; exact hz), fun q h1 h2 => by rw [hk1 q (Nat.lt_of_lt_of_le h1 hS.1) h2]; exact hS.2.1 q h1 h2, fun q hq => by
      rcases List.mem_append.mp hq with h | h
      · exact hS.2.2 q h
      · exact hL q h⟩ T' rfl X'
  exact ⟨t2, st9 t2 a1, b1⟩
end KX
theorem bzt {b : Bool} (h : b = true) : 1 = bz b := by rw [h]; rfl
theorem bzf {b : Bool} (h : b = false) : 0 = bz b := by rw [h]; rfl
