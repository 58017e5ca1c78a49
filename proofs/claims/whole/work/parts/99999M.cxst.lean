/-! ===== what holds at the start: the classes, the texts, the tables ===== -/
def tmW (i : Nat) : Term := Term.string (cxW.getD i ("", 0, "", 0)).1 (cxW.getD i ("", 0, "", 0)).2.1
theorem vk_S.cg {N : Nat} {len : List Nat} {byt : List (List Int32)} {k k2 v v2 : Nat → Nat} {A : Nat → Prop} {U : State} {H : Heap} (h : vk_S N len byt k v A U H) (hk : ∀ i, i < N → k2 i = k i) (hv : ∀ i, i < N → v2 i = v i) : vk_S N len byt k2 v2 A U H := ⟨fun i hi => by rw [hk i hi, hv i hi]; exact h.1 i hi, fun i j hi hj e => h.2 i j hi hj (by rw [← hk i hi, ← hk j hj]; exact e)⟩
theorem eq_ref {a : Nat} {t u : Term} {args : Array Value} {s : State} (h1 : t.eval args s none [] s = some (.ref a)) (h2 : (Cond.eq t u).before args s = true) : u.eval args s none [] s = some (.ref a) := by
  simp [Cond.before, Cond.holds, Cond.value, h1] at h2
  split at h2 <;> simp_all
theorem ne_ref {a b : Nat} (h : a ≠ b) {t u : Term} {args : Array Value} {s : State} (h1 : t.eval args s none [] s = some (.ref a)) (h2 : u.eval args s none [] s = some (.ref b)) : (Cond.not (Cond.eq t u)).before args s = true := by
  simp [Cond.before, Cond.holds, Cond.value, h1, h2, h]
theorem tab_len {t u : Term} {args : Array Value} {s : State} {x y : Int32} (h : t.eval args s none [] s = u.eval args s none [] s) (h1 : (Cond.eq (.length (.field t "java/lang/String" "value" "[B")) (.int x)).before args s = true) (h2 : (Cond.eq (.length (.field u "java/lang/String" "value" "[B")) (.int y)).before args s = true) : x = y := by
  have e1 := va_eqt h1
  have e2 := va_eqt h2
  simp only [Term.eval] at e1 e2
  rw [h] at e1
  have e3 := e1.symm.trans e2
  cases e3
  rfl
theorem tab_el {t u : Term} {args : Array Value} {s : State} {x y j : Int32} (h : t.eval args s none [] s = u.eval args s none [] s) (h1 : (Cond.eq (.elem (.field t "java/lang/String" "value" "[B") (.int j)) (.int x)).before args s = true) (h2 : (Cond.eq (.elem (.field u "java/lang/String" "value" "[B") (.int j)) (.int y)).before args s = true) : x = y := by
  have e1 := va_eqt h1
  have e2 := va_eqt h2
  simp only [Term.eval] at e1 e2
  rw [h] at e1
  have e3 := e1.symm.trans e2
  cases e3
  rfl
abbrev flG : List Cond := flatC (Cond.and given_1 narrow_1)
theorem fg_ex : ∀ i, i < 14 → Cond.exactly (tmW i) "java/lang/String" ∈ flG := by decide +kernel
theorem fg_co : ∀ i, i < 14 → Cond.eq (.field (tmW i) "java/lang/String" "coder" "B") (.int 0) ∈ flG := by decide +kernel
theorem fg_ar : ∀ i, i < 14 → Cond.arrayOf (.field (tmW i) "java/lang/String" "value" "[B") .byte ∈ flG := by decide +kernel
theorem fg_le : ∀ i, i < 14 → Cond.eq (.length (.field (tmW i) "java/lang/String" "value" "[B")) (.int (Int32.ofNat (wdN.getD i 0))) ∈ flG := by decide +kernel
theorem fg_el : ∀ i, i < 14 → ∀ j, j < wdN.getD i 0 → Cond.eq (.elem (.field (tmW i) "java/lang/String" "value" "[B") (.int (Int32.ofNat j))) (.int ((wdB.getD i []).getD j 0)) ∈ flG := by decide +kernel
theorem fg_eq : ∀ i, i < 14 → Cond.eq (tmW i) (tmW (14 + i)) ∈ flG := by decide +kernel
theorem fg_ne : ∀ i, i < 14 → ∀ j, j < 14 → i ≠ j → Int32.ofNat (wdN.getD i 0) ≠ Int32.ofNat (wdN.getD j 0) ∨ ∃ k, k < wdN.getD i 0 ∧ k < wdN.getD j 0 ∧ (wdB.getD i []).getD k 0 ≠ (wdB.getD j []).getD k 0 := by decide +kernel
theorem fg_8 : Cond.arrayOf (.static RX8 "GLYPHS" "[I") .int ∈ flG ∧ Cond.eq (.length (.static RX8 "GLYPHS" "[I")) (.int (Int32.ofNat 26)) ∈ flG ∧ ∀ j, j < 26 → Cond.eq (.elem (.static RX8 "GLYPHS" "[I") (.int (Int32.ofNat j))) (.int (iI (gl (j : Int)))) ∈ flG := by decide +kernel
theorem fg_9 : Cond.arrayOf (.static RX9 "GLYPHS" "[I") .int ∈ flG ∧ Cond.eq (.length (.static RX9 "GLYPHS" "[I")) (.int (Int32.ofNat 26)) ∈ flG ∧ ∀ j, j < 26 → Cond.eq (.elem (.static RX9 "GLYPHS" "[I") (.int (Int32.ofNat j))) (.int (iI (gl (j : Int)))) ∈ flG := by decide +kernel
theorem fg_o : Cond.eq (.static "java/lang/String" "COMPACT_STRINGS" "Z") (.int 1) ∈ flG ∧ Cond.isRef (.static "jdk/internal/util/Preconditions" "SIOOBE_FORMATTER" "Ljava/util/function/BiFunction;") ∈ flG ∧ Cond.isRef (.static Bundle.tN "UNASSIGNED_STACK" Bundle.steD) ∈ flG ∧ Cond.isRef (.static Bundle.tN "SUPPRESSED_SENTINEL" Bundle.listD) ∈ flG := by decide +kernel
theorem fg_E : ∀ q ∈ cxE, Cond.exactly (.string RX8 q.1) "java/lang/String" ∈ flG := by decide +kernel
theorem fg_N : ∀ q ∈ cxN, Cond.not (.castable q.1 q.2) ∈ flG := by decide +kernel
theorem ft_W : ∀ j, j < 28 → Cond.stringRef (cxW.getD j ("", 0, "", 0)).1 (cxW.getD j ("", 0, "", 0)).2.1 (cxW.getD j ("", 0, "", 0)).2.2.1 ∈ lw_tbl := by decide +kernel
theorem ft_i : ∀ j, j < 28 → (cxW.getD j ("", 0, "", 0)).2.2.2 = j % 14 := by decide +kernel
theorem ft_N : ∀ q ∈ nestL, Cond.methodLinkNest q.1 q.2.1 q.2.2.1 q.2.2.2 ∈ lw_tbl := by decide +kernel
theorem ft_F : Cond.fieldLinkNest RX1 57 RX8 "GLYPHS" "[I" RX8 ∈ lw_tbl := by decide +kernel
theorem ft_O : Cond.arrayOver (.object RX1) ∈ lw_tbl ∧ Cond.arrayOver (.object RX5) ∈ lw_tbl := by decide +kernel
theorem ft_E : ∀ q ∈ cxE, Cond.stringRef RX8 q.1 q.2 ∈ lw_tbl := by decide +kernel
theorem ft_C : ∀ q ∈ cxC, Cond.castable q q ∈ lw_tbl := by decide +kernel
theorem ft_Z : (Cond.laysStatic RX8 "GLYPHS" "[I" ∈ lw_tbl ∧ Cond.initialized RX8 ∈ lw_tbl) ∧ (Cond.laysStatic RX9 "GLYPHS" "[I" ∈ lw_tbl ∧ Cond.initialized RX9 ∈ lw_tbl) := by decide +kernel
theorem ft_Z2 : (Cond.laysStatic "java/lang/String" "COMPACT_STRINGS" "Z" ∈ lw_tbl ∧ Cond.initialized "java/lang/String" ∈ lw_tbl) ∧ (Cond.laysStatic "jdk/internal/util/Preconditions" "SIOOBE_FORMATTER" "Ljava/util/function/BiFunction;" ∈ lw_tbl ∧ Cond.initialized "jdk/internal/util/Preconditions" ∈ lw_tbl) := by decide +kernel
theorem ft_Z3 : (Cond.laysStatic Bundle.tN "UNASSIGNED_STACK" Bundle.steD ∈ lw_tbl ∧ Cond.initialized Bundle.tN ∈ lw_tbl) ∧ Cond.laysStatic Bundle.tN "SUPPRESSED_SENTINEL" Bundle.listD ∈ lw_tbl := by decide +kernel
