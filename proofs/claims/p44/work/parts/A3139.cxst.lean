/-! ===== what holds at the start: the classes, the texts, the tables ===== -/
def tmWs (i : Nat) : Term := Term.string (cxW.getD i ("", 0, "", 0)).1 (cxW.getD i ("", 0, "", 0)).2.1
def tmVs (i : Nat) : Term := Term.string (cxV.getD i ("", 0, "", 0)).1 (cxV.getD i ("", 0, "", 0)).2.1
theorem vk_S.cg {N : Nat} {len : List Nat} {byt : List (List Int32)} {k k2 v v2 : Nat → Nat} {A : Nat → Prop} {U : State} {H : Heap} (h : vk_S N len byt k v A U H) (hk : ∀ i, i < N → k2 i = k i) (hv : ∀ i, i < N → v2 i = v i) : vk_S N len byt k2 v2 A U H := ⟨fun i hi => by rw [hk i hi, hv i hi]; exact h.1 i hi, fun i j hi hj e => h.2 i j hi hj (by rw [← hk i hi, ← hk j hj]; exact e)⟩
theorem ne_ref {a b : Nat} (h : a ≠ b) {t u : Term} {args : Array Value} {s : State} (h1 : t.eval args s none [] s = some (.ref a)) (h2 : u.eval args s none [] s = some (.ref b)) : (Cond.not (Cond.eq t u)).before args s = true := by
  simp [Cond.before, Cond.holds, Cond.value, h1, h2, h]
theorem tab_len {t u : Term} {args : Array Value} {s : State} {x y : Int32} (h : t.eval args s none [] s = u.eval args s none [] s) (h1 : (Cond.eq (.length (.field t "java/lang/String" "value" "[B")) (.int x)).before args s = true) (h2 : (Cond.eq (.length (.field u "java/lang/String" "value" "[B")) (.int y)).before args s = true) : x = y := by
  have e1 := va_eqt h1
  have e2 := va_eqt h2
  simp only [Term.eval] at e1 e2
  rw [h] at e1
  have e3 := e1.symm.trans e2
  cases e3
  rfl
theorem tab_el {t u : Term} {args : Array Value} {s : State} {x y j : Int32} (h : t.eval args s none [] s = u.eval args s none [] s) (h1 : (Cond.eq (.elem (.field t "java/lang/String" "value" "[B") (.int j)) (.int x)).before args s = true) (h2 : (Cond.eq (.elem (.field u "java/lang/String" "value" "[B") (.int j)) (.int y)).before args s = true) : x = y := by
  have e1 := va_eqt h1
  have e2 := va_eqt h2
  simp only [Term.eval] at e1 e2
  rw [h] at e1
  have e3 := e1.symm.trans e2
  cases e3
  rfl
abbrev flG : List Cond := flatC (Cond.and given_1 narrow_1)
theorem in_blk {l m : List Cond} {k n : Nat} (h : (l.drop k).take n = m) {c : Cond} (hc : c ∈ m) : c ∈ l := List.mem_of_mem_drop (List.mem_of_mem_take (h ▸ hc))
/-- what is given of a string, and of an array: one row of the given behind another -/
def blkS (t : Term) (n : Nat) (bs : List Int32) : List Cond := Cond.exactly t "java/lang/String" :: Cond.eq (.field t "java/lang/String" "coder" "B") (.int 0) :: Cond.arrayOf (.field t "java/lang/String" "value" "[B") .byte :: Cond.eq (.length (.field t "java/lang/String" "value" "[B")) (.int (Int32.ofNat n)) :: (List.range n).map (fun j => Cond.eq (.elem (.field t "java/lang/String" "value" "[B") (.int (Int32.ofNat j))) (.int (bs.getD j 0)))
def blkA (t : Term) (ty : FieldType) (n : Nat) (f : Nat → Int32) : List Cond := Cond.arrayOf t ty :: Cond.eq (.length t) (.int (Int32.ofNat n)) :: (List.range n).map (fun j => Cond.eq (.elem t (.int (Int32.ofNat j))) (.int (f j)))
theorem blkA.all {t : Term} {ty : FieldType} {n k : Nat} {f : Nat → Int32} {l : List Cond} (h : (l.drop k).take (2 + n) = blkA t ty n f) : Cond.arrayOf t ty ∈ l ∧ Cond.eq (.length t) (.int (Int32.ofNat n)) ∈ l ∧ ∀ j, j < n → Cond.eq (.elem t (.int (Int32.ofNat j))) (.int (f j)) ∈ l :=
  ⟨in_blk h (.head _), in_blk h (.tail _ (.head _)), fun j hj => in_blk h (.tail _ (.tail _ (List.mem_map.mpr ⟨j, List.mem_range.mpr hj, rfl⟩)))⟩
def fw_s : List Nat := [480, 488, 499, 507, 513, 519, 528, 682, 690, 698, 735, 707, 717, 725]
theorem fw_b : ∀ i, i < 14 → (flG.drop (fw_s.getD i 0)).take (4 + wdN.getD i 0) = blkS (tmWs i) (wdN.getD i 0) (wdB.getD i []) := by decide +kernel
theorem fw_ex : ∀ i, i < 14 → Cond.exactly (tmWs i) "java/lang/String" ∈ flG := fun i hi => in_blk (fw_b i hi) (.head _)
theorem fw_co : ∀ i, i < 14 → Cond.eq (.field (tmWs i) "java/lang/String" "coder" "B") (.int 0) ∈ flG := fun i hi => in_blk (fw_b i hi) (.tail _ (.head _))
theorem fw_ar : ∀ i, i < 14 → Cond.arrayOf (.field (tmWs i) "java/lang/String" "value" "[B") .byte ∈ flG := fun i hi => in_blk (fw_b i hi) (.tail _ (.tail _ (.head _)))
theorem fw_le : ∀ i, i < 14 → Cond.eq (.length (.field (tmWs i) "java/lang/String" "value" "[B")) (.int (Int32.ofNat (wdN.getD i 0))) ∈ flG := fun i hi => in_blk (fw_b i hi) (.tail _ (.tail _ (.tail _ (.head _))))
theorem fw_el : ∀ i, i < 14 → ∀ j, j < wdN.getD i 0 → Cond.eq (.elem (.field (tmWs i) "java/lang/String" "value" "[B") (.int (Int32.ofNat j))) (.int ((wdB.getD i []).getD j 0)) ∈ flG := fun i hi j hj => in_blk (fw_b i hi) (.tail _ (.tail _ (.tail _ (.tail _ (List.mem_map.mpr ⟨j, List.mem_range.mpr hj, rfl⟩)))))
theorem fw_ne : ∀ i, i < 14 → ∀ j, j < 14 → i ≠ j → Int32.ofNat (wdN.getD i 0) ≠ Int32.ofNat (wdN.getD j 0) ∨ ∃ k, k < wdN.getD i 0 ∧ k < wdN.getD j 0 ∧ (wdB.getD i []).getD k 0 ≠ (wdB.getD j []).getD k 0 := by decide +kernel
def fv_s : List Nat := [316, 339, 351, 360, 364, 372, 380, 390, 885, 663, 672, 677, 768, 778, 325]
theorem fv_b : ∀ i, i < 15 → (flG.drop (fv_s.getD i 0)).take (4 + lwN.getD i 0) = blkS (tmVs i) (lwN.getD i 0) (lwB.getD i []) := by decide +kernel
theorem fv_ex : ∀ i, i < 15 → Cond.exactly (tmVs i) "java/lang/String" ∈ flG := fun i hi => in_blk (fv_b i hi) (.head _)
theorem fv_co : ∀ i, i < 15 → Cond.eq (.field (tmVs i) "java/lang/String" "coder" "B") (.int 0) ∈ flG := fun i hi => in_blk (fv_b i hi) (.tail _ (.head _))
theorem fv_ar : ∀ i, i < 15 → Cond.arrayOf (.field (tmVs i) "java/lang/String" "value" "[B") .byte ∈ flG := fun i hi => in_blk (fv_b i hi) (.tail _ (.tail _ (.head _)))
theorem fv_le : ∀ i, i < 15 → Cond.eq (.length (.field (tmVs i) "java/lang/String" "value" "[B")) (.int (Int32.ofNat (lwN.getD i 0))) ∈ flG := fun i hi => in_blk (fv_b i hi) (.tail _ (.tail _ (.tail _ (.head _))))
theorem fv_el : ∀ i, i < 15 → ∀ j, j < lwN.getD i 0 → Cond.eq (.elem (.field (tmVs i) "java/lang/String" "value" "[B") (.int (Int32.ofNat j))) (.int ((lwB.getD i []).getD j 0)) ∈ flG := fun i hi j hj => in_blk (fv_b i hi) (.tail _ (.tail _ (.tail _ (.tail _ (List.mem_map.mpr ⟨j, List.mem_range.mpr hj, rfl⟩)))))
theorem fv_ne : ∀ i, i < 15 → ∀ j, j < 15 → i ≠ j → Int32.ofNat (lwN.getD i 0) ≠ Int32.ofNat (lwN.getD j 0) ∨ ∃ k, k < lwN.getD i 0 ∧ k < lwN.getD j 0 ∧ (lwB.getD i []).getD k 0 ≠ (lwB.getD j []).getD k 0 := by decide +kernel
theorem fg_8_b : (flG.drop 222).take (2 + 26) = blkA (.static RX8 "GLYPHS" "[I") .int 26 (fun j : Nat => iI (gl (j : Int))) := by decide +kernel
theorem fg_8 : Cond.arrayOf (.static RX8 "GLYPHS" "[I") .int ∈ flG ∧ Cond.eq (.length (.static RX8 "GLYPHS" "[I")) (.int (Int32.ofNat 26)) ∈ flG ∧ ∀ j, j < 26 → Cond.eq (.elem (.static RX8 "GLYPHS" "[I") (.int (Int32.ofNat j))) (.int (iI (gl (j : Int)))) ∈ flG := blkA.all fg_8_b
theorem fg_L_b : (flG.drop 251).take (2 + 26) = blkA (.static RL "GLYPHS" "[I") .int 26 (fun j : Nat => iI (gl (j : Int))) := by decide +kernel
theorem fg_L : Cond.arrayOf (.static RL "GLYPHS" "[I") .int ∈ flG ∧ Cond.eq (.length (.static RL "GLYPHS" "[I")) (.int (Int32.ofNat 26)) ∈ flG ∧ ∀ j, j < 26 → Cond.eq (.elem (.static RL "GLYPHS" "[I") (.int (Int32.ofNat j))) (.int (iI (gl (j : Int)))) ∈ flG := blkA.all fg_L_b
theorem fg_T_b : (flG.drop 117).take (2 + 100) = blkA (.static RJ6 "DigitTens" "[B") .byte 100 (fun j : Nat => iI (48 + (j : Int) / 10)) := by decide +kernel
theorem fg_T : Cond.arrayOf (.static RJ6 "DigitTens" "[B") .byte ∈ flG ∧ Cond.eq (.length (.static RJ6 "DigitTens" "[B")) (.int (Int32.ofNat 100)) ∈ flG ∧ ∀ j, j < 100 → Cond.eq (.elem (.static RJ6 "DigitTens" "[B") (.int (Int32.ofNat j))) (.int (iI (48 + (j : Int) / 10))) ∈ flG := blkA.all fg_T_b
theorem fg_O_b : (flG.drop 14).take (2 + 100) = blkA (.static RJ6 "DigitOnes" "[B") .byte 100 (fun j : Nat => iI (48 + (j : Int) % 10)) := by decide +kernel
theorem fg_O : Cond.arrayOf (.static RJ6 "DigitOnes" "[B") .byte ∈ flG ∧ Cond.eq (.length (.static RJ6 "DigitOnes" "[B")) (.int (Int32.ofNat 100)) ∈ flG ∧ ∀ j, j < 100 → Cond.eq (.elem (.static RJ6 "DigitOnes" "[B") (.int (Int32.ofNat j))) (.int (iI (48 + (j : Int) % 10))) ∈ flG := blkA.all fg_O_b
theorem fg_E : Cond.arrayOf (.static RJx4a65c "DEFAULTCAPACITY_EMPTY_ELEMENTDATA" "[Ljava/lang/Object;") (.object "java/lang/Object") ∈ flG ∧ Cond.eq (.length (.static RJx4a65c "DEFAULTCAPACITY_EMPTY_ELEMENTDATA" "[Ljava/lang/Object;")) (.int (Int32.ofNat 0)) ∈ flG := by decide +kernel
theorem fg_c : Cond.eq (.static "java/lang/String" "COMPACT_STRINGS" "Z") (.int 1) ∈ flG ∧ Cond.isRef (.static "jdk/internal/util/Preconditions" "SIOOBE_FORMATTER" "Ljava/util/function/BiFunction;") ∈ flG ∧ Cond.isRef (.mirror "[Ljava/lang/Object;") ∈ flG := by decide +kernel
theorem ft_W : ∀ j, j < 14 → Cond.stringRef (cxW.getD j ("", 0, "", 0)).1 (cxW.getD j ("", 0, "", 0)).2.1 (cxW.getD j ("", 0, "", 0)).2.2.1 ∈ lw_tbl := by decide +kernel
theorem ft_Wi : ∀ j, j < 14 → (cxW.getD j ("", 0, "", 0)).2.2.2 = j := by decide +kernel
theorem ft_V : ∀ j, j < 15 → Cond.stringRef (cxV.getD j ("", 0, "", 0)).1 (cxV.getD j ("", 0, "", 0)).2.1 (cxV.getD j ("", 0, "", 0)).2.2.1 ∈ lw_tbl := by decide +kernel
theorem ft_Vi : ∀ j, j < 15 → (cxV.getD j ("", 0, "", 0)).2.2.2 = j := by decide +kernel
theorem ft_N : ∀ q ∈ nestL, Cond.methodLinkNest q.1 q.2.1 q.2.2.1 q.2.2.2 ∈ lw_tbl := by decide +kernel
theorem ft_F : Cond.fieldLinkNest RX1 57 RX8 "GLYPHS" "[I" RX8 ∈ lw_tbl := by decide +kernel
theorem ft_fN : ∀ q ∈ fnestL, Cond.fieldLinkNest q.1 q.2.1 q.2.2.1 q.2.2.2.1 q.2.2.2.2.1 q.2.2.2.2.2 ∈ lw_tbl := by decide +kernel
theorem ft_O : Cond.arrayOver (.object RX1) ∈ lw_tbl ∧ Cond.arrayOver (.object RX5) ∈ lw_tbl ∧ Cond.arrayOver (.object "java/lang/Object") ∈ lw_tbl := by decide +kernel
theorem ft_C : Cond.castable "[I" "java/lang/Cloneable" ∈ lw_tbl ∧ ∀ q ∈ castL, Cond.castable q.1 q.2 ∈ lw_tbl := by decide +kernel
theorem ft_f1 : ∀ q ∈ faceL, Cond.declares q.2.1 ∈ lw_tbl := by decide +kernel
theorem ft_f2 : ∀ q ∈ faceL, Cond.interfaceMethod q.2.1.cls q.2.1.cls q.2.1.name q.2.1.desc ∈ lw_tbl := by decide +kernel
theorem ft_f3 : ∀ q ∈ faceL, Cond.publicMethod q.2.2 ∈ lw_tbl := by decide +kernel
theorem ft_f4 : ∀ q ∈ faceL, Cond.unhidden q.1 q.2.1.name q.2.1.desc ∈ lw_tbl := by decide +kernel
theorem ft_f5 : ∀ q ∈ faceL, Cond.castable q.1 q.2.1.cls ∈ lw_tbl := by decide +kernel
theorem ft_D : Cond.declares ⟨"java/lang/Object", "getClass", "()Ljava/lang/Class;"⟩ ∈ lw_tbl := by decide +kernel
theorem ft_P : ∀ q ∈ privL, Cond.privateMethod q ∈ lw_tbl ∧ Cond.instanceMethod q ∈ lw_tbl := by decide +kernel
theorem ft_Pc : ∀ q ∈ privL, q.cls = RJ5 ∧ q.cls ≠ "java/lang/invoke/MethodHandle" ∧ q.cls ≠ "java/lang/invoke/VarHandle" := by decide +kernel
theorem ft_Z : (Cond.laysStatic RX8 "GLYPHS" "[I" ∈ lw_tbl ∧ Cond.initialized RX8 ∈ lw_tbl) ∧ (Cond.laysStatic RL "GLYPHS" "[I" ∈ lw_tbl ∧ Cond.initialized RL ∈ lw_tbl) := by decide +kernel
theorem ft_Z2 : (Cond.laysStatic "java/lang/String" "COMPACT_STRINGS" "Z" ∈ lw_tbl ∧ Cond.initialized "java/lang/String" ∈ lw_tbl) ∧ (Cond.laysStatic "jdk/internal/util/Preconditions" "SIOOBE_FORMATTER" "Ljava/util/function/BiFunction;" ∈ lw_tbl ∧ Cond.initialized "jdk/internal/util/Preconditions" ∈ lw_tbl) := by decide +kernel
theorem ft_Z3 : (Cond.laysStatic RJx4a65c "DEFAULTCAPACITY_EMPTY_ELEMENTDATA" "[Ljava/lang/Object;" ∈ lw_tbl ∧ Cond.initialized RJx4a65c ∈ lw_tbl) ∧ (Cond.laysStatic RJ6 "DigitTens" "[B" ∈ lw_tbl ∧ Cond.initialized RJ6 ∈ lw_tbl) ∧ Cond.laysStatic RJ6 "DigitOnes" "[B" ∈ lw_tbl := by decide +kernel
