theorem hoM_RX9 : Cond.methodLink RX9 1 Lib.objectInit ∈ BIG := big_at 826 (by decide +kernel) (by decide +kernel)
theorem hoM_RX10 : Cond.methodLink RX10 1 Lib.objectInit ∈ BIG := big_at 401 (by decide +kernel) (by decide +kernel)
theorem hoM_RJ0 : Cond.methodLink RJ0 1 Lib.objectInit ∈ BIG := big_at 776 (by decide +kernel) (by decide +kernel)
theorem hoM_RJ5 : Cond.methodLink RJ5 3 Lib.objectInit ∈ BIG := big_at 551 (by decide +kernel) (by decide +kernel)
theorem hoM_RJx35411 : Cond.methodLink RJx35411 7 Lib.objectInit ∈ BIG := big_at 875 (by decide +kernel) (by decide +kernel)
theorem hoM_RJxa1e45 : Cond.methodLink RJxa1e45 1 Lib.objectInit ∈ BIG := big_at 413 (by decide +kernel) (by decide +kernel)
theorem kt_abs : Cond.static Lib.Math.abs.name ∈ BIG := big_at 914 (by decide +kernel) (by decide +kernel)
theorem kc_abs : Cond.code Lib.Math.abs.name Lib.Math.abs.code 1 (some .int) ∈ BIG := big_at 915 (by decide +kernel) (by decide +kernel)
theorem hxY (N : Nat) : ∀ cA : ClassId, vp_cell cA (N, .inl (fun j : Nat => iI ((fun _ : Int => 0) (j : Int)))) = arrV cA N (fun _ => defaultValue (_root_.Jvm.Op.newarray.typeOf .byte)) := fun _ => rfl
section KB
variable {p : Program} {l : Launch} {e : Env} {R : Room} {s : State} {m : MethodId} {args : Array Value} {below : List Frame} {meth : Method} {c : Code} {H H0 : Heap} {locs : List Loc} {cells slots : Nat} {Q : State → Prop}
  {cc : ByteArray} {nL pc : Nat} {own : String} {ls : Array Slot} {rest : List Value} {X : Cx} {w : Wo} {lv0 : List (Nat × Value)}
theorem Wd.dn {w2 : Wo} (h : Wd X w2 s H) (g : ext w w2) : Wd X w s H := ⟨⟨fun q e k => h.1.1 q e (g q e k), h.1.2⟩, h.2⟩
theorem h_ytld {a n : Nat} {f : Int → Int} {i : Int} (F : Fx p m c cc nL s args own) (hS : va_S (cxA X) s.heap H locs) (hT : va_T .byte a n (fun j => .int (iI (f (j : Int)))) (cxA X) s s.heap) (hi : 0 ≤ i ∧ i < (n : Int)) (hn : (n : Int) < 2147483648) (hd : decode cc pc = .ok (.baload, 1))
    (kk : W p l e R s m args below meth c H locs cells slots Q (F0 m (pc + 1) ls (.int (iI (f i)) :: rest))) : W p l e R s m args below meth c H locs cells slots Q (F0 m pc ls (.int (iI i) :: .ref a :: rest)) :=
  va_tb F.1 F.2.1 hT hS (iI_in hi hn) (by rw [iI_clamp (by omega), show ((i.toNat : Nat) : Int) = i by omega]) hd kk
theorem h_ldcL {index i : Nat} {tx : String} (F : Fx p m c cc nL s args own) (hW : Wd X w s H) (hm : (own, index, tx, i) ∈ cxV) (hd : decode cc pc = .ok (.ldc index, 2)) (k : W p l e R s m args below meth c H locs cells slots Q (F0 m (pc + 2) ls (.ref (X.2.2 (60 + i)) :: rest))) : W p l e R s m args below meth c H locs cells slots Q (F0 m pc ls rest) :=
  va_ldcS F.1 F.2.1 F.2.2.2.1 (hW.2.1.2.2.2.2.2.2.1 _ hm) hd k
theorem h_mabs {a : Int} {index : Nat} (F : Fx p m c cc nL s args own) (hl : lv_has ls nL lv0) (hw : Cond.methodLink own index Lib.Math.abs.name ∈ BIG) (hf : 1 ≤ R.frames) (hlo : (rest.map fun v => v.category).sum + 13 ≤ R.locals) (hc : cells ≤ R.cells) (hs : slots ≤ R.slots) (hr : -2147483648 < a ∧ a < 2147483648) (hd : decode cc pc = .ok (.invokestatic index, 3))
    (kk : W p l e R s m args below meth c H locs cells slots Q (F0 m (pc + 3) ls (.int (iI (a.natAbs : Int)) :: rest))) : W p l e R s m args below meth c H locs cells slots Q (F0 m pc ls (.int (iI a) :: rest)) :=
  va_mabs F.1 F.2.1 (F.2.2.1.trans hl.1.symm) F.2.2.2.1 (F.2.2.2.2 _ hw) (F.2.2.2.2 _ kt_abs) (F.2.2.2.2 _ kn_Math) (F.2.2.2.2 _ kc_abs) hf hlo hc hs hd (by
    rw [show (if 0 ≤ iI a then iI a else 0 - iI a) = iI (a.natAbs : Int) by
      rw [iI_0]
      by_cases h : 0 ≤ a
      · rw [if_pos ((iI_le (a := 0) (b := a) (by omega) (by omega)).mpr h), show (a.natAbs : Int) = a by omega]
      · rw [if_neg (fun z => h ((iI_le (a := 0) (b := a) (by omega) (by omega)).mp z)), iI_sub, show (a.natAbs : Int) = 0 - a by omega]]
    exact kk)
end KB
/-! strings -/
def lw (i : Nat) (j : Int) : Int := (lwL.getD i []).getD j.toNat 0
theorem lw_b (i j : Nat) : (lwB.getD i []).getD j 0 = iI (lw i (j : Int)) := by
  have h1 : lwB.getD i [] = (lwL.getD i []).map iI := by
    unfold lwB
    rw [List.getD_eq_getElem?_getD, List.getD_eq_getElem?_getD, List.getElem?_map]
    cases lwL[i]? <;> rfl
  rw [h1]
  show _ = iI ((lwL.getD i []).getD ((j : Int)).toNat 0)
  generalize lwL.getD i [] = l9
  rw [List.getD_eq_getElem?_getD, List.getD_eq_getElem?_getD, List.getElem?_map, show ((j : Int)).toNat = j by omega]
  cases l9[j]? <;> rfl
theorem lw_T {X : Cx} {U : State} {H : Heap} (h : cxZ X U H) {i : Nat} (hi : i < 15) : va_T .byte (X.2.2 (80 + i)) (lwN.getD i 0) (fun j => .int (iI (lw i (j : Int)))) (cxA X) U H := by
  have h1 := (h.2.2.2.2.2.1.1 i hi).2.2.2
  rw [show (fun j : Nat => Value.int (iI (lw i (j : Int)))) = fun j => Value.int ((lwB.getD i []).getD j 0) from funext fun j => by rw [lw_b]]
  exact h1
/-- a String in the world: n bytes f -/
def strW (X : Cx) (w : Wo) (q n : Nat) (f : Int → Int) : Prop := ∃ (b : Nat) (h z : Int32), w q = some (.inr (11, [.ref b, .int (iI 0), .int h, .int z])) ∧ w b = some (aY X n f)
def str (X : Cx) (w : Wo) (q n : Nat) (f : Int → Int) : Prop := strW X w q n f ∨ ∃ i : Nat, i < 15 ∧ q = X.2.2 (60 + i) ∧ n = lwN.getD i 0 ∧ f = lw i
theorem strW.ex {X : Cx} {w w2 : Wo} {q n : Nat} {f : Int → Int} (h : strW X w q n f) (g : ext w w2) : strW X w2 q n f := by
  obtain ⟨b, h0, z, h1, h2⟩ := h
  exact ⟨b, h0, z, g _ _ h1, g _ _ h2⟩
theorem str.ex {X : Cx} {w w2 : Wo} {q n : Nat} {f : Int → Int} (h : str X w q n f) (g : ext w w2) : str X w2 q n f := h.elim (fun k => Or.inl (k.ex g)) Or.inr
theorem lwN_r : ∀ i : Nat, i < 15 → lwN.getD i 0 ≤ 10 := by decide +kernel
theorem lw_r : ∀ (i : Nat) (j : Int), 0 ≤ lw i j ∧ lw i j < 128 := by
  have h : ∀ l ∈ lwL, ∀ x ∈ l, 0 ≤ x ∧ x < 128 := by decide +kernel
  intro i j
  unfold lw
  rw [List.getD_eq_getElem?_getD, List.getD_eq_getElem?_getD]
  cases h1 : lwL[i]? with
  | none => simp
  | some l =>
    simp only [Option.getD_some]
    cases h2 : l[j.toNat]? with
    | none => simp
    | some x => exact h l (List.mem_of_getElem? h1) x (List.mem_of_getElem? h2)
theorem sh0 {n : Int} (h : 0 ≤ n ∧ n < 2147483648) : iI n >>> (iI 0 &&& 31) = iI n := by
  rw [show (iI 0 &&& 31 : Int32) = 0 by decide]
  exact Int32.shiftRight_zero
theorem shl0 {n : Int} : iI n <<< (iI 0 &&& 31) = iI n := by
  rw [show (iI 0 &&& 31 : Int32) = 0 by decide]
  exact Int32.shiftLeft_zero
theorem narC {x : Int} (h : 0 ≤ x ∧ x < 256) : narrow .char (.int (iI x)) = .int (iI x) := by
  obtain ⟨n, hn⟩ : ∃ n : Nat, x = (n : Int) := ⟨x.toNat, by omega⟩
  subst hn
  have h9 : ∀ n : Nat, n < 256 → narrow .char (.int (iI (n : Int))) = .int (iI (n : Int)) := by decide +kernel
  exact h9 n (by omega)
/-- the law's caption: n letters f, side, colour, place -/
def capO (X : Cx) (w : Wo) (q n : Nat) (sd co x y : Int) (f : Int → Int) : Prop := ∃ wd : Nat, w q = some (.inr (9, [.ref wd, .int (iI sd), .int (iI co), .int (iI x), .int (iI y)])) ∧ str X w wd n f
theorem capO.ex {X : Cx} {w w2 : Wo} {q n : Nat} {sd co x y : Int} {f : Int → Int} (h : capO X w q n sd co x y f) (g : ext w w2) : capO X w2 q n sd co x y f := by
  obtain ⟨wd, h1, h2⟩ := h
  exact ⟨wd, g _ _ h1, h2.ex g⟩
/-- a receiver that is a String -/
theorem str.rc {X : Cx} {w : Wo} {s : State} {H : Heap} {locs : List Loc} {q n : Nat} {f : Int → Int} (h : str X w q n f) (hW : Wd X w s H) (hZ0 : cxZ X s s.heap) (hS : va_S (cxA X) s.heap H locs) : ∃ cell : Cell, H[q]? = some cell ∧ cell.vm.isStatics = false ∧ s.vm.findClass RJ0 = some cell.cls := by
  rcases h with ⟨b, h0, z, h1, h2⟩ | ⟨i, hi, rfl, -, -⟩
  · exact va_recv hW.2.1.1 (h_one hW h1) (ci := 11) (q0 := 0) rfl rfl
  · exact vk_recv (i := i) hZ0.2.2.2.2.2.1 hi hS
