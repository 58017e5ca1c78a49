/-! ===== copies of lists ===== -/
section KD
variable {p : Program} {l : Launch} {e : Env} {R : Room} {s : State} {m : MethodId} {args : Array Value} {below : List Frame} {meth : Method} {c : Code} {H H0 : Heap} {locs : List Loc} {cells slots : Nat} {Q : State → Prop}
  {cc : ByteArray} {nL pc : Nat} {own : String} {ls : Array Slot} {rest : List Value} {X : Cx} {w : Wo} {lv0 : List (Nat × Value)}
theorem h_copyM2 {a a0 n0 n1 index : Nat} {f g : Nat → Option Nat} {sp dp n : Int} (F : Fx p m c cc nL s args own) (hl : lv_has ls nL lv0) (hW : Wd X w s H) (hZ0 : cxZ X s H0) (hB : cxB X ≤ H0.size) (hS : va_S (cxA X) H0 H locs) (hw : Cond.methodLink own index arraycopyName ∈ BIG) (ha0 : w a0 = some (aR X 5 n0 f)) (ha : w a = some (aR X 5 n1 g)) (hn : 0 ≤ sp ∧ 0 ≤ dp ∧ 0 ≤ n ∧ sp + n ≤ (n0 : Int) ∧ dp + n ≤ (n1 : Int) ∧ n0 < 1000000 ∧ n1 < 1000000) (hel : ∀ i : Nat, i < n.toNat → ∀ y : Nat, f (sp.toNat + i) = some y → va_Any "java/lang/Object" s H y)
    (hf : 1 ≤ R.frames) (hlo : (rest.map fun v => v.category).sum + (nativeFrameWords "java/lang/System" "arraycopy" 5 + 11) ≤ R.locals) (hd : decode cc pc = .ok (.invokestatic index, 3))
    (kk : ∀ (w1 : Wo) (H1 : Heap) (locs1 : List Loc), w1 a = some (aR X 5 n1 (va_cpy f g sp.toNat dp.toNat n.toNat)) → (∀ q, q ≠ a → w1 q = w q) → Wd X w1 s H1 → va_S (cxA X) H0 H1 locs1 → W p l e R s m args below meth c H1 locs1 cells slots Q (F0 m (pc + 3) ls rest)) : W p l e R s m args below meth c H locs cells slots Q (F0 m pc ls (.int (iI n) :: .int (iI dp) :: .ref a :: .int (iI sp) :: .ref a0 :: rest)) := by
  obtain ⟨ws, q1, h1, hP, hD, hall, hback⟩ := h_bridge hW hZ0 hB ha
  obtain ⟨q0, h0⟩ := hall a0 _ ha0
  have k1 : (iI sp).toNatClampNeg = sp.toNat := iI_clamp (by omega)
  have k2 : (iI dp).toNatClampNeg = dp.toNat := iI_clamp (by omega)
  have k3 : (iI n).toNatClampNeg = n.toNat := iI_clamp (by omega)
  refine va_copyM F.1 F.2.1 (F.2.2.1.trans hl.1.symm) F.2.2.2.1 (F.2.2.2.2 _ hw) (F.2.2.2.2 _ kv_copy) (F.2.2.2.2 _ kt_copy) (F.2.2.2.2 _ kn_RJ10) hW.2.1.1 hP hD hS q0 q1 5 5 h0 h1 rfl rfl
    (fun z => by have := (iI_lt (a := sp) (b := 0) (by omega) (by omega)).mp z; omega) (fun z => by have := (iI_lt (a := dp) (b := 0) (by omega) (by omega)).mp z; omega) (fun z => by have := (iI_lt (a := n) (b := 0) (by omega) (by omega)).mp z; omega) (by rw [k1, k3]; omega) (by rw [k2, k3]; omega) (fun i hi y hy => hel i (by rw [k3] at hi; exact hi) y (by rw [k1] at hy; exact hy)) hf hlo hd (fun H1 locs1 hP1 hD1 hS1 => ?_)
  obtain ⟨w1, g1, g2, g3⟩ := hback _ H1 locs1 hP1 hS1
  exact kk w1 H1 locs1 (by rw [g1, k1, k2, k3]) g2 g3 hS1
end KD
