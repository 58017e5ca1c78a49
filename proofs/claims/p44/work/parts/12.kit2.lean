theorem kt_min : Cond.static Lib.Math.min.name ∈ BIG := big_at 535 (by decide +kernel) (by decide +kernel)
theorem kc_min : Cond.code Lib.Math.min.name Lib.Math.min.code 2 (some .int) ∈ BIG := big_at 536 (by decide +kernel) (by decide +kernel)
theorem kt_max : Cond.static Lib.Math.max.name ∈ BIG := big_at 158 (by decide +kernel) (by decide +kernel)
theorem kc_max : Cond.code Lib.Math.max.name Lib.Math.max.code 2 (some .int) ∈ BIG := big_at 159 (by decide +kernel) (by decide +kernel)
theorem kn_Math : Cond.initialized "java/lang/Math" ∈ BIG := big_at 53 (by decide +kernel) (by decide +kernel)
section KX2
variable {p : Program} {l : Launch} {e : Env} {R : Room} {s : State} {m : MethodId} {args : Array Value} {below : List Frame} {meth : Method} {c : Code} {H H0 : Heap} {locs : List Loc} {cells slots : Nat} {Q : State → Prop}
  {cc : ByteArray} {nL pc : Nat} {own : String} {ls : Array Slot} {rest : List Value} {X : Cx} {w : Wo} {lv0 : List (Nat × Value)}
theorem iI_div {a b : Int} (h : 0 ≤ a ∧ a < 2147483648 ∧ 0 < b ∧ b < 2147483648) : iI a / iI b = iI (a / b) := by
  have e := Int32.ofInt_tdiv (a := a) (b := b) (by show -2147483648 ≤ a; omega) (by show a ≤ 2147483647; omega) (by show -2147483648 ≤ b; omega) (by show b ≤ 2147483647; omega)
  rw [Int.tdiv_eq_ediv_of_nonneg h.1] at e
  exact e.symm
theorem h_idiv {a b : Int} (F : Fx p m c cc nL s args own) (hd : decode cc pc = .ok (.idiv, 1)) (h : 0 ≤ a ∧ a < 2147483648 ∧ 0 < b ∧ b < 2147483648) (k : W p l e R s m args below meth c H locs cells slots Q (F0 m (pc + 1) ls (.int (iI (a / b)) :: rest))) : W p l e R s m args below meth c H locs cells slots Q (F0 m pc ls (.int (iI b) :: .int (iI a) :: rest)) :=
  lv_idiv F.1 F.2.1 hd (fun z => by have h2 := (iI_eq (a := b) (b := 0) (by omega) (by omega)).mp z; omega) (by rw [iI_div h]; exact k)
theorem h_irem {a b : Int} (F : Fx p m c cc nL s args own) (hd : decode cc pc = .ok (.irem, 1)) (h : 0 ≤ a ∧ a < 2147483648 ∧ 0 < b ∧ b < 2147483648) (k : W p l e R s m args below meth c H locs cells slots Q (F0 m (pc + 1) ls (.int (iI (a % b)) :: rest))) : W p l e R s m args below meth c H locs cells slots Q (F0 m pc ls (.int (iI b) :: .int (iI a) :: rest)) :=
  lv_irem F.1 F.2.1 hd (fun z => by have h2 := (iI_eq (a := b) (b := 0) (by omega) (by omega)).mp z; omega) (by rw [iI_div h, iI_mul, iI_sub, show a - a / b * b = a % b by rw [Int.emod_def, Int.mul_comm]]; exact k)
theorem h_mmin {a b : Int} {index : Nat} (F : Fx p m c cc nL s args own) (hl : lv_has ls nL lv0) (hw : Cond.methodLink own index Lib.Math.min.name ∈ BIG) (hf : 1 ≤ R.frames) (hlo : (rest.map fun v => v.category).sum + 13 ≤ R.locals) (hc : cells ≤ R.cells) (hs : slots ≤ R.slots) (hr : (-2147483648 ≤ a ∧ a < 2147483648) ∧ -2147483648 ≤ b ∧ b < 2147483648) (hd : decode cc pc = .ok (.invokestatic index, 3))
    (k : W p l e R s m args below meth c H locs cells slots Q (F0 m (pc + 3) ls (.int (iI (min a b)) :: rest))) : W p l e R s m args below meth c H locs cells slots Q (F0 m pc ls (.int (iI b) :: .int (iI a) :: rest)) :=
  va_mmin F.1 F.2.1 (F.2.2.1.trans hl.1.symm) F.2.2.2.1 (F.2.2.2.2 _ hw) (F.2.2.2.2 _ kt_min) (F.2.2.2.2 _ kn_Math) (F.2.2.2.2 _ kc_min) hf hlo hc hs hd (by
    rw [show (if iI b < iI a then iI b else iI a) = iI (min a b) by
      by_cases h : b < a
      · rw [if_pos ((iI_lt hr.2 hr.1).mpr h), Int.min_eq_right (by omega)]
      · rw [if_neg (fun z => h ((iI_lt hr.2 hr.1).mp z)), Int.min_eq_left (by omega)]]
    exact k)
theorem h_mmax {a b : Int} {index : Nat} (F : Fx p m c cc nL s args own) (hl : lv_has ls nL lv0) (hw : Cond.methodLink own index Lib.Math.max.name ∈ BIG) (hf : 1 ≤ R.frames) (hlo : (rest.map fun v => v.category).sum + 13 ≤ R.locals) (hc : cells ≤ R.cells) (hs : slots ≤ R.slots) (hr : (-2147483648 ≤ a ∧ a < 2147483648) ∧ -2147483648 ≤ b ∧ b < 2147483648) (hd : decode cc pc = .ok (.invokestatic index, 3))
    (k : W p l e R s m args below meth c H locs cells slots Q (F0 m (pc + 3) ls (.int (iI (max a b)) :: rest))) : W p l e R s m args below meth c H locs cells slots Q (F0 m pc ls (.int (iI b) :: .int (iI a) :: rest)) :=
  va_mmax F.1 F.2.1 (F.2.2.1.trans hl.1.symm) F.2.2.2.1 (F.2.2.2.2 _ hw) (F.2.2.2.2 _ kt_max) (F.2.2.2.2 _ kn_Math) (F.2.2.2.2 _ kc_max) hf hlo hc hs hd (by
    rw [show (if iI a < iI b then iI b else iI a) = iI (max a b) by
      by_cases h : a < b
      · rw [if_pos ((iI_lt hr.1 hr.2).mpr h), Int.max_eq_right (by omega)]
      · rw [if_neg (fun z => h ((iI_lt hr.1 hr.2).mp z)), Int.max_eq_left (by omega)]]
    exact k)
theorem h_lconst {n : Fin 2} (F : Fx p m c cc nL s args own) (hd : decode cc pc = .ok (.lconst n, 1)) {z : Int} (hv : Int64.ofNat (n : Nat) = lI z) (k : W p l e R s m args below meth c H locs cells slots Q (F0 m (pc + 1) ls (.long (lI z) :: rest))) : W p l e R s m args below meth c H locs cells slots Q (F0 m pc ls rest) := lv_lconst F.1 F.2.1 hd hv k
theorem h_ldc2 {n : Int} {index : Nat} (F : Fx p m c cc nL s args own) (hc : Cond.constantLong own index (lI n) ∈ BIG) (hd : decode cc pc = .ok (.ldc2_w index, 3)) (k : W p l e R s m args below meth c H locs cells slots Q (F0 m (pc + 3) ls (.long (lI n) :: rest))) : W p l e R s m args below meth c H locs cells slots Q (F0 m pc ls rest) := lv_ldc2 F.1 F.2.1 F.2.2.2.1 (F.2.2.2.2 _ hc) hd k
theorem h_ldc2d {v : UInt64} {index : Nat} (F : Fx p m c cc nL s args own) (hc : Cond.constantDouble own index v ∈ BIG) (hd : decode cc pc = .ok (.ldc2_w index, 3)) (k : W p l e R s m args below meth c H locs cells slots Q (F0 m (pc + 3) ls (.double v :: rest))) : W p l e R s m args below meth c H locs cells slots Q (F0 m pc ls rest) := lv_ldc2d F.1 F.2.1 F.2.2.2.1 (F.2.2.2.2 _ hc) hd k
theorem h_ladd {a b : Int} (F : Fx p m c cc nL s args own) (hd : decode cc pc = .ok (.ladd, 1)) (k : W p l e R s m args below meth c H locs cells slots Q (F0 m (pc + 1) ls (.long (lI (a + b)) :: rest))) : W p l e R s m args below meth c H locs cells slots Q (F0 m pc ls (.long (lI b) :: .long (lI a) :: rest)) := lv_ladd F.1 F.2.1 hd (by rw [lI_add]; exact k)
theorem h_lsub {a b : Int} (F : Fx p m c cc nL s args own) (hd : decode cc pc = .ok (.lsub, 1)) (k : W p l e R s m args below meth c H locs cells slots Q (F0 m (pc + 1) ls (.long (lI (a - b)) :: rest))) : W p l e R s m args below meth c H locs cells slots Q (F0 m pc ls (.long (lI b) :: .long (lI a) :: rest)) := lv_lsub F.1 F.2.1 hd (by rw [lI_sub]; exact k)
end KX2
