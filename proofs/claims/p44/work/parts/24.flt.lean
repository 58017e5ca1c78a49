/-! ===== quotients that are numbers ===== -/
theorem n32_of {r : UInt32} (h : FP.Core.fIsNaN r = false) : vf_n32 r := by
  have h2 : ¬ 2139095040 < r.toNat % 2 ^ 31 := fun z => by rw [(FP.Core.isNaN_bits32 r).mpr z] at h; cases h
  unfold vf_n32
  rw [UInt32.le_iff_toNat_le, UInt32.toNat_and]
  show r.toNat &&& (2 ^ 31 - 1) ≤ 2139095040
  rw [Nat.and_two_pow_sub_one_eq_mod]
  omega
theorem n64_of {r : UInt64} (h : FP.Core.dIsNaN r = false) : vf_n64 r := by
  have h2 : ¬ 9218868437227405312 < r.toNat % 2 ^ 63 := fun z => by rw [(FP.Core.isNaN_bits r).mpr z] at h; cases h
  unfold vf_n64
  rw [UInt64.le_iff_toNat_le, UInt64.toNat_and]
  show r.toNat &&& (2 ^ 63 - 1) ≤ 9218868437227405312
  rw [Nat.and_two_pow_sub_one_eq_mod]
  omega
theorem i2f_all : ∀ n : Nat, n < 1201 → FP.Core.fIsNaN (FP.i2f (iI (n : Int))) = false ∧ (FP.i2f (iI (n : Int))).toNat % 2 ^ 31 < 2139095040 ∧ (n ≠ 0 → (FP.i2f (iI (n : Int))).toNat % 2 ^ 31 ≠ 0) := by decide +kernel
theorem i2d_all : ∀ n : Nat, n < 1201 → FP.Core.dIsNaN (FP.i2d (iI (n : Int))) = false ∧ (FP.i2d (iI (n : Int))).toNat % 2 ^ 63 < 9218868437227405312 ∧ (n ≠ 0 → (FP.i2d (iI (n : Int))).toNat % 2 ^ 63 ≠ 0) := by decide +kernel
theorem fdiv_ok {a b : Int} (ha : 0 ≤ a ∧ a ≤ 1200) (hb : 0 < b ∧ b ≤ 1200) : vf_n32 (FP.fdiv (FP.i2f (iI a)) (FP.i2f (iI b))) := by
  have h1 := i2f_all a.toNat (by omega)
  have h2 := i2f_all b.toNat (by omega)
  rw [show ((a.toNat : Nat) : Int) = a by omega] at h1
  rw [show ((b.toNat : Nat) : Int) = b by omega] at h2
  exact n32_of (FP.Core.fdiv_out h1.1 ((FP.Core.fin_bits32 _).mpr h2.2.1) (fun z => h2.2.2 (by omega) ((FP.Core.zero_bits232 _).mp z)))
theorem ddiv_ok {a b : Int} (ha : 0 ≤ a ∧ a ≤ 1200) (hb : 0 < b ∧ b ≤ 1200) : vf_n64 (FP.ddiv (FP.i2d (iI a)) (FP.i2d (iI b))) := by
  have h1 := i2d_all a.toNat (by omega)
  have h2 := i2d_all b.toNat (by omega)
  rw [show ((a.toNat : Nat) : Int) = a by omega] at h1
  rw [show ((b.toNat : Nat) : Int) = b by omega] at h2
  exact n64_of (FP.Core.ddiv_out h1.1 ((FP.Core.fin_bits _).mpr h2.2.1) (fun z => h2.2.2 (by omega) ((FP.Core.zero_bits2 _).mp z)))
section KX4
variable {p : Program} {l : Launch} {e : Env} {R : Room} {s : State} {m : MethodId} {args : Array Value} {below : List Frame} {meth : Method} {c : Code} {H H0 : Heap} {locs : List Loc} {cells slots : Nat} {Q : State → Prop}
  {cc : ByteArray} {nL pc : Nat} {own : String} {ls : Array Slot} {rest : List Value} {X : Cx} {w : Wo}
theorem h_fret {P : Wo → Prop} {x : UInt32} (F : Fx p m c cc nL s args own) (hr : meth.sig.returnType = some .float) (hlk : meth.locks = false) (hW : Wd X w s H) (hS : va_S (cxA X) s.heap H locs) (hP : P w) (hd : decode cc pc = .ok (.freturn, 1)) :
    W p l e R s m args below meth c H locs cells slots (MX X below args s cells slots (some (.float x)) P) (F0 m pc ls [.float x]) :=
  W.fret F.1 F.2.1 hr (fun t ht _ => ⟨⟨w, rfl, hP, by rw [ht]; exact hW.1⟩, hS.F ht⟩) hS.2.2 hd hlk
theorem h_dret {P : Wo → Prop} {x : UInt64} (F : Fx p m c cc nL s args own) (hr : meth.sig.returnType = some .double) (hlk : meth.locks = false) (hW : Wd X w s H) (hS : va_S (cxA X) s.heap H locs) (hP : P w) (hd : decode cc pc = .ok (.dreturn, 1)) :
    W p l e R s m args below meth c H locs cells slots (MX X below args s cells slots (some (.double x)) P) (F0 m pc ls [.double x]) :=
  W.dret F.1 F.2.1 hr (fun t ht _ => ⟨⟨w, rfl, hP, by rw [ht]; exact hW.1⟩, hS.F ht⟩) hS.2.2 hd hlk
end KX4
