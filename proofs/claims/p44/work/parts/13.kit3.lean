/-! ===== octal digits of a long; the loom's and the captions' cells ===== -/
/-- the octal digit at k -/
def dig (x : Int64) (k : Nat) : Int := ((x.toBitVec.extractLsb' (3 * k) 3).toNat : Int)
theorem dig_r (x : Int64) (k : Nat) : 0 ≤ dig x k ∧ dig x k < 8 := by
  have := (x.toBitVec.extractLsb' (3 * k) 3).isLt
  unfold dig
  omega
theorem gd_sh : ∀ k : Nat, k < 20 → ((iI (3 * (k : Int))).toInt64.toUInt64 &&& Int64.toUInt64 63).toBitVec % 64 = BitVec.ofNat 64 (3 * k) := by decide +kernel
theorem gd_sl : ∀ k : Nat, k < 20 → ((iI (3 * (k : Int))).toInt64 &&& 63).toBitVec.smod 64 = BitVec.ofNat 64 (3 * k) := by decide +kernel
theorem lI_bv {x y : Int64} (h : x.toBitVec = y.toBitVec) : x = y := Int64.toBitVec_inj.mp h
theorem gd_ext {x y : BitVec 64} (h : ∀ i : Nat, i < 64 → x.getLsbD i = y.getLsbD i) : x = y := BitVec.eq_of_getLsbD_eq (fun i hi => h i hi)
theorem gd_7 (j : Nat) : (7#64).getLsbD j = decide (j < 3) := by
  by_cases h : j < 64
  · have : ∀ j : Fin 64, (7#64).getLsbD j.val = decide (j.val < 3) := by decide +kernel
    exact this ⟨j, h⟩
  · rw [BitVec.getLsbD_of_ge _ _ (by omega)]
    simp; omega
theorem gd_get (x : Int64) {k : Nat} (hk : k < 20) : (x.toUInt64 >>> ((iI (3 * (k : Int))).toInt64.toUInt64 &&& Int64.toUInt64 63)).toInt64 &&& lI 7 = lI (dig x k) := by
  apply lI_bv
  have e1 : (lI (dig x k)).toBitVec = (x.toBitVec.extractLsb' (3 * k) 3).setWidth 64 := by
    show (Int64.ofInt _).toBitVec = _
    rw [Int64.toBitVec_ofInt]
    unfold dig
    rw [BitVec.ofInt_natCast]
    apply BitVec.eq_of_toNat_eq
    simp
  have e2 : (x.toUInt64 >>> ((iI (3 * (k : Int))).toInt64.toUInt64 &&& Int64.toUInt64 63)).toInt64.toBitVec = x.toBitVec >>> (3 * k) := by
    show (x.toUInt64 >>> _).toBitVec = _
    rw [UInt64.toBitVec_shiftRight, gd_sh k hk]
    show x.toBitVec >>> (BitVec.ofNat 64 (3 * k)) = _
    rw [BitVec.ushiftRight_eq']
    congr 1
    rw [BitVec.toNat_ofNat]
    exact Nat.mod_eq_of_lt (by omega)
  rw [e1, Int64.toBitVec_and, e2]
  show _ &&& 7#64 = _
  apply gd_ext
  intro i hi
  rw [BitVec.getLsbD_and, gd_7, BitVec.getLsbD_ushiftRight, BitVec.getLsbD_setWidth, BitVec.getLsbD_extractLsb']
  by_cases h3 : i < 3
  · simp [h3, hi]
  · simp [h3]
theorem gd_set (x z : Int64) {k : Nat} (hk : k < 20) {j : Nat} (hj : j < 20) : dig ((x &&& ((lI 7 <<< ((iI (3 * (k : Int))).toInt64 &&& 63)) ^^^ lI (-1))) ||| ((z &&& lI 7) <<< ((iI (3 * (k : Int))).toInt64 &&& 63))) j = if j = k then dig z 0 else dig x j := by
  have esh : ∀ y : Int64, (y <<< ((iI (3 * (k : Int))).toInt64 &&& 63)).toBitVec = y.toBitVec <<< (3 * k) := by
    intro y
    rw [Int64.toBitVec_shiftLeft, gd_sl k hk]
    rw [BitVec.shiftLeft_eq']
    congr 1
    rw [BitVec.toNat_ofNat]
    exact Nat.mod_eq_of_lt (by omega)
  have e7 : (lI 7).toBitVec = 7#64 := rfl
  have em : (lI (-1)).toBitVec = BitVec.allOnes 64 := by decide +kernel
  have key : (((x &&& ((lI 7 <<< ((iI (3 * (k : Int))).toInt64 &&& 63)) ^^^ lI (-1))) ||| ((z &&& lI 7) <<< ((iI (3 * (k : Int))).toInt64 &&& 63))).toBitVec).extractLsb' (3 * j) 3 = if j = k then z.toBitVec.extractLsb' (3 * 0) 3 else x.toBitVec.extractLsb' (3 * j) 3 := by
    rw [Int64.toBitVec_or, Int64.toBitVec_and, Int64.toBitVec_xor, esh, esh, Int64.toBitVec_and, e7, em]
    apply BitVec.eq_of_getLsbD_eq
    intro i hi
    have hb : 3 * j + i < 64 := by omega
    by_cases hjk : j = k
    · subst hjk
      rw [if_pos rfl]
      simp only [BitVec.getLsbD_extractLsb', BitVec.getLsbD_or, BitVec.getLsbD_and, BitVec.getLsbD_xor, BitVec.getLsbD_shiftLeft, BitVec.getLsbD_allOnes, gd_7]
      have h1 : decide (3 * j + i < 3 * j) = false := decide_eq_false (by omega)
      have h2 : 3 * j + i - 3 * j = i := by omega
      rw [h1, h2]
      simp [hi, hb]
    · rw [if_neg hjk]
      simp only [BitVec.getLsbD_extractLsb', BitVec.getLsbD_or, BitVec.getLsbD_and, BitVec.getLsbD_xor, BitVec.getLsbD_shiftLeft, BitVec.getLsbD_allOnes, gd_7]
      by_cases h1 : 3 * j + i < 3 * k
      · simp [hi, hb, h1]
      · have h2 : ¬ 3 * j + i - 3 * k < 3 := by omega
        simp [hi, hb, h1, h2]
  unfold dig
  rw [key]
  split <;> rfl
section KX3
variable {p : Program} {l : Launch} {e : Env} {R : Room} {s : State} {m : MethodId} {args : Array Value} {below : List Frame} {meth : Method} {c : Code} {H H0 : Heap} {locs : List Loc} {cells slots : Nat} {Q : State → Prop}
  {cc : ByteArray} {nL pc : Nat} {own : String} {ls : Array Slot} {rest : List Value} {X : Cx} {w : Wo} {lv0 : List (Nat × Value)}
theorem h_gllen8 (F : Fx p m c cc nL s args own) (hZ0 : cxZ X s s.heap) (hS : va_S (cxA X) s.heap H locs) (hd : decode cc pc = .ok (.arraylength, 1))
    (kk : W p l e R s m args below meth c H locs cells slots Q (F0 m (pc + 1) ls (.int (iI 26) :: rest))) : W p l e R s m args below meth c H locs cells slots Q (F0 m pc ls (.ref (X.2.2 1) :: rest)) := va_tlen F.1 F.2.1 hZ0.1.2 hS rfl hd kk
theorem h_iand {x y z : Int32} (F : Fx p m c cc nL s args own) (hd : decode cc pc = .ok (.iand, 1)) (h : x &&& y = z) (k : W p l e R s m args below meth c H locs cells slots Q (F0 m (pc + 1) ls (.int z :: rest))) : W p l e R s m args below meth c H locs cells slots Q (F0 m pc ls (.int y :: .int x :: rest)) := lv_iand F.1 F.2.1 hd (by rw [h]; exact k)
theorem h_ior {x y z : Int32} (F : Fx p m c cc nL s args own) (hd : decode cc pc = .ok (.ior, 1)) (h : x ||| y = z) (k : W p l e R s m args below meth c H locs cells slots Q (F0 m (pc + 1) ls (.int z :: rest))) : W p l e R s m args below meth c H locs cells slots Q (F0 m pc ls (.int y :: .int x :: rest)) := lv_ior F.1 F.2.1 hd (by rw [h]; exact k)
theorem h_ishl {x y z : Int32} (F : Fx p m c cc nL s args own) (hd : decode cc pc = .ok (.ishl, 1)) (h : x <<< (y &&& 31) = z) (k : W p l e R s m args below meth c H locs cells slots Q (F0 m (pc + 1) ls (.int z :: rest))) : W p l e R s m args below meth c H locs cells slots Q (F0 m pc ls (.int y :: .int x :: rest)) := lv_ishl F.1 F.2.1 hd (by rw [h]; exact k)
theorem h_ishr {x y z : Int32} (F : Fx p m c cc nL s args own) (hd : decode cc pc = .ok (.ishr, 1)) (h : x >>> (y &&& 31) = z) (k : W p l e R s m args below meth c H locs cells slots Q (F0 m (pc + 1) ls (.int z :: rest))) : W p l e R s m args below meth c H locs cells slots Q (F0 m pc ls (.int y :: .int x :: rest)) := lv_ishr F.1 F.2.1 hd (by rw [h]; exact k)
end KX3
