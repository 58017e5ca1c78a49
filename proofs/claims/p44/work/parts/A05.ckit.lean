theorem ki_getC : Cond.instanceMethod ⟨"java/lang/Object", "getClass", "()Ljava/lang/Class;"⟩ ∈ BIG := big_at 507 (by decide +kernel) (by decide +kernel)
theorem kv_getC : Cond.native ⟨"java/lang/Object", "getClass", "()Ljava/lang/Class;"⟩ ∈ BIG := big_at 527 (by decide +kernel) (by decide +kernel)
theorem ks_getC : Cond.selects "[Ljava/lang/Object;" ⟨"java/lang/Object", "getClass", "()Ljava/lang/Class;"⟩ ⟨"java/lang/Object", "getClass", "()Ljava/lang/Class;"⟩ ∈ BIG := big_at 2027 (by decide +kernel) (by decide +kernel)
theorem km_getC : Cond.methodLink RJ7 86 ⟨"java/lang/Object", "getClass", "()Ljava/lang/Class;"⟩ ∈ BIG := big_at 506 (by decide +kernel) (by decide +kernel)
section KC
variable {p : Program} {l : Launch} {e : Env} {R : Room} {s : State} {m : MethodId} {args : Array Value} {below : List Frame} {meth : Method} {c : Code} {H H0 : Heap} {locs : List Loc} {cells slots : Nat} {Q : State → Prop}
  {cc : ByteArray} {nL pc : Nat} {own : String} {ls : Array Slot} {rest : List Value} {X : Cx} {w : Wo} {lv0 : List (Nat × Value)}
theorem h_getC7 {a n : Nat} {f : Nat → Option Nat} (F : Fx p m c cc nL s args RJ7) (hl : lv_has ls nL lv0) (hW : Wd X w s H) (ha : w a = some (aR X 5 n f)) (hf : 1 ≤ R.frames) (hlo : (rest.map fun v => v.category).sum + 14 ≤ R.locals) (hd : decode cc pc = .ok (.invokevirtual 86, 3))
    (k : W p l e R s m args below meth c H locs cells slots Q (F0 m (pc + 3) ls (.ref (X.2.2 6) :: rest))) : W p l e R s m args below meth c H locs cells slots Q (F0 m pc ls (.ref a :: rest)) := by
  obtain ⟨kA2, comp2, -, -, -, h4⟩ := (hW.2.1.1.2 5 _ rfl).2
  exact va_getC F.1 F.2.1 (F.2.2.1.trans hl.1.symm) F.2.2.2.1 (F.2.2.2.2 _ km_getC) (va_Dc.use hW.2.1.2.2.2.2.2.2.2.2.2.2.2.1) (F.2.2.2.2 _ ks_getC) (F.2.2.2.2 _ ki_getC) (F.2.2.2.2 _ kv_getC) hW.2.1.2.2.2.2.2.2.2.2.2.2.2.2.1 ⟨_, (hW.1.1 a _ ha).1, rfl, h4⟩ hf hlo hd k
theorem h_ldcM7 (F : Fx p m c cc nL s args RJ7) (hW : Wd X w s H) (hd : decode cc pc = .ok (.ldc 110, 2))
    (k : W p l e R s m args below meth c H locs cells slots Q (F0 m (pc + 2) ls (.ref (X.2.2 6) :: rest))) : W p l e R s m args below meth c H locs cells slots Q (F0 m pc ls rest) :=
  va_ldcM F.1 F.2.1 F.2.2.2.1 (F.2.2.2.2 _ kl_RJ7_110) hW.2.1.2.2.2.2.2.2.2.2.2.2.2.2.1 hd k
end KC
theorem ushr8 (x : Int32) : ∃ d : Int, (x.toUInt32 >>> ((iI 8).toUInt32 &&& Int32.toUInt32 31)).toInt32 = iI d ∧ 0 ≤ d ∧ d < 16777216 := by
  have h := pk_ushr x (iI 8) 8 (by decide +kernel)
  generalize (x.toUInt32 >>> ((iI 8).toUInt32 &&& Int32.toUInt32 31)).toInt32 = v at h ⊢
  have hx : x.toBitVec.toNat < 4294967296 := x.toBitVec.isLt
  have hv : v.toBitVec.toNat < 16777216 := by omega
  refine ⟨v.toInt, iI_of v, ?_⟩
  have e : v.toInt = v.toBitVec.toInt := rfl
  rw [e, BitVec.toInt_eq_toNat_of_lt (by omega)]
  omega
theorem shr3 {p d : Int} (hp : 0 ≤ p ∧ p < 32768) (hd : 0 ≤ d ∧ d ≤ 4) : iI p >>> (iI (3 * d) &&& 31) = iI (p / 2 ^ (3 * d).toNat) := by
  obtain ⟨n, rfl⟩ : ∃ n : Nat, p = (n : Int) := ⟨p.toNat, by omega⟩
  obtain ⟨k, rfl⟩ : ∃ k : Nat, d = (k : Int) := ⟨d.toNat, by omega⟩
  have hs : ∀ k : Nat, k < 5 → ((iI (3 * (k : Int)) &&& 31).toBitVec.smod 32).toNat = 3 * k := by decide +kernel
  rw [← iI_nI, pk_shrN (by omega) _ (3 * k) (hs k (by omega)), iI_nI, show (3 * (k : Int)).toNat = 3 * k by omega]
  congr 1
theorem and7 {x : Int} (h : 0 ≤ x ∧ x < 32768) : iI x &&& iI 7 = iI (x % 8) := by
  obtain ⟨n, rfl⟩ : ∃ n : Nat, x = (n : Int) := ⟨x.toNat, by omega⟩
  rw [← iI_nI, pk_andN (by omega) 3 (by decide +kernel), iI_nI]
  congr 1
theorem sh1 {x : Int} (h : 0 ≤ x ∧ x < 32768) : iI x >>> (iI 1 &&& 31) = iI (x / 2) := by
  obtain ⟨n, rfl⟩ : ∃ n : Nat, x = (n : Int) := ⟨x.toNat, by omega⟩
  rw [← iI_nI, pk_shrN (by omega) _ 1 (by decide +kernel), iI_nI]
  congr 1
theorem rev3 {p d : Int} (hp : 0 ≤ p ∧ p < 32768) (hd : 0 ≤ d ∧ d ≤ 4) : bs (revB p) (3 * (4 - d) + 3) = bs (revB p) (3 * (4 - d)) * 8 + (p / 2 ^ (3 * d).toNat % 8 % 2 * 4 + p / 2 ^ (3 * d).toNat % 8 / 2 % 2 * 2 + p / 2 ^ (3 * d).toNat % 8 / 4) := by
  have e : ∀ i : Int, 0 ≤ i → i < 3 → revB p (3 * (4 - d) + i) = decide (p / 2 ^ (3 * d).toNat % 8 / 2 ^ i.toNat % 2 = 1) := by
    intro i i0 i1
    unfold revB hasBitS
    rw [show (3 * (4 - d) + i) / 3 = 4 - d by omega, show (3 * (4 - d) + i) % 3 = i by omega, show (14 - 3 * (4 - d) - (2 - i)).toNat = (3 * d).toNat + i.toNat by omega, Int.pow_add, ← Int.ediv_ediv_of_nonneg (Int.le_of_lt (Int.pow_pos (by decide)))]
    generalize p / 2 ^ (3 * d).toNat = y
    rcases (show i = 0 ∨ i = 1 ∨ i = 2 by omega) with rfl | rfl | rfl <;> exact decide_eq_decide.mpr (by
      first
      | (show y / 1 % 2 = 1 ↔ y % 8 / 1 % 2 = 1; omega)
      | (show y / 2 % 2 = 1 ↔ y % 8 / 2 % 2 = 1; omega)
      | (show y / 4 % 2 = 1 ↔ y % 8 / 4 % 2 = 1; omega))
  rw [show 3 * (4 - d) + 3 = 3 * (4 - d) + 2 + 1 by omega, bs_s _ (by omega), show 3 * (4 - d) + 2 = 3 * (4 - d) + 1 + 1 by omega, bs_s _ (by omega), bs_s _ (by omega), show 3 * (4 - d) + 1 + 1 = 3 * (4 - d) + 2 by omega, e 2 (by omega) (by omega), e 1 (by omega) (by omega), show revB p (3 * (4 - d)) = revB p (3 * (4 - d) + 0) by rw [Int.add_zero], e 0 (by omega) (by omega)]
  have hy : 0 ≤ p / 2 ^ (3 * d).toNat % 8 ∧ p / 2 ^ (3 * d).toNat % 8 < 8 := ⟨Int.emod_nonneg _ (by decide), Int.emod_lt_of_pos _ (by decide)⟩
  generalize p / 2 ^ (3 * d).toNat % 8 = y0 at hy ⊢
  have hz : ∀ z : Int, bz (decide (z % 2 = 1)) = z % 2 := fun z => by
    rcases Int.emod_two_eq z with h | h <;> rw [h] <;> rfl
  rw [show (2 : Int) ^ (2 : Int).toNat = 4 from rfl, show (2 : Int) ^ (1 : Int).toNat = 2 from rfl, show (2 : Int) ^ (0 : Int).toNat = 1 from rfl, hz, hz, hz]
  omega
theorem frp {w w1 : Wo} {a q : Nat} {e : va_E} (h : frs w1 q) (g : ∀ p, p ≠ a → w1 p = w p) (ho : w1 a = some e) : frs w q := fun p e9 h9 =>
  if hp : p = a then (by rw [hp]; exact h _ _ ho) else h p e9 ((g p hp).trans h9)
theorem rm_0 {n i : Int} {g0 : Nat → Option Nat} (h : 0 ≤ i ∧ i < n ∧ n - 1 ≤ i) : ∀ j : Int, 0 ≤ j → j < n - 1 → va_up g0 (n - 1).toNat none j.toNat = if j < i then g0 j.toNat else g0 (j + 1).toNat := fun j h1 h2 => by
  unfold va_up
  rw [if_neg (by omega), if_pos (by omega)]
theorem rm_c {n i : Int} {g0 : Nat → Option Nat} (h : 0 ≤ i ∧ i < n - 1) : ∀ j : Int, 0 ≤ j → j < n - 1 → va_up (va_cpy g0 g0 (i + 1 : Int).toNat (i : Int).toNat ((n - 1) - i : Int).toNat) (n - 1).toNat none j.toNat = if j < i then g0 j.toNat else g0 (j + 1).toNat := fun j h1 h2 => by
  unfold va_up va_cpy
  rw [if_neg (by omega)]
  by_cases hj : j < i
  · rw [if_neg (by omega), if_pos hj]
  · rw [if_pos (by omega), if_neg hj]
    congr 1
    omega
/-- an element of the law's lists: a caption or a row -/
def elO (X : Cx) (w : Wo) (v : Nat) : Prop := (∃ fs, w v = some (.inr (9, fs))) ∨ ∃ (n : Nat) (f : Int → Int), w v = some (aZ X n f)
theorem elO.mv {X : Cx} {w w2 : Wo} {v : Nat} (h : elO X w v) (g : w2 v = w v) : elO X w2 v := by
  unfold elO
  rw [g]
  exact h
theorem elO.k {X : Cx} {w w2 : Wo} {v : Nat} (h : elO X w v) (g : ∀ e : va_E, w v = some e → w2 v = some e) : elO X w2 v :=
  h.elim (fun z => z.elim (fun fs q => Or.inl ⟨fs, g _ q⟩)) (fun z => z.elim (fun n q => q.elim (fun f r => Or.inr ⟨n, f, g _ r⟩)))
theorem elO.ex {X : Cx} {w w2 : Wo} {v : Nat} (h : elO X w v) (g : ext w w2) : elO X w2 v := h.k (g v)
theorem elO.ne {X : Cx} {w : Wo} {v a : Nat} {fs : List Value} (h : elO X w v) (ho : w a = some (.inr (14, fs))) : v ≠ a := fun e => by
  subst e
  rcases h with ⟨gs, h⟩ | ⟨n, f, h⟩
  · rw [h] at ho
    simp at ho
  · rw [h] at ho
    cases ho
theorem elO.ne5 {X : Cx} {w : Wo} {v a n : Nat} {f : Nat → Option Nat} (h : elO X w v) (ho : w a = some (aR X 5 n f)) : v ≠ a := fun e => by
  subst e
  rcases h with ⟨gs, h⟩ | ⟨n, g, h⟩
  · rw [h] at ho
    cases ho
  · rw [h] at ho
    simp at ho
theorem elO.any {X : Cx} {w : Wo} {s : State} {H : Heap} {v : Nat} (h : elO X w v) (hW : Wd X w s H) : va_Any "java/lang/Object" s H v := by
  rcases h with ⟨fs, h⟩ | ⟨n, f, h⟩
  · exact any_o hW h (ci := 9) rfl (by decide +kernel)
  · exact any_i hW h
