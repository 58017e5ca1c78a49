theorem ki_getC : Cond.instanceMethod ⟨"java/lang/Object", "getClass", "()Ljava/lang/Class;"⟩ ∈ BIG := big_at 507 (by decide +kernel) (by decide +kernel)
theorem kv_getC : Cond.native ⟨"java/lang/Object", "getClass", "()Ljava/lang/Class;"⟩ ∈ BIG := big_at 527 (by decide +kernel) (by decide +kernel)
theorem ks_getC : Cond.selects "[Ljava/lang/Object;" ⟨"java/lang/Object", "getClass", "()Ljava/lang/Class;"⟩ ⟨"java/lang/Object", "getClass", "()Ljava/lang/Class;"⟩ ∈ BIG := big_at 2027 (by decide +kernel) (by decide +kernel)
theorem km_getC : Cond.methodLink RJ7 86 ⟨"java/lang/Object", "getClass", "()Ljava/lang/Class;"⟩ ∈ BIG := big_at 506 (by decide +kernel) (by decide +kernel)
theorem kw_cloneB : Cond.sameMethod "[B" "java/lang/Object" "clone" "()Ljava/lang/Object;" ∈ BIG := big_at 602 (by decide +kernel) (by decide +kernel)
theorem ks_cloneB : Cond.selects "[B" ⟨"[B", "clone", "()Ljava/lang/Object;"⟩ ⟨"java/lang/Object", "clone", "()Ljava/lang/Object;"⟩ ∈ BIG := big_at 605 (by decide +kernel) (by decide +kernel)
theorem fits_arrY {cA : ClassId} {n i : Nat} {v : Value} {g : Int → Int} (hr : ∀ j, 0 ≤ j → j < (n : Int) → 0 ≤ g j ∧ g j < 128) (h : (arrV cA n (fun j : Nat => .int (iI (g (j : Int))))).slots[i]? = some v) : fits .byte v = true := by
  by_cases hi : i < n
  · rw [arrV_read _ _ hi] at h
    cases h
    have := hr i (by omega) (by omega)
    exact fits_y (by omega)
  · rw [Array.getElem?_eq_none (by rw [arrV_size]; omega)] at h
    cases h
section KC
variable {p : Program} {l : Launch} {e : Env} {R : Room} {s : State} {m : MethodId} {args : Array Value} {below : List Frame} {meth : Method} {c : Code} {H H0 : Heap} {locs : List Loc} {cells slots : Nat} {Q : State → Prop}
  {cc : ByteArray} {nL pc : Nat} {own : String} {ls : Array Slot} {rest : List Value} {X : Cx} {w : Wo} {lv0 : List (Nat × Value)}
theorem h_getC7 {a n : Nat} {f : Nat → Option Nat} (F : Fx p m c cc nL s args RJ7) (hl : lv_has ls nL lv0) (hW : Wd X w s H) (ha : w a = some (aR X 5 n f)) (hf : 1 ≤ R.frames) (hlo : (rest.map fun v => v.category).sum + 14 ≤ R.locals) (hd : decode cc pc = .ok (.invokevirtual 86, 3))
    (k : W p l e R s m args below meth c H locs cells slots Q (F0 m (pc + 3) ls (.ref (X.2.2 6) :: rest))) : W p l e R s m args below meth c H locs cells slots Q (F0 m pc ls (.ref a :: rest)) := by
  obtain ⟨kA2, comp2, -, -, -, h4⟩ := (hW.2.1.1.2 5 _ rfl).2
  exact va_getC F.1 F.2.1 (F.2.2.1.trans hl.1.symm) F.2.2.2.1 (F.2.2.2.2 _ km_getC) (va_Dc.use hW.2.1.2.2.2.2.2.2.2.2.2.2.2.1) (F.2.2.2.2 _ ks_getC) (F.2.2.2.2 _ ki_getC) (F.2.2.2.2 _ kv_getC) hW.2.1.2.2.2.2.2.2.2.2.2.2.2.2.1 ⟨_, (hW.1.1 a _ ha).1, rfl, h4⟩ hf hlo hd k
theorem h_ldcM7 (F : Fx p m c cc nL s args RJ7) (hW : Wd X w s H) (hd : decode cc pc = .ok (.ldc 110, 2))
    (k : W p l e R s m args below meth c H locs cells slots Q (F0 m (pc + 2) ls (.ref (X.2.2 6) :: rest))) : W p l e R s m args below meth c H locs cells slots Q (F0 m pc ls rest) :=
  va_ldcM F.1 F.2.1 F.2.2.2.1 (F.2.2.2.2 _ kl_RJ7_110) hW.2.1.2.2.2.2.2.2.2.2.2.2.2.2.1 hd k
theorem h_cloneB {n index a : Nat} {f : Int → Int} (F : Fx p m c cc nL s args own) (hl : lv_has ls nL lv0) (hW : Wd X w s H) (hZ0 : cxZ X s H0) (hB : cxB X ≤ H0.size) (hS : va_S (cxA X) H0 H locs) (ha : w a = some (aY X n f)) (hr9 : ∀ j, 0 ≤ j → j < (n : Int) → 0 ≤ f j ∧ f j < 128)
    (hG : Cond.methodLink own index ⟨"[B", "clone", "()Ljava/lang/Object;"⟩ ∈ BIG) (hf : 1 ≤ R.frames) (hlo : (rest.map fun v => v.category).sum + 14 ≤ R.locals) (hc9 : cells + 1 ≤ R.cells ∧ slots + n ≤ R.slots) (hd : decode cc pc = .ok (.invokevirtual index, 3))
    (kk : ∀ (q : Nat) (w1 : Wo) (H1 : Heap), nkn w q → w1 q = some (aY X n f) → (∀ b, b ≠ q → w1 b = w b) → Wd X w1 s H1 → va_S (cxA X) H0 H1 locs → W p l e R s m args below meth c H1 locs (cells + 1) (slots + n) Q (F0 m (pc + 3) ls (.ref q :: rest))) : W p l e R s m args below meth c H locs cells slots Q (F0 m pc ls (.ref a :: rest)) := by
  obtain ⟨ws, q1, h1, hP, hD, hall, hback⟩ := h_bridge hW hZ0 hB ha
  have hnm : s.vm.findClass "[B" = some (X.2.1 2) := (hW.2.1.1.2 2 _ rfl).2
  refine va_clone F.1 F.2.1 (F.2.2.1.trans hl.1.symm) F.2.2.2.1 (F.2.2.2.2 _ hG) (F.2.2.2.2 _ kw_cloneB) (F.2.2.2.2 _ kv_clone) (F.2.2.2.2 _ ki_clone) (F.2.2.2.2 _ ks_cloneB) (hW.2.1.2.2.2.2.2.2.2.2.2.2.2.2.2.1 ("[B", "java/lang/Cloneable") (by decide)) hW.2.1.1 hP hD hS (fun q hq => Nat.le_trans hB hq) q1 2 h1 rfl hnm (fun i v hv => ?_) hf hlo hc9.1 hc9.2 hd (fun q H1 hK1 hP1 hD1 hS1 => ?_)
  · rw [vp_cell_i] at hv
    exact fits_arrY hr9 hv
  · refine kk q (fun b => if b = q then some (aY X n f) else w b) H1 (fun b e hb z => ?_) (by simp) (fun b hb => by simp [hb]) ⟨⟨fun b e hb => ?_, Nat.le_trans hB hS1.1⟩, hW.2.1, hZ0.kept fun q h1 h2 => hS1.2.1 q h1 h2⟩ hS1
    · obtain ⟨k, hk⟩ := hall b e hb
      subst z
      have hlt : k < ws.length := (List.getElem?_eq_some_iff.mp hk).1
      have e1 : (ws ++ [(b, (.inl (X.2.1 2, n, .inl (fun j : Nat => iI (f (j : Int)))) : va_E))])[k]? = some (b, e) := by rw [List.getElem?_append_left hlt]; exact hk
      have e2 : (ws ++ [(b, (.inl (X.2.1 2, n, .inl (fun j : Nat => iI (f (j : Int)))) : va_E))])[ws.length]? = some (b, (.inl (X.2.1 2, n, .inl (fun j : Nat => iI (f (j : Int)))) : va_E)) := by simp
      have := hD1.1 k ws.length _ _ e1 e2 rfl
      omega
    · by_cases hbq : b = q
      · subst hbq
        simp at hb
        subst hb
        have e2 : (ws ++ [(b, (aY X n f : va_E))])[ws.length]? = some (b, (aY X n f : va_E)) := by simp
        exact ⟨hP1 ws.length _ e2, hD1.2 ws.length _ e2⟩
      · simp [hbq] at hb
        obtain ⟨k, hk⟩ := hall b e hb
        have hlt : k < ws.length := (List.getElem?_eq_some_iff.mp hk).1
        have e1 : (ws ++ [(q, (aY X n f : va_E))])[k]? = some (b, e) := by rw [List.getElem?_append_left hlt]; exact hk
        exact ⟨hP1 k _ e1, (hW.1.1 b e hb).2⟩
theorem h_castB {n index a : Nat} {f : Int → Int} (F : Fx p m c cc nL s args own) (hW : Wd X w s H) (ha : w a = some (aY X n f)) (hcl : Cond.classLink own index "[B" ∈ BIG) (hd : decode cc pc = .ok (.checkcast index, 3))
    (k : W p l e R s m args below meth c H locs cells slots Q (F0 m (pc + 3) ls (.ref a :: rest))) : W p l e R s m args below meth c H locs cells slots Q (F0 m pc ls (.ref a :: rest)) :=
  va_castA F.1 F.2.1 F.2.2.2.1 (F.2.2.2.2 _ hcl) (h_one hW ha) 0 rfl (hW.2.1.1.2 2 _ rfl).2 hd k
theorem h_aretA {P : Wo → Prop} {x : Nat} {E : FieldType} (F : Fx p m c cc nL s args own) (hr : meth.sig.returnType = some (.array E)) (hlk : meth.locks = false) (hW : Wd X w s H) (hS : va_S (cxA X) s.heap H locs) (hP : P w) (hd : decode cc pc = .ok (.areturn, 1)) :
    W p l e R s m args below meth c H locs cells slots (MX X below args s cells slots (some (.ref x)) P) (F0 m pc ls [.ref x]) :=
  W.aret F.1 F.2.1 hr (Or.inr ⟨E, rfl⟩) (Or.inr ⟨x, rfl⟩) (fun t ht _ => ⟨⟨w, rfl, hP, by rw [ht]; exact hW.1⟩, hS.F ht⟩) hS.2.2 hd hlk
theorem CM.mono {y : MethodName} {cb : ByteArray} {maxL : Nat} {ret : Option FieldType} {rm : Room} {As : List Value} {v : Option Value} {P P2 : Wo → Prop} (h : CM l X y cb maxL ret rm As w v P) (g : ∀ w', P w' → P2 w') : CM l X y cb maxL ret rm As w v P2 :=
  fun p e a1 a2 a3 s m args below a4 a5 a6 a7 => by
    obtain ⟨n, o, h1, h2, h3, ⟨⟨w', e1, e2, e3⟩, e4⟩, e5⟩ := h p e a1 a2 a3 s m args below a4 a5 a6 a7
    exact ⟨n, o, h1, h2, h3, ⟨⟨w', e1, g w' e2, e3⟩, e4⟩, e5⟩
theorem h_idn {a : Int} (F : Fx p m c cc nL s args own) (hd : decode cc pc = .ok (.idiv, 1)) (h : iI (-a) / iI 100 = iI (-(a / 100))) (k : W p l e R s m args below meth c H locs cells slots Q (F0 m (pc + 1) ls (.int (iI (-(a / 100))) :: rest))) : W p l e R s m args below meth c H locs cells slots Q (F0 m pc ls (.int (iI 100) :: .int (iI (-a)) :: rest)) :=
  lv_idiv F.1 F.2.1 hd (by decide +kernel) (by rw [h]; exact k)
end KC
theorem ushr8 (x : Int32) : ∃ d : Int, (x.toUInt32 >>> ((iI 8).toUInt32 &&& Int32.toUInt32 31)).toInt32 = iI d ∧ 0 ≤ d ∧ d < 16777216 := by
  have h := pk_ushr x (iI 8) 8 (by decide +kernel)
  generalize (x.toUInt32 >>> ((iI 8).toUInt32 &&& Int32.toUInt32 31)).toInt32 = v at h ⊢
  have hx : x.toBitVec.toNat < 4294967296 := x.toBitVec.isLt
  have hv : v.toBitVec.toNat < 16777216 := by omega
  refine ⟨v.toInt, iI_of v, ?_⟩
  have e : v.toInt = v.toBitVec.toInt := rfl
  rw [e, BitVec.toInt_eq_toNat_of_lt (by omega)]
  omega
theorem shr3 {p d : Int} (hp : 0 ≤ p ∧ p < 32768) (hd : 0 ≤ d ∧ d ≤ 4) : iI p >>> (iI (3 * d) &&& 31) = iI (p / 2 ^ (3 * d).toNat) := by
  obtain ⟨n, rfl⟩ : ∃ n : Nat, p = (n : Int) := ⟨p.toNat, by omega⟩
  obtain ⟨k, rfl⟩ : ∃ k : Nat, d = (k : Int) := ⟨d.toNat, by omega⟩
  have hs : ∀ k : Nat, k < 5 → ((iI (3 * (k : Int)) &&& 31).toBitVec.smod 32).toNat = 3 * k := by decide +kernel
  rw [← iI_nI, pk_shrN (by omega) _ (3 * k) (hs k (by omega)), iI_nI, show (3 * (k : Int)).toNat = 3 * k by omega]
  congr 1
theorem and7 {x : Int} (h : 0 ≤ x ∧ x < 32768) : iI x &&& iI 7 = iI (x % 8) := by
  obtain ⟨n, rfl⟩ : ∃ n : Nat, x = (n : Int) := ⟨x.toNat, by omega⟩
  rw [← iI_nI, pk_andN (by omega) 3 (by decide +kernel), iI_nI]
  congr 1
theorem sh1 {x : Int} (h : 0 ≤ x ∧ x < 32768) : iI x >>> (iI 1 &&& 31) = iI (x / 2) := by
  obtain ⟨n, rfl⟩ : ∃ n : Nat, x = (n : Int) := ⟨x.toNat, by omega⟩
  rw [← iI_nI, pk_shrN (by omega) _ 1 (by decide +kernel), iI_nI]
  congr 1
theorem rev3 {p d : Int} (hp : 0 ≤ p ∧ p < 32768) (hd : 0 ≤ d ∧ d ≤ 4) : bs (revB p) (3 * (4 - d) + 3) = bs (revB p) (3 * (4 - d)) * 8 + (p / 2 ^ (3 * d).toNat % 8 % 2 * 4 + p / 2 ^ (3 * d).toNat % 8 / 2 % 2 * 2 + p / 2 ^ (3 * d).toNat % 8 / 4) := by
  have e : ∀ i : Int, 0 ≤ i → i < 3 → revB p (3 * (4 - d) + i) = decide (p / 2 ^ (3 * d).toNat % 8 / 2 ^ i.toNat % 2 = 1) := by
    intro i i0 i1
    unfold revB hasBitS
    rw [show (3 * (4 - d) + i) / 3 = 4 - d by omega, show (3 * (4 - d) + i) % 3 = i by omega, show (14 - 3 * (4 - d) - (2 - i)).toNat = (3 * d).toNat + i.toNat by omega, Int.pow_add, ← Int.ediv_ediv_of_nonneg (Int.le_of_lt (Int.pow_pos (by decide)))]
    generalize p / 2 ^ (3 * d).toNat = y
    rcases (show i = 0 ∨ i = 1 ∨ i = 2 by omega) with rfl | rfl | rfl <;> exact decide_eq_decide.mpr (by
      first
      | (show y / 1 % 2 = 1 ↔ y % 8 / 1 % 2 = 1; omega)
      | (show y / 2 % 2 = 1 ↔ y % 8 / 2 % 2 = 1; omega)
      | (show y / 4 % 2 = 1 ↔ y % 8 / 4 % 2 = 1; omega))
  rw [show 3 * (4 - d) + 3 = 3 * (4 - d) + 2 + 1 by omega, bs_s _ (by omega), show 3 * (4 - d) + 2 = 3 * (4 - d) + 1 + 1 by omega, bs_s _ (by omega), bs_s _ (by omega), show 3 * (4 - d) + 1 + 1 = 3 * (4 - d) + 2 by omega, e 2 (by omega) (by omega), e 1 (by omega) (by omega), show revB p (3 * (4 - d)) = revB p (3 * (4 - d) + 0) by rw [Int.add_zero], e 0 (by omega) (by omega)]
  have hy : 0 ≤ p / 2 ^ (3 * d).toNat % 8 ∧ p / 2 ^ (3 * d).toNat % 8 < 8 := ⟨Int.emod_nonneg _ (by decide), Int.emod_lt_of_pos _ (by decide)⟩
  generalize p / 2 ^ (3 * d).toNat % 8 = y0 at hy ⊢
  have hz : ∀ z : Int, bz (decide (z % 2 = 1)) = z % 2 := fun z => by
    rcases Int.emod_two_eq z with h | h <;> rw [h] <;> rfl
  rw [show (2 : Int) ^ (2 : Int).toNat = 4 from rfl, show (2 : Int) ^ (1 : Int).toNat = 2 from rfl, show (2 : Int) ^ (0 : Int).toNat = 1 from rfl, hz, hz, hz]
  omega
theorem frp {w w1 : Wo} {a q : Nat} {e : va_E} (h : frs w1 q) (g : ∀ p, p ≠ a → w1 p = w p) (ho : w1 a = some e) : frs w q := fun p e9 h9 =>
  if hp : p = a then (by rw [hp]; exact h _ _ ho) else h p e9 ((g p hp).trans h9)
theorem rm_0 {n i : Int} {g0 : Nat → Option Nat} (h : 0 ≤ i ∧ i < n ∧ n - 1 ≤ i) : ∀ j : Int, 0 ≤ j → j < n - 1 → va_up g0 (n - 1).toNat none j.toNat = if j < i then g0 j.toNat else g0 (j + 1).toNat := fun j h1 h2 => by
  unfold va_up
  rw [if_neg (by omega), if_pos (by omega)]
theorem rm_c {n i : Int} {g0 : Nat → Option Nat} (h : 0 ≤ i ∧ i < n - 1) : ∀ j : Int, 0 ≤ j → j < n - 1 → va_up (va_cpy g0 g0 (i + 1 : Int).toNat (i : Int).toNat ((n - 1) - i : Int).toNat) (n - 1).toNat none j.toNat = if j < i then g0 j.toNat else g0 (j + 1).toNat := fun j h1 h2 => by
  unfold va_up va_cpy
  rw [if_neg (by omega)]
  by_cases hj : j < i
  · rw [if_neg (by omega), if_pos hj]
  · rw [if_pos (by omega), if_neg hj]
    congr 1
    omega
theorem cpY_b {f : Int → Int} {cp N : Nat} (h : ∀ j, 0 ≤ j → j < (cp : Int) → 0 ≤ f j ∧ f j < 128) : ∀ j, 0 ≤ j → j < (N : Int) → 0 ≤ cpY f (fun _ => 0) 0 0 ((cp : Nat) : Int) j ∧ cpY f (fun _ => 0) 0 0 ((cp : Nat) : Int) j < 128 := fun j j0 j1 => by
  unfold cpY
  by_cases g : 0 ≤ j ∧ j < 0 + (cp : Int)
  · rw [if_pos g]
    exact h _ (by omega) (by omega)
  · rw [if_neg g]
    exact ⟨Int.le_refl 0, (by decide : (0 : Int) < 128)⟩
/-- what is laid behind n places -/
def apS (f : Int → Int) (n : Int) (g : Int → Int) : Int → Int := fun j => if j < n then f j else g (j - n)
/-- a StringBuilder of n signs f over the bytes b, of C at most -/
def sbA (X : Cx) (w : Wo) (u0 b : Nat) (ml : Int32) (n : Int) (f : Int → Int) (C9 : Nat) : Prop :=
  w u0 = some (.inr (12, [.ref b, .int (iI 0), .int ml, .int (iI n)])) ∧ ∃ (cp : Nat) (f0 : Int → Int), w b = some (aY X cp f0) ∧ (0 ≤ n ∧ n ≤ (cp : Int) ∧ cp ≤ C9) ∧ (∀ j, 0 ≤ j → j < (cp : Int) → 0 ≤ f0 j ∧ f0 j < 128) ∧ ∀ j, 0 ≤ j → j < n → f0 j = f j
theorem sbA.ex {X : Cx} {w w2 : Wo} {u0 b C9 : Nat} {ml : Int32} {n : Int} {f : Int → Int} (h : sbA X w u0 b ml n f C9) (g : ext w w2) : sbA X w2 u0 b ml n f C9 := by
  obtain ⟨h1, cp, f0, h2, h3⟩ := h
  exact ⟨g _ _ h1, cp, f0, g _ _ h2, h3⟩
theorem cpY_r {f g : Int → Int} {cp : Nat} {a m : Int} (h : ∀ j, 0 ≤ j → j < (cp : Int) → 0 ≤ f j ∧ f j < 128) (hg : ∀ j, 0 ≤ j → j < m → 0 ≤ g j ∧ g j < 128) (ha : 0 ≤ a) : ∀ j, 0 ≤ j → j < (cp : Int) → 0 ≤ cpY g f 0 a m j ∧ cpY g f 0 a m j < 128 := fun j j0 j1 => by
  unfold cpY
  by_cases q : a ≤ j ∧ j < a + m
  · rw [if_pos q]
    exact hg _ (by omega) (by omega)
  · rw [if_neg q]
    exact h j j0 j1
theorem cpY_in {f g : Int → Int} {a m j : Int} (hj : 0 ≤ j ∧ j < m) : cpY g f 0 a m (a + j) = g j := by
  unfold cpY
  rw [if_pos (by omega)]
  congr 1
  omega
theorem cpY_lo {f g : Int → Int} {a m j : Int} (hj : j < a) : cpY g f 0 a m j = f j := by
  unfold cpY
  rw [if_neg (by omega)]
theorem up_r {f : Int → Int} {cp : Nat} {a x : Int} (h : ∀ j, 0 ≤ j → j < (cp : Int) → 0 ≤ f j ∧ f j < 128) (hx : 0 ≤ x ∧ x < 128) : ∀ j, 0 ≤ j → j < (cp : Int) → 0 ≤ up f a x j ∧ up f a x j < 128 := fun j j0 j1 => by
  unfold up
  by_cases q : j = a
  · rw [if_pos q]
    exact hx
  · rw [if_neg q]
    exact h j j0 j1
theorem divn {a : Int} (h : 0 ≤ a ∧ a < 1000) : iI (-a) / iI 100 = iI (-(a / 100)) := by
  obtain ⟨n, rfl⟩ : ∃ n : Nat, a = (n : Int) := ⟨a.toNat, by omega⟩
  have h9 : ∀ n : Nat, n < 1000 → iI (-(n : Int)) / iI 100 = iI (-((n : Int) / 100)) := by decide +kernel
  exact h9 n (by omega)
def dlN (x : Int) : Int := if x < 10 then 1 else if x < 100 then 2 else 3
/-- the digits of x -/
def dgC (x : Int) : Int → Int := fun j => 48 + (if x < 10 then x else if x < 100 then (if j = 0 then x / 10 else x % 10) else (if j = 0 then x / 100 else if j = 1 then x / 10 % 10 else x % 10))
theorem dg_r {x : Int} (h : 0 ≤ x ∧ x < 1000) (j : Int) : 0 ≤ dgC x j ∧ dgC x j < 128 := by
  unfold dgC
  (repeat' split) <;> omega
theorem sb_ne {w : Wo} {b9 b q : Nat} {e : va_E} (h : b9 = b ∨ frs w b9) (h9 : w q = some e) (hb : q ≠ b) : q ≠ b9 := by
  rcases h with rfl | h
  · exact hb
  · have := h q e h9
    omega
theorem str.x12 {X : Cx} {w w2 : Wo} {z0 m u0 : Nat} {g : Int → Int} {fs : List Value} (hs : str X w z0 m g) (hx : ∀ (q : Nat) (e : va_E), w q = some e → q ≠ u0 → w2 q = some e) (hu : w u0 = some (.inr (12, fs))) : str X w2 z0 m g := by
  rcases hs with ⟨b, h, z, h1, h2⟩ | h
  · exact Or.inl ⟨b, h, z, hx _ _ h1 (fun e9 => by rw [e9, hu] at h1; simp at h1), hx _ _ h2 (fun e9 => by rw [e9, hu] at h2; cases h2)⟩
  · exact Or.inr h
/-- an element of the law's lists: a caption or a row -/
def elO (X : Cx) (w : Wo) (v : Nat) : Prop := (∃ fs, w v = some (.inr (9, fs))) ∨ ∃ (n : Nat) (f : Int → Int), w v = some (aZ X n f)
theorem elO.mv {X : Cx} {w w2 : Wo} {v : Nat} (h : elO X w v) (g : w2 v = w v) : elO X w2 v := by
  unfold elO
  rw [g]
  exact h
theorem elO.k {X : Cx} {w w2 : Wo} {v : Nat} (h : elO X w v) (g : ∀ e : va_E, w v = some e → w2 v = some e) : elO X w2 v :=
  h.elim (fun z => z.elim (fun fs q => Or.inl ⟨fs, g _ q⟩)) (fun z => z.elim (fun n q => q.elim (fun f r => Or.inr ⟨n, f, g _ r⟩)))
theorem elO.ex {X : Cx} {w w2 : Wo} {v : Nat} (h : elO X w v) (g : ext w w2) : elO X w2 v := h.k (g v)
theorem elO.ne {X : Cx} {w : Wo} {v a : Nat} {fs : List Value} (h : elO X w v) (ho : w a = some (.inr (14, fs))) : v ≠ a := fun e => by
  subst e
  rcases h with ⟨gs, h⟩ | ⟨n, f, h⟩
  · rw [h] at ho
    simp at ho
  · rw [h] at ho
    cases ho
theorem elO.ne5 {X : Cx} {w : Wo} {v a n : Nat} {f : Nat → Option Nat} (h : elO X w v) (ho : w a = some (aR X 5 n f)) : v ≠ a := fun e => by
  subst e
  rcases h with ⟨gs, h⟩ | ⟨n, g, h⟩
  · rw [h] at ho
    cases ho
  · rw [h] at ho
    simp at ho
theorem elO.any {X : Cx} {w : Wo} {s : State} {H : Heap} {v : Nat} (h : elO X w v) (hW : Wd X w s H) : va_Any "java/lang/Object" s H v := by
  rcases h with ⟨fs, h⟩ | ⟨n, f, h⟩
  · exact any_o hW h (ci := 9) rfl (by decide +kernel)
  · exact any_i hW h
