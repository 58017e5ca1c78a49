/-! ===== rows over lists of cells, for worlds; copies; the JDK's fill ===== -/
theorem kv_copy : Cond.native arraycopyName ∈ BIG := big_at 539 (by decide +kernel) (by decide +kernel)
theorem kt_copy : Cond.static arraycopyName ∈ BIG := big_at 538 (by decide +kernel) (by decide +kernel)
section KX5
variable {p : Program} {l : Launch} {e : Env} {R : Room} {s : State} {m : MethodId} {args : Array Value} {below : List Frame} {meth : Method} {c : Code} {H H0 : Heap} {locs : List Loc} {cells slots : Nat} {Q : State → Prop}
  {cc : ByteArray} {nL pc : Nat} {own : String} {ls : Array Slot} {rest : List Value} {X : Cx} {w : Wo} {lv0 : List (Nat × Value)}
theorem h_bridge (hW : Wd X w s H) (hZ0 : cxZ X s H0) (hB : cxB X ≤ H0.size) {a : Nat} {e0 : va_E} (ha : w a = some e0) : ∃ (ws : va_W) (q1 : Nat), ws[q1]? = some (a, e0) ∧ va_P X.1 vwCl ws H ∧ va_D (cxA X) ws ∧ (∀ (b : Nat) (e1 : va_E), w b = some e1 → ∃ k : Nat, ws[k]? = some (b, e1)) ∧
    ∀ (e' : va_E) (H1 : Heap) (locs1 : List Loc), va_P X.1 vwCl (ws.set q1 (a, e')) H1 → va_S (cxA X) H0 H1 locs1 → ∃ w1 : Wo, w1 a = some e' ∧ (∀ q, q ≠ a → w1 q = w q) ∧ Wd X w1 s H1 := by
  have hlt : ∀ (b : Nat) (e1 : va_E), w b = some e1 → b < H.size := fun b e1 h => va_at.lt (hW.1.1 b e1 h).1
  let f : Nat → Option (Nat × va_E) := fun q => (w q).map (fun e1 => (q, e1))
  have hmem : ∀ (b : Nat) (e1 : va_E), (b, e1) ∈ (List.range H.size).filterMap f ↔ w b = some e1 := by
    intro b e1
    rw [List.mem_filterMap]
    constructor
    · rintro ⟨q, -, hq⟩
      obtain ⟨e2, h2, h3⟩ := Option.map_eq_some_iff.mp hq
      cases h3
      exact h2
    · intro h
      exact ⟨b, List.mem_range.mpr (hlt b e1 h), by show (w b).map _ = _; rw [h]; rfl⟩
  have hnd : ((List.range H.size).filterMap f).Pairwise (fun x y => x.1 ≠ y.1) := by
    refine List.Pairwise.filterMap f ?_ (List.pairwise_lt_range (n := H.size))
    intro x y hxy u hu v hv
    obtain ⟨e2, h2, h3⟩ := Option.map_eq_some_iff.mp hu
    obtain ⟨e4, h4, h5⟩ := Option.map_eq_some_iff.mp hv
    cases h3; cases h5
    show x ≠ y
    omega
  have hpw := List.pairwise_iff_getElem.mp hnd
  obtain ⟨q1, hq1⟩ := List.getElem?_of_mem ((hmem a e0).mpr ha)
  refine ⟨(List.range H.size).filterMap f, q1, hq1, fun k q hk => ?_, ⟨fun i j x y hi hj hxy => ?_, fun k q hk => ?_⟩, fun b e1 h => List.getElem?_of_mem ((hmem b e1).mpr h), fun e' H1 locs1 hP hS => ?_⟩
  · exact (hW.1.1 q.1 q.2 ((hmem q.1 q.2).mp (List.mem_of_getElem? hk))).1
  · obtain ⟨hi1, hi2⟩ := List.getElem?_eq_some_iff.mp hi
    obtain ⟨hj1, hj2⟩ := List.getElem?_eq_some_iff.mp hj
    rcases Nat.lt_trichotomy i j with g | g | g
    · exact absurd (by rw [hi2, hj2]; exact hxy) (hpw i j hi1 hj1 g)
    · exact g
    · exact absurd (by rw [hi2, hj2]; exact hxy.symm) (hpw j i hj1 hi1 g)
  · exact (hW.1.1 q.1 q.2 ((hmem q.1 q.2).mp (List.mem_of_getElem? hk))).2
  · refine ⟨fun q => if q = a then some e' else w q, by simp, fun q hq => by simp [hq], ⟨fun q e1 hq => ?_, Nat.le_trans hB hS.1⟩, hW.2.1, hZ0.kept fun q h1 h2 => hS.2.1 q h1 h2⟩
    have hl1 : q1 < ((List.range H.size).filterMap f).length := (List.getElem?_eq_some_iff.mp hq1).1
    by_cases hqa : q = a
    · subst hqa
      simp at hq
      subst hq
      exact ⟨hP q1 (q, e') (by rw [List.getElem?_set_self hl1]), (hW.1.1 q e0 ha).2⟩
    · simp [hqa] at hq
      obtain ⟨k, hk⟩ := List.getElem?_of_mem ((hmem q e1).mpr hq)
      have hk1 : k ≠ q1 := fun z => hqa (by rw [z, hq1] at hk; cases hk; rfl)
      exact ⟨hP k (q, e1) (by rw [List.getElem?_set_ne (Ne.symm hk1)]; exact hk), (hW.1.1 q e1 hq).2⟩
/-- the first n places of f, the others of g -/
def cpZ (f g : Int → Int) (n : Int) : Int → Int := fun j => if j < n then f j else g j
theorem h_copyi {a a0 n0 n1 index : Nat} {f g : Int → Int} {n : Int} (F : Fx p m c cc nL s args own) (hl : lv_has ls nL lv0) (hW : Wd X w s H) (hZ0 : cxZ X s H0) (hB : cxB X ≤ H0.size) (hS : va_S (cxA X) H0 H locs) (hw : Cond.methodLink own index arraycopyName ∈ BIG) (ha0 : w a0 = some (aZ X n0 f)) (ha : w a = some (aZ X n1 g)) (hn : 0 ≤ n ∧ n ≤ (n0 : Int) ∧ n ≤ (n1 : Int) ∧ n < 2147483648)
    (hf : 1 ≤ R.frames) (hlo : (rest.map fun v => v.category).sum + (nativeFrameWords "java/lang/System" "arraycopy" 5 + 11) ≤ R.locals) (hd : decode cc pc = .ok (.invokestatic index, 3))
    (kk : ∀ (w1 : Wo) (H1 : Heap) (locs1 : List Loc), w1 a = some (aZ X n1 (cpZ f g n)) → (∀ q, q ≠ a → w1 q = w q) → Wd X w1 s H1 → va_S (cxA X) H0 H1 locs1 → W p l e R s m args below meth c H1 locs1 cells slots Q (F0 m (pc + 3) ls rest)) : W p l e R s m args below meth c H locs cells slots Q (F0 m pc ls (.int (iI n) :: .int (iI 0) :: .ref a :: .int (iI 0) :: .ref a0 :: rest)) := by
  obtain ⟨ws, q1, h1, hP, hD, hall, back⟩ := h_bridge hW hZ0 hB ha
  obtain ⟨q0, h0⟩ := hall a0 _ ha0
  have c0 : (iI 0).toNatClampNeg = 0 := rfl
  have cn : (iI n).toNatClampNeg = n.toNat := iI_clamp (by omega)
  refine va_copyi F.1 F.2.1 (F.2.2.1.trans hl.1.symm) F.2.2.2.1 (F.2.2.2.2 _ hw) (F.2.2.2.2 _ kv_copy) (F.2.2.2.2 _ kt_copy) (F.2.2.2.2 _ kn_RJ10) hW.2.1.1 hP hD hS q0 q1 0 0 h0 h1 rfl rfl rfl (by decide) (by decide) (fun z => by have := (iI_lt (a := n) (b := 0) (by omega) (by omega)).mp z; omega) (by rw [c0, cn]; omega) (by rw [c0, cn]; omega) (fun i _ => rfl) hf hlo hd (fun H1 locs1 hP1 hD1 hS1 => ?_)
  obtain ⟨w1, g1, g2, g3⟩ := back _ H1 locs1 hP1 hS1
  refine kk w1 H1 locs1 ?_ g2 g3 hS1
  rw [g1, c0, cn]
  show some (Sum.inl (X.2.1 0, n1, Sum.inl _)) = some (Sum.inl (X.2.1 0, n1, Sum.inl _))
  congr 5
  funext j
  unfold va_cpy cpZ
  by_cases hj : (j : Int) < n
  · rw [if_pos ⟨Nat.zero_le _, by omega⟩, if_pos hj]
    congr 2
    omega
  · rw [if_neg (fun z => by omega), if_neg hj]
theorem h_copyl {a a0 n0 n1 index : Nat} {f g : Nat → Int64} {n : Int} (F : Fx p m c cc nL s args own) (hl : lv_has ls nL lv0) (hW : Wd X w s H) (hZ0 : cxZ X s H0) (hB : cxB X ≤ H0.size) (hS : va_S (cxA X) H0 H locs) (hw : Cond.methodLink own index arraycopyName ∈ BIG) (ha0 : w a0 = some (aJ X n0 f)) (ha : w a = some (aJ X n1 g)) (hn : 0 ≤ n ∧ n ≤ (n0 : Int) ∧ n ≤ (n1 : Int) ∧ n < 2147483648)
    (hf : 1 ≤ R.frames) (hlo : (rest.map fun v => v.category).sum + (nativeFrameWords "java/lang/System" "arraycopy" 5 + 11) ≤ R.locals) (hd : decode cc pc = .ok (.invokestatic index, 3))
    (kk : ∀ (w1 : Wo) (H1 : Heap) (locs1 : List Loc), w1 a = some (aJ X n1 (fun j => if (j : Int) < n then f j else g j)) → (∀ q, q ≠ a → w1 q = w q) → Wd X w1 s H1 → va_S (cxA X) H0 H1 locs1 → W p l e R s m args below meth c H1 locs1 cells slots Q (F0 m (pc + 3) ls rest)) : W p l e R s m args below meth c H locs cells slots Q (F0 m pc ls (.int (iI n) :: .int (iI 0) :: .ref a :: .int (iI 0) :: .ref a0 :: rest)) := by
  obtain ⟨ws, q1, h1, hP, hD, hall, back⟩ := h_bridge hW hZ0 hB ha
  obtain ⟨q0, h0⟩ := hall a0 _ ha0
  have c0 : (iI 0).toNatClampNeg = 0 := rfl
  have cn : (iI n).toNatClampNeg = n.toNat := iI_clamp (by omega)
  refine va_copyl F.1 F.2.1 (F.2.2.1.trans hl.1.symm) F.2.2.2.1 (F.2.2.2.2 _ hw) (F.2.2.2.2 _ kv_copy) (F.2.2.2.2 _ kt_copy) (F.2.2.2.2 _ kn_RJ10) hW.2.1.1 hP hD hS q0 q1 1 1 h0 h1 rfl rfl rfl (by decide) (by decide) (fun z => by have := (iI_lt (a := n) (b := 0) (by omega) (by omega)).mp z; omega) (by rw [c0, cn]; omega) (by rw [c0, cn]; omega) (fun i _ => rfl) hf hlo hd (fun H1 locs1 hP1 hD1 hS1 => ?_)
  obtain ⟨w1, g1, g2, g3⟩ := back _ H1 locs1 hP1 hS1
  refine kk w1 H1 locs1 ?_ g2 g3 hS1
  rw [g1, c0, cn]
  show some (Sum.inl (X.2.1 1, n1, Sum.inr (Sum.inl _))) = some (Sum.inl (X.2.1 1, n1, Sum.inr (Sum.inl _)))
  congr 6
  funext j
  unfold va_cpy
  by_cases hj : (j : Int) < n
  · rw [if_pos ⟨Nat.zero_le _, by omega⟩, if_pos hj]
    congr 1
    omega
  · rw [if_neg (fun z => by omega), if_neg hj]
end KX5
