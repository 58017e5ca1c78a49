/-! ===== the kit of what is made: objects, arrays, constructors ===== -/
/-- the contract of a constructor: the heap has n cells as it begins; mc cells of ms slots are new -/
def CN (l : Launch) (X : Cx) (y : MethodName) (cb : ByteArray) (maxL : Nat) (rm : Room) (As : List Value) (n : Nat) (w : Wo) (P : Wo → Prop) : Prop :=
  Met l y (Cond.code y cb maxL none :: BIG) rm (va_Pc As (fun U => Wd X w U U.heap ∧ U.heap.size = n)) (fun _ st oc t => (∃ w' : Wo, oc = .returned none ∧ P w' ∧ cxH X w' t.heap) ∧ va_F (cxA X) st t) rm.cells rm.slots (cxA X)
section KN
variable {p : Program} {l : Launch} {e : Env} {R : Room} {s : State} {m : MethodId} {args : Array Value} {below : List Frame} {meth : Method} {c : Code} {H H0 : Heap} {locs : List Loc} {cells slots : Nat} {Q : State → Prop}
  {cc : ByteArray} {nL pc : Nat} {own : String} {ls : Array Slot} {rest : List Value} {X : Cx} {w : Wo} {lv0 : List (Nat × Value)}
theorem CN.of {y : MethodName} {cb : ByteArray} {maxL n : Nat} {rm : Room} {As : List Value} {P : Wo → Prop} {lv : List (Nat × Value)} (hy : plainName y.cls = true) (hlen : (lg_sl As).length ≤ maxL) (hlv : lv_args 0 As = lv)
    (body : ∀ (p : Program) (e : Env) (s : State) (m : MethodId) (below : List Frame) (meth : Method) (c : Code) (ls : Array Slot), Fx p m c cb maxL s As.toArray y.cls → meth.sig.returnType = none → meth.locks = false → meth.name = y.name → Wd X w s s.heap → s.heap.size = n → va_S (cxA X) s.heap s.heap [] → lv_has ls maxL lv →
      W p l e rm s m As.toArray below meth c s.heap [] 0 0 (MX X below As.toArray s rm.cells rm.slots none P) (F0 m 0 ls [])) : CN l X y cb maxL rm As n w P := by
  refine Met.ofW (cc := cb) (maxL := maxL) (ret := none) hy rfl ?_
  intro p e s m args below meth c s₁ B hml hv
  obtain ⟨rfl, hW, hn⟩ := hv
  have hts := atoms_spec (ws := Cond.code y cb maxL none :: BIG) B.pre
  have hl := lv_entry As (n := maxL) hlen
  rw [lg_entry_eq]
  generalize (lg_sl As ++ List.replicate (maxL - (lg_sl As).length) Slot.unset).toArray = ls at hl ⊢
  rw [hlv] at hl
  exact body p e s m below meth c ls ⟨B.exec, B.bytes, hml, findClass_of_methodNamed B.named, fun w h => hts w (List.mem_cons_of_mem _ h)⟩ B.returns B.notSynchronized (name_of_methodNamed B.named B.method).1 hW hn va_S.rf hl
/-- how large the heap is now: as large as the cell made last says -/
theorem h_size {q : Nat} {e0 : va_E} (hW : Wd X w s H) (hq : w q = some e0) (hc : s.heap.size + cells = q + 1) (k : H.size = q + 1 → W p l e R s m args below meth c H locs cells slots Q (F0 m pc ls rest)) : W p l e R s m args below meth c H locs cells slots Q (F0 m pc ls rest) := by
  intro T hT X9
  have h1 := X9.heapSize
  have h2 := va_at.lt (hW.1.1 q e0 hq).1
  rw [hT] at h1
  exact k (by omega) T hT X9
theorem h_size0 (hS : va_S (cxA X) s.heap H locs) (k : H.size = s.heap.size → W p l e R s m args below meth c H locs 0 slots Q (F0 m pc ls rest)) : W p l e R s m args below meth c H locs 0 slots Q (F0 m pc ls rest) := by
  intro T hT X9
  have h1 := X9.heapSize
  have h2 := hS.1
  rw [hT] at h1
  exact k (by omega) T hT X9
theorem n_S {H1 : Heap} {a : Nat} (hS : va_S (cxA X) H0 H locs) (ha : H.size = a) (z : H1.size = a + 1) (oq : ∀ q : Nat, q < a → H1[q]? = H[q]?) : va_S (cxA X) H0 H1 locs :=
  ⟨Nat.le_trans hS.1 (by omega), fun q q1 q2 => (oq q (by have := hS.1; omega)).trans (hS.2.1 q q1 q2), hS.2.2⟩
theorem h_new {C : String} {T : u_T} {N ci index a : Nat} {fs : List Value} (F : Fx p m c cc nL s args own) (hW : Wd X w s H) (hS : va_S (cxA X) H0 H locs) (hz : H.size = a) (hin : ∀ w ∈ u_ws C T N, w ∈ BIG) (ty : Nat → FieldType) (hty : ∀ k, k < N → parseFieldDescriptor (T k).2.2.1 = some (ty k)) (hcl : Cond.classLink own index C ∈ BIG) (hinst : Cond.instantiable C N ∈ BIG) (hini : Cond.initialized C ∈ BIG) (hc : vwCl[ci]? = some (C, T, N)) (hfs : ∀ j, j < N → defaultValue (ty j) = vp_V fs j)
    (hf : cells + 1 ≤ R.cells ∧ slots + N ≤ R.slots) (hd : decode cc pc = .ok (.new index, 3))
    (kk : ∀ (w1 : Wo) (H1 : Heap), w1 a = some (.inr (ci, fs)) → (∀ q, q ≠ a → w1 q = w q) → Wd X w1 s H1 → va_S (cxA X) H0 H1 locs → W p l e R s m args below meth c H1 locs (cells + 1) (slots + N) Q (F0 m (pc + 3) ls (.ref a :: rest))) : W p l e R s m args below meth c H locs cells slots Q (F0 m pc ls rest) := by
  subst hz
  have hKn := hW.2.1.1.1 ci _ hc
  refine W.newcK F.1 F.2.1 F.2.2.2.1 (F.2.2.2.2 _ hcl) (F.2.2.2.2 _ hinst) (F.2.2.2.2 _ hini) rfl hd hf.1 hf.2 hKn.2.1 rfl fun H1 kC hkC e1 z1 o1 => ?_
  obtain ⟨w1, g1, g2, g3⟩ := hW.new (e := .inr (ci, fs)) ⟨_, hc, (u_born ty F.2.2.2.2 hin hKn hkC e1 hty).to hfs⟩ z1 o1
  exact kk w1 H1 g1 g2 g3 (n_S hS rfl z1 o1)
theorem h_newP {a N k : Nat} {n : Int} {x : (Nat → Int32) ⊕ (Nat → Int64) ⊕ (Nat → UInt32) ⊕ (Nat → UInt64) ⊕ (Nat → Option Nat)} {atype : ArrayType} (F : Fx p m c cc nL s args own) (hW : Wd X w s H) (hS : va_S (cxA X) H0 H locs) (hz : H.size = a) (harr : Cond.arrayClass (_root_.Jvm.Op.newarray.typeOf atype) ∈ BIG) (hk : (cxT X)[k]? = some (X.2.1 k, _root_.Jvm.Op.newarray.typeOf atype)) (hx : ∀ cA : ClassId, vp_cell cA (N, x) = arrV cA N (fun _ => defaultValue (_root_.Jvm.Op.newarray.typeOf atype))) (hn : n = (N : Int)) (hN : N < 1000000)
    (hf : cells + 1 ≤ R.cells ∧ slots + N ≤ R.slots) (hd : decode cc pc = .ok (.newarray atype, 2))
    (kk : ∀ (w1 : Wo) (H1 : Heap), w1 a = some (.inl (X.2.1 k, N, x)) → (∀ q, q ≠ a → w1 q = w q) → Wd X w1 s H1 → va_S (cxA X) H0 H1 locs → W p l e R s m args below meth c H1 locs (cells + 1) (slots + N) Q (F0 m (pc + 2) ls (.ref a :: rest))) : W p l e R s m args below meth c H locs cells slots Q (F0 m pc ls (.int (iI n) :: rest)) := by
  subst hz
  subst hn
  refine va_newaK F.1 F.2.1 (F.2.2.2.2 _ harr) rfl hd rfl (fun z => by have := (iI_lt (a := (N : Int)) (b := 0) (by omega) (by omega)).mp z; omega) (by rw [iI_clamp (by omega)]; omega) (by cases atype <;> simp [_root_.Jvm.Op.newarray.typeOf, componentBytes] <;> omega) hf.1 hf.2 rfl fun H1 cA e1 z1 o1 hAr hNm => ?_
  have hid : cA = X.2.1 k := by
    have h2 := (hW.2.1.1.2 k _ hk).2
    have h3 : s.vm.findClass ("[" ++ (_root_.Jvm.Op.newarray.typeOf atype).toString) = some (X.2.1 k) := by
      cases atype <;> exact h2
    exact Option.some.inj (hNm.symm.trans h3)
  subst hid
  obtain ⟨w1, g1, g2, g3⟩ := hW.new (e := .inl (X.2.1 k, N, x)) (show H1[H.size]? = some (vp_cell _ _) by rw [hx]; exact e1) z1 o1
  exact kk w1 H1 g1 g2 g3 (n_S hS rfl z1 o1)
theorem h_newR {a N k index : Nat} {n : Int} {C : String} (F : Fx p m c cc nL s args own) (hW : Wd X w s H) (hS : va_S (cxA X) H0 H locs) (hz : H.size = a) (hk : (cxT X)[k]? = some (X.2.1 k, .object C)) (hAO : va_AO C s) (hcl : Cond.classLink own index C ∈ BIG) (hn : n = (N : Int)) (hN : N < 1000000)
    (hf : cells + 1 ≤ R.cells ∧ slots + N ≤ R.slots) (hd : decode cc pc = .ok (.anewarray index, 3))
    (kk : ∀ (w1 : Wo) (H1 : Heap), w1 a = some (aR X k N (fun _ => none)) → (∀ q, q ≠ a → w1 q = w q) → Wd X w1 s H1 → va_S (cxA X) H0 H1 locs → W p l e R s m args below meth c H1 locs (cells + 1) (slots + N) Q (F0 m (pc + 3) ls (.ref a :: rest))) : W p l e R s m args below meth c H locs cells slots Q (F0 m pc ls (.int (iI n) :: rest)) := by
  subst hz
  subst hn
  have hc9 : (iI (N : Int)).toNatClampNeg = N := by rw [iI_clamp (by omega)]; omega
  refine W.anew F.1 F.2.1 F.2.2.2.1 (F.2.2.2.2 _ hcl) (va_AO.use hAO) rfl hd rfl (fun z => by have := (iI_lt (a := (N : Int)) (b := 0) (by omega) (by omega)).mp z; omega) (by rw [hc9]; omega) hf.1 (by rw [hc9]; exact hf.2) fun cA kA comp f1 f2 f3 f4 => ?_
  rw [hc9]
  generalize hH1 : H.push ({ cls := cA, slots := Array.replicate N .null, vm := .none } : Cell) = H1
  have z1 : H1.size = H.size + 1 := by rw [← hH1, Array.size_push]
  have e1 : H1[H.size]? = some (arrV cA N (fun _ => .null)) := by rw [← hH1, Array.getElem?_push_size, ← arrV_new]
  have o1 : ∀ q : Nat, q < H.size → H1[q]? = H[q]? := fun q hq => by rw [← hH1, Array.getElem?_push, if_neg (Nat.ne_of_lt hq)]
  have hid : cA = X.2.1 k := by
    obtain ⟨kA2, comp2, -, -, -, h4⟩ := (hW.2.1.1.2 k _ hk).2
    exact Option.some.inj (f1.symm.trans h4)
  subst hid
  obtain ⟨w1, g1, g2, g3⟩ := hW.new (e := aR X k N (fun _ => none)) (show H1[H.size]? = some (vp_cell _ _) by rw [vp_cell_q]; exact e1) z1 o1
  exact kk w1 H1 g1 g2 g3 (n_S hS rfl z1 o1)
theorem h_aast {a n k v ci : Nat} {C : String} {T : u_T} {N : Nat} {vs : List Value} {f : Nat → Option Nat} {i : Int} (F : Fx p m c cc nL s args own) (hW : Wd X w s H) (hS : va_S (cxA X) H0 H locs) (ha : w a = some (aR X k n f)) (hk : (cxT X)[k]? = some (X.2.1 k, .object C)) (hv : w v = some (.inr (ci, vs))) (hc : vwCl[ci]? = some (C, T, N)) (hi : 0 ≤ i ∧ i < (n : Int)) (hn : (n : Int) < 2147483648) (hd : decode cc pc = .ok (.aastore, 1))
    (kk : ∀ (w1 : Wo) (H1 : Heap) (locs1 : List Loc), w1 a = some (aR X k n (va_up f i.toNat (some v))) → (∀ q, q ≠ a → w1 q = w q) → Wd X w1 s H1 → va_S (cxA X) H0 H1 locs1 → W p l e R s m args below meth c H1 locs1 cells slots Q (F0 m (pc + 1) ls rest)) : W p l e R s m args below meth c H locs cells slots Q (F0 m pc ls (.ref v :: .int (iI i) :: .ref a :: rest)) := by
  have hcl9 : (iI i).toNatClampNeg = i.toNat := iI_clamp (by omega)
  have hlt : (iI i).toNatClampNeg < n := by rw [hcl9]; omega
  have h0 : ¬ iI i < 0 := fun z => by have := (iI_lt (a := i) (b := 0) (by omega) (by omega)).mp z; omega
  obtain ⟨r', hr', cellV, g1, g2, g3, -⟩ := (hW.1.1 v _ hv).1
  have hcls := (hW.2.1.1.1 ci _ hc).2
  obtain ⟨kA, comp, k1, k2, k3, -⟩ := (hW.2.1.1.2 k _ hk).2
  have hcomp : comp = X.1.1 ci := Option.some.inj (k3.symm.trans hcls.1)
  subst hcomp
  obtain ⟨kC, hkC, -⟩ := hcls.2
  refine W.aast F.1 F.2.1 (hW.1.1 a _ ha).1 (fun q h => by cases h) (fun h => by cases h) k1 k2 rfl hkC ⟨h0, by show _ < (arrV _ _ _).slots.size; rw [arrV_size]; exact hlt⟩ g1 (fun q h => by rw [g3] at h; cases h) (by rw [g2]; exact hkC) (by rw [g2]; exact va_assign hcls) rfl rfl hd fun H1 e z oq => ?_
  have he : va_at X.1 vwCl (a, aR X k n (va_up f i.toNat (some v))) H1 := by
    show H1[a]? = some (vp_cell _ _)
    rw [e]
    show some ((vp_cell _ _).setSlot _ _) = _
    rw [vp_cell_q, vp_cell_q, arrV_store]
    congr 2
    funext q
    rw [hcl9]
    by_cases hq : q = i.toNat
    · subst hq
      simp [updV, va_up, va_rf]
    · simp [updV, va_up, hq]
  obtain ⟨w1, g1, g2, g3⟩ := hW.put ha he z oq
  exact kk w1 H1 _ g1 g2 g3 (hS.put z oq (hW.1.1 a _ ha).2)
theorem h_callI {y : MethodName} {cb : ByteArray} {maxL index n nn a : Nat} {rm : Room} {As st : List Value} {P : Wo → Prop} (F : Fx p m c cc nL s args own) (hl : lv_has ls nL lv0) (hM : CN l X y cb maxL rm (.ref a :: As) nn w P) (hW : Wd X w s H) (hS : va_S (cxA X) H0 H locs) (hz : H.size = nn)
    (hG : Cond.code y cb maxL none ∈ BIG ∧ Cond.initialized y.cls ∈ BIG ∧ Cond.methodLink own index y ∈ BIG ∧ Cond.instanceMethod y ∈ BIG) (hy1 : y.name = "<init>") (hy : y.cls ≠ "java/lang/invoke/MethodHandle" ∧ y.cls ≠ "java/lang/invoke/VarHandle" ∧ (parseMethodDescriptor y.desc).map (fun d => d.parameters.length) = some n)
    (hst : st = As.reverse ++ .ref a :: rest) (hn : As.length = n) (hR : rm.frames + 1 ≤ R.frames ∧ 8 + (maxL + 11) + rm.locals ≤ R.locals) (hcat : (rest.map fun v => v.category).sum ≤ 8) (hf : cells + rm.cells ≤ R.cells ∧ slots + rm.slots ≤ R.slots) (hd : decode cc pc = .ok (.invokespecial index, 3))
    (kk : ∀ (w1 : Wo) (H1 : Heap) (locs1 : List Loc), P w1 → Wd X w1 s H1 → va_S (cxA X) H0 H1 locs1 → W p l e R s m args below meth c H1 locs1 (cells + rm.cells) (slots + rm.slots) Q (F0 m (pc + 3) ls rest)) : W p l e R s m args below meth c H locs cells slots Q (F0 m pc ls st) := by
  have hr := va_runI (p := p) (l := l) (e := e) (R := R) (s := s) (m := m) (args := args) (below := below) (meth := meth) (c := c) (H := H) (locs := locs) (cells := cells) (slots := slots) (g := F0 m pc ls st) (b := a) (As := As) (rest := rest) F hM (cwI n F.2.2.2.2 (big_in hG.1) rfl rfl rfl (F.2.2.2.2 _ hG.2.1) (F.2.2.2.2 _ hG.2.2.1) (F.2.2.2.2 _ hG.2.2.2) hy1 hy hR)
    ⟨fun a U g mk q => ⟨q.1, Wd.call q.2.1, q.2.2⟩, fun U hU hWm => ⟨rfl, (by show Wd X w U U.heap; rw [hU]; exact hW.warm hWm), by show U.heap.size = nn; rw [hU]; exact hz⟩⟩ rfl hn hl.1 hst (by show 2 * 0 + _ ≤ 8; rw [Nat.mul_zero, Nat.zero_add]; exact hcat) hd hf
  intro T9 hT X9
  obtain ⟨v9, st₀, t, T', L, h0, X', hL, e1, e2, ⟨⟨w1, hv, hp, hb⟩, hz, hk⟩, st9⟩ := hr T9 hT X9
  cases hv
  rw [h0] at hz hk
  have hk1 : ∀ q : Nat, q < H.size → ¬ cxA X q → T'.heap[q]? = H[q]? := fun q h1 h2 => by rw [e1]; exact hk q h1 h2
  obtain ⟨t2, a1, b1⟩ := kk w1 T'.heap (locs ++ L) hp ⟨by rw [e1]; exact hb, hW.2.1, hW.2.2.kept hk1⟩ ⟨Nat.le_trans hS.1 (by rw [e1]; exact hz), fun q h1 h2 => by rw [hk1 q (Nat.lt_of_lt_of_le h1 hS.1) h2]; exact hS.2.1 q h1 h2, fun q hq => by
      rcases List.mem_append.mp hq with h | h
      · exact hS.2.2 q h
      · exact hL q h⟩ T' rfl X'
  exact ⟨t2, st9 t2 a1, b1⟩
theorem h_callIN {host : String} {y : MethodName} {cb : ByteArray} {maxL index n nn a : Nat} {rm : Room} {As st : List Value} {P : Wo → Prop} (F : Fx p m c cc nL s args own) (hl : lv_has ls nL lv0) (hM : CN l X y cb maxL rm (.ref a :: As) nn w P) (hW : Wd X w s H) (hS : va_S (cxA X) H0 H locs) (hz : H.size = nn)
    (hG : Cond.code y cb maxL none ∈ BIG ∧ Cond.initialized y.cls ∈ BIG ∧ (own, index, y, host) ∈ nestL ∧ Cond.instanceMethod y ∈ BIG) (hy1 : y.name = "<init>") (hy : y.cls ≠ "java/lang/invoke/MethodHandle" ∧ y.cls ≠ "java/lang/invoke/VarHandle" ∧ (parseMethodDescriptor y.desc).map (fun d => d.parameters.length) = some n)
    (hst : st = As.reverse ++ .ref a :: rest) (hn : As.length = n) (hR : rm.frames + 1 ≤ R.frames ∧ 8 + (maxL + 11) + rm.locals ≤ R.locals) (hcat : (rest.map fun v => v.category).sum ≤ 8) (hf : cells + rm.cells ≤ R.cells ∧ slots + rm.slots ≤ R.slots) (hd : decode cc pc = .ok (.invokespecial index, 3))
    (kk : ∀ (w1 : Wo) (H1 : Heap) (locs1 : List Loc), P w1 → Wd X w1 s H1 → va_S (cxA X) H0 H1 locs1 → W p l e R s m args below meth c H1 locs1 (cells + rm.cells) (slots + rm.slots) Q (F0 m (pc + 3) ls rest)) : W p l e R s m args below meth c H locs cells slots Q (F0 m pc ls st) := by
  have hr := va_runIN (p := p) (l := l) (e := e) (R := R) (s := s) (m := m) (args := args) (below := below) (meth := meth) (c := c) (H := H) (locs := locs) (cells := cells) (slots := slots) (g := F0 m pc ls st) (b := a) (As := As) (rest := rest) F hM ⟨va_cnB n F.2.2.2.2 (big_in hG.1) rfl rfl rfl (hW.2.1.2.2.1 _ hG.2.2.1) (F.2.2.2.2 _ hG.2.1) hy hR, hy1, F.2.2.2.2 _ hG.2.2.2⟩
    ⟨fun a U g mk q => ⟨q.1, Wd.call q.2.1, q.2.2⟩, fun U hU hWm => ⟨rfl, (by show Wd X w U U.heap; rw [hU]; exact hW.warm hWm), by show U.heap.size = nn; rw [hU]; exact hz⟩⟩ rfl hn hl.1 hst (by show 2 * 0 + _ ≤ 8; rw [Nat.mul_zero, Nat.zero_add]; exact hcat) hd hf
  intro T9 hT X9
  obtain ⟨v9, st₀, t, T', L, h0, X', hL, e1, e2, ⟨⟨w1, hv, hp, hb⟩, hz, hk⟩, st9⟩ := hr T9 hT X9
  cases hv
  rw [h0] at hz hk
  have hk1 : ∀ q : Nat, q < H.size → ¬ cxA X q → T'.heap[q]? = H[q]? := fun q h1 h2 => by rw [e1]; exact hk q h1 h2
  obtain ⟨t2, a1, b1⟩ := kk w1 T'.heap (locs ++ L) hp ⟨by rw [e1]; exact hb, hW.2.1, hW.2.2.kept hk1⟩ ⟨Nat.le_trans hS.1 (by rw [e1]; exact hz), fun q h1 h2 => by rw [hk1 q (Nat.lt_of_lt_of_le h1 hS.1) h2]; exact hS.2.1 q h1 h2, fun q hq => by
      rcases List.mem_append.mp hq with h | h
      · exact hS.2.2 q h
      · exact hL q h⟩ T' rfl X'
  exact ⟨t2, st9 t2 a1, b1⟩
theorem h_obj {a index : Nat} (F : Fx p m c cc nL s args own) (hl : lv_has ls nL lv0) (hlink : Cond.methodLink own index Lib.objectInit ∈ BIG) (hi : Cond.instanceMethod Lib.objectInit ∈ BIG ∧ Cond.code Lib.objectInit ⟨#[0xb1]⟩ 1 none ∈ BIG) (hd : decode cc pc = .ok (.invokespecial index, 3)) (hR : 1 ≤ R.frames ∧ (rest.map fun v => v.category).sum + 12 ≤ R.locals)
    (kk : W p l e R s m args below meth c H locs cells slots Q (F0 m (pc + 3) ls rest)) : W p l e R s m args below meth c H locs cells slots Q (F0 m pc ls (.ref a :: rest)) :=
  W.objInit F.1 F.2.1 F.2.2.2.1 (F.2.2.2.2 _ hlink) (F.2.2.2.2 _ hi.1) (F.2.2.2.2 _ hi.2) (g := F0 m pc ls (.ref a :: rest)) rfl (hl.1.trans F.2.2.1.symm) rfl hd hR.1 (by show 2 * 0 + _ + 12 ≤ _; rw [Nat.mul_zero, Nat.zero_add]; exact hR.2) kk
end KN
/-! words of what is made -/
theorem hoI : Cond.instanceMethod Lib.objectInit ∈ BIG ∧ Cond.code Lib.objectInit ⟨#[0xb1]⟩ 1 none ∈ BIG := ⟨big_at 88 (by decide +kernel) (by decide +kernel), big_at 89 (by decide +kernel) (by decide +kernel)⟩
theorem hoL0 : Cond.methodLink RX0 3 Lib.objectInit ∈ BIG := big_at 243 (by decide +kernel) (by decide +kernel)
theorem hoL1 : Cond.methodLink RX1 3 Lib.objectInit ∈ BIG := big_at 113 (by decide +kernel) (by decide +kernel)
theorem hoL2 : Cond.methodLink RX2 3 Lib.objectInit ∈ BIG := big_at 295 (by decide +kernel) (by decide +kernel)
theorem hoL3 : Cond.methodLink RX3 3 Lib.objectInit ∈ BIG := big_at 101 (by decide +kernel) (by decide +kernel)
theorem hoL4 : Cond.methodLink RX4 3 Lib.objectInit ∈ BIG := big_at 223 (by decide +kernel) (by decide +kernel)
theorem hoL5 : Cond.methodLink RX5 3 Lib.objectInit ∈ BIG := big_at 95 (by decide +kernel) (by decide +kernel)
theorem hoL6 : Cond.methodLink RX6 3 Lib.objectInit ∈ BIG := big_at 256 (by decide +kernel) (by decide +kernel)
theorem hoL7 : Cond.methodLink RX7 3 Lib.objectInit ∈ BIG := big_at 316 (by decide +kernel) (by decide +kernel)
theorem hoL8 : Cond.methodLink RX8 1 Lib.objectInit ∈ BIG := big_at 87 (by decide +kernel) (by decide +kernel)
theorem haCI : Cond.arrayClass .int ∈ BIG := big_at 145 (by decide +kernel) (by decide +kernel)
theorem haCJ : Cond.arrayClass .long ∈ BIG := big_at 106 (by decide +kernel) (by decide +kernel)
theorem hxI (N : Nat) : ∀ cA : ClassId, vp_cell cA (N, .inl (fun j : Nat => iI ((fun _ : Int => 0) (j : Int)))) = arrV cA N (fun _ => defaultValue (_root_.Jvm.Op.newarray.typeOf .int)) := fun _ => rfl
theorem hxZ (N : Nat) : ∀ cA : ClassId, vp_cell cA (N, .inl (fun j : Nat => iI ((fun _ : Int => 0) (j : Int)))) = arrV cA N (fun _ => defaultValue (_root_.Jvm.Op.newarray.typeOf .boolean)) := fun _ => rfl
theorem hxJ (N : Nat) : ∀ cA : ClassId, vp_cell cA (N, .inr (.inl (fun _ => lI 0))) = arrV cA N (fun _ => defaultValue (_root_.Jvm.Op.newarray.typeOf .long)) := fun _ => rfl
theorem hxD (N : Nat) : ∀ cA : ClassId, vp_cell cA (N, .inr (.inr (.inr (.inl (fun _ => FP.dconst0))))) = arrV cA N (fun _ => defaultValue (_root_.Jvm.Op.newarray.typeOf .double)) := fun _ => rfl
theorem niX0 : yX0_init.cls ≠ "java/lang/invoke/MethodHandle" ∧ yX0_init.cls ≠ "java/lang/invoke/VarHandle" ∧ (parseMethodDescriptor yX0_init.desc).map (fun d => d.parameters.length) = some 0 := ⟨by decide +kernel, by decide +kernel, by decide +kernel⟩
theorem niX1 : yX1_init.cls ≠ "java/lang/invoke/MethodHandle" ∧ yX1_init.cls ≠ "java/lang/invoke/VarHandle" ∧ (parseMethodDescriptor yX1_init.desc).map (fun d => d.parameters.length) = some 0 := ⟨by decide +kernel, by decide +kernel, by decide +kernel⟩
theorem niX2 : yX2_init.cls ≠ "java/lang/invoke/MethodHandle" ∧ yX2_init.cls ≠ "java/lang/invoke/VarHandle" ∧ (parseMethodDescriptor yX2_init.desc).map (fun d => d.parameters.length) = some 1 := ⟨by decide +kernel, by decide +kernel, by decide +kernel⟩
theorem niX3 : yX3_init.cls ≠ "java/lang/invoke/MethodHandle" ∧ yX3_init.cls ≠ "java/lang/invoke/VarHandle" ∧ (parseMethodDescriptor yX3_init.desc).map (fun d => d.parameters.length) = some 0 := ⟨by decide +kernel, by decide +kernel, by decide +kernel⟩
theorem niX4 : yX4_init.cls ≠ "java/lang/invoke/MethodHandle" ∧ yX4_init.cls ≠ "java/lang/invoke/VarHandle" ∧ (parseMethodDescriptor yX4_init.desc).map (fun d => d.parameters.length) = some 0 := ⟨by decide +kernel, by decide +kernel, by decide +kernel⟩
theorem niX5 : yX5_init.cls ≠ "java/lang/invoke/MethodHandle" ∧ yX5_init.cls ≠ "java/lang/invoke/VarHandle" ∧ (parseMethodDescriptor yX5_init.desc).map (fun d => d.parameters.length) = some 0 := ⟨by decide +kernel, by decide +kernel, by decide +kernel⟩
theorem niX6 : yX6_init.cls ≠ "java/lang/invoke/MethodHandle" ∧ yX6_init.cls ≠ "java/lang/invoke/VarHandle" ∧ (parseMethodDescriptor yX6_init.desc).map (fun d => d.parameters.length) = some 1 := ⟨by decide +kernel, by decide +kernel, by decide +kernel⟩
theorem niX7 : yX7_init.cls ≠ "java/lang/invoke/MethodHandle" ∧ yX7_init.cls ≠ "java/lang/invoke/VarHandle" ∧ (parseMethodDescriptor yX7_init.desc).map (fun d => d.parameters.length) = some 1 := ⟨by decide +kernel, by decide +kernel, by decide +kernel⟩
theorem niX8 : yX8_init.cls ≠ "java/lang/invoke/MethodHandle" ∧ yX8_init.cls ≠ "java/lang/invoke/VarHandle" ∧ (parseMethodDescriptor yX8_init.desc).map (fun d => d.parameters.length) = some 0 := ⟨by decide +kernel, by decide +kernel, by decide +kernel⟩
/-! frames over a range -/
theorem fr_0 {w : Wo} {lo hi : Nat} : ∀ q : Nat, (q < lo ∨ hi ≤ q) → w q = w q := fun _ _ => rfl
theorem fr_1 {w w1 w2 : Wo} {lo hi x : Nat} (hx : lo ≤ x ∧ x < hi) (hn : ∀ q : Nat, q ≠ x → w2 q = w1 q) (h : ∀ q : Nat, (q < lo ∨ hi ≤ q) → w1 q = w q) : ∀ q : Nat, (q < lo ∨ hi ≤ q) → w2 q = w q := fun q z => (hn q (by omega)).trans (h q z)
theorem fr_2 {w w1 w2 : Wo} {lo hi x x2 : Nat} (hx : lo ≤ x ∧ x < hi ∧ lo ≤ x2 ∧ x2 < hi) (hn : ∀ q : Nat, q ≠ x → q ≠ x2 → w2 q = w1 q) (h : ∀ q : Nat, (q < lo ∨ hi ≤ q) → w1 q = w q) : ∀ q : Nat, (q < lo ∨ hi ≤ q) → w2 q = w q := fun q z => (hn q (by omega) (by omega)).trans (h q z)
theorem fr_3 {w w1 w2 : Wo} {lo hi x x2 x3 : Nat} (hx : lo ≤ x ∧ x < hi ∧ lo ≤ x2 ∧ x2 < hi ∧ lo ≤ x3 ∧ x3 < hi) (hn : ∀ q : Nat, q ≠ x → q ≠ x2 → q ≠ x3 → w2 q = w1 q) (h : ∀ q : Nat, (q < lo ∨ hi ≤ q) → w1 q = w q) : ∀ q : Nat, (q < lo ∨ hi ≤ q) → w2 q = w q := fun q z => (hn q (by omega) (by omega) (by omega)).trans (h q z)
theorem fr_4 {w w1 w2 : Wo} {lo hi x x2 x3 x4 : Nat} (hx : lo ≤ x ∧ x < hi ∧ lo ≤ x2 ∧ x2 < hi ∧ lo ≤ x3 ∧ x3 < hi ∧ lo ≤ x4 ∧ x4 < hi) (hn : ∀ q : Nat, q ≠ x → q ≠ x2 → q ≠ x3 → q ≠ x4 → w2 q = w1 q) (h : ∀ q : Nat, (q < lo ∨ hi ≤ q) → w1 q = w q) : ∀ q : Nat, (q < lo ∨ hi ≤ q) → w2 q = w q := fun q z => (hn q (by omega) (by omega) (by omega) (by omega)).trans (h q z)
theorem fr_R {w w1 w2 : Wo} {lo hi x y : Nat} (hx : lo ≤ x ∧ y ≤ hi ∧ x ≤ y) (hn : ∀ q : Nat, (q < x ∨ y ≤ q) → w2 q = w1 q) (h : ∀ q : Nat, (q < lo ∨ hi ≤ q) → w1 q = w q) : ∀ q : Nat, (q < lo ∨ hi ≤ q) → w2 q = w q := fun q z => (hn q (by omega)).trans (h q z)
theorem lv_1 {X : Cx} {w w2 : Wo} {p x : Nat} {σ : Int → Int} (h : loomAt X w p σ) (hx : x < p ∨ p + 25 ≤ x) (hn : ∀ q : Nat, q ≠ x → w2 q = w q) : loomAt X w2 p σ := h.mv (fun q h1 h2 => hn q (by omega))
theorem lv_2 {X : Cx} {w w2 : Wo} {p x x2 : Nat} {σ : Int → Int} (h : loomAt X w p σ) (hx : (x < p ∨ p + 25 ≤ x) ∧ (x2 < p ∨ p + 25 ≤ x2)) (hn : ∀ q : Nat, q ≠ x → q ≠ x2 → w2 q = w q) : loomAt X w2 p σ := h.mv (fun q h1 h2 => hn q (by omega) (by omega))
theorem lv_3 {X : Cx} {w w2 : Wo} {p x x2 x3 : Nat} {σ : Int → Int} (h : loomAt X w p σ) (hx : (x < p ∨ p + 25 ≤ x) ∧ (x2 < p ∨ p + 25 ≤ x2) ∧ (x3 < p ∨ p + 25 ≤ x3)) (hn : ∀ q : Nat, q ≠ x → q ≠ x2 → q ≠ x3 → w2 q = w q) : loomAt X w2 p σ := h.mv (fun q h1 h2 => hn q (by omega) (by omega) (by omega))
theorem lv_R {X : Cx} {w w2 : Wo} {p x y : Nat} {σ : Int → Int} (h : loomAt X w p σ) (hx : y ≤ p ∨ p + 25 ≤ x) (hn : ∀ q : Nat, (q < x ∨ y ≤ q) → w2 q = w q) : loomAt X w2 p σ := h.mv (fun q h1 h2 => hn q (by omega))
theorem hv_1 {X : Cx} {w w2 : Wo} {p x : Nat} {nx sz : Int} {pas : Int → Int → Int} (h : hisAt X w p nx sz pas) (hx : x < p ∨ p + 202 ≤ x) (hn : ∀ q : Nat, q ≠ x → w2 q = w q) : hisAt X w2 p nx sz pas := h.mv (fun q h1 h2 => hn q (by omega))
theorem hv_2 {X : Cx} {w w2 : Wo} {p x x2 : Nat} {nx sz : Int} {pas : Int → Int → Int} (h : hisAt X w p nx sz pas) (hx : (x < p ∨ p + 202 ≤ x) ∧ (x2 < p ∨ p + 202 ≤ x2)) (hn : ∀ q : Nat, q ≠ x → q ≠ x2 → w2 q = w q) : hisAt X w2 p nx sz pas := h.mv (fun q h1 h2 => hn q (by omega) (by omega))
theorem hv_3 {X : Cx} {w w2 : Wo} {p x x2 x3 : Nat} {nx sz : Int} {pas : Int → Int → Int} (h : hisAt X w p nx sz pas) (hx : (x < p ∨ p + 202 ≤ x) ∧ (x2 < p ∨ p + 202 ≤ x2) ∧ (x3 < p ∨ p + 202 ≤ x3)) (hn : ∀ q : Nat, q ≠ x → q ≠ x2 → q ≠ x3 → w2 q = w q) : hisAt X w2 p nx sz pas := h.mv (fun q h1 h2 => hn q (by omega) (by omega) (by omega))
theorem hv_R {X : Cx} {w w2 : Wo} {p x y : Nat} {nx sz : Int} {pas : Int → Int → Int} (h : hisAt X w p nx sz pas) (hx : y ≤ p ∨ p + 202 ≤ x) (hn : ∀ q : Nat, (q < x ∨ y ≤ q) → w2 q = w q) : hisAt X w2 p nx sz pas := h.mv (fun q h1 h2 => hn q (by omega))
