/-! ===== the kit of p44 ===== -/
theorem kw_cloneI : Cond.sameMethod "[I" "java/lang/Object" "clone" "()Ljava/lang/Object;" ∈ BIG := big_at 1787 (by decide +kernel) (by decide +kernel)
theorem kv_clone : Cond.native ⟨"java/lang/Object", "clone", "()Ljava/lang/Object;"⟩ ∈ BIG := big_at 603 (by decide +kernel) (by decide +kernel)
theorem ki_clone : Cond.instanceMethod ⟨"java/lang/Object", "clone", "()Ljava/lang/Object;"⟩ ∈ BIG := big_at 604 (by decide +kernel) (by decide +kernel)
theorem ks_cloneI : Cond.selects "[I" ⟨"[I", "clone", "()Ljava/lang/Object;"⟩ ⟨"java/lang/Object", "clone", "()Ljava/lang/Object;"⟩ ∈ BIG := big_at 1788 (by decide +kernel) (by decide +kernel)
theorem haCY : Cond.arrayClass .byte ∈ BIG := big_at 685 (by decide +kernel) (by decide +kernel)
abbrev rmG (f mc ms l : Nat) : Room := { frames := f, cells := mc, slots := ms, locals := l }
abbrev aY (X : Cx) (n : Nat) (f : Int → Int) : va_E := .inl (X.2.1 2, n, .inl (fun j : Nat => iI (f (j : Int))))
/-- a contract whose answer P speaks of -/
def CR (l : Launch) (X : Cx) (y : MethodName) (cb : ByteArray) (maxL : Nat) (ret : Option FieldType) (rm : Room) (As : List Value) (w : Wo) (P : Value → Wo → Prop) : Prop :=
  Met l y (Cond.code y cb maxL ret :: BIG) rm (va_Pc As (fun U => Wd X w U U.heap)) (fun _ st oc t => (∃ (v : Value) (w' : Wo), oc = .returned (some v) ∧ P v w' ∧ cxH X w' t.heap) ∧ va_F (cxA X) st t) rm.cells rm.slots (cxA X)
abbrev MR (X : Cx) (below : List Frame) (args : Array Value) (s : State) (mc ms : Nat) (P : Value → Wo → Prop) : State → Prop := MQ below (fun _ st oc t => (∃ (v : Value) (w' : Wo), oc = .returned (some v) ∧ P v w' ∧ cxH X w' t.heap) ∧ va_F (cxA X) st t) args s mc ms (cxA X)
/-- all that was known is known still -/
def ext (w w' : Wo) : Prop := ∀ (q : Nat) (e : va_E), w q = some e → w' q = some e
/-- a lies above all that is known -/
def frs (w : Wo) (a : Nat) : Prop := ∀ (q : Nat) (e : va_E), w q = some e → q < a
theorem ext.rf (w : Wo) : ext w w := fun _ _ h => h
theorem ext.tr {w w1 w2 : Wo} (h : ext w w1) (g : ext w1 w2) : ext w w2 := fun q e k => g q e (h q e k)
theorem frs.dn {w w1 : Wo} {a : Nat} (h : frs w1 a) (g : ext w w1) : frs w a := fun q e k => h q e (g q e k)
section KA
variable {p : Program} {l : Launch} {e : Env} {R : Room} {s : State} {m : MethodId} {args : Array Value} {below : List Frame} {meth : Method} {c : Code} {H H0 : Heap} {locs : List Loc} {cells slots : Nat} {Q : State → Prop}
  {cc : ByteArray} {nL pc : Nat} {own : String} {ls : Array Slot} {rest : List Value} {X : Cx} {w : Wo} {lv0 : List (Nat × Value)}
theorem fr0 (hW : Wd X w s H) : frs w H.size := fun q e h => va_at.lt (hW.1.1 q e h).1
theorem CR.of {y : MethodName} {cb : ByteArray} {maxL : Nat} {ret : Option FieldType} {rm : Room} {As : List Value} {P : Value → Wo → Prop} {lv : List (Nat × Value)} (hy : plainName y.cls = true) (hlen : (lg_sl As).length ≤ maxL) (hlv : lv_args 0 As = lv)
    (body : ∀ (p : Program) (e : Env) (s : State) (m : MethodId) (below : List Frame) (meth : Method) (c : Code) (ls : Array Slot), Fx p m c cb maxL s As.toArray y.cls → meth.sig.returnType = ret → meth.locks = false → meth.name = y.name → Wd X w s s.heap → va_S (cxA X) s.heap s.heap [] → lv_has ls maxL lv →
      W p l e rm s m As.toArray below meth c s.heap [] 0 0 (MR X below As.toArray s rm.cells rm.slots P) (F0 m 0 ls [])) : CR l X y cb maxL ret rm As w P := by
  refine Met.ofW (cc := cb) (maxL := maxL) (ret := ret) hy rfl ?_
  intro p e s m args below meth c s₁ B hml hv
  obtain ⟨rfl, hW⟩ := hv
  have hts := atoms_spec (ws := Cond.code y cb maxL ret :: BIG) B.pre
  have hl := lv_entry As (n := maxL) hlen
  rw [lg_entry_eq]
  generalize (lg_sl As ++ List.replicate (maxL - (lg_sl As).length) Slot.unset).toArray = ls at hl ⊢
  rw [hlv] at hl
  exact body p e s m below meth c ls ⟨B.exec, B.bytes, hml, findClass_of_methodNamed B.named, fun w h => hts w (List.mem_cons_of_mem _ h)⟩ B.returns B.notSynchronized (name_of_methodNamed B.named B.method).1 hW va_S.rf hl
/-- the end of a method: as much room as the contract says -/
theorem W.wd {mc ms : Nat} {g : JFrame} (h1 : cells ≤ mc) (h2 : slots ≤ ms) (k : W p l e R s m args below meth c H locs mc ms Q g) : W p l e R s m args below meth c H locs cells slots Q g := W.widen h1 h2 k
theorem r_ireti {P : Value → Wo → Prop} {x : Int32} (F : Fx p m c cc nL s args own) (hr : meth.sig.returnType = some .int) (hlk : meth.locks = false) (hW : Wd X w s H) (hS : va_S (cxA X) s.heap H locs) (hP : P (.int x) w) (hd : decode cc pc = .ok (.ireturn, 1)) :
    W p l e R s m args below meth c H locs cells slots (MR X below args s cells slots P) (F0 m pc ls [.int x]) :=
  W.iret F.1 F.2.1 hr (fun t ht _ => ⟨⟨_, w, rfl, hP, by rw [ht]; exact hW.1⟩, hS.F ht⟩) hS.2.2 hd hlk
theorem r_iretz {P : Value → Wo → Prop} {b : Bool} (F : Fx p m c cc nL s args own) (hr : meth.sig.returnType = some .boolean) (hlk : meth.locks = false) (hW : Wd X w s H) (hS : va_S (cxA X) s.heap H locs) (hP : P (.int (iI (bz b))) w) (hd : decode cc pc = .ok (.ireturn, 1)) :
    W p l e R s m args below meth c H locs cells slots (MR X below args s cells slots P) (F0 m pc ls [.int (iI (bz b))]) :=
  W.zret F.1 F.2.1 hr (by cases b <;> rfl) (fun t ht _ => ⟨⟨_, w, rfl, hP, by rw [ht]; exact hW.1⟩, hS.F ht⟩) hS.2.2 hd hlk
theorem r_aret {P : Value → Wo → Prop} {x : Nat} (F : Fx p m c cc nL s args own) (hr : (∃ C, meth.sig.returnType = some (.object C)) ∨ ∃ E, meth.sig.returnType = some (.array E)) (hlk : meth.locks = false) (hW : Wd X w s H) (hS : va_S (cxA X) s.heap H locs) (hP : P (.ref x) w) (hd : decode cc pc = .ok (.areturn, 1)) :
    W p l e R s m args below meth c H locs cells slots (MR X below args s cells slots P) (F0 m pc ls [.ref x]) := by
  rcases hr with ⟨C, hr⟩ | ⟨E, hr⟩
  · exact W.aret F.1 F.2.1 hr (Or.inl ⟨C, rfl⟩) (Or.inr ⟨x, rfl⟩) (fun t ht _ => ⟨⟨_, w, rfl, hP, by rw [ht]; exact hW.1⟩, hS.F ht⟩) hS.2.2 hd hlk
  · exact W.aret F.1 F.2.1 hr (Or.inr ⟨E, rfl⟩) (Or.inr ⟨x, rfl⟩) (fun t ht _ => ⟨⟨_, w, rfl, hP, by rw [ht]; exact hW.1⟩, hS.F ht⟩) hS.2.2 hd hlk
theorem r_nret {P : Value → Wo → Prop} {C : String} (F : Fx p m c cc nL s args own) (hr : meth.sig.returnType = some (.object C)) (hlk : meth.locks = false) (hW : Wd X w s H) (hS : va_S (cxA X) s.heap H locs) (hP : P .null w) (hd : decode cc pc = .ok (.areturn, 1)) :
    W p l e R s m args below meth c H locs cells slots (MR X below args s cells slots P) (F0 m pc ls [.null]) :=
  W.aret F.1 F.2.1 hr (Or.inl ⟨C, rfl⟩) (Or.inl rfl) (fun t ht _ => ⟨⟨_, w, rfl, hP, by rw [ht]; exact hW.1⟩, hS.F ht⟩) hS.2.2 hd hlk
theorem r_callV {C : String} {y : MethodName} {ci N a : Nat} {T : u_T} {fs : List Value} {cb : ByteArray} {maxL index n : Nat} {ret : Option FieldType} {rm : Room} {As st : List Value} {P : Value → Wo → Prop} (F : Fx p m c cc nL s args own) (hl : lv_has ls nL lv0) (hM : CR l X y cb maxL ret rm (.ref a :: As) w P) (hW : Wd X w s H) (hS : va_S (cxA X) H0 H locs)
    (hG : GoodIn BIG (wsV own index C y (Cond.code y cb maxL ret :: BIG))) (hy : y.cls = C ∧ y.cls ≠ "java/lang/invoke/MethodHandle" ∧ y.cls ≠ "java/lang/invoke/VarHandle" ∧ (parseMethodDescriptor y.desc).map (fun d => d.parameters.length) = some n) (hc : vwCl[ci]? = some (C, T, N)) (ha : w a = some (.inr (ci, fs))) (hst : st = As.reverse ++ .ref a :: rest) (hn : As.length = n) (hR : rm.frames + 1 ≤ R.frames ∧ 8 + (maxL + 11) + rm.locals ≤ R.locals) (hcat : (rest.map fun v => v.category).sum ≤ 8) (hf : cells + rm.cells ≤ R.cells ∧ slots + rm.slots ≤ R.slots) (hd : decode cc pc = .ok (.invokevirtual index, 3))
    (kk : ∀ (v : Value) (w1 : Wo) (H1 : Heap) (locs1 : List Loc), P v w1 → Wd X w1 s H1 → va_S (cxA X) H0 H1 locs1 → W p l e R s m args below meth c H1 locs1 (cells + rm.cells) (slots + rm.slots) Q (F0 m (pc + 3) ls (v :: rest))) : W p l e R s m args below meth c H locs cells slots Q (F0 m pc ls st) := by
  have hr := va_runV (p := p) (l := l) (e := e) (R := R) (s := s) (m := m) (args := args) (below := below) (meth := meth) (c := c) (H := H) (locs := locs) (cells := cells) (slots := slots) (g := F0 m pc ls st) (As := As) (rest := rest) F hM (cwV n F.2.2.2.2 hG rfl rfl rfl hy hR)
    ⟨fun a U g mk q => ⟨q.1, Wd.call q.2⟩, va_recv hW.2.1.1 (h_one hW ha) hc (q0 := 0) rfl, fun U hU hWm => ⟨rfl, by show Wd X w U U.heap; rw [hU]; exact hW.warm hWm⟩⟩ rfl hn hl.1 hst (by show 2 * 0 + _ ≤ 8; rw [Nat.mul_zero, Nat.zero_add]; exact hcat) hd hf
  intro T9 hT X9
  obtain ⟨v9, st₀, t, T', L, h0, X', hL, e1, e2, ⟨⟨v, w1, hv, hp, hb⟩, hz, hk⟩, st9⟩ := hr T9 hT X9
  cases hv
  rw [h0] at hz hk
  have hk1 : ∀ q : Nat, q < H.size → ¬ cxA X q → T'.heap[q]? = H[q]? := fun q h1 h2 => by rw [e1]; exact hk q h1 h2
  obtain ⟨t2, a1, b1⟩ := kk v w1 T'.heap (locs ++ L) hp ⟨by rw [e1]; exact hb, hW.2.1, hW.2.2.kept hk1⟩ ⟨Nat.le_trans hS.1 (by rw [e1]; exact hz), fun q h1 h2 => by rw [hk1 q (Nat.lt_of_lt_of_le h1 hS.1) h2]; exact hS.2.1 q h1 h2, fun q hq => by
      rcases List.mem_append.mp hq with h | h
      · exact hS.2.2 q h
      · exact hL q h⟩ T' rfl X'
  exact ⟨t2, st9 t2 a1, b1⟩
theorem r_callS {y : MethodName} {cb : ByteArray} {maxL index n : Nat} {ret : Option FieldType} {rm : Room} {As st : List Value} {P : Value → Wo → Prop} (F : Fx p m c cc nL s args own) (hl : lv_has ls nL lv0) (hM : CR l X y cb maxL ret rm As w P) (hW : Wd X w s H) (hS : va_S (cxA X) H0 H locs)
    (hG : GoodIn BIG (va_wsS own index y (Cond.code y cb maxL ret :: BIG))) (hy : y.cls ≠ "java/lang/invoke/MethodHandle" ∧ y.cls ≠ "java/lang/invoke/VarHandle" ∧ (parseMethodDescriptor y.desc).map (fun d => d.parameters.length) = some n) (hst : st = As.reverse ++ rest) (hn : As.length = n) (hR : rm.frames + 1 ≤ R.frames ∧ 8 + (maxL + 11) + rm.locals ≤ R.locals) (hcat : (rest.map fun v => v.category).sum ≤ 8) (hf : cells + rm.cells ≤ R.cells ∧ slots + rm.slots ≤ R.slots) (hd : decode cc pc = .ok (.invokestatic index, 3))
    (kk : ∀ (v : Value) (w1 : Wo) (H1 : Heap) (locs1 : List Loc), P v w1 → Wd X w1 s H1 → va_S (cxA X) H0 H1 locs1 → W p l e R s m args below meth c H1 locs1 (cells + rm.cells) (slots + rm.slots) Q (F0 m (pc + 3) ls (v :: rest))) : W p l e R s m args below meth c H locs cells slots Q (F0 m pc ls st) := by
  have hr := va_runS (p := p) (l := l) (e := e) (R := R) (s := s) (m := m) (args := args) (below := below) (meth := meth) (c := c) (H := H) (locs := locs) (cells := cells) (slots := slots) (g := F0 m pc ls st) (As := As) (rest := rest) F hM (va_cwS n F.2.2.2.2 hG rfl rfl rfl hy hR)
    ⟨fun a U g mk q => ⟨q.1, Wd.call q.2⟩, fun U hU hWm => ⟨rfl, by show Wd X w U U.heap; rw [hU]; exact hW.warm hWm⟩⟩ rfl hn hl.1 hst (by show 2 * 0 + _ ≤ 8; rw [Nat.mul_zero, Nat.zero_add]; exact hcat) hd hf
  intro T9 hT X9
  obtain ⟨v9, st₀, t, T', L, h0, X', hL, e1, e2, ⟨⟨v, w1, hv, hp, hb⟩, hz, hk⟩, st9⟩ := hr T9 hT X9
  cases hv
  rw [h0] at hz hk
  have hk1 : ∀ q : Nat, q < H.size → ¬ cxA X q → T'.heap[q]? = H[q]? := fun q h1 h2 => by rw [e1]; exact hk q h1 h2
  obtain ⟨t2, a1, b1⟩ := kk v w1 T'.heap (locs ++ L) hp ⟨by rw [e1]; exact hb, hW.2.1, hW.2.2.kept hk1⟩ ⟨Nat.le_trans hS.1 (by rw [e1]; exact hz), fun q h1 h2 => by rw [hk1 q (Nat.lt_of_lt_of_le h1 hS.1) h2]; exact hS.2.1 q h1 h2, fun q hq => by
      rcases List.mem_append.mp hq with h | h
      · exact hS.2.2 q h
      · exact hL q h⟩ T' rfl X'
  exact ⟨t2, st9 t2 a1, b1⟩
theorem r_callVs {C : String} {y : MethodName} {a : Nat} {cb : ByteArray} {maxL index n : Nat} {ret : Option FieldType} {rm : Room} {As st : List Value} {P : Value → Wo → Prop} (F : Fx p m c cc nL s args own) (hl : lv_has ls nL lv0) (hM : CR l X y cb maxL ret rm (.ref a :: As) w P) (hW : Wd X w s H) (hS : va_S (cxA X) H0 H locs)
    (hG : GoodIn BIG (wsV own index C y (Cond.code y cb maxL ret :: BIG))) (hy : y.cls = C ∧ y.cls ≠ "java/lang/invoke/MethodHandle" ∧ y.cls ≠ "java/lang/invoke/VarHandle" ∧ (parseMethodDescriptor y.desc).map (fun d => d.parameters.length) = some n) (hrc : ∃ cell : Cell, H[a]? = some cell ∧ cell.vm.isStatics = false ∧ s.vm.findClass C = some cell.cls) (hst : st = As.reverse ++ .ref a :: rest) (hn : As.length = n) (hR : rm.frames + 1 ≤ R.frames ∧ 8 + (maxL + 11) + rm.locals ≤ R.locals) (hcat : (rest.map fun v => v.category).sum ≤ 8) (hf : cells + rm.cells ≤ R.cells ∧ slots + rm.slots ≤ R.slots) (hd : decode cc pc = .ok (.invokevirtual index, 3))
    (kk : ∀ (v : Value) (w1 : Wo) (H1 : Heap) (locs1 : List Loc), P v w1 → Wd X w1 s H1 → va_S (cxA X) H0 H1 locs1 → W p l e R s m args below meth c H1 locs1 (cells + rm.cells) (slots + rm.slots) Q (F0 m (pc + 3) ls (v :: rest))) : W p l e R s m args below meth c H locs cells slots Q (F0 m pc ls st) := by
  have hr := va_runV (p := p) (l := l) (e := e) (R := R) (s := s) (m := m) (args := args) (below := below) (meth := meth) (c := c) (H := H) (locs := locs) (cells := cells) (slots := slots) (g := F0 m pc ls st) (As := As) (rest := rest) F hM (cwV n F.2.2.2.2 hG rfl rfl rfl hy hR)
    ⟨fun a U g mk q => ⟨q.1, Wd.call q.2⟩, hrc, fun U hU hWm => ⟨rfl, by show Wd X w U U.heap; rw [hU]; exact hW.warm hWm⟩⟩ rfl hn hl.1 hst (by show 2 * 0 + _ ≤ 8; rw [Nat.mul_zero, Nat.zero_add]; exact hcat) hd hf
  intro T9 hT X9
  obtain ⟨v9, st₀, t, T', L, h0, X', hL, e1, e2, ⟨⟨v, w1, hv, hp, hb⟩, hz, hk⟩, st9⟩ := hr T9 hT X9
  cases hv
  rw [h0] at hz hk
  have hk1 : ∀ q : Nat, q < H.size → ¬ cxA X q → T'.heap[q]? = H[q]? := fun q h1 h2 => by rw [e1]; exact hk q h1 h2
  obtain ⟨t2, a1, b1⟩ := kk v w1 T'.heap (locs ++ L) hp ⟨by rw [e1]; exact hb, hW.2.1, hW.2.2.kept hk1⟩ ⟨Nat.le_trans hS.1 (by rw [e1]; exact hz), fun q h1 h2 => by rw [hk1 q (Nat.lt_of_lt_of_le h1 hS.1) h2]; exact hS.2.1 q h1 h2, fun q hq => by
      rcases List.mem_append.mp hq with h | h
      · exact hS.2.2 q h
      · exact hL q h⟩ T' rfl X'
  exact ⟨t2, st9 t2 a1, b1⟩
theorem h_callVN {C host : String} {y : MethodName} {ci N a : Nat} {T : u_T} {fs : List Value} {cb : ByteArray} {maxL index n : Nat} {ret : Option FieldType} {rm : Room} {As st : List Value} {v : Option Value} {P : Wo → Prop} (F : Fx p m c cc nL s args own) (hl : lv_has ls nL lv0) (hM : CM l X y cb maxL ret rm (.ref a :: As) w v P) (hW : Wd X w s H) (hS : va_S (cxA X) H0 H locs)
    (hG : Cond.code y cb maxL ret ∈ BIG ∧ Cond.initialized y.cls ∈ BIG ∧ Cond.instanceMethod y ∈ BIG ∧ Cond.selects C y y ∈ BIG) (hN : (own, index, y, host) ∈ nestL) (hy : y.cls = C ∧ y.cls ≠ "java/lang/invoke/MethodHandle" ∧ y.cls ≠ "java/lang/invoke/VarHandle" ∧ (parseMethodDescriptor y.desc).map (fun d => d.parameters.length) = some n) (hc : vwCl[ci]? = some (C, T, N)) (ha : w a = some (.inr (ci, fs))) (hst : st = As.reverse ++ .ref a :: rest) (hn : As.length = n) (hR : rm.frames + 1 ≤ R.frames ∧ 8 + (maxL + 11) + rm.locals ≤ R.locals) (hcat : (rest.map fun v => v.category).sum ≤ 8) (hf : cells + rm.cells ≤ R.cells ∧ slots + rm.slots ≤ R.slots) (hd : decode cc pc = .ok (.invokevirtual index, 3))
    (kk : ∀ (w1 : Wo) (H1 : Heap) (locs1 : List Loc), P w1 → Wd X w1 s H1 → va_S (cxA X) H0 H1 locs1 → W p l e R s m args below meth c H1 locs1 (cells + rm.cells) (slots + rm.slots) Q (F0 m (pc + 3) ls (v.toList ++ rest))) : W p l e R s m args below meth c H locs cells slots Q (F0 m pc ls st) := by
  have hr := va_runVN (p := p) (l := l) (e := e) (R := R) (s := s) (m := m) (args := args) (below := below) (meth := meth) (c := c) (H := H) (locs := locs) (cells := cells) (slots := slots) (g := F0 m pc ls st) (As := As) (rest := rest) F hM ⟨va_cnB n F.2.2.2.2 (big_in hG.1) rfl rfl rfl (hW.2.1.2.2.1 _ hN) (F.2.2.2.2 _ hG.2.1) hy.2 hR, F.2.2.2.2 _ hG.2.2.1, by rw [← hy.1]; exact F.2.2.2.2 _ (by rw [hy.1]; exact hG.2.2.2)⟩
    ⟨fun a U g mk q => ⟨q.1, Wd.call q.2⟩, va_recv hW.2.1.1 (h_one hW ha) hc (q0 := 0) rfl, fun U hU hWm => ⟨rfl, by show Wd X w U U.heap; rw [hU]; exact hW.warm hWm⟩⟩ rfl hn hl.1 hst (by show 2 * 0 + _ ≤ 8; rw [Nat.mul_zero, Nat.zero_add]; exact hcat) hd hf
  intro T9 hT X9
  obtain ⟨v9, st₀, t, T', L, h0, X', hL, e1, e2, ⟨⟨w1, hv, hp, hb⟩, hz, hk⟩, st9⟩ := hr T9 hT X9
  cases hv
  rw [h0] at hz hk
  have hk1 : ∀ q : Nat, q < H.size → ¬ cxA X q → T'.heap[q]? = H[q]? := fun q h1 h2 => by rw [e1]; exact hk q h1 h2
  obtain ⟨t2, a1, b1⟩ := kk w1 T'.heap (locs ++ L) hp ⟨by rw [e1]; exact hb, hW.2.1, hW.2.2.kept hk1⟩ ⟨Nat.le_trans hS.1 (by rw [e1]; exact hz), fun q h1 h2 => by rw [hk1 q (Nat.lt_of_lt_of_le h1 hS.1) h2]; exact hS.2.1 q h1 h2, fun q hq => by
      rcases List.mem_append.mp hq with h | h
      · exact hS.2.2 q h
      · exact hL q h⟩ T' rfl X'
  exact ⟨t2, st9 t2 a1, b1⟩
theorem r_callVN {C host : String} {y : MethodName} {ci N a : Nat} {T : u_T} {fs : List Value} {cb : ByteArray} {maxL index n : Nat} {ret : Option FieldType} {rm : Room} {As st : List Value} {P : Value → Wo → Prop} (F : Fx p m c cc nL s args own) (hl : lv_has ls nL lv0) (hM : CR l X y cb maxL ret rm (.ref a :: As) w P) (hW : Wd X w s H) (hS : va_S (cxA X) H0 H locs)
    (hG : Cond.code y cb maxL ret ∈ BIG ∧ Cond.initialized y.cls ∈ BIG ∧ Cond.instanceMethod y ∈ BIG ∧ Cond.selects C y y ∈ BIG) (hN : (own, index, y, host) ∈ nestL) (hy : y.cls = C ∧ y.cls ≠ "java/lang/invoke/MethodHandle" ∧ y.cls ≠ "java/lang/invoke/VarHandle" ∧ (parseMethodDescriptor y.desc).map (fun d => d.parameters.length) = some n) (hc : vwCl[ci]? = some (C, T, N)) (ha : w a = some (.inr (ci, fs))) (hst : st = As.reverse ++ .ref a :: rest) (hn : As.length = n) (hR : rm.frames + 1 ≤ R.frames ∧ 8 + (maxL + 11) + rm.locals ≤ R.locals) (hcat : (rest.map fun v => v.category).sum ≤ 8) (hf : cells + rm.cells ≤ R.cells ∧ slots + rm.slots ≤ R.slots) (hd : decode cc pc = .ok (.invokevirtual index, 3))
    (kk : ∀ (v : Value) (w1 : Wo) (H1 : Heap) (locs1 : List Loc), P v w1 → Wd X w1 s H1 → va_S (cxA X) H0 H1 locs1 → W p l e R s m args below meth c H1 locs1 (cells + rm.cells) (slots + rm.slots) Q (F0 m (pc + 3) ls (v :: rest))) : W p l e R s m args below meth c H locs cells slots Q (F0 m pc ls st) := by
  have hr := va_runVN (p := p) (l := l) (e := e) (R := R) (s := s) (m := m) (args := args) (below := below) (meth := meth) (c := c) (H := H) (locs := locs) (cells := cells) (slots := slots) (g := F0 m pc ls st) (As := As) (rest := rest) F hM ⟨va_cnB n F.2.2.2.2 (big_in hG.1) rfl rfl rfl (hW.2.1.2.2.1 _ hN) (F.2.2.2.2 _ hG.2.1) hy.2 hR, F.2.2.2.2 _ hG.2.2.1, by rw [← hy.1]; exact F.2.2.2.2 _ (by rw [hy.1]; exact hG.2.2.2)⟩
    ⟨fun a U g mk q => ⟨q.1, Wd.call q.2⟩, va_recv hW.2.1.1 (h_one hW ha) hc (q0 := 0) rfl, fun U hU hWm => ⟨rfl, by show Wd X w U U.heap; rw [hU]; exact hW.warm hWm⟩⟩ rfl hn hl.1 hst (by show 2 * 0 + _ ≤ 8; rw [Nat.mul_zero, Nat.zero_add]; exact hcat) hd hf
  intro T9 hT X9
  obtain ⟨v9, st₀, t, T', L, h0, X', hL, e1, e2, ⟨⟨v, w1, hv, hp, hb⟩, hz, hk⟩, st9⟩ := hr T9 hT X9
  cases hv
  rw [h0] at hz hk
  have hk1 : ∀ q : Nat, q < H.size → ¬ cxA X q → T'.heap[q]? = H[q]? := fun q h1 h2 => by rw [e1]; exact hk q h1 h2
  obtain ⟨t2, a1, b1⟩ := kk v w1 T'.heap (locs ++ L) hp ⟨by rw [e1]; exact hb, hW.2.1, hW.2.2.kept hk1⟩ ⟨Nat.le_trans hS.1 (by rw [e1]; exact hz), fun q h1 h2 => by rw [hk1 q (Nat.lt_of_lt_of_le h1 hS.1) h2]; exact hS.2.1 q h1 h2, fun q hq => by
      rcases List.mem_append.mp hq with h | h
      · exact hS.2.2 q h
      · exact hL q h⟩ T' rfl X'
  exact ⟨t2, st9 t2 a1, b1⟩
theorem m_callIN {host : String} {y : MethodName} {a : Nat} {cb : ByteArray} {maxL index n : Nat} {rm : Room} {As st : List Value} {P : Wo → Prop} (F : Fx p m c cc nL s args own) (hl : lv_has ls nL lv0) (hM : CM l X y cb maxL none rm (.ref a :: As) w none P) (hW : Wd X w s H) (hS : va_S (cxA X) H0 H locs)
    (hG : Cond.code y cb maxL none ∈ BIG ∧ Cond.initialized y.cls ∈ BIG ∧ (own, index, y, host) ∈ nestL ∧ Cond.instanceMethod y ∈ BIG) (hy1 : y.name = "<init>") (hy : y.cls ≠ "java/lang/invoke/MethodHandle" ∧ y.cls ≠ "java/lang/invoke/VarHandle" ∧ (parseMethodDescriptor y.desc).map (fun d => d.parameters.length) = some n) (hst : st = As.reverse ++ .ref a :: rest) (hn : As.length = n) (hR : rm.frames + 1 ≤ R.frames ∧ 8 + (maxL + 11) + rm.locals ≤ R.locals) (hcat : (rest.map fun v => v.category).sum ≤ 8) (hf : cells + rm.cells ≤ R.cells ∧ slots + rm.slots ≤ R.slots) (hd : decode cc pc = .ok (.invokespecial index, 3))
    (kk : ∀ (w1 : Wo) (H1 : Heap) (locs1 : List Loc), P w1 → Wd X w1 s H1 → va_S (cxA X) H0 H1 locs1 → W p l e R s m args below meth c H1 locs1 (cells + rm.cells) (slots + rm.slots) Q (F0 m (pc + 3) ls rest)) : W p l e R s m args below meth c H locs cells slots Q (F0 m pc ls st) := by
  have hr := va_runIN (p := p) (l := l) (e := e) (R := R) (s := s) (m := m) (args := args) (below := below) (meth := meth) (c := c) (H := H) (locs := locs) (cells := cells) (slots := slots) (g := F0 m pc ls st) (b := a) (As := As) (rest := rest) F hM ⟨va_cnB n F.2.2.2.2 (big_in hG.1) rfl rfl rfl (hW.2.1.2.2.1 _ hG.2.2.1) (F.2.2.2.2 _ hG.2.1) hy hR, hy1, F.2.2.2.2 _ hG.2.2.2⟩
    ⟨fun a U g mk q => ⟨q.1, Wd.call q.2⟩, fun U hU hWm => ⟨rfl, by show Wd X w U U.heap; rw [hU]; exact hW.warm hWm⟩⟩ rfl hn hl.1 hst (by show 2 * 0 + _ ≤ 8; rw [Nat.mul_zero, Nat.zero_add]; exact hcat) hd hf
  intro T9 hT X9
  obtain ⟨v9, st₀, t, T', L, h0, X', hL, e1, e2, ⟨⟨w1, hv, hp, hb⟩, hz, hk⟩, st9⟩ := hr T9 hT X9
  cases hv
  rw [h0] at hz hk
  have hk1 : ∀ q : Nat, q < H.size → ¬ cxA X q → T'.heap[q]? = H[q]? := fun q h1 h2 => by rw [e1]; exact hk q h1 h2
  obtain ⟨t2, a1, b1⟩ := kk w1 T'.heap (locs ++ L) hp ⟨by rw [e1]; exact hb, hW.2.1, hW.2.2.kept hk1⟩ ⟨Nat.le_trans hS.1 (by rw [e1]; exact hz), fun q h1 h2 => by rw [hk1 q (Nat.lt_of_lt_of_le h1 hS.1) h2]; exact hS.2.1 q h1 h2, fun q hq => by
      rcases List.mem_append.mp hq with h | h
      · exact hS.2.2 q h
      · exact hL q h⟩ T' rfl X'
  exact ⟨t2, st9 t2 a1, b1⟩
theorem h_callF {C : String} {x y : MethodName} {count : Nat} {ci N a : Nat} {T : u_T} {fs : List Value} {cb : ByteArray} {maxL index n : Nat} {ret : Option FieldType} {rm : Room} {As st : List Value} {v : Option Value} {P : Wo → Prop} (F : Fx p m c cc nL s args own) (hl : lv_has ls nL lv0) (hM : CM l X y cb maxL ret rm (.ref a :: As) w v P) (hW : Wd X w s H) (hS : va_S (cxA X) H0 H locs)
    (hG : GoodIn BIG (va_wsF own index C x y (Cond.code y cb maxL ret :: BIG))) (hF : (C, x, y) ∈ faceL) (hy : (parseMethodDescriptor x.desc).map (fun d => d.parameters.length) = some n) (hc : vwCl[ci]? = some (C, T, N)) (ha : w a = some (.inr (ci, fs))) (hst : st = As.reverse ++ .ref a :: rest) (hn : As.length = n) (hR : rm.frames + 1 ≤ R.frames ∧ 8 + (maxL + 11) + rm.locals ≤ R.locals) (hcat : (rest.map fun v => v.category).sum ≤ 8) (hf : cells + rm.cells ≤ R.cells ∧ slots + rm.slots ≤ R.slots) (hd : decode cc pc = .ok (.invokeinterface index count, 5))
    (kk : ∀ (w1 : Wo) (H1 : Heap) (locs1 : List Loc), P w1 → Wd X w1 s H1 → va_S (cxA X) H0 H1 locs1 → W p l e R s m args below meth c H1 locs1 (cells + rm.cells) (slots + rm.slots) Q (F0 m (pc + 5) ls (v.toList ++ rest))) : W p l e R s m args below meth c H locs cells slots Q (F0 m pc ls st) := by
  have hr := va_runF (p := p) (l := l) (e := e) (R := R) (s := s) (m := m) (args := args) (below := below) (meth := meth) (c := c) (H := H) (locs := locs) (cells := cells) (slots := slots) (g := F0 m pc ls st) (As := As) (rest := rest) ((hW.2.1.1.1 ci _ hc).2) F hM (va_cwF n F.2.2.2.2 hG rfl rfl rfl (hW.2.1.2.2.2.2.2.2.2.2.2.2.1 _ hF) ⟨(faceOK _ hF).1, (faceOK _ hF).2, hy⟩ hR)
    ⟨fun a U g mk q => ⟨q.1, Wd.call q.2⟩, va_recv hW.2.1.1 (h_one hW ha) hc (q0 := 0) rfl, fun U hU hWm => ⟨rfl, by show Wd X w U U.heap; rw [hU]; exact hW.warm hWm⟩⟩ rfl hn hl.1 hst (by show 2 * 0 + _ ≤ 8; rw [Nat.mul_zero, Nat.zero_add]; exact hcat) hd hf
  intro T9 hT X9
  obtain ⟨v9, st₀, t, T', L, h0, X', hL, e1, e2, ⟨⟨w1, hv, hp, hb⟩, hz, hk⟩, st9⟩ := hr T9 hT X9
  cases hv
  rw [h0] at hz hk
  have hk1 : ∀ q : Nat, q < H.size → ¬ cxA X q → T'.heap[q]? = H[q]? := fun q h1 h2 => by rw [e1]; exact hk q h1 h2
  obtain ⟨t2, a1, b1⟩ := kk w1 T'.heap (locs ++ L) hp ⟨by rw [e1]; exact hb, hW.2.1, hW.2.2.kept hk1⟩ ⟨Nat.le_trans hS.1 (by rw [e1]; exact hz), fun q h1 h2 => by rw [hk1 q (Nat.lt_of_lt_of_le h1 hS.1) h2]; exact hS.2.1 q h1 h2, fun q hq => by
      rcases List.mem_append.mp hq with h | h
      · exact hS.2.2 q h
      · exact hL q h⟩ T' rfl X'
  exact ⟨t2, st9 t2 a1, b1⟩
theorem h_callU {C owner : String} {x y : MethodName} {ci N a : Nat} {T : u_T} {fs : List Value} {cb : ByteArray} {maxL index n : Nat} {ret : Option FieldType} {rm : Room} {As st : List Value} {v : Option Value} {P : Wo → Prop} (F : Fx p m c cc nL s args own) (hl : lv_has ls nL lv0) (hM : CM l X y cb maxL ret rm (.ref a :: As) w v P) (hW : Wd X w s H) (hS : va_S (cxA X) H0 H locs)
    (hG : GoodIn BIG (va_wsU own index C owner x y (Cond.code y cb maxL ret :: BIG))) (hyx : y = ⟨owner, x.name, x.desc⟩) (hy : owner ≠ "java/lang/invoke/MethodHandle" ∧ owner ≠ "java/lang/invoke/VarHandle" ∧ (parseMethodDescriptor x.desc).map (fun d => d.parameters.length) = some n) (hc : vwCl[ci]? = some (C, T, N)) (ha : w a = some (.inr (ci, fs))) (hst : st = As.reverse ++ .ref a :: rest) (hn : As.length = n) (hR : rm.frames + 1 ≤ R.frames ∧ 8 + (maxL + 11) + rm.locals ≤ R.locals) (hcat : (rest.map fun v => v.category).sum ≤ 8) (hf : cells + rm.cells ≤ R.cells ∧ slots + rm.slots ≤ R.slots) (hd : decode cc pc = .ok (.invokevirtual index, 3))
    (kk : ∀ (w1 : Wo) (H1 : Heap) (locs1 : List Loc), P w1 → Wd X w1 s H1 → va_S (cxA X) H0 H1 locs1 → W p l e R s m args below meth c H1 locs1 (cells + rm.cells) (slots + rm.slots) Q (F0 m (pc + 3) ls (v.toList ++ rest))) : W p l e R s m args below meth c H locs cells slots Q (F0 m pc ls st) := by
  have hr := va_runU (p := p) (l := l) (e := e) (R := R) (s := s) (m := m) (args := args) (below := below) (meth := meth) (c := c) (H := H) (locs := locs) (cells := cells) (slots := slots) (g := F0 m pc ls st) (As := As) (rest := rest) F hM (va_cwU n F.2.2.2.2 hG rfl rfl rfl hyx hy hR)
    ⟨fun a U g mk q => ⟨q.1, Wd.call q.2⟩, va_recv hW.2.1.1 (h_one hW ha) hc (q0 := 0) rfl, fun U hU hWm => ⟨rfl, by show Wd X w U U.heap; rw [hU]; exact hW.warm hWm⟩⟩ rfl hn hl.1 hst (by show 2 * 0 + _ ≤ 8; rw [Nat.mul_zero, Nat.zero_add]; exact hcat) hd hf
  intro T9 hT X9
  obtain ⟨v9, st₀, t, T', L, h0, X', hL, e1, e2, ⟨⟨w1, hv, hp, hb⟩, hz, hk⟩, st9⟩ := hr T9 hT X9
  cases hv
  rw [h0] at hz hk
  have hk1 : ∀ q : Nat, q < H.size → ¬ cxA X q → T'.heap[q]? = H[q]? := fun q h1 h2 => by rw [e1]; exact hk q h1 h2
  obtain ⟨t2, a1, b1⟩ := kk w1 T'.heap (locs ++ L) hp ⟨by rw [e1]; exact hb, hW.2.1, hW.2.2.kept hk1⟩ ⟨Nat.le_trans hS.1 (by rw [e1]; exact hz), fun q h1 h2 => by rw [hk1 q (Nat.lt_of_lt_of_le h1 hS.1) h2]; exact hS.2.1 q h1 h2, fun q hq => by
      rcases List.mem_append.mp hq with h | h
      · exact hS.2.2 q h
      · exact hL q h⟩ T' rfl X'
  exact ⟨t2, st9 t2 a1, b1⟩
theorem h_callO {C owner : String} {x y : MethodName} {b0 : ByteArray} {m0 : Nat} {r0 : Option FieldType} {ci N a : Nat} {T : u_T} {fs : List Value} {cb : ByteArray} {maxL index n : Nat} {ret : Option FieldType} {rm : Room} {As st : List Value} {v : Option Value} {P : Wo → Prop} (F : Fx p m c cc nL s args own) (hl : lv_has ls nL lv0) (hM : CM l X y cb maxL ret rm (.ref a :: As) w v P) (hW : Wd X w s H) (hS : va_S (cxA X) H0 H locs)
    (hG : GoodIn BIG (va_wsO own index C owner x y (Cond.code y cb maxL ret :: BIG))) (h0 : Cond.code ⟨owner, x.name, x.desc⟩ b0 m0 r0 ∈ BIG) (hy : owner ≠ "java/lang/invoke/MethodHandle" ∧ owner ≠ "java/lang/invoke/VarHandle" ∧ (parseMethodDescriptor x.desc).map (fun d => d.parameters.length) = some n) (hc : vwCl[ci]? = some (C, T, N)) (ha : w a = some (.inr (ci, fs))) (hst : st = As.reverse ++ .ref a :: rest) (hn : As.length = n) (hR : rm.frames + 1 ≤ R.frames ∧ 8 + (maxL + 11) + rm.locals ≤ R.locals) (hcat : (rest.map fun v => v.category).sum ≤ 8) (hf : cells + rm.cells ≤ R.cells ∧ slots + rm.slots ≤ R.slots) (hd : decode cc pc = .ok (.invokevirtual index, 3))
    (kk : ∀ (w1 : Wo) (H1 : Heap) (locs1 : List Loc), P w1 → Wd X w1 s H1 → va_S (cxA X) H0 H1 locs1 → W p l e R s m args below meth c H1 locs1 (cells + rm.cells) (slots + rm.slots) Q (F0 m (pc + 3) ls (v.toList ++ rest))) : W p l e R s m args below meth c H locs cells slots Q (F0 m pc ls st) := by
  have hr := va_runU (p := p) (l := l) (e := e) (R := R) (s := s) (m := m) (args := args) (below := below) (meth := meth) (c := c) (H := H) (locs := locs) (cells := cells) (slots := slots) (g := F0 m pc ls st) (As := As) (rest := rest) F hM (va_cwO n F.2.2.2.2 hG rfl rfl rfl h0 hy hR)
    ⟨fun a U g mk q => ⟨q.1, Wd.call q.2⟩, va_recv hW.2.1.1 (h_one hW ha) hc (q0 := 0) rfl, fun U hU hWm => ⟨rfl, by show Wd X w U U.heap; rw [hU]; exact hW.warm hWm⟩⟩ rfl hn hl.1 hst (by show 2 * 0 + _ ≤ 8; rw [Nat.mul_zero, Nat.zero_add]; exact hcat) hd hf
  intro T9 hT X9
  obtain ⟨v9, st₀, t, T', L, h0, X', hL, e1, e2, ⟨⟨w1, hv, hp, hb⟩, hz, hk⟩, st9⟩ := hr T9 hT X9
  cases hv
  rw [h0] at hz hk
  have hk1 : ∀ q : Nat, q < H.size → ¬ cxA X q → T'.heap[q]? = H[q]? := fun q h1 h2 => by rw [e1]; exact hk q h1 h2
  obtain ⟨t2, a1, b1⟩ := kk w1 T'.heap (locs ++ L) hp ⟨by rw [e1]; exact hb, hW.2.1, hW.2.2.kept hk1⟩ ⟨Nat.le_trans hS.1 (by rw [e1]; exact hz), fun q h1 h2 => by rw [hk1 q (Nat.lt_of_lt_of_le h1 hS.1) h2]; exact hS.2.1 q h1 h2, fun q hq => by
      rcases List.mem_append.mp hq with h | h
      · exact hS.2.2 q h
      · exact hL q h⟩ T' rfl X'
  exact ⟨t2, st9 t2 a1, b1⟩
theorem h_callP {y : MethodName} {a : Nat} {fs : List Value} {cb : ByteArray} {maxL index n : Nat} {ret : Option FieldType} {rm : Room} {As st : List Value} {v : Option Value} {P : Wo → Prop} (F : Fx p m c cc nL s args own) (hl : lv_has ls nL lv0) (hM : CM l X y cb maxL ret rm (.ref a :: As) w v P) (hW : Wd X w s H) (hS : va_S (cxA X) H0 H locs)
    (hG : Cond.code y cb maxL ret ∈ BIG ∧ Cond.initialized y.cls ∈ BIG ∧ Cond.methodLink own index y ∈ BIG ∧ Cond.sameMethod y.cls y.cls y.name y.desc ∈ BIG ∧ Cond.instanceMethod y ∈ BIG) (hpv : y ∈ privL) (hy : y.cls ≠ "java/lang/invoke/MethodHandle" ∧ y.cls ≠ "java/lang/invoke/VarHandle" ∧ (parseMethodDescriptor y.desc).map (fun d => d.parameters.length) = some n) (ha : w a = some (.inr (12, fs))) (hst : st = As.reverse ++ .ref a :: rest) (hn : As.length = n) (hR : rm.frames + 1 ≤ R.frames ∧ 8 + (maxL + 11) + rm.locals ≤ R.locals) (hcat : (rest.map fun v => v.category).sum ≤ 8) (hf : cells + rm.cells ≤ R.cells ∧ slots + rm.slots ≤ R.slots) (hd : decode cc pc = .ok (.invokevirtual index, 3))
    (kk : ∀ (w1 : Wo) (H1 : Heap) (locs1 : List Loc), P w1 → Wd X w1 s H1 → va_S (cxA X) H0 H1 locs1 → W p l e R s m args below meth c H1 locs1 (cells + rm.cells) (slots + rm.slots) Q (F0 m (pc + 3) ls (v.toList ++ rest))) : W p l e R s m args below meth c H locs cells slots Q (F0 m pc ls st) := by
  have hr := va_runU (C := RJ4) (owner := y.cls) (x := y) (p := p) (l := l) (e := e) (R := R) (s := s) (m := m) (args := args) (below := below) (meth := meth) (c := c) (H := H) (locs := locs) (cells := cells) (slots := slots) (g := F0 m pc ls st) (As := As) (rest := rest) F hM ⟨⟨rfl, rfl, hR.1, hR.2, pay_in F.2.2.2.2 (big_in hG.1), List.mem_cons_self⟩, F.2.2.2.2 _ hG.1, F.2.2.2.2 _ hG.2.1, ⟨hy.1, hy.2.1⟩, (fun sig h => by have h2 := hy.2.2; rw [h] at h2; exact (Option.some.inj h2).symm), F.2.2.2.2 _ hG.2.2.1, F.2.2.2.2 _ hG.2.2.2.1, va_Decl.of (F.2.2.2.2 _ hG.2.2.2.2) (F.2.2.2.2 _ hG.1), va_Nw.use rfl (hW.2.1.2.2.2.2.2.2.2.2.2.2.2.2.2.2 _ hpv), F.2.2.2.2 _ hG.2.2.2.2⟩
    ⟨fun a U g mk q => ⟨q.1, Wd.call q.2⟩, va_recv hW.2.1.1 (h_one hW ha) (ci := 12) (q0 := 0) rfl rfl, fun U hU hWm => ⟨rfl, by show Wd X w U U.heap; rw [hU]; exact hW.warm hWm⟩⟩ rfl hn hl.1 hst (by show 2 * 0 + _ ≤ 8; rw [Nat.mul_zero, Nat.zero_add]; exact hcat) hd hf
  intro T9 hT X9
  obtain ⟨v9, st₀, t, T', L, h0, X', hL, e1, e2, ⟨⟨w1, hv, hp, hb⟩, hz, hk⟩, st9⟩ := hr T9 hT X9
  cases hv
  rw [h0] at hz hk
  have hk1 : ∀ q : Nat, q < H.size → ¬ cxA X q → T'.heap[q]? = H[q]? := fun q h1 h2 => by rw [e1]; exact hk q h1 h2
  obtain ⟨t2, a1, b1⟩ := kk w1 T'.heap (locs ++ L) hp ⟨by rw [e1]; exact hb, hW.2.1, hW.2.2.kept hk1⟩ ⟨Nat.le_trans hS.1 (by rw [e1]; exact hz), fun q h1 h2 => by rw [hk1 q (Nat.lt_of_lt_of_le h1 hS.1) h2]; exact hS.2.1 q h1 h2, fun q hq => by
      rcases List.mem_append.mp hq with h | h
      · exact hS.2.2 q h
      · exact hL q h⟩ T' rfl X'
  exact ⟨t2, st9 t2 a1, b1⟩
theorem h_callSU {C : String} {y : MethodName} {ci N a : Nat} {T : u_T} {fs : List Value} {cb : ByteArray} {maxL index n : Nat} {ret : Option FieldType} {rm : Room} {As st : List Value} {v : Option Value} {P : Wo → Prop} (F : Fx p m c cc nL s args own) (hl : lv_has ls nL lv0) (hM : CM l X y cb maxL ret rm (.ref a :: As) w v P) (hW : Wd X w s H) (hS : va_S (cxA X) H0 H locs)
    (hG : GoodIn BIG (va_wsSU own index y (Cond.code y cb maxL ret :: BIG))) (hy : y.name ≠ "<init>" ∧ (parseMethodDescriptor y.desc).map (fun d => d.parameters.length) = some n) (hc : vwCl[ci]? = some (C, T, N)) (ha : w a = some (.inr (ci, fs))) (hst : st = As.reverse ++ .ref a :: rest) (hn : As.length = n) (hR : rm.frames + 1 ≤ R.frames ∧ 8 + (maxL + 11) + rm.locals ≤ R.locals) (hcat : (rest.map fun v => v.category).sum ≤ 8) (hf : cells + rm.cells ≤ R.cells ∧ slots + rm.slots ≤ R.slots) (hd : decode cc pc = .ok (.invokespecial index, 3))
    (kk : ∀ (w1 : Wo) (H1 : Heap) (locs1 : List Loc), P w1 → Wd X w1 s H1 → va_S (cxA X) H0 H1 locs1 → W p l e R s m args below meth c H1 locs1 (cells + rm.cells) (slots + rm.slots) Q (F0 m (pc + 3) ls (v.toList ++ rest))) : W p l e R s m args below meth c H locs cells slots Q (F0 m pc ls st) := by
  have hr := va_runSU (p := p) (l := l) (e := e) (R := R) (s := s) (m := m) (args := args) (below := below) (meth := meth) (c := c) (H := H) (locs := locs) (cells := cells) (slots := slots) (g := F0 m pc ls st) (As := As) (rest := rest) (hW.2.1.1.1 ci _ hc).2 F hM (va_cwSU n F.2.2.2.2 hG rfl rfl rfl hy hR)
    ⟨fun a U g mk q => ⟨q.1, Wd.call q.2⟩, va_recv hW.2.1.1 (h_one hW ha) hc (q0 := 0) rfl, fun U hU hWm => ⟨rfl, by show Wd X w U U.heap; rw [hU]; exact hW.warm hWm⟩⟩ rfl hn hl.1 hst (by show 2 * 0 + _ ≤ 8; rw [Nat.mul_zero, Nat.zero_add]; exact hcat) hd hf
  intro T9 hT X9
  obtain ⟨v9, st₀, t, T', L, h0, X', hL, e1, e2, ⟨⟨w1, hv, hp, hb⟩, hz, hk⟩, st9⟩ := hr T9 hT X9
  cases hv
  rw [h0] at hz hk
  have hk1 : ∀ q : Nat, q < H.size → ¬ cxA X q → T'.heap[q]? = H[q]? := fun q h1 h2 => by rw [e1]; exact hk q h1 h2
  obtain ⟨t2, a1, b1⟩ := kk w1 T'.heap (locs ++ L) hp ⟨by rw [e1]; exact hb, hW.2.1, hW.2.2.kept hk1⟩ ⟨Nat.le_trans hS.1 (by rw [e1]; exact hz), fun q h1 h2 => by rw [hk1 q (Nat.lt_of_lt_of_le h1 hS.1) h2]; exact hS.2.1 q h1 h2, fun q hq => by
      rcases List.mem_append.mp hq with h | h
      · exact hS.2.2 q h
      · exact hL q h⟩ T' rfl X'
  exact ⟨t2, st9 t2 a1, b1⟩
theorem r_callF {C : String} {x y : MethodName} {count : Nat} {ci N a : Nat} {T : u_T} {fs : List Value} {cb : ByteArray} {maxL index n : Nat} {ret : Option FieldType} {rm : Room} {As st : List Value} {P : Value → Wo → Prop} (F : Fx p m c cc nL s args own) (hl : lv_has ls nL lv0) (hM : CR l X y cb maxL ret rm (.ref a :: As) w P) (hW : Wd X w s H) (hS : va_S (cxA X) H0 H locs)
    (hG : GoodIn BIG (va_wsF own index C x y (Cond.code y cb maxL ret :: BIG))) (hF : (C, x, y) ∈ faceL) (hy : (parseMethodDescriptor x.desc).map (fun d => d.parameters.length) = some n) (hc : vwCl[ci]? = some (C, T, N)) (ha : w a = some (.inr (ci, fs))) (hst : st = As.reverse ++ .ref a :: rest) (hn : As.length = n) (hR : rm.frames + 1 ≤ R.frames ∧ 8 + (maxL + 11) + rm.locals ≤ R.locals) (hcat : (rest.map fun v => v.category).sum ≤ 8) (hf : cells + rm.cells ≤ R.cells ∧ slots + rm.slots ≤ R.slots) (hd : decode cc pc = .ok (.invokeinterface index count, 5))
    (kk : ∀ (v : Value) (w1 : Wo) (H1 : Heap) (locs1 : List Loc), P v w1 → Wd X w1 s H1 → va_S (cxA X) H0 H1 locs1 → W p l e R s m args below meth c H1 locs1 (cells + rm.cells) (slots + rm.slots) Q (F0 m (pc + 5) ls (v :: rest))) : W p l e R s m args below meth c H locs cells slots Q (F0 m pc ls st) := by
  have hr := va_runF (p := p) (l := l) (e := e) (R := R) (s := s) (m := m) (args := args) (below := below) (meth := meth) (c := c) (H := H) (locs := locs) (cells := cells) (slots := slots) (g := F0 m pc ls st) (As := As) (rest := rest) ((hW.2.1.1.1 ci _ hc).2) F hM (va_cwF n F.2.2.2.2 hG rfl rfl rfl (hW.2.1.2.2.2.2.2.2.2.2.2.2.1 _ hF) ⟨(faceOK _ hF).1, (faceOK _ hF).2, hy⟩ hR)
    ⟨fun a U g mk q => ⟨q.1, Wd.call q.2⟩, va_recv hW.2.1.1 (h_one hW ha) hc (q0 := 0) rfl, fun U hU hWm => ⟨rfl, by show Wd X w U U.heap; rw [hU]; exact hW.warm hWm⟩⟩ rfl hn hl.1 hst (by show 2 * 0 + _ ≤ 8; rw [Nat.mul_zero, Nat.zero_add]; exact hcat) hd hf
  intro T9 hT X9
  obtain ⟨v9, st₀, t, T', L, h0, X', hL, e1, e2, ⟨⟨v, w1, hv, hp, hb⟩, hz, hk⟩, st9⟩ := hr T9 hT X9
  cases hv
  rw [h0] at hz hk
  have hk1 : ∀ q : Nat, q < H.size → ¬ cxA X q → T'.heap[q]? = H[q]? := fun q h1 h2 => by rw [e1]; exact hk q h1 h2
  obtain ⟨t2, a1, b1⟩ := kk v w1 T'.heap (locs ++ L) hp ⟨by rw [e1]; exact hb, hW.2.1, hW.2.2.kept hk1⟩ ⟨Nat.le_trans hS.1 (by rw [e1]; exact hz), fun q h1 h2 => by rw [hk1 q (Nat.lt_of_lt_of_le h1 hS.1) h2]; exact hS.2.1 q h1 h2, fun q hq => by
      rcases List.mem_append.mp hq with h | h
      · exact hS.2.2 q h
      · exact hL q h⟩ T' rfl X'
  exact ⟨t2, st9 t2 a1, b1⟩
theorem r_callU {C owner : String} {x y : MethodName} {ci N a : Nat} {T : u_T} {fs : List Value} {cb : ByteArray} {maxL index n : Nat} {ret : Option FieldType} {rm : Room} {As st : List Value} {P : Value → Wo → Prop} (F : Fx p m c cc nL s args own) (hl : lv_has ls nL lv0) (hM : CR l X y cb maxL ret rm (.ref a :: As) w P) (hW : Wd X w s H) (hS : va_S (cxA X) H0 H locs)
    (hG : GoodIn BIG (va_wsU own index C owner x y (Cond.code y cb maxL ret :: BIG))) (hyx : y = ⟨owner, x.name, x.desc⟩) (hy : owner ≠ "java/lang/invoke/MethodHandle" ∧ owner ≠ "java/lang/invoke/VarHandle" ∧ (parseMethodDescriptor x.desc).map (fun d => d.parameters.length) = some n) (hc : vwCl[ci]? = some (C, T, N)) (ha : w a = some (.inr (ci, fs))) (hst : st = As.reverse ++ .ref a :: rest) (hn : As.length = n) (hR : rm.frames + 1 ≤ R.frames ∧ 8 + (maxL + 11) + rm.locals ≤ R.locals) (hcat : (rest.map fun v => v.category).sum ≤ 8) (hf : cells + rm.cells ≤ R.cells ∧ slots + rm.slots ≤ R.slots) (hd : decode cc pc = .ok (.invokevirtual index, 3))
    (kk : ∀ (v : Value) (w1 : Wo) (H1 : Heap) (locs1 : List Loc), P v w1 → Wd X w1 s H1 → va_S (cxA X) H0 H1 locs1 → W p l e R s m args below meth c H1 locs1 (cells + rm.cells) (slots + rm.slots) Q (F0 m (pc + 3) ls (v :: rest))) : W p l e R s m args below meth c H locs cells slots Q (F0 m pc ls st) := by
  have hr := va_runU (p := p) (l := l) (e := e) (R := R) (s := s) (m := m) (args := args) (below := below) (meth := meth) (c := c) (H := H) (locs := locs) (cells := cells) (slots := slots) (g := F0 m pc ls st) (As := As) (rest := rest) F hM (va_cwU n F.2.2.2.2 hG rfl rfl rfl hyx hy hR)
    ⟨fun a U g mk q => ⟨q.1, Wd.call q.2⟩, va_recv hW.2.1.1 (h_one hW ha) hc (q0 := 0) rfl, fun U hU hWm => ⟨rfl, by show Wd X w U U.heap; rw [hU]; exact hW.warm hWm⟩⟩ rfl hn hl.1 hst (by show 2 * 0 + _ ≤ 8; rw [Nat.mul_zero, Nat.zero_add]; exact hcat) hd hf
  intro T9 hT X9
  obtain ⟨v9, st₀, t, T', L, h0, X', hL, e1, e2, ⟨⟨v, w1, hv, hp, hb⟩, hz, hk⟩, st9⟩ := hr T9 hT X9
  cases hv
  rw [h0] at hz hk
  have hk1 : ∀ q : Nat, q < H.size → ¬ cxA X q → T'.heap[q]? = H[q]? := fun q h1 h2 => by rw [e1]; exact hk q h1 h2
  obtain ⟨t2, a1, b1⟩ := kk v w1 T'.heap (locs ++ L) hp ⟨by rw [e1]; exact hb, hW.2.1, hW.2.2.kept hk1⟩ ⟨Nat.le_trans hS.1 (by rw [e1]; exact hz), fun q h1 h2 => by rw [hk1 q (Nat.lt_of_lt_of_le h1 hS.1) h2]; exact hS.2.1 q h1 h2, fun q hq => by
      rcases List.mem_append.mp hq with h | h
      · exact hS.2.2 q h
      · exact hL q h⟩ T' rfl X'
  exact ⟨t2, st9 t2 a1, b1⟩
theorem r_callO {C owner : String} {x y : MethodName} {b0 : ByteArray} {m0 : Nat} {r0 : Option FieldType} {ci N a : Nat} {T : u_T} {fs : List Value} {cb : ByteArray} {maxL index n : Nat} {ret : Option FieldType} {rm : Room} {As st : List Value} {P : Value → Wo → Prop} (F : Fx p m c cc nL s args own) (hl : lv_has ls nL lv0) (hM : CR l X y cb maxL ret rm (.ref a :: As) w P) (hW : Wd X w s H) (hS : va_S (cxA X) H0 H locs)
    (hG : GoodIn BIG (va_wsO own index C owner x y (Cond.code y cb maxL ret :: BIG))) (h0 : Cond.code ⟨owner, x.name, x.desc⟩ b0 m0 r0 ∈ BIG) (hy : owner ≠ "java/lang/invoke/MethodHandle" ∧ owner ≠ "java/lang/invoke/VarHandle" ∧ (parseMethodDescriptor x.desc).map (fun d => d.parameters.length) = some n) (hc : vwCl[ci]? = some (C, T, N)) (ha : w a = some (.inr (ci, fs))) (hst : st = As.reverse ++ .ref a :: rest) (hn : As.length = n) (hR : rm.frames + 1 ≤ R.frames ∧ 8 + (maxL + 11) + rm.locals ≤ R.locals) (hcat : (rest.map fun v => v.category).sum ≤ 8) (hf : cells + rm.cells ≤ R.cells ∧ slots + rm.slots ≤ R.slots) (hd : decode cc pc = .ok (.invokevirtual index, 3))
    (kk : ∀ (v : Value) (w1 : Wo) (H1 : Heap) (locs1 : List Loc), P v w1 → Wd X w1 s H1 → va_S (cxA X) H0 H1 locs1 → W p l e R s m args below meth c H1 locs1 (cells + rm.cells) (slots + rm.slots) Q (F0 m (pc + 3) ls (v :: rest))) : W p l e R s m args below meth c H locs cells slots Q (F0 m pc ls st) := by
  have hr := va_runU (p := p) (l := l) (e := e) (R := R) (s := s) (m := m) (args := args) (below := below) (meth := meth) (c := c) (H := H) (locs := locs) (cells := cells) (slots := slots) (g := F0 m pc ls st) (As := As) (rest := rest) F hM (va_cwO n F.2.2.2.2 hG rfl rfl rfl h0 hy hR)
    ⟨fun a U g mk q => ⟨q.1, Wd.call q.2⟩, va_recv hW.2.1.1 (h_one hW ha) hc (q0 := 0) rfl, fun U hU hWm => ⟨rfl, by show Wd X w U U.heap; rw [hU]; exact hW.warm hWm⟩⟩ rfl hn hl.1 hst (by show 2 * 0 + _ ≤ 8; rw [Nat.mul_zero, Nat.zero_add]; exact hcat) hd hf
  intro T9 hT X9
  obtain ⟨v9, st₀, t, T', L, h0, X', hL, e1, e2, ⟨⟨v, w1, hv, hp, hb⟩, hz, hk⟩, st9⟩ := hr T9 hT X9
  cases hv
  rw [h0] at hz hk
  have hk1 : ∀ q : Nat, q < H.size → ¬ cxA X q → T'.heap[q]? = H[q]? := fun q h1 h2 => by rw [e1]; exact hk q h1 h2
  obtain ⟨t2, a1, b1⟩ := kk v w1 T'.heap (locs ++ L) hp ⟨by rw [e1]; exact hb, hW.2.1, hW.2.2.kept hk1⟩ ⟨Nat.le_trans hS.1 (by rw [e1]; exact hz), fun q h1 h2 => by rw [hk1 q (Nat.lt_of_lt_of_le h1 hS.1) h2]; exact hS.2.1 q h1 h2, fun q hq => by
      rcases List.mem_append.mp hq with h | h
      · exact hS.2.2 q h
      · exact hL q h⟩ T' rfl X'
  exact ⟨t2, st9 t2 a1, b1⟩
theorem r_callP {y : MethodName} {a : Nat} {fs : List Value} {cb : ByteArray} {maxL index n : Nat} {ret : Option FieldType} {rm : Room} {As st : List Value} {P : Value → Wo → Prop} (F : Fx p m c cc nL s args own) (hl : lv_has ls nL lv0) (hM : CR l X y cb maxL ret rm (.ref a :: As) w P) (hW : Wd X w s H) (hS : va_S (cxA X) H0 H locs)
    (hG : Cond.code y cb maxL ret ∈ BIG ∧ Cond.initialized y.cls ∈ BIG ∧ Cond.methodLink own index y ∈ BIG ∧ Cond.sameMethod y.cls y.cls y.name y.desc ∈ BIG ∧ Cond.instanceMethod y ∈ BIG) (hpv : y ∈ privL) (hy : y.cls ≠ "java/lang/invoke/MethodHandle" ∧ y.cls ≠ "java/lang/invoke/VarHandle" ∧ (parseMethodDescriptor y.desc).map (fun d => d.parameters.length) = some n) (ha : w a = some (.inr (12, fs))) (hst : st = As.reverse ++ .ref a :: rest) (hn : As.length = n) (hR : rm.frames + 1 ≤ R.frames ∧ 8 + (maxL + 11) + rm.locals ≤ R.locals) (hcat : (rest.map fun v => v.category).sum ≤ 8) (hf : cells + rm.cells ≤ R.cells ∧ slots + rm.slots ≤ R.slots) (hd : decode cc pc = .ok (.invokevirtual index, 3))
    (kk : ∀ (v : Value) (w1 : Wo) (H1 : Heap) (locs1 : List Loc), P v w1 → Wd X w1 s H1 → va_S (cxA X) H0 H1 locs1 → W p l e R s m args below meth c H1 locs1 (cells + rm.cells) (slots + rm.slots) Q (F0 m (pc + 3) ls (v :: rest))) : W p l e R s m args below meth c H locs cells slots Q (F0 m pc ls st) := by
  have hr := va_runU (C := RJ4) (owner := y.cls) (x := y) (p := p) (l := l) (e := e) (R := R) (s := s) (m := m) (args := args) (below := below) (meth := meth) (c := c) (H := H) (locs := locs) (cells := cells) (slots := slots) (g := F0 m pc ls st) (As := As) (rest := rest) F hM ⟨⟨rfl, rfl, hR.1, hR.2, pay_in F.2.2.2.2 (big_in hG.1), List.mem_cons_self⟩, F.2.2.2.2 _ hG.1, F.2.2.2.2 _ hG.2.1, ⟨hy.1, hy.2.1⟩, (fun sig h => by have h2 := hy.2.2; rw [h] at h2; exact (Option.some.inj h2).symm), F.2.2.2.2 _ hG.2.2.1, F.2.2.2.2 _ hG.2.2.2.1, va_Decl.of (F.2.2.2.2 _ hG.2.2.2.2) (F.2.2.2.2 _ hG.1), va_Nw.use rfl (hW.2.1.2.2.2.2.2.2.2.2.2.2.2.2.2.2 _ hpv), F.2.2.2.2 _ hG.2.2.2.2⟩
    ⟨fun a U g mk q => ⟨q.1, Wd.call q.2⟩, va_recv hW.2.1.1 (h_one hW ha) (ci := 12) (q0 := 0) rfl rfl, fun U hU hWm => ⟨rfl, by show Wd X w U U.heap; rw [hU]; exact hW.warm hWm⟩⟩ rfl hn hl.1 hst (by show 2 * 0 + _ ≤ 8; rw [Nat.mul_zero, Nat.zero_add]; exact hcat) hd hf
  intro T9 hT X9
  obtain ⟨v9, st₀, t, T', L, h0, X', hL, e1, e2, ⟨⟨v, w1, hv, hp, hb⟩, hz, hk⟩, st9⟩ := hr T9 hT X9
  cases hv
  rw [h0] at hz hk
  have hk1 : ∀ q : Nat, q < H.size → ¬ cxA X q → T'.heap[q]? = H[q]? := fun q h1 h2 => by rw [e1]; exact hk q h1 h2
  obtain ⟨t2, a1, b1⟩ := kk v w1 T'.heap (locs ++ L) hp ⟨by rw [e1]; exact hb, hW.2.1, hW.2.2.kept hk1⟩ ⟨Nat.le_trans hS.1 (by rw [e1]; exact hz), fun q h1 h2 => by rw [hk1 q (Nat.lt_of_lt_of_le h1 hS.1) h2]; exact hS.2.1 q h1 h2, fun q hq => by
      rcases List.mem_append.mp hq with h | h
      · exact hS.2.2 q h
      · exact hL q h⟩ T' rfl X'
  exact ⟨t2, st9 t2 a1, b1⟩
theorem r_callSU {C : String} {y : MethodName} {ci N a : Nat} {T : u_T} {fs : List Value} {cb : ByteArray} {maxL index n : Nat} {ret : Option FieldType} {rm : Room} {As st : List Value} {P : Value → Wo → Prop} (F : Fx p m c cc nL s args own) (hl : lv_has ls nL lv0) (hM : CR l X y cb maxL ret rm (.ref a :: As) w P) (hW : Wd X w s H) (hS : va_S (cxA X) H0 H locs)
    (hG : GoodIn BIG (va_wsSU own index y (Cond.code y cb maxL ret :: BIG))) (hy : y.name ≠ "<init>" ∧ (parseMethodDescriptor y.desc).map (fun d => d.parameters.length) = some n) (hc : vwCl[ci]? = some (C, T, N)) (ha : w a = some (.inr (ci, fs))) (hst : st = As.reverse ++ .ref a :: rest) (hn : As.length = n) (hR : rm.frames + 1 ≤ R.frames ∧ 8 + (maxL + 11) + rm.locals ≤ R.locals) (hcat : (rest.map fun v => v.category).sum ≤ 8) (hf : cells + rm.cells ≤ R.cells ∧ slots + rm.slots ≤ R.slots) (hd : decode cc pc = .ok (.invokespecial index, 3))
    (kk : ∀ (v : Value) (w1 : Wo) (H1 : Heap) (locs1 : List Loc), P v w1 → Wd X w1 s H1 → va_S (cxA X) H0 H1 locs1 → W p l e R s m args below meth c H1 locs1 (cells + rm.cells) (slots + rm.slots) Q (F0 m (pc + 3) ls (v :: rest))) : W p l e R s m args below meth c H locs cells slots Q (F0 m pc ls st) := by
  have hr := va_runSU (p := p) (l := l) (e := e) (R := R) (s := s) (m := m) (args := args) (below := below) (meth := meth) (c := c) (H := H) (locs := locs) (cells := cells) (slots := slots) (g := F0 m pc ls st) (As := As) (rest := rest) (hW.2.1.1.1 ci _ hc).2 F hM (va_cwSU n F.2.2.2.2 hG rfl rfl rfl hy hR)
    ⟨fun a U g mk q => ⟨q.1, Wd.call q.2⟩, va_recv hW.2.1.1 (h_one hW ha) hc (q0 := 0) rfl, fun U hU hWm => ⟨rfl, by show Wd X w U U.heap; rw [hU]; exact hW.warm hWm⟩⟩ rfl hn hl.1 hst (by show 2 * 0 + _ ≤ 8; rw [Nat.mul_zero, Nat.zero_add]; exact hcat) hd hf
  intro T9 hT X9
  obtain ⟨v9, st₀, t, T', L, h0, X', hL, e1, e2, ⟨⟨v, w1, hv, hp, hb⟩, hz, hk⟩, st9⟩ := hr T9 hT X9
  cases hv
  rw [h0] at hz hk
  have hk1 : ∀ q : Nat, q < H.size → ¬ cxA X q → T'.heap[q]? = H[q]? := fun q h1 h2 => by rw [e1]; exact hk q h1 h2
  obtain ⟨t2, a1, b1⟩ := kk v w1 T'.heap (locs ++ L) hp ⟨by rw [e1]; exact hb, hW.2.1, hW.2.2.kept hk1⟩ ⟨Nat.le_trans hS.1 (by rw [e1]; exact hz), fun q h1 h2 => by rw [hk1 q (Nat.lt_of_lt_of_le h1 hS.1) h2]; exact hS.2.1 q h1 h2, fun q hq => by
      rcases List.mem_append.mp hq with h | h
      · exact hS.2.2 q h
      · exact hL q h⟩ T' rfl X'
  exact ⟨t2, st9 t2 a1, b1⟩
theorem m_callI {y : MethodName} {a : Nat} {cb : ByteArray} {maxL index n : Nat} {rm : Room} {As st : List Value} {P : Wo → Prop} (F : Fx p m c cc nL s args own) (hl : lv_has ls nL lv0) (hM : CM l X y cb maxL none rm (.ref a :: As) w none P) (hW : Wd X w s H) (hS : va_S (cxA X) H0 H locs)
    (hG : Cond.code y cb maxL none ∈ BIG ∧ Cond.initialized y.cls ∈ BIG ∧ Cond.methodLink own index y ∈ BIG ∧ Cond.instanceMethod y ∈ BIG) (hy1 : y.name = "<init>") (hy : y.cls ≠ "java/lang/invoke/MethodHandle" ∧ y.cls ≠ "java/lang/invoke/VarHandle" ∧ (parseMethodDescriptor y.desc).map (fun d => d.parameters.length) = some n) (hst : st = As.reverse ++ .ref a :: rest) (hn : As.length = n) (hR : rm.frames + 1 ≤ R.frames ∧ 8 + (maxL + 11) + rm.locals ≤ R.locals) (hcat : (rest.map fun v => v.category).sum ≤ 8) (hf : cells + rm.cells ≤ R.cells ∧ slots + rm.slots ≤ R.slots) (hd : decode cc pc = .ok (.invokespecial index, 3))
    (kk : ∀ (w1 : Wo) (H1 : Heap) (locs1 : List Loc), P w1 → Wd X w1 s H1 → va_S (cxA X) H0 H1 locs1 → W p l e R s m args below meth c H1 locs1 (cells + rm.cells) (slots + rm.slots) Q (F0 m (pc + 3) ls rest)) : W p l e R s m args below meth c H locs cells slots Q (F0 m pc ls st) := by
  have hr := va_runI (p := p) (l := l) (e := e) (R := R) (s := s) (m := m) (args := args) (below := below) (meth := meth) (c := c) (H := H) (locs := locs) (cells := cells) (slots := slots) (g := F0 m pc ls st) (b := a) (As := As) (rest := rest) F hM (cwI n F.2.2.2.2 (big_in hG.1) rfl rfl rfl (F.2.2.2.2 _ hG.2.1) (F.2.2.2.2 _ hG.2.2.1) (F.2.2.2.2 _ hG.2.2.2) hy1 hy hR)
    ⟨fun a U g mk q => ⟨q.1, Wd.call q.2⟩, fun U hU hWm => ⟨rfl, by show Wd X w U U.heap; rw [hU]; exact hW.warm hWm⟩⟩ rfl hn hl.1 hst (by show 2 * 0 + _ ≤ 8; rw [Nat.mul_zero, Nat.zero_add]; exact hcat) hd hf
  intro T9 hT X9
  obtain ⟨v9, st₀, t, T', L, h0, X', hL, e1, e2, ⟨⟨w1, hv, hp, hb⟩, hz, hk⟩, st9⟩ := hr T9 hT X9
  cases hv
  rw [h0] at hz hk
  have hk1 : ∀ q : Nat, q < H.size → ¬ cxA X q → T'.heap[q]? = H[q]? := fun q h1 h2 => by rw [e1]; exact hk q h1 h2
  obtain ⟨t2, a1, b1⟩ := kk w1 T'.heap (locs ++ L) hp ⟨by rw [e1]; exact hb, hW.2.1, hW.2.2.kept hk1⟩ ⟨Nat.le_trans hS.1 (by rw [e1]; exact hz), fun q h1 h2 => by rw [hk1 q (Nat.lt_of_lt_of_le h1 hS.1) h2]; exact hS.2.1 q h1 h2, fun q hq => by
      rcases List.mem_append.mp hq with h | h
      · exact hS.2.2 q h
      · exact hL q h⟩ T' rfl X'
  exact ⟨t2, st9 t2 a1, b1⟩
theorem q_new {C : String} {T : u_T} {N ci index : Nat} {fs : List Value} (F : Fx p m c cc nL s args own) (hW : Wd X w s H) (hS : va_S (cxA X) H0 H locs) (hin : ∀ w ∈ u_ws C T N, w ∈ BIG) (ty : Nat → FieldType) (hty : ∀ k, k < N → parseFieldDescriptor (T k).2.2.1 = some (ty k)) (hcl : Cond.classLink own index C ∈ BIG) (hinst : Cond.instantiable C N ∈ BIG) (hini : Cond.initialized C ∈ BIG) (hc : vwCl[ci]? = some (C, T, N)) (hfs : ∀ j, j < N → defaultValue (ty j) = vp_V fs j)
    (hf : cells + 1 ≤ R.cells ∧ slots + N ≤ R.slots) (hd : decode cc pc = .ok (.new index, 3))
    (kk : ∀ (a : Nat) (w1 : Wo) (H1 : Heap), frs w a → cxB X ≤ a → w1 a = some (.inr (ci, fs)) → (∀ q, q ≠ a → w1 q = w q) → Wd X w1 s H1 → va_S (cxA X) H0 H1 locs → W p l e R s m args below meth c H1 locs (cells + 1) (slots + N) Q (F0 m (pc + 3) ls (.ref a :: rest))) : W p l e R s m args below meth c H locs cells slots Q (F0 m pc ls rest) :=
  h_new F hW hS rfl hin ty hty hcl hinst hini hc hfs hf hd (fun w1 H1 g1 g2 g3 g4 => kk H.size w1 H1 (fr0 hW) hW.1.2 g1 g2 g3 g4)
theorem q_newP {N k : Nat} {n : Int} {x : (Nat → Int32) ⊕ (Nat → Int64) ⊕ (Nat → UInt32) ⊕ (Nat → UInt64) ⊕ (Nat → Option Nat)} {atype : ArrayType} (F : Fx p m c cc nL s args own) (hW : Wd X w s H) (hS : va_S (cxA X) H0 H locs) (harr : Cond.arrayClass (_root_.Jvm.Op.newarray.typeOf atype) ∈ BIG) (hk : (cxT X)[k]? = some (X.2.1 k, _root_.Jvm.Op.newarray.typeOf atype)) (hx : ∀ cA : ClassId, vp_cell cA (N, x) = arrV cA N (fun _ => defaultValue (_root_.Jvm.Op.newarray.typeOf atype))) (hn : n = (N : Int)) (hN : N < 1000000)
    (hf : cells + 1 ≤ R.cells ∧ slots + N ≤ R.slots) (hd : decode cc pc = .ok (.newarray atype, 2))
    (kk : ∀ (a : Nat) (w1 : Wo) (H1 : Heap), frs w a → cxB X ≤ a → w1 a = some (.inl (X.2.1 k, N, x)) → (∀ q, q ≠ a → w1 q = w q) → Wd X w1 s H1 → va_S (cxA X) H0 H1 locs → W p l e R s m args below meth c H1 locs (cells + 1) (slots + N) Q (F0 m (pc + 2) ls (.ref a :: rest))) : W p l e R s m args below meth c H locs cells slots Q (F0 m pc ls (.int (iI n) :: rest)) :=
  h_newP F hW hS rfl harr hk hx hn hN hf hd (fun w1 H1 g1 g2 g3 g4 => kk H.size w1 H1 (fr0 hW) hW.1.2 g1 g2 g3 g4)
theorem q_newR {N k index : Nat} {n : Int} {C : String} (F : Fx p m c cc nL s args own) (hW : Wd X w s H) (hS : va_S (cxA X) H0 H locs) (hk : (cxT X)[k]? = some (X.2.1 k, .object C)) (hAO : va_AO C s) (hcl : Cond.classLink own index C ∈ BIG) (hn : n = (N : Int)) (hN : N < 1000000)
    (hf : cells + 1 ≤ R.cells ∧ slots + N ≤ R.slots) (hd : decode cc pc = .ok (.anewarray index, 3))
    (kk : ∀ (a : Nat) (w1 : Wo) (H1 : Heap), frs w a → cxB X ≤ a → w1 a = some (aR X k N (fun _ => none)) → (∀ q, q ≠ a → w1 q = w q) → Wd X w1 s H1 → va_S (cxA X) H0 H1 locs → W p l e R s m args below meth c H1 locs (cells + 1) (slots + N) Q (F0 m (pc + 3) ls (.ref a :: rest))) : W p l e R s m args below meth c H locs cells slots Q (F0 m pc ls (.int (iI n) :: rest)) :=
  h_newR F hW hS rfl hk hAO hcl hn hN hf hd (fun w1 H1 g1 g2 g3 g4 => kk H.size w1 H1 (fr0 hW) hW.1.2 g1 g2 g3 g4)
theorem h_getU {ref C : String} {T : u_T} {N ci k index a : Nat} {fs : List Value} {v : Value} (F : Fx p m c cc nL s args own) (hW : Wd X w s H) (hin : ∀ w ∈ u_ws C T N, w ∈ BIG) (hc : vwCl[ci]? = some (C, T, N)) (hk : k < N) (hsm : (T k).1 = ref ∨ Cond.sameField ref (T k).1 (T k).2.1 (T k).2.2.1 ∈ BIG) (hl : Cond.fieldLink own index ref (T k).2.1 (T k).2.2.1 ∈ BIG) (ha : w a = some (.inr (ci, fs))) (hv : fs[k]? = some v) (hd : decode cc pc = .ok (.getfield index, 3))
    (kk : W p l e R s m args below meth c H locs cells slots Q (F0 m (pc + 3) ls (v :: rest))) : W p l e R s m args below meth c H locs cells slots Q (F0 m pc ls (.ref a :: rest)) :=
  va_get (D := X.1) (cl := vwCl) (ws := [(a, .inr (ci, fs))]) (ref := ref) F.1 F.2.1 F.2.2.2.2 hin F.2.2.2.1 hW.2.1.1 (h_one hW ha) 0 rfl hc k hk (F.2.2.2.2 _ hl) (fun x h => by
    rcases hsm with g | g
    · rw [g] at h; exact h
    · exact u_same (F.2.2.2.2 _ g) x h) hv hd kk
theorem h_getN {ref C host : String} {T : u_T} {N ci k index a : Nat} {fs : List Value} {v : Value} (F : Fx p m c cc nL s args own) (hW : Wd X w s H) (hin : ∀ w ∈ u_ws C T N, w ∈ BIG) (hc : vwCl[ci]? = some (C, T, N)) (hk : k < N) (hsm : (T k).1 = ref) (hl : (own, index, ref, (T k).2.1, (T k).2.2.1, host) ∈ fnestL) (ha : w a = some (.inr (ci, fs))) (hv : fs[k]? = some v) (hd : decode cc pc = .ok (.getfield index, 3))
    (kk : W p l e R s m args below meth c H locs cells slots Q (F0 m (pc + 3) ls (v :: rest))) : W p l e R s m args below meth c H locs cells slots Q (F0 m pc ls (.ref a :: rest)) :=
  va_getN (D := X.1) (cl := vwCl) (ws := [(a, .inr (ci, fs))]) (ref := ref) F.1 F.2.1 F.2.2.2.2 hin F.2.2.2.1 hW.2.1.1 (h_one hW ha) 0 rfl hc k hk (va_Nw.use rfl (hW.2.1.2.2.2.2.2.2.2.2.2.1 _ hl)) (fun x h => by rw [hsm] at h; exact h) hv hd kk
theorem h_putN {ref C host : String} {T : u_T} {N ci k index a : Nat} {fs : List Value} {v : Value} {ty : FieldType} (F : Fx p m c cc nL s args own) (hW : Wd X w s H) (hS : va_S (cxA X) H0 H locs) (hZ0 : cxZ X s H0) (hB : cxB X ≤ H0.size) (hin : ∀ w ∈ u_ws C T N, w ∈ BIG) (ty0 : Nat → FieldType) (hty : ∀ k, k < N → parseFieldDescriptor (T k).2.2.1 = some (ty0 k)) (hnm : ∀ a, a < N → ∀ b, b < N → a ≠ b → (T a).2.1 ≠ (T b).2.1) (hc : vwCl[ci]? = some (C, T, N)) (hk : k < N) (hsm : (T k).1 = ref) (hl : (own, index, ref, (T k).2.1, (T k).2.2.1, host) ∈ fnestL) (hfin : (T k).2.2.2 = false) (hd9 : parseFieldDescriptor (T k).2.2.1 = some ty)
    (ha : w a = some (.inr (ci, fs))) (hn : narrow ty v = v) (hfit : fits ty v = true) (hlen : k < fs.length) (hd : decode cc pc = .ok (.putfield index, 3))
    (kk : ∀ (w1 : Wo) (H1 : Heap) (locs1 : List Loc), w1 a = some (.inr (ci, fs.set k v)) → (∀ q, q ≠ a → w1 q = w q) → Wd X w1 s H1 → va_S (cxA X) H0 H1 locs1 → W p l e R s m args below meth c H1 locs1 cells slots Q (F0 m (pc + 3) ls rest)) : W p l e R s m args below meth c H locs cells slots Q (F0 m pc ls (v :: .ref a :: rest)) := by
  obtain ⟨ws, q1, h1, hP, hD, hall, hback⟩ := h_bridge hW hZ0 hB ha
  refine va_putN (ref := ref) F.1 F.2.1 F.2.2.2.2 hin ty0 hty hnm F.2.2.2.1 hW.2.1.1 hP hD hS q1 h1 hc k hk (va_Nw.use rfl (hW.2.1.2.2.2.2.2.2.2.2.2.1 _ hl)) (fun x h => by rw [hsm] at h; exact h) hfin hd9 hn hfit hlen hd (fun H1 locs1 hP1 hD1 hS1 => ?_)
  obtain ⟨w1, g1, g2, g3⟩ := hback _ H1 locs1 hP1 hS1
  exact kk w1 H1 locs1 g1 g2 g3 hS1
theorem h_putU {ref C : String} {T : u_T} {N ci k index a : Nat} {fs : List Value} {v : Value} {ty : FieldType} (F : Fx p m c cc nL s args own) (hW : Wd X w s H) (hS : va_S (cxA X) H0 H locs) (hZ0 : cxZ X s H0) (hB : cxB X ≤ H0.size) (hin : ∀ w ∈ u_ws C T N, w ∈ BIG) (ty0 : Nat → FieldType) (hty : ∀ k, k < N → parseFieldDescriptor (T k).2.2.1 = some (ty0 k)) (hnm : ∀ a, a < N → ∀ b, b < N → a ≠ b → (T a).2.1 ≠ (T b).2.1) (hc : vwCl[ci]? = some (C, T, N)) (hk : k < N) (hsm : (T k).1 = ref ∨ Cond.sameField ref (T k).1 (T k).2.1 (T k).2.2.1 ∈ BIG) (hl : Cond.fieldLink own index ref (T k).2.1 (T k).2.2.1 ∈ BIG) (hfin : (T k).2.2.2 = false) (hd9 : parseFieldDescriptor (T k).2.2.1 = some ty)
    (ha : w a = some (.inr (ci, fs))) (hn : narrow ty v = v) (hfit : fits ty v = true) (hlen : k < fs.length) (hd : decode cc pc = .ok (.putfield index, 3))
    (kk : ∀ (w1 : Wo) (H1 : Heap) (locs1 : List Loc), w1 a = some (.inr (ci, fs.set k v)) → (∀ q, q ≠ a → w1 q = w q) → Wd X w1 s H1 → va_S (cxA X) H0 H1 locs1 → W p l e R s m args below meth c H1 locs1 cells slots Q (F0 m (pc + 3) ls rest)) : W p l e R s m args below meth c H locs cells slots Q (F0 m pc ls (v :: .ref a :: rest)) := by
  obtain ⟨ws, q1, h1, hP, hD, hall, hback⟩ := h_bridge hW hZ0 hB ha
  refine va_put (ref := ref) F.1 F.2.1 F.2.2.2.2 hin ty0 hty hnm F.2.2.2.1 hW.2.1.1 hP hD hS q1 h1 hc k hk (F.2.2.2.2 _ hl) (fun x h => by
    rcases hsm with g | g
    · rw [g] at h; exact h
    · exact u_same (F.2.2.2.2 _ g) x h) hfin hd9 hn hfit hlen hd (fun H1 locs1 hP1 hD1 hS1 => ?_)
  obtain ⟨w1, g1, g2, g3⟩ := hback _ H1 locs1 hP1 hS1
  exact kk w1 H1 locs1 g1 g2 g3 hS1
theorem h_yald {a n : Nat} {f : Int → Int} {i : Int} (F : Fx p m c cc nL s args own) (hW : Wd X w s H) (ha : w a = some (aY X n f)) (hi : 0 ≤ i ∧ i < (n : Int)) (hn : (n : Int) < 2147483648) (hd : decode cc pc = .ok (.baload, 1))
    (kk : W p l e R s m args below meth c H locs cells slots Q (F0 m (pc + 1) ls (.int (iI (f i)) :: rest))) : W p l e R s m args below meth c H locs cells slots Q (F0 m pc ls (.int (iI i) :: .ref a :: rest)) := by
  refine va_bald F.1 F.2.1 hW.2.1.1 (h_one hW ha) 0 2 rfl rfl (iI_in hi hn) hd ?_
  rw [iI_clamp (by omega), show (i.toNat : Int) = i by omega]
  exact kk
theorem i2b_id {x : Int} (h : -128 ≤ x ∧ x < 128) : (iI x).toInt8.toInt32 = iI x := by
  obtain ⟨n, hn⟩ : ∃ n : Nat, x = (n : Int) - 128 := ⟨(x + 128).toNat, by omega⟩
  subst hn
  have : ∀ n : Nat, n < 256 → (iI ((n : Int) - 128)).toInt8.toInt32 = iI ((n : Int) - 128) := by decide +kernel
  exact this n (by omega)
theorem i2c_id {x : Int} (h : 0 ≤ x ∧ x < 256) : ((iI x).toUInt32 % 65536).toInt32 = iI x := by
  obtain ⟨n, hn⟩ : ∃ n : Nat, x = (n : Int) := ⟨x.toNat, by omega⟩
  subst hn
  have : ∀ n : Nat, n < 256 → ((iI (n : Int)).toUInt32 % 65536).toInt32 = iI (n : Int) := by decide +kernel
  exact this n (by omega)
theorem y255 {x : Int} (h : 0 ≤ x ∧ x < 256) : iI x &&& iI 255 = iI x := by
  obtain ⟨n, hn⟩ : ∃ n : Nat, x = (n : Int) := ⟨x.toNat, by omega⟩
  subst hn
  have : ∀ n : Nat, n < 256 → iI (n : Int) &&& iI 255 = iI (n : Int) := by decide +kernel
  exact this n (by omega)
theorem h_yast {a n : Nat} {f : Int → Int} {i x : Int} (F : Fx p m c cc nL s args own) (hW : Wd X w s H) (hS : va_S (cxA X) H0 H locs) (hZ0 : cxZ X s H0) (hB : cxB X ≤ H0.size) (ha : w a = some (aY X n f)) (hi : 0 ≤ i ∧ i < (n : Int)) (hn : (n : Int) < 2147483648) (hx : -128 ≤ x ∧ x < 128) (hd : decode cc pc = .ok (.bastore, 1))
    (kk : ∀ (w1 : Wo) (H1 : Heap) (locs1 : List Loc), w1 a = some (aY X n (up f i x)) → (∀ q, q ≠ a → w1 q = w q) → Wd X w1 s H1 → va_S (cxA X) H0 H1 locs1 → W p l e R s m args below meth c H1 locs1 cells slots Q (F0 m (pc + 1) ls rest)) : W p l e R s m args below meth c H locs cells slots Q (F0 m pc ls (.int (iI x) :: .int (iI i) :: .ref a :: rest)) := by
  obtain ⟨ws, q1, h1, hP, hD, hall, hback⟩ := h_bridge hW hZ0 hB ha
  refine va_bast F.1 F.2.1 hW.2.1.1 hP hD hS q1 2 h1 rfl (iI_in hi hn) hd (fun H1 locs1 hP1 hD1 hS1 => ?_)
  obtain ⟨w1, g1, g2, g3⟩ := hback _ H1 locs1 hP1 hS1
  have e9 : upd (fun j : Nat => iI (f (j : Int))) (iI i).toNatClampNeg (vp_nar .byte (iI x)) = fun j : Nat => iI (up f i x (j : Int)) := by
    funext q
    rw [iI_clamp (by omega), vp_nar_byte, i2b_id hx]
    by_cases hq : q = i.toNat
    · subst hq
      rw [show ((i.toNat : Nat) : Int) = i by omega, up_s]
      simp [upd]
    · rw [up_n (by omega)]
      simp [upd, hq]
  exact kk w1 H1 locs1 (by rw [g1, e9]) g2 g3 hS1
theorem h_castO {C : String} {T : u_T} {N ci index a : Nat} {fs : List Value} (F : Fx p m c cc nL s args own) (hW : Wd X w s H) (hc : vwCl[ci]? = some (C, T, N)) (ha : w a = some (.inr (ci, fs))) (hcl : Cond.classLink own index C ∈ BIG) (hd : decode cc pc = .ok (.checkcast index, 3))
    (k : W p l e R s m args below meth c H locs cells slots Q (F0 m (pc + 3) ls (.ref a :: rest))) : W p l e R s m args below meth c H locs cells slots Q (F0 m pc ls (.ref a :: rest)) :=
  va_castS F.1 F.2.1 F.2.2.2.1 (F.2.2.2.2 _ hcl) ((hW.2.1.1.1 ci _ hc).2) (va_recv hW.2.1.1 (h_one hW ha) hc (q0 := 0) rfl) hd k
theorem h_castI {n index a : Nat} {f : Int → Int} (F : Fx p m c cc nL s args own) (hW : Wd X w s H) (ha : w a = some (aZ X n f)) (hcl : Cond.classLink own index "[I" ∈ BIG) (hd : decode cc pc = .ok (.checkcast index, 3))
    (k : W p l e R s m args below meth c H locs cells slots Q (F0 m (pc + 3) ls (.ref a :: rest))) : W p l e R s m args below meth c H locs cells slots Q (F0 m pc ls (.ref a :: rest)) :=
  va_castA F.1 F.2.1 F.2.2.2.1 (F.2.2.2.2 _ hcl) (h_one hW ha) 0 rfl (hW.2.1.1.2 0 _ rfl).2 hd k
theorem any_o {ci v N : Nat} {C : String} {T : u_T} {fs : List Value} (hW : Wd X w s H) (hv : w v = some (.inr (ci, fs))) (hc : vwCl[ci]? = some (C, T, N)) (hq : (C, "java/lang/Object") ∈ castL) : va_Any "java/lang/Object" s H v := by
  refine va_rAny hW.2.1.1 (h_one hW hv) (q0 := 0) rfl hc (fun comp c0 h1 h2 => ?_)
  obtain ⟨c1, t1, f1, f2, f3⟩ := Cond.castable_spec (va_Nw.use (A := #[]) rfl (hW.2.1.2.2.2.2.2.2.2.2.2.2.2.2.2.1 _ hq))
  cases h2.symm.trans f1
  cases h1.symm.trans f2
  exact f3
theorem any_i {v n : Nat} {f : Int → Int} (hW : Wd X w s H) (hv : w v = some (aZ X n f)) : va_Any "java/lang/Object" s H v := by
  have hf : s.vm.findClass "[I" = some (X.2.1 0) := (hW.2.1.1.2 0 _ rfl).2
  obtain ⟨kC, hkC, -⟩ := Vm.findClass_spec hf
  obtain ⟨c1, t1, f1, f2, f3⟩ := Cond.castable_spec (va_Nw.use (A := #[]) rfl (hW.2.1.2.2.2.2.2.2.2.2.2.2.2.2.2.1 ("[I", "java/lang/Object") (by decide)))
  refine ⟨_, (hW.1.1 v _ hv).1, rfl, ⟨kC, hkC⟩, fun comp h => ?_⟩
  cases hf.symm.trans f1
  cases h.symm.trans f2
  exact f3
theorem h_aastM {a n v : Nat} {f : Nat → Option Nat} {i : Int} (F : Fx p m c cc nL s args own) (hW : Wd X w s H) (hS : va_S (cxA X) H0 H locs) (hZ0 : cxZ X s H0) (hB : cxB X ≤ H0.size) (ha : w a = some (aR X 5 n f)) (hr : va_Any "java/lang/Object" s H v) (hi : 0 ≤ i ∧ i < (n : Int)) (hn : (n : Int) < 2147483648) (hd : decode cc pc = .ok (.aastore, 1))
    (kk : ∀ (w1 : Wo) (H1 : Heap) (locs1 : List Loc), w1 a = some (aR X 5 n (va_up f i.toNat (some v))) → (∀ q, q ≠ a → w1 q = w q) → Wd X w1 s H1 → va_S (cxA X) H0 H1 locs1 → W p l e R s m args below meth c H1 locs1 cells slots Q (F0 m (pc + 1) ls rest)) : W p l e R s m args below meth c H locs cells slots Q (F0 m pc ls (.ref v :: .int (iI i) :: .ref a :: rest)) := by
  obtain ⟨ws, q1, h1, hP, hD, hall, hback⟩ := h_bridge hW hZ0 hB ha
  refine va_astqM F.1 F.2.1 hW.2.1.1 hP hD hS q1 5 h1 rfl hr (iI_in hi hn) hd (fun H1 locs1 hP1 hD1 hS1 => ?_)
  obtain ⟨w1, g1, g2, g3⟩ := hback _ H1 locs1 hP1 hS1
  exact kk w1 H1 locs1 (by rw [g1, iI_clamp (by omega)]) g2 g3 hS1
theorem h_aastN {a n : Nat} {f : Nat → Option Nat} {i : Int} (F : Fx p m c cc nL s args own) (hW : Wd X w s H) (hS : va_S (cxA X) H0 H locs) (hZ0 : cxZ X s H0) (hB : cxB X ≤ H0.size) (ha : w a = some (aR X 5 n f)) (hi : 0 ≤ i ∧ i < (n : Int)) (hn : (n : Int) < 2147483648) (hd : decode cc pc = .ok (.aastore, 1))
    (kk : ∀ (w1 : Wo) (H1 : Heap) (locs1 : List Loc), w1 a = some (aR X 5 n (va_up f i.toNat none)) → (∀ q, q ≠ a → w1 q = w q) → Wd X w1 s H1 → va_S (cxA X) H0 H1 locs1 → W p l e R s m args below meth c H1 locs1 cells slots Q (F0 m (pc + 1) ls rest)) : W p l e R s m args below meth c H locs cells slots Q (F0 m pc ls (.null :: .int (iI i) :: .ref a :: rest)) := by
  obtain ⟨ws, q1, h1, hP, hD, hall, hback⟩ := h_bridge hW hZ0 hB ha
  refine va_astqN F.1 F.2.1 hW.2.1.1 hP hD hS q1 5 h1 rfl (iI_in hi hn) hd (fun H1 locs1 hP1 hD1 hS1 => ?_)
  obtain ⟨w1, g1, g2, g3⟩ := hback _ H1 locs1 hP1 hS1
  exact kk w1 H1 locs1 (by rw [g1, iI_clamp (by omega)]) g2 g3 hS1
theorem h_copyM {a a0 n0 n1 index : Nat} {f g : Nat → Option Nat} {sp dp n : Int} (F : Fx p m c cc nL s args own) (hl : lv_has ls nL lv0) (hW : Wd X w s H) (hZ0 : cxZ X s H0) (hB : cxB X ≤ H0.size) (hS : va_S (cxA X) H0 H locs) (hw : Cond.methodLink own index arraycopyName ∈ BIG) (ha0 : w a0 = some (aR X 5 n0 f)) (ha : w a = some (aR X 5 n1 g)) (hn : 0 ≤ sp ∧ 0 ≤ dp ∧ 0 ≤ n ∧ sp + n ≤ (n0 : Int) ∧ dp + n ≤ (n1 : Int) ∧ n0 < 1000000 ∧ n1 < 1000000) (hel : ∀ i y : Nat, f i = some y → va_Any "java/lang/Object" s H y)
    (hf : 1 ≤ R.frames) (hlo : (rest.map fun v => v.category).sum + (nativeFrameWords "java/lang/System" "arraycopy" 5 + 11) ≤ R.locals) (hd : decode cc pc = .ok (.invokestatic index, 3))
    (kk : ∀ (w1 : Wo) (H1 : Heap) (locs1 : List Loc), w1 a = some (aR X 5 n1 (va_cpy f g sp.toNat dp.toNat n.toNat)) → (∀ q, q ≠ a → w1 q = w q) → Wd X w1 s H1 → va_S (cxA X) H0 H1 locs1 → W p l e R s m args below meth c H1 locs1 cells slots Q (F0 m (pc + 3) ls rest)) : W p l e R s m args below meth c H locs cells slots Q (F0 m pc ls (.int (iI n) :: .int (iI dp) :: .ref a :: .int (iI sp) :: .ref a0 :: rest)) := by
  obtain ⟨ws, q1, h1, hP, hD, hall, hback⟩ := h_bridge hW hZ0 hB ha
  obtain ⟨q0, h0⟩ := hall a0 _ ha0
  have k1 : (iI sp).toNatClampNeg = sp.toNat := iI_clamp (by omega)
  have k2 : (iI dp).toNatClampNeg = dp.toNat := iI_clamp (by omega)
  have k3 : (iI n).toNatClampNeg = n.toNat := iI_clamp (by omega)
  refine va_copyM F.1 F.2.1 (F.2.2.1.trans hl.1.symm) F.2.2.2.1 (F.2.2.2.2 _ hw) (F.2.2.2.2 _ kv_copy) (F.2.2.2.2 _ kt_copy) (F.2.2.2.2 _ kn_RJ10) hW.2.1.1 hP hD hS q0 q1 5 5 h0 h1 rfl rfl
    (fun z => by have := (iI_lt (a := sp) (b := 0) (by omega) (by omega)).mp z; omega) (fun z => by have := (iI_lt (a := dp) (b := 0) (by omega) (by omega)).mp z; omega) (fun z => by have := (iI_lt (a := n) (b := 0) (by omega) (by omega)).mp z; omega) (by rw [k1, k3]; omega) (by rw [k2, k3]; omega) (fun i _ y hy => hel _ y hy) hf hlo hd (fun H1 locs1 hP1 hD1 hS1 => ?_)
  obtain ⟨w1, g1, g2, g3⟩ := hback _ H1 locs1 hP1 hS1
  exact kk w1 H1 locs1 (by rw [g1, k1, k2, k3]) g2 g3 hS1
/-- n places of f from sp on laid into g from dp on -/
def cpY (f g : Int → Int) (sp dp n : Int) : Int → Int := fun j => if dp ≤ j ∧ j < dp + n then f (sp + (j - dp)) else g j
theorem cpY_eq (f g : Int → Int) {sp dp n : Int} (h : 0 ≤ sp ∧ 0 ≤ dp ∧ 0 ≤ n) : va_cpy (fun j : Nat => iI (f (j : Int))) (fun j : Nat => iI (g (j : Int))) sp.toNat dp.toNat n.toNat = fun j : Nat => iI (cpY f g sp dp n (j : Int)) := by
  funext j
  unfold va_cpy cpY
  by_cases hj : dp.toNat ≤ j ∧ j < dp.toNat + n.toNat
  · rw [if_pos hj, if_pos (by omega)]
    show iI (f (((sp.toNat + (j - dp.toNat) : Nat)) : Int)) = _
    rw [show (((sp.toNat + (j - dp.toNat) : Nat)) : Int) = sp + ((j : Int) - dp) by omega]
  · rw [if_neg hj, if_neg (by omega)]
theorem fits_y {x : Int} (h : -128 ≤ x ∧ x < 128) : fits .byte (.int (iI x)) = true := by
  obtain ⟨n, hn⟩ : ∃ n : Nat, x = (n : Int) - 128 := ⟨(x + 128).toNat, by omega⟩
  subst hn
  have h9 : ∀ n : Nat, n < 256 → fits .byte (.int (iI ((n : Int) - 128))) = true := by decide +kernel
  exact h9 n (by omega)
theorem fits_arr {cA : ClassId} {n i : Nat} {v : Value} {g : Nat → Int32} (h : (arrV cA n (fun j => .int (g j))).slots[i]? = some v) : fits .int v = true := by
  by_cases hi : i < n
  · rw [arrV_read _ _ hi] at h
    cases h
    rfl
  · rw [Array.getElem?_eq_none (by rw [arrV_size]; omega)] at h
    cases h
theorem h_copyb {a a0 n0 n1 index : Nat} {f g : Int → Int} {sp dp n : Int} (F : Fx p m c cc nL s args own) (hl : lv_has ls nL lv0) (hW : Wd X w s H) (hZ0 : cxZ X s H0) (hB : cxB X ≤ H0.size) (hS : va_S (cxA X) H0 H locs) (hw : Cond.methodLink own index arraycopyName ∈ BIG) (ha0 : w a0 = some (aY X n0 f)) (ha : w a = some (aY X n1 g)) (hn : 0 ≤ sp ∧ 0 ≤ dp ∧ 0 ≤ n ∧ sp + n ≤ (n0 : Int) ∧ dp + n ≤ (n1 : Int) ∧ n0 < 1000000 ∧ n1 < 1000000) (hr : ∀ j, sp ≤ j → j < sp + n → -128 ≤ f j ∧ f j < 128)
    (hf : 1 ≤ R.frames) (hlo : (rest.map fun v => v.category).sum + (nativeFrameWords "java/lang/System" "arraycopy" 5 + 11) ≤ R.locals) (hd : decode cc pc = .ok (.invokestatic index, 3))
    (kk : ∀ (w1 : Wo) (H1 : Heap) (locs1 : List Loc), w1 a = some (aY X n1 (cpY f g sp dp n)) → (∀ q, q ≠ a → w1 q = w q) → Wd X w1 s H1 → va_S (cxA X) H0 H1 locs1 → W p l e R s m args below meth c H1 locs1 cells slots Q (F0 m (pc + 3) ls rest)) : W p l e R s m args below meth c H locs cells slots Q (F0 m pc ls (.int (iI n) :: .int (iI dp) :: .ref a :: .int (iI sp) :: .ref a0 :: rest)) := by
  obtain ⟨ws, q1, h1, hP, hD, hall, hback⟩ := h_bridge hW hZ0 hB ha
  obtain ⟨q0, h0⟩ := hall a0 _ ha0
  have k1 : (iI sp).toNatClampNeg = sp.toNat := iI_clamp (by omega)
  have k2 : (iI dp).toNatClampNeg = dp.toNat := iI_clamp (by omega)
  have k3 : (iI n).toNatClampNeg = n.toNat := iI_clamp (by omega)
  refine va_copyi F.1 F.2.1 (F.2.2.1.trans hl.1.symm) F.2.2.2.1 (F.2.2.2.2 _ hw) (F.2.2.2.2 _ kv_copy) (F.2.2.2.2 _ kt_copy) (F.2.2.2.2 _ kn_RJ10) hW.2.1.1 hP hD hS q0 q1 2 2 h0 h1 rfl rfl rfl
    (fun z => by have := (iI_lt (a := sp) (b := 0) (by omega) (by omega)).mp z; omega) (fun z => by have := (iI_lt (a := dp) (b := 0) (by omega) (by omega)).mp z; omega) (fun z => by have := (iI_lt (a := n) (b := 0) (by omega) (by omega)).mp z; omega) (by rw [k1, k3]; omega) (by rw [k2, k3]; omega) (fun i hi => by
      rw [k1, k3] at *
      exact fits_y (hr _ (by omega) (by omega))) hf hlo hd (fun H1 locs1 hP1 hD1 hS1 => ?_)
  obtain ⟨w1, g1, g2, g3⟩ := hback _ H1 locs1 hP1 hS1
  exact kk w1 H1 locs1 (by rw [g1, k1, k2, k3, cpY_eq f g (by omega)]) g2 g3 hS1
theorem h_copyt {a a0 n0 n1 index : Nat} {f g : Int → Int} {sp dp n : Int} (F : Fx p m c cc nL s args own) (hl : lv_has ls nL lv0) (hW : Wd X w s H) (hZ0 : cxZ X s s.heap) (hB : cxB X ≤ s.heap.size) (hS : va_S (cxA X) s.heap H locs) (hw : Cond.methodLink own index arraycopyName ∈ BIG) (hX : va_T .byte a0 n0 (fun j => .int (iI (f (j : Int)))) (cxA X) s s.heap) (ha : w a = some (aY X n1 g)) (hn : 0 ≤ sp ∧ 0 ≤ dp ∧ 0 ≤ n ∧ sp + n ≤ (n0 : Int) ∧ dp + n ≤ (n1 : Int) ∧ n0 < 1000000 ∧ n1 < 1000000) (hr : ∀ j, sp ≤ j → j < sp + n → -128 ≤ f j ∧ f j < 128)
    (hf : 1 ≤ R.frames) (hlo : (rest.map fun v => v.category).sum + (nativeFrameWords "java/lang/System" "arraycopy" 5 + 11) ≤ R.locals) (hd : decode cc pc = .ok (.invokestatic index, 3))
    (kk : ∀ (w1 : Wo) (H1 : Heap) (locs1 : List Loc), w1 a = some (aY X n1 (cpY f g sp dp n)) → (∀ q, q ≠ a → w1 q = w q) → Wd X w1 s H1 → va_S (cxA X) s.heap H1 locs1 → W p l e R s m args below meth c H1 locs1 cells slots Q (F0 m (pc + 3) ls rest)) : W p l e R s m args below meth c H locs cells slots Q (F0 m pc ls (.int (iI n) :: .int (iI dp) :: .ref a :: .int (iI sp) :: .ref a0 :: rest)) := by
  obtain ⟨ws, q1, h1, hP, hD, hall, hback⟩ := h_bridge hW hZ0 hB ha
  have k1 : (iI sp).toNatClampNeg = sp.toNat := iI_clamp (by omega)
  have k2 : (iI dp).toNatClampNeg = dp.toNat := iI_clamp (by omega)
  have k3 : (iI n).toNatClampNeg = n.toNat := iI_clamp (by omega)
  refine vk_copyt F.1 F.2.1 (F.2.2.1.trans hl.1.symm) F.2.2.2.1 (F.2.2.2.2 _ hw) (F.2.2.2.2 _ kv_copy) (F.2.2.2.2 _ kt_copy) (F.2.2.2.2 _ kn_RJ10) hW.2.1.1 hP hD hS hX q1 2 h1 rfl
    (fun z => by have := (iI_lt (a := sp) (b := 0) (by omega) (by omega)).mp z; omega) (fun z => by have := (iI_lt (a := dp) (b := 0) (by omega) (by omega)).mp z; omega) (fun z => by have := (iI_lt (a := n) (b := 0) (by omega) (by omega)).mp z; omega) (by rw [k1, k3]; omega) (by rw [k2, k3]; omega) (fun i hi => by
      rw [k1, k3] at *
      exact fits_y (hr _ (by omega) (by omega))) hf hlo hd (fun H1 locs1 hP1 hD1 hS1 => ?_)
  obtain ⟨w1, g1, g2, g3⟩ := hback _ H1 locs1 hP1 hS1
  exact kk w1 H1 locs1 (by rw [g1, k1, k2, k3, cpY_eq f g (by omega)]) g2 g3 hS1
theorem h_gstat {C n d : String} {v : Value} {index : Nat} (F : Fx p m c cc nL s args own) (hZ : va_Z C n d v (cxA X) s s.heap) (hS : va_S (cxA X) s.heap H locs) (hl : Cond.fieldLink own index C n d ∈ BIG) (hd : decode cc pc = .ok (.getstatic index, 3))
    (kk : W p l e R s m args below meth c H locs cells slots Q (F0 m (pc + 3) ls (v :: rest))) : W p l e R s m args below meth c H locs cells slots Q (F0 m pc ls rest) :=
  va_gets F.1 F.2.1 hZ hS F.2.2.2.1 (F.2.2.2.2 _ hl) (fun _ h => h) hd kk
/-- some cell is not of the known ones -/
def nkn (w : Wo) (a : Nat) : Prop := ∀ (q : Nat) (e : va_E), w q = some e → q ≠ a
theorem h_cloneI {n index a : Nat} {f : Int → Int} (F : Fx p m c cc nL s args own) (hl : lv_has ls nL lv0) (hW : Wd X w s H) (hZ0 : cxZ X s H0) (hB : cxB X ≤ H0.size) (hS : va_S (cxA X) H0 H locs) (ha : w a = some (aZ X n f))
    (hG : Cond.methodLink own index ⟨"[I", "clone", "()Ljava/lang/Object;"⟩ ∈ BIG) (hf : 1 ≤ R.frames) (hlo : (rest.map fun v => v.category).sum + 14 ≤ R.locals) (hc9 : cells + 1 ≤ R.cells ∧ slots + n ≤ R.slots) (hd : decode cc pc = .ok (.invokevirtual index, 3))
    (kk : ∀ (q : Nat) (w1 : Wo) (H1 : Heap), nkn w q → w1 q = some (aZ X n f) → (∀ b, b ≠ q → w1 b = w b) → Wd X w1 s H1 → va_S (cxA X) H0 H1 locs → W p l e R s m args below meth c H1 locs (cells + 1) (slots + n) Q (F0 m (pc + 3) ls (.ref q :: rest))) : W p l e R s m args below meth c H locs cells slots Q (F0 m pc ls (.ref a :: rest)) := by
  obtain ⟨ws, q1, h1, hP, hD, hall, hback⟩ := h_bridge hW hZ0 hB ha
  have hnm : s.vm.findClass "[I" = some (X.2.1 0) := (hW.2.1.1.2 0 _ rfl).2
  refine va_clone F.1 F.2.1 (F.2.2.1.trans hl.1.symm) F.2.2.2.1 (F.2.2.2.2 _ hG) (F.2.2.2.2 _ kw_cloneI) (F.2.2.2.2 _ kv_clone) (F.2.2.2.2 _ ki_clone) (F.2.2.2.2 _ ks_cloneI) hW.2.1.2.2.2.2.2.2.2.2.1 hW.2.1.1 hP hD hS (fun q hq => Nat.le_trans hB hq) q1 0 h1 rfl hnm (fun i v hv => ?_) hf hlo hc9.1 hc9.2 hd (fun q H1 hK1 hP1 hD1 hS1 => ?_)
  · rw [vp_cell_i] at hv
    exact fits_arr hv
  · refine kk q (fun b => if b = q then some (aZ X n f) else w b) H1 (fun b e hb z => ?_) (by simp) (fun b hb => by simp [hb]) ⟨⟨fun b e hb => ?_, Nat.le_trans hB hS1.1⟩, hW.2.1, hZ0.kept fun q h1 h2 => hS1.2.1 q h1 h2⟩ hS1
    · obtain ⟨k, hk⟩ := hall b e hb
      subst z
      have hlt : k < ws.length := (List.getElem?_eq_some_iff.mp hk).1
      have e1 : (ws ++ [(b, (.inl (X.2.1 0, n, .inl (fun j : Nat => iI (f (j : Int)))) : va_E))])[k]? = some (b, e) := by rw [List.getElem?_append_left hlt]; exact hk
      have e2 : (ws ++ [(b, (.inl (X.2.1 0, n, .inl (fun j : Nat => iI (f (j : Int)))) : va_E))])[ws.length]? = some (b, (.inl (X.2.1 0, n, .inl (fun j : Nat => iI (f (j : Int)))) : va_E)) := by simp
      have := hD1.1 k ws.length _ _ e1 e2 rfl
      omega
    · by_cases hbq : b = q
      · subst hbq
        simp at hb
        subst hb
        have e2 : (ws ++ [(b, (aZ X n f : va_E))])[ws.length]? = some (b, (aZ X n f : va_E)) := by simp
        exact ⟨hP1 ws.length _ e2, hD1.2 ws.length _ e2⟩
      · simp [hbq] at hb
        obtain ⟨k, hk⟩ := hall b e hb
        have hlt : k < ws.length := (List.getElem?_eq_some_iff.mp hk).1
        have e1 : (ws ++ [(q, (aZ X n f : va_E))])[k]? = some (b, e) := by rw [List.getElem?_append_left hlt]; exact hk
        exact ⟨hP1 k _ e1, (hW.1.1 b e hb).2⟩
end KA
