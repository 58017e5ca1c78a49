/-! ===== the kit of what is thrown and caught ===== -/
def nmx : List String := ["java/lang/RuntimeException", "java/lang/Exception"]
def yInit (C : String) : MethodName := ⟨C, "<init>", "(Ljava/lang/String;)V"⟩
def hasCode (y : MethodName) : Bool := BIG.any (fun w => match w with | .code y2 _ _ _ => decide (y2 = y) | _ => false)
theorem declares_b {args : Array Value} {s : State} {y : MethodName} (hb : ∀ w ∈ BIG, w.before args s = true) (hc : hasCode y = true) (hi : Cond.instanceMethod y ∈ BIG) : (Cond.declares y).before args s = true := by
  obtain ⟨w, hw, hy⟩ := List.any_eq_true.mp hc
  have hw2 := hb w hw
  have hi2 := hb _ hi
  obtain ⟨m, meth, h1, h2, h3, h4⟩ := Cond.instanceMethod_spec hi2
  have hsig : parseMethodDescriptor y.desc = some meth.sig := by
    cases w with
    | code y2 cb n r =>
      have e : y2 = y := of_decide_eq_true hy
      subst e
      obtain ⟨meth', c, k1, -, -, -, -, -, -, k8⟩ := Cond.code_spec h1 hw2
      cases h2.symm.trans k1
      exact k8
    | _ => exact absurd (show (false : Bool) = true from hy) Bool.false_ne_true
  have e : Cond.value args s none s [] (Cond.declares y) = some true := by
    show (((s.methodNamed? y).bind s.vm.method?).map fun meth => !meth.isStatic && decide (parseMethodDescriptor y.desc = some meth.sig)) = some true
    rw [h1]
    show ((s.vm.method? m).map fun meth => !meth.isStatic && decide (parseMethodDescriptor y.desc = some meth.sig)) = some true
    rw [h2]
    show some (!meth.isStatic && decide (parseMethodDescriptor y.desc = some meth.sig)) = some true
    rw [h3, decide_eq_true hsig]
    rfl
  show (Cond.value args s none s [] (Cond.declares y) == some true) = true
  rw [e]
  rfl
/-- an exception of the class that may be made and thrown: the pool's entry of the class, of its constructor -/
def xwB (cls : String) : List Cond := [.declares (yInit "java/lang/RuntimeException"), .declares (yInit "java/lang/Exception"), .declares (yInit "java/lang/Throwable"), .castable cls cls]
def xwOK (ik ic : Nat) (cls : String) : Prop := Cond.classLink RX8 ik cls ∈ BIG ∧ Cond.initialized cls ∈ BIG ∧ (∀ w ∈ (vx_atS RX8 ic cls nmx).filter goodWord, w ∈ BIG) ∧ (∀ w ∈ (vx_atS RX8 ic cls nmx).filter (fun w => !goodWord w), w ∈ xwB cls) ∧ (∀ w ∈ Cond.classLink RX8 ik cls :: Cond.initialized cls :: vx_atS RX8 ic cls nmx, vx_ot w = true) ∧ Bundle.fit cls = true ∧ cls ∈ cxC
set_option maxRecDepth 100000 in
theorem xw_S : xwOK 85 89 "java/lang/IllegalStateException" := ⟨kl_RX8_85, by decide +kernel, by decide +kernel, by decide +kernel, by decide +kernel, by decide +kernel, by decide +kernel⟩
set_option maxRecDepth 100000 in
theorem xw_A : xwOK 96 100 "java/lang/IllegalArgumentException" := ⟨by decide +kernel, by decide +kernel, by decide +kernel, by decide +kernel, by decide +kernel, by decide +kernel, by decide +kernel⟩
set_option maxRecDepth 100000 in
theorem xw_I : xwOK 205 209 "java/lang/IndexOutOfBoundsException" := ⟨by decide +kernel, by decide +kernel, by decide +kernel, by decide +kernel, by decide +kernel, by decide +kernel, by decide +kernel⟩
theorem nmx_fit : ∀ n ∈ nmx, Bundle.fit n = true := by decide +kernel
theorem hcI1 : hasCode (yInit "java/lang/RuntimeException") = true ∧ Cond.instanceMethod (yInit "java/lang/RuntimeException") ∈ BIG := by decide +kernel
theorem hcI2 : hasCode (yInit "java/lang/Exception") = true ∧ Cond.instanceMethod (yInit "java/lang/Exception") ∈ BIG := by decide +kernel
theorem hcI3 : hasCode (yInit "java/lang/Throwable") = true ∧ Cond.instanceMethod (yInit "java/lang/Throwable") ∈ BIG := by decide +kernel
abbrev rmx (f l : Nat) : Room := { frames := f, cells := 1, slots := 6, locals := l }
theorem bigw_in {y : MethodName} {cb : ByteArray} {maxL : Nat} {ret : Option FieldType} {hh : List (Nat × Nat × Nat × Nat)} (h : Cond.codeWith y cb maxL ret hh ∈ BIG) : GoodIn BIG (Cond.codeWith y cb maxL ret hh :: BIG) := fun w hw => by
  have hm : w ∈ BIG := by
    rcases List.mem_cons.mp hw with rfl | h2
    · exact h
    · exact h2
  exact ⟨hm, good_of_word (big_good hm)⟩
/-- the class that is thrown, the world then -/
abbrev XP (X : Cx) (E : String) (P : Wo → Prop) : String → State → State → Prop := vx_X (S := Wo) P (fun E' w' t => E' = E ∧ cxH X w' t.heap) (cxA X)
def CX (l : Launch) (X : Cx) (y : MethodName) (cb : ByteArray) (maxL : Nat) (ret : Option FieldType) (rm : Room) (As : List Value) (w : Wo) (E : String) (P : Wo → Prop) : Prop :=
  vx_Met l y (Cond.code y cb maxL ret :: BIG) rm (va_Pc As (fun U => Wd X w U U.heap)) (fun _ _ _ _ => False) (XP X E P) rm.cells rm.slots (cxA X)
abbrev XX (X : Cx) (below : List Frame) (args : Array Value) (s : State) (mc ms : Nat) (E : String) (P : Wo → Prop) : State → Prop := vx_MQ below (fun _ _ _ _ => False) (XP X E P) args s mc ms (cxA X)
section KXX
variable {p : Program} {l : Launch} {e : Env} {R : Room} {s : State} {m : MethodId} {args : Array Value} {below : List Frame} {meth : Method} {c : Code} {H H0 : Heap} {locs : List Loc} {cells slots : Nat} {Q : State → Prop}
  {cc : ByteArray} {nL pc : Nat} {own : String} {ls : Array Slot} {rest : List Value} {X : Cx} {w : Wo} {lv0 : List (Nat × Value)}
theorem CX.of {y : MethodName} {cb : ByteArray} {maxL : Nat} {ret : Option FieldType} {rm : Room} {As : List Value} {E : String} {P : Wo → Prop} {lv : List (Nat × Value)} (hy : plainName y.cls = true) (hlen : (lg_sl As).length ≤ maxL) (hlv : lv_args 0 As = lv)
    (body : ∀ (p : Program) (e : Env) (s : State) (m : MethodId) (below : List Frame) (meth : Method) (c : Code) (ls : Array Slot), Fx p m c cb maxL s As.toArray y.cls → (∀ x ∈ c.exceptionTable.toList, False) → meth.locks = false → meth.name = y.name → Wd X w s s.heap → va_S (cxA X) s.heap s.heap [] → lv_has ls maxL lv →
      W p l e rm s m As.toArray below meth c s.heap [] 0 0 (XX X below As.toArray s rm.cells rm.slots E P) (F0 m 0 ls [])) : CX l X y cb maxL ret rm As w E P := by
  refine vx_ofW (cc := cb) (maxL := maxL) (ret := ret) hy rfl ?_
  intro p e s m args below meth c s₁ B hml hnt hv
  obtain ⟨rfl, hW⟩ := hv
  have hts := atoms_spec (ws := Cond.code y cb maxL ret :: BIG) B.pre
  have hl := lv_entry As (n := maxL) hlen
  rw [lg_entry_eq]
  generalize (lg_sl As ++ List.replicate (maxL - (lg_sl As).length) Slot.unset).toArray = ls at hl ⊢
  rw [hlv] at hl
  exact body p e s m below meth c ls ⟨B.exec, B.bytes, hml, findClass_of_methodNamed B.named, fun w h => hts w (List.mem_cons_of_mem _ h)⟩ hnt B.notSynchronized (name_of_methodNamed B.named B.method).1 hW va_S.rf hl
theorem x_end {P : Wo → Prop} {E : String} (hW : Wd X w s H) (hS : va_S (cxA X) s.heap H locs) (hP : P w) {t : State} (h1 : H.size ≤ t.heap.size) (h2 : ∀ q : Nat, q < H.size → t.heap[q]? = H[q]?) : XP X E P E s t :=
  ⟨w, hP, ⟨rfl, (hW.skip h1 h2).1⟩, Nat.le_trans hS.1 h1, fun q q1 q2 => (h2 q (Nat.lt_of_lt_of_le q1 hS.1)).trans (hS.2.1 q q1 q2)⟩
theorem xw_at {ik ic : Nat} {cls : String} (hx : xwOK ik ic cls) (F : Fx p m c cc nL s args own) (hW : Wd X w s H) : ∀ w ∈ vx_atS RX8 ic cls nmx, w.before args s = true := by
  obtain ⟨-, -, h3, h4, -, -, h7⟩ := hx
  refine vx_hat (B := xwB cls) (fun w hw => F.2.2.2.2 _ (h3 w hw)) h4 (fun w hw => ?_)
  rcases List.mem_cons.mp hw with rfl | hw
  · exact declares_b F.2.2.2.2 hcI1.1 hcI1.2
  rcases List.mem_cons.mp hw with rfl | hw
  · exact declares_b F.2.2.2.2 hcI2.1 hcI2.2
  rcases List.mem_cons.mp hw with rfl | hw
  · exact declares_b F.2.2.2.2 hcI3.1 hcI3.2
  rcases List.mem_cons.mp hw with rfl | hw
  · exact va_Nw.use rfl (hW.2.1.2.2.2.2.2.2.2.1 _ h7)
  · cases hw
theorem h_throw {P : Wo → Prop} {cls text : String} {ik is ic mc ms : Nat} (F : Fx p m c cc nL s args RX8) (hst : l.stackTraces = false) (hnt : ∀ x ∈ c.exceptionTable.toList, False) (hlk : meth.locks = false) (hl : lv_has ls nL lv0) (hW : Wd X w s H) (hZ0 : cxZ X s s.heap) (hS : va_S (cxA X) s.heap H locs) (hP : P w) (hx : xwOK ik ic cls) (hT : (is, text) ∈ cxE)
    (d0 : decode cc pc = .ok (.new ik, 3)) (d3 : decode cc (pc + 3) = .ok (.dup, 1)) (d4 : decode cc (pc + 4) = .ok (.ldc is, 2)) (d6 : decode cc (pc + 6) = .ok (.invokespecial ic, 3)) (d9 : decode cc (pc + 9) = .ok (.athrow, 1))
    (hR : 5 < R.frames ∧ (rest.map fun v => v.category).sum + 82 ≤ R.locals) (hf : (cells + 1 ≤ R.cells ∧ slots + 6 ≤ R.slots) ∧ cells + 1 ≤ mc ∧ slots + 6 ≤ ms) :
    W p l e R s m args below meth c H locs cells slots (XX X below args s mc ms cls P) (F0 m pc ls rest) := by
  obtain ⟨sa, hstr⟩ := hW.2.1.2.2.2.2.2.2.1 _ hT
  exact vx_throwS (names := nmx) F.1 F.2.1 hst F.2.2.2.1 hx.2.2.2.2.2.1 nmx_fit (F.2.2.2.2 _ hx.1) (F.2.2.2.2 _ hx.2.1) hstr (xw_at hx F hW) hx.2.2.2.2.1 hZ0.2.2.2.2.2.1 hZ0.2.2.2.2.2.2 hS (hl.1.trans F.2.2.1.symm) d0 d3 d4 d6 d9 (fun x h => (hnt x h).elim) hR.1 hR.2 hf.1.1 hf.1.2 hlk (fun t _ h1 h2 => x_end hW hS hP h1 h2) hS.2.2 hf.2.1 hf.2.2
theorem h_throwW {P : Wo → Prop} {cls text : String} {ik is ic mc ms : Nat} (F : Fx p m c cc nL s args RX8) (hst : l.stackTraces = false) (hnt : ∀ x ∈ c.exceptionTable.toList, False) (hlk : meth.locks = false) (hl : lv_has ls nL lv0) (hW : Wd X w s H) (hZ0 : cxZ X s s.heap) (hS : va_S (cxA X) s.heap H locs) (hP : P w) (hx : xwOK ik ic cls) (hT : (is, text) ∈ cxE)
    (d0 : decode cc pc = .ok (.new ik, 3)) (d3 : decode cc (pc + 3) = .ok (.dup, 1)) (d4 : decode cc (pc + 4) = .ok (.ldc_w is, 3)) (d7 : decode cc (pc + 7) = .ok (.invokespecial ic, 3)) (d10 : decode cc (pc + 10) = .ok (.athrow, 1))
    (hR : 5 < R.frames ∧ (rest.map fun v => v.category).sum + 82 ≤ R.locals) (hf : (cells + 1 ≤ R.cells ∧ slots + 6 ≤ R.slots) ∧ cells + 1 ≤ mc ∧ slots + 6 ≤ ms) :
    W p l e R s m args below meth c H locs cells slots (XX X below args s mc ms cls P) (F0 m pc ls rest) := by
  obtain ⟨sa, hstr⟩ := hW.2.1.2.2.2.2.2.2.1 _ hT
  exact vx_throwSW (names := nmx) F.1 F.2.1 hst F.2.2.2.1 hx.2.2.2.2.2.1 nmx_fit (F.2.2.2.2 _ hx.1) (F.2.2.2.2 _ hx.2.1) hstr (xw_at hx F hW) hx.2.2.2.2.1 hZ0.2.2.2.2.2.1 hZ0.2.2.2.2.2.2 hS (hl.1.trans F.2.2.1.symm) d0 d3 d4 d7 d10 (fun x h => (hnt x h).elim) hR.1 hR.2 hf.1.1 hf.1.2 hlk (fun t _ h1 h2 => x_end hW hS hP h1 h2) hS.2.2 hf.2.1 hf.2.2
/-- a call of a method that throws: what comes of it at the caller -/
theorem h_callX {C : String} {y : MethodName} {cb : ByteArray} {maxL index n ci N a : Nat} {T : u_T} {fs : List Value} {ret : Option FieldType} {rm : Room} {As st : List Value} {E : String} {P : Wo → Prop} (F : Fx p m c cc nL s args own) (hl : lv_has ls nL lv0) (hM : CX l X y cb maxL ret rm (.ref a :: As) w E P) (hW : Wd X w s H) (hS : va_S (cxA X) H0 H locs)
    (hG : GoodIn BIG (wsV own index C y (Cond.code y cb maxL ret :: BIG))) (hy : y.cls = C ∧ y.cls ≠ "java/lang/invoke/MethodHandle" ∧ y.cls ≠ "java/lang/invoke/VarHandle" ∧ (parseMethodDescriptor y.desc).map (fun d => d.parameters.length) = some n) (hc : vwCl[ci]? = some (C, T, N))
    (ha : w a = some (.inr (ci, fs))) (hst : st = As.reverse ++ .ref a :: rest) (hn : As.length = n) (hR : rm.frames + 1 ≤ R.frames ∧ 8 + (maxL + 11) + rm.locals ≤ R.locals) (hcat : (rest.map fun v => v.category).sum ≤ 8) (hf : cells + rm.cells ≤ R.cells ∧ slots + rm.slots ≤ R.slots) (hd : decode cc pc = .ok (.invokevirtual index, 3))
    (kx : ∀ (w1 : Wo) (H1 : Heap) (locs1 : List Loc) (ce : Cell) (q9 : Addr), P w1 → Wd X w1 s H1 → va_S (cxA X) H0 H1 locs1 → H1[q9]? = some ce → ce.vm = .none → s.vm.findClass E = some ce.cls → vx_W p l e R s m args below meth c H1 locs1 (cells + rm.cells) (slots + rm.slots) Q (F0 m pc ls rest) q9) : W p l e R s m args below meth c H locs cells slots Q (F0 m pc ls st) := by
  have hr := vx_runV (p := p) (l := l) (e := e) (R := R) (s := s) (m := m) (args := args) (below := below) (meth := meth) (c := c) (H := H) (locs := locs) (cells := cells) (slots := slots) (g := F0 m pc ls st) (As := As) (rest := rest) F hM (cwV n F.2.2.2.2 hG rfl rfl rfl hy hR)
    ⟨fun a U g mk q => ⟨q.1, Wd.call q.2⟩, va_recv hW.2.1.1 (h_one hW ha) hc (q0 := 0) rfl, fun U hU hWm => ⟨rfl, by show Wd X w U U.heap; rw [hU]; exact hW.warm hWm⟩⟩ rfl hn hl.1 hst (by show 2 * 0 + _ ≤ 8; rw [Nat.mul_zero, Nat.zero_add]; exact hcat) hd hf
  intro T9 hT X9
  rcases hr T9 hT X9 with ⟨v, st₀, t, T', L, h0, X', hL, e1, e2, hq, st⟩ | ⟨q, st₀, t, T', L, E', ce, h0, X', hL, e1, e2, ⟨w1, hp, ⟨rfl, hb⟩, hz, hk⟩, hce, hcv, hcl, st⟩
  · exact hq.elim
  · rw [h0] at hz hk
    have hk1 : ∀ q : Nat, q < H.size → ¬ cxA X q → T'.heap[q]? = H[q]? := fun q h1 h2 => by rw [e1]; exact hk q h1 h2
    obtain ⟨t2, a1, b1⟩ := kx w1 T'.heap (locs ++ L) ce q hp ⟨by rw [e1]; exact hb, hW.2.1, hW.2.2.kept hk1⟩ ⟨Nat.le_trans hS.1 (by rw [e1]; exact hz), fun q h1 h2 => by rw [hk1 q (Nat.lt_of_lt_of_le h1 hS.1) h2]; exact hS.2.1 q h1 h2, fun q hq => by
      rcases List.mem_append.mp hq with h | h
      · exact hS.2.2 q h
      · exact hL q h⟩ (by rw [e1]; exact hce) hcv hcl T' rfl X'
    exact ⟨t2, st.trans a1, b1⟩
/-- it goes on to the caller's caller -/
theorem h_out {P : Wo → Prop} {E : String} {ce : Cell} {q9 : Addr} {mc ms : Nat} (hnt : ∀ x ∈ c.exceptionTable.toList, False) (hlk : meth.locks = false) (hW : Wd X w s H) (hS : va_S (cxA X) s.heap H locs) (hP : P w) (hce : H[q9]? = some ce) (hcv : ce.vm = .none) (hcl : s.vm.findClass E = some ce.cls) (hf : cells ≤ mc ∧ slots ≤ ms) :
    vx_W p l e R s m args below meth c H locs cells slots (XX X below args s mc ms E P) (F0 m pc ls rest) q9 :=
  vx_out (fun x h => (hnt x h).elim) hlk hce hcv hcl (fun t ht _ => x_end hW hS hP (by rw [ht]; exact Nat.le_refl _) (fun q _ => by rw [ht])) hS.2.2 hf.1 hf.2
/-- a method of the law with a table of handlers -/
def CL (l : Launch) (X : Cx) (y : MethodName) (cb : ByteArray) (maxL : Nat) (ret : Option FieldType) (hh : List (Nat × Nat × Nat × Nat)) (rm : Room) (As : List Value) (w : Wo) (v : Option Value) (P : Wo → Prop) : Prop :=
  Met l y (Cond.codeWith y cb maxL ret hh :: BIG) rm (va_Pc As (fun U => Wd X w U U.heap)) (fun _ st oc t => (∃ w' : Wo, oc = .returned v ∧ P w' ∧ cxH X w' t.heap) ∧ va_F (cxA X) st t) rm.cells rm.slots (cxA X)
theorem CL.of {y : MethodName} {cb : ByteArray} {maxL : Nat} {ret : Option FieldType} {hh : List (Nat × Nat × Nat × Nat)} {rm : Room} {As : List Value} {v : Option Value} {P : Wo → Prop} {lv : List (Nat × Value)} (hy : plainName y.cls = true) (hlen : (lg_sl As).length ≤ maxL) (hlv : lv_args 0 As = lv)
    (body : ∀ (p : Program) (e : Env) (s : State) (m : MethodId) (below : List Frame) (meth : Method) (c : Code) (ls : Array Slot), Fx p m c cb maxL s As.toArray y.cls → c.exceptionTable.toList = tableOf hh → meth.sig.returnType = ret → meth.locks = false → Wd X w s s.heap → va_S (cxA X) s.heap s.heap [] → lv_has ls maxL lv →
      W p l e rm s m As.toArray below meth c s.heap [] 0 0 (MX X below As.toArray s rm.cells rm.slots v P) (F0 m 0 ls [])) : CL l X y cb maxL ret hh rm As w v P := by
  unfold CL
  refine MetFree.of_bodyS (code := cb) (maxLocals := maxL) (ret := ret) hy ?_ ?_
  · intro args s m h hn
    obtain ⟨m9, meth, c, hn9, h1, h2, h3, h4, -, h5, h6, -⟩ := Cond.codeWith_spec (atoms_spec (ws := Cond.codeWith y cb maxL ret hh :: BIG) h _ List.mem_cons_self)
    cases hn.symm.trans hn9
    exact ⟨meth, c, h1, h2, h3, h4, h5, h6⟩
  · intro p e s m args below meth c s₁ B hml hv _
    obtain ⟨rfl, hW⟩ := hv
    have hh0 : s₁.heap = s.heap := by rw [B.state]; rfl
    have hts := atoms_spec (ws := Cond.codeWith y cb maxL ret hh :: BIG) B.pre
    have htb := vx_table (x := y) B (hts _ List.mem_cons_self)
    have hl := lv_entry As (n := maxL) hlen
    have K : W p l e rm s m As.toArray below meth c s.heap [] 0 0 (MX X below As.toArray s rm.cells rm.slots v P) (entryFrame m As.toArray maxL) := by
      rw [lg_entry_eq]
      generalize (lg_sl As ++ List.replicate (maxL - (lg_sl As).length) Slot.unset).toArray = ls at hl ⊢
      rw [hlv] at hl
      exact body p e s m below meth c ls ⟨B.exec, B.bytes, hml, findClass_of_methodNamed B.named, fun w h => hts w (List.mem_cons_of_mem _ h)⟩ htb B.returns B.notSynchronized hW va_S.rf hl
    obtain ⟨t, a1, o, b1, b2, b3⟩ := K s₁ hh0 (Stand.of_body B)
    exact ⟨t, o, a1, b1, b2, ⟨b3.1, b3.2⟩⟩
theorem CL.imp {y : MethodName} {cb : ByteArray} {maxL : Nat} {ret : Option FieldType} {hh : List (Nat × Nat × Nat × Nat)} {rm : Room} {As : List Value} {v : Option Value} {P P' : Wo → Prop} (h : CL l X y cb maxL ret hh rm As w v P) (hP : ∀ w', P w' → P' w') : CL l X y cb maxL ret hh rm As w v P' := by
  intro p e ha hc hk s m args below hf happ hp hK
  obtain ⟨n, o, h1, h2, h3, ⟨⟨w', h4, h5, h6⟩, h7⟩, h8⟩ := h p e ha hc hk s m args below hf happ hp hK
  exact ⟨n, o, h1, h2, h3, ⟨⟨w', h4, hP w' h5, h6⟩, h7⟩, h8⟩
theorem h_callSW {y : MethodName} {cb : ByteArray} {maxL index n : Nat} {ret : Option FieldType} {hh : List (Nat × Nat × Nat × Nat)} {rm : Room} {As st : List Value} {v : Option Value} {P : Wo → Prop} (F : Fx p m c cc nL s args own) (hl : lv_has ls nL lv0) (hM : CL l X y cb maxL ret hh rm As w v P) (hW : Wd X w s H) (hS : va_S (cxA X) H0 H locs)
    (hG : GoodIn BIG (va_wsS own index y (Cond.codeWith y cb maxL ret hh :: BIG))) (hy : y.cls ≠ "java/lang/invoke/MethodHandle" ∧ y.cls ≠ "java/lang/invoke/VarHandle" ∧ (parseMethodDescriptor y.desc).map (fun d => d.parameters.length) = some n)
    (hst : st = As.reverse ++ rest) (hn : As.length = n) (hR : rm.frames + 1 ≤ R.frames ∧ 8 + (maxL + 11) + rm.locals ≤ R.locals) (hcat : (rest.map fun v => v.category).sum ≤ 8) (hf : cells + rm.cells ≤ R.cells ∧ slots + rm.slots ≤ R.slots) (hd : decode cc pc = .ok (.invokestatic index, 3))
    (kk : ∀ (w1 : Wo) (H1 : Heap) (locs1 : List Loc), P w1 → Wd X w1 s H1 → va_S (cxA X) H0 H1 locs1 → W p l e R s m args below meth c H1 locs1 (cells + rm.cells) (slots + rm.slots) Q (F0 m (pc + 3) ls (v.toList ++ rest))) : W p l e R s m args below meth c H locs cells slots Q (F0 m pc ls st) := by
  have hr := vx_runSW (p := p) (l := l) (e := e) (R := R) (s := s) (m := m) (args := args) (below := below) (meth := meth) (c := c) (H := H) (locs := locs) (cells := cells) (slots := slots) (g := F0 m pc ls st) (As := As) (rest := rest) F hM (vx_cwSW n F.2.2.2.2 hG rfl rfl rfl hy hR)
    ⟨fun a U g mk q => ⟨q.1, Wd.call q.2⟩, fun U hU hWm => ⟨rfl, by show Wd X w U U.heap; rw [hU]; exact hW.warm hWm⟩⟩ rfl hn hl.1 hst (by show 2 * 0 + _ ≤ 8; rw [Nat.mul_zero, Nat.zero_add]; exact hcat) hd hf
  intro T9 hT X9
  obtain ⟨v9, st₀, t, T', L, h0, X', hL, e1, e2, ⟨⟨w1, hv, hp, hb⟩, hz, hk⟩, st9⟩ := hr T9 hT X9
  cases hv
  rw [h0] at hz hk
  have hk1 : ∀ q : Nat, q < H.size → ¬ cxA X q → T'.heap[q]? = H[q]? := fun q h1 h2 => by rw [e1]; exact hk q h1 h2
  obtain ⟨t2, a1, b1⟩ := kk w1 T'.heap (locs ++ L) hp ⟨by rw [e1]; exact hb, hW.2.1, hW.2.2.kept hk1⟩ ⟨Nat.le_trans hS.1 (by rw [e1]; exact hz), fun q h1 h2 => by rw [hk1 q (Nat.lt_of_lt_of_le h1 hS.1) h2]; exact hS.2.1 q h1 h2, fun q hq => by
      rcases List.mem_append.mp hq with h | h
      · exact hS.2.2 q h
      · exact hL q h⟩ T' rfl X'
  exact ⟨t2, st9 t2 a1, b1⟩
/-- caught by the first row of the table; by the second -/
theorem h_caught1 {E : String} {ce : Cell} {q9 hp ct s0 e0 : Nat} {hh : List (Nat × Nat × Nat × Nat)} (F : Fx p m c cc nL s args own) (hW : Wd X w s H) (htb : c.exceptionTable.toList = tableOf ((s0, e0, hp, ct) :: hh)) (hpc : covers ⟨s0, e0, hp, ct⟩ pc = true) (hct : ct ≠ 0) (hl : Cond.classLink own ct E ∈ BIG) (hE : E ∈ cxC) (hce : H[q9]? = some ce) (hcv : ce.vm = .none) (hcl : s.vm.findClass E = some ce.cls)
    (kk : W p l e R s m args below meth c H locs cells slots Q (F0 m hp ls [.ref q9])) : vx_W p l e R s m args below meth c H locs cells slots Q (F0 m pc ls rest) q9 :=
  vx_catch F.2.2.2.1 [] ⟨s0, e0, hp, ct⟩ (tableOf hh) htb (fun z hz => nomatch hz) hpc hct (F.2.2.2.2 _ hl) (va_Nw.use rfl (hW.2.1.2.2.2.2.2.2.2.1 _ hE)) hce hcv hcl kk
theorem h_caught2 {E E1 : String} {ce : Cell} {q9 hp ct s0 e0 h1 c1 s1 e1 : Nat} {hh : List (Nat × Nat × Nat × Nat)} (F : Fx p m c cc nL s args own) (hW : Wd X w s H) (htb : c.exceptionTable.toList = tableOf ((s1, e1, h1, c1) :: (s0, e0, hp, ct) :: hh)) (hc1 : c1 ≠ 0) (hl1 : Cond.classLink own c1 E1 ∈ BIG) (hN : (E, E1) ∈ cxN) (hpc : covers ⟨s0, e0, hp, ct⟩ pc = true) (hct : ct ≠ 0) (hl : Cond.classLink own ct E ∈ BIG) (hE : E ∈ cxC) (hce : H[q9]? = some ce) (hcv : ce.vm = .none) (hcl : s.vm.findClass E = some ce.cls)
    (kk : W p l e R s m args below meth c H locs cells slots Q (F0 m hp ls [.ref q9])) : vx_W p l e R s m args below meth c H locs cells slots Q (F0 m pc ls rest) q9 :=
  vx_catch F.2.2.2.1 [⟨s1, e1, h1, c1⟩] ⟨s0, e0, hp, ct⟩ (tableOf hh) htb (fun z hz => by
    rcases List.mem_cons.mp hz with rfl | hz
    · exact Or.inr ⟨hc1, E1, F.2.2.2.2 _ hl1, hW.2.1.2.2.2.2.2.2.2.2 _ hN⟩
    · cases hz) hpc hct (F.2.2.2.2 _ hl) (va_Nw.use rfl (hW.2.1.2.2.2.2.2.2.2.1 _ hE)) hce hcv hcl kk
end KXX
