def rv0S : Int → Int := fun k => if k = 7 then -1 else 0
theorem ks_start {X : Cx} {w : Wo} {y : Nat} (h0 : clO X w y 0) (h1 : loomAt X w (y + 1) (resS 12 8)) (h2 : loomAt X w (y + 26) (resS 12 8)) (h3 : capV X w (y + 51) 0 0 0 0 0 (fun _ => 0)) (h4 : hisAt X w (y + 53) 0 0 (fun _ _ => 0)) (h5 : loomAt X w (y + 255) (resS 12 8)) (h6 : loomAt X w (y + 280) (resS 12 8)) (h7 : w (y + 305) = some (aZ X 9 (fun _ => 0))) (h8 : w (y + 306) = some (aZ X 7 (fun _ => 0))) (h9 : w (y + 307) = some (.inr (0, [.ref (y + 308), .int (iI 0)]))) (h10 : w (y + 308) = some (aZ X 400 (fun _ => 0))) (h11 : w (y + 309) = some (.inr (0, [.ref (y + 310), .int (iI 0)]))) (h12 : w (y + 310) = some (aZ X 400 (fun _ => 0)))
    (h13 : w (y + 311) = some (.inr (6, [.ref (y + 307), .int (iI 0), .int (iI 0), .int (iI 0), .int (iI 0), .int (iI 0), .int (iI 0), .int (iI (-1))]))) (h14 : w (y + 312) = some (.inr (2, [.ref (y + 311), .ref (y + 313), .int (iI 0), .int (iI 0)]))) (h15 : capV X w (y + 313) 0 0 0 0 0 (fun _ => 0)) (h16 : scE X w y) : KS X w y (resS 12 8) 0 0 (fun _ _ => 0) (fun _ => 0) := by
  refine ⟨0, fun _ => 0, 0, fun _ => 0, rv0S, h0, h1, h4, h7, h9, h10, h11, h12, h13, ⟨⟨_, h2.1, h2.2.2.cap8⟩, ⟨0, 0, h14⟩, ⟨_, _, _, _, _, _, h15⟩⟩, h16, ⟨_, h8⟩, ⟨_, _, _, _, _, _, h3⟩, ⟨by decide, by decide⟩, fun q q0 q1 => ?_⟩
  by_cases hq : q < y + 280
  · exact h5.1.kn q q0 (by omega)
  · exact h6.1.kn q (by omega) (by omega)

/-! THE CLAIM OUT OF ONE WALK OF THE LAW'S BODY. Your part is whole_start (and what it stands on); all else here is the same for every law, but numbers. -/
def R_law : String := "CaptionLoomLaw"
def lw_P (b : Addr) (xs : List Int32) (args : Array Value) (s : State) : Prop := args = #[.ref b] ∧ s.IntsAt b xs ∧ xs.length ≤ 260 ∧ (Jvm.Cond.and given_1 narrow_1).before args s = true
/-- what a walk over the start with the record d0 says of its end, said of the start itself -/
theorem lw_closed {s t : State} {o : Outcome} {d0 : Drawn} {L : List Loc} {k n : Nat} (hd0 : s.drawn.sameBut d0 lw_cs) (hv : ∃ v, o = .returned v) (hW : (s.setDrawn d0).WarmedH t.vm) (hs : (s.setDrawn d0).sameButNew ({ t with vm := s.vm } : State) L k n) : State.butDraws s t lw_cs (fun t1 => Framed s o t1 L k n) := by
  have h2 : t.drawn = d0 := congrArg State.drawn hs.1
  refine ⟨⟨hv, hW, State.sameButNew.setDrawn hs s.drawn⟩, ?_, by decide⟩
  rw [h2]
  exact hd0
def lw_Q (_ : Array Value) (s : State) (o : Outcome) (t : State) : Prop := o = .returned (some (.int 1)) ∧ State.butDraws s t lw_cs (fun t1 => Framed s o t1 [] 921239 6337982)
def lw_Z (below : List Frame) (a : Array Value) (s : State) : State → Prop := fun t => ∃ o, t.status = .running ∧ Ended t below o ∧ lw_Q a s o t
/-- the law's own end, with 1 on the stack, nothing written that was there before, its room as the claim has it; d0: the record of draws at this point (at the entry s.drawn: begin with 'refine W.base ?_' and 'have hd0 := Drawn.sameBut.refl s.drawn lw_cs') -/
theorem lw_ret {p : Program} {l : Launch} {e : Env} {s : State} {m : MethodId} {below : List Frame} {meth : Method} {c : Code} {b : Nat} {d0 : Drawn} (hd0 : s.drawn.sameBut d0 lw_cs) (hx : p.tables.exec = Jvm.exec) (hb : c.code = code) (hr : meth.sig.returnType = ret) (hlocks : meth.locks = false) {pc : Nat} {H : Heap} {ls : Array Slot} (hdg : decode code pc = .ok (.ireturn, 1)) : W p l e room_1 (s.setDrawn d0) m #[Value.ref b] below meth c H [] 921239 6337982 (lw_Z below #[Value.ref b] s) (F0 m pc ls [.int 1]) := by
  intro T hT X
  obtain ⟨fs, hret, hrun, hended, hW, hframe⟩ := X.leave (v := some (.int 1)) (hlocks := hlocks) (fun h => by rw [hr] at h; cases h)
  have hmeth' : T.vm.method? m = some meth := X.method'
  refine ⟨T.setFrames fs, ?_, .returned (some (.int 1)), hrun, hended, rfl, lw_closed hd0 ⟨_, rfl⟩ hW hframe⟩
  jvm_step X.here [X.here.top, hx, hb, hdg, hmeth', hr, ret, narrow_b1]
  (try refine ⟨rfl, ?_⟩); (try refine ⟨rfl, ?_⟩)
  first | (intro acts; rw [hret _ acts rfl rfl rfl]) | rw [hret _ _ rfl rfl rfl]
  exact Steps.refl _
/-- what holds at the law's entry: the machine, the code, the tables' words (any of lw_tbl by 'hts w (by decide +kernel)'), the script of L ints xs at the cell b, what the Statement gives of the start (any of its parts by flat_of_before) -/
def lw_At (p : Program) (s : State) (m : MethodId) (meth : Method) (c : Code) (b L : Nat) (xs : Nat → Int32) : Prop :=
  p.tables.exec = Jvm.exec ∧ c.code = code ∧ meth.sig.returnType = ret ∧ c.maxLocals = 4 ∧ s.vm.findClass R_law = some m.cls ∧ (∀ w ∈ lw_tbl, w.before #[Value.ref b] s = true) ∧ va_X b L xs s s.heap ∧ b < s.heap.size ∧ meth.locks = false ∧ (Jvm.Cond.and given_1 narrow_1).before #[Value.ref b] s = true

set_option maxHeartbeats 4000000 in
set_option maxRecDepth 100000 in
theorem law_start {p : Program} {e : Env} {s : State} {m : MethodId} {args : Array Value} {below : List Frame} {meth : Method} {c : Code} {Q : State → Prop} {X : Cx} {b L : Nat} {xs : Nat → Int32} (l : Launch) (F : Fx p m c cL_law 4 s args RL) (hX : va_X b L xs s s.heap) (hbl : b < s.heap.size) (hL : (L : Int) ≤ 260) (hXb : cxB X = s.heap.size) (hXK : cxK X s) (hXZ : cxZ X s s.heap) (kr : ∀ (H : Heap) (ls : Array Slot), W p l e room_1 s m args below meth c H [] 921239 6337982 Q (F0 m 48 ls [.int (iI 1)])) (ls : Array Slot) (hl : lv_has ls 4 [(0, .ref b)]) : W p l e room_1 s m args below meth c s.heap [] 0 0 Q (F0 m 0 ls []) := by
  have hbA : ¬ cxA X b := fun z => by have z : cxB X ≤ b := z; rw [hXb] at z; omega
  have hA : ∀ q : Nat, cxA X q → s.heap.size ≤ q := fun q z => by have z : cxB X ≤ q := z; rw [hXb] at z; exact z
  have hW : Wd X (fun _ => none) s s.heap := ⟨⟨fun q e1 h => absurd h (by intro z; cases z), by rw [hXb]; exact Nat.le_refl _⟩, hXK, hXZ⟩
  have hS : va_S (cxA X) s.heap s.heap [] := va_S.rf
  obtain ⟨y, ey⟩ : ∃ y : Nat, s.heap.size = y := ⟨_, rfl⟩
  refine h_new (a := y) (ci := 8) (fs := [.null, .null, .null, .null, .null, .null, .int (iI 0), .null, .null, .null, .null, .null, .null, .null]) F hW hS ey inX8 tyX8 tyX8_ok kl_RL_18 kb_RX8 kn_RX8 rfl (by intro j hj; rcases (show j = 0 ∨ j = 1 ∨ j = 2 ∨ j = 3 ∨ j = 4 ∨ j = 5 ∨ j = 6 ∨ j = 7 ∨ j = 8 ∨ j = 9 ∨ j = 10 ∨ j = 11 ∨ j = 12 ∨ j = 13 by omega) with hj | hj | hj | hj | hj | hj | hj | hj | hj | hj | hj | hj | hj | hj <;> subst hj <;> rfl) (by decide) dL_law_0 (fun w1 H ho hn1 hW hS => ?_)
  refine lv_dup F.1 F.2.1 dL_law_3 rfl ?_
  refine h_size (q := y) hW ho (by omega) (fun hz => ?_)
  refine h_callI (As := []) (rest := [.ref y]) F hl (n_X8_init l X w1 y ho) hW hS hz ⟨kc_yX8_init, kn_RX8, km_RL_35, ki_yX8_init⟩ rfl niX8 rfl rfl ⟨Nat.le_of_ble_eq_true rfl, Nat.le_of_ble_eq_true rfl⟩ (Nat.le_of_ble_eq_true rfl) (by decide) dL_law_4 (fun w2 H locs hp hW hS => ?_)
  obtain ⟨h0, h1, h2, h3, h4, h5, h6, h7, h8, h9, h10, h11, h12, h13, h14, h15, h16, -, -⟩ := hp
  have hK := ks_start h0 h1 h2 h3 h4 h5 h6 h7 h8 h9 h10 h11 h12 h13 h14 h15 h16
  refine lv_astore_n (lv' := [(1, .ref y), (0, .ref b)]) F.1 F.2.1 dL_law_7 rfl hl (by decide) rfl (fun ls hl => ?_)
  refine lv_aload_n F.1 F.2.1 dL_law_8 rfl (lv_at hl 1 rfl) ?_
  refine va_slen F.1 F.2.1 hX hbl hbA hS dL_law_9 ?_
  rw [lS_ofN]
  refine lv_istore_n (lv' := [(2, .int (iI (L : Int))), (1, .ref y), (0, .ref b)]) F.1 F.2.1 dL_law_10 rfl hl (by decide) rfl (fun ls hl => ?_)
  refine h_iconst F dL_law_11 ?_
  refine lv_istore_n (lv' := [(3, .int (iI 0)), (2, .int (iI (L : Int))), (1, .ref y), (0, .ref b)]) F.1 F.2.1 dL_law_12 rfl hl (by decide) rfl (fun ls hl => ?_)
  exact law_loop (K1 := 203000) (K2 := 1000000) F hX hbl hbA hL ⟨Nat.le_refl _, Nat.le_refl _⟩ (fun w gq σ0 gf nx sz pas ac hK hg ho hp => c_L_lives l X w y gq σ0 gf nx sz pas ac hK hg ho hp) kr hA 4 w2 H _ ls 0 _ _ _ _ _ _ _ (by decide) (by decide) (Nat.le_of_ble_eq_true rfl) (Nat.le_of_ble_eq_true rfl) hK ⟨by decide, by decide⟩ (lv_sub hl [3, 2, 1, 0] rfl) hW hS
theorem whole_start {p : Program} {e : Env} {s : State} {m : MethodId} {below : List Frame} {meth : Method} {c : Code} (l : Launch) (hflags : l.flags = flags0) {b L : Nat} {xs : Nat → Int32} (hL : L ≤ 260) (C0 : lw_At p s m meth c b L xs) : W p l e room_1 s m #[Value.ref b] below meth c s.heap [] 0 0 (lw_Z below #[Value.ref b] s) (entryFrame m ([Value.ref b] : List Value).toArray 4) := by
  obtain ⟨hx, hb, hr, hml, hown, hts, hX, hbl, hlocks, hgv⟩ := C0
  obtain ⟨X, hXb, hXK, hXZ⟩ := cx_start hts hgv
  have F : Fx p m c cL_law 4 s #[Value.ref b] RL := ⟨hx, hb, hml, hown, fun w h => hts w (big_tbl h)⟩
  have hl := lv_entry [Value.ref b] (n := 4) (Nat.le_of_ble_eq_true rfl)
  rw [lg_entry_eq]
  generalize (lg_sl [Value.ref b] ++ List.replicate (4 - (lg_sl [Value.ref b]).length) Slot.unset).toArray = ls at hl ⊢
  exact law_start l F hX hbl (by omega) hXb hXK hXZ (fun H ls => lw_ret (d0 := s.drawn) (Drawn.sameBut.refl s.drawn lw_cs) hx hb hr hlocks dL_law_48) ls hl
