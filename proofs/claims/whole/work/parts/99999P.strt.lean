def v0S : Int → Int := fun k => if k = 19 then -1 else if k = 21 then -1 else 0
def rv0S : Int → Int := fun k => if k = 7 then -1 else 0
abbrev zS : Int → Int := fun _ => 0
theorem pc_start {X : Cx} {w : Wo} {y : Nat} (h0 : clO X w y 0) (h1 : loomAt X w (y + 1) (resS 12 8)) (h2 : loomAt X w (y + 26) (resS 12 8)) (h3 : capV X w (y + 51) 0 0 0 0 0 (fun _ => 0)) (h4 : hisAt X w (y + 53) 0 0 (fun _ _ => 0)) (h5 : loomAt X w (y + 255) (resS 12 8)) (h6 : loomAt X w (y + 280) (resS 12 8)) (h7 : w (y + 305) = some (aZ X 9 (fun _ => 0))) (h8 : w (y + 306) = some (aZ X 7 (fun _ => 0))) (h9 : w (y + 307) = some (.inr (0, [.ref (y + 308), .int (iI 0)]))) (h10 : w (y + 308) = some (aZ X 400 (fun _ => 0))) (h11 : w (y + 309) = some (.inr (0, [.ref (y + 310), .int (iI 0)]))) (h12 : w (y + 310) = some (aZ X 400 (fun _ => 0)))
    (h13 : w (y + 311) = some (.inr (6, [.ref (y + 307), .int (iI 0), .int (iI 0), .int (iI 0), .int (iI 0), .int (iI 0), .int (iI 0), .int (iI (-1))]))) (h14 : w (y + 312) = some (.inr (2, [.ref (y + 311), .ref (y + 313), .int (iI 0), .int (iI 0)]))) (h15 : capV X w (y + 313) 0 0 0 0 0 (fun _ => 0)) (h16 : scE X w y) : PC X w y 0 (bgS (fun _ => 0) 12 8) 0 0 (fun _ _ => 0) zS 0 zS 0 zS rv0S zS zS := by
  refine ⟨h0, h1.to (eqS.ofW h1.2.2 (fun p p0 p1 => bgS_v _ _ _ _ p0 p1)), h4, h7, h9, h10, h11, h12, h13, ⟨⟨_, h2.1, h2.2.2.cap8⟩, ⟨0, 0, h14⟩, ⟨_, _, _, _, _, _, h15⟩⟩, h16, ⟨_, h8⟩, ⟨_, _, _, _, _, _, h3⟩, fun k k0 k1 => ⟨?_, fun h => absurd h (by show ¬ (0 : Int) = 1; decide)⟩⟩
  rcases (show k = 0 ∨ k = 1 by omega) with rfl | rfl
  · exact ⟨_, h5.1, h5.2.2.cap8⟩
  · exact ⟨_, h6.1, h6.2.2.cap8⟩
theorem rr_start : RR 0 v0S (fun _ _ => 0) zS zS rv0S zS zS zS := by
  refine ⟨by decide, fun i i0 i1 => absurd i1 (by show ¬ i < 0; omega), ⟨rfl, rfl, fun r r0 r1 => rfl⟩, by decide, fun i i0 i1 => absurd i1 (by show ¬ i < 0; omega), by decide, by decide, fun k k0 k1 => ?_, rfl, rfl⟩
  rcases (show k = 0 ∨ k = 1 by omega) with rfl | rfl
  · exact Or.inl ⟨rfl, by decide⟩
  · exact Or.inl ⟨rfl, by decide⟩

/-! THE CLAIM OUT OF ONE WALK OF THE LAW'S BODY. Your part is whole_start (and what it stands on); all else here is the same for every law, but numbers. -/
def R_law : String := "CaptionLoomLaw"
def lw_P (b : Addr) (xs : List Int32) (args : Array Value) (s : State) : Prop := args = #[.ref b] ∧ s.IntsAt b xs ∧ xs.length ≤ 3072 ∧ (Jvm.Cond.and given_1 narrow_1).before args s = true
/-- what a walk over the start with the record d0 says of its end, said of the start itself -/
theorem lw_closed {s t : State} {o : Outcome} {d0 : Drawn} {L : List Loc} {k n : Nat} (hd0 : s.drawn.sameBut d0 lw_cs) (hv : ∃ v, o = .returned v) (hW : (s.setDrawn d0).WarmedH t.vm) (hs : (s.setDrawn d0).sameButNew ({ t with vm := s.vm } : State) L k n) : State.butDraws s t lw_cs (fun t1 => Framed s o t1 L k n) := by
  have h2 : t.drawn = d0 := congrArg State.drawn hs.1
  refine ⟨⟨hv, hW, State.sameButNew.setDrawn hs s.drawn⟩, ?_, by decide⟩
  rw [h2]
  exact hd0
def lw_Q (_ : Array Value) (s : State) (o : Outcome) (t : State) : Prop := o = .returned (some (.int 1)) ∧ State.butDraws s t lw_cs (fun t1 => Framed s o t1 [] 601024 7293034)
def lw_Z (below : List Frame) (a : Array Value) (s : State) : State → Prop := fun t => ∃ o, t.status = .running ∧ Ended t below o ∧ lw_Q a s o t
/-- the law's own end, with 1 on the stack, nothing written that was there before, its room as the claim has it; d0: the record of draws at this point (at the entry s.drawn: begin with 'refine W.base ?_' and 'have hd0 := Drawn.sameBut.refl s.drawn lw_cs') -/
theorem lw_ret {p : Program} {l : Launch} {e : Env} {s : State} {m : MethodId} {below : List Frame} {meth : Method} {c : Code} {b : Nat} {d0 : Drawn} (hd0 : s.drawn.sameBut d0 lw_cs) (hx : p.tables.exec = Jvm.exec) (hb : c.code = code) (hr : meth.sig.returnType = ret) (hlocks : meth.locks = false) {pc : Nat} {H : Heap} {ls : Array Slot} (hdg : decode code pc = .ok (.ireturn, 1)) : W p l e room_1 (s.setDrawn d0) m #[Value.ref b] below meth c H [] 601024 7293034 (lw_Z below #[Value.ref b] s) (F0 m pc ls [.int 1]) := by
  intro T hT X
  obtain ⟨fs, hret, hrun, hended, hW, hframe⟩ := X.leave (v := some (.int 1)) (hlocks := hlocks) (fun h => by rw [hr] at h; cases h)
  have hmeth' : T.vm.method? m = some meth := X.method'
  refine ⟨T.setFrames fs, ?_, .returned (some (.int 1)), hrun, hended, rfl, lw_closed hd0 ⟨_, rfl⟩ hW hframe⟩
  jvm_step X.here [X.here.top, hx, hb, hdg, hmeth', hr, ret, narrow_b1]
  (try refine ⟨rfl, ?_⟩); (try refine ⟨rfl, ?_⟩)
  first | (intro acts; rw [hret _ acts rfl rfl rfl]) | rw [hret _ _ rfl rfl rfl]
  exact Steps.refl _
/-- what holds at the law's entry: the machine, the code, the tables' words (any of lw_tbl by 'hts w (by decide +kernel)'), the script of L ints xs at the cell b, what the Statement gives of the start (any of its parts by flat_of_before) -/
def lw_At (p : Program) (s : State) (m : MethodId) (meth : Method) (c : Code) (b L : Nat) (xs : Nat → Int32) : Prop :=
  p.tables.exec = Jvm.exec ∧ c.code = code ∧ meth.sig.returnType = ret ∧ c.maxLocals = 10 ∧ s.vm.findClass R_law = some m.cls ∧ (∀ w ∈ lw_tbl, w.before #[Value.ref b] s = true) ∧ va_X b L xs s s.heap ∧ b < s.heap.size ∧ meth.locks = false ∧ (Jvm.Cond.and given_1 narrow_1).before #[Value.ref b] s = true

set_option maxHeartbeats 2000000 in
set_option maxRecDepth 100000 in
theorem law_start {p : Program} {e : Env} {s : State} {m : MethodId} {args : Array Value} {below : List Frame} {meth : Method} {c : Code} {Q : State → Prop} {X : Cx} {b L : Nat} {xs : Nat → Int32} (l : Launch) (hst : l.stackTraces = false) (F : Fx p m c cL_law 10 s args RL) (hX : va_X b L xs s s.heap) (hbl : b < s.heap.size) (hL : (L : Int) ≤ 3072) (hXb : cxB X = s.heap.size) (hXK : cxK X s) (hXZ : cxZ X s s.heap) (kr : ∀ (H : Heap) (ls : Array Slot), W p l e room_1 s m args below meth c H [] 601024 7293034 Q (F0 m 2324 ls [.int (iI 1)])) (ls : Array Slot) (hl : lv_has ls 10 [(0, .ref b)]) : W p l e room_1 s m args below meth c s.heap [] 0 0 Q (F0 m 0 ls []) := by
  have hbA : ¬ cxA X b := fun z => by have z : cxB X ≤ b := z; rw [hXb] at z; omega
  have hA : ∀ q : Nat, cxA X q → s.heap.size ≤ q := fun q z => by have z : cxB X ≤ q := z; rw [hXb] at z; exact z
  have hW : Wd X (fun _ => none) s s.heap := ⟨⟨fun q e1 h => absurd h (by intro z; cases z), by rw [hXb]; exact Nat.le_refl _⟩, hXK, hXZ⟩
  have hS : va_S (cxA X) s.heap s.heap [] := va_S.rf
  obtain ⟨y, ey⟩ : ∃ y : Nat, s.heap.size = y := ⟨_, rfl⟩
  refine h_new (a := y) (ci := 8) (fs := [.null, .null, .null, .null, .null, .null, .int (iI 0), .null, .null, .null, .null, .null, .null, .null]) F hW hS ey inX8 tyX8 tyX8_ok kl_RL_8 kb_RX8 kn_RX8 rfl (by intro j hj; rcases (show j = 0 ∨ j = 1 ∨ j = 2 ∨ j = 3 ∨ j = 4 ∨ j = 5 ∨ j = 6 ∨ j = 7 ∨ j = 8 ∨ j = 9 ∨ j = 10 ∨ j = 11 ∨ j = 12 ∨ j = 13 by omega) with hj | hj | hj | hj | hj | hj | hj | hj | hj | hj | hj | hj | hj | hj <;> subst hj <;> rfl) (by decide) dL_law_0 (fun w1 H ho hn1 hW hS => ?_)
  refine lv_dup F.1 F.2.1 dL_law_3 rfl ?_
  refine h_size (q := y) hW ho (by omega) (fun hz => ?_)
  refine h_callI (As := []) (rest := [.ref y]) F hl (n_X8_init l X w1 y ho) hW hS hz ⟨kc_yX8_init, kn_RX8, km_RL_111, ki_yX8_init⟩ rfl niX8 rfl rfl ⟨Nat.le_of_ble_eq_true rfl, Nat.le_of_ble_eq_true rfl⟩ (Nat.le_of_ble_eq_true rfl) (by decide) dL_law_4 (fun w2 H locs hp hW hS => ?_)
  obtain ⟨h0, h1, h2, h3, h4, h5, h6, h7, h8, h9, h10, h11, h12, h13, h14, h15, h16, ⟨e0, h17⟩, -⟩ := hp
  have hPC := pc_start h0 h1 h2 h3 h4 h5 h6 h7 h8 h9 h10 h11 h12 h13 h14 h15 h16
  refine lv_astore_n (lv' := [(1, .ref y), (0, .ref b)]) F.1 F.2.1 dL_law_7 rfl hl (by decide) rfl (fun ls hl => ?_)
  refine h_size (q := y + 320) hW h17 (by (try dsimp only); omega) (fun hz => ?_)
  obtain ⟨mo, emo⟩ : ∃ mo : Nat, mo = y + 321 := ⟨_, rfl⟩
  refine h_new (a := mo) (ci := 9) (fs := [.null, .null, .null, .null, .null, .int (iI 0), .int (iI 0), .null, .int (iI 0), .int (iI 0), .null, .int (iI 0), .int (iI 0), .null, .int (iI 0), .int (iI 0), .int (iI 0), .int (iI 0), .int (iI 0), .int (iI 0), .int (iI 0), .int (iI 0), .int (iI 0), .int (iI 0), .null, .null, .null, .int (iI 0), .int (iI 0), .int (iI 0), .null, .int (iI 0)]) F hW hS (hz.trans (by omega)) inX9 tyX9 tyX9_ok kl_RL_112 kb_RX9 kn_RX9 rfl (by intro j hj; rcases (show j = 0 ∨ j = 1 ∨ j = 2 ∨ j = 3 ∨ j = 4 ∨ j = 5 ∨ j = 6 ∨ j = 7 ∨ j = 8 ∨ j = 9 ∨ j = 10 ∨ j = 11 ∨ j = 12 ∨ j = 13 ∨ j = 14 ∨ j = 15 ∨ j = 16 ∨ j = 17 ∨ j = 18 ∨ j = 19 ∨ j = 20 ∨ j = 21 ∨ j = 22 ∨ j = 23 ∨ j = 24 ∨ j = 25 ∨ j = 26 ∨ j = 27 ∨ j = 28 ∨ j = 29 ∨ j = 30 ∨ j = 31 by omega) with hj | hj | hj | hj | hj | hj | hj | hj | hj | hj | hj | hj | hj | hj | hj | hj | hj | hj | hj | hj | hj | hj | hj | hj | hj | hj | hj | hj | hj | hj | hj | hj <;> subst hj <;> rfl) (by decide) dL_law_8 (fun w3 H ho3 hn3 hW hS => ?_)
  refine lv_dup F.1 F.2.1 dL_law_11 rfl ?_
  refine h_size (q := mo) hW ho3 (by (try dsimp only); omega) (fun hz => ?_)
  refine h_callI (As := []) (rest := [.ref mo]) F hl (n_X9_init l X w3 mo ho3) hW hS hz ⟨kc_yX9_init, kn_RX9, km_RL_114, ki_yX9_init⟩ rfl niX9 rfl rfl ⟨Nat.le_of_ble_eq_true rfl, Nat.le_of_ble_eq_true rfl⟩ (Nat.le_of_ble_eq_true rfl) (by decide) dL_law_12 (fun w4 H locs hp hW hS => ?_)
  obtain ⟨m0, m1, m2, m3, m4, m5, m6, m7, m8, m9, m10, m11, m12, -, hf4⟩ := hp
  have hPM : PM X w4 mo v0S (bgS (fun _ => 0) 12 8) zS zS zS zS zS zS zS zS := ⟨m0, m1, m2, m3, m4, m5, m6, m7, ⟨_, m8⟩, m9, ⟨_, m10⟩, ⟨_, m11⟩, m12⟩
  have hPC := hPC.mv (w2 := w4) (fun q q0 q1 => (hf4 q (by omega)).trans (hn3 q (by omega)))
  refine lv_astore_n (lv' := [(2, .ref mo), (1, .ref y), (0, .ref b)]) F.1 F.2.1 dL_law_15 rfl hl (by decide) rfl (fun ls hl => ?_)
  refine h_iconst F dL_law_16 ?_
  refine h_size (q := mo + 12) hW m12 (by (try dsimp only); omega) (fun hz => ?_)
  obtain ⟨ao, eao⟩ : ∃ ao : Nat, ao = y + 334 := ⟨_, rfl⟩
  obtain ⟨ad, ead⟩ : ∃ ad : Nat, ad = y + 335 := ⟨_, rfl⟩
  refine h_newP (a := ao) (N := 1) (k := 1) (n := 1) (atype := .long) (x := .inr (.inl (fun _ => lI 0))) F hW hS (hz.trans (by omega)) haCJ rfl (hxJ _) rfl (by decide) (by decide) dL_law_17 (fun w5 H ho5 hn5 hW hS => ?_)
  refine lv_astore_n (lv' := [(3, .ref ao), (2, .ref mo), (1, .ref y), (0, .ref b)]) F.1 F.2.1 dL_law_19 rfl hl (by decide) rfl (fun ls hl => ?_)
  refine h_iconst F dL_law_20 ?_
  refine h_size (q := ao) hW ho5 (by (try dsimp only); omega) (fun hz => ?_)
  refine h_newP (a := ad) (N := 1) (k := 5) (n := 1) (atype := .double) (x := .inr (.inr (.inr (.inl (fun _ => FP.dconst0))))) F hW hS (hz.trans (by omega)) haCD rfl (hxD _) rfl (by decide) (by decide) dL_law_21 (fun w6 H ho6 hn6 hW hS => ?_)
  refine lv_astore (lv' := [(4, .ref ad), (3, .ref ao), (2, .ref mo), (1, .ref y), (0, .ref b)]) F.1 F.2.1 dL_law_23 hl (by decide) rfl (fun ls hl => ?_)
  refine h_iconst F dL_law_25 ?_
  refine lv_istore (lv' := [(5, .int (iI 0)), (4, .ref ad), (3, .ref ao), (2, .ref mo), (1, .ref y), (0, .ref b)]) F.1 F.2.1 dL_law_26 hl (by decide) rfl (fun ls hl => ?_)
  have hfe : ∀ q : Nat, q < ao → w6 q = w4 q := fun q z => (hn6 q (by omega)).trans (hn5 q (by omega))
  have hPC := hPC.mv (w2 := w6) (fun q q0 q1 => hfe q (by omega))
  have hPM := hPM.mv (w2 := w6) (fun q q0 q1 => hfe q (by omega))
  have hST : ST X w6 y mo ao ad := ⟨0, _, 0, _, _, _, _, _, _, _, _, _, _, _, v0S, ⟨emo, eao, ead⟩, hPC, hPM, rr_start, ⟨_, (hn6 _ (by omega)).trans ho5⟩, ⟨_, ho6⟩⟩
  exact law_loop hst F hX hbl hbA hL kr hA 512 w6 H _ ls 0 _ _ (by omega) (by decide) (by decide) (by decide) hST (lv_sub hl [5, 4, 3, 2, 1, 0] rfl) hW hS
theorem whole_start {p : Program} {e : Env} {s : State} {m : MethodId} {below : List Frame} {meth : Method} {c : Code} (l : Launch) (hflags : l.flags = flags0) {b L : Nat} {xs : Nat → Int32} (hL : L ≤ 3072) (C0 : lw_At p s m meth c b L xs) : W p l e room_1 s m #[Value.ref b] below meth c s.heap [] 0 0 (lw_Z below #[Value.ref b] s) (entryFrame m ([Value.ref b] : List Value).toArray 10) := by
  obtain ⟨hx, hb, hr, hml, hown, hts, hX, hbl, hlocks, hgv⟩ := C0
  obtain ⟨X, hXb, hXK, hXZ⟩ := cx_start hts hgv
  have F : Fx p m c cL_law 10 s #[Value.ref b] RL := ⟨hx, hb, hml, hown, fun w h => hts w (big_tbl h)⟩
  have hl := lv_entry [Value.ref b] (n := 10) (Nat.le_of_ble_eq_true rfl)
  rw [lg_entry_eq]
  generalize (lg_sl [Value.ref b] ++ List.replicate (10 - (lg_sl [Value.ref b]).length) Slot.unset).toArray = ls at hl ⊢
  exact law_start l (hst_of hflags) F hX hbl (by omega) hXb hXK hXZ (fun H ls => lw_ret (d0 := s.drawn) (Drawn.sameBut.refl s.drawn lw_cs) hx hb hr hlocks dL_law_2324) ls hl
