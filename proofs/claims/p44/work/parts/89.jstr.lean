section RW3
variable {p : Program} {l : Launch} {e : Env} {R : Room} {s : State} {m : MethodId} {args : Array Value} {below : List Frame} {meth : Method} {c : Code} {H H0 : Heap} {locs : List Loc} {cells slots : Nat} {Q : State → Prop} {cc : ByteArray} {nL pc : Nat} {ls : Array Slot} {rest : List Value} {X : Cx} {w : Wo} {lv0 : List (Nat × Value)}
theorem h_callVs {C : String} {y : MethodName} {cb : ByteArray} {maxL index n a : Nat} {own : String} {ret : Option FieldType} {rm : Room} {As st : List Value} {v : Option Value} {P : Wo → Prop} (F : Fx p m c cc nL s args own) (hl : lv_has ls nL lv0) (hM : CM l X y cb maxL ret rm (.ref a :: As) w v P) (hW : Wd X w s H) (hS : va_S (cxA X) H0 H locs)
    (hG : GoodIn BIG (wsV own index C y (Cond.code y cb maxL ret :: BIG))) (hy : y.cls = C ∧ y.cls ≠ "java/lang/invoke/MethodHandle" ∧ y.cls ≠ "java/lang/invoke/VarHandle" ∧ (parseMethodDescriptor y.desc).map (fun d => d.parameters.length) = some n)
    (hrc : ∃ cell : Cell, H[a]? = some cell ∧ cell.vm.isStatics = false ∧ s.vm.findClass C = some cell.cls) (hst : st = As.reverse ++ .ref a :: rest) (hn : As.length = n) (hR : rm.frames + 1 ≤ R.frames ∧ 8 + (maxL + 11) + rm.locals ≤ R.locals) (hcat : (rest.map fun v => v.category).sum ≤ 8) (hf : cells + rm.cells ≤ R.cells ∧ slots + rm.slots ≤ R.slots) (hd : decode cc pc = .ok (.invokevirtual index, 3))
    (kk : ∀ (w1 : Wo) (H1 : Heap) (locs1 : List Loc), P w1 → Wd X w1 s H1 → va_S (cxA X) H0 H1 locs1 → W p l e R s m args below meth c H1 locs1 (cells + rm.cells) (slots + rm.slots) Q (F0 m (pc + 3) ls (v.toList ++ rest))) : W p l e R s m args below meth c H locs cells slots Q (F0 m pc ls st) := by
  have hr := va_runV (p := p) (l := l) (e := e) (R := R) (s := s) (m := m) (args := args) (below := below) (meth := meth) (c := c) (H := H) (locs := locs) (cells := cells) (slots := slots) (g := F0 m pc ls st) (As := As) (rest := rest) F hM (cwV n F.2.2.2.2 hG rfl rfl rfl hy hR)
    ⟨fun a U g mk q => ⟨q.1, Wd.call q.2⟩, hrc, fun U hU hWm => ⟨rfl, by show Wd X w U U.heap; rw [hU]; exact hW.warm hWm⟩⟩ rfl hn hl.1 hst (by show 2 * 0 + _ ≤ 8; rw [Nat.mul_zero, Nat.zero_add]; exact hcat) hd hf
  intro T9 hT X9
  obtain ⟨v9, st₀, t, T', L, h0, X', hL, e1, e2, ⟨⟨w1, hv, hp, hb⟩, hz, hk⟩, st9⟩ := hr T9 hT X9
  cases hv
  rw [h0] at hz hk
  have hk1 : ∀ q : Nat, q < H.size → ¬ cxA X q → T'.heap[q]? = H[q]? := fun q h1 h2 => by rw [e1]; exact hk q h1 h2
  obtain ⟨t2, a1, b1⟩ := kk w1 T'.heap (locs ++ L) hp ⟨by rw [e1]; exact hb, hW.2.1, hW.2.2.kept hk1⟩ ⟨Nat.le_trans hS.1 (by rw [e1]; exact hz), fun q h1 h2 => by rw [hk1 q (Nat.lt_of_lt_of_le h1 hS.1) h2]; exact hS.2.1 q h1 h2, fun q hq => by
      rcases List.mem_append.mp hq with h | h
      · exact hS.2.2 q h
      · exact hL q h⟩ T' rfl X'
  exact ⟨t2, st9 t2 a1, b1⟩
theorem h_irety {P : Wo → Prop} {x : Int32} {ty : FieldType} {own : String} (F : Fx p m c cc nL s args own) (hr : meth.sig.returnType = some ty) (hlk : meth.locks = false) (hn : narrow ty (.int x) = .int x) (hW : Wd X w s H) (hS : va_S (cxA X) s.heap H locs) (hP : P w) (hd : decode cc pc = .ok (.ireturn, 1)) :
    W p l e R s m args below meth c H locs cells slots (MX X below args s cells slots (some (.int x)) P) (F0 m pc ls [.int x]) :=
  W.zret F.1 F.2.1 hr hn (fun t ht _ => ⟨⟨w, rfl, hP, by rw [ht]; exact hW.1⟩, hS.F ht⟩) hS.2.2 hd hlk
theorem cl_RJ0_335 (F : Fx p m c cc nL s args RJ0) (hl : lv_has ls nL lv0) {f9 l9 : Nat} {As st : List Value} {P : Wo → Prop} {v : Value} {a : Nat} (hM : CM l X yJ0_coder_7d493 cJ0_coder_7d493 1 (some .byte) (rmk f9 l9) (.ref a :: As) w (some v) P) (hW : Wd X w s H) (hS : va_S (cxA X) H0 H locs) (hrc : ∃ cell : Cell, H[a]? = some cell ∧ cell.vm.isStatics = false ∧ s.vm.findClass RJ0 = some cell.cls) (hst : st = As.reverse ++ .ref a :: rest) (hn : As.length = 0) (hR : f9 + 1 ≤ R.frames ∧ 8 + (1 + 11) + l9 ≤ R.locals) (hcat : (rest.map fun v => v.category).sum ≤ 8) (hf : cells ≤ R.cells ∧ slots ≤ R.slots) (hd : decode cc pc = .ok (.invokevirtual 335, 3)) (kk : ∀ (w1 : Wo) (H1 : Heap) (locs1 : List Loc), P w1 → Wd X w1 s H1 → va_S (cxA X) H0 H1 locs1 → W p l e R s m args below meth c H1 locs1 cells slots Q (F0 m (pc + 3) ls (v :: rest))) : W p l e R s m args below meth c H locs cells slots Q (F0 m pc ls st) := h_callVs (C := RJ0) (n := 0) F hl hM hW hS (big_ap (fun w h => by
  simp only [List.mem_cons, List.mem_nil_iff, or_false] at h
  rcases h with rfl | rfl | rfl | rfl
  · exact km_RJ0_335
  · exact ki_yJ0_coder_7d493
  · exact ks_yJ0_coder_7d493
  · exact kn_RJ0) (big_in kc_yJ0_coder_7d493)) ⟨rfl, by decide +kernel, by decide +kernel, by decide +kernel⟩ hrc hst hn hR hcat hf hd kk
theorem cl_RJ0_492 (F : Fx p m c cc nL s args RJ0) (hl : lv_has ls nL lv0) {f9 l9 : Nat} {As st : List Value} {P : Wo → Prop} {v : Value} {a : Nat} (hM : CM l X yJ0_isLatin1_aae02 cJ0_isLatin1_aae02 1 (some .boolean) (rmk f9 l9) (.ref a :: As) w (some v) P) (hW : Wd X w s H) (hS : va_S (cxA X) H0 H locs) (hrc : ∃ cell : Cell, H[a]? = some cell ∧ cell.vm.isStatics = false ∧ s.vm.findClass RJ0 = some cell.cls) (hst : st = As.reverse ++ .ref a :: rest) (hn : As.length = 0) (hR : f9 + 1 ≤ R.frames ∧ 8 + (1 + 11) + l9 ≤ R.locals) (hcat : (rest.map fun v => v.category).sum ≤ 8) (hf : cells ≤ R.cells ∧ slots ≤ R.slots) (hd : decode cc pc = .ok (.invokevirtual 492, 3)) (kk : ∀ (w1 : Wo) (H1 : Heap) (locs1 : List Loc), P w1 → Wd X w1 s H1 → va_S (cxA X) H0 H1 locs1 → W p l e R s m args below meth c H1 locs1 cells slots Q (F0 m (pc + 3) ls (v :: rest))) : W p l e R s m args below meth c H locs cells slots Q (F0 m pc ls st) := h_callVs (C := RJ0) (n := 0) F hl hM hW hS (big_ap (fun w h => by
  simp only [List.mem_cons, List.mem_nil_iff, or_false] at h
  rcases h with rfl | rfl | rfl | rfl
  · exact km_RJ0_492
  · exact ki_yJ0_isLatin1_aae02
  · exact ks_yJ0_isLatin1_aae02
  · exact kn_RJ0) (big_in kc_yJ0_isLatin1_aae02)) ⟨rfl, by decide +kernel, by decide +kernel, by decide +kernel⟩ hrc hst hn hR hcat hf hd kk
theorem cl_RJ0_495 (F : Fx p m c cc nL s args RJ0) (hl : lv_has ls nL lv0) {f9 l9 : Nat} {As st : List Value} {P : Wo → Prop} {v : Value} (hM : CM l X yJ1_charAt_3b067 cJ1_charAt_3b067 2 (some .char) (rmk f9 l9) As w (some v) P) (hW : Wd X w s H) (hS : va_S (cxA X) H0 H locs) (hst : st = As.reverse ++ rest) (hn : As.length = 2) (hR : f9 + 1 ≤ R.frames ∧ 8 + (2 + 11) + l9 ≤ R.locals) (hcat : (rest.map fun v => v.category).sum ≤ 8) (hf : cells ≤ R.cells ∧ slots ≤ R.slots) (hd : decode cc pc = .ok (.invokestatic 495, 3)) (kk : ∀ (w1 : Wo) (H1 : Heap) (locs1 : List Loc), P w1 → Wd X w1 s H1 → va_S (cxA X) H0 H1 locs1 → W p l e R s m args below meth c H1 locs1 cells slots Q (F0 m (pc + 3) ls (v :: rest))) : W p l e R s m args below meth c H locs cells slots Q (F0 m pc ls st) := h_callS (n := 2) F hl hM hW hS (big_ap (fun w h => by
  simp only [List.mem_cons, List.mem_nil_iff, or_false] at h
  rcases h with rfl | rfl | rfl
  · exact km_RJ0_495
  · exact kt_yJ1_charAt_3b067
  · exact kn_RJ1) (big_in kc_yJ1_charAt_3b067)) ⟨by decide +kernel, by decide +kernel, by decide +kernel⟩ hst hn hR hcat hf hd kk
theorem cl_RJ1_9 (F : Fx p m c cc nL s args RJ1) (hl : lv_has ls nL lv0) {f9 l9 : Nat} {As st : List Value} {P : Wo → Prop} (hM : CM l X yJ0_checkIndex_df160 cJ0_checkIndex_df160 2 none (rmk f9 l9) As w none P) (hW : Wd X w s H) (hS : va_S (cxA X) H0 H locs) (hst : st = As.reverse ++ rest) (hn : As.length = 2) (hR : f9 + 1 ≤ R.frames ∧ 8 + (2 + 11) + l9 ≤ R.locals) (hcat : (rest.map fun v => v.category).sum ≤ 8) (hf : cells ≤ R.cells ∧ slots ≤ R.slots) (hd : decode cc pc = .ok (.invokestatic 9, 3)) (kk : ∀ (w1 : Wo) (H1 : Heap) (locs1 : List Loc), P w1 → Wd X w1 s H1 → va_S (cxA X) H0 H1 locs1 → W p l e R s m args below meth c H1 locs1 cells slots Q (F0 m (pc + 3) ls rest)) : W p l e R s m args below meth c H locs cells slots Q (F0 m pc ls st) := h_callS (n := 2) F hl hM hW hS (big_ap (fun w h => by
  simp only [List.mem_cons, List.mem_nil_iff, or_false] at h
  rcases h with rfl | rfl | rfl
  · exact km_RJ1_9
  · exact kt_yJ0_checkIndex_df160
  · exact kn_RJ0) (big_in kc_yJ0_checkIndex_df160)) ⟨by decide +kernel, by decide +kernel, by decide +kernel⟩ hst hn hR hcat hf hd kk
theorem cl_RJ0_1059 (F : Fx p m c cc nL s args RJ0) (hl : lv_has ls nL lv0) {f9 l9 : Nat} {As st : List Value} {P : Wo → Prop} {v : Value} (hM : CM l X yJ3_checkIndex_8e157 cJ3_checkIndex_8e157 3 (some .int) (rmk f9 l9) As w (some v) P) (hW : Wd X w s H) (hS : va_S (cxA X) H0 H locs) (hst : st = As.reverse ++ rest) (hn : As.length = 3) (hR : f9 + 1 ≤ R.frames ∧ 8 + (3 + 11) + l9 ≤ R.locals) (hcat : (rest.map fun v => v.category).sum ≤ 8) (hf : cells ≤ R.cells ∧ slots ≤ R.slots) (hd : decode cc pc = .ok (.invokestatic 1059, 3)) (kk : ∀ (w1 : Wo) (H1 : Heap) (locs1 : List Loc), P w1 → Wd X w1 s H1 → va_S (cxA X) H0 H1 locs1 → W p l e R s m args below meth c H1 locs1 cells slots Q (F0 m (pc + 3) ls (v :: rest))) : W p l e R s m args below meth c H locs cells slots Q (F0 m pc ls st) := h_callS (n := 3) F hl hM hW hS (big_ap (fun w h => by
  simp only [List.mem_cons, List.mem_nil_iff, or_false] at h
  rcases h with rfl | rfl | rfl
  · exact km_RJ0_1059
  · exact kt_yJ3_checkIndex_8e157
  · exact kn_RJ3) (big_in kc_yJ3_checkIndex_8e157)) ⟨by decide +kernel, by decide +kernel, by decide +kernel⟩ hst hn hR hcat hf hd kk
theorem cl_RX6_64 (F : Fx p m c cc nL s args RX6) (hl : lv_has ls nL lv0) {f9 l9 : Nat} {As st : List Value} {P : Wo → Prop} {v : Value} {a : Nat} (hM : CM l X yJ0_length_8abf5 cJ0_length_8abf5 1 (some .int) (rmk f9 l9) (.ref a :: As) w (some v) P) (hW : Wd X w s H) (hS : va_S (cxA X) H0 H locs) (hrc : ∃ cell : Cell, H[a]? = some cell ∧ cell.vm.isStatics = false ∧ s.vm.findClass RJ0 = some cell.cls) (hst : st = As.reverse ++ .ref a :: rest) (hn : As.length = 0) (hR : f9 + 1 ≤ R.frames ∧ 8 + (1 + 11) + l9 ≤ R.locals) (hcat : (rest.map fun v => v.category).sum ≤ 8) (hf : cells ≤ R.cells ∧ slots ≤ R.slots) (hd : decode cc pc = .ok (.invokevirtual 64, 3)) (kk : ∀ (w1 : Wo) (H1 : Heap) (locs1 : List Loc), P w1 → Wd X w1 s H1 → va_S (cxA X) H0 H1 locs1 → W p l e R s m args below meth c H1 locs1 cells slots Q (F0 m (pc + 3) ls (v :: rest))) : W p l e R s m args below meth c H locs cells slots Q (F0 m pc ls st) := h_callVs (C := RJ0) (n := 0) F hl hM hW hS (big_ap (fun w h => by
  simp only [List.mem_cons, List.mem_nil_iff, or_false] at h
  rcases h with rfl | rfl | rfl | rfl
  · exact km_RX6_64
  · exact ki_yJ0_length_8abf5
  · exact ks_yJ0_length_8abf5
  · exact kn_RJ0) (big_in kc_yJ0_length_8abf5)) ⟨rfl, by decide +kernel, by decide +kernel, by decide +kernel⟩ hrc hst hn hR hcat hf hd kk
theorem cl_RX6_69 (F : Fx p m c cc nL s args RX6) (hl : lv_has ls nL lv0) {f9 l9 : Nat} {As st : List Value} {P : Wo → Prop} {v : Value} {a : Nat} (hM : CM l X yJ0_charAt_5068e cJ0_charAt_5068e 2 (some .char) (rmk f9 l9) (.ref a :: As) w (some v) P) (hW : Wd X w s H) (hS : va_S (cxA X) H0 H locs) (hrc : ∃ cell : Cell, H[a]? = some cell ∧ cell.vm.isStatics = false ∧ s.vm.findClass RJ0 = some cell.cls) (hst : st = As.reverse ++ .ref a :: rest) (hn : As.length = 1) (hR : f9 + 1 ≤ R.frames ∧ 8 + (2 + 11) + l9 ≤ R.locals) (hcat : (rest.map fun v => v.category).sum ≤ 8) (hf : cells ≤ R.cells ∧ slots ≤ R.slots) (hd : decode cc pc = .ok (.invokevirtual 69, 3)) (kk : ∀ (w1 : Wo) (H1 : Heap) (locs1 : List Loc), P w1 → Wd X w1 s H1 → va_S (cxA X) H0 H1 locs1 → W p l e R s m args below meth c H1 locs1 cells slots Q (F0 m (pc + 3) ls (v :: rest))) : W p l e R s m args below meth c H locs cells slots Q (F0 m pc ls st) := h_callVs (C := RJ0) (n := 1) F hl hM hW hS (big_ap (fun w h => by
  simp only [List.mem_cons, List.mem_nil_iff, or_false] at h
  rcases h with rfl | rfl | rfl | rfl
  · exact km_RX6_69
  · exact ki_yJ0_charAt_5068e
  · exact ks_yJ0_charAt_5068e
  · exact kn_RJ0) (big_in kc_yJ0_charAt_5068e)) ⟨rfl, by decide +kernel, by decide +kernel, by decide +kernel⟩ hrc hst hn hR hcat hf hd kk
end RW3
/-- the length of the word k of the texts, its character j -/
def wl (k : Nat) : Int := ((wdN.getD k 0 : Nat) : Int)
def wc (k : Nat) (j : Int) : Int := (wdL.getD k []).getD j.toNat 0
theorem wl_r : ∀ k : Nat, k < 14 → 2 ≤ wl k ∧ wl k ≤ 7 := by decide +kernel
theorem wl_sh : ∀ k : Nat, k < 14 → iI (wl k) >>> (iI 0 &&& 31) = iI (wl k) := by decide +kernel
theorem wc_all : ∀ k : Nat, k < 14 → ∀ j : Nat, j < 8 → (wdB.getD k []).getD j 0 = iI ((wdL.getD k []).getD j 0) ∧ iI ((wdL.getD k []).getD j 0) &&& iI 255 = iI ((wdL.getD k []).getD j 0) ∧ ((iI ((wdL.getD k []).getD j 0)).toUInt32 % 65536).toInt32 = iI ((wdL.getD k []).getD j 0) ∧ (iI ((wdL.getD k []).getD j 0)).toUInt32.toUInt16.toUInt32.toInt32 = iI ((wdL.getD k []).getD j 0) ∧ (0 ≤ (wdL.getD k []).getD j 0 ∧ (wdL.getD k []).getD j 0 ≤ 255) ∧ (j < wdN.getD k 0 → 97 ≤ (wdL.getD k []).getD j 0 ∧ (wdL.getD k []).getD j 0 ≤ 122) := by decide +kernel
theorem wc_at {k : Nat} {j : Int} (hk : k < 14) (hj : 0 ≤ j ∧ j < 8) : (wdB.getD k []).getD (iI j).toNatClampNeg 0 = iI (wc k j) ∧ iI (wc k j) &&& iI 255 = iI (wc k j) ∧ ((iI (wc k j)).toUInt32 % 65536).toInt32 = iI (wc k j) ∧ narrow .char (.int (iI (wc k j))) = .int (iI (wc k j)) ∧ (0 ≤ wc k j ∧ wc k j ≤ 255) := by
  obtain ⟨h1, h2, h3, h4, h5, -⟩ := wc_all k hk j.toNat (by omega)
  rw [iI_clamp (by omega)]
  exact ⟨h1, h2, h3, congrArg Value.int h4, h5⟩
set_option maxHeartbeats 4000000 in
set_option maxRecDepth 100000 in
theorem c_J0_coder_7d493 (l : Launch) (X : Cx) (w : Wo) (k : Nat) (hk : k < 14) : CM l X yJ0_coder_7d493 cJ0_coder_7d493 1 (some (.byte)) (rmk 0 0) [.ref (X.2.2 (10 + k))] w (some (.int (iI 0))) (fun w' => w' = w) := by
  refine CM.of (lv := [(0, .ref (X.2.2 (10 + k)))]) (by decide) (Nat.le_of_ble_eq_true rfl) rfl (fun p e s m below meth c ls F hr hlk hin hW hS hl => ?_)
  have hZ0 := hW.2.2
  have hB9 := hW.1.2
  clear hin
  refine va_gets F.1 F.2.1 hZ0.2.2.1 hS F.2.2.2.1 (F.2.2.2.2 _ kf_RJ0_38) (fun _ h => h) dJ0_coder_7d493_0 ?_
  refine h_topv (show (Value.int 1 : Value) = .int (iI 1) from rfl) ?_
  refine h_ifeq (tgt := 13) F dJ0_coder_7d493_3 (by decide) (by decide) (fun c9 => absurd c9 (by decide)) (fun _ => ?_)
  refine lv_aload_n F.1 F.2.1 dJ0_coder_7d493_6 rfl (lv_at hl 0 rfl) ?_
  refine vk_getf F.1 F.2.1 (hZ0.2.2.2.1.1 k hk).2.1 hS F.2.2.2.1 (F.2.2.2.2 _ kf_RJ0_15) (fun _ h => h) dJ0_coder_7d493_7 ?_
  refine h_topv (show (Value.int 0 : Value) = .int (iI 0) from rfl) ?_
  refine h_goto (tgt := 14) F dJ0_coder_7d493_10 (by decide) ?_
  exact h_irety F hr hlk rfl hW hS rfl dJ0_coder_7d493_14
set_option maxHeartbeats 4000000 in
set_option maxRecDepth 100000 in
theorem c_J0_isLatin1_aae02 (l : Launch) (X : Cx) (w : Wo) (k : Nat) (hk : k < 14) : CM l X yJ0_isLatin1_aae02 cJ0_isLatin1_aae02 1 (some (.boolean)) (rmk 0 0) [.ref (X.2.2 (10 + k))] w (some (.int (iI (bz true)))) (fun w' => w' = w) := by
  refine CM.of (lv := [(0, .ref (X.2.2 (10 + k)))]) (by decide) (Nat.le_of_ble_eq_true rfl) rfl (fun p e s m below meth c ls F hr hlk hin hW hS hl => ?_)
  have hZ0 := hW.2.2
  have hB9 := hW.1.2
  clear hin
  refine va_gets F.1 F.2.1 hZ0.2.2.1 hS F.2.2.2.1 (F.2.2.2.2 _ kf_RJ0_38) (fun _ h => h) dJ0_isLatin1_aae02_0 ?_
  refine h_topv (show (Value.int 1 : Value) = .int (iI 1) from rfl) ?_
  refine h_ifeq (tgt := 17) F dJ0_isLatin1_aae02_3 (by decide) (by decide) (fun c9 => absurd c9 (by decide)) (fun _ => ?_)
  refine lv_aload_n F.1 F.2.1 dJ0_isLatin1_aae02_6 rfl (lv_at hl 0 rfl) ?_
  refine vk_getf F.1 F.2.1 (hZ0.2.2.2.1.1 k hk).2.1 hS F.2.2.2.1 (F.2.2.2.2 _ kf_RJ0_15) (fun _ h => h) dJ0_isLatin1_aae02_7 ?_
  refine h_topv (show (Value.int 0 : Value) = .int (iI 0) from rfl) ?_
  refine h_ifne (tgt := 17) F dJ0_isLatin1_aae02_10 (by decide) (by decide) (fun c9 => absurd c9 (by decide)) (fun _ => ?_)
  refine h_iconst F dJ0_isLatin1_aae02_13 ?_
  refine h_goto (tgt := 18) F dJ0_isLatin1_aae02_14 (by decide) ?_
  refine h_top (show (1 : Int) = bz true from rfl) ?_
  exact h_iretz F hr hlk hW hS rfl dJ0_isLatin1_aae02_18
set_option maxHeartbeats 4000000 in
set_option maxRecDepth 100000 in
theorem c_J0_length_8abf5 (l : Launch) (X : Cx) (w : Wo) (k : Nat) (hk : k < 14) : CM l X yJ0_length_8abf5 cJ0_length_8abf5 1 (some (.int)) (rmk 1 20) [.ref (X.2.2 (10 + k))] w (some (.int (iI (wl k)))) (fun w' => w' = w) := by
  refine CM.of (lv := [(0, .ref (X.2.2 (10 + k)))]) (by decide) (Nat.le_of_ble_eq_true rfl) rfl (fun p e s m below meth c ls F hr hlk hin hW hS hl => ?_)
  have hZ0 := hW.2.2
  have hB9 := hW.1.2
  clear hin
  refine lv_aload_n F.1 F.2.1 dJ0_length_8abf5_0 rfl (lv_at hl 0 rfl) ?_
  refine vk_getf F.1 F.2.1 (hZ0.2.2.2.1.1 k hk).2.2.1 hS F.2.2.2.1 (F.2.2.2.2 _ kf_RJ0_9) (fun _ h => h) dJ0_length_8abf5_1 ?_
  refine va_tlen F.1 F.2.1 (hZ0.2.2.2.1.1 k hk).2.2.2 hS (show Int32.ofNat _ = iI (wl k) from iI_nI _) dJ0_length_8abf5_4 ?_
  refine lv_aload_n F.1 F.2.1 dJ0_length_8abf5_5 rfl (lv_at hl 0 rfl) ?_
  refine cl_RJ0_335 (As := []) (rest := [.int (iI (wl k))]) F hl (c_J0_coder_7d493 l X w k hk) hW hS (vk_recv (i := k) hZ0.2.2.2.1 hk hS) rfl rfl ⟨Nat.le_of_ble_eq_true rfl, Nat.le_of_ble_eq_true rfl⟩ (Nat.le_of_ble_eq_true rfl) ⟨Nat.zero_le _, Nat.zero_le _⟩ dJ0_length_8abf5_6 (fun w1 H locs hp1 hW hS => ?_)
  rw [hp1] at hW; clear hp1; clear w1
  refine h_ishr (z := iI (wl k)) F dJ0_length_8abf5_9 (wl_sh k hk) ?_
  exact h_ireti F hr hlk hW hS rfl dJ0_length_8abf5_10
set_option maxHeartbeats 4000000 in
set_option maxRecDepth 100000 in
theorem c_chk_n (l : Launch) (X : Cx) (w : Wo) (i n : Int) (hi : 0 ≤ i ∧ i < n ∧ n < 2147483648) : CM l X yJ3_checkIndex_8e157 cJ3_checkIndex_8e157 3 (some (.int)) (rmk 0 0) [.int (iI i), .int (iI n), .null] w (some (.int (iI i))) (fun w' => w' = w) := by
  refine CM.of (lv := [(0, .int (iI i)), (1, .int (iI n)), (2, .null)]) (by decide) (Nat.le_of_ble_eq_true rfl) rfl (fun p e s m below meth c ls F hr hlk hin hW hS hl => ?_)
  have hZ0 := hW.2.2
  have hB9 := hW.1.2
  clear hin
  refine lv_iload_n F.1 F.2.1 dJ3_checkIndex_8e157_0 rfl (lv_at hl 0 rfl) ?_
  refine h_iflt (tgt := 9) F dJ3_checkIndex_8e157_1 (by decide) (by omega) (fun c1 => ?_) (fun c1 => ?_)
  · exfalso; omega
  · refine lv_iload_n F.1 F.2.1 dJ3_checkIndex_8e157_4 rfl (lv_at hl 0 rfl) ?_
    refine lv_iload_n F.1 F.2.1 dJ3_checkIndex_8e157_5 rfl (lv_at hl 1 rfl) ?_
    refine h_iclt (tgt := 16) F dJ3_checkIndex_8e157_6 (by decide) (by omega) (fun c2 => ?_) (fun c2 => ?_)
    · refine lv_iload_n F.1 F.2.1 dJ3_checkIndex_8e157_16 rfl (lv_at hl 0 rfl) ?_
      exact h_ireti F hr hlk hW hS rfl dJ3_checkIndex_8e157_17
    · exfalso; omega
set_option maxHeartbeats 4000000 in
set_option maxRecDepth 100000 in
theorem c_chk_r (l : Launch) (X : Cx) (w : Wo) (i n : Int) (u : Nat) (hi : 0 ≤ i ∧ i < n ∧ n < 2147483648) : CM l X yJ3_checkIndex_8e157 cJ3_checkIndex_8e157 3 (some (.int)) (rmk 0 0) [.int (iI i), .int (iI n), .ref u] w (some (.int (iI i))) (fun w' => w' = w) := by
  refine CM.of (lv := [(0, .int (iI i)), (1, .int (iI n)), (2, .ref u)]) (by decide) (Nat.le_of_ble_eq_true rfl) rfl (fun p e s m below meth c ls F hr hlk hin hW hS hl => ?_)
  have hZ0 := hW.2.2
  have hB9 := hW.1.2
  clear hin
  refine lv_iload_n F.1 F.2.1 dJ3_checkIndex_8e157_0 rfl (lv_at hl 0 rfl) ?_
  refine h_iflt (tgt := 9) F dJ3_checkIndex_8e157_1 (by decide) (by omega) (fun c1 => ?_) (fun c1 => ?_)
  · exfalso; omega
  · refine lv_iload_n F.1 F.2.1 dJ3_checkIndex_8e157_4 rfl (lv_at hl 0 rfl) ?_
    refine lv_iload_n F.1 F.2.1 dJ3_checkIndex_8e157_5 rfl (lv_at hl 1 rfl) ?_
    refine h_iclt (tgt := 16) F dJ3_checkIndex_8e157_6 (by decide) (by omega) (fun c2 => ?_) (fun c2 => ?_)
    · refine lv_iload_n F.1 F.2.1 dJ3_checkIndex_8e157_16 rfl (lv_at hl 0 rfl) ?_
      exact h_ireti F hr hlk hW hS rfl dJ3_checkIndex_8e157_17
    · exfalso; omega
set_option maxHeartbeats 4000000 in
set_option maxRecDepth 100000 in
theorem c_J0_checkIndex_df160 (l : Launch) (X : Cx) (w : Wo) (i n : Int) (hi : 0 ≤ i ∧ i < n ∧ n < 2147483648) : CM l X yJ0_checkIndex_df160 cJ0_checkIndex_df160 2 none (rmk 1 22) [.int (iI i), .int (iI n)] w none (fun w' => w' = w) := by
  refine CM.of (lv := [(0, .int (iI i)), (1, .int (iI n))]) (by decide) (Nat.le_of_ble_eq_true rfl) rfl (fun p e s m below meth c ls F hr hlk hin hW hS hl => ?_)
  have hZ0 := hW.2.2
  have hB9 := hW.1.2
  clear hin
  refine lv_iload_n F.1 F.2.1 dJ0_checkIndex_df160_0 rfl (lv_at hl 0 rfl) ?_
  refine lv_iload_n F.1 F.2.1 dJ0_checkIndex_df160_1 rfl (lv_at hl 1 rfl) ?_
  rcases hZ0.2.2.2.2.1 with hz | ⟨tq, hz⟩
  · refine va_gets F.1 F.2.1 hz hS F.2.2.2.1 (F.2.2.2.2 _ kf_RJ0_1053) (fun _ h => h) dJ0_checkIndex_df160_2 ?_
    refine cl_RJ0_1059 (As := [.int (iI i), .int (iI n), .null]) (rest := []) F hl (c_chk_n l X w i n (by omega)) hW hS rfl rfl ⟨Nat.le_of_ble_eq_true rfl, Nat.le_of_ble_eq_true rfl⟩ (Nat.le_of_ble_eq_true rfl) ⟨Nat.zero_le _, Nat.zero_le _⟩ dJ0_checkIndex_df160_5 (fun w1 H locs hp1 hW hS => ?_)
    rw [hp1] at hW; clear hp1; clear w1
    refine lv_pop F.1 F.2.1 dJ0_checkIndex_df160_8 rfl ?_
    exact h_vret F hr hlk hW hS rfl dJ0_checkIndex_df160_9
  · refine va_gets F.1 F.2.1 hz hS F.2.2.2.1 (F.2.2.2.2 _ kf_RJ0_1053) (fun _ h => h) dJ0_checkIndex_df160_2 ?_
    refine cl_RJ0_1059 (As := [.int (iI i), .int (iI n), .ref tq]) (rest := []) F hl (c_chk_r l X w i n tq (by omega)) hW hS rfl rfl ⟨Nat.le_of_ble_eq_true rfl, Nat.le_of_ble_eq_true rfl⟩ (Nat.le_of_ble_eq_true rfl) ⟨Nat.zero_le _, Nat.zero_le _⟩ dJ0_checkIndex_df160_5 (fun w1 H locs hp2 hW hS => ?_)
    rw [hp2] at hW; clear hp2; clear w1
    refine lv_pop F.1 F.2.1 dJ0_checkIndex_df160_8 rfl ?_
    exact h_vret F hr hlk hW hS rfl dJ0_checkIndex_df160_9
set_option maxHeartbeats 4000000 in
set_option maxRecDepth 100000 in
theorem c_J1_charAt_3b067 (l : Launch) (X : Cx) (w : Wo) (k : Nat) (j : Int) (hk : k < 14) (hj : 0 ≤ j ∧ j < wl k) : CM l X yJ1_charAt_3b067 cJ1_charAt_3b067 2 (some (.char)) (rmk 2 43) [.ref (X.2.2 (30 + k)), .int (iI j)] w (some (.int (iI (wc k j)))) (fun w' => w' = w) := by
  refine CM.of (lv := [(0, .ref (X.2.2 (30 + k))), (1, .int (iI j))]) (by decide) (Nat.le_of_ble_eq_true rfl) rfl (fun p e s m below meth c ls F hr hlk hin hW hS hl => ?_)
  have hZ0 := hW.2.2
  have hB9 := hW.1.2
  clear hin
  have hwl := wl_r k hk
  refine lv_iload_n F.1 F.2.1 dJ1_charAt_3b067_0 rfl (lv_at hl 1 rfl) ?_
  refine lv_aload_n F.1 F.2.1 dJ1_charAt_3b067_1 rfl (lv_at hl 0 rfl) ?_
  refine va_tlen F.1 F.2.1 (hZ0.2.2.2.1.1 k hk).2.2.2 hS (show Int32.ofNat _ = iI (wl k) from iI_nI _) dJ1_charAt_3b067_2 ?_
  refine cl_RJ1_9 (As := [.int (iI j), .int (iI (wl k))]) (rest := []) F hl (c_J0_checkIndex_df160 l X w j (wl k) (by omega)) hW hS rfl rfl ⟨Nat.le_of_ble_eq_true rfl, Nat.le_of_ble_eq_true rfl⟩ (Nat.le_of_ble_eq_true rfl) ⟨Nat.zero_le _, Nat.zero_le _⟩ dJ1_charAt_3b067_3 (fun w1 H locs hp1 hW hS => ?_)
  rw [hp1] at hW; clear hp1; clear w1
  refine lv_aload_n F.1 F.2.1 dJ1_charAt_3b067_6 rfl (lv_at hl 0 rfl) ?_
  refine lv_iload_n F.1 F.2.1 dJ1_charAt_3b067_7 rfl (lv_at hl 1 rfl) ?_
  refine va_tb F.1 F.2.1 (hZ0.2.2.2.1.1 k hk).2.2.2 hS (iI_in (show 0 ≤ j ∧ j < ((wdN.getD k 0 : Nat) : Int) from hj) (show wl k < 2147483648 by omega)) (show _ = Value.int (iI (wc k j)) from congrArg Value.int (wc_at hk (by omega)).1) dJ1_charAt_3b067_8 ?_
  refine h_sipush F dJ1_charAt_3b067_9 rfl ?_
  refine h_iand (z := iI (wc k j)) F dJ1_charAt_3b067_12 ((wc_at hk (by omega)).2.1) ?_
  refine lv_i2c F.1 F.2.1 dJ1_charAt_3b067_13 (wc_at hk (by omega)).2.2.1 ?_
  exact h_irety F hr hlk (wc_at hk (by omega)).2.2.2.1 hW hS rfl dJ1_charAt_3b067_14
set_option maxHeartbeats 4000000 in
set_option maxRecDepth 100000 in
theorem c_J0_charAt_5068e (l : Launch) (X : Cx) (w : Wo) (k : Nat) (j : Int) (hk : k < 14) (hj : 0 ≤ j ∧ j < wl k) : CM l X yJ0_charAt_5068e cJ0_charAt_5068e 2 (some (.char)) (rmk 3 64) [.ref (X.2.2 (10 + k)), .int (iI j)] w (some (.int (iI (wc k j)))) (fun w' => w' = w) := by
  refine CM.of (lv := [(0, .ref (X.2.2 (10 + k))), (1, .int (iI j))]) (by decide) (Nat.le_of_ble_eq_true rfl) rfl (fun p e s m below meth c ls F hr hlk hin hW hS hl => ?_)
  have hZ0 := hW.2.2
  have hB9 := hW.1.2
  clear hin
  have hwl := wl_r k hk
  refine lv_aload_n F.1 F.2.1 dJ0_charAt_5068e_0 rfl (lv_at hl 0 rfl) ?_
  refine cl_RJ0_492 (As := []) (rest := []) F hl (c_J0_isLatin1_aae02 l X w k hk) hW hS (vk_recv (i := k) hZ0.2.2.2.1 hk hS) rfl rfl ⟨Nat.le_of_ble_eq_true rfl, Nat.le_of_ble_eq_true rfl⟩ (Nat.le_of_ble_eq_true rfl) ⟨Nat.zero_le _, Nat.zero_le _⟩ dJ0_charAt_5068e_1 (fun w1 H locs hp1 hW hS => ?_)
  rw [hp1] at hW; clear hp1; clear w1
  refine h_ifeqb (tgt := 16) F dJ0_charAt_5068e_4 (by decide) (fun c9 => absurd c9 (by decide)) (fun _ => ?_)
  refine lv_aload_n F.1 F.2.1 dJ0_charAt_5068e_7 rfl (lv_at hl 0 rfl) ?_
  refine vk_getf F.1 F.2.1 (hZ0.2.2.2.1.1 k hk).2.2.1 hS F.2.2.2.1 (F.2.2.2.2 _ kf_RJ0_9) (fun _ h => h) dJ0_charAt_5068e_8 ?_
  refine lv_iload_n F.1 F.2.1 dJ0_charAt_5068e_11 rfl (lv_at hl 1 rfl) ?_
  refine cl_RJ0_495 (As := [.ref (X.2.2 (30 + k)), .int (iI j)]) (rest := []) F hl (c_J1_charAt_3b067 l X w k j hk (by omega)) hW hS rfl rfl ⟨Nat.le_of_ble_eq_true rfl, Nat.le_of_ble_eq_true rfl⟩ (Nat.le_of_ble_eq_true rfl) ⟨Nat.zero_le _, Nat.zero_le _⟩ dJ0_charAt_5068e_12 (fun w1 H locs hp3 hW hS => ?_)
  rw [hp3] at hW; clear hp3; clear w1
  exact h_irety F hr hlk (wc_at hk (by omega)).2.2.2.1 hW hS rfl dJ0_charAt_5068e_15
