/-! ===== the law's cases ===== -/
def px (xs : Nat → Int32) (i : Int) : Int := (xs i.toNat).toInt
theorem px_r (xs : Nat → Int32) (i : Int) : -2147483648 ≤ px xs i ∧ px xs i < 2147483648 := iI_rng _
theorem ST.y {X : Cx} {w : Wo} {y mo ao ad : Nat} (h : ST X w y mo ao ad) : ∃ fs, w y = some (.inr (8, fs)) := by
  obtain ⟨su, σ, nx, pas, ac, tx, oo, rv, d, pa, sv, bv, rf, sc, v, -, ⟨c0, -⟩, -⟩ := h
  exact ⟨_, c0⟩
theorem dc_0 {x : UInt64} {op : CmpOp} (h : vf_n64 x) : _root_.Jvm.Op.cmpValue (FP.dcmp x x) op = 0 := by
  have hn : FP.Core.dIsNaN x = false := by
    rcases hb : FP.Core.dIsNaN x with _ | _
    · rfl
    · have h1 := (FP.Core.isNaN_bits x).mp hb
      unfold vf_n64 at h
      rw [UInt64.le_iff_toNat_le, UInt64.toNat_and] at h
      have h2 : x.toNat &&& (2 ^ 63 - 1) ≤ 9218868437227405312 := h
      rw [Nat.and_two_pow_sub_one_eq_mod] at h2
      omega
  have e : FP.dcmp x x = some .eq := FP.Core.dcmp_refl hn
  rw [e]
  rfl
section LW
variable {p : Program} {l : Launch} {e : Env} {R : Room} {s : State} {m : MethodId} {args : Array Value} {below : List Frame} {meth : Method} {c : Code} {H H0 : Heap} {locs : List Loc} {cells slots : Nat} {Q : State → Prop}
  {cc : ByteArray} {nL pc : Nat} {own : String} {ls : Array Slot} {rest : List Value} {X : Cx} {w : Wo} {lv0 : List (Nat × Value)}
theorem h_sld {b L : Nat} {xs : Nat → Int32} {i : Int} (F : Fx p m c cc nL s args own) (hX : va_X b L xs s s.heap) (hbl : b < s.heap.size) (hbA : ¬ cxA X b) (hS : va_S (cxA X) s.heap H locs) (hL : (L : Int) ≤ 3072) (hi : 0 ≤ i ∧ i < (L : Int)) (hd : decode cc pc = .ok (.iaload, 1))
    (kk : W p l e R s m args below meth c H locs cells slots Q (F0 m (pc + 1) ls (.int (iI (px xs i)) :: rest))) : W p l e R s m args below meth c H locs cells slots Q (F0 m pc ls (.int (iI i) :: .ref b :: rest)) := by
  refine va_sld F.1 F.2.1 hX hbl hbA hS (iI_in hi (by omega)) hd ?_
  rw [iI_clamp (by omega), show xs i.toNat = iI (px xs i) from iI_of _]
  exact kk
theorem h_lsame {x : Int64} {off : Int} {tgt pc2 : Nat} (F : Fx p m c cc nL s args own) (hd : decode cc pc = .ok (.lcmp, 1)) (hp : pc + 1 = pc2) (hd2 : decode cc pc2 = .ok (.ifCond .eq off, 3)) (ht : (pc2 : Int) + off = (tgt : Int)) (kk : W p l e R s m args below meth c H locs cells slots Q (F0 m tgt ls rest)) : W p l e R s m args below meth c H locs cells slots Q (F0 m pc ls (.long x :: .long x :: rest)) := by
  subst hp
  refine W.lcmp F.1 F.2.1 hd ?_
  refine lv_if_eq F.1 F.2.1 hd2 ht (fun _ => kk) (fun h => absurd ?_ h)
  unfold lg_cmp
  rw [if_neg (fun z => by have := Int64.lt_iff_toInt_lt.mp z; omega), if_pos rfl]
theorem h_dsame {x : UInt64} {off : Int} {tgt pc2 : Nat} {op : CmpOp} (F : Fx p m c cc nL s args own) (hx : vf_n64 x) (hd : decode cc pc = .ok (.dcmp op, 1)) (hp : pc + 1 = pc2) (hd2 : decode cc pc2 = .ok (.ifCond .eq off, 3)) (ht : (pc2 : Int) + off = (tgt : Int)) (kk : W p l e R s m args below meth c H locs cells slots Q (F0 m tgt ls rest)) : W p l e R s m args below meth c H locs cells slots Q (F0 m pc ls (.double x :: .double x :: rest)) := by
  subst hp
  refine lv_dcmp F.1 F.2.1 hd ?_
  rw [dc_0 hx]
  exact lv_if_eq F.1 F.2.1 hd2 ht (fun _ => kk) (fun h => absurd rfl h)
theorem h_dald {a n : Nat} {g : Nat → UInt64} {i : Int} (F : Fx p m c cc nL s args own) (hW : Wd X w s H) (ha : w a = some (aD X n g)) (hi : 0 ≤ i ∧ i < (n : Int)) (hn : (n : Int) < 2147483648) (hd : decode cc pc = .ok (.daload, 1))
    (kk : W p l e R s m args below meth c H locs cells slots Q (F0 m (pc + 1) ls (.double (g i.toNat) :: rest))) : W p l e R s m args below meth c H locs cells slots Q (F0 m pc ls (.int (iI i) :: .ref a :: rest)) := by
  refine va_dald F.1 F.2.1 hW.2.1.1 (h_one hW ha) 0 5 rfl rfl (iI_in hi hn) hd ?_
  rw [iI_clamp (by omega)]
  exact kk
end LW
set_option maxHeartbeats 2000000 in
set_option maxRecDepth 100000 in
theorem lc_0 {p : Program} {l : Launch} {e : Env} {s : State} {m : MethodId} {args : Array Value} {below : List Frame} {meth : Method} {c : Code} {H : Heap} {locs : List Loc} {cells slots : Nat} {Q : State → Prop} {ls : Array Slot} {X : Cx} {w : Wo} {b L y mo ao ad : Nat} {xs : Nat → Int32} {i : Int} (hst : l.stackTraces = false) (F : Fx p m c cL_law 10 s args RL) (hX : va_X b L xs s s.heap) (hbl : b < s.heap.size) (hbA : ¬ cxA X b) (hL : (L : Int) ≤ 3072) (hST : ST X w y mo ao ad) (hi : 0 ≤ i ∧ i + 6 ≤ (L : Int)) (hl : lv_has ls 10 [(0, .ref b), (1, .ref y), (2, .ref mo), (3, .ref ao), (4, .ref ad), (5, .int (iI i))]) (hW : Wd X w s H) (hS : va_S (cxA X) s.heap H locs) (hroom : cells + 1 ≤ room_1.cells ∧ slots + 6 ≤ room_1.slots) (kk : ∀ (w2 : Wo) (H2 : Heap) (locs2 : List Loc) (ls2 : Array Slot), ST X w2 y mo ao ad → lv_has ls2 10 [(0, .ref b), (1, .ref y), (2, .ref mo), (3, .ref ao), (4, .ref ad), (5, .int (iI i))] → Wd X w2 s H2 → va_S (cxA X) s.heap H2 locs2 → W p l e room_1 s m args below meth c H2 locs2 (cells + 1) (slots + 6) Q (F0 m 2317 ls2 [])) : W p l e room_1 s m args below meth c H locs cells slots Q (F0 m 224 ls []) := by
  refine lv_aload_n F.1 F.2.1 dL_law_224 rfl (lv_at hl 1 rfl) ?_
  refine lv_aload_n F.1 F.2.1 dL_law_225 rfl (lv_at hl 0 rfl) ?_
  refine lv_iload F.1 F.2.1 dL_law_226 (lv_at hl 5 rfl) ?_
  refine h_iconst F dL_law_228 ?_
  refine h_iadd (a := i) (b := 1) F dL_law_229 ?_
  refine h_sld (i := i + 1) F hX hbl hbA hS hL (by omega) dL_law_230 ?_
  refine lv_aload_n F.1 F.2.1 dL_law_231 rfl (lv_at hl 0 rfl) ?_
  refine lv_iload F.1 F.2.1 dL_law_232 (lv_at hl 5 rfl) ?_
  refine h_iconst F dL_law_234 ?_
  refine h_iadd (a := i) (b := 2) F dL_law_235 ?_
  refine h_sld (i := i + 2) F hX hbl hbA hS hL (by omega) dL_law_236 ?_
  refine lv_aload_n F.1 F.2.1 dL_law_237 rfl (lv_at hl 0 rfl) ?_
  refine lv_iload F.1 F.2.1 dL_law_238 (lv_at hl 5 rfl) ?_
  refine h_iconst F dL_law_240 ?_
  refine h_iadd (a := i) (b := 3) F dL_law_241 ?_
  refine h_sld (i := i + 3) F hX hbl hbA hS hL (by omega) dL_law_242 ?_
  refine lv_aload_n F.1 F.2.1 dL_law_243 rfl (lv_at hl 0 rfl) ?_
  refine lv_iload F.1 F.2.1 dL_law_244 (lv_at hl 5 rfl) ?_
  refine h_iconst F dL_law_246 ?_
  refine h_iadd (a := i) (b := 4) F dL_law_247 ?_
  refine h_sld (i := i + 4) F hX hbl hbA hS hL (by omega) dL_law_248 ?_
  refine lv_aload_n F.1 F.2.1 dL_law_249 rfl (lv_at hl 0 rfl) ?_
  refine lv_iload F.1 F.2.1 dL_law_250 (lv_at hl 5 rfl) ?_
  refine h_iconst F dL_law_252 ?_
  refine h_iadd (a := i) (b := 5) F dL_law_253 ?_
  refine h_sld (i := i + 5) F hX hbl hbA hS hL (by omega) dL_law_254 ?_
  refine lv_aload_n F.1 F.2.1 dL_law_255 rfl (lv_at hl 3 rfl) ?_
  obtain ⟨k, bq, P9, hk, hH, hMo⟩ := pr_append l X w y mo ao ad hst hST (px xs (i + 1)) (px xs (i + 2)) (px xs (i + 3)) (px xs (i + 4)) (px xs (i + 5))  (px_r xs (i + 1)) (px_r xs (i + 2)) (px_r xs (i + 3)) (px_r xs (i + 4)) (px_r xs (i + 5))
  refine cs_RL_115 (As := [.ref y, .int (iI (px xs (i + 1))), .int (iI (px xs (i + 2))), .int (iI (px xs (i + 3))), .int (iI (px xs (i + 4))), .int (iI (px xs (i + 5))), .ref ao]) (rest := []) F hl hH hW hS rfl rfl ⟨Nat.le_of_ble_eq_true rfl, Nat.le_of_ble_eq_true rfl⟩ (Nat.le_of_ble_eq_true rfl) hroom dL_law_256 (fun w1 H locs hP hW hS => ?_)
  refine lv_istore (lv' := [(6, .int (iI k)), (0, .ref b), (1, .ref y), (2, .ref mo), (3, .ref ao), (4, .ref ad), (5, .int (iI i))]) F.1 F.2.1 dL_law_259 hl (by decide) rfl (fun ls hl => ?_)
  refine lv_aload_n F.1 F.2.1 dL_law_261 rfl (lv_at hl 3 rfl) ?_
  refine lv_aload_n F.1 F.2.1 dL_law_262 rfl (lv_at hl 1 rfl) ?_
  refine lv_iload F.1 F.2.1 dL_law_263 (lv_at hl 6 rfl) ?_
  refine h_iconst F dL_law_265 ?_
  refine h_iadd (a := i) (b := 1) F dL_law_266 ?_
  refine h_sld (i := i + 1) F hX hbl hbA hS hL (by omega) dL_law_267 ?_
  refine lv_aload_n F.1 F.2.1 dL_law_268 rfl (lv_at hl 1 rfl) ?_
  refine lv_iload F.1 F.2.1 dL_law_269 (lv_at hl 6 rfl) ?_
  refine h_iconst F dL_law_271 ?_
  refine h_iadd (a := i) (b := 2) F dL_law_272 ?_
  refine h_sld (i := i + 2) F hX hbl hbA hS hL (by omega) dL_law_273 ?_
  refine lv_aload_n F.1 F.2.1 dL_law_274 rfl (lv_at hl 1 rfl) ?_
  refine lv_iload F.1 F.2.1 dL_law_275 (lv_at hl 6 rfl) ?_
  refine h_iconst F dL_law_277 ?_
  refine h_iadd (a := i) (b := 3) F dL_law_278 ?_
  refine h_sld (i := i + 3) F hX hbl hbA hS hL (by omega) dL_law_279 ?_
  refine lv_aload_n F.1 F.2.1 dL_law_280 rfl (lv_at hl 1 rfl) ?_
  refine lv_iload F.1 F.2.1 dL_law_281 (lv_at hl 6 rfl) ?_
  refine h_iconst F dL_law_283 ?_
  refine h_iadd (a := i) (b := 4) F dL_law_284 ?_
  refine h_sld (i := i + 4) F hX hbl hbA hS hL (by omega) dL_law_285 ?_
  refine lv_aload_n F.1 F.2.1 dL_law_286 rfl (lv_at hl 1 rfl) ?_
  refine lv_iload F.1 F.2.1 dL_law_287 (lv_at hl 6 rfl) ?_
  refine h_iconst F dL_law_289 ?_
  refine h_iadd (a := i) (b := 5) F dL_law_290 ?_
  refine h_sld (i := i + 5) F hX hbl hbA hS hL (by omega) dL_law_291 ?_
  obtain ⟨⟨fm, hm⟩, hCM⟩ := hMo w1 hP
  refine cl_RL_120 (As := [.int (iI (px xs (i + 1))), .int (iI (px xs (i + 2))), .int (iI (px xs (i + 3))), .int (iI (px xs (i + 4))), .int (iI (px xs (i + 5)))]) (rest := []) F hl hCM hW hS hm rfl rfl ⟨Nat.le_of_ble_eq_true rfl, Nat.le_of_ble_eq_true rfl⟩ (Nat.le_of_ble_eq_true rfl) hroom dL_law_292 (fun w2 H locs hp2 hW hS => ?_)
  obtain ⟨hST2, ⟨v9, hv9, hvk⟩, hout⟩ := hp2
  refine lv_istore (lv' := [(7, .int (iI bq)), (6, .int (iI k)), (0, .ref b), (1, .ref y), (2, .ref mo), (3, .ref ao), (4, .ref ad), (5, .int (iI i))]) F.1 F.2.1 dL_law_295 hl (by decide) rfl (fun ls hl => ?_)
  refine lv_aload_n F.1 F.2.1 dL_law_297 rfl (lv_at hl 4 rfl) ?_
  refine cl_RL_121 (As := []) (rest := []) F hl (c_X9_thrown l X w2 mo v9 hv9) hW hS hv9 rfl rfl ⟨Nat.le_of_ble_eq_true rfl, Nat.le_of_ble_eq_true rfl⟩ (Nat.le_of_ble_eq_true rfl) hroom dL_law_298 (fun w3 H locs hp3 hW hS => ?_)
  rw [hp3] at hW
  refine h_top (show (v9 6 : Int) = k from hvk) ?_
  refine lv_iload F.1 F.2.1 dL_law_301 (lv_at hl 1 rfl) ?_
  refine lv_icmp_eq (tgt := 308) F.1 F.2.1 dL_law_303 (by decide) (fun _ => ?_) (fun h9 => absurd rfl h9)
  refine lv_iload F.1 F.2.1 dL_law_308 (lv_at hl 1 rfl) ?_
  refine h_ifne (a := k) (tgt := 325) F dL_law_310 (by decide) (by omega) (fun hne => ?_) (fun h0 => ?_)
  · skip
    refine h_goto (tgt := 2317) F dL_law_325 (by decide) ?_
    exact kk _ _ _ _ hST2 (lv_sub hl [2, 3, 4, 5, 6, 7] rfl) hW hS
  · skip
    obtain ⟨g9, hg9, hgv9⟩ := hout h0
    refine lv_aload_n F.1 F.2.1 dL_law_313 rfl (lv_at hl 5 rfl) ?_
    refine h_iconst F dL_law_314 ?_
    refine h_lald F hW hg9 (by omega) (by omega) dL_law_315 ?_
    refine h_topv (show (.long (g9 (0 : Int).toNat) : Value) = .long (iI bq).toInt64 from congrArg Value.long hgv9) ?_
    refine lv_iload F.1 F.2.1 dL_law_316 (lv_at hl 0 rfl) ?_
    refine lv_i2l F.1 F.2.1 dL_law_318 rfl ?_
    refine h_lsame (tgt := 325) F dL_law_319 rfl dL_law_320 (by decide) ?_
    refine h_goto (tgt := 2317) F dL_law_325 (by decide) ?_
    exact kk _ _ _ _ hST2 (lv_sub hl [2, 3, 4, 5, 6, 7] rfl) hW hS
set_option maxHeartbeats 2000000 in
set_option maxRecDepth 100000 in
theorem lc_1 {p : Program} {l : Launch} {e : Env} {s : State} {m : MethodId} {args : Array Value} {below : List Frame} {meth : Method} {c : Code} {H : Heap} {locs : List Loc} {cells slots : Nat} {Q : State → Prop} {ls : Array Slot} {X : Cx} {w : Wo} {b L y mo ao ad : Nat} {xs : Nat → Int32} {i : Int} (hst : l.stackTraces = false) (F : Fx p m c cL_law 10 s args RL) (hX : va_X b L xs s s.heap) (hbl : b < s.heap.size) (hbA : ¬ cxA X b) (hL : (L : Int) ≤ 3072) (hST : ST X w y mo ao ad) (hi : 0 ≤ i ∧ i + 6 ≤ (L : Int)) (hl : lv_has ls 10 [(0, .ref b), (1, .ref y), (2, .ref mo), (3, .ref ao), (4, .ref ad), (5, .int (iI i))]) (hW : Wd X w s H) (hS : va_S (cxA X) s.heap H locs) (hroom : cells + 1 ≤ room_1.cells ∧ slots + 6 ≤ room_1.slots) (kk : ∀ (w2 : Wo) (H2 : Heap) (locs2 : List Loc) (ls2 : Array Slot), ST X w2 y mo ao ad → lv_has ls2 10 [(0, .ref b), (1, .ref y), (2, .ref mo), (3, .ref ao), (4, .ref ad), (5, .int (iI i))] → Wd X w2 s H2 → va_S (cxA X) s.heap H2 locs2 → W p l e room_1 s m args below meth c H2 locs2 (cells + 1) (slots + 6) Q (F0 m 2317 ls2 [])) : W p l e room_1 s m args below meth c H locs cells slots Q (F0 m 328 ls []) := by
  refine lv_aload_n F.1 F.2.1 dL_law_328 rfl (lv_at hl 1 rfl) ?_
  refine lv_aload_n F.1 F.2.1 dL_law_329 rfl (lv_at hl 0 rfl) ?_
  refine lv_iload F.1 F.2.1 dL_law_330 (lv_at hl 5 rfl) ?_
  refine h_iconst F dL_law_332 ?_
  refine h_iadd (a := i) (b := 1) F dL_law_333 ?_
  refine h_sld (i := i + 1) F hX hbl hbA hS hL (by omega) dL_law_334 ?_
  refine lv_aload_n F.1 F.2.1 dL_law_335 rfl (lv_at hl 3 rfl) ?_
  obtain ⟨k, bq, P9, hk, hH, hMo⟩ := pr_truncate l X w y mo ao ad hst hST (px xs (i + 1))  (px_r xs (i + 1))
  refine cs_RL_125 (As := [.ref y, .int (iI (px xs (i + 1))), .ref ao]) (rest := []) F hl hH hW hS rfl rfl ⟨Nat.le_of_ble_eq_true rfl, Nat.le_of_ble_eq_true rfl⟩ (Nat.le_of_ble_eq_true rfl) hroom dL_law_336 (fun w1 H locs hP hW hS => ?_)
  refine lv_istore (lv' := [(6, .int (iI k)), (0, .ref b), (1, .ref y), (2, .ref mo), (3, .ref ao), (4, .ref ad), (5, .int (iI i))]) F.1 F.2.1 dL_law_339 hl (by decide) rfl (fun ls hl => ?_)
  refine lv_aload_n F.1 F.2.1 dL_law_341 rfl (lv_at hl 3 rfl) ?_
  refine lv_aload_n F.1 F.2.1 dL_law_342 rfl (lv_at hl 1 rfl) ?_
  refine lv_iload F.1 F.2.1 dL_law_343 (lv_at hl 6 rfl) ?_
  refine h_iconst F dL_law_345 ?_
  refine h_iadd (a := i) (b := 1) F dL_law_346 ?_
  refine h_sld (i := i + 1) F hX hbl hbA hS hL (by omega) dL_law_347 ?_
  obtain ⟨⟨fm, hm⟩, hCM⟩ := hMo w1 hP
  refine cl_RL_128 (As := [.int (iI (px xs (i + 1)))]) (rest := []) F hl hCM hW hS hm rfl rfl ⟨Nat.le_of_ble_eq_true rfl, Nat.le_of_ble_eq_true rfl⟩ (Nat.le_of_ble_eq_true rfl) hroom dL_law_348 (fun w2 H locs hp2 hW hS => ?_)
  obtain ⟨hST2, ⟨v9, hv9, hvk⟩, hout⟩ := hp2
  refine lv_istore (lv' := [(7, .int (iI bq)), (6, .int (iI k)), (0, .ref b), (1, .ref y), (2, .ref mo), (3, .ref ao), (4, .ref ad), (5, .int (iI i))]) F.1 F.2.1 dL_law_351 hl (by decide) rfl (fun ls hl => ?_)
  refine lv_aload_n F.1 F.2.1 dL_law_353 rfl (lv_at hl 4 rfl) ?_
  refine cl_RL_121 (As := []) (rest := []) F hl (c_X9_thrown l X w2 mo v9 hv9) hW hS hv9 rfl rfl ⟨Nat.le_of_ble_eq_true rfl, Nat.le_of_ble_eq_true rfl⟩ (Nat.le_of_ble_eq_true rfl) hroom dL_law_354 (fun w3 H locs hp3 hW hS => ?_)
  rw [hp3] at hW
  refine h_top (show (v9 6 : Int) = k from hvk) ?_
  refine lv_iload F.1 F.2.1 dL_law_357 (lv_at hl 1 rfl) ?_
  refine lv_icmp_eq (tgt := 364) F.1 F.2.1 dL_law_359 (by decide) (fun _ => ?_) (fun h9 => absurd rfl h9)
  refine lv_iload F.1 F.2.1 dL_law_364 (lv_at hl 1 rfl) ?_
  refine h_ifne (a := k) (tgt := 381) F dL_law_366 (by decide) (by omega) (fun hne => ?_) (fun h0 => ?_)
  · skip
    refine h_goto (tgt := 2317) F dL_law_381 (by decide) ?_
    exact kk _ _ _ _ hST2 (lv_sub hl [2, 3, 4, 5, 6, 7] rfl) hW hS
  · skip
    obtain ⟨g9, hg9, hgv9⟩ := hout h0
    refine lv_aload_n F.1 F.2.1 dL_law_369 rfl (lv_at hl 5 rfl) ?_
    refine h_iconst F dL_law_370 ?_
    refine h_lald F hW hg9 (by omega) (by omega) dL_law_371 ?_
    refine h_topv (show (.long (g9 (0 : Int).toNat) : Value) = .long (iI bq).toInt64 from congrArg Value.long hgv9) ?_
    refine lv_iload F.1 F.2.1 dL_law_372 (lv_at hl 0 rfl) ?_
    refine lv_i2l F.1 F.2.1 dL_law_374 rfl ?_
    refine h_lsame (tgt := 381) F dL_law_375 rfl dL_law_376 (by decide) ?_
    refine h_goto (tgt := 2317) F dL_law_381 (by decide) ?_
    exact kk _ _ _ _ hST2 (lv_sub hl [2, 3, 4, 5, 6, 7] rfl) hW hS
set_option maxHeartbeats 2000000 in
set_option maxRecDepth 100000 in
theorem lc_2 {p : Program} {l : Launch} {e : Env} {s : State} {m : MethodId} {args : Array Value} {below : List Frame} {meth : Method} {c : Code} {H : Heap} {locs : List Loc} {cells slots : Nat} {Q : State → Prop} {ls : Array Slot} {X : Cx} {w : Wo} {b L y mo ao ad : Nat} {xs : Nat → Int32} {i : Int} (hst : l.stackTraces = false) (F : Fx p m c cL_law 10 s args RL) (hX : va_X b L xs s s.heap) (hbl : b < s.heap.size) (hbA : ¬ cxA X b) (hL : (L : Int) ≤ 3072) (hST : ST X w y mo ao ad) (hi : 0 ≤ i ∧ i + 6 ≤ (L : Int)) (hl : lv_has ls 10 [(0, .ref b), (1, .ref y), (2, .ref mo), (3, .ref ao), (4, .ref ad), (5, .int (iI i))]) (hW : Wd X w s H) (hS : va_S (cxA X) s.heap H locs) (hroom : cells + 1 ≤ room_1.cells ∧ slots + 6 ≤ room_1.slots) (kk : ∀ (w2 : Wo) (H2 : Heap) (locs2 : List Loc) (ls2 : Array Slot), ST X w2 y mo ao ad → lv_has ls2 10 [(0, .ref b), (1, .ref y), (2, .ref mo), (3, .ref ao), (4, .ref ad), (5, .int (iI i))] → Wd X w2 s H2 → va_S (cxA X) s.heap H2 locs2 → W p l e room_1 s m args below meth c H2 locs2 (cells + 1) (slots + 6) Q (F0 m 2317 ls2 [])) : W p l e room_1 s m args below meth c H locs cells slots Q (F0 m 384 ls []) := by
  refine W.widen (k := cells + 1) (n := slots + 6) (by omega) (by omega) ?_
  obtain ⟨fy, hy⟩ := hST.y
  obtain ⟨bq, P9, hC, hMo⟩ := pr_load l X w y mo ao ad hST
  refine lv_aload_n F.1 F.2.1 dL_law_384 rfl (lv_at hl 1 rfl) ?_
  refine cl_RL_129 (As := []) (rest := []) F hl hC hW hS hy rfl rfl ⟨Nat.le_of_ble_eq_true rfl, Nat.le_of_ble_eq_true rfl⟩ (Nat.le_of_ble_eq_true rfl) hroom dL_law_385 (fun w1 H locs hP hW hS => ?_)
  refine lv_aload_n F.1 F.2.1 dL_law_388 rfl (lv_at hl 2 rfl) ?_
  obtain ⟨⟨fm, hm⟩, hCM⟩ := hMo w1 hP
  refine cl_RL_132 (As := []) (rest := [.int (iI bq)]) F hl hCM hW hS hm rfl rfl ⟨Nat.le_of_ble_eq_true rfl, Nat.le_of_ble_eq_true rfl⟩ (Nat.le_of_ble_eq_true rfl) hroom dL_law_389 (fun w2 H locs hp2 hW hS => ?_)
  have hST2 := hp2
  refine lv_icmp_eq (tgt := 2317) F.1 F.2.1 dL_law_392 (by decide) (fun _ => ?_) (fun h9 => absurd rfl h9)
  exact kk _ _ _ _ hST2 (lv_sub hl [0, 1, 2, 3, 4, 5] rfl) hW hS
set_option maxHeartbeats 2000000 in
set_option maxRecDepth 100000 in
theorem lc_3 {p : Program} {l : Launch} {e : Env} {s : State} {m : MethodId} {args : Array Value} {below : List Frame} {meth : Method} {c : Code} {H : Heap} {locs : List Loc} {cells slots : Nat} {Q : State → Prop} {ls : Array Slot} {X : Cx} {w : Wo} {b L y mo ao ad : Nat} {xs : Nat → Int32} {i : Int} (hst : l.stackTraces = false) (F : Fx p m c cL_law 10 s args RL) (hX : va_X b L xs s s.heap) (hbl : b < s.heap.size) (hbA : ¬ cxA X b) (hL : (L : Int) ≤ 3072) (hST : ST X w y mo ao ad) (hi : 0 ≤ i ∧ i + 6 ≤ (L : Int)) (hl : lv_has ls 10 [(0, .ref b), (1, .ref y), (2, .ref mo), (3, .ref ao), (4, .ref ad), (5, .int (iI i))]) (hW : Wd X w s H) (hS : va_S (cxA X) s.heap H locs) (hroom : cells + 1 ≤ room_1.cells ∧ slots + 6 ≤ room_1.slots) (kk : ∀ (w2 : Wo) (H2 : Heap) (locs2 : List Loc) (ls2 : Array Slot), ST X w2 y mo ao ad → lv_has ls2 10 [(0, .ref b), (1, .ref y), (2, .ref mo), (3, .ref ao), (4, .ref ad), (5, .int (iI i))] → Wd X w2 s H2 → va_S (cxA X) s.heap H2 locs2 → W p l e room_1 s m args below meth c H2 locs2 (cells + 1) (slots + 6) Q (F0 m 2317 ls2 [])) : W p l e room_1 s m args below meth c H locs cells slots Q (F0 m 397 ls []) := by
  refine W.widen (k := cells + 1) (n := slots + 6) (by omega) (by omega) ?_
  obtain ⟨fy, hy⟩ := hST.y
  obtain ⟨bq, P9, hC, hMo⟩ := pr_play l X w y mo ao ad hST
  refine lv_aload_n F.1 F.2.1 dL_law_397 rfl (lv_at hl 1 rfl) ?_
  refine cl_RL_133 (As := []) (rest := []) F hl hC hW hS hy rfl rfl ⟨Nat.le_of_ble_eq_true rfl, Nat.le_of_ble_eq_true rfl⟩ (Nat.le_of_ble_eq_true rfl) hroom dL_law_398 (fun w1 H locs hP hW hS => ?_)
  refine lv_aload_n F.1 F.2.1 dL_law_401 rfl (lv_at hl 2 rfl) ?_
  obtain ⟨⟨fm, hm⟩, hCM⟩ := hMo w1 hP
  refine cl_RL_136 (As := []) (rest := [.int (iI bq)]) F hl hCM hW hS hm rfl rfl ⟨Nat.le_of_ble_eq_true rfl, Nat.le_of_ble_eq_true rfl⟩ (Nat.le_of_ble_eq_true rfl) hroom dL_law_402 (fun w2 H locs hp2 hW hS => ?_)
  have hST2 := hp2
  refine lv_icmp_eq (tgt := 2317) F.1 F.2.1 dL_law_405 (by decide) (fun _ => ?_) (fun h9 => absurd rfl h9)
  exact kk _ _ _ _ hST2 (lv_sub hl [0, 1, 2, 3, 4, 5] rfl) hW hS
set_option maxHeartbeats 2000000 in
set_option maxRecDepth 100000 in
theorem lc_4 {p : Program} {l : Launch} {e : Env} {s : State} {m : MethodId} {args : Array Value} {below : List Frame} {meth : Method} {c : Code} {H : Heap} {locs : List Loc} {cells slots : Nat} {Q : State → Prop} {ls : Array Slot} {X : Cx} {w : Wo} {b L y mo ao ad : Nat} {xs : Nat → Int32} {i : Int} (hst : l.stackTraces = false) (F : Fx p m c cL_law 10 s args RL) (hX : va_X b L xs s s.heap) (hbl : b < s.heap.size) (hbA : ¬ cxA X b) (hL : (L : Int) ≤ 3072) (hST : ST X w y mo ao ad) (hi : 0 ≤ i ∧ i + 6 ≤ (L : Int)) (hl : lv_has ls 10 [(0, .ref b), (1, .ref y), (2, .ref mo), (3, .ref ao), (4, .ref ad), (5, .int (iI i))]) (hW : Wd X w s H) (hS : va_S (cxA X) s.heap H locs) (hroom : cells + 1 ≤ room_1.cells ∧ slots + 6 ≤ room_1.slots) (kk : ∀ (w2 : Wo) (H2 : Heap) (locs2 : List Loc) (ls2 : Array Slot), ST X w2 y mo ao ad → lv_has ls2 10 [(0, .ref b), (1, .ref y), (2, .ref mo), (3, .ref ao), (4, .ref ad), (5, .int (iI i))] → Wd X w2 s H2 → va_S (cxA X) s.heap H2 locs2 → W p l e room_1 s m args below meth c H2 locs2 (cells + 1) (slots + 6) Q (F0 m 2317 ls2 [])) : W p l e room_1 s m args below meth c H locs cells slots Q (F0 m 410 ls []) := by
  refine W.widen (k := cells + 1) (n := slots + 6) (by omega) (by omega) ?_
  obtain ⟨fy, hy⟩ := hST.y
  obtain ⟨bq, P9, hC, hMo⟩ := pr_errorCode l X w y mo ao ad hST
  refine lv_aload_n F.1 F.2.1 dL_law_410 rfl (lv_at hl 1 rfl) ?_
  refine cl_RL_137 (As := []) (rest := []) F hl hC hW hS hy rfl rfl ⟨Nat.le_of_ble_eq_true rfl, Nat.le_of_ble_eq_true rfl⟩ (Nat.le_of_ble_eq_true rfl) hroom dL_law_411 (fun w1 H locs hP hW hS => ?_)
  refine lv_aload_n F.1 F.2.1 dL_law_414 rfl (lv_at hl 2 rfl) ?_
  obtain ⟨⟨fm, hm⟩, hCM⟩ := hMo w1 hP
  refine cl_RL_140 (As := []) (rest := [.int (iI bq)]) F hl hCM hW hS hm rfl rfl ⟨Nat.le_of_ble_eq_true rfl, Nat.le_of_ble_eq_true rfl⟩ (Nat.le_of_ble_eq_true rfl) hroom dL_law_415 (fun w2 H locs hp2 hW hS => ?_)
  have hST2 := hp2
  refine lv_icmp_eq (tgt := 2317) F.1 F.2.1 dL_law_418 (by decide) (fun _ => ?_) (fun h9 => absurd rfl h9)
  exact kk _ _ _ _ hST2 (lv_sub hl [0, 1, 2, 3, 4, 5] rfl) hW hS
set_option maxHeartbeats 2000000 in
set_option maxRecDepth 100000 in
theorem lc_5 {p : Program} {l : Launch} {e : Env} {s : State} {m : MethodId} {args : Array Value} {below : List Frame} {meth : Method} {c : Code} {H : Heap} {locs : List Loc} {cells slots : Nat} {Q : State → Prop} {ls : Array Slot} {X : Cx} {w : Wo} {b L y mo ao ad : Nat} {xs : Nat → Int32} {i : Int} (hst : l.stackTraces = false) (F : Fx p m c cL_law 10 s args RL) (hX : va_X b L xs s s.heap) (hbl : b < s.heap.size) (hbA : ¬ cxA X b) (hL : (L : Int) ≤ 3072) (hST : ST X w y mo ao ad) (hi : 0 ≤ i ∧ i + 6 ≤ (L : Int)) (hl : lv_has ls 10 [(0, .ref b), (1, .ref y), (2, .ref mo), (3, .ref ao), (4, .ref ad), (5, .int (iI i))]) (hW : Wd X w s H) (hS : va_S (cxA X) s.heap H locs) (hroom : cells + 1 ≤ room_1.cells ∧ slots + 6 ≤ room_1.slots) (kk : ∀ (w2 : Wo) (H2 : Heap) (locs2 : List Loc) (ls2 : Array Slot), ST X w2 y mo ao ad → lv_has ls2 10 [(0, .ref b), (1, .ref y), (2, .ref mo), (3, .ref ao), (4, .ref ad), (5, .int (iI i))] → Wd X w2 s H2 → va_S (cxA X) s.heap H2 locs2 → W p l e room_1 s m args below meth c H2 locs2 (cells + 1) (slots + 6) Q (F0 m 2317 ls2 [])) : W p l e room_1 s m args below meth c H locs cells slots Q (F0 m 423 ls []) := by
  refine W.widen (k := cells + 1) (n := slots + 6) (by omega) (by omega) ?_
  obtain ⟨fy, hy⟩ := hST.y
  obtain ⟨bq, P9, hC, hMo⟩ := pr_errorPosition l X w y mo ao ad hST
  refine lv_aload_n F.1 F.2.1 dL_law_423 rfl (lv_at hl 1 rfl) ?_
  refine cl_RL_141 (As := []) (rest := []) F hl hC hW hS hy rfl rfl ⟨Nat.le_of_ble_eq_true rfl, Nat.le_of_ble_eq_true rfl⟩ (Nat.le_of_ble_eq_true rfl) hroom dL_law_424 (fun w1 H locs hP hW hS => ?_)
  refine lv_aload_n F.1 F.2.1 dL_law_427 rfl (lv_at hl 2 rfl) ?_
  obtain ⟨⟨fm, hm⟩, hCM⟩ := hMo w1 hP
  refine cl_RL_144 (As := []) (rest := [.int (iI bq)]) F hl hCM hW hS hm rfl rfl ⟨Nat.le_of_ble_eq_true rfl, Nat.le_of_ble_eq_true rfl⟩ (Nat.le_of_ble_eq_true rfl) hroom dL_law_428 (fun w2 H locs hp2 hW hS => ?_)
  have hST2 := hp2
  refine lv_icmp_eq (tgt := 2317) F.1 F.2.1 dL_law_431 (by decide) (fun _ => ?_) (fun h9 => absurd rfl h9)
  exact kk _ _ _ _ hST2 (lv_sub hl [0, 1, 2, 3, 4, 5] rfl) hW hS
set_option maxHeartbeats 2000000 in
set_option maxRecDepth 100000 in
theorem lc_6 {p : Program} {l : Launch} {e : Env} {s : State} {m : MethodId} {args : Array Value} {below : List Frame} {meth : Method} {c : Code} {H : Heap} {locs : List Loc} {cells slots : Nat} {Q : State → Prop} {ls : Array Slot} {X : Cx} {w : Wo} {b L y mo ao ad : Nat} {xs : Nat → Int32} {i : Int} (hst : l.stackTraces = false) (F : Fx p m c cL_law 10 s args RL) (hX : va_X b L xs s s.heap) (hbl : b < s.heap.size) (hbA : ¬ cxA X b) (hL : (L : Int) ≤ 3072) (hST : ST X w y mo ao ad) (hi : 0 ≤ i ∧ i + 6 ≤ (L : Int)) (hl : lv_has ls 10 [(0, .ref b), (1, .ref y), (2, .ref mo), (3, .ref ao), (4, .ref ad), (5, .int (iI i))]) (hW : Wd X w s H) (hS : va_S (cxA X) s.heap H locs) (hroom : cells + 1 ≤ room_1.cells ∧ slots + 6 ≤ room_1.slots) (kk : ∀ (w2 : Wo) (H2 : Heap) (locs2 : List Loc) (ls2 : Array Slot), ST X w2 y mo ao ad → lv_has ls2 10 [(0, .ref b), (1, .ref y), (2, .ref mo), (3, .ref ao), (4, .ref ad), (5, .int (iI i))] → Wd X w2 s H2 → va_S (cxA X) s.heap H2 locs2 → W p l e room_1 s m args below meth c H2 locs2 (cells + 1) (slots + 6) Q (F0 m 2317 ls2 [])) : W p l e room_1 s m args below meth c H locs cells slots Q (F0 m 436 ls []) := by
  refine lv_aload_n F.1 F.2.1 dL_law_436 rfl (lv_at hl 1 rfl) ?_
  refine lv_aload_n F.1 F.2.1 dL_law_437 rfl (lv_at hl 0 rfl) ?_
  refine lv_iload F.1 F.2.1 dL_law_438 (lv_at hl 5 rfl) ?_
  refine h_iconst F dL_law_440 ?_
  refine h_iadd (a := i) (b := 1) F dL_law_441 ?_
  refine h_sld (i := i + 1) F hX hbl hbA hS hL (by omega) dL_law_442 ?_
  refine lv_aload_n F.1 F.2.1 dL_law_443 rfl (lv_at hl 3 rfl) ?_
  obtain ⟨k, bq, P9, hk, hH, hMo⟩ := pr_count l X w y mo ao ad hst hST (px xs (i + 1))  (px_r xs (i + 1))
  refine cs_RL_145 (As := [.ref y, .int (iI (px xs (i + 1))), .ref ao]) (rest := []) F hl hH hW hS rfl rfl ⟨Nat.le_of_ble_eq_true rfl, Nat.le_of_ble_eq_true rfl⟩ (Nat.le_of_ble_eq_true rfl) hroom dL_law_444 (fun w1 H locs hP hW hS => ?_)
  refine lv_istore (lv' := [(6, .int (iI k)), (0, .ref b), (1, .ref y), (2, .ref mo), (3, .ref ao), (4, .ref ad), (5, .int (iI i))]) F.1 F.2.1 dL_law_447 hl (by decide) rfl (fun ls hl => ?_)
  refine lv_aload_n F.1 F.2.1 dL_law_449 rfl (lv_at hl 3 rfl) ?_
  refine lv_aload_n F.1 F.2.1 dL_law_450 rfl (lv_at hl 1 rfl) ?_
  refine lv_iload F.1 F.2.1 dL_law_451 (lv_at hl 6 rfl) ?_
  refine h_iconst F dL_law_453 ?_
  refine h_iadd (a := i) (b := 1) F dL_law_454 ?_
  refine h_sld (i := i + 1) F hX hbl hbA hS hL (by omega) dL_law_455 ?_
  obtain ⟨⟨fm, hm⟩, hCM⟩ := hMo w1 hP
  refine cl_RL_147 (As := [.int (iI (px xs (i + 1)))]) (rest := []) F hl hCM hW hS hm rfl rfl ⟨Nat.le_of_ble_eq_true rfl, Nat.le_of_ble_eq_true rfl⟩ (Nat.le_of_ble_eq_true rfl) hroom dL_law_456 (fun w2 H locs hp2 hW hS => ?_)
  obtain ⟨hST2, ⟨v9, hv9, hvk⟩, hout⟩ := hp2
  refine lv_istore (lv' := [(7, .int (iI bq)), (6, .int (iI k)), (0, .ref b), (1, .ref y), (2, .ref mo), (3, .ref ao), (4, .ref ad), (5, .int (iI i))]) F.1 F.2.1 dL_law_459 hl (by decide) rfl (fun ls hl => ?_)
  refine lv_aload_n F.1 F.2.1 dL_law_461 rfl (lv_at hl 4 rfl) ?_
  refine cl_RL_121 (As := []) (rest := []) F hl (c_X9_thrown l X w2 mo v9 hv9) hW hS hv9 rfl rfl ⟨Nat.le_of_ble_eq_true rfl, Nat.le_of_ble_eq_true rfl⟩ (Nat.le_of_ble_eq_true rfl) hroom dL_law_462 (fun w3 H locs hp3 hW hS => ?_)
  rw [hp3] at hW
  refine h_top (show (v9 6 : Int) = k from hvk) ?_
  refine lv_iload F.1 F.2.1 dL_law_465 (lv_at hl 1 rfl) ?_
  refine lv_icmp_eq (tgt := 472) F.1 F.2.1 dL_law_467 (by decide) (fun _ => ?_) (fun h9 => absurd rfl h9)
  refine lv_iload F.1 F.2.1 dL_law_472 (lv_at hl 1 rfl) ?_
  refine h_ifne (a := k) (tgt := 489) F dL_law_474 (by decide) (by omega) (fun hne => ?_) (fun h0 => ?_)
  · skip
    refine h_goto (tgt := 2317) F dL_law_489 (by decide) ?_
    exact kk _ _ _ _ hST2 (lv_sub hl [2, 3, 4, 5, 6, 7] rfl) hW hS
  · skip
    obtain ⟨g9, hg9, hgv9⟩ := hout h0
    refine lv_aload_n F.1 F.2.1 dL_law_477 rfl (lv_at hl 5 rfl) ?_
    refine h_iconst F dL_law_478 ?_
    refine h_lald F hW hg9 (by omega) (by omega) dL_law_479 ?_
    refine h_topv (show (.long (g9 (0 : Int).toNat) : Value) = .long (iI bq).toInt64 from congrArg Value.long hgv9) ?_
    refine lv_iload F.1 F.2.1 dL_law_480 (lv_at hl 0 rfl) ?_
    refine lv_i2l F.1 F.2.1 dL_law_482 rfl ?_
    refine h_lsame (tgt := 489) F dL_law_483 rfl dL_law_484 (by decide) ?_
    refine h_goto (tgt := 2317) F dL_law_489 (by decide) ?_
    exact kk _ _ _ _ hST2 (lv_sub hl [2, 3, 4, 5, 6, 7] rfl) hW hS
set_option maxHeartbeats 2000000 in
set_option maxRecDepth 100000 in
theorem lc_7 {p : Program} {l : Launch} {e : Env} {s : State} {m : MethodId} {args : Array Value} {below : List Frame} {meth : Method} {c : Code} {H : Heap} {locs : List Loc} {cells slots : Nat} {Q : State → Prop} {ls : Array Slot} {X : Cx} {w : Wo} {b L y mo ao ad : Nat} {xs : Nat → Int32} {i : Int} (hst : l.stackTraces = false) (F : Fx p m c cL_law 10 s args RL) (hX : va_X b L xs s s.heap) (hbl : b < s.heap.size) (hbA : ¬ cxA X b) (hL : (L : Int) ≤ 3072) (hST : ST X w y mo ao ad) (hi : 0 ≤ i ∧ i + 6 ≤ (L : Int)) (hl : lv_has ls 10 [(0, .ref b), (1, .ref y), (2, .ref mo), (3, .ref ao), (4, .ref ad), (5, .int (iI i))]) (hW : Wd X w s H) (hS : va_S (cxA X) s.heap H locs) (hroom : cells + 1 ≤ room_1.cells ∧ slots + 6 ≤ room_1.slots) (kk : ∀ (w2 : Wo) (H2 : Heap) (locs2 : List Loc) (ls2 : Array Slot), ST X w2 y mo ao ad → lv_has ls2 10 [(0, .ref b), (1, .ref y), (2, .ref mo), (3, .ref ao), (4, .ref ad), (5, .int (iI i))] → Wd X w2 s H2 → va_S (cxA X) s.heap H2 locs2 → W p l e room_1 s m args below meth c H2 locs2 (cells + 1) (slots + 6) Q (F0 m 2317 ls2 [])) : W p l e room_1 s m args below meth c H locs cells slots Q (F0 m 492 ls []) := by
  refine lv_aload_n F.1 F.2.1 dL_law_492 rfl (lv_at hl 1 rfl) ?_
  refine lv_aload_n F.1 F.2.1 dL_law_493 rfl (lv_at hl 0 rfl) ?_
  refine lv_iload F.1 F.2.1 dL_law_494 (lv_at hl 5 rfl) ?_
  refine h_iconst F dL_law_496 ?_
  refine h_iadd (a := i) (b := 1) F dL_law_497 ?_
  refine h_sld (i := i + 1) F hX hbl hbA hS hL (by omega) dL_law_498 ?_
  refine lv_aload_n F.1 F.2.1 dL_law_499 rfl (lv_at hl 0 rfl) ?_
  refine lv_iload F.1 F.2.1 dL_law_500 (lv_at hl 5 rfl) ?_
  refine h_iconst F dL_law_502 ?_
  refine h_iadd (a := i) (b := 2) F dL_law_503 ?_
  refine h_sld (i := i + 2) F hX hbl hbA hS hL (by omega) dL_law_504 ?_
  refine lv_aload_n F.1 F.2.1 dL_law_505 rfl (lv_at hl 3 rfl) ?_
  obtain ⟨k, bq, P9, hk, hH, hMo⟩ := pr_caption l X w y mo ao ad hst hST (px xs (i + 1)) (px xs (i + 2))  (px_r xs (i + 1)) (px_r xs (i + 2))
  refine cs_RL_148 (As := [.ref y, .int (iI (px xs (i + 1))), .int (iI (px xs (i + 2))), .ref ao]) (rest := []) F hl hH hW hS rfl rfl ⟨Nat.le_of_ble_eq_true rfl, Nat.le_of_ble_eq_true rfl⟩ (Nat.le_of_ble_eq_true rfl) hroom dL_law_506 (fun w1 H locs hP hW hS => ?_)
  refine lv_istore (lv' := [(6, .int (iI k)), (0, .ref b), (1, .ref y), (2, .ref mo), (3, .ref ao), (4, .ref ad), (5, .int (iI i))]) F.1 F.2.1 dL_law_509 hl (by decide) rfl (fun ls hl => ?_)
  refine lv_aload_n F.1 F.2.1 dL_law_511 rfl (lv_at hl 3 rfl) ?_
  refine lv_aload_n F.1 F.2.1 dL_law_512 rfl (lv_at hl 1 rfl) ?_
  refine lv_iload F.1 F.2.1 dL_law_513 (lv_at hl 6 rfl) ?_
  refine h_iconst F dL_law_515 ?_
  refine h_iadd (a := i) (b := 1) F dL_law_516 ?_
  refine h_sld (i := i + 1) F hX hbl hbA hS hL (by omega) dL_law_517 ?_
  refine lv_aload_n F.1 F.2.1 dL_law_518 rfl (lv_at hl 1 rfl) ?_
  refine lv_iload F.1 F.2.1 dL_law_519 (lv_at hl 6 rfl) ?_
  refine h_iconst F dL_law_521 ?_
  refine h_iadd (a := i) (b := 2) F dL_law_522 ?_
  refine h_sld (i := i + 2) F hX hbl hbA hS hL (by omega) dL_law_523 ?_
  obtain ⟨⟨fm, hm⟩, hCM⟩ := hMo w1 hP
  refine cl_RL_151 (As := [.int (iI (px xs (i + 1))), .int (iI (px xs (i + 2)))]) (rest := []) F hl hCM hW hS hm rfl rfl ⟨Nat.le_of_ble_eq_true rfl, Nat.le_of_ble_eq_true rfl⟩ (Nat.le_of_ble_eq_true rfl) hroom dL_law_524 (fun w2 H locs hp2 hW hS => ?_)
  obtain ⟨hST2, ⟨v9, hv9, hvk⟩, hout⟩ := hp2
  refine lv_istore (lv' := [(7, .int (iI bq)), (6, .int (iI k)), (0, .ref b), (1, .ref y), (2, .ref mo), (3, .ref ao), (4, .ref ad), (5, .int (iI i))]) F.1 F.2.1 dL_law_527 hl (by decide) rfl (fun ls hl => ?_)
  refine lv_aload_n F.1 F.2.1 dL_law_529 rfl (lv_at hl 4 rfl) ?_
  refine cl_RL_121 (As := []) (rest := []) F hl (c_X9_thrown l X w2 mo v9 hv9) hW hS hv9 rfl rfl ⟨Nat.le_of_ble_eq_true rfl, Nat.le_of_ble_eq_true rfl⟩ (Nat.le_of_ble_eq_true rfl) hroom dL_law_530 (fun w3 H locs hp3 hW hS => ?_)
  rw [hp3] at hW
  refine h_top (show (v9 6 : Int) = k from hvk) ?_
  refine lv_iload F.1 F.2.1 dL_law_533 (lv_at hl 1 rfl) ?_
  refine lv_icmp_eq (tgt := 540) F.1 F.2.1 dL_law_535 (by decide) (fun _ => ?_) (fun h9 => absurd rfl h9)
  refine lv_iload F.1 F.2.1 dL_law_540 (lv_at hl 1 rfl) ?_
  refine h_ifne (a := k) (tgt := 557) F dL_law_542 (by decide) (by omega) (fun hne => ?_) (fun h0 => ?_)
  · skip
    refine h_goto (tgt := 2317) F dL_law_557 (by decide) ?_
    exact kk _ _ _ _ hST2 (lv_sub hl [2, 3, 4, 5, 6, 7] rfl) hW hS
  · skip
    obtain ⟨g9, hg9, hgv9⟩ := hout h0
    refine lv_aload_n F.1 F.2.1 dL_law_545 rfl (lv_at hl 5 rfl) ?_
    refine h_iconst F dL_law_546 ?_
    refine h_lald F hW hg9 (by omega) (by omega) dL_law_547 ?_
    refine h_topv (show (.long (g9 (0 : Int).toNat) : Value) = .long (iI bq).toInt64 from congrArg Value.long hgv9) ?_
    refine lv_iload F.1 F.2.1 dL_law_548 (lv_at hl 0 rfl) ?_
    refine lv_i2l F.1 F.2.1 dL_law_550 rfl ?_
    refine h_lsame (tgt := 557) F dL_law_551 rfl dL_law_552 (by decide) ?_
    refine h_goto (tgt := 2317) F dL_law_557 (by decide) ?_
    exact kk _ _ _ _ hST2 (lv_sub hl [2, 3, 4, 5, 6, 7] rfl) hW hS
set_option maxHeartbeats 2000000 in
set_option maxRecDepth 100000 in
theorem lc_8 {p : Program} {l : Launch} {e : Env} {s : State} {m : MethodId} {args : Array Value} {below : List Frame} {meth : Method} {c : Code} {H : Heap} {locs : List Loc} {cells slots : Nat} {Q : State → Prop} {ls : Array Slot} {X : Cx} {w : Wo} {b L y mo ao ad : Nat} {xs : Nat → Int32} {i : Int} (hst : l.stackTraces = false) (F : Fx p m c cL_law 10 s args RL) (hX : va_X b L xs s s.heap) (hbl : b < s.heap.size) (hbA : ¬ cxA X b) (hL : (L : Int) ≤ 3072) (hST : ST X w y mo ao ad) (hi : 0 ≤ i ∧ i + 6 ≤ (L : Int)) (hl : lv_has ls 10 [(0, .ref b), (1, .ref y), (2, .ref mo), (3, .ref ao), (4, .ref ad), (5, .int (iI i))]) (hW : Wd X w s H) (hS : va_S (cxA X) s.heap H locs) (hroom : cells + 1 ≤ room_1.cells ∧ slots + 6 ≤ room_1.slots) (kk : ∀ (w2 : Wo) (H2 : Heap) (locs2 : List Loc) (ls2 : Array Slot), ST X w2 y mo ao ad → lv_has ls2 10 [(0, .ref b), (1, .ref y), (2, .ref mo), (3, .ref ao), (4, .ref ad), (5, .int (iI i))] → Wd X w2 s H2 → va_S (cxA X) s.heap H2 locs2 → W p l e room_1 s m args below meth c H2 locs2 (cells + 1) (slots + 6) Q (F0 m 2317 ls2 [])) : W p l e room_1 s m args below meth c H locs cells slots Q (F0 m 560 ls []) := by
  refine lv_aload_n F.1 F.2.1 dL_law_560 rfl (lv_at hl 1 rfl) ?_
  refine lv_aload_n F.1 F.2.1 dL_law_561 rfl (lv_at hl 0 rfl) ?_
  refine lv_iload F.1 F.2.1 dL_law_562 (lv_at hl 5 rfl) ?_
  refine h_iconst F dL_law_564 ?_
  refine h_iadd (a := i) (b := 1) F dL_law_565 ?_
  refine h_sld (i := i + 1) F hX hbl hbA hS hL (by omega) dL_law_566 ?_
  refine lv_aload_n F.1 F.2.1 dL_law_567 rfl (lv_at hl 0 rfl) ?_
  refine lv_iload F.1 F.2.1 dL_law_568 (lv_at hl 5 rfl) ?_
  refine h_iconst F dL_law_570 ?_
  refine h_iadd (a := i) (b := 2) F dL_law_571 ?_
  refine h_sld (i := i + 2) F hX hbl hbA hS hL (by omega) dL_law_572 ?_
  refine lv_aload_n F.1 F.2.1 dL_law_573 rfl (lv_at hl 0 rfl) ?_
  refine lv_iload F.1 F.2.1 dL_law_574 (lv_at hl 5 rfl) ?_
  refine h_iconst F dL_law_576 ?_
  refine h_iadd (a := i) (b := 3) F dL_law_577 ?_
  refine h_sld (i := i + 3) F hX hbl hbA hS hL (by omega) dL_law_578 ?_
  refine lv_aload_n F.1 F.2.1 dL_law_579 rfl (lv_at hl 3 rfl) ?_
  obtain ⟨k, bq, P9, hk, hH, hMo⟩ := pr_letter l X w y mo ao ad hst hST (px xs (i + 1)) (px xs (i + 2)) (px xs (i + 3))  (px_r xs (i + 1)) (px_r xs (i + 2)) (px_r xs (i + 3))
  refine cs_RL_152 (As := [.ref y, .int (iI (px xs (i + 1))), .int (iI (px xs (i + 2))), .int (iI (px xs (i + 3))), .ref ao]) (rest := []) F hl hH hW hS rfl rfl ⟨Nat.le_of_ble_eq_true rfl, Nat.le_of_ble_eq_true rfl⟩ (Nat.le_of_ble_eq_true rfl) hroom dL_law_580 (fun w1 H locs hP hW hS => ?_)
  refine lv_istore (lv' := [(6, .int (iI k)), (0, .ref b), (1, .ref y), (2, .ref mo), (3, .ref ao), (4, .ref ad), (5, .int (iI i))]) F.1 F.2.1 dL_law_583 hl (by decide) rfl (fun ls hl => ?_)
  refine lv_aload_n F.1 F.2.1 dL_law_585 rfl (lv_at hl 3 rfl) ?_
  refine lv_aload_n F.1 F.2.1 dL_law_586 rfl (lv_at hl 1 rfl) ?_
  refine lv_iload F.1 F.2.1 dL_law_587 (lv_at hl 6 rfl) ?_
  refine h_iconst F dL_law_589 ?_
  refine h_iadd (a := i) (b := 1) F dL_law_590 ?_
  refine h_sld (i := i + 1) F hX hbl hbA hS hL (by omega) dL_law_591 ?_
  refine lv_aload_n F.1 F.2.1 dL_law_592 rfl (lv_at hl 1 rfl) ?_
  refine lv_iload F.1 F.2.1 dL_law_593 (lv_at hl 6 rfl) ?_
  refine h_iconst F dL_law_595 ?_
  refine h_iadd (a := i) (b := 2) F dL_law_596 ?_
  refine h_sld (i := i + 2) F hX hbl hbA hS hL (by omega) dL_law_597 ?_
  refine lv_aload_n F.1 F.2.1 dL_law_598 rfl (lv_at hl 1 rfl) ?_
  refine lv_iload F.1 F.2.1 dL_law_599 (lv_at hl 6 rfl) ?_
  refine h_iconst F dL_law_601 ?_
  refine h_iadd (a := i) (b := 3) F dL_law_602 ?_
  refine h_sld (i := i + 3) F hX hbl hbA hS hL (by omega) dL_law_603 ?_
  obtain ⟨⟨fm, hm⟩, hCM⟩ := hMo w1 hP
  refine cl_RL_155 (As := [.int (iI (px xs (i + 1))), .int (iI (px xs (i + 2))), .int (iI (px xs (i + 3)))]) (rest := []) F hl hCM hW hS hm rfl rfl ⟨Nat.le_of_ble_eq_true rfl, Nat.le_of_ble_eq_true rfl⟩ (Nat.le_of_ble_eq_true rfl) hroom dL_law_604 (fun w2 H locs hp2 hW hS => ?_)
  obtain ⟨hST2, ⟨v9, hv9, hvk⟩, hout⟩ := hp2
  refine lv_istore (lv' := [(7, .int (iI bq)), (6, .int (iI k)), (0, .ref b), (1, .ref y), (2, .ref mo), (3, .ref ao), (4, .ref ad), (5, .int (iI i))]) F.1 F.2.1 dL_law_607 hl (by decide) rfl (fun ls hl => ?_)
  refine lv_aload_n F.1 F.2.1 dL_law_609 rfl (lv_at hl 4 rfl) ?_
  refine cl_RL_121 (As := []) (rest := []) F hl (c_X9_thrown l X w2 mo v9 hv9) hW hS hv9 rfl rfl ⟨Nat.le_of_ble_eq_true rfl, Nat.le_of_ble_eq_true rfl⟩ (Nat.le_of_ble_eq_true rfl) hroom dL_law_610 (fun w3 H locs hp3 hW hS => ?_)
  rw [hp3] at hW
  refine h_top (show (v9 6 : Int) = k from hvk) ?_
  refine lv_iload F.1 F.2.1 dL_law_613 (lv_at hl 1 rfl) ?_
  refine lv_icmp_eq (tgt := 620) F.1 F.2.1 dL_law_615 (by decide) (fun _ => ?_) (fun h9 => absurd rfl h9)
  refine lv_iload F.1 F.2.1 dL_law_620 (lv_at hl 1 rfl) ?_
  refine h_ifne (a := k) (tgt := 637) F dL_law_622 (by decide) (by omega) (fun hne => ?_) (fun h0 => ?_)
  · skip
    refine h_goto (tgt := 2317) F dL_law_637 (by decide) ?_
    exact kk _ _ _ _ hST2 (lv_sub hl [2, 3, 4, 5, 6, 7] rfl) hW hS
  · skip
    obtain ⟨g9, hg9, hgv9⟩ := hout h0
    refine lv_aload_n F.1 F.2.1 dL_law_625 rfl (lv_at hl 5 rfl) ?_
    refine h_iconst F dL_law_626 ?_
    refine h_lald F hW hg9 (by omega) (by omega) dL_law_627 ?_
    refine h_topv (show (.long (g9 (0 : Int).toNat) : Value) = .long (iI bq).toInt64 from congrArg Value.long hgv9) ?_
    refine lv_iload F.1 F.2.1 dL_law_628 (lv_at hl 0 rfl) ?_
    refine lv_i2l F.1 F.2.1 dL_law_630 rfl ?_
    refine h_lsame (tgt := 637) F dL_law_631 rfl dL_law_632 (by decide) ?_
    refine h_goto (tgt := 2317) F dL_law_637 (by decide) ?_
    exact kk _ _ _ _ hST2 (lv_sub hl [2, 3, 4, 5, 6, 7] rfl) hW hS
set_option maxHeartbeats 2000000 in
set_option maxRecDepth 100000 in
theorem lc_9 {p : Program} {l : Launch} {e : Env} {s : State} {m : MethodId} {args : Array Value} {below : List Frame} {meth : Method} {c : Code} {H : Heap} {locs : List Loc} {cells slots : Nat} {Q : State → Prop} {ls : Array Slot} {X : Cx} {w : Wo} {b L y mo ao ad : Nat} {xs : Nat → Int32} {i : Int} (hst : l.stackTraces = false) (F : Fx p m c cL_law 10 s args RL) (hX : va_X b L xs s s.heap) (hbl : b < s.heap.size) (hbA : ¬ cxA X b) (hL : (L : Int) ≤ 3072) (hST : ST X w y mo ao ad) (hi : 0 ≤ i ∧ i + 6 ≤ (L : Int)) (hl : lv_has ls 10 [(0, .ref b), (1, .ref y), (2, .ref mo), (3, .ref ao), (4, .ref ad), (5, .int (iI i))]) (hW : Wd X w s H) (hS : va_S (cxA X) s.heap H locs) (hroom : cells + 1 ≤ room_1.cells ∧ slots + 6 ≤ room_1.slots) (kk : ∀ (w2 : Wo) (H2 : Heap) (locs2 : List Loc) (ls2 : Array Slot), ST X w2 y mo ao ad → lv_has ls2 10 [(0, .ref b), (1, .ref y), (2, .ref mo), (3, .ref ao), (4, .ref ad), (5, .int (iI i))] → Wd X w2 s H2 → va_S (cxA X) s.heap H2 locs2 → W p l e room_1 s m args below meth c H2 locs2 (cells + 1) (slots + 6) Q (F0 m 2317 ls2 [])) : W p l e room_1 s m args below meth c H locs cells slots Q (F0 m 640 ls []) := by
  refine lv_aload_n F.1 F.2.1 dL_law_640 rfl (lv_at hl 1 rfl) ?_
  refine lv_aload_n F.1 F.2.1 dL_law_641 rfl (lv_at hl 0 rfl) ?_
  refine lv_iload F.1 F.2.1 dL_law_642 (lv_at hl 5 rfl) ?_
  refine h_iconst F dL_law_644 ?_
  refine h_iadd (a := i) (b := 1) F dL_law_645 ?_
  refine h_sld (i := i + 1) F hX hbl hbA hS hL (by omega) dL_law_646 ?_
  refine lv_aload_n F.1 F.2.1 dL_law_647 rfl (lv_at hl 0 rfl) ?_
  refine lv_iload F.1 F.2.1 dL_law_648 (lv_at hl 5 rfl) ?_
  refine h_iconst F dL_law_650 ?_
  refine h_iadd (a := i) (b := 2) F dL_law_651 ?_
  refine h_sld (i := i + 2) F hX hbl hbA hS hL (by omega) dL_law_652 ?_
  refine lv_aload_n F.1 F.2.1 dL_law_653 rfl (lv_at hl 3 rfl) ?_
  obtain ⟨k, bq, P9, hk, hH, hMo⟩ := pr_cell l X w y mo ao ad hst hST (px xs (i + 1)) (px xs (i + 2))  (px_r xs (i + 1)) (px_r xs (i + 2))
  refine cs_RL_156 (As := [.ref y, .int (iI (px xs (i + 1))), .int (iI (px xs (i + 2))), .ref ao]) (rest := []) F hl hH hW hS rfl rfl ⟨Nat.le_of_ble_eq_true rfl, Nat.le_of_ble_eq_true rfl⟩ (Nat.le_of_ble_eq_true rfl) hroom dL_law_654 (fun w1 H locs hP hW hS => ?_)
  refine lv_istore (lv' := [(6, .int (iI k)), (0, .ref b), (1, .ref y), (2, .ref mo), (3, .ref ao), (4, .ref ad), (5, .int (iI i))]) F.1 F.2.1 dL_law_657 hl (by decide) rfl (fun ls hl => ?_)
  refine lv_aload_n F.1 F.2.1 dL_law_659 rfl (lv_at hl 3 rfl) ?_
  refine lv_aload_n F.1 F.2.1 dL_law_660 rfl (lv_at hl 1 rfl) ?_
  refine lv_iload F.1 F.2.1 dL_law_661 (lv_at hl 6 rfl) ?_
  refine h_iconst F dL_law_663 ?_
  refine h_iadd (a := i) (b := 1) F dL_law_664 ?_
  refine h_sld (i := i + 1) F hX hbl hbA hS hL (by omega) dL_law_665 ?_
  refine lv_aload_n F.1 F.2.1 dL_law_666 rfl (lv_at hl 1 rfl) ?_
  refine lv_iload F.1 F.2.1 dL_law_667 (lv_at hl 6 rfl) ?_
  refine h_iconst F dL_law_669 ?_
  refine h_iadd (a := i) (b := 2) F dL_law_670 ?_
  refine h_sld (i := i + 2) F hX hbl hbA hS hL (by omega) dL_law_671 ?_
  obtain ⟨⟨fm, hm⟩, hCM⟩ := hMo w1 hP
  refine cl_RL_158 (As := [.int (iI (px xs (i + 1))), .int (iI (px xs (i + 2)))]) (rest := []) F hl hCM hW hS hm rfl rfl ⟨Nat.le_of_ble_eq_true rfl, Nat.le_of_ble_eq_true rfl⟩ (Nat.le_of_ble_eq_true rfl) hroom dL_law_672 (fun w2 H locs hp2 hW hS => ?_)
  obtain ⟨hST2, ⟨v9, hv9, hvk⟩, hout⟩ := hp2
  refine lv_istore (lv' := [(7, .int (iI bq)), (6, .int (iI k)), (0, .ref b), (1, .ref y), (2, .ref mo), (3, .ref ao), (4, .ref ad), (5, .int (iI i))]) F.1 F.2.1 dL_law_675 hl (by decide) rfl (fun ls hl => ?_)
  refine lv_aload_n F.1 F.2.1 dL_law_677 rfl (lv_at hl 4 rfl) ?_
  refine cl_RL_121 (As := []) (rest := []) F hl (c_X9_thrown l X w2 mo v9 hv9) hW hS hv9 rfl rfl ⟨Nat.le_of_ble_eq_true rfl, Nat.le_of_ble_eq_true rfl⟩ (Nat.le_of_ble_eq_true rfl) hroom dL_law_678 (fun w3 H locs hp3 hW hS => ?_)
  rw [hp3] at hW
  refine h_top (show (v9 6 : Int) = k from hvk) ?_
  refine lv_iload F.1 F.2.1 dL_law_681 (lv_at hl 1 rfl) ?_
  refine lv_icmp_eq (tgt := 688) F.1 F.2.1 dL_law_683 (by decide) (fun _ => ?_) (fun h9 => absurd rfl h9)
  refine lv_iload F.1 F.2.1 dL_law_688 (lv_at hl 1 rfl) ?_
  refine h_ifne (a := k) (tgt := 705) F dL_law_690 (by decide) (by omega) (fun hne => ?_) (fun h0 => ?_)
  · skip
    refine h_goto (tgt := 2317) F dL_law_705 (by decide) ?_
    exact kk _ _ _ _ hST2 (lv_sub hl [2, 3, 4, 5, 6, 7] rfl) hW hS
  · skip
    obtain ⟨g9, hg9, hgv9⟩ := hout h0
    refine lv_aload_n F.1 F.2.1 dL_law_693 rfl (lv_at hl 5 rfl) ?_
    refine h_iconst F dL_law_694 ?_
    refine h_lald F hW hg9 (by omega) (by omega) dL_law_695 ?_
    refine h_topv (show (.long (g9 (0 : Int).toNat) : Value) = .long (iI bq).toInt64 from congrArg Value.long hgv9) ?_
    refine lv_iload F.1 F.2.1 dL_law_696 (lv_at hl 0 rfl) ?_
    refine lv_i2l F.1 F.2.1 dL_law_698 rfl ?_
    refine h_lsame (tgt := 705) F dL_law_699 rfl dL_law_700 (by decide) ?_
    refine h_goto (tgt := 2317) F dL_law_705 (by decide) ?_
    exact kk _ _ _ _ hST2 (lv_sub hl [2, 3, 4, 5, 6, 7] rfl) hW hS
set_option maxHeartbeats 2000000 in
set_option maxRecDepth 100000 in
theorem lc_10 {p : Program} {l : Launch} {e : Env} {s : State} {m : MethodId} {args : Array Value} {below : List Frame} {meth : Method} {c : Code} {H : Heap} {locs : List Loc} {cells slots : Nat} {Q : State → Prop} {ls : Array Slot} {X : Cx} {w : Wo} {b L y mo ao ad : Nat} {xs : Nat → Int32} {i : Int} (hst : l.stackTraces = false) (F : Fx p m c cL_law 10 s args RL) (hX : va_X b L xs s s.heap) (hbl : b < s.heap.size) (hbA : ¬ cxA X b) (hL : (L : Int) ≤ 3072) (hST : ST X w y mo ao ad) (hi : 0 ≤ i ∧ i + 6 ≤ (L : Int)) (hl : lv_has ls 10 [(0, .ref b), (1, .ref y), (2, .ref mo), (3, .ref ao), (4, .ref ad), (5, .int (iI i))]) (hW : Wd X w s H) (hS : va_S (cxA X) s.heap H locs) (hroom : cells + 1 ≤ room_1.cells ∧ slots + 6 ≤ room_1.slots) (kk : ∀ (w2 : Wo) (H2 : Heap) (locs2 : List Loc) (ls2 : Array Slot), ST X w2 y mo ao ad → lv_has ls2 10 [(0, .ref b), (1, .ref y), (2, .ref mo), (3, .ref ao), (4, .ref ad), (5, .int (iI i))] → Wd X w2 s H2 → va_S (cxA X) s.heap H2 locs2 → W p l e room_1 s m args below meth c H2 locs2 (cells + 1) (slots + 6) Q (F0 m 2317 ls2 [])) : W p l e room_1 s m args below meth c H locs cells slots Q (F0 m 708 ls []) := by
  refine lv_aload_n F.1 F.2.1 dL_law_708 rfl (lv_at hl 1 rfl) ?_
  refine lv_aload_n F.1 F.2.1 dL_law_709 rfl (lv_at hl 0 rfl) ?_
  refine lv_iload F.1 F.2.1 dL_law_710 (lv_at hl 5 rfl) ?_
  refine h_iconst F dL_law_712 ?_
  refine h_iadd (a := i) (b := 1) F dL_law_713 ?_
  refine h_sld (i := i + 1) F hX hbl hbA hS hL (by omega) dL_law_714 ?_
  refine lv_aload_n F.1 F.2.1 dL_law_715 rfl (lv_at hl 0 rfl) ?_
  refine lv_iload F.1 F.2.1 dL_law_716 (lv_at hl 5 rfl) ?_
  refine h_iconst F dL_law_718 ?_
  refine h_iadd (a := i) (b := 2) F dL_law_719 ?_
  refine h_sld (i := i + 2) F hX hbl hbA hS hL (by omega) dL_law_720 ?_
  refine lv_aload_n F.1 F.2.1 dL_law_721 rfl (lv_at hl 3 rfl) ?_
  obtain ⟨k, bq, P9, hk, hH, hMo⟩ := pr_design l X w y mo ao ad hst hST (px xs (i + 1)) (px xs (i + 2))  (px_r xs (i + 1)) (px_r xs (i + 2))
  refine cs_RL_159 (As := [.ref y, .int (iI (px xs (i + 1))), .int (iI (px xs (i + 2))), .ref ao]) (rest := []) F hl hH hW hS rfl rfl ⟨Nat.le_of_ble_eq_true rfl, Nat.le_of_ble_eq_true rfl⟩ (Nat.le_of_ble_eq_true rfl) hroom dL_law_722 (fun w1 H locs hP hW hS => ?_)
  refine lv_istore (lv' := [(6, .int (iI k)), (0, .ref b), (1, .ref y), (2, .ref mo), (3, .ref ao), (4, .ref ad), (5, .int (iI i))]) F.1 F.2.1 dL_law_725 hl (by decide) rfl (fun ls hl => ?_)
  refine lv_aload_n F.1 F.2.1 dL_law_727 rfl (lv_at hl 3 rfl) ?_
  refine lv_aload_n F.1 F.2.1 dL_law_728 rfl (lv_at hl 1 rfl) ?_
  refine lv_iload F.1 F.2.1 dL_law_729 (lv_at hl 6 rfl) ?_
  refine h_iconst F dL_law_731 ?_
  refine h_iadd (a := i) (b := 1) F dL_law_732 ?_
  refine h_sld (i := i + 1) F hX hbl hbA hS hL (by omega) dL_law_733 ?_
  refine lv_aload_n F.1 F.2.1 dL_law_734 rfl (lv_at hl 1 rfl) ?_
  refine lv_iload F.1 F.2.1 dL_law_735 (lv_at hl 6 rfl) ?_
  refine h_iconst F dL_law_737 ?_
  refine h_iadd (a := i) (b := 2) F dL_law_738 ?_
  refine h_sld (i := i + 2) F hX hbl hbA hS hL (by omega) dL_law_739 ?_
  obtain ⟨⟨fm, hm⟩, hCM⟩ := hMo w1 hP
  refine cl_RL_161 (As := [.int (iI (px xs (i + 1))), .int (iI (px xs (i + 2)))]) (rest := []) F hl hCM hW hS hm rfl rfl ⟨Nat.le_of_ble_eq_true rfl, Nat.le_of_ble_eq_true rfl⟩ (Nat.le_of_ble_eq_true rfl) hroom dL_law_740 (fun w2 H locs hp2 hW hS => ?_)
  obtain ⟨hST2, ⟨v9, hv9, hvk⟩, hout⟩ := hp2
  refine lv_istore (lv' := [(7, .int (iI bq)), (6, .int (iI k)), (0, .ref b), (1, .ref y), (2, .ref mo), (3, .ref ao), (4, .ref ad), (5, .int (iI i))]) F.1 F.2.1 dL_law_743 hl (by decide) rfl (fun ls hl => ?_)
  refine lv_aload_n F.1 F.2.1 dL_law_745 rfl (lv_at hl 4 rfl) ?_
  refine cl_RL_121 (As := []) (rest := []) F hl (c_X9_thrown l X w2 mo v9 hv9) hW hS hv9 rfl rfl ⟨Nat.le_of_ble_eq_true rfl, Nat.le_of_ble_eq_true rfl⟩ (Nat.le_of_ble_eq_true rfl) hroom dL_law_746 (fun w3 H locs hp3 hW hS => ?_)
  rw [hp3] at hW
  refine h_top (show (v9 6 : Int) = k from hvk) ?_
  refine lv_iload F.1 F.2.1 dL_law_749 (lv_at hl 1 rfl) ?_
  refine lv_icmp_eq (tgt := 756) F.1 F.2.1 dL_law_751 (by decide) (fun _ => ?_) (fun h9 => absurd rfl h9)
  refine lv_iload F.1 F.2.1 dL_law_756 (lv_at hl 1 rfl) ?_
  refine h_ifne (a := k) (tgt := 773) F dL_law_758 (by decide) (by omega) (fun hne => ?_) (fun h0 => ?_)
  · skip
    refine h_goto (tgt := 2317) F dL_law_773 (by decide) ?_
    exact kk _ _ _ _ hST2 (lv_sub hl [2, 3, 4, 5, 6, 7] rfl) hW hS
  · skip
    obtain ⟨g9, hg9, hgv9⟩ := hout h0
    refine lv_aload_n F.1 F.2.1 dL_law_761 rfl (lv_at hl 5 rfl) ?_
    refine h_iconst F dL_law_762 ?_
    refine h_lald F hW hg9 (by omega) (by omega) dL_law_763 ?_
    refine h_topv (show (.long (g9 (0 : Int).toNat) : Value) = .long (iI bq).toInt64 from congrArg Value.long hgv9) ?_
    refine lv_iload F.1 F.2.1 dL_law_764 (lv_at hl 0 rfl) ?_
    refine lv_i2l F.1 F.2.1 dL_law_766 rfl ?_
    refine h_lsame (tgt := 773) F dL_law_767 rfl dL_law_768 (by decide) ?_
    refine h_goto (tgt := 2317) F dL_law_773 (by decide) ?_
    exact kk _ _ _ _ hST2 (lv_sub hl [2, 3, 4, 5, 6, 7] rfl) hW hS
set_option maxHeartbeats 2000000 in
set_option maxRecDepth 100000 in
theorem lc_11 {p : Program} {l : Launch} {e : Env} {s : State} {m : MethodId} {args : Array Value} {below : List Frame} {meth : Method} {c : Code} {H : Heap} {locs : List Loc} {cells slots : Nat} {Q : State → Prop} {ls : Array Slot} {X : Cx} {w : Wo} {b L y mo ao ad : Nat} {xs : Nat → Int32} {i : Int} (hst : l.stackTraces = false) (F : Fx p m c cL_law 10 s args RL) (hX : va_X b L xs s s.heap) (hbl : b < s.heap.size) (hbA : ¬ cxA X b) (hL : (L : Int) ≤ 3072) (hST : ST X w y mo ao ad) (hi : 0 ≤ i ∧ i + 6 ≤ (L : Int)) (hl : lv_has ls 10 [(0, .ref b), (1, .ref y), (2, .ref mo), (3, .ref ao), (4, .ref ad), (5, .int (iI i))]) (hW : Wd X w s H) (hS : va_S (cxA X) s.heap H locs) (hroom : cells + 1 ≤ room_1.cells ∧ slots + 6 ≤ room_1.slots) (kk : ∀ (w2 : Wo) (H2 : Heap) (locs2 : List Loc) (ls2 : Array Slot), ST X w2 y mo ao ad → lv_has ls2 10 [(0, .ref b), (1, .ref y), (2, .ref mo), (3, .ref ao), (4, .ref ad), (5, .int (iI i))] → Wd X w2 s H2 → va_S (cxA X) s.heap H2 locs2 → W p l e room_1 s m args below meth c H2 locs2 (cells + 1) (slots + 6) Q (F0 m 2317 ls2 [])) : W p l e room_1 s m args below meth c H locs cells slots Q (F0 m 776 ls []) := by
  refine lv_aload_n F.1 F.2.1 dL_law_776 rfl (lv_at hl 1 rfl) ?_
  refine lv_aload_n F.1 F.2.1 dL_law_777 rfl (lv_at hl 0 rfl) ?_
  refine lv_iload F.1 F.2.1 dL_law_778 (lv_at hl 5 rfl) ?_
  refine h_iconst F dL_law_780 ?_
  refine h_iadd (a := i) (b := 1) F dL_law_781 ?_
  refine h_sld (i := i + 1) F hX hbl hbA hS hL (by omega) dL_law_782 ?_
  refine lv_aload_n F.1 F.2.1 dL_law_783 rfl (lv_at hl 0 rfl) ?_
  refine lv_iload F.1 F.2.1 dL_law_784 (lv_at hl 5 rfl) ?_
  refine h_iconst F dL_law_786 ?_
  refine h_iadd (a := i) (b := 2) F dL_law_787 ?_
  refine h_sld (i := i + 2) F hX hbl hbA hS hL (by omega) dL_law_788 ?_
  refine lv_aload_n F.1 F.2.1 dL_law_789 rfl (lv_at hl 3 rfl) ?_
  obtain ⟨k, bq, P9, hk, hH, hMo⟩ := pr_colour l X w y mo ao ad hst hST (px xs (i + 1)) (px xs (i + 2))  (px_r xs (i + 1)) (px_r xs (i + 2))
  refine cs_RL_162 (As := [.ref y, .int (iI (px xs (i + 1))), .int (iI (px xs (i + 2))), .ref ao]) (rest := []) F hl hH hW hS rfl rfl ⟨Nat.le_of_ble_eq_true rfl, Nat.le_of_ble_eq_true rfl⟩ (Nat.le_of_ble_eq_true rfl) hroom dL_law_790 (fun w1 H locs hP hW hS => ?_)
  refine lv_istore (lv' := [(6, .int (iI k)), (0, .ref b), (1, .ref y), (2, .ref mo), (3, .ref ao), (4, .ref ad), (5, .int (iI i))]) F.1 F.2.1 dL_law_793 hl (by decide) rfl (fun ls hl => ?_)
  refine lv_aload_n F.1 F.2.1 dL_law_795 rfl (lv_at hl 3 rfl) ?_
  refine lv_aload_n F.1 F.2.1 dL_law_796 rfl (lv_at hl 1 rfl) ?_
  refine lv_iload F.1 F.2.1 dL_law_797 (lv_at hl 6 rfl) ?_
  refine h_iconst F dL_law_799 ?_
  refine h_iadd (a := i) (b := 1) F dL_law_800 ?_
  refine h_sld (i := i + 1) F hX hbl hbA hS hL (by omega) dL_law_801 ?_
  refine lv_aload_n F.1 F.2.1 dL_law_802 rfl (lv_at hl 1 rfl) ?_
  refine lv_iload F.1 F.2.1 dL_law_803 (lv_at hl 6 rfl) ?_
  refine h_iconst F dL_law_805 ?_
  refine h_iadd (a := i) (b := 2) F dL_law_806 ?_
  refine h_sld (i := i + 2) F hX hbl hbA hS hL (by omega) dL_law_807 ?_
  obtain ⟨⟨fm, hm⟩, hCM⟩ := hMo w1 hP
  refine cl_RL_164 (As := [.int (iI (px xs (i + 1))), .int (iI (px xs (i + 2)))]) (rest := []) F hl hCM hW hS hm rfl rfl ⟨Nat.le_of_ble_eq_true rfl, Nat.le_of_ble_eq_true rfl⟩ (Nat.le_of_ble_eq_true rfl) hroom dL_law_808 (fun w2 H locs hp2 hW hS => ?_)
  obtain ⟨hST2, ⟨v9, hv9, hvk⟩, hout⟩ := hp2
  refine lv_istore (lv' := [(7, .int (iI bq)), (6, .int (iI k)), (0, .ref b), (1, .ref y), (2, .ref mo), (3, .ref ao), (4, .ref ad), (5, .int (iI i))]) F.1 F.2.1 dL_law_811 hl (by decide) rfl (fun ls hl => ?_)
  refine lv_aload_n F.1 F.2.1 dL_law_813 rfl (lv_at hl 4 rfl) ?_
  refine cl_RL_121 (As := []) (rest := []) F hl (c_X9_thrown l X w2 mo v9 hv9) hW hS hv9 rfl rfl ⟨Nat.le_of_ble_eq_true rfl, Nat.le_of_ble_eq_true rfl⟩ (Nat.le_of_ble_eq_true rfl) hroom dL_law_814 (fun w3 H locs hp3 hW hS => ?_)
  rw [hp3] at hW
  refine h_top (show (v9 6 : Int) = k from hvk) ?_
  refine lv_iload F.1 F.2.1 dL_law_817 (lv_at hl 1 rfl) ?_
  refine lv_icmp_eq (tgt := 824) F.1 F.2.1 dL_law_819 (by decide) (fun _ => ?_) (fun h9 => absurd rfl h9)
  refine lv_iload F.1 F.2.1 dL_law_824 (lv_at hl 1 rfl) ?_
  refine h_ifne (a := k) (tgt := 841) F dL_law_826 (by decide) (by omega) (fun hne => ?_) (fun h0 => ?_)
  · skip
    refine h_goto (tgt := 2317) F dL_law_841 (by decide) ?_
    exact kk _ _ _ _ hST2 (lv_sub hl [2, 3, 4, 5, 6, 7] rfl) hW hS
  · skip
    obtain ⟨g9, hg9, hgv9⟩ := hout h0
    refine lv_aload_n F.1 F.2.1 dL_law_829 rfl (lv_at hl 5 rfl) ?_
    refine h_iconst F dL_law_830 ?_
    refine h_lald F hW hg9 (by omega) (by omega) dL_law_831 ?_
    refine h_topv (show (.long (g9 (0 : Int).toNat) : Value) = .long (iI bq).toInt64 from congrArg Value.long hgv9) ?_
    refine lv_iload F.1 F.2.1 dL_law_832 (lv_at hl 0 rfl) ?_
    refine lv_i2l F.1 F.2.1 dL_law_834 rfl ?_
    refine h_lsame (tgt := 841) F dL_law_835 rfl dL_law_836 (by decide) ?_
    refine h_goto (tgt := 2317) F dL_law_841 (by decide) ?_
    exact kk _ _ _ _ hST2 (lv_sub hl [2, 3, 4, 5, 6, 7] rfl) hW hS
set_option maxHeartbeats 2000000 in
set_option maxRecDepth 100000 in
theorem lc_12 {p : Program} {l : Launch} {e : Env} {s : State} {m : MethodId} {args : Array Value} {below : List Frame} {meth : Method} {c : Code} {H : Heap} {locs : List Loc} {cells slots : Nat} {Q : State → Prop} {ls : Array Slot} {X : Cx} {w : Wo} {b L y mo ao ad : Nat} {xs : Nat → Int32} {i : Int} (hst : l.stackTraces = false) (F : Fx p m c cL_law 10 s args RL) (hX : va_X b L xs s s.heap) (hbl : b < s.heap.size) (hbA : ¬ cxA X b) (hL : (L : Int) ≤ 3072) (hST : ST X w y mo ao ad) (hi : 0 ≤ i ∧ i + 6 ≤ (L : Int)) (hl : lv_has ls 10 [(0, .ref b), (1, .ref y), (2, .ref mo), (3, .ref ao), (4, .ref ad), (5, .int (iI i))]) (hW : Wd X w s H) (hS : va_S (cxA X) s.heap H locs) (hroom : cells + 1 ≤ room_1.cells ∧ slots + 6 ≤ room_1.slots) (kk : ∀ (w2 : Wo) (H2 : Heap) (locs2 : List Loc) (ls2 : Array Slot), ST X w2 y mo ao ad → lv_has ls2 10 [(0, .ref b), (1, .ref y), (2, .ref mo), (3, .ref ao), (4, .ref ad), (5, .int (iI i))] → Wd X w2 s H2 → va_S (cxA X) s.heap H2 locs2 → W p l e room_1 s m args below meth c H2 locs2 (cells + 1) (slots + 6) Q (F0 m 2317 ls2 [])) : W p l e room_1 s m args below meth c H locs cells slots Q (F0 m 844 ls []) := by
  refine lv_aload_n F.1 F.2.1 dL_law_844 rfl (lv_at hl 1 rfl) ?_
  refine lv_aload_n F.1 F.2.1 dL_law_845 rfl (lv_at hl 0 rfl) ?_
  refine lv_iload F.1 F.2.1 dL_law_846 (lv_at hl 5 rfl) ?_
  refine h_iconst F dL_law_848 ?_
  refine h_iadd (a := i) (b := 1) F dL_law_849 ?_
  refine h_sld (i := i + 1) F hX hbl hbA hS hL (by omega) dL_law_850 ?_
  refine lv_aload_n F.1 F.2.1 dL_law_851 rfl (lv_at hl 3 rfl) ?_
  obtain ⟨k, bq, P9, hk, hH, hMo⟩ := pr_mistakes l X w y mo ao ad hst hST (px xs (i + 1))  (px_r xs (i + 1))
  refine cs_RL_165 (As := [.ref y, .int (iI (px xs (i + 1))), .ref ao]) (rest := []) F hl hH hW hS rfl rfl ⟨Nat.le_of_ble_eq_true rfl, Nat.le_of_ble_eq_true rfl⟩ (Nat.le_of_ble_eq_true rfl) hroom dL_law_852 (fun w1 H locs hP hW hS => ?_)
  refine lv_istore (lv' := [(6, .int (iI k)), (0, .ref b), (1, .ref y), (2, .ref mo), (3, .ref ao), (4, .ref ad), (5, .int (iI i))]) F.1 F.2.1 dL_law_855 hl (by decide) rfl (fun ls hl => ?_)
  refine lv_aload_n F.1 F.2.1 dL_law_857 rfl (lv_at hl 3 rfl) ?_
  refine lv_aload_n F.1 F.2.1 dL_law_858 rfl (lv_at hl 1 rfl) ?_
  refine lv_iload F.1 F.2.1 dL_law_859 (lv_at hl 6 rfl) ?_
  refine h_iconst F dL_law_861 ?_
  refine h_iadd (a := i) (b := 1) F dL_law_862 ?_
  refine h_sld (i := i + 1) F hX hbl hbA hS hL (by omega) dL_law_863 ?_
  obtain ⟨⟨fm, hm⟩, hCM⟩ := hMo w1 hP
  refine cl_RL_167 (As := [.int (iI (px xs (i + 1)))]) (rest := []) F hl hCM hW hS hm rfl rfl ⟨Nat.le_of_ble_eq_true rfl, Nat.le_of_ble_eq_true rfl⟩ (Nat.le_of_ble_eq_true rfl) hroom dL_law_864 (fun w2 H locs hp2 hW hS => ?_)
  obtain ⟨hST2, ⟨v9, hv9, hvk⟩, hout⟩ := hp2
  refine lv_istore (lv' := [(7, .int (iI bq)), (6, .int (iI k)), (0, .ref b), (1, .ref y), (2, .ref mo), (3, .ref ao), (4, .ref ad), (5, .int (iI i))]) F.1 F.2.1 dL_law_867 hl (by decide) rfl (fun ls hl => ?_)
  refine lv_aload_n F.1 F.2.1 dL_law_869 rfl (lv_at hl 4 rfl) ?_
  refine cl_RL_121 (As := []) (rest := []) F hl (c_X9_thrown l X w2 mo v9 hv9) hW hS hv9 rfl rfl ⟨Nat.le_of_ble_eq_true rfl, Nat.le_of_ble_eq_true rfl⟩ (Nat.le_of_ble_eq_true rfl) hroom dL_law_870 (fun w3 H locs hp3 hW hS => ?_)
  rw [hp3] at hW
  refine h_top (show (v9 6 : Int) = k from hvk) ?_
  refine lv_iload F.1 F.2.1 dL_law_873 (lv_at hl 1 rfl) ?_
  refine lv_icmp_eq (tgt := 880) F.1 F.2.1 dL_law_875 (by decide) (fun _ => ?_) (fun h9 => absurd rfl h9)
  refine lv_iload F.1 F.2.1 dL_law_880 (lv_at hl 1 rfl) ?_
  refine h_ifne (a := k) (tgt := 897) F dL_law_882 (by decide) (by omega) (fun hne => ?_) (fun h0 => ?_)
  · skip
    refine h_goto (tgt := 2317) F dL_law_897 (by decide) ?_
    exact kk _ _ _ _ hST2 (lv_sub hl [2, 3, 4, 5, 6, 7] rfl) hW hS
  · skip
    obtain ⟨g9, hg9, hgv9⟩ := hout h0
    refine lv_aload_n F.1 F.2.1 dL_law_885 rfl (lv_at hl 5 rfl) ?_
    refine h_iconst F dL_law_886 ?_
    refine h_lald F hW hg9 (by omega) (by omega) dL_law_887 ?_
    refine h_topv (show (.long (g9 (0 : Int).toNat) : Value) = .long (iI bq).toInt64 from congrArg Value.long hgv9) ?_
    refine lv_iload F.1 F.2.1 dL_law_888 (lv_at hl 0 rfl) ?_
    refine lv_i2l F.1 F.2.1 dL_law_890 rfl ?_
    refine h_lsame (tgt := 897) F dL_law_891 rfl dL_law_892 (by decide) ?_
    refine h_goto (tgt := 2317) F dL_law_897 (by decide) ?_
    exact kk _ _ _ _ hST2 (lv_sub hl [2, 3, 4, 5, 6, 7] rfl) hW hS
set_option maxHeartbeats 2000000 in
set_option maxRecDepth 100000 in
theorem lc_13 {p : Program} {l : Launch} {e : Env} {s : State} {m : MethodId} {args : Array Value} {below : List Frame} {meth : Method} {c : Code} {H : Heap} {locs : List Loc} {cells slots : Nat} {Q : State → Prop} {ls : Array Slot} {X : Cx} {w : Wo} {b L y mo ao ad : Nat} {xs : Nat → Int32} {i : Int} (hst : l.stackTraces = false) (F : Fx p m c cL_law 10 s args RL) (hX : va_X b L xs s s.heap) (hbl : b < s.heap.size) (hbA : ¬ cxA X b) (hL : (L : Int) ≤ 3072) (hST : ST X w y mo ao ad) (hi : 0 ≤ i ∧ i + 6 ≤ (L : Int)) (hl : lv_has ls 10 [(0, .ref b), (1, .ref y), (2, .ref mo), (3, .ref ao), (4, .ref ad), (5, .int (iI i))]) (hW : Wd X w s H) (hS : va_S (cxA X) s.heap H locs) (hroom : cells + 1 ≤ room_1.cells ∧ slots + 6 ≤ room_1.slots) (kk : ∀ (w2 : Wo) (H2 : Heap) (locs2 : List Loc) (ls2 : Array Slot), ST X w2 y mo ao ad → lv_has ls2 10 [(0, .ref b), (1, .ref y), (2, .ref mo), (3, .ref ao), (4, .ref ad), (5, .int (iI i))] → Wd X w2 s H2 → va_S (cxA X) s.heap H2 locs2 → W p l e room_1 s m args below meth c H2 locs2 (cells + 1) (slots + 6) Q (F0 m 2317 ls2 [])) : W p l e room_1 s m args below meth c H locs cells slots Q (F0 m 900 ls []) := by
  refine W.widen (k := cells + 1) (n := slots + 6) (by omega) (by omega) ?_
  obtain ⟨fy, hy⟩ := hST.y
  obtain ⟨bq, P9, hC, hMo⟩ := pr_fits l X w y mo ao ad hST
  refine lv_aload_n F.1 F.2.1 dL_law_900 rfl (lv_at hl 1 rfl) ?_
  refine cl_RL_168 (As := []) (rest := []) F hl hC hW hS hy rfl rfl ⟨Nat.le_of_ble_eq_true rfl, Nat.le_of_ble_eq_true rfl⟩ (Nat.le_of_ble_eq_true rfl) hroom dL_law_901 (fun w1 H locs hP hW hS => ?_)
  refine lv_aload_n F.1 F.2.1 dL_law_904 rfl (lv_at hl 2 rfl) ?_
  obtain ⟨⟨fm, hm⟩, hCM⟩ := hMo w1 hP
  refine cl_RL_172 (As := []) (rest := [.int (iI bq)]) F hl hCM hW hS hm rfl rfl ⟨Nat.le_of_ble_eq_true rfl, Nat.le_of_ble_eq_true rfl⟩ (Nat.le_of_ble_eq_true rfl) hroom dL_law_905 (fun w2 H locs hp2 hW hS => ?_)
  have hST2 := hp2
  refine lv_icmp_eq (tgt := 2317) F.1 F.2.1 dL_law_908 (by decide) (fun _ => ?_) (fun h9 => absurd rfl h9)
  exact kk _ _ _ _ hST2 (lv_sub hl [0, 1, 2, 3, 4, 5] rfl) hW hS
set_option maxHeartbeats 2000000 in
set_option maxRecDepth 100000 in
theorem lc_14 {p : Program} {l : Launch} {e : Env} {s : State} {m : MethodId} {args : Array Value} {below : List Frame} {meth : Method} {c : Code} {H : Heap} {locs : List Loc} {cells slots : Nat} {Q : State → Prop} {ls : Array Slot} {X : Cx} {w : Wo} {b L y mo ao ad : Nat} {xs : Nat → Int32} {i : Int} (hst : l.stackTraces = false) (F : Fx p m c cL_law 10 s args RL) (hX : va_X b L xs s s.heap) (hbl : b < s.heap.size) (hbA : ¬ cxA X b) (hL : (L : Int) ≤ 3072) (hST : ST X w y mo ao ad) (hi : 0 ≤ i ∧ i + 6 ≤ (L : Int)) (hl : lv_has ls 10 [(0, .ref b), (1, .ref y), (2, .ref mo), (3, .ref ao), (4, .ref ad), (5, .int (iI i))]) (hW : Wd X w s H) (hS : va_S (cxA X) s.heap H locs) (hroom : cells + 1 ≤ room_1.cells ∧ slots + 6 ≤ room_1.slots) (kk : ∀ (w2 : Wo) (H2 : Heap) (locs2 : List Loc) (ls2 : Array Slot), ST X w2 y mo ao ad → lv_has ls2 10 [(0, .ref b), (1, .ref y), (2, .ref mo), (3, .ref ao), (4, .ref ad), (5, .int (iI i))] → Wd X w2 s H2 → va_S (cxA X) s.heap H2 locs2 → W p l e room_1 s m args below meth c H2 locs2 (cells + 1) (slots + 6) Q (F0 m 2317 ls2 [])) : W p l e room_1 s m args below meth c H locs cells slots Q (F0 m 913 ls []) := by
  refine lv_aload_n F.1 F.2.1 dL_law_913 rfl (lv_at hl 1 rfl) ?_
  refine lv_aload_n F.1 F.2.1 dL_law_914 rfl (lv_at hl 0 rfl) ?_
  refine lv_iload F.1 F.2.1 dL_law_915 (lv_at hl 5 rfl) ?_
  refine h_iconst F dL_law_917 ?_
  refine h_iadd (a := i) (b := 1) F dL_law_918 ?_
  refine h_sld (i := i + 1) F hX hbl hbA hS hL (by omega) dL_law_919 ?_
  refine lv_aload_n F.1 F.2.1 dL_law_920 rfl (lv_at hl 3 rfl) ?_
  obtain ⟨k, bq, P9, hk, hH, hMo⟩ := pr_isAlike l X w y mo ao ad hst hST (px xs (i + 1))  (px_r xs (i + 1))
  refine cs_RL_173 (As := [.ref y, .int (iI (px xs (i + 1))), .ref ao]) (rest := []) F hl hH hW hS rfl rfl ⟨Nat.le_of_ble_eq_true rfl, Nat.le_of_ble_eq_true rfl⟩ (Nat.le_of_ble_eq_true rfl) hroom dL_law_921 (fun w1 H locs hP hW hS => ?_)
  refine lv_istore (lv' := [(6, .int (iI k)), (0, .ref b), (1, .ref y), (2, .ref mo), (3, .ref ao), (4, .ref ad), (5, .int (iI i))]) F.1 F.2.1 dL_law_924 hl (by decide) rfl (fun ls hl => ?_)
  refine lv_aload_n F.1 F.2.1 dL_law_926 rfl (lv_at hl 3 rfl) ?_
  refine lv_aload_n F.1 F.2.1 dL_law_927 rfl (lv_at hl 1 rfl) ?_
  refine lv_iload F.1 F.2.1 dL_law_928 (lv_at hl 6 rfl) ?_
  refine h_iconst F dL_law_930 ?_
  refine h_iadd (a := i) (b := 1) F dL_law_931 ?_
  refine h_sld (i := i + 1) F hX hbl hbA hS hL (by omega) dL_law_932 ?_
  obtain ⟨⟨fm, hm⟩, hb01, hCM⟩ := hMo w1 hP
  refine cl_RL_175 (As := [.int (iI (px xs (i + 1)))]) (rest := []) F hl hCM hW hS hm rfl rfl ⟨Nat.le_of_ble_eq_true rfl, Nat.le_of_ble_eq_true rfl⟩ (Nat.le_of_ble_eq_true rfl) hroom dL_law_933 (fun w2 H locs hp2 hW hS => ?_)
  obtain ⟨hST2, ⟨v9, hv9, hvk⟩, hout⟩ := hp2
  refine lv_istore (lv' := [(7, .int (iI bq)), (6, .int (iI k)), (0, .ref b), (1, .ref y), (2, .ref mo), (3, .ref ao), (4, .ref ad), (5, .int (iI i))]) F.1 F.2.1 dL_law_936 hl (by decide) rfl (fun ls hl => ?_)
  refine lv_aload_n F.1 F.2.1 dL_law_938 rfl (lv_at hl 4 rfl) ?_
  refine cl_RL_121 (As := []) (rest := []) F hl (c_X9_thrown l X w2 mo v9 hv9) hW hS hv9 rfl rfl ⟨Nat.le_of_ble_eq_true rfl, Nat.le_of_ble_eq_true rfl⟩ (Nat.le_of_ble_eq_true rfl) hroom dL_law_939 (fun w3 H locs hp3 hW hS => ?_)
  rw [hp3] at hW
  refine h_top (show (v9 6 : Int) = k from hvk) ?_
  refine lv_iload F.1 F.2.1 dL_law_942 (lv_at hl 1 rfl) ?_
  refine lv_icmp_eq (tgt := 949) F.1 F.2.1 dL_law_944 (by decide) (fun _ => ?_) (fun h9 => absurd rfl h9)
  refine lv_iload F.1 F.2.1 dL_law_949 (lv_at hl 1 rfl) ?_
  refine h_ifne (a := k) (tgt := 973) F dL_law_951 (by decide) (by omega) (fun hne => ?_) (fun h0 => ?_)
  · skip
    refine h_goto (tgt := 2317) F dL_law_973 (by decide) ?_
    exact kk _ _ _ _ hST2 (lv_sub hl [2, 3, 4, 5, 6, 7] rfl) hW hS
  · skip
    obtain ⟨g9, hg9, hgv9⟩ := hout h0
    refine lv_aload_n F.1 F.2.1 dL_law_954 rfl (lv_at hl 5 rfl) ?_
    refine h_iconst F dL_law_955 ?_
    refine h_lald F hW hg9 (by omega) (by omega) dL_law_956 ?_
    refine h_topv (show (.long (g9 (0 : Int).toNat) : Value) = .long (iI bq).toInt64 from congrArg Value.long hgv9) ?_
    refine lv_iload F.1 F.2.1 dL_law_957 (lv_at hl 0 rfl) ?_
    rcases hb01 with z9 | z9
    · refine h_ifeq (a := bq) (tgt := 966) F dL_law_959 (by decide) (by omega) (fun _ => ?_) (fun h9 => absurd z9 h9)
      refine h_lconst (n := 0) (z := 0) F dL_law_966 rfl ?_
      refine h_topv (show (.long (lI 0) : Value) = .long (iI bq).toInt64 from by rw [z9]; exact congrArg Value.long (lI_i (by omega)).symm) ?_
      refine h_lsame (tgt := 973) F dL_law_967 rfl dL_law_968 (by decide) ?_
      refine h_goto (tgt := 2317) F dL_law_973 (by decide) ?_
      exact kk _ _ _ _ hST2 (lv_sub hl [2, 3, 4, 5, 6, 7] rfl) hW hS
    · refine h_ifeq (a := bq) (tgt := 966) F dL_law_959 (by decide) (by omega) (fun h9 => by exfalso; omega) (fun _ => ?_)
      refine h_lconst (n := 1) (z := 1) F dL_law_962 rfl ?_
      refine h_goto (tgt := 967) F dL_law_963 (by decide) ?_
      refine h_topv (show (.long (lI 1) : Value) = .long (iI bq).toInt64 from by rw [z9]; exact congrArg Value.long (lI_i (by omega)).symm) ?_
      refine h_lsame (tgt := 973) F dL_law_967 rfl dL_law_968 (by decide) ?_
      refine h_goto (tgt := 2317) F dL_law_973 (by decide) ?_
      exact kk _ _ _ _ hST2 (lv_sub hl [2, 3, 4, 5, 6, 7] rfl) hW hS
set_option maxHeartbeats 2000000 in
set_option maxRecDepth 100000 in
theorem lc_15 {p : Program} {l : Launch} {e : Env} {s : State} {m : MethodId} {args : Array Value} {below : List Frame} {meth : Method} {c : Code} {H : Heap} {locs : List Loc} {cells slots : Nat} {Q : State → Prop} {ls : Array Slot} {X : Cx} {w : Wo} {b L y mo ao ad : Nat} {xs : Nat → Int32} {i : Int} (hst : l.stackTraces = false) (F : Fx p m c cL_law 10 s args RL) (hX : va_X b L xs s s.heap) (hbl : b < s.heap.size) (hbA : ¬ cxA X b) (hL : (L : Int) ≤ 3072) (hST : ST X w y mo ao ad) (hi : 0 ≤ i ∧ i + 6 ≤ (L : Int)) (hl : lv_has ls 10 [(0, .ref b), (1, .ref y), (2, .ref mo), (3, .ref ao), (4, .ref ad), (5, .int (iI i))]) (hW : Wd X w s H) (hS : va_S (cxA X) s.heap H locs) (hroom : cells + 1 ≤ room_1.cells ∧ slots + 6 ≤ room_1.slots) (kk : ∀ (w2 : Wo) (H2 : Heap) (locs2 : List Loc) (ls2 : Array Slot), ST X w2 y mo ao ad → lv_has ls2 10 [(0, .ref b), (1, .ref y), (2, .ref mo), (3, .ref ao), (4, .ref ad), (5, .int (iI i))] → Wd X w2 s H2 → va_S (cxA X) s.heap H2 locs2 → W p l e room_1 s m args below meth c H2 locs2 (cells + 1) (slots + 6) Q (F0 m 2317 ls2 [])) : W p l e room_1 s m args below meth c H locs cells slots Q (F0 m 976 ls []) := by
  refine lv_aload_n F.1 F.2.1 dL_law_976 rfl (lv_at hl 1 rfl) ?_
  refine lv_aload_n F.1 F.2.1 dL_law_977 rfl (lv_at hl 0 rfl) ?_
  refine lv_iload F.1 F.2.1 dL_law_978 (lv_at hl 5 rfl) ?_
  refine h_iconst F dL_law_980 ?_
  refine h_iadd (a := i) (b := 1) F dL_law_981 ?_
  refine h_sld (i := i + 1) F hX hbl hbA hS hL (by omega) dL_law_982 ?_
  refine lv_aload_n F.1 F.2.1 dL_law_983 rfl (lv_at hl 3 rfl) ?_
  obtain ⟨k, bq, P9, hk, hH, hMo⟩ := pr_joins l X w y mo ao ad hst hST (px xs (i + 1))  (px_r xs (i + 1))
  refine cs_RL_176 (As := [.ref y, .int (iI (px xs (i + 1))), .ref ao]) (rest := []) F hl hH hW hS rfl rfl ⟨Nat.le_of_ble_eq_true rfl, Nat.le_of_ble_eq_true rfl⟩ (Nat.le_of_ble_eq_true rfl) hroom dL_law_984 (fun w1 H locs hP hW hS => ?_)
  refine lv_istore (lv' := [(6, .int (iI k)), (0, .ref b), (1, .ref y), (2, .ref mo), (3, .ref ao), (4, .ref ad), (5, .int (iI i))]) F.1 F.2.1 dL_law_987 hl (by decide) rfl (fun ls hl => ?_)
  refine lv_aload_n F.1 F.2.1 dL_law_989 rfl (lv_at hl 3 rfl) ?_
  refine lv_aload_n F.1 F.2.1 dL_law_990 rfl (lv_at hl 1 rfl) ?_
  refine lv_iload F.1 F.2.1 dL_law_991 (lv_at hl 6 rfl) ?_
  refine h_iconst F dL_law_993 ?_
  refine h_iadd (a := i) (b := 1) F dL_law_994 ?_
  refine h_sld (i := i + 1) F hX hbl hbA hS hL (by omega) dL_law_995 ?_
  obtain ⟨⟨fm, hm⟩, hCM⟩ := hMo w1 hP
  refine cl_RL_178 (As := [.int (iI (px xs (i + 1)))]) (rest := []) F hl hCM hW hS hm rfl rfl ⟨Nat.le_of_ble_eq_true rfl, Nat.le_of_ble_eq_true rfl⟩ (Nat.le_of_ble_eq_true rfl) hroom dL_law_996 (fun w2 H locs hp2 hW hS => ?_)
  obtain ⟨hST2, ⟨v9, hv9, hvk⟩, hout⟩ := hp2
  refine lv_istore (lv' := [(7, .int (iI bq)), (6, .int (iI k)), (0, .ref b), (1, .ref y), (2, .ref mo), (3, .ref ao), (4, .ref ad), (5, .int (iI i))]) F.1 F.2.1 dL_law_999 hl (by decide) rfl (fun ls hl => ?_)
  refine lv_aload_n F.1 F.2.1 dL_law_1001 rfl (lv_at hl 4 rfl) ?_
  refine cl_RL_121 (As := []) (rest := []) F hl (c_X9_thrown l X w2 mo v9 hv9) hW hS hv9 rfl rfl ⟨Nat.le_of_ble_eq_true rfl, Nat.le_of_ble_eq_true rfl⟩ (Nat.le_of_ble_eq_true rfl) hroom dL_law_1002 (fun w3 H locs hp3 hW hS => ?_)
  rw [hp3] at hW
  refine h_top (show (v9 6 : Int) = k from hvk) ?_
  refine lv_iload F.1 F.2.1 dL_law_1005 (lv_at hl 1 rfl) ?_
  refine lv_icmp_eq (tgt := 1012) F.1 F.2.1 dL_law_1007 (by decide) (fun _ => ?_) (fun h9 => absurd rfl h9)
  refine lv_iload F.1 F.2.1 dL_law_1012 (lv_at hl 1 rfl) ?_
  refine h_ifne (a := k) (tgt := 1029) F dL_law_1014 (by decide) (by omega) (fun hne => ?_) (fun h0 => ?_)
  · skip
    refine h_goto (tgt := 2317) F dL_law_1029 (by decide) ?_
    exact kk _ _ _ _ hST2 (lv_sub hl [2, 3, 4, 5, 6, 7] rfl) hW hS
  · skip
    obtain ⟨g9, hg9, hgv9⟩ := hout h0
    refine lv_aload_n F.1 F.2.1 dL_law_1017 rfl (lv_at hl 5 rfl) ?_
    refine h_iconst F dL_law_1018 ?_
    refine h_lald F hW hg9 (by omega) (by omega) dL_law_1019 ?_
    refine h_topv (show (.long (g9 (0 : Int).toNat) : Value) = .long (iI bq).toInt64 from congrArg Value.long hgv9) ?_
    refine lv_iload F.1 F.2.1 dL_law_1020 (lv_at hl 0 rfl) ?_
    refine lv_i2l F.1 F.2.1 dL_law_1022 rfl ?_
    refine h_lsame (tgt := 1029) F dL_law_1023 rfl dL_law_1024 (by decide) ?_
    refine h_goto (tgt := 2317) F dL_law_1029 (by decide) ?_
    exact kk _ _ _ _ hST2 (lv_sub hl [2, 3, 4, 5, 6, 7] rfl) hW hS
set_option maxHeartbeats 2000000 in
set_option maxRecDepth 100000 in
theorem lc_16 {p : Program} {l : Launch} {e : Env} {s : State} {m : MethodId} {args : Array Value} {below : List Frame} {meth : Method} {c : Code} {H : Heap} {locs : List Loc} {cells slots : Nat} {Q : State → Prop} {ls : Array Slot} {X : Cx} {w : Wo} {b L y mo ao ad : Nat} {xs : Nat → Int32} {i : Int} (hst : l.stackTraces = false) (F : Fx p m c cL_law 10 s args RL) (hX : va_X b L xs s s.heap) (hbl : b < s.heap.size) (hbA : ¬ cxA X b) (hL : (L : Int) ≤ 3072) (hST : ST X w y mo ao ad) (hi : 0 ≤ i ∧ i + 6 ≤ (L : Int)) (hl : lv_has ls 10 [(0, .ref b), (1, .ref y), (2, .ref mo), (3, .ref ao), (4, .ref ad), (5, .int (iI i))]) (hW : Wd X w s H) (hS : va_S (cxA X) s.heap H locs) (hroom : cells + 1 ≤ room_1.cells ∧ slots + 6 ≤ room_1.slots) (kk : ∀ (w2 : Wo) (H2 : Heap) (locs2 : List Loc) (ls2 : Array Slot), ST X w2 y mo ao ad → lv_has ls2 10 [(0, .ref b), (1, .ref y), (2, .ref mo), (3, .ref ao), (4, .ref ad), (5, .int (iI i))] → Wd X w2 s H2 → va_S (cxA X) s.heap H2 locs2 → W p l e room_1 s m args below meth c H2 locs2 (cells + 1) (slots + 6) Q (F0 m 2317 ls2 [])) : W p l e room_1 s m args below meth c H locs cells slots Q (F0 m 1032 ls []) := by
  refine lv_aload_n F.1 F.2.1 dL_law_1032 rfl (lv_at hl 1 rfl) ?_
  refine lv_aload_n F.1 F.2.1 dL_law_1033 rfl (lv_at hl 0 rfl) ?_
  refine lv_iload F.1 F.2.1 dL_law_1034 (lv_at hl 5 rfl) ?_
  refine h_iconst F dL_law_1036 ?_
  refine h_iadd (a := i) (b := 1) F dL_law_1037 ?_
  refine h_sld (i := i + 1) F hX hbl hbA hS hL (by omega) dL_law_1038 ?_
  refine lv_aload_n F.1 F.2.1 dL_law_1039 rfl (lv_at hl 3 rfl) ?_
  obtain ⟨k, bq, P9, hk, hH, hMo⟩ := pr_slits l X w y mo ao ad hst hST (px xs (i + 1))  (px_r xs (i + 1))
  refine cs_RL_179 (As := [.ref y, .int (iI (px xs (i + 1))), .ref ao]) (rest := []) F hl hH hW hS rfl rfl ⟨Nat.le_of_ble_eq_true rfl, Nat.le_of_ble_eq_true rfl⟩ (Nat.le_of_ble_eq_true rfl) hroom dL_law_1040 (fun w1 H locs hP hW hS => ?_)
  refine lv_istore (lv' := [(6, .int (iI k)), (0, .ref b), (1, .ref y), (2, .ref mo), (3, .ref ao), (4, .ref ad), (5, .int (iI i))]) F.1 F.2.1 dL_law_1043 hl (by decide) rfl (fun ls hl => ?_)
  refine lv_aload_n F.1 F.2.1 dL_law_1045 rfl (lv_at hl 3 rfl) ?_
  refine lv_aload_n F.1 F.2.1 dL_law_1046 rfl (lv_at hl 1 rfl) ?_
  refine lv_iload F.1 F.2.1 dL_law_1047 (lv_at hl 6 rfl) ?_
  refine h_iconst F dL_law_1049 ?_
  refine h_iadd (a := i) (b := 1) F dL_law_1050 ?_
  refine h_sld (i := i + 1) F hX hbl hbA hS hL (by omega) dL_law_1051 ?_
  obtain ⟨⟨fm, hm⟩, hCM⟩ := hMo w1 hP
  refine cl_RL_181 (As := [.int (iI (px xs (i + 1)))]) (rest := []) F hl hCM hW hS hm rfl rfl ⟨Nat.le_of_ble_eq_true rfl, Nat.le_of_ble_eq_true rfl⟩ (Nat.le_of_ble_eq_true rfl) hroom dL_law_1052 (fun w2 H locs hp2 hW hS => ?_)
  obtain ⟨hST2, ⟨v9, hv9, hvk⟩, hout⟩ := hp2
  refine lv_istore (lv' := [(7, .int (iI bq)), (6, .int (iI k)), (0, .ref b), (1, .ref y), (2, .ref mo), (3, .ref ao), (4, .ref ad), (5, .int (iI i))]) F.1 F.2.1 dL_law_1055 hl (by decide) rfl (fun ls hl => ?_)
  refine lv_aload_n F.1 F.2.1 dL_law_1057 rfl (lv_at hl 4 rfl) ?_
  refine cl_RL_121 (As := []) (rest := []) F hl (c_X9_thrown l X w2 mo v9 hv9) hW hS hv9 rfl rfl ⟨Nat.le_of_ble_eq_true rfl, Nat.le_of_ble_eq_true rfl⟩ (Nat.le_of_ble_eq_true rfl) hroom dL_law_1058 (fun w3 H locs hp3 hW hS => ?_)
  rw [hp3] at hW
  refine h_top (show (v9 6 : Int) = k from hvk) ?_
  refine lv_iload F.1 F.2.1 dL_law_1061 (lv_at hl 1 rfl) ?_
  refine lv_icmp_eq (tgt := 1068) F.1 F.2.1 dL_law_1063 (by decide) (fun _ => ?_) (fun h9 => absurd rfl h9)
  refine lv_iload F.1 F.2.1 dL_law_1068 (lv_at hl 1 rfl) ?_
  refine h_ifne (a := k) (tgt := 1085) F dL_law_1070 (by decide) (by omega) (fun hne => ?_) (fun h0 => ?_)
  · skip
    refine h_goto (tgt := 2317) F dL_law_1085 (by decide) ?_
    exact kk _ _ _ _ hST2 (lv_sub hl [2, 3, 4, 5, 6, 7] rfl) hW hS
  · skip
    obtain ⟨g9, hg9, hgv9⟩ := hout h0
    refine lv_aload_n F.1 F.2.1 dL_law_1073 rfl (lv_at hl 5 rfl) ?_
    refine h_iconst F dL_law_1074 ?_
    refine h_lald F hW hg9 (by omega) (by omega) dL_law_1075 ?_
    refine h_topv (show (.long (g9 (0 : Int).toNat) : Value) = .long (iI bq).toInt64 from congrArg Value.long hgv9) ?_
    refine lv_iload F.1 F.2.1 dL_law_1076 (lv_at hl 0 rfl) ?_
    refine lv_i2l F.1 F.2.1 dL_law_1078 rfl ?_
    refine h_lsame (tgt := 1085) F dL_law_1079 rfl dL_law_1080 (by decide) ?_
    refine h_goto (tgt := 2317) F dL_law_1085 (by decide) ?_
    exact kk _ _ _ _ hST2 (lv_sub hl [2, 3, 4, 5, 6, 7] rfl) hW hS
set_option maxHeartbeats 2000000 in
set_option maxRecDepth 100000 in
theorem lc_17 {p : Program} {l : Launch} {e : Env} {s : State} {m : MethodId} {args : Array Value} {below : List Frame} {meth : Method} {c : Code} {H : Heap} {locs : List Loc} {cells slots : Nat} {Q : State → Prop} {ls : Array Slot} {X : Cx} {w : Wo} {b L y mo ao ad : Nat} {xs : Nat → Int32} {i : Int} (hst : l.stackTraces = false) (F : Fx p m c cL_law 10 s args RL) (hX : va_X b L xs s s.heap) (hbl : b < s.heap.size) (hbA : ¬ cxA X b) (hL : (L : Int) ≤ 3072) (hST : ST X w y mo ao ad) (hi : 0 ≤ i ∧ i + 6 ≤ (L : Int)) (hl : lv_has ls 10 [(0, .ref b), (1, .ref y), (2, .ref mo), (3, .ref ao), (4, .ref ad), (5, .int (iI i))]) (hW : Wd X w s H) (hS : va_S (cxA X) s.heap H locs) (hroom : cells + 1 ≤ room_1.cells ∧ slots + 6 ≤ room_1.slots) (kk : ∀ (w2 : Wo) (H2 : Heap) (locs2 : List Loc) (ls2 : Array Slot), ST X w2 y mo ao ad → lv_has ls2 10 [(0, .ref b), (1, .ref y), (2, .ref mo), (3, .ref ao), (4, .ref ad), (5, .int (iI i))] → Wd X w2 s H2 → va_S (cxA X) s.heap H2 locs2 → W p l e room_1 s m args below meth c H2 locs2 (cells + 1) (slots + 6) Q (F0 m 2317 ls2 [])) : W p l e room_1 s m args below meth c H locs cells slots Q (F0 m 1088 ls []) := by
  refine W.widen (k := cells + 1) (n := slots + 6) (by omega) (by omega) ?_
  obtain ⟨fy, hy⟩ := hST.y
  obtain ⟨bq, P9, hC, hMo⟩ := pr_longestSlit l X w y mo ao ad hST
  refine lv_aload_n F.1 F.2.1 dL_law_1088 rfl (lv_at hl 1 rfl) ?_
  refine cl_RL_182 (As := []) (rest := []) F hl hC hW hS hy rfl rfl ⟨Nat.le_of_ble_eq_true rfl, Nat.le_of_ble_eq_true rfl⟩ (Nat.le_of_ble_eq_true rfl) hroom dL_law_1089 (fun w1 H locs hP hW hS => ?_)
  refine lv_aload_n F.1 F.2.1 dL_law_1092 rfl (lv_at hl 2 rfl) ?_
  obtain ⟨⟨fm, hm⟩, hCM⟩ := hMo w1 hP
  refine cl_RL_185 (As := []) (rest := [.int (iI bq)]) F hl hCM hW hS hm rfl rfl ⟨Nat.le_of_ble_eq_true rfl, Nat.le_of_ble_eq_true rfl⟩ (Nat.le_of_ble_eq_true rfl) hroom dL_law_1093 (fun w2 H locs hp2 hW hS => ?_)
  have hST2 := hp2
  refine lv_icmp_eq (tgt := 2317) F.1 F.2.1 dL_law_1096 (by decide) (fun _ => ?_) (fun h9 => absurd rfl h9)
  exact kk _ _ _ _ hST2 (lv_sub hl [0, 1, 2, 3, 4, 5] rfl) hW hS
set_option maxHeartbeats 2000000 in
set_option maxRecDepth 100000 in
theorem lc_18 {p : Program} {l : Launch} {e : Env} {s : State} {m : MethodId} {args : Array Value} {below : List Frame} {meth : Method} {c : Code} {H : Heap} {locs : List Loc} {cells slots : Nat} {Q : State → Prop} {ls : Array Slot} {X : Cx} {w : Wo} {b L y mo ao ad : Nat} {xs : Nat → Int32} {i : Int} (hst : l.stackTraces = false) (F : Fx p m c cL_law 10 s args RL) (hX : va_X b L xs s s.heap) (hbl : b < s.heap.size) (hbA : ¬ cxA X b) (hL : (L : Int) ≤ 3072) (hST : ST X w y mo ao ad) (hi : 0 ≤ i ∧ i + 6 ≤ (L : Int)) (hl : lv_has ls 10 [(0, .ref b), (1, .ref y), (2, .ref mo), (3, .ref ao), (4, .ref ad), (5, .int (iI i))]) (hW : Wd X w s H) (hS : va_S (cxA X) s.heap H locs) (hroom : cells + 1 ≤ room_1.cells ∧ slots + 6 ≤ room_1.slots) (kk : ∀ (w2 : Wo) (H2 : Heap) (locs2 : List Loc) (ls2 : Array Slot), ST X w2 y mo ao ad → lv_has ls2 10 [(0, .ref b), (1, .ref y), (2, .ref mo), (3, .ref ao), (4, .ref ad), (5, .int (iI i))] → Wd X w2 s H2 → va_S (cxA X) s.heap H2 locs2 → W p l e room_1 s m args below meth c H2 locs2 (cells + 1) (slots + 6) Q (F0 m 2317 ls2 [])) : W p l e room_1 s m args below meth c H locs cells slots Q (F0 m 1101 ls []) := by
  refine lv_aload_n F.1 F.2.1 dL_law_1101 rfl (lv_at hl 1 rfl) ?_
  refine lv_aload_n F.1 F.2.1 dL_law_1102 rfl (lv_at hl 0 rfl) ?_
  refine lv_iload F.1 F.2.1 dL_law_1103 (lv_at hl 5 rfl) ?_
  refine h_iconst F dL_law_1105 ?_
  refine h_iadd (a := i) (b := 1) F dL_law_1106 ?_
  refine h_sld (i := i + 1) F hX hbl hbA hS hL (by omega) dL_law_1107 ?_
  refine lv_aload_n F.1 F.2.1 dL_law_1108 rfl (lv_at hl 3 rfl) ?_
  obtain ⟨k, bq, P9, hk, hH, hMo⟩ := pr_account l X w y mo ao ad hst hST (px xs (i + 1))  (px_r xs (i + 1))
  refine cs_RL_186 (As := [.ref y, .int (iI (px xs (i + 1))), .ref ao]) (rest := []) F hl hH hW hS rfl rfl ⟨Nat.le_of_ble_eq_true rfl, Nat.le_of_ble_eq_true rfl⟩ (Nat.le_of_ble_eq_true rfl) hroom dL_law_1109 (fun w1 H locs hP hW hS => ?_)
  refine lv_istore (lv' := [(6, .int (iI k)), (0, .ref b), (1, .ref y), (2, .ref mo), (3, .ref ao), (4, .ref ad), (5, .int (iI i))]) F.1 F.2.1 dL_law_1112 hl (by decide) rfl (fun ls hl => ?_)
  refine lv_aload_n F.1 F.2.1 dL_law_1114 rfl (lv_at hl 3 rfl) ?_
  refine lv_aload_n F.1 F.2.1 dL_law_1115 rfl (lv_at hl 1 rfl) ?_
  refine lv_iload F.1 F.2.1 dL_law_1116 (lv_at hl 6 rfl) ?_
  refine h_iconst F dL_law_1118 ?_
  refine h_iadd (a := i) (b := 1) F dL_law_1119 ?_
  refine h_sld (i := i + 1) F hX hbl hbA hS hL (by omega) dL_law_1120 ?_
  obtain ⟨⟨fm, hm⟩, hCM⟩ := hMo w1 hP
  refine cl_RL_188 (As := [.int (iI (px xs (i + 1)))]) (rest := []) F hl hCM hW hS hm rfl rfl ⟨Nat.le_of_ble_eq_true rfl, Nat.le_of_ble_eq_true rfl⟩ (Nat.le_of_ble_eq_true rfl) hroom dL_law_1121 (fun w2 H locs hp2 hW hS => ?_)
  obtain ⟨hST2, ⟨v9, hv9, hvk⟩, hout⟩ := hp2
  refine lv_istore (lv' := [(7, .int (iI bq)), (6, .int (iI k)), (0, .ref b), (1, .ref y), (2, .ref mo), (3, .ref ao), (4, .ref ad), (5, .int (iI i))]) F.1 F.2.1 dL_law_1124 hl (by decide) rfl (fun ls hl => ?_)
  refine lv_aload_n F.1 F.2.1 dL_law_1126 rfl (lv_at hl 4 rfl) ?_
  refine cl_RL_121 (As := []) (rest := []) F hl (c_X9_thrown l X w2 mo v9 hv9) hW hS hv9 rfl rfl ⟨Nat.le_of_ble_eq_true rfl, Nat.le_of_ble_eq_true rfl⟩ (Nat.le_of_ble_eq_true rfl) hroom dL_law_1127 (fun w3 H locs hp3 hW hS => ?_)
  rw [hp3] at hW
  refine h_top (show (v9 6 : Int) = k from hvk) ?_
  refine lv_iload F.1 F.2.1 dL_law_1130 (lv_at hl 1 rfl) ?_
  refine lv_icmp_eq (tgt := 1137) F.1 F.2.1 dL_law_1132 (by decide) (fun _ => ?_) (fun h9 => absurd rfl h9)
  refine lv_iload F.1 F.2.1 dL_law_1137 (lv_at hl 1 rfl) ?_
  refine h_ifne (a := k) (tgt := 1154) F dL_law_1139 (by decide) (by omega) (fun hne => ?_) (fun h0 => ?_)
  · skip
    refine h_goto (tgt := 2317) F dL_law_1154 (by decide) ?_
    exact kk _ _ _ _ hST2 (lv_sub hl [2, 3, 4, 5, 6, 7] rfl) hW hS
  · skip
    obtain ⟨g9, hg9, hgv9⟩ := hout h0
    refine lv_aload_n F.1 F.2.1 dL_law_1142 rfl (lv_at hl 5 rfl) ?_
    refine h_iconst F dL_law_1143 ?_
    refine h_lald F hW hg9 (by omega) (by omega) dL_law_1144 ?_
    refine h_topv (show (.long (g9 (0 : Int).toNat) : Value) = .long (iI bq).toInt64 from congrArg Value.long hgv9) ?_
    refine lv_iload F.1 F.2.1 dL_law_1145 (lv_at hl 0 rfl) ?_
    refine lv_i2l F.1 F.2.1 dL_law_1147 rfl ?_
    refine h_lsame (tgt := 1154) F dL_law_1148 rfl dL_law_1149 (by decide) ?_
    refine h_goto (tgt := 2317) F dL_law_1154 (by decide) ?_
    exact kk _ _ _ _ hST2 (lv_sub hl [2, 3, 4, 5, 6, 7] rfl) hW hS
set_option maxHeartbeats 2000000 in
set_option maxRecDepth 100000 in
theorem lc_19 {p : Program} {l : Launch} {e : Env} {s : State} {m : MethodId} {args : Array Value} {below : List Frame} {meth : Method} {c : Code} {H : Heap} {locs : List Loc} {cells slots : Nat} {Q : State → Prop} {ls : Array Slot} {X : Cx} {w : Wo} {b L y mo ao ad : Nat} {xs : Nat → Int32} {i : Int} (hst : l.stackTraces = false) (F : Fx p m c cL_law 10 s args RL) (hX : va_X b L xs s s.heap) (hbl : b < s.heap.size) (hbA : ¬ cxA X b) (hL : (L : Int) ≤ 3072) (hST : ST X w y mo ao ad) (hi : 0 ≤ i ∧ i + 6 ≤ (L : Int)) (hl : lv_has ls 10 [(0, .ref b), (1, .ref y), (2, .ref mo), (3, .ref ao), (4, .ref ad), (5, .int (iI i))]) (hW : Wd X w s H) (hS : va_S (cxA X) s.heap H locs) (hroom : cells + 1 ≤ room_1.cells ∧ slots + 6 ≤ room_1.slots) (kk : ∀ (w2 : Wo) (H2 : Heap) (locs2 : List Loc) (ls2 : Array Slot), ST X w2 y mo ao ad → lv_has ls2 10 [(0, .ref b), (1, .ref y), (2, .ref mo), (3, .ref ao), (4, .ref ad), (5, .int (iI i))] → Wd X w2 s H2 → va_S (cxA X) s.heap H2 locs2 → W p l e room_1 s m args below meth c H2 locs2 (cells + 1) (slots + 6) Q (F0 m 2317 ls2 [])) : W p l e room_1 s m args below meth c H locs cells slots Q (F0 m 1157 ls []) := by
  refine W.widen (k := cells + 1) (n := slots + 6) (by omega) (by omega) ?_
  obtain ⟨fy, hy⟩ := hST.y
  obtain ⟨bq, P9, hC, hMo⟩ := pr_lasts l X w y mo ao ad hST
  refine lv_aload_n F.1 F.2.1 dL_law_1157 rfl (lv_at hl 1 rfl) ?_
  refine cl_RL_189 (As := []) (rest := []) F hl hC hW hS hy rfl rfl ⟨Nat.le_of_ble_eq_true rfl, Nat.le_of_ble_eq_true rfl⟩ (Nat.le_of_ble_eq_true rfl) hroom dL_law_1158 (fun w1 H locs hP hW hS => ?_)
  refine lv_aload_n F.1 F.2.1 dL_law_1161 rfl (lv_at hl 2 rfl) ?_
  obtain ⟨⟨fm, hm⟩, hCM⟩ := hMo w1 hP
  refine cl_RL_192 (As := []) (rest := [.int (iI bq)]) F hl hCM hW hS hm rfl rfl ⟨Nat.le_of_ble_eq_true rfl, Nat.le_of_ble_eq_true rfl⟩ (Nat.le_of_ble_eq_true rfl) hroom dL_law_1162 (fun w2 H locs hp2 hW hS => ?_)
  have hST2 := hp2
  refine lv_icmp_eq (tgt := 2317) F.1 F.2.1 dL_law_1165 (by decide) (fun _ => ?_) (fun h9 => absurd rfl h9)
  exact kk _ _ _ _ hST2 (lv_sub hl [0, 1, 2, 3, 4, 5] rfl) hW hS
set_option maxHeartbeats 2000000 in
set_option maxRecDepth 100000 in
theorem lc_20 {p : Program} {l : Launch} {e : Env} {s : State} {m : MethodId} {args : Array Value} {below : List Frame} {meth : Method} {c : Code} {H : Heap} {locs : List Loc} {cells slots : Nat} {Q : State → Prop} {ls : Array Slot} {X : Cx} {w : Wo} {b L y mo ao ad : Nat} {xs : Nat → Int32} {i : Int} (hst : l.stackTraces = false) (F : Fx p m c cL_law 10 s args RL) (hX : va_X b L xs s s.heap) (hbl : b < s.heap.size) (hbA : ¬ cxA X b) (hL : (L : Int) ≤ 3072) (hST : ST X w y mo ao ad) (hi : 0 ≤ i ∧ i + 6 ≤ (L : Int)) (hl : lv_has ls 10 [(0, .ref b), (1, .ref y), (2, .ref mo), (3, .ref ao), (4, .ref ad), (5, .int (iI i))]) (hW : Wd X w s H) (hS : va_S (cxA X) s.heap H locs) (hroom : cells + 1 ≤ room_1.cells ∧ slots + 6 ≤ room_1.slots) (kk : ∀ (w2 : Wo) (H2 : Heap) (locs2 : List Loc) (ls2 : Array Slot), ST X w2 y mo ao ad → lv_has ls2 10 [(0, .ref b), (1, .ref y), (2, .ref mo), (3, .ref ao), (4, .ref ad), (5, .int (iI i))] → Wd X w2 s H2 → va_S (cxA X) s.heap H2 locs2 → W p l e room_1 s m args below meth c H2 locs2 (cells + 1) (slots + 6) Q (F0 m 2317 ls2 [])) : W p l e room_1 s m args below meth c H locs cells slots Q (F0 m 1170 ls []) := by
  refine lv_aload_n F.1 F.2.1 dL_law_1170 rfl (lv_at hl 1 rfl) ?_
  refine lv_aload_n F.1 F.2.1 dL_law_1171 rfl (lv_at hl 0 rfl) ?_
  refine lv_iload F.1 F.2.1 dL_law_1172 (lv_at hl 5 rfl) ?_
  refine h_iconst F dL_law_1174 ?_
  refine h_iadd (a := i) (b := 1) F dL_law_1175 ?_
  refine h_sld (i := i + 1) F hX hbl hbA hS hL (by omega) dL_law_1176 ?_
  refine lv_aload_n F.1 F.2.1 dL_law_1177 rfl (lv_at hl 3 rfl) ?_
  obtain ⟨k, bq, P9, hk, hH, hMo⟩ := pr_minutes l X w y mo ao ad hst hST (px xs (i + 1))  (px_r xs (i + 1))
  refine cs_RL_193 (As := [.ref y, .int (iI (px xs (i + 1))), .ref ao]) (rest := []) F hl hH hW hS rfl rfl ⟨Nat.le_of_ble_eq_true rfl, Nat.le_of_ble_eq_true rfl⟩ (Nat.le_of_ble_eq_true rfl) hroom dL_law_1178 (fun w1 H locs hP hW hS => ?_)
  refine lv_istore (lv' := [(6, .int (iI k)), (0, .ref b), (1, .ref y), (2, .ref mo), (3, .ref ao), (4, .ref ad), (5, .int (iI i))]) F.1 F.2.1 dL_law_1181 hl (by decide) rfl (fun ls hl => ?_)
  refine lv_aload_n F.1 F.2.1 dL_law_1183 rfl (lv_at hl 3 rfl) ?_
  refine lv_aload_n F.1 F.2.1 dL_law_1184 rfl (lv_at hl 1 rfl) ?_
  refine lv_iload F.1 F.2.1 dL_law_1185 (lv_at hl 6 rfl) ?_
  refine h_iconst F dL_law_1187 ?_
  refine h_iadd (a := i) (b := 1) F dL_law_1188 ?_
  refine h_sld (i := i + 1) F hX hbl hbA hS hL (by omega) dL_law_1189 ?_
  obtain ⟨⟨fm, hm⟩, hCM⟩ := hMo w1 hP
  refine cl_RL_195 (As := [.int (iI (px xs (i + 1)))]) (rest := []) F hl hCM hW hS hm rfl rfl ⟨Nat.le_of_ble_eq_true rfl, Nat.le_of_ble_eq_true rfl⟩ (Nat.le_of_ble_eq_true rfl) hroom dL_law_1190 (fun w2 H locs hp2 hW hS => ?_)
  obtain ⟨hST2, ⟨v9, hv9, hvk⟩, hout⟩ := hp2
  refine lv_istore (lv' := [(7, .int (iI bq)), (6, .int (iI k)), (0, .ref b), (1, .ref y), (2, .ref mo), (3, .ref ao), (4, .ref ad), (5, .int (iI i))]) F.1 F.2.1 dL_law_1193 hl (by decide) rfl (fun ls hl => ?_)
  refine lv_aload_n F.1 F.2.1 dL_law_1195 rfl (lv_at hl 4 rfl) ?_
  refine cl_RL_121 (As := []) (rest := []) F hl (c_X9_thrown l X w2 mo v9 hv9) hW hS hv9 rfl rfl ⟨Nat.le_of_ble_eq_true rfl, Nat.le_of_ble_eq_true rfl⟩ (Nat.le_of_ble_eq_true rfl) hroom dL_law_1196 (fun w3 H locs hp3 hW hS => ?_)
  rw [hp3] at hW
  refine h_top (show (v9 6 : Int) = k from hvk) ?_
  refine lv_iload F.1 F.2.1 dL_law_1199 (lv_at hl 1 rfl) ?_
  refine lv_icmp_eq (tgt := 1206) F.1 F.2.1 dL_law_1201 (by decide) (fun _ => ?_) (fun h9 => absurd rfl h9)
  refine lv_iload F.1 F.2.1 dL_law_1206 (lv_at hl 1 rfl) ?_
  refine h_ifne (a := k) (tgt := 1223) F dL_law_1208 (by decide) (by omega) (fun hne => ?_) (fun h0 => ?_)
  · skip
    refine h_goto (tgt := 2317) F dL_law_1223 (by decide) ?_
    exact kk _ _ _ _ hST2 (lv_sub hl [2, 3, 4, 5, 6, 7] rfl) hW hS
  · skip
    obtain ⟨g9, hg9, hgv9⟩ := hout h0
    refine lv_aload_n F.1 F.2.1 dL_law_1211 rfl (lv_at hl 5 rfl) ?_
    refine h_iconst F dL_law_1212 ?_
    refine h_lald F hW hg9 (by omega) (by omega) dL_law_1213 ?_
    refine h_topv (show (.long (g9 (0 : Int).toNat) : Value) = .long (iI bq).toInt64 from congrArg Value.long hgv9) ?_
    refine lv_iload F.1 F.2.1 dL_law_1214 (lv_at hl 0 rfl) ?_
    refine lv_i2l F.1 F.2.1 dL_law_1216 rfl ?_
    refine h_lsame (tgt := 1223) F dL_law_1217 rfl dL_law_1218 (by decide) ?_
    refine h_goto (tgt := 2317) F dL_law_1223 (by decide) ?_
    exact kk _ _ _ _ hST2 (lv_sub hl [2, 3, 4, 5, 6, 7] rfl) hW hS
set_option maxHeartbeats 2000000 in
set_option maxRecDepth 100000 in
theorem lc_21 {p : Program} {l : Launch} {e : Env} {s : State} {m : MethodId} {args : Array Value} {below : List Frame} {meth : Method} {c : Code} {H : Heap} {locs : List Loc} {cells slots : Nat} {Q : State → Prop} {ls : Array Slot} {X : Cx} {w : Wo} {b L y mo ao ad : Nat} {xs : Nat → Int32} {i : Int} (hst : l.stackTraces = false) (F : Fx p m c cL_law 10 s args RL) (hX : va_X b L xs s s.heap) (hbl : b < s.heap.size) (hbA : ¬ cxA X b) (hL : (L : Int) ≤ 3072) (hST : ST X w y mo ao ad) (hi : 0 ≤ i ∧ i + 6 ≤ (L : Int)) (hl : lv_has ls 10 [(0, .ref b), (1, .ref y), (2, .ref mo), (3, .ref ao), (4, .ref ad), (5, .int (iI i))]) (hW : Wd X w s H) (hS : va_S (cxA X) s.heap H locs) (hroom : cells + 1 ≤ room_1.cells ∧ slots + 6 ≤ room_1.slots) (kk : ∀ (w2 : Wo) (H2 : Heap) (locs2 : List Loc) (ls2 : Array Slot), ST X w2 y mo ao ad → lv_has ls2 10 [(0, .ref b), (1, .ref y), (2, .ref mo), (3, .ref ao), (4, .ref ad), (5, .int (iI i))] → Wd X w2 s H2 → va_S (cxA X) s.heap H2 locs2 → W p l e room_1 s m args below meth c H2 locs2 (cells + 1) (slots + 6) Q (F0 m 2317 ls2 [])) : W p l e room_1 s m args below meth c H locs cells slots Q (F0 m 1226 ls []) := by
  refine lv_aload_n F.1 F.2.1 dL_law_1226 rfl (lv_at hl 1 rfl) ?_
  refine lv_aload_n F.1 F.2.1 dL_law_1227 rfl (lv_at hl 0 rfl) ?_
  refine lv_iload F.1 F.2.1 dL_law_1228 (lv_at hl 5 rfl) ?_
  refine h_iconst F dL_law_1230 ?_
  refine h_iadd (a := i) (b := 1) F dL_law_1231 ?_
  refine h_sld (i := i + 1) F hX hbl hbA hS hL (by omega) dL_law_1232 ?_
  refine lv_aload_n F.1 F.2.1 dL_law_1233 rfl (lv_at hl 3 rfl) ?_
  obtain ⟨k, bq, P9, hk, hH, hMo⟩ := pr_wouldErr l X w y mo ao ad hst hST (px xs (i + 1))  (px_r xs (i + 1))
  refine cs_RL_196 (As := [.ref y, .int (iI (px xs (i + 1))), .ref ao]) (rest := []) F hl hH hW hS rfl rfl ⟨Nat.le_of_ble_eq_true rfl, Nat.le_of_ble_eq_true rfl⟩ (Nat.le_of_ble_eq_true rfl) hroom dL_law_1234 (fun w1 H locs hP hW hS => ?_)
  refine lv_istore (lv' := [(6, .int (iI k)), (0, .ref b), (1, .ref y), (2, .ref mo), (3, .ref ao), (4, .ref ad), (5, .int (iI i))]) F.1 F.2.1 dL_law_1237 hl (by decide) rfl (fun ls hl => ?_)
  refine lv_aload_n F.1 F.2.1 dL_law_1239 rfl (lv_at hl 3 rfl) ?_
  refine lv_aload_n F.1 F.2.1 dL_law_1240 rfl (lv_at hl 1 rfl) ?_
  refine lv_iload F.1 F.2.1 dL_law_1241 (lv_at hl 6 rfl) ?_
  refine h_iconst F dL_law_1243 ?_
  refine h_iadd (a := i) (b := 1) F dL_law_1244 ?_
  refine h_sld (i := i + 1) F hX hbl hbA hS hL (by omega) dL_law_1245 ?_
  obtain ⟨⟨fm, hm⟩, hCM⟩ := hMo w1 hP
  refine cl_RL_198 (As := [.int (iI (px xs (i + 1)))]) (rest := []) F hl hCM hW hS hm rfl rfl ⟨Nat.le_of_ble_eq_true rfl, Nat.le_of_ble_eq_true rfl⟩ (Nat.le_of_ble_eq_true rfl) hroom dL_law_1246 (fun w2 H locs hp2 hW hS => ?_)
  obtain ⟨hST2, ⟨v9, hv9, hvk⟩, hout⟩ := hp2
  refine lv_istore (lv' := [(7, .int (iI bq)), (6, .int (iI k)), (0, .ref b), (1, .ref y), (2, .ref mo), (3, .ref ao), (4, .ref ad), (5, .int (iI i))]) F.1 F.2.1 dL_law_1249 hl (by decide) rfl (fun ls hl => ?_)
  refine lv_aload_n F.1 F.2.1 dL_law_1251 rfl (lv_at hl 4 rfl) ?_
  refine cl_RL_121 (As := []) (rest := []) F hl (c_X9_thrown l X w2 mo v9 hv9) hW hS hv9 rfl rfl ⟨Nat.le_of_ble_eq_true rfl, Nat.le_of_ble_eq_true rfl⟩ (Nat.le_of_ble_eq_true rfl) hroom dL_law_1252 (fun w3 H locs hp3 hW hS => ?_)
  rw [hp3] at hW
  refine h_top (show (v9 6 : Int) = k from hvk) ?_
  refine lv_iload F.1 F.2.1 dL_law_1255 (lv_at hl 1 rfl) ?_
  refine lv_icmp_eq (tgt := 1262) F.1 F.2.1 dL_law_1257 (by decide) (fun _ => ?_) (fun h9 => absurd rfl h9)
  refine lv_iload F.1 F.2.1 dL_law_1262 (lv_at hl 1 rfl) ?_
  refine h_ifne (a := k) (tgt := 1279) F dL_law_1264 (by decide) (by omega) (fun hne => ?_) (fun h0 => ?_)
  · skip
    refine h_goto (tgt := 2317) F dL_law_1279 (by decide) ?_
    exact kk _ _ _ _ hST2 (lv_sub hl [2, 3, 4, 5, 6, 7] rfl) hW hS
  · skip
    obtain ⟨g9, hg9, hgv9⟩ := hout h0
    refine lv_aload_n F.1 F.2.1 dL_law_1267 rfl (lv_at hl 5 rfl) ?_
    refine h_iconst F dL_law_1268 ?_
    refine h_lald F hW hg9 (by omega) (by omega) dL_law_1269 ?_
    refine h_topv (show (.long (g9 (0 : Int).toNat) : Value) = .long (iI bq).toInt64 from congrArg Value.long hgv9) ?_
    refine lv_iload F.1 F.2.1 dL_law_1270 (lv_at hl 0 rfl) ?_
    refine lv_i2l F.1 F.2.1 dL_law_1272 rfl ?_
    refine h_lsame (tgt := 1279) F dL_law_1273 rfl dL_law_1274 (by decide) ?_
    refine h_goto (tgt := 2317) F dL_law_1279 (by decide) ?_
    exact kk _ _ _ _ hST2 (lv_sub hl [2, 3, 4, 5, 6, 7] rfl) hW hS
set_option maxHeartbeats 2000000 in
set_option maxRecDepth 100000 in
theorem lc_22 {p : Program} {l : Launch} {e : Env} {s : State} {m : MethodId} {args : Array Value} {below : List Frame} {meth : Method} {c : Code} {H : Heap} {locs : List Loc} {cells slots : Nat} {Q : State → Prop} {ls : Array Slot} {X : Cx} {w : Wo} {b L y mo ao ad : Nat} {xs : Nat → Int32} {i : Int} (hst : l.stackTraces = false) (F : Fx p m c cL_law 10 s args RL) (hX : va_X b L xs s s.heap) (hbl : b < s.heap.size) (hbA : ¬ cxA X b) (hL : (L : Int) ≤ 3072) (hST : ST X w y mo ao ad) (hi : 0 ≤ i ∧ i + 6 ≤ (L : Int)) (hl : lv_has ls 10 [(0, .ref b), (1, .ref y), (2, .ref mo), (3, .ref ao), (4, .ref ad), (5, .int (iI i))]) (hW : Wd X w s H) (hS : va_S (cxA X) s.heap H locs) (hroom : cells + 1 ≤ room_1.cells ∧ slots + 6 ≤ room_1.slots) (kk : ∀ (w2 : Wo) (H2 : Heap) (locs2 : List Loc) (ls2 : Array Slot), ST X w2 y mo ao ad → lv_has ls2 10 [(0, .ref b), (1, .ref y), (2, .ref mo), (3, .ref ao), (4, .ref ad), (5, .int (iI i))] → Wd X w2 s H2 → va_S (cxA X) s.heap H2 locs2 → W p l e room_1 s m args below meth c H2 locs2 (cells + 1) (slots + 6) Q (F0 m 2317 ls2 [])) : W p l e room_1 s m args below meth c H locs cells slots Q (F0 m 1282 ls []) := by
  refine lv_aload_n F.1 F.2.1 dL_law_1282 rfl (lv_at hl 1 rfl) ?_
  refine lv_aload_n F.1 F.2.1 dL_law_1283 rfl (lv_at hl 0 rfl) ?_
  refine lv_iload F.1 F.2.1 dL_law_1284 (lv_at hl 5 rfl) ?_
  refine h_iconst F dL_law_1286 ?_
  refine h_iadd (a := i) (b := 1) F dL_law_1287 ?_
  refine h_sld (i := i + 1) F hX hbl hbA hS hL (by omega) dL_law_1288 ?_
  refine lv_aload_n F.1 F.2.1 dL_law_1289 rfl (lv_at hl 0 rfl) ?_
  refine lv_iload F.1 F.2.1 dL_law_1290 (lv_at hl 5 rfl) ?_
  refine h_iconst F dL_law_1292 ?_
  refine h_iadd (a := i) (b := 2) F dL_law_1293 ?_
  refine h_sld (i := i + 2) F hX hbl hbA hS hL (by omega) dL_law_1294 ?_
  refine lv_aload_n F.1 F.2.1 dL_law_1295 rfl (lv_at hl 3 rfl) ?_
  obtain ⟨k, bq, P9, hk, hH, hMo⟩ := pr_place l X w y mo ao ad hst hST (px xs (i + 1)) (px xs (i + 2))  (px_r xs (i + 1)) (px_r xs (i + 2))
  refine cs_RL_199 (As := [.ref y, .int (iI (px xs (i + 1))), .int (iI (px xs (i + 2))), .ref ao]) (rest := []) F hl hH hW hS rfl rfl ⟨Nat.le_of_ble_eq_true rfl, Nat.le_of_ble_eq_true rfl⟩ (Nat.le_of_ble_eq_true rfl) hroom dL_law_1296 (fun w1 H locs hP hW hS => ?_)
  refine lv_istore (lv' := [(6, .int (iI k)), (0, .ref b), (1, .ref y), (2, .ref mo), (3, .ref ao), (4, .ref ad), (5, .int (iI i))]) F.1 F.2.1 dL_law_1299 hl (by decide) rfl (fun ls hl => ?_)
  refine lv_aload_n F.1 F.2.1 dL_law_1301 rfl (lv_at hl 3 rfl) ?_
  refine lv_aload_n F.1 F.2.1 dL_law_1302 rfl (lv_at hl 1 rfl) ?_
  refine lv_iload F.1 F.2.1 dL_law_1303 (lv_at hl 6 rfl) ?_
  refine h_iconst F dL_law_1305 ?_
  refine h_iadd (a := i) (b := 1) F dL_law_1306 ?_
  refine h_sld (i := i + 1) F hX hbl hbA hS hL (by omega) dL_law_1307 ?_
  refine lv_aload_n F.1 F.2.1 dL_law_1308 rfl (lv_at hl 1 rfl) ?_
  refine lv_iload F.1 F.2.1 dL_law_1309 (lv_at hl 6 rfl) ?_
  refine h_iconst F dL_law_1311 ?_
  refine h_iadd (a := i) (b := 2) F dL_law_1312 ?_
  refine h_sld (i := i + 2) F hX hbl hbA hS hL (by omega) dL_law_1313 ?_
  obtain ⟨⟨fm, hm⟩, hCM⟩ := hMo w1 hP
  refine cl_RL_201 (As := [.int (iI (px xs (i + 1))), .int (iI (px xs (i + 2)))]) (rest := []) F hl hCM hW hS hm rfl rfl ⟨Nat.le_of_ble_eq_true rfl, Nat.le_of_ble_eq_true rfl⟩ (Nat.le_of_ble_eq_true rfl) hroom dL_law_1314 (fun w2 H locs hp2 hW hS => ?_)
  obtain ⟨hST2, ⟨v9, hv9, hvk⟩, hout⟩ := hp2
  refine lv_istore (lv' := [(7, .int (iI bq)), (6, .int (iI k)), (0, .ref b), (1, .ref y), (2, .ref mo), (3, .ref ao), (4, .ref ad), (5, .int (iI i))]) F.1 F.2.1 dL_law_1317 hl (by decide) rfl (fun ls hl => ?_)
  refine lv_aload_n F.1 F.2.1 dL_law_1319 rfl (lv_at hl 4 rfl) ?_
  refine cl_RL_121 (As := []) (rest := []) F hl (c_X9_thrown l X w2 mo v9 hv9) hW hS hv9 rfl rfl ⟨Nat.le_of_ble_eq_true rfl, Nat.le_of_ble_eq_true rfl⟩ (Nat.le_of_ble_eq_true rfl) hroom dL_law_1320 (fun w3 H locs hp3 hW hS => ?_)
  rw [hp3] at hW
  refine h_top (show (v9 6 : Int) = k from hvk) ?_
  refine lv_iload F.1 F.2.1 dL_law_1323 (lv_at hl 1 rfl) ?_
  refine lv_icmp_eq (tgt := 1330) F.1 F.2.1 dL_law_1325 (by decide) (fun _ => ?_) (fun h9 => absurd rfl h9)
  refine lv_iload F.1 F.2.1 dL_law_1330 (lv_at hl 1 rfl) ?_
  refine h_ifne (a := k) (tgt := 1347) F dL_law_1332 (by decide) (by omega) (fun hne => ?_) (fun h0 => ?_)
  · skip
    refine h_goto (tgt := 2317) F dL_law_1347 (by decide) ?_
    exact kk _ _ _ _ hST2 (lv_sub hl [2, 3, 4, 5, 6, 7] rfl) hW hS
  · skip
    obtain ⟨g9, hg9, hgv9⟩ := hout h0
    refine lv_aload_n F.1 F.2.1 dL_law_1335 rfl (lv_at hl 5 rfl) ?_
    refine h_iconst F dL_law_1336 ?_
    refine h_lald F hW hg9 (by omega) (by omega) dL_law_1337 ?_
    refine h_topv (show (.long (g9 (0 : Int).toNat) : Value) = .long (iI bq).toInt64 from congrArg Value.long hgv9) ?_
    refine lv_iload F.1 F.2.1 dL_law_1338 (lv_at hl 0 rfl) ?_
    refine lv_i2l F.1 F.2.1 dL_law_1340 rfl ?_
    refine h_lsame (tgt := 1347) F dL_law_1341 rfl dL_law_1342 (by decide) ?_
    refine h_goto (tgt := 2317) F dL_law_1347 (by decide) ?_
    exact kk _ _ _ _ hST2 (lv_sub hl [2, 3, 4, 5, 6, 7] rfl) hW hS
set_option maxHeartbeats 2000000 in
set_option maxRecDepth 100000 in
theorem lc_23 {p : Program} {l : Launch} {e : Env} {s : State} {m : MethodId} {args : Array Value} {below : List Frame} {meth : Method} {c : Code} {H : Heap} {locs : List Loc} {cells slots : Nat} {Q : State → Prop} {ls : Array Slot} {X : Cx} {w : Wo} {b L y mo ao ad : Nat} {xs : Nat → Int32} {i : Int} (hst : l.stackTraces = false) (F : Fx p m c cL_law 10 s args RL) (hX : va_X b L xs s s.heap) (hbl : b < s.heap.size) (hbA : ¬ cxA X b) (hL : (L : Int) ≤ 3072) (hST : ST X w y mo ao ad) (hi : 0 ≤ i ∧ i + 6 ≤ (L : Int)) (hl : lv_has ls 10 [(0, .ref b), (1, .ref y), (2, .ref mo), (3, .ref ao), (4, .ref ad), (5, .int (iI i))]) (hW : Wd X w s H) (hS : va_S (cxA X) s.heap H locs) (hroom : cells + 1 ≤ room_1.cells ∧ slots + 6 ≤ room_1.slots) (kk : ∀ (w2 : Wo) (H2 : Heap) (locs2 : List Loc) (ls2 : Array Slot), ST X w2 y mo ao ad → lv_has ls2 10 [(0, .ref b), (1, .ref y), (2, .ref mo), (3, .ref ao), (4, .ref ad), (5, .int (iI i))] → Wd X w2 s H2 → va_S (cxA X) s.heap H2 locs2 → W p l e room_1 s m args below meth c H2 locs2 (cells + 1) (slots + 6) Q (F0 m 2317 ls2 [])) : W p l e room_1 s m args below meth c H locs cells slots Q (F0 m 1350 ls []) := by
  refine lv_aload_n F.1 F.2.1 dL_law_1350 rfl (lv_at hl 1 rfl) ?_
  refine lv_aload_n F.1 F.2.1 dL_law_1351 rfl (lv_at hl 0 rfl) ?_
  refine lv_iload F.1 F.2.1 dL_law_1352 (lv_at hl 5 rfl) ?_
  refine h_iconst F dL_law_1354 ?_
  refine h_iadd (a := i) (b := 1) F dL_law_1355 ?_
  refine h_sld (i := i + 1) F hX hbl hbA hS hL (by omega) dL_law_1356 ?_
  refine lv_aload F.1 F.2.1 dL_law_1357 (lv_at hl 4 rfl) ?_
  obtain ⟨k, bq, P9, hk, hH, hMo⟩ := pr_share l X w y mo ao ad hst hST (px xs (i + 1))  (px_r xs (i + 1))
  refine cs_RL_202 (As := [.ref y, .int (iI (px xs (i + 1))), .ref ad]) (rest := []) F hl hH hW hS rfl rfl ⟨Nat.le_of_ble_eq_true rfl, Nat.le_of_ble_eq_true rfl⟩ (Nat.le_of_ble_eq_true rfl) hroom dL_law_1359 (fun w1 H locs hP hW hS => ?_)
  refine lv_istore (lv' := [(6, .int (iI k)), (0, .ref b), (1, .ref y), (2, .ref mo), (3, .ref ao), (4, .ref ad), (5, .int (iI i))]) F.1 F.2.1 dL_law_1362 hl (by decide) rfl (fun ls hl => ?_)
  refine lv_aload_n F.1 F.2.1 dL_law_1364 rfl (lv_at hl 3 rfl) ?_
  refine lv_aload_n F.1 F.2.1 dL_law_1365 rfl (lv_at hl 1 rfl) ?_
  refine lv_iload F.1 F.2.1 dL_law_1366 (lv_at hl 6 rfl) ?_
  refine h_iconst F dL_law_1368 ?_
  refine h_iadd (a := i) (b := 1) F dL_law_1369 ?_
  refine h_sld (i := i + 1) F hX hbl hbA hS hL (by omega) dL_law_1370 ?_
  obtain ⟨⟨fm, hm⟩, hCM⟩ := hMo w1 hP
  refine cl_RL_205 (As := [.int (iI (px xs (i + 1)))]) (rest := []) F hl hCM hW hS hm rfl rfl ⟨Nat.le_of_ble_eq_true rfl, Nat.le_of_ble_eq_true rfl⟩ (Nat.le_of_ble_eq_true rfl) hroom dL_law_1371 (fun w2 H locs hp2 hW hS => ?_)
  obtain ⟨hST2, ⟨v9, hv9, hvk⟩, hout⟩ := hp2
  refine lv_fstore (lv' := [(7, .float bq), (6, .int (iI k)), (0, .ref b), (1, .ref y), (2, .ref mo), (3, .ref ao), (4, .ref ad), (5, .int (iI i))]) F.1 F.2.1 dL_law_1374 hl (by decide) rfl (fun ls hl => ?_)
  refine lv_aload_n F.1 F.2.1 dL_law_1376 rfl (lv_at hl 4 rfl) ?_
  refine cl_RL_121 (As := []) (rest := []) F hl (c_X9_thrown l X w2 mo v9 hv9) hW hS hv9 rfl rfl ⟨Nat.le_of_ble_eq_true rfl, Nat.le_of_ble_eq_true rfl⟩ (Nat.le_of_ble_eq_true rfl) hroom dL_law_1377 (fun w3 H locs hp3 hW hS => ?_)
  rw [hp3] at hW
  refine h_top (show (v9 6 : Int) = k from hvk) ?_
  refine lv_iload F.1 F.2.1 dL_law_1380 (lv_at hl 1 rfl) ?_
  refine lv_icmp_eq (tgt := 1387) F.1 F.2.1 dL_law_1382 (by decide) (fun _ => ?_) (fun h9 => absurd rfl h9)
  refine lv_iload F.1 F.2.1 dL_law_1387 (lv_at hl 1 rfl) ?_
  refine h_ifne (a := k) (tgt := 1425) F dL_law_1389 (by decide) (by omega) (fun hne => ?_) (fun h0 => ?_)
  · skip
    refine h_goto (tgt := 2317) F dL_law_1425 (by decide) ?_
    exact kk _ _ _ _ hST2 (lv_sub hl [2, 3, 4, 5, 6, 7] rfl) hW hS
  · skip
    obtain ⟨hbn, g9, hg9, hgv9⟩ := hout h0
    refine lv_aload F.1 F.2.1 dL_law_1392 (lv_at hl 6 rfl) ?_
    refine h_iconst F dL_law_1394 ?_
    refine h_dald F hW hg9 (by omega) (by omega) dL_law_1395 ?_
    refine h_topv (show (.double (g9 (0 : Int).toNat) : Value) = .double (FP.f2d bq) from congrArg Value.double hgv9) ?_
    refine lv_fload F.1 F.2.1 dL_law_1396 (lv_at hl 0 rfl) ?_
    refine lv_f2d F.1 F.2.1 dL_law_1398 hbn ?_
    refine h_dsame (tgt := 1425) F hbn dL_law_1399 rfl dL_law_1400 (by decide) ?_
    refine h_goto (tgt := 2317) F dL_law_1425 (by decide) ?_
    exact kk _ _ _ _ hST2 (lv_sub hl [2, 3, 4, 5, 6, 7] rfl) hW hS
set_option maxHeartbeats 2000000 in
set_option maxRecDepth 100000 in
theorem lc_24 {p : Program} {l : Launch} {e : Env} {s : State} {m : MethodId} {args : Array Value} {below : List Frame} {meth : Method} {c : Code} {H : Heap} {locs : List Loc} {cells slots : Nat} {Q : State → Prop} {ls : Array Slot} {X : Cx} {w : Wo} {b L y mo ao ad : Nat} {xs : Nat → Int32} {i : Int} (hst : l.stackTraces = false) (F : Fx p m c cL_law 10 s args RL) (hX : va_X b L xs s s.heap) (hbl : b < s.heap.size) (hbA : ¬ cxA X b) (hL : (L : Int) ≤ 3072) (hST : ST X w y mo ao ad) (hi : 0 ≤ i ∧ i + 6 ≤ (L : Int)) (hl : lv_has ls 10 [(0, .ref b), (1, .ref y), (2, .ref mo), (3, .ref ao), (4, .ref ad), (5, .int (iI i))]) (hW : Wd X w s H) (hS : va_S (cxA X) s.heap H locs) (hroom : cells + 1 ≤ room_1.cells ∧ slots + 6 ≤ room_1.slots) (kk : ∀ (w2 : Wo) (H2 : Heap) (locs2 : List Loc) (ls2 : Array Slot), ST X w2 y mo ao ad → lv_has ls2 10 [(0, .ref b), (1, .ref y), (2, .ref mo), (3, .ref ao), (4, .ref ad), (5, .int (iI i))] → Wd X w2 s H2 → va_S (cxA X) s.heap H2 locs2 → W p l e room_1 s m args below meth c H2 locs2 (cells + 1) (slots + 6) Q (F0 m 2317 ls2 [])) : W p l e room_1 s m args below meth c H locs cells slots Q (F0 m 1428 ls []) := by
  refine W.widen (k := cells + 1) (n := slots + 6) (by omega) (by omega) ?_
  obtain ⟨fy, hy⟩ := hST.y
  obtain ⟨bq, P9, hbn, hC, hMo⟩ := pr_meanJoins l X w y mo ao ad hST
  refine lv_aload_n F.1 F.2.1 dL_law_1428 rfl (lv_at hl 1 rfl) ?_
  refine cl_RL_206 (As := []) (rest := []) F hl hC hW hS hy rfl rfl ⟨Nat.le_of_ble_eq_true rfl, Nat.le_of_ble_eq_true rfl⟩ (Nat.le_of_ble_eq_true rfl) hroom dL_law_1429 (fun w1 H locs hP hW hS => ?_)
  refine lv_dstore (lv' := [(6, .double bq), (0, .ref b), (1, .ref y), (2, .ref mo), (3, .ref ao), (4, .ref ad), (5, .int (iI i))]) F.1 F.2.1 dL_law_1432 hl (by decide) rfl (fun ls hl => ?_)
  refine lv_aload_n F.1 F.2.1 dL_law_1434 rfl (lv_at hl 3 rfl) ?_
  obtain ⟨⟨fm, hm⟩, hCM⟩ := hMo w1 hP
  refine cl_RL_210 (As := []) (rest := []) F hl hCM hW hS hm rfl rfl ⟨Nat.le_of_ble_eq_true rfl, Nat.le_of_ble_eq_true rfl⟩ (Nat.le_of_ble_eq_true rfl) hroom dL_law_1435 (fun w2 H locs hp2 hW hS => ?_)
  have hST2 := hp2
  refine lv_dstore (lv' := [(8, .double bq), (6, .double bq), (0, .ref b), (1, .ref y), (2, .ref mo), (3, .ref ao), (4, .ref ad), (5, .int (iI i))]) F.1 F.2.1 dL_law_1438 hl (by decide) rfl (fun ls hl => ?_)
  refine lv_dload F.1 F.2.1 dL_law_1440 (lv_at hl 1 rfl) ?_
  refine lv_dload F.1 F.2.1 dL_law_1442 (lv_at hl 0 rfl) ?_
  refine h_dsame (tgt := 1466) F hbn dL_law_1444 rfl dL_law_1445 (by decide) ?_
  refine h_goto (tgt := 2317) F dL_law_1466 (by decide) ?_
  exact kk _ _ _ _ hST2 (lv_sub hl [2, 3, 4, 5, 6, 7] rfl) hW hS
set_option maxHeartbeats 2000000 in
set_option maxRecDepth 100000 in
theorem lc_25 {p : Program} {l : Launch} {e : Env} {s : State} {m : MethodId} {args : Array Value} {below : List Frame} {meth : Method} {c : Code} {H : Heap} {locs : List Loc} {cells slots : Nat} {Q : State → Prop} {ls : Array Slot} {X : Cx} {w : Wo} {b L y mo ao ad : Nat} {xs : Nat → Int32} {i : Int} (hst : l.stackTraces = false) (F : Fx p m c cL_law 10 s args RL) (hX : va_X b L xs s s.heap) (hbl : b < s.heap.size) (hbA : ¬ cxA X b) (hL : (L : Int) ≤ 3072) (hST : ST X w y mo ao ad) (hi : 0 ≤ i ∧ i + 6 ≤ (L : Int)) (hl : lv_has ls 10 [(0, .ref b), (1, .ref y), (2, .ref mo), (3, .ref ao), (4, .ref ad), (5, .int (iI i))]) (hW : Wd X w s H) (hS : va_S (cxA X) s.heap H locs) (hroom : cells + 1 ≤ room_1.cells ∧ slots + 6 ≤ room_1.slots) (kk : ∀ (w2 : Wo) (H2 : Heap) (locs2 : List Loc) (ls2 : Array Slot), ST X w2 y mo ao ad → lv_has ls2 10 [(0, .ref b), (1, .ref y), (2, .ref mo), (3, .ref ao), (4, .ref ad), (5, .int (iI i))] → Wd X w2 s H2 → va_S (cxA X) s.heap H2 locs2 → W p l e room_1 s m args below meth c H2 locs2 (cells + 1) (slots + 6) Q (F0 m 2317 ls2 [])) : W p l e room_1 s m args below meth c H locs cells slots Q (F0 m 1469 ls []) := by
  refine lv_aload_n F.1 F.2.1 dL_law_1469 rfl (lv_at hl 1 rfl) ?_
  refine lv_aload_n F.1 F.2.1 dL_law_1470 rfl (lv_at hl 0 rfl) ?_
  refine lv_iload F.1 F.2.1 dL_law_1471 (lv_at hl 5 rfl) ?_
  refine h_iconst F dL_law_1473 ?_
  refine h_iadd (a := i) (b := 1) F dL_law_1474 ?_
  refine h_sld (i := i + 1) F hX hbl hbA hS hL (by omega) dL_law_1475 ?_
  refine lv_aload_n F.1 F.2.1 dL_law_1476 rfl (lv_at hl 0 rfl) ?_
  refine lv_iload F.1 F.2.1 dL_law_1477 (lv_at hl 5 rfl) ?_
  refine h_iconst F dL_law_1479 ?_
  refine h_iadd (a := i) (b := 2) F dL_law_1480 ?_
  refine h_sld (i := i + 2) F hX hbl hbA hS hL (by omega) dL_law_1481 ?_
  refine lv_aload_n F.1 F.2.1 dL_law_1482 rfl (lv_at hl 0 rfl) ?_
  refine lv_iload F.1 F.2.1 dL_law_1483 (lv_at hl 5 rfl) ?_
  refine h_iconst F dL_law_1485 ?_
  refine h_iadd (a := i) (b := 3) F dL_law_1486 ?_
  refine h_sld (i := i + 3) F hX hbl hbA hS hL (by omega) dL_law_1487 ?_
  refine lv_aload_n F.1 F.2.1 dL_law_1488 rfl (lv_at hl 3 rfl) ?_
  obtain ⟨k, bq, P9, hk, hH, hMo⟩ := pr_pass l X w y mo ao ad hst hST (px xs (i + 1)) (px xs (i + 2)) (px xs (i + 3))  (px_r xs (i + 1)) (px_r xs (i + 2)) (px_r xs (i + 3))
  refine cs_RL_211 (As := [.ref y, .int (iI (px xs (i + 1))), .int (iI (px xs (i + 2))), .int (iI (px xs (i + 3))), .ref ao]) (rest := []) F hl hH hW hS rfl rfl ⟨Nat.le_of_ble_eq_true rfl, Nat.le_of_ble_eq_true rfl⟩ (Nat.le_of_ble_eq_true rfl) hroom dL_law_1489 (fun w1 H locs hP hW hS => ?_)
  refine lv_istore (lv' := [(6, .int (iI k)), (0, .ref b), (1, .ref y), (2, .ref mo), (3, .ref ao), (4, .ref ad), (5, .int (iI i))]) F.1 F.2.1 dL_law_1492 hl (by decide) rfl (fun ls hl => ?_)
  refine lv_aload_n F.1 F.2.1 dL_law_1494 rfl (lv_at hl 3 rfl) ?_
  refine lv_aload_n F.1 F.2.1 dL_law_1495 rfl (lv_at hl 1 rfl) ?_
  refine lv_iload F.1 F.2.1 dL_law_1496 (lv_at hl 6 rfl) ?_
  refine h_iconst F dL_law_1498 ?_
  refine h_iadd (a := i) (b := 1) F dL_law_1499 ?_
  refine h_sld (i := i + 1) F hX hbl hbA hS hL (by omega) dL_law_1500 ?_
  refine lv_aload_n F.1 F.2.1 dL_law_1501 rfl (lv_at hl 1 rfl) ?_
  refine lv_iload F.1 F.2.1 dL_law_1502 (lv_at hl 6 rfl) ?_
  refine h_iconst F dL_law_1504 ?_
  refine h_iadd (a := i) (b := 2) F dL_law_1505 ?_
  refine h_sld (i := i + 2) F hX hbl hbA hS hL (by omega) dL_law_1506 ?_
  refine lv_aload_n F.1 F.2.1 dL_law_1507 rfl (lv_at hl 1 rfl) ?_
  refine lv_iload F.1 F.2.1 dL_law_1508 (lv_at hl 6 rfl) ?_
  refine h_iconst F dL_law_1510 ?_
  refine h_iadd (a := i) (b := 3) F dL_law_1511 ?_
  refine h_sld (i := i + 3) F hX hbl hbA hS hL (by omega) dL_law_1512 ?_
  obtain ⟨⟨fm, hm⟩, hCM⟩ := hMo w1 hP
  refine cl_RL_213 (As := [.int (iI (px xs (i + 1))), .int (iI (px xs (i + 2))), .int (iI (px xs (i + 3)))]) (rest := []) F hl hCM hW hS hm rfl rfl ⟨Nat.le_of_ble_eq_true rfl, Nat.le_of_ble_eq_true rfl⟩ (Nat.le_of_ble_eq_true rfl) hroom dL_law_1513 (fun w2 H locs hp2 hW hS => ?_)
  obtain ⟨hST2, ⟨v9, hv9, hvk⟩, hout⟩ := hp2
  refine lv_istore (lv' := [(7, .int (iI bq)), (6, .int (iI k)), (0, .ref b), (1, .ref y), (2, .ref mo), (3, .ref ao), (4, .ref ad), (5, .int (iI i))]) F.1 F.2.1 dL_law_1516 hl (by decide) rfl (fun ls hl => ?_)
  refine lv_aload_n F.1 F.2.1 dL_law_1518 rfl (lv_at hl 4 rfl) ?_
  refine cl_RL_121 (As := []) (rest := []) F hl (c_X9_thrown l X w2 mo v9 hv9) hW hS hv9 rfl rfl ⟨Nat.le_of_ble_eq_true rfl, Nat.le_of_ble_eq_true rfl⟩ (Nat.le_of_ble_eq_true rfl) hroom dL_law_1519 (fun w3 H locs hp3 hW hS => ?_)
  rw [hp3] at hW
  refine h_top (show (v9 6 : Int) = k from hvk) ?_
  refine lv_iload F.1 F.2.1 dL_law_1522 (lv_at hl 1 rfl) ?_
  refine lv_icmp_eq (tgt := 1529) F.1 F.2.1 dL_law_1524 (by decide) (fun _ => ?_) (fun h9 => absurd rfl h9)
  refine lv_iload F.1 F.2.1 dL_law_1529 (lv_at hl 1 rfl) ?_
  refine h_ifne (a := k) (tgt := 1546) F dL_law_1531 (by decide) (by omega) (fun hne => ?_) (fun h0 => ?_)
  · skip
    refine h_goto (tgt := 2317) F dL_law_1546 (by decide) ?_
    exact kk _ _ _ _ hST2 (lv_sub hl [2, 3, 4, 5, 6, 7] rfl) hW hS
  · skip
    obtain ⟨g9, hg9, hgv9⟩ := hout h0
    refine lv_aload_n F.1 F.2.1 dL_law_1534 rfl (lv_at hl 5 rfl) ?_
    refine h_iconst F dL_law_1535 ?_
    refine h_lald F hW hg9 (by omega) (by omega) dL_law_1536 ?_
    refine h_topv (show (.long (g9 (0 : Int).toNat) : Value) = .long (iI bq).toInt64 from congrArg Value.long hgv9) ?_
    refine lv_iload F.1 F.2.1 dL_law_1537 (lv_at hl 0 rfl) ?_
    refine lv_i2l F.1 F.2.1 dL_law_1539 rfl ?_
    refine h_lsame (tgt := 1546) F dL_law_1540 rfl dL_law_1541 (by decide) ?_
    refine h_goto (tgt := 2317) F dL_law_1546 (by decide) ?_
    exact kk _ _ _ _ hST2 (lv_sub hl [2, 3, 4, 5, 6, 7] rfl) hW hS
set_option maxHeartbeats 2000000 in
set_option maxRecDepth 100000 in
theorem lc_26 {p : Program} {l : Launch} {e : Env} {s : State} {m : MethodId} {args : Array Value} {below : List Frame} {meth : Method} {c : Code} {H : Heap} {locs : List Loc} {cells slots : Nat} {Q : State → Prop} {ls : Array Slot} {X : Cx} {w : Wo} {b L y mo ao ad : Nat} {xs : Nat → Int32} {i : Int} (hst : l.stackTraces = false) (F : Fx p m c cL_law 10 s args RL) (hX : va_X b L xs s s.heap) (hbl : b < s.heap.size) (hbA : ¬ cxA X b) (hL : (L : Int) ≤ 3072) (hST : ST X w y mo ao ad) (hi : 0 ≤ i ∧ i + 6 ≤ (L : Int)) (hl : lv_has ls 10 [(0, .ref b), (1, .ref y), (2, .ref mo), (3, .ref ao), (4, .ref ad), (5, .int (iI i))]) (hW : Wd X w s H) (hS : va_S (cxA X) s.heap H locs) (hroom : cells + 1 ≤ room_1.cells ∧ slots + 6 ≤ room_1.slots) (kk : ∀ (w2 : Wo) (H2 : Heap) (locs2 : List Loc) (ls2 : Array Slot), ST X w2 y mo ao ad → lv_has ls2 10 [(0, .ref b), (1, .ref y), (2, .ref mo), (3, .ref ao), (4, .ref ad), (5, .int (iI i))] → Wd X w2 s H2 → va_S (cxA X) s.heap H2 locs2 → W p l e room_1 s m args below meth c H2 locs2 (cells + 1) (slots + 6) Q (F0 m 2317 ls2 [])) : W p l e room_1 s m args below meth c H locs cells slots Q (F0 m 1549 ls []) := by
  refine W.widen (k := cells + 1) (n := slots + 6) (by omega) (by omega) ?_
  obtain ⟨fy, hy⟩ := hST.y
  obtain ⟨bq, P9, hC, hMo⟩ := pr_beat l X w y mo ao ad hST
  refine lv_aload_n F.1 F.2.1 dL_law_1549 rfl (lv_at hl 1 rfl) ?_
  refine cl_RL_214 (As := []) (rest := []) F hl hC hW hS hy rfl rfl ⟨Nat.le_of_ble_eq_true rfl, Nat.le_of_ble_eq_true rfl⟩ (Nat.le_of_ble_eq_true rfl) hroom dL_law_1550 (fun w1 H locs hP hW hS => ?_)
  refine lv_aload_n F.1 F.2.1 dL_law_1553 rfl (lv_at hl 2 rfl) ?_
  obtain ⟨⟨fm, hm⟩, hCM⟩ := hMo w1 hP
  refine cl_RL_217 (As := []) (rest := [.int (iI bq)]) F hl hCM hW hS hm rfl rfl ⟨Nat.le_of_ble_eq_true rfl, Nat.le_of_ble_eq_true rfl⟩ (Nat.le_of_ble_eq_true rfl) hroom dL_law_1554 (fun w2 H locs hp2 hW hS => ?_)
  have hST2 := hp2
  refine lv_icmp_eq (tgt := 2317) F.1 F.2.1 dL_law_1557 (by decide) (fun _ => ?_) (fun h9 => absurd rfl h9)
  exact kk _ _ _ _ hST2 (lv_sub hl [0, 1, 2, 3, 4, 5] rfl) hW hS
set_option maxHeartbeats 2000000 in
set_option maxRecDepth 100000 in
theorem lc_27 {p : Program} {l : Launch} {e : Env} {s : State} {m : MethodId} {args : Array Value} {below : List Frame} {meth : Method} {c : Code} {H : Heap} {locs : List Loc} {cells slots : Nat} {Q : State → Prop} {ls : Array Slot} {X : Cx} {w : Wo} {b L y mo ao ad : Nat} {xs : Nat → Int32} {i : Int} (hst : l.stackTraces = false) (F : Fx p m c cL_law 10 s args RL) (hX : va_X b L xs s s.heap) (hbl : b < s.heap.size) (hbA : ¬ cxA X b) (hL : (L : Int) ≤ 3072) (hST : ST X w y mo ao ad) (hi : 0 ≤ i ∧ i + 6 ≤ (L : Int)) (hl : lv_has ls 10 [(0, .ref b), (1, .ref y), (2, .ref mo), (3, .ref ao), (4, .ref ad), (5, .int (iI i))]) (hW : Wd X w s H) (hS : va_S (cxA X) s.heap H locs) (hroom : cells + 1 ≤ room_1.cells ∧ slots + 6 ≤ room_1.slots) (kk : ∀ (w2 : Wo) (H2 : Heap) (locs2 : List Loc) (ls2 : Array Slot), ST X w2 y mo ao ad → lv_has ls2 10 [(0, .ref b), (1, .ref y), (2, .ref mo), (3, .ref ao), (4, .ref ad), (5, .int (iI i))] → Wd X w2 s H2 → va_S (cxA X) s.heap H2 locs2 → W p l e room_1 s m args below meth c H2 locs2 (cells + 1) (slots + 6) Q (F0 m 2317 ls2 [])) : W p l e room_1 s m args below meth c H locs cells slots Q (F0 m 1562 ls []) := by
  refine lv_aload_n F.1 F.2.1 dL_law_1562 rfl (lv_at hl 1 rfl) ?_
  refine lv_aload_n F.1 F.2.1 dL_law_1563 rfl (lv_at hl 0 rfl) ?_
  refine lv_iload F.1 F.2.1 dL_law_1564 (lv_at hl 5 rfl) ?_
  refine h_iconst F dL_law_1566 ?_
  refine h_iadd (a := i) (b := 1) F dL_law_1567 ?_
  refine h_sld (i := i + 1) F hX hbl hbA hS hL (by omega) dL_law_1568 ?_
  refine lv_aload_n F.1 F.2.1 dL_law_1569 rfl (lv_at hl 0 rfl) ?_
  refine lv_iload F.1 F.2.1 dL_law_1570 (lv_at hl 5 rfl) ?_
  refine h_iconst F dL_law_1572 ?_
  refine h_iadd (a := i) (b := 2) F dL_law_1573 ?_
  refine h_sld (i := i + 2) F hX hbl hbA hS hL (by omega) dL_law_1574 ?_
  refine h_ifeq (a := px xs (i + 2)) (tgt := 1582) F dL_law_1575 (by decide) (px_r _ _) (fun hz9 => ?_) (fun hz9 => ?_)
  · skip
    refine h_iconst F dL_law_1582 ?_
    refine lv_aload_n F.1 F.2.1 dL_law_1583 rfl (lv_at hl 3 rfl) ?_
    obtain ⟨k, bq, P9, hk, hH, hMo⟩ := pr_weave l X w y mo ao ad hst hST (px xs (i + 1)) false (px_r xs (i + 1))
    refine cs_RL_218 (As := [.ref y, .int (iI (px xs (i + 1))), .int (iI (bz false)), .ref ao]) (rest := []) F hl hH hW hS rfl rfl ⟨Nat.le_of_ble_eq_true rfl, Nat.le_of_ble_eq_true rfl⟩ (Nat.le_of_ble_eq_true rfl) hroom dL_law_1584 (fun w1 H locs hP hW hS => ?_)
    refine lv_istore (lv' := [(6, .int (iI k)), (0, .ref b), (1, .ref y), (2, .ref mo), (3, .ref ao), (4, .ref ad), (5, .int (iI i))]) F.1 F.2.1 dL_law_1587 hl (by decide) rfl (fun ls hl => ?_)
    refine lv_aload_n F.1 F.2.1 dL_law_1589 rfl (lv_at hl 3 rfl) ?_
    refine lv_aload_n F.1 F.2.1 dL_law_1590 rfl (lv_at hl 1 rfl) ?_
    refine lv_iload F.1 F.2.1 dL_law_1591 (lv_at hl 6 rfl) ?_
    refine h_iconst F dL_law_1593 ?_
    refine h_iadd (a := i) (b := 1) F dL_law_1594 ?_
    refine h_sld (i := i + 1) F hX hbl hbA hS hL (by omega) dL_law_1595 ?_
    refine lv_aload_n F.1 F.2.1 dL_law_1596 rfl (lv_at hl 1 rfl) ?_
    refine lv_iload F.1 F.2.1 dL_law_1597 (lv_at hl 6 rfl) ?_
    refine h_iconst F dL_law_1599 ?_
    refine h_iadd (a := i) (b := 2) F dL_law_1600 ?_
    refine h_sld (i := i + 2) F hX hbl hbA hS hL (by omega) dL_law_1601 ?_
    refine h_ifeq (a := px xs (i + 2)) (tgt := 1609) F dL_law_1602 (by decide) (px_r _ _) (fun _ => ?_) (fun h9 => absurd hz9 h9)
    refine h_iconst F dL_law_1609 ?_
    obtain ⟨⟨fm, hm⟩, hCM⟩ := hMo w1 hP
    refine cl_RL_221 (As := [.int (iI (px xs (i + 1))), .int (iI (bz false))]) (rest := []) F hl hCM hW hS hm rfl rfl ⟨Nat.le_of_ble_eq_true rfl, Nat.le_of_ble_eq_true rfl⟩ (Nat.le_of_ble_eq_true rfl) hroom dL_law_1610 (fun w2 H locs hp2 hW hS => ?_)
    obtain ⟨hST2, ⟨v9, hv9, hvk⟩, hout⟩ := hp2
    refine lv_istore (lv' := [(7, .int (iI bq)), (6, .int (iI k)), (0, .ref b), (1, .ref y), (2, .ref mo), (3, .ref ao), (4, .ref ad), (5, .int (iI i))]) F.1 F.2.1 dL_law_1613 hl (by decide) rfl (fun ls hl => ?_)
    refine lv_aload_n F.1 F.2.1 dL_law_1615 rfl (lv_at hl 4 rfl) ?_
    refine cl_RL_121 (As := []) (rest := []) F hl (c_X9_thrown l X w2 mo v9 hv9) hW hS hv9 rfl rfl ⟨Nat.le_of_ble_eq_true rfl, Nat.le_of_ble_eq_true rfl⟩ (Nat.le_of_ble_eq_true rfl) hroom dL_law_1616 (fun w3 H locs hp3 hW hS => ?_)
    rw [hp3] at hW
    refine h_top (show (v9 6 : Int) = k from hvk) ?_
    refine lv_iload F.1 F.2.1 dL_law_1619 (lv_at hl 1 rfl) ?_
    refine lv_icmp_eq (tgt := 1626) F.1 F.2.1 dL_law_1621 (by decide) (fun _ => ?_) (fun h9 => absurd rfl h9)
    refine lv_iload F.1 F.2.1 dL_law_1626 (lv_at hl 1 rfl) ?_
    refine h_ifne (a := k) (tgt := 1643) F dL_law_1628 (by decide) (by omega) (fun hne => ?_) (fun h0 => ?_)
    · skip
      refine h_goto (tgt := 2317) F dL_law_1643 (by decide) ?_
      exact kk _ _ _ _ hST2 (lv_sub hl [2, 3, 4, 5, 6, 7] rfl) hW hS
    · skip
      obtain ⟨g9, hg9, hgv9⟩ := hout h0
      refine lv_aload_n F.1 F.2.1 dL_law_1631 rfl (lv_at hl 5 rfl) ?_
      refine h_iconst F dL_law_1632 ?_
      refine h_lald F hW hg9 (by omega) (by omega) dL_law_1633 ?_
      refine h_topv (show (.long (g9 (0 : Int).toNat) : Value) = .long (iI bq).toInt64 from congrArg Value.long hgv9) ?_
      refine lv_iload F.1 F.2.1 dL_law_1634 (lv_at hl 0 rfl) ?_
      refine lv_i2l F.1 F.2.1 dL_law_1636 rfl ?_
      refine h_lsame (tgt := 1643) F dL_law_1637 rfl dL_law_1638 (by decide) ?_
      refine h_goto (tgt := 2317) F dL_law_1643 (by decide) ?_
      exact kk _ _ _ _ hST2 (lv_sub hl [2, 3, 4, 5, 6, 7] rfl) hW hS
  · skip
    refine h_iconst F dL_law_1578 ?_
    refine h_goto (tgt := 1583) F dL_law_1579 (by decide) ?_
    refine lv_aload_n F.1 F.2.1 dL_law_1583 rfl (lv_at hl 3 rfl) ?_
    obtain ⟨k, bq, P9, hk, hH, hMo⟩ := pr_weave l X w y mo ao ad hst hST (px xs (i + 1)) true (px_r xs (i + 1))
    refine cs_RL_218 (As := [.ref y, .int (iI (px xs (i + 1))), .int (iI (bz true)), .ref ao]) (rest := []) F hl hH hW hS rfl rfl ⟨Nat.le_of_ble_eq_true rfl, Nat.le_of_ble_eq_true rfl⟩ (Nat.le_of_ble_eq_true rfl) hroom dL_law_1584 (fun w1 H locs hP hW hS => ?_)
    refine lv_istore (lv' := [(6, .int (iI k)), (0, .ref b), (1, .ref y), (2, .ref mo), (3, .ref ao), (4, .ref ad), (5, .int (iI i))]) F.1 F.2.1 dL_law_1587 hl (by decide) rfl (fun ls hl => ?_)
    refine lv_aload_n F.1 F.2.1 dL_law_1589 rfl (lv_at hl 3 rfl) ?_
    refine lv_aload_n F.1 F.2.1 dL_law_1590 rfl (lv_at hl 1 rfl) ?_
    refine lv_iload F.1 F.2.1 dL_law_1591 (lv_at hl 6 rfl) ?_
    refine h_iconst F dL_law_1593 ?_
    refine h_iadd (a := i) (b := 1) F dL_law_1594 ?_
    refine h_sld (i := i + 1) F hX hbl hbA hS hL (by omega) dL_law_1595 ?_
    refine lv_aload_n F.1 F.2.1 dL_law_1596 rfl (lv_at hl 1 rfl) ?_
    refine lv_iload F.1 F.2.1 dL_law_1597 (lv_at hl 6 rfl) ?_
    refine h_iconst F dL_law_1599 ?_
    refine h_iadd (a := i) (b := 2) F dL_law_1600 ?_
    refine h_sld (i := i + 2) F hX hbl hbA hS hL (by omega) dL_law_1601 ?_
    refine h_ifeq (a := px xs (i + 2)) (tgt := 1609) F dL_law_1602 (by decide) (px_r _ _) (fun h9 => absurd h9 hz9) (fun _ => ?_)
    refine h_iconst F dL_law_1605 ?_
    refine h_goto (tgt := 1610) F dL_law_1606 (by decide) ?_
    obtain ⟨⟨fm, hm⟩, hCM⟩ := hMo w1 hP
    refine cl_RL_221 (As := [.int (iI (px xs (i + 1))), .int (iI (bz true))]) (rest := []) F hl hCM hW hS hm rfl rfl ⟨Nat.le_of_ble_eq_true rfl, Nat.le_of_ble_eq_true rfl⟩ (Nat.le_of_ble_eq_true rfl) hroom dL_law_1610 (fun w2 H locs hp2 hW hS => ?_)
    obtain ⟨hST2, ⟨v9, hv9, hvk⟩, hout⟩ := hp2
    refine lv_istore (lv' := [(7, .int (iI bq)), (6, .int (iI k)), (0, .ref b), (1, .ref y), (2, .ref mo), (3, .ref ao), (4, .ref ad), (5, .int (iI i))]) F.1 F.2.1 dL_law_1613 hl (by decide) rfl (fun ls hl => ?_)
    refine lv_aload_n F.1 F.2.1 dL_law_1615 rfl (lv_at hl 4 rfl) ?_
    refine cl_RL_121 (As := []) (rest := []) F hl (c_X9_thrown l X w2 mo v9 hv9) hW hS hv9 rfl rfl ⟨Nat.le_of_ble_eq_true rfl, Nat.le_of_ble_eq_true rfl⟩ (Nat.le_of_ble_eq_true rfl) hroom dL_law_1616 (fun w3 H locs hp3 hW hS => ?_)
    rw [hp3] at hW
    refine h_top (show (v9 6 : Int) = k from hvk) ?_
    refine lv_iload F.1 F.2.1 dL_law_1619 (lv_at hl 1 rfl) ?_
    refine lv_icmp_eq (tgt := 1626) F.1 F.2.1 dL_law_1621 (by decide) (fun _ => ?_) (fun h9 => absurd rfl h9)
    refine lv_iload F.1 F.2.1 dL_law_1626 (lv_at hl 1 rfl) ?_
    refine h_ifne (a := k) (tgt := 1643) F dL_law_1628 (by decide) (by omega) (fun hne => ?_) (fun h0 => ?_)
    · skip
      refine h_goto (tgt := 2317) F dL_law_1643 (by decide) ?_
      exact kk _ _ _ _ hST2 (lv_sub hl [2, 3, 4, 5, 6, 7] rfl) hW hS
    · skip
      obtain ⟨g9, hg9, hgv9⟩ := hout h0
      refine lv_aload_n F.1 F.2.1 dL_law_1631 rfl (lv_at hl 5 rfl) ?_
      refine h_iconst F dL_law_1632 ?_
      refine h_lald F hW hg9 (by omega) (by omega) dL_law_1633 ?_
      refine h_topv (show (.long (g9 (0 : Int).toNat) : Value) = .long (iI bq).toInt64 from congrArg Value.long hgv9) ?_
      refine lv_iload F.1 F.2.1 dL_law_1634 (lv_at hl 0 rfl) ?_
      refine lv_i2l F.1 F.2.1 dL_law_1636 rfl ?_
      refine h_lsame (tgt := 1643) F dL_law_1637 rfl dL_law_1638 (by decide) ?_
      refine h_goto (tgt := 2317) F dL_law_1643 (by decide) ?_
      exact kk _ _ _ _ hST2 (lv_sub hl [2, 3, 4, 5, 6, 7] rfl) hW hS
set_option maxHeartbeats 2000000 in
set_option maxRecDepth 100000 in
theorem lc_28 {p : Program} {l : Launch} {e : Env} {s : State} {m : MethodId} {args : Array Value} {below : List Frame} {meth : Method} {c : Code} {H : Heap} {locs : List Loc} {cells slots : Nat} {Q : State → Prop} {ls : Array Slot} {X : Cx} {w : Wo} {b L y mo ao ad : Nat} {xs : Nat → Int32} {i : Int} (hst : l.stackTraces = false) (F : Fx p m c cL_law 10 s args RL) (hX : va_X b L xs s s.heap) (hbl : b < s.heap.size) (hbA : ¬ cxA X b) (hL : (L : Int) ≤ 3072) (hST : ST X w y mo ao ad) (hi : 0 ≤ i ∧ i + 6 ≤ (L : Int)) (hl : lv_has ls 10 [(0, .ref b), (1, .ref y), (2, .ref mo), (3, .ref ao), (4, .ref ad), (5, .int (iI i))]) (hW : Wd X w s H) (hS : va_S (cxA X) s.heap H locs) (hroom : cells + 1 ≤ room_1.cells ∧ slots + 6 ≤ room_1.slots) (kk : ∀ (w2 : Wo) (H2 : Heap) (locs2 : List Loc) (ls2 : Array Slot), ST X w2 y mo ao ad → lv_has ls2 10 [(0, .ref b), (1, .ref y), (2, .ref mo), (3, .ref ao), (4, .ref ad), (5, .int (iI i))] → Wd X w2 s H2 → va_S (cxA X) s.heap H2 locs2 → W p l e room_1 s m args below meth c H2 locs2 (cells + 1) (slots + 6) Q (F0 m 2317 ls2 [])) : W p l e room_1 s m args below meth c H locs cells slots Q (F0 m 1646 ls []) := by
  refine lv_aload_n F.1 F.2.1 dL_law_1646 rfl (lv_at hl 1 rfl) ?_
  refine lv_aload_n F.1 F.2.1 dL_law_1647 rfl (lv_at hl 0 rfl) ?_
  refine lv_iload F.1 F.2.1 dL_law_1648 (lv_at hl 5 rfl) ?_
  refine h_iconst F dL_law_1650 ?_
  refine h_iadd (a := i) (b := 1) F dL_law_1651 ?_
  refine h_sld (i := i + 1) F hX hbl hbA hS hL (by omega) dL_law_1652 ?_
  refine lv_aload_n F.1 F.2.1 dL_law_1653 rfl (lv_at hl 3 rfl) ?_
  obtain ⟨k, bq, P9, hk, hH, hMo⟩ := pr_unpick l X w y mo ao ad hst hST (px xs (i + 1))  (px_r xs (i + 1))
  refine cs_RL_222 (As := [.ref y, .int (iI (px xs (i + 1))), .ref ao]) (rest := []) F hl hH hW hS rfl rfl ⟨Nat.le_of_ble_eq_true rfl, Nat.le_of_ble_eq_true rfl⟩ (Nat.le_of_ble_eq_true rfl) hroom dL_law_1654 (fun w1 H locs hP hW hS => ?_)
  refine lv_istore (lv' := [(6, .int (iI k)), (0, .ref b), (1, .ref y), (2, .ref mo), (3, .ref ao), (4, .ref ad), (5, .int (iI i))]) F.1 F.2.1 dL_law_1657 hl (by decide) rfl (fun ls hl => ?_)
  refine lv_aload_n F.1 F.2.1 dL_law_1659 rfl (lv_at hl 3 rfl) ?_
  refine lv_aload_n F.1 F.2.1 dL_law_1660 rfl (lv_at hl 1 rfl) ?_
  refine lv_iload F.1 F.2.1 dL_law_1661 (lv_at hl 6 rfl) ?_
  refine h_iconst F dL_law_1663 ?_
  refine h_iadd (a := i) (b := 1) F dL_law_1664 ?_
  refine h_sld (i := i + 1) F hX hbl hbA hS hL (by omega) dL_law_1665 ?_
  obtain ⟨⟨fm, hm⟩, hCM⟩ := hMo w1 hP
  refine cl_RL_224 (As := [.int (iI (px xs (i + 1)))]) (rest := []) F hl hCM hW hS hm rfl rfl ⟨Nat.le_of_ble_eq_true rfl, Nat.le_of_ble_eq_true rfl⟩ (Nat.le_of_ble_eq_true rfl) hroom dL_law_1666 (fun w2 H locs hp2 hW hS => ?_)
  obtain ⟨hST2, ⟨v9, hv9, hvk⟩, hout⟩ := hp2
  refine lv_istore (lv' := [(7, .int (iI bq)), (6, .int (iI k)), (0, .ref b), (1, .ref y), (2, .ref mo), (3, .ref ao), (4, .ref ad), (5, .int (iI i))]) F.1 F.2.1 dL_law_1669 hl (by decide) rfl (fun ls hl => ?_)
  refine lv_aload_n F.1 F.2.1 dL_law_1671 rfl (lv_at hl 4 rfl) ?_
  refine cl_RL_121 (As := []) (rest := []) F hl (c_X9_thrown l X w2 mo v9 hv9) hW hS hv9 rfl rfl ⟨Nat.le_of_ble_eq_true rfl, Nat.le_of_ble_eq_true rfl⟩ (Nat.le_of_ble_eq_true rfl) hroom dL_law_1672 (fun w3 H locs hp3 hW hS => ?_)
  rw [hp3] at hW
  refine h_top (show (v9 6 : Int) = k from hvk) ?_
  refine lv_iload F.1 F.2.1 dL_law_1675 (lv_at hl 1 rfl) ?_
  refine lv_icmp_eq (tgt := 1682) F.1 F.2.1 dL_law_1677 (by decide) (fun _ => ?_) (fun h9 => absurd rfl h9)
  refine lv_iload F.1 F.2.1 dL_law_1682 (lv_at hl 1 rfl) ?_
  refine h_ifne (a := k) (tgt := 1699) F dL_law_1684 (by decide) (by omega) (fun hne => ?_) (fun h0 => ?_)
  · skip
    refine h_goto (tgt := 2317) F dL_law_1699 (by decide) ?_
    exact kk _ _ _ _ hST2 (lv_sub hl [2, 3, 4, 5, 6, 7] rfl) hW hS
  · skip
    obtain ⟨g9, hg9, hgv9⟩ := hout h0
    refine lv_aload_n F.1 F.2.1 dL_law_1687 rfl (lv_at hl 5 rfl) ?_
    refine h_iconst F dL_law_1688 ?_
    refine h_lald F hW hg9 (by omega) (by omega) dL_law_1689 ?_
    refine h_topv (show (.long (g9 (0 : Int).toNat) : Value) = .long (iI bq).toInt64 from congrArg Value.long hgv9) ?_
    refine lv_iload F.1 F.2.1 dL_law_1690 (lv_at hl 0 rfl) ?_
    refine lv_i2l F.1 F.2.1 dL_law_1692 rfl ?_
    refine h_lsame (tgt := 1699) F dL_law_1693 rfl dL_law_1694 (by decide) ?_
    refine h_goto (tgt := 2317) F dL_law_1699 (by decide) ?_
    exact kk _ _ _ _ hST2 (lv_sub hl [2, 3, 4, 5, 6, 7] rfl) hW hS
set_option maxHeartbeats 2000000 in
set_option maxRecDepth 100000 in
theorem lc_29 {p : Program} {l : Launch} {e : Env} {s : State} {m : MethodId} {args : Array Value} {below : List Frame} {meth : Method} {c : Code} {H : Heap} {locs : List Loc} {cells slots : Nat} {Q : State → Prop} {ls : Array Slot} {X : Cx} {w : Wo} {b L y mo ao ad : Nat} {xs : Nat → Int32} {i : Int} (hst : l.stackTraces = false) (F : Fx p m c cL_law 10 s args RL) (hX : va_X b L xs s s.heap) (hbl : b < s.heap.size) (hbA : ¬ cxA X b) (hL : (L : Int) ≤ 3072) (hST : ST X w y mo ao ad) (hi : 0 ≤ i ∧ i + 6 ≤ (L : Int)) (hl : lv_has ls 10 [(0, .ref b), (1, .ref y), (2, .ref mo), (3, .ref ao), (4, .ref ad), (5, .int (iI i))]) (hW : Wd X w s H) (hS : va_S (cxA X) s.heap H locs) (hroom : cells + 1 ≤ room_1.cells ∧ slots + 6 ≤ room_1.slots) (kk : ∀ (w2 : Wo) (H2 : Heap) (locs2 : List Loc) (ls2 : Array Slot), ST X w2 y mo ao ad → lv_has ls2 10 [(0, .ref b), (1, .ref y), (2, .ref mo), (3, .ref ao), (4, .ref ad), (5, .int (iI i))] → Wd X w2 s H2 → va_S (cxA X) s.heap H2 locs2 → W p l e room_1 s m args below meth c H2 locs2 (cells + 1) (slots + 6) Q (F0 m 2317 ls2 [])) : W p l e room_1 s m args below meth c H locs cells slots Q (F0 m 1702 ls []) := by
  refine W.widen (k := cells + 1) (n := slots + 6) (by omega) (by omega) ?_
  obtain ⟨fy, hy⟩ := hST.y
  obtain ⟨bq, P9, hC, hMo⟩ := pr_look l X w y mo ao ad hST
  refine lv_aload_n F.1 F.2.1 dL_law_1702 rfl (lv_at hl 1 rfl) ?_
  refine cl_RL_225 (As := []) (rest := []) F hl hC hW hS hy rfl rfl ⟨Nat.le_of_ble_eq_true rfl, Nat.le_of_ble_eq_true rfl⟩ (Nat.le_of_ble_eq_true rfl) hroom dL_law_1703 (fun w1 H locs hP hW hS => ?_)
  refine lv_aload_n F.1 F.2.1 dL_law_1706 rfl (lv_at hl 2 rfl) ?_
  obtain ⟨⟨fm, hm⟩, hCM⟩ := hMo w1 hP
  refine cl_RL_228 (As := []) (rest := [.int (iI bq)]) F hl hCM hW hS hm rfl rfl ⟨Nat.le_of_ble_eq_true rfl, Nat.le_of_ble_eq_true rfl⟩ (Nat.le_of_ble_eq_true rfl) hroom dL_law_1707 (fun w2 H locs hp2 hW hS => ?_)
  have hST2 := hp2
  refine lv_icmp_eq (tgt := 2317) F.1 F.2.1 dL_law_1710 (by decide) (fun _ => ?_) (fun h9 => absurd rfl h9)
  exact kk _ _ _ _ hST2 (lv_sub hl [0, 1, 2, 3, 4, 5] rfl) hW hS
set_option maxHeartbeats 2000000 in
set_option maxRecDepth 100000 in
theorem lc_30 {p : Program} {l : Launch} {e : Env} {s : State} {m : MethodId} {args : Array Value} {below : List Frame} {meth : Method} {c : Code} {H : Heap} {locs : List Loc} {cells slots : Nat} {Q : State → Prop} {ls : Array Slot} {X : Cx} {w : Wo} {b L y mo ao ad : Nat} {xs : Nat → Int32} {i : Int} (hst : l.stackTraces = false) (F : Fx p m c cL_law 10 s args RL) (hX : va_X b L xs s s.heap) (hbl : b < s.heap.size) (hbA : ¬ cxA X b) (hL : (L : Int) ≤ 3072) (hST : ST X w y mo ao ad) (hi : 0 ≤ i ∧ i + 6 ≤ (L : Int)) (hl : lv_has ls 10 [(0, .ref b), (1, .ref y), (2, .ref mo), (3, .ref ao), (4, .ref ad), (5, .int (iI i))]) (hW : Wd X w s H) (hS : va_S (cxA X) s.heap H locs) (hroom : cells + 1 ≤ room_1.cells ∧ slots + 6 ≤ room_1.slots) (kk : ∀ (w2 : Wo) (H2 : Heap) (locs2 : List Loc) (ls2 : Array Slot), ST X w2 y mo ao ad → lv_has ls2 10 [(0, .ref b), (1, .ref y), (2, .ref mo), (3, .ref ao), (4, .ref ad), (5, .int (iI i))] → Wd X w2 s H2 → va_S (cxA X) s.heap H2 locs2 → W p l e room_1 s m args below meth c H2 locs2 (cells + 1) (slots + 6) Q (F0 m 2317 ls2 [])) : W p l e room_1 s m args below meth c H locs cells slots Q (F0 m 1715 ls []) := by
  refine lv_aload_n F.1 F.2.1 dL_law_1715 rfl (lv_at hl 1 rfl) ?_
  refine lv_aload_n F.1 F.2.1 dL_law_1716 rfl (lv_at hl 0 rfl) ?_
  refine lv_iload F.1 F.2.1 dL_law_1717 (lv_at hl 5 rfl) ?_
  refine h_iconst F dL_law_1719 ?_
  refine h_iadd (a := i) (b := 1) F dL_law_1720 ?_
  refine h_sld (i := i + 1) F hX hbl hbA hS hL (by omega) dL_law_1721 ?_
  refine lv_aload_n F.1 F.2.1 dL_law_1722 rfl (lv_at hl 0 rfl) ?_
  refine lv_iload F.1 F.2.1 dL_law_1723 (lv_at hl 5 rfl) ?_
  refine h_iconst F dL_law_1725 ?_
  refine h_iadd (a := i) (b := 2) F dL_law_1726 ?_
  refine h_sld (i := i + 2) F hX hbl hbA hS hL (by omega) dL_law_1727 ?_
  refine lv_aload_n F.1 F.2.1 dL_law_1728 rfl (lv_at hl 0 rfl) ?_
  refine lv_iload F.1 F.2.1 dL_law_1729 (lv_at hl 5 rfl) ?_
  refine h_iconst F dL_law_1731 ?_
  refine h_iadd (a := i) (b := 3) F dL_law_1732 ?_
  refine h_sld (i := i + 3) F hX hbl hbA hS hL (by omega) dL_law_1733 ?_
  refine lv_aload_n F.1 F.2.1 dL_law_1734 rfl (lv_at hl 0 rfl) ?_
  refine lv_iload F.1 F.2.1 dL_law_1735 (lv_at hl 5 rfl) ?_
  refine h_iconst F dL_law_1737 ?_
  refine h_iadd (a := i) (b := 4) F dL_law_1738 ?_
  refine h_sld (i := i + 4) F hX hbl hbA hS hL (by omega) dL_law_1739 ?_
  refine lv_aload_n F.1 F.2.1 dL_law_1740 rfl (lv_at hl 3 rfl) ?_
  obtain ⟨k, bq, P9, hk, hH, hMo⟩ := pr_add l X w y mo ao ad hst hST (px xs (i + 1)) (px xs (i + 2)) (px xs (i + 3)) (px xs (i + 4))  (px_r xs (i + 1)) (px_r xs (i + 2)) (px_r xs (i + 3)) (px_r xs (i + 4))
  refine cs_RL_229 (As := [.ref y, .int (iI (px xs (i + 1))), .int (iI (px xs (i + 2))), .int (iI (px xs (i + 3))), .int (iI (px xs (i + 4))), .ref ao]) (rest := []) F hl hH hW hS rfl rfl ⟨Nat.le_of_ble_eq_true rfl, Nat.le_of_ble_eq_true rfl⟩ (Nat.le_of_ble_eq_true rfl) hroom dL_law_1741 (fun w1 H locs hP hW hS => ?_)
  refine lv_istore (lv' := [(6, .int (iI k)), (0, .ref b), (1, .ref y), (2, .ref mo), (3, .ref ao), (4, .ref ad), (5, .int (iI i))]) F.1 F.2.1 dL_law_1744 hl (by decide) rfl (fun ls hl => ?_)
  refine lv_aload_n F.1 F.2.1 dL_law_1746 rfl (lv_at hl 3 rfl) ?_
  refine lv_aload_n F.1 F.2.1 dL_law_1747 rfl (lv_at hl 1 rfl) ?_
  refine lv_iload F.1 F.2.1 dL_law_1748 (lv_at hl 6 rfl) ?_
  refine h_iconst F dL_law_1750 ?_
  refine h_iadd (a := i) (b := 1) F dL_law_1751 ?_
  refine h_sld (i := i + 1) F hX hbl hbA hS hL (by omega) dL_law_1752 ?_
  refine lv_aload_n F.1 F.2.1 dL_law_1753 rfl (lv_at hl 1 rfl) ?_
  refine lv_iload F.1 F.2.1 dL_law_1754 (lv_at hl 6 rfl) ?_
  refine h_iconst F dL_law_1756 ?_
  refine h_iadd (a := i) (b := 2) F dL_law_1757 ?_
  refine h_sld (i := i + 2) F hX hbl hbA hS hL (by omega) dL_law_1758 ?_
  refine lv_aload_n F.1 F.2.1 dL_law_1759 rfl (lv_at hl 1 rfl) ?_
  refine lv_iload F.1 F.2.1 dL_law_1760 (lv_at hl 6 rfl) ?_
  refine h_iconst F dL_law_1762 ?_
  refine h_iadd (a := i) (b := 3) F dL_law_1763 ?_
  refine h_sld (i := i + 3) F hX hbl hbA hS hL (by omega) dL_law_1764 ?_
  refine lv_aload_n F.1 F.2.1 dL_law_1765 rfl (lv_at hl 1 rfl) ?_
  refine lv_iload F.1 F.2.1 dL_law_1766 (lv_at hl 6 rfl) ?_
  refine h_iconst F dL_law_1768 ?_
  refine h_iadd (a := i) (b := 4) F dL_law_1769 ?_
  refine h_sld (i := i + 4) F hX hbl hbA hS hL (by omega) dL_law_1770 ?_
  obtain ⟨⟨fm, hm⟩, hCM⟩ := hMo w1 hP
  refine cl_RL_232 (As := [.int (iI (px xs (i + 1))), .int (iI (px xs (i + 2))), .int (iI (px xs (i + 3))), .int (iI (px xs (i + 4)))]) (rest := []) F hl hCM hW hS hm rfl rfl ⟨Nat.le_of_ble_eq_true rfl, Nat.le_of_ble_eq_true rfl⟩ (Nat.le_of_ble_eq_true rfl) hroom dL_law_1771 (fun w2 H locs hp2 hW hS => ?_)
  obtain ⟨hST2, ⟨v9, hv9, hvk⟩, hout⟩ := hp2
  refine lv_istore (lv' := [(7, .int (iI bq)), (6, .int (iI k)), (0, .ref b), (1, .ref y), (2, .ref mo), (3, .ref ao), (4, .ref ad), (5, .int (iI i))]) F.1 F.2.1 dL_law_1774 hl (by decide) rfl (fun ls hl => ?_)
  refine lv_aload_n F.1 F.2.1 dL_law_1776 rfl (lv_at hl 4 rfl) ?_
  refine cl_RL_121 (As := []) (rest := []) F hl (c_X9_thrown l X w2 mo v9 hv9) hW hS hv9 rfl rfl ⟨Nat.le_of_ble_eq_true rfl, Nat.le_of_ble_eq_true rfl⟩ (Nat.le_of_ble_eq_true rfl) hroom dL_law_1777 (fun w3 H locs hp3 hW hS => ?_)
  rw [hp3] at hW
  refine h_top (show (v9 6 : Int) = k from hvk) ?_
  refine lv_iload F.1 F.2.1 dL_law_1780 (lv_at hl 1 rfl) ?_
  refine lv_icmp_eq (tgt := 1787) F.1 F.2.1 dL_law_1782 (by decide) (fun _ => ?_) (fun h9 => absurd rfl h9)
  refine lv_iload F.1 F.2.1 dL_law_1787 (lv_at hl 1 rfl) ?_
  refine h_ifne (a := k) (tgt := 1804) F dL_law_1789 (by decide) (by omega) (fun hne => ?_) (fun h0 => ?_)
  · skip
    refine h_goto (tgt := 2317) F dL_law_1804 (by decide) ?_
    exact kk _ _ _ _ hST2 (lv_sub hl [2, 3, 4, 5, 6, 7] rfl) hW hS
  · skip
    obtain ⟨g9, hg9, hgv9⟩ := hout h0
    refine lv_aload_n F.1 F.2.1 dL_law_1792 rfl (lv_at hl 5 rfl) ?_
    refine h_iconst F dL_law_1793 ?_
    refine h_lald F hW hg9 (by omega) (by omega) dL_law_1794 ?_
    refine h_topv (show (.long (g9 (0 : Int).toNat) : Value) = .long (iI bq).toInt64 from congrArg Value.long hgv9) ?_
    refine lv_iload F.1 F.2.1 dL_law_1795 (lv_at hl 0 rfl) ?_
    refine lv_i2l F.1 F.2.1 dL_law_1797 rfl ?_
    refine h_lsame (tgt := 1804) F dL_law_1798 rfl dL_law_1799 (by decide) ?_
    refine h_goto (tgt := 2317) F dL_law_1804 (by decide) ?_
    exact kk _ _ _ _ hST2 (lv_sub hl [2, 3, 4, 5, 6, 7] rfl) hW hS
set_option maxHeartbeats 2000000 in
set_option maxRecDepth 100000 in
theorem lc_31 {p : Program} {l : Launch} {e : Env} {s : State} {m : MethodId} {args : Array Value} {below : List Frame} {meth : Method} {c : Code} {H : Heap} {locs : List Loc} {cells slots : Nat} {Q : State → Prop} {ls : Array Slot} {X : Cx} {w : Wo} {b L y mo ao ad : Nat} {xs : Nat → Int32} {i : Int} (hst : l.stackTraces = false) (F : Fx p m c cL_law 10 s args RL) (hX : va_X b L xs s s.heap) (hbl : b < s.heap.size) (hbA : ¬ cxA X b) (hL : (L : Int) ≤ 3072) (hST : ST X w y mo ao ad) (hi : 0 ≤ i ∧ i + 6 ≤ (L : Int)) (hl : lv_has ls 10 [(0, .ref b), (1, .ref y), (2, .ref mo), (3, .ref ao), (4, .ref ad), (5, .int (iI i))]) (hW : Wd X w s H) (hS : va_S (cxA X) s.heap H locs) (hroom : cells + 1 ≤ room_1.cells ∧ slots + 6 ≤ room_1.slots) (kk : ∀ (w2 : Wo) (H2 : Heap) (locs2 : List Loc) (ls2 : Array Slot), ST X w2 y mo ao ad → lv_has ls2 10 [(0, .ref b), (1, .ref y), (2, .ref mo), (3, .ref ao), (4, .ref ad), (5, .int (iI i))] → Wd X w2 s H2 → va_S (cxA X) s.heap H2 locs2 → W p l e room_1 s m args below meth c H2 locs2 (cells + 1) (slots + 6) Q (F0 m 2317 ls2 [])) : W p l e room_1 s m args below meth c H locs cells slots Q (F0 m 1807 ls []) := by
  refine lv_aload_n F.1 F.2.1 dL_law_1807 rfl (lv_at hl 1 rfl) ?_
  refine lv_aload_n F.1 F.2.1 dL_law_1808 rfl (lv_at hl 0 rfl) ?_
  refine lv_iload F.1 F.2.1 dL_law_1809 (lv_at hl 5 rfl) ?_
  refine h_iconst F dL_law_1811 ?_
  refine h_iadd (a := i) (b := 1) F dL_law_1812 ?_
  refine h_sld (i := i + 1) F hX hbl hbA hS hL (by omega) dL_law_1813 ?_
  refine lv_aload_n F.1 F.2.1 dL_law_1814 rfl (lv_at hl 3 rfl) ?_
  obtain ⟨k, bq, P9, hk, hH, hMo⟩ := pr_drop l X w y mo ao ad hst hST (px xs (i + 1))  (px_r xs (i + 1))
  refine cs_RL_233 (As := [.ref y, .int (iI (px xs (i + 1))), .ref ao]) (rest := []) F hl hH hW hS rfl rfl ⟨Nat.le_of_ble_eq_true rfl, Nat.le_of_ble_eq_true rfl⟩ (Nat.le_of_ble_eq_true rfl) hroom dL_law_1815 (fun w1 H locs hP hW hS => ?_)
  refine lv_istore (lv' := [(6, .int (iI k)), (0, .ref b), (1, .ref y), (2, .ref mo), (3, .ref ao), (4, .ref ad), (5, .int (iI i))]) F.1 F.2.1 dL_law_1818 hl (by decide) rfl (fun ls hl => ?_)
  refine lv_aload_n F.1 F.2.1 dL_law_1820 rfl (lv_at hl 3 rfl) ?_
  refine lv_aload_n F.1 F.2.1 dL_law_1821 rfl (lv_at hl 1 rfl) ?_
  refine lv_iload F.1 F.2.1 dL_law_1822 (lv_at hl 6 rfl) ?_
  refine h_iconst F dL_law_1824 ?_
  refine h_iadd (a := i) (b := 1) F dL_law_1825 ?_
  refine h_sld (i := i + 1) F hX hbl hbA hS hL (by omega) dL_law_1826 ?_
  obtain ⟨⟨fm, hm⟩, hCM⟩ := hMo w1 hP
  refine cl_RL_235 (As := [.int (iI (px xs (i + 1)))]) (rest := []) F hl hCM hW hS hm rfl rfl ⟨Nat.le_of_ble_eq_true rfl, Nat.le_of_ble_eq_true rfl⟩ (Nat.le_of_ble_eq_true rfl) hroom dL_law_1827 (fun w2 H locs hp2 hW hS => ?_)
  obtain ⟨hST2, ⟨v9, hv9, hvk⟩, hout⟩ := hp2
  refine lv_istore (lv' := [(7, .int (iI bq)), (6, .int (iI k)), (0, .ref b), (1, .ref y), (2, .ref mo), (3, .ref ao), (4, .ref ad), (5, .int (iI i))]) F.1 F.2.1 dL_law_1830 hl (by decide) rfl (fun ls hl => ?_)
  refine lv_aload_n F.1 F.2.1 dL_law_1832 rfl (lv_at hl 4 rfl) ?_
  refine cl_RL_121 (As := []) (rest := []) F hl (c_X9_thrown l X w2 mo v9 hv9) hW hS hv9 rfl rfl ⟨Nat.le_of_ble_eq_true rfl, Nat.le_of_ble_eq_true rfl⟩ (Nat.le_of_ble_eq_true rfl) hroom dL_law_1833 (fun w3 H locs hp3 hW hS => ?_)
  rw [hp3] at hW
  refine h_top (show (v9 6 : Int) = k from hvk) ?_
  refine lv_iload F.1 F.2.1 dL_law_1836 (lv_at hl 1 rfl) ?_
  refine lv_icmp_eq (tgt := 1843) F.1 F.2.1 dL_law_1838 (by decide) (fun _ => ?_) (fun h9 => absurd rfl h9)
  refine lv_iload F.1 F.2.1 dL_law_1843 (lv_at hl 1 rfl) ?_
  refine h_ifne (a := k) (tgt := 1860) F dL_law_1845 (by decide) (by omega) (fun hne => ?_) (fun h0 => ?_)
  · skip
    refine h_goto (tgt := 2317) F dL_law_1860 (by decide) ?_
    exact kk _ _ _ _ hST2 (lv_sub hl [2, 3, 4, 5, 6, 7] rfl) hW hS
  · skip
    obtain ⟨g9, hg9, hgv9⟩ := hout h0
    refine lv_aload_n F.1 F.2.1 dL_law_1848 rfl (lv_at hl 5 rfl) ?_
    refine h_iconst F dL_law_1849 ?_
    refine h_lald F hW hg9 (by omega) (by omega) dL_law_1850 ?_
    refine h_topv (show (.long (g9 (0 : Int).toNat) : Value) = .long (iI bq).toInt64 from congrArg Value.long hgv9) ?_
    refine lv_iload F.1 F.2.1 dL_law_1851 (lv_at hl 0 rfl) ?_
    refine lv_i2l F.1 F.2.1 dL_law_1853 rfl ?_
    refine h_lsame (tgt := 1860) F dL_law_1854 rfl dL_law_1855 (by decide) ?_
    refine h_goto (tgt := 2317) F dL_law_1860 (by decide) ?_
    exact kk _ _ _ _ hST2 (lv_sub hl [2, 3, 4, 5, 6, 7] rfl) hW hS
set_option maxHeartbeats 2000000 in
set_option maxRecDepth 100000 in
theorem lc_32 {p : Program} {l : Launch} {e : Env} {s : State} {m : MethodId} {args : Array Value} {below : List Frame} {meth : Method} {c : Code} {H : Heap} {locs : List Loc} {cells slots : Nat} {Q : State → Prop} {ls : Array Slot} {X : Cx} {w : Wo} {b L y mo ao ad : Nat} {xs : Nat → Int32} {i : Int} (hst : l.stackTraces = false) (F : Fx p m c cL_law 10 s args RL) (hX : va_X b L xs s s.heap) (hbl : b < s.heap.size) (hbA : ¬ cxA X b) (hL : (L : Int) ≤ 3072) (hST : ST X w y mo ao ad) (hi : 0 ≤ i ∧ i + 6 ≤ (L : Int)) (hl : lv_has ls 10 [(0, .ref b), (1, .ref y), (2, .ref mo), (3, .ref ao), (4, .ref ad), (5, .int (iI i))]) (hW : Wd X w s H) (hS : va_S (cxA X) s.heap H locs) (hroom : cells + 1 ≤ room_1.cells ∧ slots + 6 ≤ room_1.slots) (kk : ∀ (w2 : Wo) (H2 : Heap) (locs2 : List Loc) (ls2 : Array Slot), ST X w2 y mo ao ad → lv_has ls2 10 [(0, .ref b), (1, .ref y), (2, .ref mo), (3, .ref ao), (4, .ref ad), (5, .int (iI i))] → Wd X w2 s H2 → va_S (cxA X) s.heap H2 locs2 → W p l e room_1 s m args below meth c H2 locs2 (cells + 1) (slots + 6) Q (F0 m 2317 ls2 [])) : W p l e room_1 s m args below meth c H locs cells slots Q (F0 m 1863 ls []) := by
  refine lv_aload_n F.1 F.2.1 dL_law_1863 rfl (lv_at hl 1 rfl) ?_
  refine lv_aload_n F.1 F.2.1 dL_law_1864 rfl (lv_at hl 0 rfl) ?_
  refine lv_iload F.1 F.2.1 dL_law_1865 (lv_at hl 5 rfl) ?_
  refine h_iconst F dL_law_1867 ?_
  refine h_iadd (a := i) (b := 1) F dL_law_1868 ?_
  refine h_sld (i := i + 1) F hX hbl hbA hS hL (by omega) dL_law_1869 ?_
  refine lv_aload_n F.1 F.2.1 dL_law_1870 rfl (lv_at hl 0 rfl) ?_
  refine lv_iload F.1 F.2.1 dL_law_1871 (lv_at hl 5 rfl) ?_
  refine h_iconst F dL_law_1873 ?_
  refine h_iadd (a := i) (b := 2) F dL_law_1874 ?_
  refine h_sld (i := i + 2) F hX hbl hbA hS hL (by omega) dL_law_1875 ?_
  refine lv_aload_n F.1 F.2.1 dL_law_1876 rfl (lv_at hl 0 rfl) ?_
  refine lv_iload F.1 F.2.1 dL_law_1877 (lv_at hl 5 rfl) ?_
  refine h_iconst F dL_law_1879 ?_
  refine h_iadd (a := i) (b := 3) F dL_law_1880 ?_
  refine h_sld (i := i + 3) F hX hbl hbA hS hL (by omega) dL_law_1881 ?_
  refine lv_aload_n F.1 F.2.1 dL_law_1882 rfl (lv_at hl 3 rfl) ?_
  obtain ⟨k, bq, P9, hk, hH, hMo⟩ := pr_move l X w y mo ao ad hst hST (px xs (i + 1)) (px xs (i + 2)) (px xs (i + 3))  (px_r xs (i + 1)) (px_r xs (i + 2)) (px_r xs (i + 3))
  refine cs_RL_236 (As := [.ref y, .int (iI (px xs (i + 1))), .int (iI (px xs (i + 2))), .int (iI (px xs (i + 3))), .ref ao]) (rest := []) F hl hH hW hS rfl rfl ⟨Nat.le_of_ble_eq_true rfl, Nat.le_of_ble_eq_true rfl⟩ (Nat.le_of_ble_eq_true rfl) hroom dL_law_1883 (fun w1 H locs hP hW hS => ?_)
  refine lv_istore (lv' := [(6, .int (iI k)), (0, .ref b), (1, .ref y), (2, .ref mo), (3, .ref ao), (4, .ref ad), (5, .int (iI i))]) F.1 F.2.1 dL_law_1886 hl (by decide) rfl (fun ls hl => ?_)
  refine lv_aload_n F.1 F.2.1 dL_law_1888 rfl (lv_at hl 3 rfl) ?_
  refine lv_aload_n F.1 F.2.1 dL_law_1889 rfl (lv_at hl 1 rfl) ?_
  refine lv_iload F.1 F.2.1 dL_law_1890 (lv_at hl 6 rfl) ?_
  refine h_iconst F dL_law_1892 ?_
  refine h_iadd (a := i) (b := 1) F dL_law_1893 ?_
  refine h_sld (i := i + 1) F hX hbl hbA hS hL (by omega) dL_law_1894 ?_
  refine lv_aload_n F.1 F.2.1 dL_law_1895 rfl (lv_at hl 1 rfl) ?_
  refine lv_iload F.1 F.2.1 dL_law_1896 (lv_at hl 6 rfl) ?_
  refine h_iconst F dL_law_1898 ?_
  refine h_iadd (a := i) (b := 2) F dL_law_1899 ?_
  refine h_sld (i := i + 2) F hX hbl hbA hS hL (by omega) dL_law_1900 ?_
  refine lv_aload_n F.1 F.2.1 dL_law_1901 rfl (lv_at hl 1 rfl) ?_
  refine lv_iload F.1 F.2.1 dL_law_1902 (lv_at hl 6 rfl) ?_
  refine h_iconst F dL_law_1904 ?_
  refine h_iadd (a := i) (b := 3) F dL_law_1905 ?_
  refine h_sld (i := i + 3) F hX hbl hbA hS hL (by omega) dL_law_1906 ?_
  obtain ⟨⟨fm, hm⟩, hCM⟩ := hMo w1 hP
  refine cl_RL_238 (As := [.int (iI (px xs (i + 1))), .int (iI (px xs (i + 2))), .int (iI (px xs (i + 3)))]) (rest := []) F hl hCM hW hS hm rfl rfl ⟨Nat.le_of_ble_eq_true rfl, Nat.le_of_ble_eq_true rfl⟩ (Nat.le_of_ble_eq_true rfl) hroom dL_law_1907 (fun w2 H locs hp2 hW hS => ?_)
  obtain ⟨hST2, ⟨v9, hv9, hvk⟩, hout⟩ := hp2
  refine lv_istore (lv' := [(7, .int (iI bq)), (6, .int (iI k)), (0, .ref b), (1, .ref y), (2, .ref mo), (3, .ref ao), (4, .ref ad), (5, .int (iI i))]) F.1 F.2.1 dL_law_1910 hl (by decide) rfl (fun ls hl => ?_)
  refine lv_aload_n F.1 F.2.1 dL_law_1912 rfl (lv_at hl 4 rfl) ?_
  refine cl_RL_121 (As := []) (rest := []) F hl (c_X9_thrown l X w2 mo v9 hv9) hW hS hv9 rfl rfl ⟨Nat.le_of_ble_eq_true rfl, Nat.le_of_ble_eq_true rfl⟩ (Nat.le_of_ble_eq_true rfl) hroom dL_law_1913 (fun w3 H locs hp3 hW hS => ?_)
  rw [hp3] at hW
  refine h_top (show (v9 6 : Int) = k from hvk) ?_
  refine lv_iload F.1 F.2.1 dL_law_1916 (lv_at hl 1 rfl) ?_
  refine lv_icmp_eq (tgt := 1923) F.1 F.2.1 dL_law_1918 (by decide) (fun _ => ?_) (fun h9 => absurd rfl h9)
  refine lv_iload F.1 F.2.1 dL_law_1923 (lv_at hl 1 rfl) ?_
  refine h_ifne (a := k) (tgt := 1940) F dL_law_1925 (by decide) (by omega) (fun hne => ?_) (fun h0 => ?_)
  · skip
    refine h_goto (tgt := 2317) F dL_law_1940 (by decide) ?_
    exact kk _ _ _ _ hST2 (lv_sub hl [2, 3, 4, 5, 6, 7] rfl) hW hS
  · skip
    obtain ⟨g9, hg9, hgv9⟩ := hout h0
    refine lv_aload_n F.1 F.2.1 dL_law_1928 rfl (lv_at hl 5 rfl) ?_
    refine h_iconst F dL_law_1929 ?_
    refine h_lald F hW hg9 (by omega) (by omega) dL_law_1930 ?_
    refine h_topv (show (.long (g9 (0 : Int).toNat) : Value) = .long (iI bq).toInt64 from congrArg Value.long hgv9) ?_
    refine lv_iload F.1 F.2.1 dL_law_1931 (lv_at hl 0 rfl) ?_
    refine lv_i2l F.1 F.2.1 dL_law_1933 rfl ?_
    refine h_lsame (tgt := 1940) F dL_law_1934 rfl dL_law_1935 (by decide) ?_
    refine h_goto (tgt := 2317) F dL_law_1940 (by decide) ?_
    exact kk _ _ _ _ hST2 (lv_sub hl [2, 3, 4, 5, 6, 7] rfl) hW hS
set_option maxHeartbeats 2000000 in
set_option maxRecDepth 100000 in
theorem lc_33 {p : Program} {l : Launch} {e : Env} {s : State} {m : MethodId} {args : Array Value} {below : List Frame} {meth : Method} {c : Code} {H : Heap} {locs : List Loc} {cells slots : Nat} {Q : State → Prop} {ls : Array Slot} {X : Cx} {w : Wo} {b L y mo ao ad : Nat} {xs : Nat → Int32} {i : Int} (hst : l.stackTraces = false) (F : Fx p m c cL_law 10 s args RL) (hX : va_X b L xs s s.heap) (hbl : b < s.heap.size) (hbA : ¬ cxA X b) (hL : (L : Int) ≤ 3072) (hST : ST X w y mo ao ad) (hi : 0 ≤ i ∧ i + 6 ≤ (L : Int)) (hl : lv_has ls 10 [(0, .ref b), (1, .ref y), (2, .ref mo), (3, .ref ao), (4, .ref ad), (5, .int (iI i))]) (hW : Wd X w s H) (hS : va_S (cxA X) s.heap H locs) (hroom : cells + 1 ≤ room_1.cells ∧ slots + 6 ≤ room_1.slots) (kk : ∀ (w2 : Wo) (H2 : Heap) (locs2 : List Loc) (ls2 : Array Slot), ST X w2 y mo ao ad → lv_has ls2 10 [(0, .ref b), (1, .ref y), (2, .ref mo), (3, .ref ao), (4, .ref ad), (5, .int (iI i))] → Wd X w2 s H2 → va_S (cxA X) s.heap H2 locs2 → W p l e room_1 s m args below meth c H2 locs2 (cells + 1) (slots + 6) Q (F0 m 2317 ls2 [])) : W p l e room_1 s m args below meth c H locs cells slots Q (F0 m 1943 ls []) := by
  refine lv_aload_n F.1 F.2.1 dL_law_1943 rfl (lv_at hl 1 rfl) ?_
  refine lv_aload_n F.1 F.2.1 dL_law_1944 rfl (lv_at hl 0 rfl) ?_
  refine lv_iload F.1 F.2.1 dL_law_1945 (lv_at hl 5 rfl) ?_
  refine h_iconst F dL_law_1947 ?_
  refine h_iadd (a := i) (b := 1) F dL_law_1948 ?_
  refine h_sld (i := i + 1) F hX hbl hbA hS hL (by omega) dL_law_1949 ?_
  refine lv_aload_n F.1 F.2.1 dL_law_1950 rfl (lv_at hl 0 rfl) ?_
  refine lv_iload F.1 F.2.1 dL_law_1951 (lv_at hl 5 rfl) ?_
  refine h_iconst F dL_law_1953 ?_
  refine h_iadd (a := i) (b := 2) F dL_law_1954 ?_
  refine h_sld (i := i + 2) F hX hbl hbA hS hL (by omega) dL_law_1955 ?_
  refine lv_aload_n F.1 F.2.1 dL_law_1956 rfl (lv_at hl 3 rfl) ?_
  obtain ⟨k, bq, P9, hk, hH, hMo⟩ := pr_setStock l X w y mo ao ad hst hST (px xs (i + 1)) (px xs (i + 2))  (px_r xs (i + 1)) (px_r xs (i + 2))
  refine cs_RL_239 (As := [.ref y, .int (iI (px xs (i + 1))), .int (iI (px xs (i + 2))), .ref ao]) (rest := []) F hl hH hW hS rfl rfl ⟨Nat.le_of_ble_eq_true rfl, Nat.le_of_ble_eq_true rfl⟩ (Nat.le_of_ble_eq_true rfl) hroom dL_law_1957 (fun w1 H locs hP hW hS => ?_)
  refine lv_istore (lv' := [(6, .int (iI k)), (0, .ref b), (1, .ref y), (2, .ref mo), (3, .ref ao), (4, .ref ad), (5, .int (iI i))]) F.1 F.2.1 dL_law_1960 hl (by decide) rfl (fun ls hl => ?_)
  refine lv_aload_n F.1 F.2.1 dL_law_1962 rfl (lv_at hl 3 rfl) ?_
  refine lv_aload_n F.1 F.2.1 dL_law_1963 rfl (lv_at hl 1 rfl) ?_
  refine lv_iload F.1 F.2.1 dL_law_1964 (lv_at hl 6 rfl) ?_
  refine h_iconst F dL_law_1966 ?_
  refine h_iadd (a := i) (b := 1) F dL_law_1967 ?_
  refine h_sld (i := i + 1) F hX hbl hbA hS hL (by omega) dL_law_1968 ?_
  refine lv_aload_n F.1 F.2.1 dL_law_1969 rfl (lv_at hl 1 rfl) ?_
  refine lv_iload F.1 F.2.1 dL_law_1970 (lv_at hl 6 rfl) ?_
  refine h_iconst F dL_law_1972 ?_
  refine h_iadd (a := i) (b := 2) F dL_law_1973 ?_
  refine h_sld (i := i + 2) F hX hbl hbA hS hL (by omega) dL_law_1974 ?_
  obtain ⟨⟨fm, hm⟩, hCM⟩ := hMo w1 hP
  refine cl_RL_241 (As := [.int (iI (px xs (i + 1))), .int (iI (px xs (i + 2)))]) (rest := []) F hl hCM hW hS hm rfl rfl ⟨Nat.le_of_ble_eq_true rfl, Nat.le_of_ble_eq_true rfl⟩ (Nat.le_of_ble_eq_true rfl) hroom dL_law_1975 (fun w2 H locs hp2 hW hS => ?_)
  obtain ⟨hST2, ⟨v9, hv9, hvk⟩, hout⟩ := hp2
  refine lv_istore (lv' := [(7, .int (iI bq)), (6, .int (iI k)), (0, .ref b), (1, .ref y), (2, .ref mo), (3, .ref ao), (4, .ref ad), (5, .int (iI i))]) F.1 F.2.1 dL_law_1978 hl (by decide) rfl (fun ls hl => ?_)
  refine lv_aload_n F.1 F.2.1 dL_law_1980 rfl (lv_at hl 4 rfl) ?_
  refine cl_RL_121 (As := []) (rest := []) F hl (c_X9_thrown l X w2 mo v9 hv9) hW hS hv9 rfl rfl ⟨Nat.le_of_ble_eq_true rfl, Nat.le_of_ble_eq_true rfl⟩ (Nat.le_of_ble_eq_true rfl) hroom dL_law_1981 (fun w3 H locs hp3 hW hS => ?_)
  rw [hp3] at hW
  refine h_top (show (v9 6 : Int) = k from hvk) ?_
  refine lv_iload F.1 F.2.1 dL_law_1984 (lv_at hl 1 rfl) ?_
  refine lv_icmp_eq (tgt := 1991) F.1 F.2.1 dL_law_1986 (by decide) (fun _ => ?_) (fun h9 => absurd rfl h9)
  refine lv_iload F.1 F.2.1 dL_law_1991 (lv_at hl 1 rfl) ?_
  refine h_ifne (a := k) (tgt := 2008) F dL_law_1993 (by decide) (by omega) (fun hne => ?_) (fun h0 => ?_)
  · skip
    refine h_goto (tgt := 2317) F dL_law_2008 (by decide) ?_
    exact kk _ _ _ _ hST2 (lv_sub hl [2, 3, 4, 5, 6, 7] rfl) hW hS
  · skip
    obtain ⟨g9, hg9, hgv9⟩ := hout h0
    refine lv_aload_n F.1 F.2.1 dL_law_1996 rfl (lv_at hl 5 rfl) ?_
    refine h_iconst F dL_law_1997 ?_
    refine h_lald F hW hg9 (by omega) (by omega) dL_law_1998 ?_
    refine h_topv (show (.long (g9 (0 : Int).toNat) : Value) = .long (iI bq).toInt64 from congrArg Value.long hgv9) ?_
    refine lv_iload F.1 F.2.1 dL_law_1999 (lv_at hl 0 rfl) ?_
    refine lv_i2l F.1 F.2.1 dL_law_2001 rfl ?_
    refine h_lsame (tgt := 2008) F dL_law_2002 rfl dL_law_2003 (by decide) ?_
    refine h_goto (tgt := 2317) F dL_law_2008 (by decide) ?_
    exact kk _ _ _ _ hST2 (lv_sub hl [2, 3, 4, 5, 6, 7] rfl) hW hS
set_option maxHeartbeats 2000000 in
set_option maxRecDepth 100000 in
theorem lc_34 {p : Program} {l : Launch} {e : Env} {s : State} {m : MethodId} {args : Array Value} {below : List Frame} {meth : Method} {c : Code} {H : Heap} {locs : List Loc} {cells slots : Nat} {Q : State → Prop} {ls : Array Slot} {X : Cx} {w : Wo} {b L y mo ao ad : Nat} {xs : Nat → Int32} {i : Int} (hst : l.stackTraces = false) (F : Fx p m c cL_law 10 s args RL) (hX : va_X b L xs s s.heap) (hbl : b < s.heap.size) (hbA : ¬ cxA X b) (hL : (L : Int) ≤ 3072) (hST : ST X w y mo ao ad) (hi : 0 ≤ i ∧ i + 6 ≤ (L : Int)) (hl : lv_has ls 10 [(0, .ref b), (1, .ref y), (2, .ref mo), (3, .ref ao), (4, .ref ad), (5, .int (iI i))]) (hW : Wd X w s H) (hS : va_S (cxA X) s.heap H locs) (hroom : cells + 1 ≤ room_1.cells ∧ slots + 6 ≤ room_1.slots) (kk : ∀ (w2 : Wo) (H2 : Heap) (locs2 : List Loc) (ls2 : Array Slot), ST X w2 y mo ao ad → lv_has ls2 10 [(0, .ref b), (1, .ref y), (2, .ref mo), (3, .ref ao), (4, .ref ad), (5, .int (iI i))] → Wd X w2 s H2 → va_S (cxA X) s.heap H2 locs2 → W p l e room_1 s m args below meth c H2 locs2 (cells + 1) (slots + 6) Q (F0 m 2317 ls2 [])) : W p l e room_1 s m args below meth c H locs cells slots Q (F0 m 2011 ls []) := by
  refine lv_aload_n F.1 F.2.1 dL_law_2011 rfl (lv_at hl 1 rfl) ?_
  refine lv_aload_n F.1 F.2.1 dL_law_2012 rfl (lv_at hl 0 rfl) ?_
  refine lv_iload F.1 F.2.1 dL_law_2013 (lv_at hl 5 rfl) ?_
  refine h_iconst F dL_law_2015 ?_
  refine h_iadd (a := i) (b := 1) F dL_law_2016 ?_
  refine h_sld (i := i + 1) F hX hbl hbA hS hL (by omega) dL_law_2017 ?_
  refine lv_aload_n F.1 F.2.1 dL_law_2018 rfl (lv_at hl 3 rfl) ?_
  obtain ⟨k, bq, P9, hk, hH, hMo⟩ := pr_setDelay l X w y mo ao ad hst hST (px xs (i + 1))  (px_r xs (i + 1))
  refine cs_RL_242 (As := [.ref y, .int (iI (px xs (i + 1))), .ref ao]) (rest := []) F hl hH hW hS rfl rfl ⟨Nat.le_of_ble_eq_true rfl, Nat.le_of_ble_eq_true rfl⟩ (Nat.le_of_ble_eq_true rfl) hroom dL_law_2019 (fun w1 H locs hP hW hS => ?_)
  refine lv_istore (lv' := [(6, .int (iI k)), (0, .ref b), (1, .ref y), (2, .ref mo), (3, .ref ao), (4, .ref ad), (5, .int (iI i))]) F.1 F.2.1 dL_law_2022 hl (by decide) rfl (fun ls hl => ?_)
  refine lv_aload_n F.1 F.2.1 dL_law_2024 rfl (lv_at hl 3 rfl) ?_
  refine lv_aload_n F.1 F.2.1 dL_law_2025 rfl (lv_at hl 1 rfl) ?_
  refine lv_iload F.1 F.2.1 dL_law_2026 (lv_at hl 6 rfl) ?_
  refine h_iconst F dL_law_2028 ?_
  refine h_iadd (a := i) (b := 1) F dL_law_2029 ?_
  refine h_sld (i := i + 1) F hX hbl hbA hS hL (by omega) dL_law_2030 ?_
  obtain ⟨⟨fm, hm⟩, hCM⟩ := hMo w1 hP
  refine cl_RL_244 (As := [.int (iI (px xs (i + 1)))]) (rest := []) F hl hCM hW hS hm rfl rfl ⟨Nat.le_of_ble_eq_true rfl, Nat.le_of_ble_eq_true rfl⟩ (Nat.le_of_ble_eq_true rfl) hroom dL_law_2031 (fun w2 H locs hp2 hW hS => ?_)
  obtain ⟨hST2, ⟨v9, hv9, hvk⟩, hout⟩ := hp2
  refine lv_istore (lv' := [(7, .int (iI bq)), (6, .int (iI k)), (0, .ref b), (1, .ref y), (2, .ref mo), (3, .ref ao), (4, .ref ad), (5, .int (iI i))]) F.1 F.2.1 dL_law_2034 hl (by decide) rfl (fun ls hl => ?_)
  refine lv_aload_n F.1 F.2.1 dL_law_2036 rfl (lv_at hl 4 rfl) ?_
  refine cl_RL_121 (As := []) (rest := []) F hl (c_X9_thrown l X w2 mo v9 hv9) hW hS hv9 rfl rfl ⟨Nat.le_of_ble_eq_true rfl, Nat.le_of_ble_eq_true rfl⟩ (Nat.le_of_ble_eq_true rfl) hroom dL_law_2037 (fun w3 H locs hp3 hW hS => ?_)
  rw [hp3] at hW
  refine h_top (show (v9 6 : Int) = k from hvk) ?_
  refine lv_iload F.1 F.2.1 dL_law_2040 (lv_at hl 1 rfl) ?_
  refine lv_icmp_eq (tgt := 2047) F.1 F.2.1 dL_law_2042 (by decide) (fun _ => ?_) (fun h9 => absurd rfl h9)
  refine lv_iload F.1 F.2.1 dL_law_2047 (lv_at hl 1 rfl) ?_
  refine h_ifne (a := k) (tgt := 2064) F dL_law_2049 (by decide) (by omega) (fun hne => ?_) (fun h0 => ?_)
  · skip
    refine h_goto (tgt := 2317) F dL_law_2064 (by decide) ?_
    exact kk _ _ _ _ hST2 (lv_sub hl [2, 3, 4, 5, 6, 7] rfl) hW hS
  · skip
    obtain ⟨g9, hg9, hgv9⟩ := hout h0
    refine lv_aload_n F.1 F.2.1 dL_law_2052 rfl (lv_at hl 5 rfl) ?_
    refine h_iconst F dL_law_2053 ?_
    refine h_lald F hW hg9 (by omega) (by omega) dL_law_2054 ?_
    refine h_topv (show (.long (g9 (0 : Int).toNat) : Value) = .long (iI bq).toInt64 from congrArg Value.long hgv9) ?_
    refine lv_iload F.1 F.2.1 dL_law_2055 (lv_at hl 0 rfl) ?_
    refine lv_i2l F.1 F.2.1 dL_law_2057 rfl ?_
    refine h_lsame (tgt := 2064) F dL_law_2058 rfl dL_law_2059 (by decide) ?_
    refine h_goto (tgt := 2317) F dL_law_2064 (by decide) ?_
    exact kk _ _ _ _ hST2 (lv_sub hl [2, 3, 4, 5, 6, 7] rfl) hW hS
set_option maxHeartbeats 2000000 in
set_option maxRecDepth 100000 in
theorem lc_35 {p : Program} {l : Launch} {e : Env} {s : State} {m : MethodId} {args : Array Value} {below : List Frame} {meth : Method} {c : Code} {H : Heap} {locs : List Loc} {cells slots : Nat} {Q : State → Prop} {ls : Array Slot} {X : Cx} {w : Wo} {b L y mo ao ad : Nat} {xs : Nat → Int32} {i : Int} (hst : l.stackTraces = false) (F : Fx p m c cL_law 10 s args RL) (hX : va_X b L xs s s.heap) (hbl : b < s.heap.size) (hbA : ¬ cxA X b) (hL : (L : Int) ≤ 3072) (hST : ST X w y mo ao ad) (hi : 0 ≤ i ∧ i + 6 ≤ (L : Int)) (hl : lv_has ls 10 [(0, .ref b), (1, .ref y), (2, .ref mo), (3, .ref ao), (4, .ref ad), (5, .int (iI i))]) (hW : Wd X w s H) (hS : va_S (cxA X) s.heap H locs) (hroom : cells + 1 ≤ room_1.cells ∧ slots + 6 ≤ room_1.slots) (kk : ∀ (w2 : Wo) (H2 : Heap) (locs2 : List Loc) (ls2 : Array Slot), ST X w2 y mo ao ad → lv_has ls2 10 [(0, .ref b), (1, .ref y), (2, .ref mo), (3, .ref ao), (4, .ref ad), (5, .int (iI i))] → Wd X w2 s H2 → va_S (cxA X) s.heap H2 locs2 → W p l e room_1 s m args below meth c H2 locs2 (cells + 1) (slots + 6) Q (F0 m 2317 ls2 [])) : W p l e room_1 s m args below meth c H locs cells slots Q (F0 m 2067 ls []) := by
  refine lv_aload_n F.1 F.2.1 dL_law_2067 rfl (lv_at hl 1 rfl) ?_
  refine lv_aload_n F.1 F.2.1 dL_law_2068 rfl (lv_at hl 0 rfl) ?_
  refine lv_iload F.1 F.2.1 dL_law_2069 (lv_at hl 5 rfl) ?_
  refine h_iconst F dL_law_2071 ?_
  refine h_iadd (a := i) (b := 1) F dL_law_2072 ?_
  refine h_sld (i := i + 1) F hX hbl hbA hS hL (by omega) dL_law_2073 ?_
  refine lv_aload_n F.1 F.2.1 dL_law_2074 rfl (lv_at hl 0 rfl) ?_
  refine lv_iload F.1 F.2.1 dL_law_2075 (lv_at hl 5 rfl) ?_
  refine h_iconst F dL_law_2077 ?_
  refine h_iadd (a := i) (b := 2) F dL_law_2078 ?_
  refine h_sld (i := i + 2) F hX hbl hbA hS hL (by omega) dL_law_2079 ?_
  refine h_ifeq (a := px xs (i + 2)) (tgt := 2087) F dL_law_2080 (by decide) (px_r _ _) (fun hz9 => ?_) (fun hz9 => ?_)
  · skip
    refine h_iconst F dL_law_2087 ?_
    refine lv_aload_n F.1 F.2.1 dL_law_2088 rfl (lv_at hl 3 rfl) ?_
    obtain ⟨k, bq, P9, hk, hH, hMo⟩ := pr_writeRow l X w y mo ao ad hst hST (px xs (i + 1)) false (px_r xs (i + 1))
    refine cs_RL_245 (As := [.ref y, .int (iI (px xs (i + 1))), .int (iI (bz false)), .ref ao]) (rest := []) F hl hH hW hS rfl rfl ⟨Nat.le_of_ble_eq_true rfl, Nat.le_of_ble_eq_true rfl⟩ (Nat.le_of_ble_eq_true rfl) hroom dL_law_2089 (fun w1 H locs hP hW hS => ?_)
    refine lv_istore (lv' := [(6, .int (iI k)), (0, .ref b), (1, .ref y), (2, .ref mo), (3, .ref ao), (4, .ref ad), (5, .int (iI i))]) F.1 F.2.1 dL_law_2092 hl (by decide) rfl (fun ls hl => ?_)
    refine lv_aload_n F.1 F.2.1 dL_law_2094 rfl (lv_at hl 3 rfl) ?_
    refine lv_aload_n F.1 F.2.1 dL_law_2095 rfl (lv_at hl 1 rfl) ?_
    refine lv_iload F.1 F.2.1 dL_law_2096 (lv_at hl 6 rfl) ?_
    refine h_iconst F dL_law_2098 ?_
    refine h_iadd (a := i) (b := 1) F dL_law_2099 ?_
    refine h_sld (i := i + 1) F hX hbl hbA hS hL (by omega) dL_law_2100 ?_
    refine lv_aload_n F.1 F.2.1 dL_law_2101 rfl (lv_at hl 1 rfl) ?_
    refine lv_iload F.1 F.2.1 dL_law_2102 (lv_at hl 6 rfl) ?_
    refine h_iconst F dL_law_2104 ?_
    refine h_iadd (a := i) (b := 2) F dL_law_2105 ?_
    refine h_sld (i := i + 2) F hX hbl hbA hS hL (by omega) dL_law_2106 ?_
    refine h_ifeq (a := px xs (i + 2)) (tgt := 2114) F dL_law_2107 (by decide) (px_r _ _) (fun _ => ?_) (fun h9 => absurd hz9 h9)
    refine h_iconst F dL_law_2114 ?_
    obtain ⟨⟨fm, hm⟩, hCM⟩ := hMo w1 hP
    refine cl_RL_247 (As := [.int (iI (px xs (i + 1))), .int (iI (bz false))]) (rest := []) F hl hCM hW hS hm rfl rfl ⟨Nat.le_of_ble_eq_true rfl, Nat.le_of_ble_eq_true rfl⟩ (Nat.le_of_ble_eq_true rfl) hroom dL_law_2115 (fun w2 H locs hp2 hW hS => ?_)
    obtain ⟨hST2, ⟨v9, hv9, hvk⟩, hout⟩ := hp2
    refine lv_istore (lv' := [(7, .int (iI bq)), (6, .int (iI k)), (0, .ref b), (1, .ref y), (2, .ref mo), (3, .ref ao), (4, .ref ad), (5, .int (iI i))]) F.1 F.2.1 dL_law_2118 hl (by decide) rfl (fun ls hl => ?_)
    refine lv_aload_n F.1 F.2.1 dL_law_2120 rfl (lv_at hl 4 rfl) ?_
    refine cl_RL_121 (As := []) (rest := []) F hl (c_X9_thrown l X w2 mo v9 hv9) hW hS hv9 rfl rfl ⟨Nat.le_of_ble_eq_true rfl, Nat.le_of_ble_eq_true rfl⟩ (Nat.le_of_ble_eq_true rfl) hroom dL_law_2121 (fun w3 H locs hp3 hW hS => ?_)
    rw [hp3] at hW
    refine h_top (show (v9 6 : Int) = k from hvk) ?_
    refine lv_iload F.1 F.2.1 dL_law_2124 (lv_at hl 1 rfl) ?_
    refine lv_icmp_eq (tgt := 2131) F.1 F.2.1 dL_law_2126 (by decide) (fun _ => ?_) (fun h9 => absurd rfl h9)
    refine lv_iload F.1 F.2.1 dL_law_2131 (lv_at hl 1 rfl) ?_
    refine h_ifne (a := k) (tgt := 2148) F dL_law_2133 (by decide) (by omega) (fun hne => ?_) (fun h0 => ?_)
    · skip
      refine h_goto (tgt := 2317) F dL_law_2148 (by decide) ?_
      exact kk _ _ _ _ hST2 (lv_sub hl [2, 3, 4, 5, 6, 7] rfl) hW hS
    · skip
      obtain ⟨g9, hg9, hgv9⟩ := hout h0
      refine lv_aload_n F.1 F.2.1 dL_law_2136 rfl (lv_at hl 5 rfl) ?_
      refine h_iconst F dL_law_2137 ?_
      refine h_lald F hW hg9 (by omega) (by omega) dL_law_2138 ?_
      refine h_topv (show (.long (g9 (0 : Int).toNat) : Value) = .long (iI bq).toInt64 from congrArg Value.long hgv9) ?_
      refine lv_iload F.1 F.2.1 dL_law_2139 (lv_at hl 0 rfl) ?_
      refine lv_i2l F.1 F.2.1 dL_law_2141 rfl ?_
      refine h_lsame (tgt := 2148) F dL_law_2142 rfl dL_law_2143 (by decide) ?_
      refine h_goto (tgt := 2317) F dL_law_2148 (by decide) ?_
      exact kk _ _ _ _ hST2 (lv_sub hl [2, 3, 4, 5, 6, 7] rfl) hW hS
  · skip
    refine h_iconst F dL_law_2083 ?_
    refine h_goto (tgt := 2088) F dL_law_2084 (by decide) ?_
    refine lv_aload_n F.1 F.2.1 dL_law_2088 rfl (lv_at hl 3 rfl) ?_
    obtain ⟨k, bq, P9, hk, hH, hMo⟩ := pr_writeRow l X w y mo ao ad hst hST (px xs (i + 1)) true (px_r xs (i + 1))
    refine cs_RL_245 (As := [.ref y, .int (iI (px xs (i + 1))), .int (iI (bz true)), .ref ao]) (rest := []) F hl hH hW hS rfl rfl ⟨Nat.le_of_ble_eq_true rfl, Nat.le_of_ble_eq_true rfl⟩ (Nat.le_of_ble_eq_true rfl) hroom dL_law_2089 (fun w1 H locs hP hW hS => ?_)
    refine lv_istore (lv' := [(6, .int (iI k)), (0, .ref b), (1, .ref y), (2, .ref mo), (3, .ref ao), (4, .ref ad), (5, .int (iI i))]) F.1 F.2.1 dL_law_2092 hl (by decide) rfl (fun ls hl => ?_)
    refine lv_aload_n F.1 F.2.1 dL_law_2094 rfl (lv_at hl 3 rfl) ?_
    refine lv_aload_n F.1 F.2.1 dL_law_2095 rfl (lv_at hl 1 rfl) ?_
    refine lv_iload F.1 F.2.1 dL_law_2096 (lv_at hl 6 rfl) ?_
    refine h_iconst F dL_law_2098 ?_
    refine h_iadd (a := i) (b := 1) F dL_law_2099 ?_
    refine h_sld (i := i + 1) F hX hbl hbA hS hL (by omega) dL_law_2100 ?_
    refine lv_aload_n F.1 F.2.1 dL_law_2101 rfl (lv_at hl 1 rfl) ?_
    refine lv_iload F.1 F.2.1 dL_law_2102 (lv_at hl 6 rfl) ?_
    refine h_iconst F dL_law_2104 ?_
    refine h_iadd (a := i) (b := 2) F dL_law_2105 ?_
    refine h_sld (i := i + 2) F hX hbl hbA hS hL (by omega) dL_law_2106 ?_
    refine h_ifeq (a := px xs (i + 2)) (tgt := 2114) F dL_law_2107 (by decide) (px_r _ _) (fun h9 => absurd h9 hz9) (fun _ => ?_)
    refine h_iconst F dL_law_2110 ?_
    refine h_goto (tgt := 2115) F dL_law_2111 (by decide) ?_
    obtain ⟨⟨fm, hm⟩, hCM⟩ := hMo w1 hP
    refine cl_RL_247 (As := [.int (iI (px xs (i + 1))), .int (iI (bz true))]) (rest := []) F hl hCM hW hS hm rfl rfl ⟨Nat.le_of_ble_eq_true rfl, Nat.le_of_ble_eq_true rfl⟩ (Nat.le_of_ble_eq_true rfl) hroom dL_law_2115 (fun w2 H locs hp2 hW hS => ?_)
    obtain ⟨hST2, ⟨v9, hv9, hvk⟩, hout⟩ := hp2
    refine lv_istore (lv' := [(7, .int (iI bq)), (6, .int (iI k)), (0, .ref b), (1, .ref y), (2, .ref mo), (3, .ref ao), (4, .ref ad), (5, .int (iI i))]) F.1 F.2.1 dL_law_2118 hl (by decide) rfl (fun ls hl => ?_)
    refine lv_aload_n F.1 F.2.1 dL_law_2120 rfl (lv_at hl 4 rfl) ?_
    refine cl_RL_121 (As := []) (rest := []) F hl (c_X9_thrown l X w2 mo v9 hv9) hW hS hv9 rfl rfl ⟨Nat.le_of_ble_eq_true rfl, Nat.le_of_ble_eq_true rfl⟩ (Nat.le_of_ble_eq_true rfl) hroom dL_law_2121 (fun w3 H locs hp3 hW hS => ?_)
    rw [hp3] at hW
    refine h_top (show (v9 6 : Int) = k from hvk) ?_
    refine lv_iload F.1 F.2.1 dL_law_2124 (lv_at hl 1 rfl) ?_
    refine lv_icmp_eq (tgt := 2131) F.1 F.2.1 dL_law_2126 (by decide) (fun _ => ?_) (fun h9 => absurd rfl h9)
    refine lv_iload F.1 F.2.1 dL_law_2131 (lv_at hl 1 rfl) ?_
    refine h_ifne (a := k) (tgt := 2148) F dL_law_2133 (by decide) (by omega) (fun hne => ?_) (fun h0 => ?_)
    · skip
      refine h_goto (tgt := 2317) F dL_law_2148 (by decide) ?_
      exact kk _ _ _ _ hST2 (lv_sub hl [2, 3, 4, 5, 6, 7] rfl) hW hS
    · skip
      obtain ⟨g9, hg9, hgv9⟩ := hout h0
      refine lv_aload_n F.1 F.2.1 dL_law_2136 rfl (lv_at hl 5 rfl) ?_
      refine h_iconst F dL_law_2137 ?_
      refine h_lald F hW hg9 (by omega) (by omega) dL_law_2138 ?_
      refine h_topv (show (.long (g9 (0 : Int).toNat) : Value) = .long (iI bq).toInt64 from congrArg Value.long hgv9) ?_
      refine lv_iload F.1 F.2.1 dL_law_2139 (lv_at hl 0 rfl) ?_
      refine lv_i2l F.1 F.2.1 dL_law_2141 rfl ?_
      refine h_lsame (tgt := 2148) F dL_law_2142 rfl dL_law_2143 (by decide) ?_
      refine h_goto (tgt := 2317) F dL_law_2148 (by decide) ?_
      exact kk _ _ _ _ hST2 (lv_sub hl [2, 3, 4, 5, 6, 7] rfl) hW hS
set_option maxHeartbeats 2000000 in
set_option maxRecDepth 100000 in
theorem lc_36 {p : Program} {l : Launch} {e : Env} {s : State} {m : MethodId} {args : Array Value} {below : List Frame} {meth : Method} {c : Code} {H : Heap} {locs : List Loc} {cells slots : Nat} {Q : State → Prop} {ls : Array Slot} {X : Cx} {w : Wo} {b L y mo ao ad : Nat} {xs : Nat → Int32} {i : Int} (hst : l.stackTraces = false) (F : Fx p m c cL_law 10 s args RL) (hX : va_X b L xs s s.heap) (hbl : b < s.heap.size) (hbA : ¬ cxA X b) (hL : (L : Int) ≤ 3072) (hST : ST X w y mo ao ad) (hi : 0 ≤ i ∧ i + 6 ≤ (L : Int)) (hl : lv_has ls 10 [(0, .ref b), (1, .ref y), (2, .ref mo), (3, .ref ao), (4, .ref ad), (5, .int (iI i))]) (hW : Wd X w s H) (hS : va_S (cxA X) s.heap H locs) (hroom : cells + 1 ≤ room_1.cells ∧ slots + 6 ≤ room_1.slots) (kk : ∀ (w2 : Wo) (H2 : Heap) (locs2 : List Loc) (ls2 : Array Slot), ST X w2 y mo ao ad → lv_has ls2 10 [(0, .ref b), (1, .ref y), (2, .ref mo), (3, .ref ao), (4, .ref ad), (5, .int (iI i))] → Wd X w2 s H2 → va_S (cxA X) s.heap H2 locs2 → W p l e room_1 s m args below meth c H2 locs2 (cells + 1) (slots + 6) Q (F0 m 2317 ls2 [])) : W p l e room_1 s m args below meth c H locs cells slots Q (F0 m 2151 ls []) := by
  refine lv_aload_n F.1 F.2.1 dL_law_2151 rfl (lv_at hl 1 rfl) ?_
  refine lv_aload_n F.1 F.2.1 dL_law_2152 rfl (lv_at hl 0 rfl) ?_
  refine lv_iload F.1 F.2.1 dL_law_2153 (lv_at hl 5 rfl) ?_
  refine h_iconst F dL_law_2155 ?_
  refine h_iadd (a := i) (b := 1) F dL_law_2156 ?_
  refine h_sld (i := i + 1) F hX hbl hbA hS hL (by omega) dL_law_2157 ?_
  refine lv_aload_n F.1 F.2.1 dL_law_2158 rfl (lv_at hl 3 rfl) ?_
  obtain ⟨k, bq, P9, hk, hH, hMo⟩ := pr_writeCaption l X w y mo ao ad hst hST (px xs (i + 1))  (px_r xs (i + 1))
  refine cs_RL_248 (As := [.ref y, .int (iI (px xs (i + 1))), .ref ao]) (rest := []) F hl hH hW hS rfl rfl ⟨Nat.le_of_ble_eq_true rfl, Nat.le_of_ble_eq_true rfl⟩ (Nat.le_of_ble_eq_true rfl) hroom dL_law_2159 (fun w1 H locs hP hW hS => ?_)
  refine lv_istore (lv' := [(6, .int (iI k)), (0, .ref b), (1, .ref y), (2, .ref mo), (3, .ref ao), (4, .ref ad), (5, .int (iI i))]) F.1 F.2.1 dL_law_2162 hl (by decide) rfl (fun ls hl => ?_)
  refine lv_aload_n F.1 F.2.1 dL_law_2164 rfl (lv_at hl 3 rfl) ?_
  refine lv_aload_n F.1 F.2.1 dL_law_2165 rfl (lv_at hl 1 rfl) ?_
  refine lv_iload F.1 F.2.1 dL_law_2166 (lv_at hl 6 rfl) ?_
  refine h_iconst F dL_law_2168 ?_
  refine h_iadd (a := i) (b := 1) F dL_law_2169 ?_
  refine h_sld (i := i + 1) F hX hbl hbA hS hL (by omega) dL_law_2170 ?_
  obtain ⟨⟨fm, hm⟩, hCM⟩ := hMo w1 hP
  refine cl_RL_250 (As := [.int (iI (px xs (i + 1)))]) (rest := []) F hl hCM hW hS hm rfl rfl ⟨Nat.le_of_ble_eq_true rfl, Nat.le_of_ble_eq_true rfl⟩ (Nat.le_of_ble_eq_true rfl) hroom dL_law_2171 (fun w2 H locs hp2 hW hS => ?_)
  obtain ⟨hST2, ⟨v9, hv9, hvk⟩, hout⟩ := hp2
  refine lv_istore (lv' := [(7, .int (iI bq)), (6, .int (iI k)), (0, .ref b), (1, .ref y), (2, .ref mo), (3, .ref ao), (4, .ref ad), (5, .int (iI i))]) F.1 F.2.1 dL_law_2174 hl (by decide) rfl (fun ls hl => ?_)
  refine lv_aload_n F.1 F.2.1 dL_law_2176 rfl (lv_at hl 4 rfl) ?_
  refine cl_RL_121 (As := []) (rest := []) F hl (c_X9_thrown l X w2 mo v9 hv9) hW hS hv9 rfl rfl ⟨Nat.le_of_ble_eq_true rfl, Nat.le_of_ble_eq_true rfl⟩ (Nat.le_of_ble_eq_true rfl) hroom dL_law_2177 (fun w3 H locs hp3 hW hS => ?_)
  rw [hp3] at hW
  refine h_top (show (v9 6 : Int) = k from hvk) ?_
  refine lv_iload F.1 F.2.1 dL_law_2180 (lv_at hl 1 rfl) ?_
  refine lv_icmp_eq (tgt := 2187) F.1 F.2.1 dL_law_2182 (by decide) (fun _ => ?_) (fun h9 => absurd rfl h9)
  refine lv_iload F.1 F.2.1 dL_law_2187 (lv_at hl 1 rfl) ?_
  refine h_ifne (a := k) (tgt := 2204) F dL_law_2189 (by decide) (by omega) (fun hne => ?_) (fun h0 => ?_)
  · skip
    refine h_goto (tgt := 2317) F dL_law_2204 (by decide) ?_
    exact kk _ _ _ _ hST2 (lv_sub hl [2, 3, 4, 5, 6, 7] rfl) hW hS
  · skip
    obtain ⟨g9, hg9, hgv9⟩ := hout h0
    refine lv_aload_n F.1 F.2.1 dL_law_2192 rfl (lv_at hl 5 rfl) ?_
    refine h_iconst F dL_law_2193 ?_
    refine h_lald F hW hg9 (by omega) (by omega) dL_law_2194 ?_
    refine h_topv (show (.long (g9 (0 : Int).toNat) : Value) = .long (iI bq).toInt64 from congrArg Value.long hgv9) ?_
    refine lv_iload F.1 F.2.1 dL_law_2195 (lv_at hl 0 rfl) ?_
    refine lv_i2l F.1 F.2.1 dL_law_2197 rfl ?_
    refine h_lsame (tgt := 2204) F dL_law_2198 rfl dL_law_2199 (by decide) ?_
    refine h_goto (tgt := 2317) F dL_law_2204 (by decide) ?_
    exact kk _ _ _ _ hST2 (lv_sub hl [2, 3, 4, 5, 6, 7] rfl) hW hS
set_option maxHeartbeats 2000000 in
set_option maxRecDepth 100000 in
theorem lc_37 {p : Program} {l : Launch} {e : Env} {s : State} {m : MethodId} {args : Array Value} {below : List Frame} {meth : Method} {c : Code} {H : Heap} {locs : List Loc} {cells slots : Nat} {Q : State → Prop} {ls : Array Slot} {X : Cx} {w : Wo} {b L y mo ao ad : Nat} {xs : Nat → Int32} {i : Int} (hst : l.stackTraces = false) (F : Fx p m c cL_law 10 s args RL) (hX : va_X b L xs s s.heap) (hbl : b < s.heap.size) (hbA : ¬ cxA X b) (hL : (L : Int) ≤ 3072) (hST : ST X w y mo ao ad) (hi : 0 ≤ i ∧ i + 6 ≤ (L : Int)) (hl : lv_has ls 10 [(0, .ref b), (1, .ref y), (2, .ref mo), (3, .ref ao), (4, .ref ad), (5, .int (iI i))]) (hW : Wd X w s H) (hS : va_S (cxA X) s.heap H locs) (hroom : cells + 1 ≤ room_1.cells ∧ slots + 6 ≤ room_1.slots) (kk : ∀ (w2 : Wo) (H2 : Heap) (locs2 : List Loc) (ls2 : Array Slot), ST X w2 y mo ao ad → lv_has ls2 10 [(0, .ref b), (1, .ref y), (2, .ref mo), (3, .ref ao), (4, .ref ad), (5, .int (iI i))] → Wd X w2 s H2 → va_S (cxA X) s.heap H2 locs2 → W p l e room_1 s m args below meth c H2 locs2 (cells + 1) (slots + 6) Q (F0 m 2317 ls2 [])) : W p l e room_1 s m args below meth c H locs cells slots Q (F0 m 2207 ls []) := by
  refine W.widen (k := cells + 1) (n := slots + 6) (by omega) (by omega) ?_
  obtain ⟨fy, hy⟩ := hST.y
  obtain ⟨bq, P9, hC, hMo⟩ := pr_output l X w y mo ao ad hST (px xs (i + 1)) (px_r xs (i + 1))
  refine lv_aload_n F.1 F.2.1 dL_law_2207 rfl (lv_at hl 1 rfl) ?_
  refine lv_aload_n F.1 F.2.1 dL_law_2208 rfl (lv_at hl 0 rfl) ?_
  refine lv_iload F.1 F.2.1 dL_law_2209 (lv_at hl 5 rfl) ?_
  refine h_iconst F dL_law_2211 ?_
  refine h_iadd (a := i) (b := 1) F dL_law_2212 ?_
  refine h_sld (i := i + 1) F hX hbl hbA hS hL (by omega) dL_law_2213 ?_
  refine cl_RL_251 (As := [.int (iI (px xs (i + 1)))]) (rest := []) F hl hC hW hS hy rfl rfl ⟨Nat.le_of_ble_eq_true rfl, Nat.le_of_ble_eq_true rfl⟩ (Nat.le_of_ble_eq_true rfl) hroom dL_law_2214 (fun w1 H locs hP hW hS => ?_)
  refine lv_aload_n F.1 F.2.1 dL_law_2217 rfl (lv_at hl 2 rfl) ?_
  refine lv_aload_n F.1 F.2.1 dL_law_2218 rfl (lv_at hl 0 rfl) ?_
  refine lv_iload F.1 F.2.1 dL_law_2219 (lv_at hl 5 rfl) ?_
  refine h_iconst F dL_law_2221 ?_
  refine h_iadd (a := i) (b := 1) F dL_law_2222 ?_
  refine h_sld (i := i + 1) F hX hbl hbA hS hL (by omega) dL_law_2223 ?_
  obtain ⟨⟨fm, hm⟩, hCM⟩ := hMo w1 hP
  refine cl_RL_254 (As := [.int (iI (px xs (i + 1)))]) (rest := [.int (iI bq)]) F hl hCM hW hS hm rfl rfl ⟨Nat.le_of_ble_eq_true rfl, Nat.le_of_ble_eq_true rfl⟩ (Nat.le_of_ble_eq_true rfl) hroom dL_law_2224 (fun w2 H locs hp2 hW hS => ?_)
  have hST2 := hp2
  refine lv_icmp_eq (tgt := 2317) F.1 F.2.1 dL_law_2227 (by decide) (fun _ => ?_) (fun h9 => absurd rfl h9)
  exact kk _ _ _ _ hST2 (lv_sub hl [0, 1, 2, 3, 4, 5] rfl) hW hS
set_option maxHeartbeats 2000000 in
set_option maxRecDepth 100000 in
theorem lc_38 {p : Program} {l : Launch} {e : Env} {s : State} {m : MethodId} {args : Array Value} {below : List Frame} {meth : Method} {c : Code} {H : Heap} {locs : List Loc} {cells slots : Nat} {Q : State → Prop} {ls : Array Slot} {X : Cx} {w : Wo} {b L y mo ao ad : Nat} {xs : Nat → Int32} {i : Int} (hst : l.stackTraces = false) (F : Fx p m c cL_law 10 s args RL) (hX : va_X b L xs s s.heap) (hbl : b < s.heap.size) (hbA : ¬ cxA X b) (hL : (L : Int) ≤ 3072) (hST : ST X w y mo ao ad) (hi : 0 ≤ i ∧ i + 6 ≤ (L : Int)) (hl : lv_has ls 10 [(0, .ref b), (1, .ref y), (2, .ref mo), (3, .ref ao), (4, .ref ad), (5, .int (iI i))]) (hW : Wd X w s H) (hS : va_S (cxA X) s.heap H locs) (hroom : cells + 1 ≤ room_1.cells ∧ slots + 6 ≤ room_1.slots) (kk : ∀ (w2 : Wo) (H2 : Heap) (locs2 : List Loc) (ls2 : Array Slot), ST X w2 y mo ao ad → lv_has ls2 10 [(0, .ref b), (1, .ref y), (2, .ref mo), (3, .ref ao), (4, .ref ad), (5, .int (iI i))] → Wd X w2 s H2 → va_S (cxA X) s.heap H2 locs2 → W p l e room_1 s m args below meth c H2 locs2 (cells + 1) (slots + 6) Q (F0 m 2317 ls2 [])) : W p l e room_1 s m args below meth c H locs cells slots Q (F0 m 2232 ls []) := by
  refine W.widen (k := cells + 1) (n := slots + 6) (by omega) (by omega) ?_
  obtain ⟨fy, hy⟩ := hST.y
  obtain ⟨bq, P9, hC, hMo⟩ := pr_undo l X w y mo ao ad hST
  refine lv_aload_n F.1 F.2.1 dL_law_2232 rfl (lv_at hl 1 rfl) ?_
  refine cl_RL_255 (As := []) (rest := []) F hl hC hW hS hy rfl rfl ⟨Nat.le_of_ble_eq_true rfl, Nat.le_of_ble_eq_true rfl⟩ (Nat.le_of_ble_eq_true rfl) hroom dL_law_2233 (fun w1 H locs hP hW hS => ?_)
  refine lv_aload_n F.1 F.2.1 dL_law_2236 rfl (lv_at hl 2 rfl) ?_
  obtain ⟨⟨fm, hm⟩, hCM⟩ := hMo w1 hP
  refine cl_RL_258 (As := []) (rest := [.int (iI bq)]) F hl hCM hW hS hm rfl rfl ⟨Nat.le_of_ble_eq_true rfl, Nat.le_of_ble_eq_true rfl⟩ (Nat.le_of_ble_eq_true rfl) hroom dL_law_2237 (fun w2 H locs hp2 hW hS => ?_)
  have hST2 := hp2
  refine lv_icmp_eq (tgt := 2317) F.1 F.2.1 dL_law_2240 (by decide) (fun _ => ?_) (fun h9 => absurd rfl h9)
  exact kk _ _ _ _ hST2 (lv_sub hl [0, 1, 2, 3, 4, 5] rfl) hW hS
set_option maxHeartbeats 2000000 in
set_option maxRecDepth 100000 in
theorem lc_39 {p : Program} {l : Launch} {e : Env} {s : State} {m : MethodId} {args : Array Value} {below : List Frame} {meth : Method} {c : Code} {H : Heap} {locs : List Loc} {cells slots : Nat} {Q : State → Prop} {ls : Array Slot} {X : Cx} {w : Wo} {b L y mo ao ad : Nat} {xs : Nat → Int32} {i : Int} (hst : l.stackTraces = false) (F : Fx p m c cL_law 10 s args RL) (hX : va_X b L xs s s.heap) (hbl : b < s.heap.size) (hbA : ¬ cxA X b) (hL : (L : Int) ≤ 3072) (hST : ST X w y mo ao ad) (hi : 0 ≤ i ∧ i + 6 ≤ (L : Int)) (hl : lv_has ls 10 [(0, .ref b), (1, .ref y), (2, .ref mo), (3, .ref ao), (4, .ref ad), (5, .int (iI i))]) (hW : Wd X w s H) (hS : va_S (cxA X) s.heap H locs) (hroom : cells + 1 ≤ room_1.cells ∧ slots + 6 ≤ room_1.slots) (kk : ∀ (w2 : Wo) (H2 : Heap) (locs2 : List Loc) (ls2 : Array Slot), ST X w2 y mo ao ad → lv_has ls2 10 [(0, .ref b), (1, .ref y), (2, .ref mo), (3, .ref ao), (4, .ref ad), (5, .int (iI i))] → Wd X w2 s H2 → va_S (cxA X) s.heap H2 locs2 → W p l e room_1 s m args below meth c H2 locs2 (cells + 1) (slots + 6) Q (F0 m 2317 ls2 [])) : W p l e room_1 s m args below meth c H locs cells slots Q (F0 m 2245 ls []) := by
  refine lv_aload_n F.1 F.2.1 dL_law_2245 rfl (lv_at hl 1 rfl) ?_
  refine lv_aload_n F.1 F.2.1 dL_law_2246 rfl (lv_at hl 0 rfl) ?_
  refine lv_iload F.1 F.2.1 dL_law_2247 (lv_at hl 5 rfl) ?_
  refine h_iconst F dL_law_2249 ?_
  refine h_iadd (a := i) (b := 1) F dL_law_2250 ?_
  refine h_sld (i := i + 1) F hX hbl hbA hS hL (by omega) dL_law_2251 ?_
  obtain ⟨k, P9, hk, hH, hMo⟩ := pr_save l X w y mo ao ad hst hST (px xs (i + 1))  (px_r xs (i + 1))
  refine cs_RL_259 (As := [.ref y, .int (iI (px xs (i + 1)))]) (rest := []) F hl hH hW hS rfl rfl ⟨Nat.le_of_ble_eq_true rfl, Nat.le_of_ble_eq_true rfl⟩ (Nat.le_of_ble_eq_true rfl) hroom dL_law_2252 (fun w1 H locs hP hW hS => ?_)
  refine lv_istore (lv' := [(6, .int (iI k)), (0, .ref b), (1, .ref y), (2, .ref mo), (3, .ref ao), (4, .ref ad), (5, .int (iI i))]) F.1 F.2.1 dL_law_2255 hl (by decide) rfl (fun ls hl => ?_)
  refine lv_aload_n F.1 F.2.1 dL_law_2257 rfl (lv_at hl 3 rfl) ?_
  refine lv_aload_n F.1 F.2.1 dL_law_2258 rfl (lv_at hl 1 rfl) ?_
  refine lv_iload F.1 F.2.1 dL_law_2259 (lv_at hl 6 rfl) ?_
  refine h_iconst F dL_law_2261 ?_
  refine h_iadd (a := i) (b := 1) F dL_law_2262 ?_
  refine h_sld (i := i + 1) F hX hbl hbA hS hL (by omega) dL_law_2263 ?_
  obtain ⟨⟨fm, hm⟩, hCM⟩ := hMo w1 hP
  refine cl_RL_262 (As := [.int (iI (px xs (i + 1)))]) (rest := []) F hl hCM hW hS hm rfl rfl ⟨Nat.le_of_ble_eq_true rfl, Nat.le_of_ble_eq_true rfl⟩ (Nat.le_of_ble_eq_true rfl) hroom dL_law_2264 (fun w2 H locs hp2 hW hS => ?_)
  obtain ⟨hST2, v9, hv9, hvk⟩ := hp2
  refine lv_aload_n F.1 F.2.1 dL_law_2267 rfl (lv_at hl 3 rfl) ?_
  refine cl_RL_121 (As := []) (rest := []) F hl (c_X9_thrown l X w2 mo v9 hv9) hW hS hv9 rfl rfl ⟨Nat.le_of_ble_eq_true rfl, Nat.le_of_ble_eq_true rfl⟩ (Nat.le_of_ble_eq_true rfl) hroom dL_law_2268 (fun w3 H locs hp3 hW hS => ?_)
  rw [hp3] at hW
  refine h_top (show (v9 6 : Int) = k from hvk) ?_
  refine lv_iload F.1 F.2.1 dL_law_2271 (lv_at hl 0 rfl) ?_
  refine lv_icmp_eq (tgt := 2278) F.1 F.2.1 dL_law_2273 (by decide) (fun _ => ?_) (fun h9 => absurd rfl h9)
  refine h_goto (tgt := 2317) F dL_law_2278 (by decide) ?_
  exact kk _ _ _ _ hST2 (lv_sub hl [1, 2, 3, 4, 5, 6] rfl) hW hS
set_option maxHeartbeats 2000000 in
set_option maxRecDepth 100000 in
theorem lc_40 {p : Program} {l : Launch} {e : Env} {s : State} {m : MethodId} {args : Array Value} {below : List Frame} {meth : Method} {c : Code} {H : Heap} {locs : List Loc} {cells slots : Nat} {Q : State → Prop} {ls : Array Slot} {X : Cx} {w : Wo} {b L y mo ao ad : Nat} {xs : Nat → Int32} {i : Int} (hst : l.stackTraces = false) (F : Fx p m c cL_law 10 s args RL) (hX : va_X b L xs s s.heap) (hbl : b < s.heap.size) (hbA : ¬ cxA X b) (hL : (L : Int) ≤ 3072) (hST : ST X w y mo ao ad) (hi : 0 ≤ i ∧ i + 6 ≤ (L : Int)) (hl : lv_has ls 10 [(0, .ref b), (1, .ref y), (2, .ref mo), (3, .ref ao), (4, .ref ad), (5, .int (iI i))]) (hW : Wd X w s H) (hS : va_S (cxA X) s.heap H locs) (hroom : cells + 1 ≤ room_1.cells ∧ slots + 6 ≤ room_1.slots) (kk : ∀ (w2 : Wo) (H2 : Heap) (locs2 : List Loc) (ls2 : Array Slot), ST X w2 y mo ao ad → lv_has ls2 10 [(0, .ref b), (1, .ref y), (2, .ref mo), (3, .ref ao), (4, .ref ad), (5, .int (iI i))] → Wd X w2 s H2 → va_S (cxA X) s.heap H2 locs2 → W p l e room_1 s m args below meth c H2 locs2 (cells + 1) (slots + 6) Q (F0 m 2317 ls2 [])) : W p l e room_1 s m args below meth c H locs cells slots Q (F0 m 2281 ls []) := by
  refine lv_aload_n F.1 F.2.1 dL_law_2281 rfl (lv_at hl 1 rfl) ?_
  refine lv_aload_n F.1 F.2.1 dL_law_2282 rfl (lv_at hl 0 rfl) ?_
  refine lv_iload F.1 F.2.1 dL_law_2283 (lv_at hl 5 rfl) ?_
  refine h_iconst F dL_law_2285 ?_
  refine h_iadd (a := i) (b := 1) F dL_law_2286 ?_
  refine h_sld (i := i + 1) F hX hbl hbA hS hL (by omega) dL_law_2287 ?_
  obtain ⟨k, P9, hk, hH, hMo⟩ := pr_restore l X w y mo ao ad hst hST (px xs (i + 1))  (px_r xs (i + 1))
  refine cs_RL_263 (As := [.ref y, .int (iI (px xs (i + 1)))]) (rest := []) F hl hH hW hS rfl rfl ⟨Nat.le_of_ble_eq_true rfl, Nat.le_of_ble_eq_true rfl⟩ (Nat.le_of_ble_eq_true rfl) hroom dL_law_2288 (fun w1 H locs hP hW hS => ?_)
  refine lv_istore (lv' := [(6, .int (iI k)), (0, .ref b), (1, .ref y), (2, .ref mo), (3, .ref ao), (4, .ref ad), (5, .int (iI i))]) F.1 F.2.1 dL_law_2291 hl (by decide) rfl (fun ls hl => ?_)
  refine lv_aload_n F.1 F.2.1 dL_law_2293 rfl (lv_at hl 3 rfl) ?_
  refine lv_aload_n F.1 F.2.1 dL_law_2294 rfl (lv_at hl 1 rfl) ?_
  refine lv_iload F.1 F.2.1 dL_law_2295 (lv_at hl 6 rfl) ?_
  refine h_iconst F dL_law_2297 ?_
  refine h_iadd (a := i) (b := 1) F dL_law_2298 ?_
  refine h_sld (i := i + 1) F hX hbl hbA hS hL (by omega) dL_law_2299 ?_
  obtain ⟨⟨fm, hm⟩, hCM⟩ := hMo w1 hP
  refine cl_RL_265 (As := [.int (iI (px xs (i + 1)))]) (rest := []) F hl hCM hW hS hm rfl rfl ⟨Nat.le_of_ble_eq_true rfl, Nat.le_of_ble_eq_true rfl⟩ (Nat.le_of_ble_eq_true rfl) hroom dL_law_2300 (fun w2 H locs hp2 hW hS => ?_)
  obtain ⟨hST2, v9, hv9, hvk⟩ := hp2
  refine lv_aload_n F.1 F.2.1 dL_law_2303 rfl (lv_at hl 3 rfl) ?_
  refine cl_RL_121 (As := []) (rest := []) F hl (c_X9_thrown l X w2 mo v9 hv9) hW hS hv9 rfl rfl ⟨Nat.le_of_ble_eq_true rfl, Nat.le_of_ble_eq_true rfl⟩ (Nat.le_of_ble_eq_true rfl) hroom dL_law_2304 (fun w3 H locs hp3 hW hS => ?_)
  rw [hp3] at hW
  refine h_top (show (v9 6 : Int) = k from hvk) ?_
  refine lv_iload F.1 F.2.1 dL_law_2307 (lv_at hl 0 rfl) ?_
  refine lv_icmp_eq (tgt := 2314) F.1 F.2.1 dL_law_2309 (by decide) (fun _ => ?_) (fun h9 => absurd rfl h9)
  refine h_goto (tgt := 2317) F dL_law_2314 (by decide) ?_
  exact kk _ _ _ _ hST2 (lv_sub hl [1, 2, 3, 4, 5, 6] rfl) hW hS
