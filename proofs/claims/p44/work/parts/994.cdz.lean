theorem re_dL {f v : Int → Int} (h : re3 v 18 ≠ 0) : (∀ (b : Nat) (N m : Int), rL b (cR f N (reV f v) m) = rL b (cR f N (re3 v) m)) ∧ reV f v 18 ≠ 0 := by
  have h4 : up (re3 v) 23 1 18 ≠ 0 := h
  have e5 : re5 f v = up (re3 v) 23 1 := mu_d h4
  have e : reV f v = re5 f v := tk_d (by rw [e5]; exact h4)
  rw [e, e5]
  exact ⟨fun b N m => rL_eq (c7 rfl rfl rfl rfl rfl rfl rfl), h4⟩
theorem dl_de {X : Cx} {w w2 : Wo} {a : Nat} {d : Int → Int} {x : Int} (h : dlA X w a d) (ho : w2 a = some (.inr (5, lmF (up d 2 x) a))) (hf : ∀ q : Nat, q ≠ a → w2 q = w q) : dlA X w2 a (up d 2 x) :=
  ⟨lmA_fld h.1 h.2 2 x (by decide) ho hf, h.2.1, fun k k0 k1 => by
    have e : cp (up d 2 x) k 0 = cp d k 0 := up_n (by omega)
    rw [e]
    exact h.2.2 k k0 k1⟩
theorem mu_dec {f v : Int → Int} {b : Bool} (h : v 18 = 0) : decide (muV f b v 18 = 0) = b := by
  cases b
  · rw [mu_f h]; exact decide_eq_false (fa_ne (by decide))
  · rw [mu_t h]; exact decide_eq_true ((go_n (by decide)).trans h)
theorem rdp_1 {f v : Int → Int} (h5 : v 18 = 0) (h : isWR f v 0 = false) : rd1 f v 18 ≠ 0 := by
  unfold rd1
  rw [h, mu_f h5]
  exact fa_ne (by decide)
theorem rdq_1 {f v : Int → Int} (h5 : v 18 = 0) (h : isWR f v 0 = true) : rd1 f v 18 = 0 := by
  unfold rd1
  rw [h, mu_t h5, go_n (by decide)]
  exact h5
theorem rd_d3 {f v : Int → Int} (h : rd3 f v 18 ≠ 0) : rd4 f v = rd3 f v ∧ rd4 f v 18 ≠ 0 := by
  have e : rd4 f v = rd3 f v := mu_d h
  exact ⟨e, by rw [e]; exact h⟩
theorem rd_d2 {f v : Int → Int} (h : rd2 f v 18 ≠ 0) : rd4 f v = rd2 f v ∧ rd4 f v 18 ≠ 0 := by
  have e : rd3 f v = rd2 f v := tk_d h
  have h3 := rd_d3 (f := f) (v := v) (by rw [e]; exact h)
  exact ⟨h3.1.trans e, h3.2⟩
theorem rd_d1 {f v : Int → Int} (h : rd1 f v 18 ≠ 0) : rd4 f v = rd1 f v ∧ rd4 f v 18 ≠ 0 := by
  have e : rd2 f v = rd1 f v := tk_d h
  have h3 := rd_d2 (f := f) (v := v) (by rw [e]; exact h)
  exact ⟨h3.1.trans e, h3.2⟩
set_option maxHeartbeats 4000000 in
set_option maxRecDepth 100000 in
theorem c_X2_readDelay (l : Launch) (X : Cx) (w : Wo) (y : Nat) (N num : Int) (f v d : Int → Int) (hR : w (y + 311) = some (.inr (6, rL (y + 307) (cR f N v num)))) (hB : w (y + 307) = some (.inr (0, [.ref (y + 308), .int (iI N)]))) (hT : w (y + 308) = some (aZ X 400 f)) (hvi : vI f v) (hN : v 11 = N) (hwd : WF d) (hE : w (y + 312) = some (.inr (2, [.ref (y + 311), .ref (y + 313), .int (iI (v 22)), .int (iI (v 23))]))) (hL : dlA X w (y + 26) d) (hlv : v 18 = 0) : CM l X yX2_readDelay cX2_readDelay 2 (some (.boolean)) (rmk 3 67) [.ref (y + 312), .ref (y + 26)] w (some (.int (iI (bz (decide (reV f v 18 = 0)))))) (fun w' => (∃ m : Int, w' (y + 311) = some (.inr (6, rL (y + 307) (cR f N (reV f v) m)))) ∧ (∃ c1 d1 : Int, w' (y + 312) = some (.inr (2, [.ref (y + 311), .ref (y + 313), .int (iI c1), .int (iI d1)])) ∧ (reV f v 18 = 0 → c1 = reV f v 22 ∧ d1 = reV f v 23)) ∧ (∃ τ, dlA X w' (y + 26) τ ∧ (reV f v 18 = 0 → τ = reD f v d)) ∧ ∀ q : Nat, q ≠ y + 311 → q ≠ y + 312 → (q < y + 26 ∨ y + 51 ≤ q) → w' q = w q) := by
  refine CM.of (lv := [(0, .ref (y + 312)), (1, .ref (y + 26))]) (by decide) (Nat.le_of_ble_eq_true rfl) rfl (fun p e s m below meth c ls F hr hlk hin hW hS hl => ?_)
  have hZ0 := hW.2.2
  have hB9 := hW.1.2
  clear hin
  have hvp := hvi.1
  have h22 := hvi.2.1
  have h23 := hvi.2.2
  have hp3 := re3_P hvp
  have hp4 := re4_P hvp
  have hLo := hL.1.o
  refine lv_aload_n F.1 F.2.1 dX2_readDelay_0 rfl (lv_at hl 0 rfl) ?_
  refine gf_RX2_26 F hW hE rfl dX2_readDelay_1 ?_
  refine h_ifeq (tgt := 16) F dX2_readDelay_4 (by decide) (by omega) (fun c1 => ?_) (fun c1 => ?_)
  · have e3 : re3 v = v := if_pos (by omega)
    have hM4 : up (re3 v) 23 1 11 = N := by (show re3 v 11 = N; rw [e3]; exact hN)
    have hl4 : up (re3 v) 23 1 18 = 0 := by (show re3 v 18 = 0; rw [e3]; exact hlv)
    have e5 : re5 f v = goV f (up (re3 v) 23 1) := mu_t hl4
    have hp5 : vP f (re5 f v) := hp4.mu
    have hM5 : re5 f v 11 = N := (mu_n (by omega)).trans hM4
    have hl5 : re5 f v 18 = 0 := by rw [e5, go_n (by decide)]; exact hl4
    refine lv_aload_n F.1 F.2.1 dX2_readDelay_16 rfl (lv_at hl 0 rfl) ?_
    refine h_iconst F dX2_readDelay_17 ?_
    refine h_top (show (1 : Int) = bz true from rfl) ?_
    refine pf_RX2_26 F hW hS hE (Nat.le_of_ble_eq_true rfl) dX2_readDelay_18 (fun w2 H locs ho4 hn3 hW hS => ?_)
    have ho4 : w2 (y + 312) = some (.inr (2, [.ref (y + 311), .ref (y + 313), .int (iI (v 22)), .int (iI (bz true))])) := ho4
    have hR := (hn3 _ (by omega)).trans hR
    have hB := (hn3 _ (by omega)).trans hB
    have hLo := (hn3 _ (by omega)).trans hLo
    have hT := (hn3 _ (by omega)).trans hT
    have hL := hL.mv (w2 := w2) (fun q h1 h2 => hn3 q (by omega))
    have hX5 : w2 (y + 311) = some (.inr (6, rL (y + 307) (cR f N (up (re3 v) 23 1) num))) := by rw [show rL (y + 307) (cR f N (up (re3 v) 23 1) num) = rL (y + 307) (cR f N v num) from (by rw [e3]; exact rL_eq (c7 rfl rfl rfl rfl rfl rfl rfl))]; exact hR
    refine lv_aload_n F.1 F.2.1 dX2_readDelay_21 rfl (lv_at hl 0 rfl) ?_
    refine gf_RX2_18 F hW ho4 rfl dX2_readDelay_22 ?_
    refine cl_RX2_92 (As := []) (rest := []) F hl (k_step l X w2 (y + 311) (y + 307) (y + 308) N f (up (re3 v) 23 1) num hX5 hB hT hp4 hM4 (by omega)) hW hS hX5 rfl rfl ⟨Nat.le_of_ble_eq_true rfl, Nat.le_of_ble_eq_true rfl⟩ (Nat.le_of_ble_eq_true rfl) ⟨Nat.zero_le _, Nat.zero_le _⟩ dX2_readDelay_25 (fun w6 H locs hp7 hW hS => ?_)
    obtain ⟨ho8, hn9⟩ := hp7
    have hB := (hn9 _ (by omega)).trans hB
    have ho4 := (hn9 _ (by omega)).trans ho4
    have hLo := (hn9 _ (by omega)).trans hLo
    have hT := (hn9 _ (by omega)).trans hT
    have hL := hL.mv (w2 := w6) (fun q h1 h2 => hn9 q (by omega))
    have hX10 : w6 (y + 311) = some (.inr (6, rL (y + 307) (cR f N (re5 f v) num))) := by rw [show (re5 f v : Int → Int) = goV f (up (re3 v) 23 1) from e5]; exact ho8
    refine lv_aload_n F.1 F.2.1 dX2_readDelay_28 rfl (lv_at hl 0 rfl) ?_
    refine gf_RX2_18 F hW ho4 rfl dX2_readDelay_29 ?_
    refine h_iconst F dX2_readDelay_32 ?_
    refine h_bipush F dX2_readDelay_33 rfl ?_
    refine cl_RX2_55 (As := [.int (iI 0), .int (iI 30)]) (rest := []) F hl (k_takeNumber l X w6 (y + 311) (y + 307) (y + 308) N f (re5 f v) num 0 30 hX10 hB hT hp5 hM5 (by omega) hl5 (by omega) (by omega)) hW hS hX10 rfl rfl ⟨Nat.le_of_ble_eq_true rfl, Nat.le_of_ble_eq_true rfl⟩ (Nat.le_of_ble_eq_true rfl) ⟨Nat.zero_le _, Nat.zero_le _⟩ dX2_readDelay_35 (fun w11 H locs hp12 hW hS => ?_)
    obtain ⟨ho13, hn14⟩ := hp12
    have hB := (hn14 _ (by omega)).trans hB
    have ho4 := (hn14 _ (by omega)).trans ho4
    have hLo := (hn14 _ (by omega)).trans hLo
    have hT := (hn14 _ (by omega)).trans hT
    have hL := hL.mv (w2 := w11) (fun q h1 h2 => hn14 q (by omega))
    have hX15 : w11 (y + 311) = some (.inr (6, rL (y + 307) (cR f N (reV f v) (nuS 0 30 (re5 f v) num)))) := by rw [show (reV f v : Int → Int) = tkV f 0 30 (re5 f v) from rfl]; exact ho13
    refine h_ifneb (tgt := 43) F dX2_readDelay_38 (by decide) (fun c16 => ?_) (fun c16 => ?_)
    · have c16d := of_decide_eq_true c16
      have hx : reV f v 18 = 0 := by assumption
      have eU : ∀ (b : Nat) (N m : Int), rL b (cR f N (reV f v) m) = rL b (cR f N (reV f v) m) := fun _ _ _ => rfl
      refine lv_aload_n F.1 F.2.1 dX2_readDelay_43 rfl (lv_at hl 1 rfl) ?_
      refine lv_aload_n F.1 F.2.1 dX2_readDelay_44 rfl (lv_at hl 0 rfl) ?_
      refine gf_RX2_18 F hW ho4 rfl dX2_readDelay_45 ?_
      refine gf_RX2_59 F hW hX15 rfl dX2_readDelay_48 ?_
      refine h_top (show ((cR f N (reV f v) (nuS 0 30 (re5 f v) num)) 5 : Int) = seR 0 30 (re5 f v) from by show nuS 0 30 (re5 f v) _ = _; unfold nuS; rw [← tk_18 (f := f), if_pos (show tkV f 0 30 (re5 f v) 18 = 0 from hx)]) ?_
      have hL0 := hL
      refine pf_RX2_159 F hW hS hLo (Nat.le_of_ble_eq_true rfl) dX2_readDelay_51 (fun w17 H locs ho19 hn18 hW hS => ?_)
      have ho19 : w17 (y + 26) = some (.inr (5, [.ref (y + 26 + 1), .ref (y + 26 + 3), .ref (y + 26 + 5), .ref (y + 26 + 6), .ref (y + 26 + 7), .int (iI (d 5)), .int (iI (d 0)), .int (iI (d 1)), .int (iI (d 4)), .int (iI (d 3)), .int (iI (seR 0 30 (re5 f v)))])) := ho19
      have hX15 := (hn18 _ (by omega)).trans hX15
      have hB := (hn18 _ (by omega)).trans hB
      have ho4 := (hn18 _ (by omega)).trans ho4
      have hT := (hn18 _ (by omega)).trans hT
      have hLn : dlA X w17 (y + 26) (reD f v d) := dl_de hL0 (show w17 (y + 26) = some (.inr (5, lmF (up d 2 (seR 0 30 (re5 f v))) (y + 26))) from ho19) hn18
      have hLO : (∃ τ, dlA X w17 (y + 26) τ ∧ (reV f v 18 = 0 → τ = reD f v d)) := ⟨_, hLn, fun _ => rfl⟩
      have hE2 : (∃ c1 d1 : Int, w17 (y + 312) = some (.inr (2, [.ref (y + 311), .ref (y + 313), .int (iI c1), .int (iI d1)])) ∧ (reV f v 18 = 0 → c1 = reV f v 22 ∧ d1 = reV f v 23)) := ⟨_, _, ho4, fun _ => ⟨(reV_n (by omega) (by decide)).symm, reV_23.symm⟩⟩
      refine h_iconst F dX2_readDelay_54 ?_
      refine h_top (show (1 : Int) = bz (decide (reV f v 18 = 0)) from by first | exact bzt (decide_eq_true hx) | exact bzf (decide_eq_false hx) | exact congrArg bz (decide_eq_false hx).symm) ?_
      exact h_iretz F hr hlk hW hS ⟨⟨_, by rw [eU]; exact hX15⟩, hE2, hLO, (fun q h09 h19 h29 => by rw [hn18 q (by omega), hn14 q (by omega), hn9 q (by omega), hn3 q (by omega)])⟩ dX2_readDelay_55
    · have c16d := of_decide_eq_false c16
      have hx : reV f v 18 ≠ 0 := by assumption
      have eU : ∀ (b : Nat) (N m : Int), rL b (cR f N (reV f v) m) = rL b (cR f N (reV f v) m) := fun _ _ _ => rfl
      have hE2 : (∃ c1 d1 : Int, w11 (y + 312) = some (.inr (2, [.ref (y + 311), .ref (y + 313), .int (iI c1), .int (iI d1)])) ∧ (reV f v 18 = 0 → c1 = reV f v 22 ∧ d1 = reV f v 23)) := ⟨_, _, ho4, fun z => absurd z hx⟩
      have hLO : (∃ τ, dlA X w11 (y + 26) τ ∧ (reV f v 18 = 0 → τ = reD f v d)) := ⟨_, hL, fun z => absurd z hx⟩
      refine h_iconst F dX2_readDelay_41 ?_
      refine h_top (show (0 : Int) = bz (decide (reV f v 18 = 0)) from by first | exact bzt (decide_eq_true hx) | exact bzf (decide_eq_false hx) | exact congrArg bz (decide_eq_false hx).symm) ?_
      exact h_iretz F hr hlk hW hS ⟨⟨_, by rw [eU]; exact hX15⟩, hE2, hLO, (fun q h09 h19 h29 => by rw [hn14 q (by omega), hn9 q (by omega), hn3 q (by omega)])⟩ dX2_readDelay_42
  · have e3 : re3 v = faV 3 v := if_neg (by omega)
    obtain ⟨eU, hx⟩ := re_dL (f := f) (v := v) (by rw [e3]; exact fa_ne (by decide))
    rw [e3] at eU
    refine lv_aload_n F.1 F.2.1 dX2_readDelay_7 rfl (lv_at hl 0 rfl) ?_
    refine gf_RX2_18 F hW hE rfl dX2_readDelay_8 ?_
    refine h_iconst F dX2_readDelay_11 ?_
    refine cl_RX2_86 (As := [.int (iI 3)]) (rest := []) F hl (k_fail l X w (y + 311) (y + 307) (y + 308) N f v num 3 hR hB hT hvp hN (by omega) hlv) hW hS hR rfl rfl ⟨Nat.le_of_ble_eq_true rfl, Nat.le_of_ble_eq_true rfl⟩ (Nat.le_of_ble_eq_true rfl) ⟨Nat.zero_le _, Nat.zero_le _⟩ dX2_readDelay_12 (fun w20 H locs hp21 hW hS => ?_)
    obtain ⟨ho22, hn23⟩ := hp21
    have hB := (hn23 _ (by omega)).trans hB
    have hE := (hn23 _ (by omega)).trans hE
    have hLo := (hn23 _ (by omega)).trans hLo
    have hT := (hn23 _ (by omega)).trans hT
    have hL := hL.mv (w2 := w20) (fun q h1 h2 => hn23 q (by omega))
    have hE2 : (∃ c1 d1 : Int, w20 (y + 312) = some (.inr (2, [.ref (y + 311), .ref (y + 313), .int (iI c1), .int (iI d1)])) ∧ (reV f v 18 = 0 → c1 = reV f v 22 ∧ d1 = reV f v 23)) := ⟨_, _, hE, fun z => absurd z hx⟩
    have hLO : (∃ τ, dlA X w20 (y + 26) τ ∧ (reV f v 18 = 0 → τ = reD f v d)) := ⟨_, hL, fun z => absurd z hx⟩
    refine h_top (show (bz false : Int) = bz (decide (reV f v 18 = 0)) from by first | exact bzt (decide_eq_true hx) | exact bzf (decide_eq_false hx) | exact congrArg bz (decide_eq_false hx).symm) ?_
    exact h_iretz F hr hlk hW hS ⟨⟨_, by rw [eU]; exact ho22⟩, hE2, hLO, (fun q h09 h19 h29 => by rw [hn23 q (by omega)])⟩ dX2_readDelay_15
set_option maxHeartbeats 4000000 in
set_option maxRecDepth 100000 in
theorem c_X2_readSize (l : Launch) (X : Cx) (w : Wo) (y : Nat) (N num : Int) (f v d : Int → Int) (ct dt : Int) (τ0 : Int → Int) (hR : w (y + 311) = some (.inr (6, rL (y + 307) (cR f N v num)))) (hB : w (y + 307) = some (.inr (0, [.ref (y + 308), .int (iI N)]))) (hT : w (y + 308) = some (aZ X 400 f)) (hvp : vP f v) (hN : v 11 = N) (hE : w (y + 312) = some (.inr (2, [.ref (y + 311), .ref (y + 313), .int (iI ct), .int (iI dt)]))) (hL : dlA X w (y + 26) τ0) (hlv : v 18 = 0) : CM l X yX2_readSize cX2_readSize 3 (some (.boolean)) (rmk 6 128) [.ref (y + 312), .ref (y + 26)] w (some (.int (iI (bz (decide (rd4 f v 18 = 0)))))) (fun w' => (∃ m : Int, w' (y + 311) = some (.inr (6, rL (y + 307) (cR f N (rd4 f v) m)))) ∧ (∃ τ, dlA X w' (y + 26) τ ∧ (rd4 f v 18 = 0 → τ = rdD f v d)) ∧ ∀ q : Nat, q ≠ y + 311 → (q < y + 26 ∨ y + 51 ≤ q) → w' q = w q) := by
  refine CM.of (lv := [(0, .ref (y + 312)), (1, .ref (y + 26))]) (by decide) (Nat.le_of_ble_eq_true rfl) rfl (fun p e s m below meth c ls F hr hlk hin hW hS hl => ?_)
  have hZ0 := hW.2.2
  have hB9 := hW.1.2
  clear hin
  have hLo := hL.1.o
  have hp1 : vP f (rd1 f v) := hvp.mu
  have hp2 : vP f (rd2 f v) := hp1.tk
  have hp3 : vP f (rd3 f v) := hp2.tk
  have hp4 := rd4_P hvp
  have hM1 : rd1 f v 11 = N := (mu_n (by omega)).trans hN
  have hM2 : rd2 f v 11 = N := (tk_n (by omega)).trans hM1
  have hM3 : rd3 f v 11 = N := (tk_n (by omega)).trans hM2
  have hWr : 8 ≤ rdW f v ∧ rdW f v ≤ 40 := seR_r (by decide)
  have hHr : 6 ≤ rdH f v ∧ rdH f v ≤ 30 := seR_r (by decide)
  refine lv_aload_n F.1 F.2.1 dX2_readSize_0 rfl (lv_at hl 0 rfl) ?_
  refine gf_RX2_18 F hW hE rfl dX2_readSize_1 ?_
  refine h_ldcS (tx := "loom") (i := 0) F hW (by decide +kernel) dX2_readSize_4 ?_
  refine cl_RX2_51 (As := [.ref (X.2.2 (10 + 0))]) (rest := []) F hl (k_takeWord l X w (y + 311) (y + 307) (y + 308) N f v num 0 hR hB hT hvp hN (by omega) hlv (by decide)) hW hS hR rfl rfl ⟨Nat.le_of_ble_eq_true rfl, Nat.le_of_ble_eq_true rfl⟩ (Nat.le_of_ble_eq_true rfl) ⟨Nat.zero_le _, Nat.zero_le _⟩ dX2_readSize_6 (fun w1 H locs hp2 hW hS => ?_)
  obtain ⟨ho3, hn4⟩ := hp2
  have hB := (hn4 _ (by omega)).trans hB
  have hE := (hn4 _ (by omega)).trans hE
  have hLo := (hn4 _ (by omega)).trans hLo
  have hT := (hn4 _ (by omega)).trans hT
  have hL := hL.mv (w2 := w1) (fun q h1 h2 => hn4 q (by omega))
  have hX5 : w1 (y + 311) = some (.inr (6, rL (y + 307) (cR f N (rd1 f v) num))) := by rw [show (rd1 f v : Int → Int) = muV f (isWR f v 0) v from rfl]; exact ho3
  refine h_ifeqb (tgt := 26) F dX2_readSize_9 (by decide) (fun c6 => ?_) (fun c6 => ?_)
  · obtain ⟨eU, hx⟩ := rd_d1 (f := f) (v := v) (rdp_1 hlv (by assumption))
    have hLO : (∃ τ, dlA X w1 (y + 26) τ ∧ (rd4 f v 18 = 0 → τ = rdD f v d)) := ⟨_, hL, fun z => absurd z hx⟩
    refine h_iconst F dX2_readSize_26 ?_
    refine h_top (show (0 : Int) = bz (decide (rd4 f v 18 = 0)) from by first | rfl | exact bzf (decide_eq_false hx)) ?_
    exact h_iretz F hr hlk hW hS ⟨⟨_, by rw [eU]; exact hX5⟩, hLO, (fun q h09 h19 => by rw [hn4 q (by omega)])⟩ dX2_readSize_27
  · have hl1 : rd1 f v 18 = 0 := rdq_1 hlv (by assumption)
    refine lv_aload_n F.1 F.2.1 dX2_readSize_12 rfl (lv_at hl 0 rfl) ?_
    refine gf_RX2_18 F hW hE rfl dX2_readSize_13 ?_
    refine h_bipush F dX2_readSize_16 rfl ?_
    refine h_bipush F dX2_readSize_18 rfl ?_
    refine cl_RX2_55 (As := [.int (iI 8), .int (iI 40)]) (rest := []) F hl (k_takeNumber l X w1 (y + 311) (y + 307) (y + 308) N f (rd1 f v) num 8 40 hX5 hB hT hp1 hM1 (by omega) hl1 (by omega) (by omega)) hW hS hX5 rfl rfl ⟨Nat.le_of_ble_eq_true rfl, Nat.le_of_ble_eq_true rfl⟩ (Nat.le_of_ble_eq_true rfl) ⟨Nat.zero_le _, Nat.zero_le _⟩ dX2_readSize_20 (fun w7 H locs hp8 hW hS => ?_)
    obtain ⟨ho9, hn10⟩ := hp8
    have hB := (hn10 _ (by omega)).trans hB
    have hE := (hn10 _ (by omega)).trans hE
    have hLo := (hn10 _ (by omega)).trans hLo
    have hT := (hn10 _ (by omega)).trans hT
    have hL := hL.mv (w2 := w7) (fun q h1 h2 => hn10 q (by omega))
    have hX11 : w7 (y + 311) = some (.inr (6, rL (y + 307) (cR f N (rd2 f v) (nuS 8 40 (rd1 f v) num)))) := by rw [show (rd2 f v : Int → Int) = tkV f 8 40 (rd1 f v) from rfl]; exact ho9
    refine h_ifneb (tgt := 28) F dX2_readSize_23 (by decide) (fun c12 => ?_) (fun c12 => ?_)
    · have c12d := of_decide_eq_true c12
      have hl2 : rd2 f v 18 = 0 := by assumption
      refine lv_aload_n F.1 F.2.1 dX2_readSize_28 rfl (lv_at hl 0 rfl) ?_
      refine gf_RX2_18 F hW hE rfl dX2_readSize_29 ?_
      refine gf_RX2_59 F hW hX11 rfl dX2_readSize_32 ?_
      refine h_top (show ((cR f N (rd2 f v) (nuS 8 40 (rd1 f v) num)) 5 : Int) = rdW f v from by show nuS 8 40 (rd1 f v) _ = _; unfold nuS; rw [← tk_18 (f := f), if_pos (show tkV f 8 40 (rd1 f v) 18 = 0 from hl2)]; rfl) ?_
      refine lv_istore_n (lv' := [(2, .int (iI (rdW f v))), (0, .ref (y + 312)), (1, .ref (y + 26))]) F.1 F.2.1 dX2_readSize_35 rfl hl (by decide) rfl (fun ls hl => ?_)
      refine lv_aload_n F.1 F.2.1 dX2_readSize_36 rfl (lv_at hl 1 rfl) ?_
      refine gf_RX2_18 F hW hE rfl dX2_readSize_37 ?_
      refine h_bipush F dX2_readSize_40 rfl ?_
      refine h_bipush F dX2_readSize_42 rfl ?_
      refine cl_RX2_55 (As := [.int (iI 6), .int (iI 30)]) (rest := []) F hl (k_takeNumber l X w7 (y + 311) (y + 307) (y + 308) N f (rd2 f v) (nuS 8 40 (rd1 f v) num) 6 30 hX11 hB hT hp2 hM2 (by omega) hl2 (by omega) (by omega)) hW hS hX11 rfl rfl ⟨Nat.le_of_ble_eq_true rfl, Nat.le_of_ble_eq_true rfl⟩ (Nat.le_of_ble_eq_true rfl) ⟨Nat.zero_le _, Nat.zero_le _⟩ dX2_readSize_44 (fun w13 H locs hp14 hW hS => ?_)
      obtain ⟨ho15, hn16⟩ := hp14
      have hB := (hn16 _ (by omega)).trans hB
      have hE := (hn16 _ (by omega)).trans hE
      have hLo := (hn16 _ (by omega)).trans hLo
      have hT := (hn16 _ (by omega)).trans hT
      have hL := hL.mv (w2 := w13) (fun q h1 h2 => hn16 q (by omega))
      have hX17 : w13 (y + 311) = some (.inr (6, rL (y + 307) (cR f N (rd3 f v) (nuS 6 30 (rd2 f v) (nuS 8 40 (rd1 f v) num))))) := by rw [show (rd3 f v : Int → Int) = tkV f 6 30 (rd2 f v) from rfl]; exact ho15
      refine h_ifneb (tgt := 52) F dX2_readSize_47 (by decide) (fun c18 => ?_) (fun c18 => ?_)
      · have c18d := of_decide_eq_true c18
        have hl3 : rd3 f v 18 = 0 := by assumption
        refine lv_aload_n F.1 F.2.1 dX2_readSize_52 rfl (lv_at hl 2 rfl) ?_
        refine lv_iload_n F.1 F.2.1 dX2_readSize_53 rfl (lv_at hl 0 rfl) ?_
        refine lv_aload_n F.1 F.2.1 dX2_readSize_54 rfl (lv_at hl 1 rfl) ?_
        refine gf_RX2_18 F hW hE rfl dX2_readSize_55 ?_
        refine gf_RX2_59 F hW hX17 rfl dX2_readSize_58 ?_
        refine h_top (show ((cR f N (rd3 f v) (nuS 6 30 (rd2 f v) (nuS 8 40 (rd1 f v) num))) 5 : Int) = rdH f v from by show nuS 6 30 (rd2 f v) _ = _; unfold nuS; rw [← tk_18 (f := f), if_pos (show tkV f 6 30 (rd2 f v) 18 = 0 from hl3)]; rfl) ?_
        refine cl_RX2_62 (As := [.int (iI (rdW f v)), .int (iI (rdH f v))]) (rest := []) F hl (c_X5_reset l X w13 (y + 26) τ0 (rdW f v) (rdH f v) hL.1 hL.2 (by omega)) hW hS hLo rfl rfl ⟨Nat.le_of_ble_eq_true rfl, Nat.le_of_ble_eq_true rfl⟩ (Nat.le_of_ble_eq_true rfl) ⟨Nat.zero_le _, Nat.zero_le _⟩ dX2_readSize_61 (fun w19 H locs hp20 hW hS => ?_)
        obtain ⟨hr1, hr2, hn21⟩ := hp20
        have hX17 := (hn21 _ (by omega) (by omega) (by omega) (by omega)).trans hX17
        have hB := (hn21 _ (by omega) (by omega) (by omega) (by omega)).trans hB
        have hE := (hn21 _ (by omega) (by omega) (by omega) (by omega)).trans hE
        have hT := (hn21 _ (by omega) (by omega) (by omega) (by omega)).trans hT
        have hL : dlA X w19 (y + 26) (rdD f v d) := ⟨hr1.to (res_WF ⟨hWr, hHr⟩).cap8 (rdD_eq f v d), (rdD_W f v d).cap8⟩
        refine lv_aload_n F.1 F.2.1 dX2_readSize_64 rfl (lv_at hl 1 rfl) ?_
        refine gf_RX2_18 F hW hE rfl dX2_readSize_65 ?_
        refine h_bipush F dX2_readSize_68 rfl ?_
        refine cl_RX2_45 (As := [.int (iI 59)]) (rest := []) F hl (k_takeMark l X w19 (y + 311) (y + 307) (y + 308) N f (rd3 f v) (nuS 6 30 (rd2 f v) (nuS 8 40 (rd1 f v) num)) 59 hX17 hB hT hp3 hM3 (by omega) hl3 (by omega)) hW hS hX17 rfl rfl ⟨Nat.le_of_ble_eq_true rfl, Nat.le_of_ble_eq_true rfl⟩ (Nat.le_of_ble_eq_true rfl) ⟨Nat.zero_le _, Nat.zero_le _⟩ dX2_readSize_70 (fun w22 H locs hp23 hW hS => ?_)
        obtain ⟨ho24, hn25⟩ := hp23
        have hB := (hn25 _ (by omega)).trans hB
        have hE := (hn25 _ (by omega)).trans hE
        have hT := (hn25 _ (by omega)).trans hT
        have hL := hL.mv (w2 := w22) (fun q h1 h2 => hn25 q (by omega))
        refine h_top (show (bz (isSR f (rd3 f v) 59) : Int) = bz (decide (rd4 f v 18 = 0)) from congrArg bz (mu_dec hl3).symm) ?_
        have eU : rd4 f v = rd4 f v := rfl
        have hLO : (∃ τ, dlA X w22 (y + 26) τ ∧ (rd4 f v 18 = 0 → τ = rdD f v d)) := ⟨_, hL, fun _ => rfl⟩
        have hX26 : w22 (y + 311) = some (.inr (6, rL (y + 307) (cR f N (rd4 f v) (nuS 6 30 (rd2 f v) (nuS 8 40 (rd1 f v) num))))) := by rw [show (rd4 f v : Int → Int) = muV f (isSR f (rd3 f v) 59) (rd3 f v) from rfl]; exact ho24
        exact h_iretz F hr hlk hW hS ⟨⟨_, by rw [eU]; exact hX26⟩, hLO, (fun q h09 h19 => by rw [hn25 q (by omega), hn21 q (by omega) (by omega) (by omega) (by omega), hn16 q (by omega), hn10 q (by omega), hn4 q (by omega)])⟩ dX2_readSize_73
      · have c18d := of_decide_eq_false c18
        obtain ⟨eU, hx⟩ := rd_d3 (f := f) (v := v) (by assumption)
        have hLO : (∃ τ, dlA X w13 (y + 26) τ ∧ (rd4 f v 18 = 0 → τ = rdD f v d)) := ⟨_, hL, fun z => absurd z hx⟩
        refine h_iconst F dX2_readSize_50 ?_
        refine h_top (show (0 : Int) = bz (decide (rd4 f v 18 = 0)) from by first | rfl | exact bzf (decide_eq_false hx)) ?_
        exact h_iretz F hr hlk hW hS ⟨⟨_, by rw [eU]; exact hX17⟩, hLO, (fun q h09 h19 => by rw [hn16 q (by omega), hn10 q (by omega), hn4 q (by omega)])⟩ dX2_readSize_51
    · have c12d := of_decide_eq_false c12
      obtain ⟨eU, hx⟩ := rd_d2 (f := f) (v := v) (by assumption)
      have hLO : (∃ τ, dlA X w7 (y + 26) τ ∧ (rd4 f v 18 = 0 → τ = rdD f v d)) := ⟨_, hL, fun z => absurd z hx⟩
      refine h_iconst F dX2_readSize_26 ?_
      refine h_top (show (0 : Int) = bz (decide (rd4 f v 18 = 0)) from by first | rfl | exact bzf (decide_eq_false hx)) ?_
      exact h_iretz F hr hlk hW hS ⟨⟨_, by rw [eU]; exact hX11⟩, hLO, (fun q h09 h19 => by rw [hn10 q (by omega), hn4 q (by omega)])⟩ dX2_readSize_27
set_option maxHeartbeats 4000000 in
set_option maxRecDepth 100000 in
theorem c_X2_readStatement (l : Launch) (X : Cx) (w : Wo) (y : Nat) (N num : Int) (f v d : Int → Int) (bn bsd bx by9 bc : Int) (bf : Int → Int) (hR : w (y + 311) = some (.inr (6, rL (y + 307) (cR f N v num)))) (hB : w (y + 307) = some (.inr (0, [.ref (y + 308), .int (iI N)]))) (hT : w (y + 308) = some (aZ X 400 f)) (hvi : vI f v) (hN : v 11 = N) (hwd : WF d) (hE : w (y + 312) = some (.inr (2, [.ref (y + 311), .ref (y + 313), .int (iI (v 22)), .int (iI (v 23))]))) (hv : capV X w (y + 313) bn bsd bx by9 bc bf) (hL : dlA X w (y + 26) d) (hlv : v 18 = 0) : CM l X yX2_readStatement cX2_readStatement 2 (some (.boolean)) (rmk 8 171) [.ref (y + 312), .ref (y + 26)] w (some (.int (iI (bz (decide (bd1 f v d 18 = 0)))))) (fun w' => (∃ m : Int, w' (y + 311) = some (.inr (6, rL (y + 307) (cR f N (bd1 f v d) m)))) ∧ (∃ c1 d1 : Int, w' (y + 312) = some (.inr (2, [.ref (y + 311), .ref (y + 313), .int (iI c1), .int (iI d1)])) ∧ (bd1 f v d 18 = 0 → c1 = bd1 f v d 22 ∧ d1 = bd1 f v d 23)) ∧ (∃ n s9 x9 y9 c9 g, capV X w' (y + 313) n s9 x9 y9 c9 g) ∧ (∃ τ, dlA X w' (y + 26) τ ∧ (bd1 f v d 18 = 0 → τ = bdD f v d)) ∧ ∀ q : Nat, q ≠ y + 311 → q ≠ y + 312 → q ≠ y + 313 → q ≠ y + 313 + 1 → (q < y + 26 ∨ y + 51 ≤ q) → w' q = w q) := by
  refine CM.of (lv := [(0, .ref (y + 312)), (1, .ref (y + 26))]) (by decide) (Nat.le_of_ble_eq_true rfl) rfl (fun p e s m below meth c ls F hr hlk hin hW hS hl => ?_)
  have hZ0 := hW.2.2
  have hB9 := hW.1.2
  clear hin
  have hvp := hvi.1
  have hv1 := hv.1
  have hv2 := hv.2
  refine lv_aload_n F.1 F.2.1 dX2_readStatement_0 rfl (lv_at hl 0 rfl) ?_
  refine gf_RX2_18 F hW hE rfl dX2_readStatement_1 ?_
  refine h_ldcS (tx := "caption") (i := 1) F hW (by decide +kernel) dX2_readStatement_4 ?_
  refine cl_RX2_70 (As := [.ref (X.2.2 (10 + 1))]) (rest := []) F hl (k_isWord l X w (y + 311) (y + 307) (y + 308) N f v num 1 hR hB hT hvp hN (by omega) hlv (by decide)) hW hS hR rfl rfl ⟨Nat.le_of_ble_eq_true rfl, Nat.le_of_ble_eq_true rfl⟩ (Nat.le_of_ble_eq_true rfl) ⟨Nat.zero_le _, Nat.zero_le _⟩ dX2_readStatement_6 (fun w1 H locs hp1 hW hS => ?_)
  rw [hp1] at hW; clear hp1; clear w1
  refine h_ifeqb (tgt := 18) F dX2_readStatement_9 (by decide) (fun c2 => ?_) (fun c2 => ?_)
  · refine lv_aload_n F.1 F.2.1 dX2_readStatement_18 rfl (lv_at hl 0 rfl) ?_
    refine gf_RX2_18 F hW hE rfl dX2_readStatement_19 ?_
    refine h_ldcS (tx := "stock") (i := 5) F hW (by decide +kernel) dX2_readStatement_22 ?_
    refine cl_RX2_70 (As := [.ref (X.2.2 (10 + 5))]) (rest := []) F hl (k_isWord l X w (y + 311) (y + 307) (y + 308) N f v num 5 hR hB hT hvp hN (by omega) hlv (by decide)) hW hS hR rfl rfl ⟨Nat.le_of_ble_eq_true rfl, Nat.le_of_ble_eq_true rfl⟩ (Nat.le_of_ble_eq_true rfl) ⟨Nat.zero_le _, Nat.zero_le _⟩ dX2_readStatement_24 (fun w1 H locs hp3 hW hS => ?_)
    rw [hp3] at hW; clear hp3; clear w1
    refine h_ifeqb (tgt := 36) F dX2_readStatement_27 (by decide) (fun c4 => ?_) (fun c4 => ?_)
    · refine lv_aload_n F.1 F.2.1 dX2_readStatement_36 rfl (lv_at hl 0 rfl) ?_
      refine gf_RX2_18 F hW hE rfl dX2_readStatement_37 ?_
      refine h_ldcS (tx := "delay") (i := 6) F hW (by decide +kernel) dX2_readStatement_40 ?_
      refine cl_RX2_70 (As := [.ref (X.2.2 (10 + 6))]) (rest := []) F hl (k_isWord l X w (y + 311) (y + 307) (y + 308) N f v num 6 hR hB hT hvp hN (by omega) hlv (by decide)) hW hS hR rfl rfl ⟨Nat.le_of_ble_eq_true rfl, Nat.le_of_ble_eq_true rfl⟩ (Nat.le_of_ble_eq_true rfl) ⟨Nat.zero_le _, Nat.zero_le _⟩ dX2_readStatement_42 (fun w1 H locs hp5 hW hS => ?_)
      rw [hp5] at hW; clear hp5; clear w1
      refine h_ifeqb (tgt := 54) F dX2_readStatement_45 (by decide) (fun c6 => ?_) (fun c6 => ?_)
      · have eb : bd1 f v d = faV 1 v := by unfold bd1; rw [if_neg (by rw [‹isWR f v 1 = false›]; decide), if_neg (by rw [‹isWR f v 5 = false›]; decide), if_neg (by rw [‹isWR f v 6 = false›]; decide)]
        have ed : bdD f v d = d := by unfold bdD; rw [if_neg (by rw [‹isWR f v 1 = false›]; decide), if_neg (by rw [‹isWR f v 5 = false›]; decide), if_neg (by rw [‹isWR f v 6 = false›]; decide)]
        have hx : bd1 f v d 18 ≠ 0 := by rw [eb]; exact fa_ne (by decide)
        refine lv_aload_n F.1 F.2.1 dX2_readStatement_54 rfl (lv_at hl 0 rfl) ?_
        refine gf_RX2_18 F hW hE rfl dX2_readStatement_55 ?_
        refine h_iconst F dX2_readStatement_58 ?_
        refine cl_RX2_86 (As := [.int (iI 1)]) (rest := []) F hl (k_fail l X w (y + 311) (y + 307) (y + 308) N f v num 1 hR hB hT hvp hN (by omega) hlv) hW hS hR rfl rfl ⟨Nat.le_of_ble_eq_true rfl, Nat.le_of_ble_eq_true rfl⟩ (Nat.le_of_ble_eq_true rfl) ⟨Nat.zero_le _, Nat.zero_le _⟩ dX2_readStatement_59 (fun w7 H locs hp8 hW hS => ?_)
        obtain ⟨ho9, hn10⟩ := hp8
        have hB := (hn10 _ (by omega)).trans hB
        have hE := (hn10 _ (by omega)).trans hE
        have hv1 := (hn10 _ (by omega)).trans hv1
        have hT := (hn10 _ (by omega)).trans hT
        have hv2 := (hn10 _ (by omega)).trans hv2
        have hL := hL.mv (w2 := w7) (fun q h1 h2 => hn10 q (by omega))
        have hRL : (∃ m : Int, w7 (y + 311) = some (.inr (6, rL (y + 307) (cR f N (bd1 f v d) m)))) := ⟨_, by rw [eb]; exact ho9⟩
        have hE2 : (∃ c1 d1 : Int, w7 (y + 312) = some (.inr (2, [.ref (y + 311), .ref (y + 313), .int (iI c1), .int (iI d1)])) ∧ (bd1 f v d 18 = 0 → c1 = bd1 f v d 22 ∧ d1 = bd1 f v d 23)) := ⟨_, _, hE, fun z => absurd z hx⟩
        have hLO : (∃ τ, dlA X w7 (y + 26) τ ∧ (bd1 f v d 18 = 0 → τ = bdD f v d)) := ⟨_, hL, fun z => absurd z hx⟩
        have hBX : (∃ n s9 x9 y9 c9 g, capV X w7 (y + 313) n s9 x9 y9 c9 g) := ⟨_, _, _, _, _, _, ⟨hv1, hv2⟩⟩
        refine h_top (show (bz false : Int) = bz (decide (bd1 f v d 18 = 0)) from by first | exact congrArg bz (decide_eq_false hx).symm | exact congrArg bz (by rw [eb])) ?_
        exact h_iretz F hr hlk hW hS ⟨hRL, hE2, hBX, hLO, (fun q h09 h19 h29 h39 h49 => by rw [hn10 q (by omega)])⟩ dX2_readStatement_62
      · have eb : bd1 f v d = reV f v := by unfold bd1; rw [if_neg (by rw [‹isWR f v 1 = false›]; decide), if_neg (by rw [‹isWR f v 5 = false›]; decide), if_pos (by assumption)]
        have ed : bdD f v d = reD f v d := by unfold bdD; rw [if_neg (by rw [‹isWR f v 1 = false›]; decide), if_neg (by rw [‹isWR f v 5 = false›]; decide), if_pos (by assumption)]
        refine lv_aload_n F.1 F.2.1 dX2_readStatement_48 rfl (lv_at hl 0 rfl) ?_
        refine lv_aload_n F.1 F.2.1 dX2_readStatement_49 rfl (lv_at hl 1 rfl) ?_
        refine cl_RX2_83 (As := [.ref (y + 26)]) (rest := []) F hl (c_X2_readDelay l X w y N num f v d hR hB hT hvi hN hwd hE hL hlv) hW hS hE rfl rfl ⟨Nat.le_of_ble_eq_true rfl, Nat.le_of_ble_eq_true rfl⟩ (Nat.le_of_ble_eq_true rfl) ⟨Nat.zero_le _, Nat.zero_le _⟩ dX2_readStatement_50 (fun w11 H locs hp12 hW hS => ?_)
        obtain ⟨hRL, hE2, hLO, hn13⟩ := hp12
        have hB := (hn13 _ (by omega) (by omega) (by omega)).trans hB
        have hv1 := (hn13 _ (by omega) (by omega) (by omega)).trans hv1
        have hT := (hn13 _ (by omega) (by omega) (by omega)).trans hT
        have hv2 := (hn13 _ (by omega) (by omega) (by omega)).trans hv2
        rw [← eb] at hRL hE2 hLO
        rw [← ed] at hLO
        have hBX : (∃ n s9 x9 y9 c9 g, capV X w11 (y + 313) n s9 x9 y9 c9 g) := ⟨_, _, _, _, _, _, ⟨hv1, hv2⟩⟩
        refine h_top (show (bz (decide (reV f v 18 = 0)) : Int) = bz (decide (bd1 f v d 18 = 0)) from by first | exact congrArg bz (decide_eq_false hx).symm | exact congrArg bz (by rw [eb])) ?_
        exact h_iretz F hr hlk hW hS ⟨hRL, hE2, hBX, hLO, (fun q h09 h19 h29 h39 h49 => by rw [hn13 q (by omega) (by omega) (by omega)])⟩ dX2_readStatement_53
    · have eb : bd1 f v d = rsV f v := by unfold bd1; rw [if_neg (by rw [‹isWR f v 1 = false›]; decide), if_pos (by assumption)]
      have ed : bdD f v d = rsD f v d := by unfold bdD; rw [if_neg (by rw [‹isWR f v 1 = false›]; decide), if_pos (by assumption)]
      refine lv_aload_n F.1 F.2.1 dX2_readStatement_30 rfl (lv_at hl 0 rfl) ?_
      refine lv_aload_n F.1 F.2.1 dX2_readStatement_31 rfl (lv_at hl 1 rfl) ?_
      refine cl_RX2_78 (As := [.ref (y + 26)]) (rest := []) F hl (c_X2_readStock l X w y N num f v d hR hB hT hvi hN hwd hE hL hlv) hW hS hE rfl rfl ⟨Nat.le_of_ble_eq_true rfl, Nat.le_of_ble_eq_true rfl⟩ (Nat.le_of_ble_eq_true rfl) ⟨Nat.zero_le _, Nat.zero_le _⟩ dX2_readStatement_32 (fun w14 H locs hp15 hW hS => ?_)
      obtain ⟨hRL, hE2, hLO, hn16⟩ := hp15
      have hB := (hn16 _ (by omega) (by omega) (by omega)).trans hB
      have hv1 := (hn16 _ (by omega) (by omega) (by omega)).trans hv1
      have hT := (hn16 _ (by omega) (by omega) (by omega)).trans hT
      have hv2 := (hn16 _ (by omega) (by omega) (by omega)).trans hv2
      rw [← eb] at hRL hE2 hLO
      rw [← ed] at hLO
      have hBX : (∃ n s9 x9 y9 c9 g, capV X w14 (y + 313) n s9 x9 y9 c9 g) := ⟨_, _, _, _, _, _, ⟨hv1, hv2⟩⟩
      refine h_top (show (bz (decide (rsV f v 18 = 0)) : Int) = bz (decide (bd1 f v d 18 = 0)) from by first | exact congrArg bz (decide_eq_false hx).symm | exact congrArg bz (by rw [eb])) ?_
      exact h_iretz F hr hlk hW hS ⟨hRL, hE2, hBX, hLO, (fun q h09 h19 h29 h39 h49 => by rw [hn16 q (by omega) (by omega) (by omega)])⟩ dX2_readStatement_35
  · have eb : bd1 f v d = rc13 f v d := by unfold bd1; rw [if_pos (by assumption)]
    have ed : bdD f v d = rcE f v d := by unfold bdD; rw [if_pos (by assumption)]
    refine lv_aload_n F.1 F.2.1 dX2_readStatement_12 rfl (lv_at hl 0 rfl) ?_
    refine lv_aload_n F.1 F.2.1 dX2_readStatement_13 rfl (lv_at hl 1 rfl) ?_
    refine cl_RX2_73 (As := [.ref (y + 26)]) (rest := []) F hl (c_X2_readCaption l X w y N num f v d (v 22) (v 23) bn bsd bx by9 bc bf hR hB hT hvp hN hwd hE ⟨hv1, hv2⟩ hL hlv) hW hS hE rfl rfl ⟨Nat.le_of_ble_eq_true rfl, Nat.le_of_ble_eq_true rfl⟩ (Nat.le_of_ble_eq_true rfl) ⟨Nat.zero_le _, Nat.zero_le _⟩ dX2_readStatement_14 (fun w17 H locs hp18 hW hS => ?_)
    obtain ⟨hRL, hBX, hLE, hn19⟩ := hp18
    have hB := (hn19 _ (by omega) (by omega) (by omega) (by omega)).trans hB
    have hE := (hn19 _ (by omega) (by omega) (by omega) (by omega)).trans hE
    have hT := (hn19 _ (by omega) (by omega) (by omega) (by omega)).trans hT
    have he13 := (rc13_E (d := d) hvp).1
    have hE2 : (∃ c1 d1 : Int, w17 (y + 312) = some (.inr (2, [.ref (y + 311), .ref (y + 313), .int (iI c1), .int (iI d1)])) ∧ (bd1 f v d 18 = 0 → c1 = bd1 f v d 22 ∧ d1 = bd1 f v d 23)) := ⟨_, _, hE, fun _ => ⟨by rw [eb]; exact (he13 22 (by omega)).symm, by rw [eb]; exact (he13 23 (by omega)).symm⟩⟩
    have hLO : (∃ τ, dlA X w17 (y + 26) τ ∧ (bd1 f v d 18 = 0 → τ = bdD f v d)) := ⟨_, hLE, fun _ => ed.symm⟩
    rw [← eb] at hRL
    refine h_top (show (bz (decide (rc13 f v d 18 = 0)) : Int) = bz (decide (bd1 f v d 18 = 0)) from by first | exact congrArg bz (decide_eq_false hx).symm | exact congrArg bz (by rw [eb])) ?_
    exact h_iretz F hr hlk hW hS ⟨hRL, hE2, hBX, hLO, (fun q h09 h19 h29 h39 h49 => by rw [hn19 q (by omega) (by omega) (by omega) (by omega)])⟩ dX2_readStatement_17
