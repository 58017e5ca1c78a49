/-! ===== what is dead stays; the class's words and places ===== -/
theorem cR_1N {f v : Int → Int} {num N : Int} (h : vP f v) (hN : v 11 = N) : (cR f N v num 1 = 1 ↔ v 16 = 1) ∧ (cR f N v num 1 = 2 ↔ v 16 = 2) ∧ (cR f N v num 1 = 0 ↔ v 16 = 0) := by
  subst hN
  exact cR_1 h
theorem cR_3N {f v : Int → Int} {num N : Int} (h : vP f v) (hN : v 11 = N) : cR f N v num 3 = v 14 := by
  subst hN
  exact (vt_14 h.1).1.symm
theorem cR_rN {f v : Int → Int} {num N : Int} (h : vP f v) (hN : v 11 = N) : -1 ≤ cR f N v num 1 ∧ cR f N v num 1 ≤ 255 := by
  subst hN
  exact (cR_T (num := num) h).r.2.2.1
def dlA (X : Cx) (w : Wo) (a : Nat) (σ : Int → Int) : Prop := lmA X w a σ ∧ cap8 σ
theorem dlA.mv {X : Cx} {w w2 : Wo} {a : Nat} {σ : Int → Int} (h : dlA X w a σ) (hf : ∀ q : Nat, a ≤ q → q < a + 25 → w2 q = w q) : dlA X w2 a σ := ⟨h.1.mv h.2 hf, h.2⟩
theorem gf_d {f v : Int → Int} (h : v 18 ≠ 0) : gfV f v = v := if_neg h
theorem fa_d {c : Int} {v : Int → Int} (h : v 18 ≠ 0) : faV c v = v := if_neg h
theorem mu_d {f v : Int → Int} {b : Bool} (h : v 18 ≠ 0) : muV f b v = v := by
  unfold muV
  rw [fa_d h]
  split <;> exact gf_d h
theorem se_d {v : Int → Int} {lo hi : Int} (h : v 18 ≠ 0) : seV lo hi v = v := by
  have e : se1 v = v := if_neg h
  unfold seV
  rw [e]
  exact if_neg h
theorem tk_d {f v : Int → Int} {lo hi : Int} (h : v 18 ≠ 0) : tkV f lo hi v = v := by
  unfold tkV
  rw [se_d h]
  exact gf_d h
theorem wr_d {f v : Int → Int} {k : Nat} (h : v 18 ≠ 0) : isWR f v k = false := by
  unfold isWR
  rw [decide_eq_false h, Bool.false_and, Bool.false_and]
theorem rcw_5 {f v d : Int → Int} (h : rc4 f v d 18 = 0) : rc5 f v d 18 = 0 := by
  unfold rc5
  split
  · rw [go_n (by decide)]; exact h
  · exact h
theorem rc5_d {f v d : Int → Int} (h : rc4 f v d 18 ≠ 0) : rc5 f v d = rc4 f v d := by
  unfold rc5 rcR
  rw [wr_d h, if_neg (by decide)]
theorem rcw_1 {f v d : Int → Int} (h0 : rc2 f v d 18 = 0) (h16 : rc2 f v d 16 ≠ 1) : rc5 f v d = faV 1 (rc2 f v d) ∧ rc5 f v d 18 ≠ 0 := by
  have e3 : rc3 f v d = rc2 f v d := if_neg (fun z => h16 z.1)
  have e4 : rc4 f v d = faV 1 (rc2 f v d) := by
    unfold rc4
    rw [e3, decide_eq_false h16]
    exact mu_f h0
  have h4 : rc4 f v d 18 ≠ 0 := by rw [e4]; exact fa_ne (by decide)
  rw [rc5_d h4]
  exact ⟨e4, h4⟩
theorem rcw_2 {f v d : Int → Int} (h0 : rc2 f v d 18 = 0) (h16 : rc2 f v d 16 = 1) (h8 : 8 < rcL f v d) : rc5 f v d = faV 2 (rc2 f v d) ∧ rc5 f v d 18 ≠ 0 := by
  have e3 : rc3 f v d = faV 2 (rc2 f v d) := if_pos ⟨h16, h8⟩
  have h3 : rc3 f v d 18 ≠ 0 := by rw [e3]; exact fa_ne (by decide)
  have e4 : rc4 f v d = rc3 f v d := mu_d h3
  have h4 : rc4 f v d 18 ≠ 0 := by rw [e4]; exact h3
  rw [rc5_d h4]
  exact ⟨e4.trans e3, h4⟩
theorem rcw_3 {f v d : Int → Int} (h0 : rc2 f v d 18 = 0) (h16 : rc2 f v d 16 = 1) (h8 : rcL f v d ≤ 8) : rc3 f v d = rc2 f v d ∧ rc4 f v d = goV f (rc2 f v d) ∧ rc4 f v d 18 = 0 := by
  have e3 : rc3 f v d = rc2 f v d := if_neg (fun z => by omega)
  have e4 : rc4 f v d = goV f (rc2 f v d) := by
    unfold rc4
    rw [e3, decide_eq_true h16]
    exact mu_t h0
  exact ⟨e3, e4, by rw [e4, go_n (by decide)]; exact h0⟩
theorem rcw_x {X : Cx} {w : Wo} {y : Nat} {f v d bf : Int → Int} {n s x y9 c : Int} (hv : capV X w (y + 313) n s x y9 c bf) (h5 : rc5 f v d 18 ≠ 0) : ∃ n s9 x9 y9 c9 g, capV X w (y + 313) n s9 x9 y9 c9 g ∧ (rc5 f v d 18 = 0 → n = rcL f v d ∧ s9 = bz (rcR f v d) ∧ ∀ j, 0 ≤ j → j < n → g j = f (rc3 f v d 15 + j) - 97 + 1) := ⟨_, _, _, _, _, _, hv, fun z => absurd z h5⟩
theorem rcw_y {X : Cx} {w : Wo} {y : Nat} {f v d bf : Int → Int} {s x y9 c : Int} (hv : capV X w (y + 313) (rcL f v d) s x y9 c bf) (hl : ∀ j, 0 ≤ j → j < rcL f v d → bf j = f (rc3 f v d 15 + j) - 97 + 1) (hs : s = bz (rcR f v d)) : ∃ n s9 x9 y9 c9 g, capV X w (y + 313) n s9 x9 y9 c9 g ∧ (rc5 f v d 18 = 0 → n = rcL f v d ∧ s9 = bz (rcR f v d) ∧ ∀ j, 0 ≤ j → j < n → g j = f (rc3 f v d 15 + j) - 97 + 1) := ⟨_, _, _, _, _, _, hv, fun _ => ⟨rfl, hs, hl⟩⟩
theorem rcw_l (bf : Int → Int) {f v d : Int → Int} {N : Int} (h : vP f v) (hN : v 11 = N) (e3 : rc3 f v d = rc2 f v d) (hL : rc2 f v d 15 + rcL f v d ≤ N ∧ rcL f v d ≤ 8) : ∀ j, 0 ≤ j → j < rcL f v d → wdZ bf f N (rc2 f v d 15) (rcL f v d) j = f (rc3 f v d 15 + j) - 97 + 1 := by
  intro j j0 j1
  have h2 := (rc2_P (d := d) h).1.r
  have hu := h.1.1
  unfold wdZ
  rw [if_pos ⟨j0, j1⟩, byS_i (by omega) (by omega), e3]
theorem rc5_0 {f v d : Int → Int} (h5 : rc5 f v d 18 = 0) : rc3 f v d 18 = 0 ∧ rc3 f v d 16 = 1 := by
  have h4 : rc4 f v d 18 = 0 := by
    unfold rc5 at h5
    split at h5
    · rw [go_n (by decide)] at h5; exact h5
    · exact h5
  have h3 := mu_0 (show muV f _ (rc3 f v d) 18 = 0 from h4)
  exact ⟨h3.1, of_decide_eq_true h3.2⟩
theorem rcD_eq {f v d : Int → Int} (h : vP f v) (hd : WF d) : eqS d (rcD f v d) := by
  by_cases g : rc3 f v d 18 = 0 ∧ rc3 f v d 16 = 1
  · obtain ⟨-, h2, h3, -, -⟩ := rc3_L h g.1 g.2
    have h5 := hd.1.2.2.2.2.2
    rw [rc3_D g.1 g.2 h3 h5.2]
    exact let_eq (by omega) (by omega)
  · unfold rcD
    rw [if_neg g]
    exact eqS.rf d
theorem lies_c {σ τ : Int → Int} {n x y : Int} (he : eqS σ τ) : liesS τ n x y = liesS σ n x y := by
  unfold liesS
  rw [he.1 0 (by decide) (by decide), he.1 1 (by decide) (by decide)]
theorem bnot_f {b : Bool} (h : (!b) = false) : b = true := by cases b <;> first | rfl | exact absurd h (by decide)
theorem bnot_t {b : Bool} (h : (!b) = true) : b = false := by cases b <;> first | rfl | exact absurd h (by decide)
theorem rcp_6 {f v d : Int → Int} (h5 : rc5 f v d 18 = 0) (h : isWR f (rc5 f v d) 3 = false) : rc6 f v d 18 ≠ 0 := by
  unfold rc6
  rw [h, mu_f h5]
  exact fa_ne (by decide)
theorem rcq_6 {f v d : Int → Int} (h5 : rc5 f v d 18 = 0) (h : isWR f (rc5 f v d) 3 = true) : rc6 f v d 18 = 0 := by
  unfold rc6
  rw [h, mu_t h5, go_n (by decide)]
  exact h5
theorem rc6_d {f v d : Int → Int} (h : rc5 f v d 18 ≠ 0) : rc6 f v d = rc5 f v d := mu_d h
theorem rc7_d {f v d : Int → Int} (h : rc6 f v d 18 ≠ 0) : rc7 f v d = rc6 f v d := tk_d h
theorem rc8_d {f v d : Int → Int} (h : rc7 f v d 18 ≠ 0) : rc8 f v d = rc7 f v d := se_d h
theorem rc9_d {f v d : Int → Int} (h : rc8 f v d 18 ≠ 0) : rc9 f v d = rc8 f v d := if_neg (fun z => h z.1)
theorem rc10_d {f v d : Int → Int} (h : rc9 f v d 18 ≠ 0) : rc10 f v d = rc9 f v d := if_neg (fun z => h z.1)
theorem rc11_d {f v d : Int → Int} (h : rc10 f v d 18 ≠ 0) : rc11 f v d = rc10 f v d := mu_d h
theorem rc12_d {f v d : Int → Int} (h : rc11 f v d 18 ≠ 0) : rc12 f v d = rc11 f v d := mu_d h
theorem rc13_d {f v d : Int → Int} (h : rc12 f v d 18 ≠ 0) : rc13 f v d = rc12 f v d := tk_d h
theorem rcd_10 {f v d : Int → Int} (h : rc10 f v d 18 ≠ 0) : rc11 f v d = rc10 f v d ∧ rc11 f v d 18 ≠ 0 := ⟨rc11_d h, by rw [rc11_d h]; exact h⟩
theorem rcd_9 {f v d : Int → Int} (h : rc9 f v d 18 ≠ 0) : rc11 f v d = rc9 f v d ∧ rc11 f v d 18 ≠ 0 := by
  have e := rc10_d h
  obtain ⟨e1, h1⟩ := rcd_10 (f := f) (v := v) (d := d) (by rw [e]; exact h)
  exact ⟨e1.trans e, h1⟩
theorem rcd_8 {f v d : Int → Int} (h : rc8 f v d 18 ≠ 0) : rc11 f v d = rc8 f v d ∧ rc11 f v d 18 ≠ 0 := by
  have e := rc9_d h
  obtain ⟨e1, h1⟩ := rcd_9 (f := f) (v := v) (d := d) (by rw [e]; exact h)
  exact ⟨e1.trans e, h1⟩
theorem rcd_7 {f v d : Int → Int} (h : rc7 f v d 18 ≠ 0) : rc11 f v d = rc7 f v d ∧ rc11 f v d 18 ≠ 0 := by
  have e := rc8_d h
  obtain ⟨e1, h1⟩ := rcd_8 (f := f) (v := v) (d := d) (by rw [e]; exact h)
  exact ⟨e1.trans e, h1⟩
theorem rcd_6 {f v d : Int → Int} (h : rc6 f v d 18 ≠ 0) : rc11 f v d = rc6 f v d ∧ rc11 f v d 18 ≠ 0 := by
  have e := rc7_d h
  obtain ⟨e1, h1⟩ := rcd_7 (f := f) (v := v) (d := d) (by rw [e]; exact h)
  exact ⟨e1.trans e, h1⟩

set_option maxHeartbeats 4000000 in
set_option maxRecDepth 100000 in
theorem c_X2_readCaptionWord (l : Launch) (X : Cx) (w : Wo) (y : Nat) (N num : Int) (f v d : Int → Int) (ct dt : Int) (bn bsd bx by9 bc : Int) (bf : Int → Int) (hR : w (y + 311) = some (.inr (6, rL (y + 307) (cR f N (rc2 f v d) num)))) (hB : w (y + 307) = some (.inr (0, [.ref (y + 308), .int (iI N)]))) (hT : w (y + 308) = some (aZ X 400 f)) (hvp : vP f v) (hN : v 11 = N) (hwd : WF d) (hE : w (y + 312) = some (.inr (2, [.ref (y + 311), .ref (y + 313), .int (iI ct), .int (iI dt)]))) (hv : capV X w (y + 313) bn bsd bx by9 bc bf) (hl2 : rc2 f v d 18 = 0) : CM l X yX2_readCaptionWord cX2_readCaptionWord 1 (some (.boolean)) (rmk 5 107) [.ref (y + 312)] w (some (.int (iI (bz (decide (rc5 f v d 18 = 0)))))) (fun w' => w' (y + 311) = some (.inr (6, rL (y + 307) (cR f N (rc5 f v d) num))) ∧ (∃ n s9 x9 y9 c9 g, capV X w' (y + 313) n s9 x9 y9 c9 g ∧ (rc5 f v d 18 = 0 → n = rcL f v d ∧ s9 = bz (rcR f v d) ∧ ∀ j, 0 ≤ j → j < n → g j = f (rc3 f v d 15 + j) - 97 + 1)) ∧ ∀ q : Nat, q ≠ y + 311 → q ≠ y + 313 → q ≠ y + 313 + 1 → w' q = w q) := by
  refine CM.of (lv := [(0, .ref (y + 312))]) (by decide) (Nat.le_of_ble_eq_true rfl) rfl (fun p e s m below meth c ls F hr hlk hin hW hS hl => ?_)
  have hZ0 := hW.2.2
  have hB9 := hW.1.2
  clear hin
  have hp1 := rc1_P (d := d) hvp
  have hp2 := rc2_P (d := d) hvp
  have hp3 := rc3_P (d := d) hvp
  have hp4 := rc4_P (d := d) hvp
  have hp5 := rc5_P (d := d) hvp
  have hp6 := rc6_P (d := d) hvp
  have hp7 := rc7_P (d := d) hvp
  have hp8 := rc8_P (d := d) hvp
  have hp9 := rc9_P (d := d) hvp
  have hp10 := rc10_P (d := d) hvp
  have hp11 := rc11_P (d := d) hvp
  have hp12 := rc12_P (d := d) hvp
  have hp13 := rc13_P (d := d) hvp
  have hM1 : rc1 v d 11 = N := ((rc1_E v d).1 11 (by omega)).trans hN
  have hM2 : rc2 f v d 11 = N := ((rc2_E hvp).1 11 (by omega)).trans hN
  have hM3 : rc3 f v d 11 = N := ((rc3_E hvp).1 11 (by omega)).trans hN
  have hM4 : rc4 f v d 11 = N := ((rc4_E hvp).1 11 (by omega)).trans hN
  have hM5 : rc5 f v d 11 = N := ((rc5_E hvp).1 11 (by omega)).trans hN
  have hM6 : rc6 f v d 11 = N := ((rc6_E hvp).1 11 (by omega)).trans hN
  have hM7 : rc7 f v d 11 = N := ((rc7_E hvp).1 11 (by omega)).trans hN
  have hM8 : rc8 f v d 11 = N := ((rc8_E hvp).1 11 (by omega)).trans hN
  have hM9 : rc9 f v d 11 = N := ((rc9_E hvp).1 11 (by omega)).trans hN
  have hM10 : rc10 f v d 11 = N := ((rc10_E hvp).1 11 (by omega)).trans hN
  have hM11 : rc11 f v d 11 = N := ((rc11_E hvp).1 11 (by omega)).trans hN
  have hM12 : rc12 f v d 11 = N := ((rc12_E hvp).1 11 (by omega)).trans hN
  have hM13 : rc13 f v d 11 = N := ((rc13_E hvp).1 11 (by omega)).trans hN
  have hd0 := hwd.1
  unfold WF0 at hd0
  have hv1 := hv.1
  have hv2 := hv.2
  have hk2 := (cR_1N (num := num) hp2 hM2).1
  have h14 := cR_3N (num := num) hp2 hM2
  have hr2 := hp2.1.r
  have hL9 : rc2 f v d 14 - rc2 f v d 15 = rcL f v d := rfl
  have hN2 := hp2.1.1
  have hkr := cR_rN (num := num) hp2 hM2
  refine lv_aload_n F.1 F.2.1 dX2_readCaptionWord_0 rfl (lv_at hl 0 rfl) ?_
  refine gf_RX2_18 F hW hE rfl dX2_readCaptionWord_1 ?_
  refine gf_RX2_39 F hW hR rfl dX2_readCaptionWord_4 ?_
  refine h_iconst F dX2_readCaptionWord_7 ?_
  refine h_iceq (tgt := 20) F dX2_readCaptionWord_8 (by decide) (by omega) (fun c1 => ?_) (fun c1 => ?_)
  · have h16 : rc2 f v d 16 = 1 := hk2.mp (by assumption)
    have hw2 := wd_p hp2.1 h16
    refine lv_aload_n F.1 F.2.1 dX2_readCaptionWord_20 rfl (lv_at hl 0 rfl) ?_
    refine gf_RX2_18 F hW hE rfl dX2_readCaptionWord_21 ?_
    refine gf_RX2_111 F hW hR rfl dX2_readCaptionWord_24 ?_
    refine h_top (show ((cR f N (rc2 f v d) num) 3 : Int) = rc2 f v d 14 from h14) ?_
    refine lv_aload_n F.1 F.2.1 dX2_readCaptionWord_27 rfl (lv_at hl 0 rfl) ?_
    refine gf_RX2_18 F hW hE rfl dX2_readCaptionWord_28 ?_
    refine gf_RX2_114 F hW hR rfl dX2_readCaptionWord_31 ?_
    refine h_top (show ((cR f N (rc2 f v d) num) 2 : Int) = rc2 f v d 15 from rfl) ?_
    refine h_isub (a := rc2 f v d 14) (b := rc2 f v d 15) F dX2_readCaptionWord_34 ?_
    refine h_top (show ((rc2 f v d 14) - (rc2 f v d 15) : Int) = rcL f v d from rfl) ?_
    refine h_bipush F dX2_readCaptionWord_35 rfl ?_
    refine h_icle (tgt := 49) F dX2_readCaptionWord_37 (by decide) (by omega) (fun c2 => ?_) (fun c2 => ?_)
    · obtain ⟨e3, e4, h4⟩ := rcw_3 (f := f) (v := v) (d := d) hl2 h16 (by omega)
      have h5 := rcw_5 (f := f) (v := v) (d := d) h4
      refine lv_aload_n F.1 F.2.1 dX2_readCaptionWord_49 rfl (lv_at hl 0 rfl) ?_
      refine gf_RX2_12 F hW hE rfl dX2_readCaptionWord_50 ?_
      refine lv_aload_n F.1 F.2.1 dX2_readCaptionWord_53 rfl (lv_at hl 0 rfl) ?_
      refine gf_RX2_18 F hW hE rfl dX2_readCaptionWord_54 ?_
      refine gf_RX2_117 F hW hR rfl dX2_readCaptionWord_57 ?_
      refine lv_aload_n F.1 F.2.1 dX2_readCaptionWord_60 rfl (lv_at hl 0 rfl) ?_
      refine gf_RX2_18 F hW hE rfl dX2_readCaptionWord_61 ?_
      refine gf_RX2_114 F hW hR rfl dX2_readCaptionWord_64 ?_
      refine h_top (show ((cR f N (rc2 f v d) num) 2 : Int) = rc2 f v d 15 from rfl) ?_
      refine lv_aload_n F.1 F.2.1 dX2_readCaptionWord_67 rfl (lv_at hl 0 rfl) ?_
      refine gf_RX2_18 F hW hE rfl dX2_readCaptionWord_68 ?_
      refine gf_RX2_111 F hW hR rfl dX2_readCaptionWord_71 ?_
      refine h_top (show ((cR f N (rc2 f v d) num) 3 : Int) = rc2 f v d 14 from h14) ?_
      refine cl_RX2_121 (As := [.ref (y + 307), .int (iI (rc2 f v d 15)), .int (iI (rc2 f v d 14))]) (rest := []) F hl (c_X1_takeWord l X w (y + 313) bn bsd bx by9 bc bf (y + 307) (y + 308) N f (rc2 f v d 15) (rc2 f v d 14) hv hB hT (by omega) (by omega)) hW hS hv1 rfl rfl ⟨Nat.le_of_ble_eq_true rfl, Nat.le_of_ble_eq_true rfl⟩ (Nat.le_of_ble_eq_true rfl) ⟨Nat.zero_le _, Nat.zero_le _⟩ dX2_readCaptionWord_74 (fun w3 H locs hp4 hW hS => ?_)
      obtain ⟨ho5, ha6, hn7⟩ := hp4
      have hR := (hn7 _ (by omega) (by omega)).trans hR
      have hB := (hn7 _ (by omega) (by omega)).trans hB
      have hE := (hn7 _ (by omega) (by omega)).trans hE
      have hT := (hn7 _ (by omega) (by omega)).trans hT
      rw [show min (rc2 f v d 14 - rc2 f v d 15) 8 = rcL f v d by omega] at ho5 ha6
      refine lv_aload_n F.1 F.2.1 dX2_readCaptionWord_77 rfl (lv_at hl 0 rfl) ?_
      refine gf_RX2_18 F hW hE rfl dX2_readCaptionWord_78 ?_
      refine cl_RX2_92 (As := []) (rest := []) F hl (k_step l X w3 (y + 311) (y + 307) (y + 308) N f (rc2 f v d) num hR hB hT hp2 hM2 (by omega)) hW hS hR rfl rfl ⟨Nat.le_of_ble_eq_true rfl, Nat.le_of_ble_eq_true rfl⟩ (Nat.le_of_ble_eq_true rfl) ⟨Nat.zero_le _, Nat.zero_le _⟩ dX2_readCaptionWord_81 (fun w8 H locs hp9 hW hS => ?_)
      obtain ⟨ho10, hn11⟩ := hp9
      have hB := (hn11 _ (by omega)).trans hB
      have hE := (hn11 _ (by omega)).trans hE
      have ho5 := (hn11 _ (by omega)).trans ho5
      have hT := (hn11 _ (by omega)).trans hT
      have ha6 := (hn11 _ (by omega)).trans ha6
      have hX12 : w8 (y + 311) = some (.inr (6, rL (y + 307) (cR f N (rc4 f v d) num))) := by rw [show (rc4 f v d : Int → Int) = goV f (rc2 f v d) from e4]; exact ho10
      refine lv_aload_n F.1 F.2.1 dX2_readCaptionWord_84 rfl (lv_at hl 0 rfl) ?_
      refine gf_RX2_12 F hW hE rfl dX2_readCaptionWord_85 ?_
      refine h_iconst F dX2_readCaptionWord_88 ?_
      refine pf_RX2_124 F hW hS ho5 (Nat.le_of_ble_eq_true rfl) dX2_readCaptionWord_89 (fun w13 H locs ho15 hn14 hW hS => ?_)
      have ho15 : w13 (y + 313) = some (.inr (1, [.ref (y + 313 + 1), .int (iI (rcL f v d)), .int (iI 0), .int (iI bx), .int (iI by9), .int (iI bc)])) := ho15
      have hX12 := (hn14 _ (by omega)).trans hX12
      have hB := (hn14 _ (by omega)).trans hB
      have hE := (hn14 _ (by omega)).trans hE
      have hT := (hn14 _ (by omega)).trans hT
      have ha6 := (hn14 _ (by omega)).trans ha6
      refine lv_aload_n F.1 F.2.1 dX2_readCaptionWord_92 rfl (lv_at hl 0 rfl) ?_
      refine gf_RX2_18 F hW hE rfl dX2_readCaptionWord_93 ?_
      refine h_ldcS (tx := "rear") (i := 2) F hW (by decide +kernel) dX2_readCaptionWord_96 ?_
      refine cl_RX2_70 (As := [.ref (X.2.2 (10 + 2))]) (rest := []) F hl (k_isWord l X w13 (y + 311) (y + 307) (y + 308) N f (rc4 f v d) num 2 hX12 hB hT hp4 hM4 (by omega) h4 (by decide)) hW hS hX12 rfl rfl ⟨Nat.le_of_ble_eq_true rfl, Nat.le_of_ble_eq_true rfl⟩ (Nat.le_of_ble_eq_true rfl) ⟨Nat.zero_le _, Nat.zero_le _⟩ dX2_readCaptionWord_98 (fun w1 H locs hp16 hW hS => ?_)
      rw [hp16] at hW; clear hp16; clear w1
      refine h_top (show (bz (isWR f (rc4 f v d) 2) : Int) = bz (rcR f v d) from rfl) ?_
      refine h_ifeqb (tgt := 119) F dX2_readCaptionWord_101 (by decide) (fun c17 => ?_) (fun c17 => ?_)
      · have e5 : rc5 f v d = rc4 f v d := by unfold rc5; rw [if_neg (by rw [‹rcR f v d = false›]; decide)]
        have hBX := rcw_y (X := X) (w := w13) (f := f) (v := v) (d := d) ⟨ho15, ha6⟩ (rcw_l bf hvp hN e3 (by omega)) (show (0 : Int) = bz (rcR f v d) by rw [‹rcR f v d = false›]; rfl)
        refine h_iconst F dX2_readCaptionWord_119 ?_
        refine h_top (show (1 : Int) = bz (decide (rc5 f v d 18 = 0)) from by first | exact bzt (decide_eq_true h5) | exact bzf (decide_eq_false h5) | exact congrArg bz (decide_eq_false h5).symm) ?_
        exact h_iretz F hr hlk hW hS ⟨(by (rw [hX12]) <;> (rw [e5])), hBX, (fun q h09 h19 h29 => by rw [hn14 q (by omega), hn11 q (by omega), hn7 q (by omega) (by omega)])⟩ dX2_readCaptionWord_120
      · refine lv_aload_n F.1 F.2.1 dX2_readCaptionWord_104 rfl (lv_at hl 0 rfl) ?_
        refine gf_RX2_12 F hW hE rfl dX2_readCaptionWord_105 ?_
        refine h_iconst F dX2_readCaptionWord_108 ?_
        refine pf_RX2_124 F hW hS ho15 (Nat.le_of_ble_eq_true rfl) dX2_readCaptionWord_109 (fun w18 H locs ho20 hn19 hW hS => ?_)
        have ho20 : w18 (y + 313) = some (.inr (1, [.ref (y + 313 + 1), .int (iI (rcL f v d)), .int (iI 1), .int (iI bx), .int (iI by9), .int (iI bc)])) := ho20
        have hX12 := (hn19 _ (by omega)).trans hX12
        have hB := (hn19 _ (by omega)).trans hB
        have hE := (hn19 _ (by omega)).trans hE
        have hT := (hn19 _ (by omega)).trans hT
        have ha6 := (hn19 _ (by omega)).trans ha6
        refine lv_aload_n F.1 F.2.1 dX2_readCaptionWord_112 rfl (lv_at hl 0 rfl) ?_
        refine gf_RX2_18 F hW hE rfl dX2_readCaptionWord_113 ?_
        refine cl_RX2_92 (As := []) (rest := []) F hl (k_step l X w18 (y + 311) (y + 307) (y + 308) N f (rc4 f v d) num hX12 hB hT hp4 hM4 (by omega)) hW hS hX12 rfl rfl ⟨Nat.le_of_ble_eq_true rfl, Nat.le_of_ble_eq_true rfl⟩ (Nat.le_of_ble_eq_true rfl) ⟨Nat.zero_le _, Nat.zero_le _⟩ dX2_readCaptionWord_116 (fun w21 H locs hp22 hW hS => ?_)
        obtain ⟨ho23, hn24⟩ := hp22
        have hB := (hn24 _ (by omega)).trans hB
        have hE := (hn24 _ (by omega)).trans hE
        have ho20 := (hn24 _ (by omega)).trans ho20
        have hT := (hn24 _ (by omega)).trans hT
        have ha6 := (hn24 _ (by omega)).trans ha6
        have e5 : rc5 f v d = goV f (rc4 f v d) := by unfold rc5; rw [if_pos ‹rcR f v d = true›]
        have hBX := rcw_y (X := X) (w := w21) (f := f) (v := v) (d := d) ⟨ho20, ha6⟩ (rcw_l bf hvp hN e3 (by omega)) (show (1 : Int) = bz (rcR f v d) by rw [‹rcR f v d = true›]; rfl)
        refine h_iconst F dX2_readCaptionWord_119 ?_
        refine h_top (show (1 : Int) = bz (decide (rc5 f v d 18 = 0)) from by first | exact bzt (decide_eq_true h5) | exact bzf (decide_eq_false h5) | exact congrArg bz (decide_eq_false h5).symm) ?_
        exact h_iretz F hr hlk hW hS ⟨(by (rw [ho23]) <;> (rw [e5])), hBX, (fun q h09 h19 h29 => by rw [hn24 q (by omega), hn19 q (by omega), hn14 q (by omega), hn11 q (by omega), hn7 q (by omega) (by omega)])⟩ dX2_readCaptionWord_120
    · obtain ⟨e5, h5⟩ := rcw_2 (f := f) (v := v) (d := d) hl2 h16 (by omega)
      refine lv_aload_n F.1 F.2.1 dX2_readCaptionWord_40 rfl (lv_at hl 0 rfl) ?_
      refine gf_RX2_18 F hW hE rfl dX2_readCaptionWord_41 ?_
      refine h_iconst F dX2_readCaptionWord_44 ?_
      refine cl_RX2_86 (As := [.int (iI 2)]) (rest := []) F hl (k_fail l X w (y + 311) (y + 307) (y + 308) N f (rc2 f v d) num 2 hR hB hT hp2 hM2 (by omega) hl2) hW hS hR rfl rfl ⟨Nat.le_of_ble_eq_true rfl, Nat.le_of_ble_eq_true rfl⟩ (Nat.le_of_ble_eq_true rfl) ⟨Nat.zero_le _, Nat.zero_le _⟩ dX2_readCaptionWord_45 (fun w25 H locs hp26 hW hS => ?_)
      obtain ⟨ho27, hn28⟩ := hp26
      have hB := (hn28 _ (by omega)).trans hB
      have hE := (hn28 _ (by omega)).trans hE
      have hv1 := (hn28 _ (by omega)).trans hv1
      have hT := (hn28 _ (by omega)).trans hT
      have hv2 := (hn28 _ (by omega)).trans hv2
      have hBX := rcw_x (X := X) (w := w25) (y := y) ⟨hv1, hv2⟩ h5
      refine h_top (show (bz false : Int) = bz (decide (rc5 f v d 18 = 0)) from by first | exact bzt (decide_eq_true h5) | exact bzf (decide_eq_false h5) | exact congrArg bz (decide_eq_false h5).symm) ?_
      exact h_iretz F hr hlk hW hS ⟨(by (rw [ho27]) <;> (rw [e5])), hBX, (fun q h09 h19 h29 => by rw [hn28 q (by omega)])⟩ dX2_readCaptionWord_48
  · have h16 : rc2 f v d 16 ≠ 1 := fun z => absurd (hk2.mpr z) (by assumption)
    obtain ⟨e5, h5⟩ := rcw_1 (f := f) (v := v) (d := d) hl2 h16
    refine lv_aload_n F.1 F.2.1 dX2_readCaptionWord_11 rfl (lv_at hl 0 rfl) ?_
    refine gf_RX2_18 F hW hE rfl dX2_readCaptionWord_12 ?_
    refine h_iconst F dX2_readCaptionWord_15 ?_
    refine cl_RX2_86 (As := [.int (iI 1)]) (rest := []) F hl (k_fail l X w (y + 311) (y + 307) (y + 308) N f (rc2 f v d) num 1 hR hB hT hp2 hM2 (by omega) hl2) hW hS hR rfl rfl ⟨Nat.le_of_ble_eq_true rfl, Nat.le_of_ble_eq_true rfl⟩ (Nat.le_of_ble_eq_true rfl) ⟨Nat.zero_le _, Nat.zero_le _⟩ dX2_readCaptionWord_16 (fun w29 H locs hp30 hW hS => ?_)
    obtain ⟨ho31, hn32⟩ := hp30
    have hB := (hn32 _ (by omega)).trans hB
    have hE := (hn32 _ (by omega)).trans hE
    have hv1 := (hn32 _ (by omega)).trans hv1
    have hT := (hn32 _ (by omega)).trans hT
    have hv2 := (hn32 _ (by omega)).trans hv2
    have hBX := rcw_x (X := X) (w := w29) (y := y) ⟨hv1, hv2⟩ h5
    refine h_top (show (bz false : Int) = bz (decide (rc5 f v d 18 = 0)) from by first | exact bzt (decide_eq_true h5) | exact bzf (decide_eq_false h5) | exact congrArg bz (decide_eq_false h5).symm) ?_
    exact h_iretz F hr hlk hW hS ⟨(by (rw [ho31]) <;> (rw [e5])), hBX, (fun q h09 h19 h29 => by rw [hn32 q (by omega)])⟩ dX2_readCaptionWord_19
set_option maxHeartbeats 4000000 in
set_option maxRecDepth 100000 in
theorem c_X2_readCaptionPlace (l : Launch) (X : Cx) (w : Wo) (y : Nat) (N num : Int) (f v d : Int → Int) (ct dt : Int) (bx by9 bc : Int) (bf : Int → Int) (hR : w (y + 311) = some (.inr (6, rL (y + 307) (cR f N (rc5 f v d) num)))) (hB : w (y + 307) = some (.inr (0, [.ref (y + 308), .int (iI N)]))) (hT : w (y + 308) = some (aZ X 400 f)) (hvp : vP f v) (hN : v 11 = N) (hwd : WF d) (hE : w (y + 312) = some (.inr (2, [.ref (y + 311), .ref (y + 313), .int (iI ct), .int (iI dt)]))) (hv : capV X w (y + 313) (rcL f v d) (bz (rcR f v d)) bx by9 bc bf) (hL : dlA X w (y + 26) d) (hl5 : rc5 f v d 18 = 0) : CM l X yX2_readCaptionPlace cX2_readCaptionPlace 3 (some (.boolean)) (rmk 6 128) [.ref (y + 312), .ref (y + 26)] w (some (.int (iI (bz (decide (rc11 f v d 18 = 0)))))) (fun w' => (∃ m : Int, w' (y + 311) = some (.inr (6, rL (y + 307) (cR f N (rc11 f v d) m)))) ∧ (∃ x9 y9, capV X w' (y + 313) (rcL f v d) (bz (rcR f v d)) x9 y9 bc bf ∧ (rc11 f v d 18 = 0 → x9 = rcX f v d ∧ y9 = rcY f v d)) ∧ ∀ q : Nat, q ≠ y + 311 → q ≠ y + 313 → w' q = w q) := by
  refine CM.of (lv := [(0, .ref (y + 312)), (1, .ref (y + 26))]) (by decide) (Nat.le_of_ble_eq_true rfl) rfl (fun p e s m below meth c ls F hr hlk hin hW hS hl => ?_)
  have hZ0 := hW.2.2
  have hB9 := hW.1.2
  clear hin
  have hp1 := rc1_P (d := d) hvp
  have hp2 := rc2_P (d := d) hvp
  have hp3 := rc3_P (d := d) hvp
  have hp4 := rc4_P (d := d) hvp
  have hp5 := rc5_P (d := d) hvp
  have hp6 := rc6_P (d := d) hvp
  have hp7 := rc7_P (d := d) hvp
  have hp8 := rc8_P (d := d) hvp
  have hp9 := rc9_P (d := d) hvp
  have hp10 := rc10_P (d := d) hvp
  have hp11 := rc11_P (d := d) hvp
  have hp12 := rc12_P (d := d) hvp
  have hp13 := rc13_P (d := d) hvp
  have hM1 : rc1 v d 11 = N := ((rc1_E v d).1 11 (by omega)).trans hN
  have hM2 : rc2 f v d 11 = N := ((rc2_E hvp).1 11 (by omega)).trans hN
  have hM3 : rc3 f v d 11 = N := ((rc3_E hvp).1 11 (by omega)).trans hN
  have hM4 : rc4 f v d 11 = N := ((rc4_E hvp).1 11 (by omega)).trans hN
  have hM5 : rc5 f v d 11 = N := ((rc5_E hvp).1 11 (by omega)).trans hN
  have hM6 : rc6 f v d 11 = N := ((rc6_E hvp).1 11 (by omega)).trans hN
  have hM7 : rc7 f v d 11 = N := ((rc7_E hvp).1 11 (by omega)).trans hN
  have hM8 : rc8 f v d 11 = N := ((rc8_E hvp).1 11 (by omega)).trans hN
  have hM9 : rc9 f v d 11 = N := ((rc9_E hvp).1 11 (by omega)).trans hN
  have hM10 : rc10 f v d 11 = N := ((rc10_E hvp).1 11 (by omega)).trans hN
  have hM11 : rc11 f v d 11 = N := ((rc11_E hvp).1 11 (by omega)).trans hN
  have hM12 : rc12 f v d 11 = N := ((rc12_E hvp).1 11 (by omega)).trans hN
  have hM13 : rc13 f v d 11 = N := ((rc13_E hvp).1 11 (by omega)).trans hN
  have hd0 := hwd.1
  unfold WF0 at hd0
  have hv1 := hv.1
  have hv2 := hv.2
  have hLo := hL.1.o
  obtain ⟨hl3, hk3⟩ := rc5_0 (f := f) (v := v) (d := d) hl5
  obtain ⟨-, hLr, hd8, -, -⟩ := rc3_L hvp hl3 hk3
  have heD := rcD_eq (f := f) hvp hwd
  have hX := seR_r (v := rc6 f v d) (lo := 0) (hi := d 0 - 1) (by omega)
  have hY := seR_r (v := rc7 f v d) (lo := 0) (hi := d 1 - 1) (by omega)
  have hX9 : seR 0 (d 0 - 1) (rc6 f v d) = rcX f v d := rfl
  have hY9 : seR 0 (d 1 - 1) (rc7 f v d) = rcY f v d := rfl
  have hbz := bz_r (rcR f v d)
  refine lv_aload_n F.1 F.2.1 dX2_readCaptionPlace_0 rfl (lv_at hl 0 rfl) ?_
  refine gf_RX2_18 F hW hE rfl dX2_readCaptionPlace_1 ?_
  refine h_ldcS (tx := "at") (i := 3) F hW (by decide +kernel) dX2_readCaptionPlace_4 ?_
  refine cl_RX2_51 (As := [.ref (X.2.2 (10 + 3))]) (rest := []) F hl (k_takeWord l X w (y + 311) (y + 307) (y + 308) N f (rc5 f v d) num 3 hR hB hT hp5 hM5 (by omega) hl5 (by decide)) hW hS hR rfl rfl ⟨Nat.le_of_ble_eq_true rfl, Nat.le_of_ble_eq_true rfl⟩ (Nat.le_of_ble_eq_true rfl) ⟨Nat.zero_le _, Nat.zero_le _⟩ dX2_readCaptionPlace_6 (fun w1 H locs hp2 hW hS => ?_)
  obtain ⟨ho3, hn4⟩ := hp2
  have hB := (hn4 _ (by omega)).trans hB
  have hE := (hn4 _ (by omega)).trans hE
  have hv1 := (hn4 _ (by omega)).trans hv1
  have hLo := (hn4 _ (by omega)).trans hLo
  have hT := (hn4 _ (by omega)).trans hT
  have hv2 := (hn4 _ (by omega)).trans hv2
  have hL := hL.mv (w2 := w1) (fun q h1 h2 => hn4 q (by omega))
  have hX5 : w1 (y + 311) = some (.inr (6, rL (y + 307) (cR f N (rc6 f v d) num))) := by rw [show (rc6 f v d : Int → Int) = muV f (isWR f (rc5 f v d) 3) (rc5 f v d) from rfl]; exact ho3
  refine h_ifeqb (tgt := 29) F dX2_readCaptionPlace_9 (by decide) (fun c6 => ?_) (fun c6 => ?_)
  · have hq : rc6 f v d 18 ≠ 0 := rcp_6 hl5 (by assumption)
    obtain ⟨e11, h11⟩ := rcd_6 (f := f) (v := v) (d := d) hq
    refine h_iconst F dX2_readCaptionPlace_29 ?_
    have hPX : _ := (⟨_, _, ⟨hv1, hv2⟩, fun z => absurd z h11⟩ : (∃ x9 y9, capV X w1 (y + 313) (rcL f v d) (bz (rcR f v d)) x9 y9 bc bf ∧ (rc11 f v d 18 = 0 → x9 = rcX f v d ∧ y9 = rcY f v d)))
    refine h_top (show (0 : Int) = bz (decide (rc11 f v d 18 = 0)) from by first | exact bzt (decide_eq_true h11) | exact bzf (decide_eq_false h11) | exact congrArg bz (decide_eq_false h11).symm) ?_
    exact h_iretz F hr hlk hW hS ⟨⟨_, by rw [e11]; exact hX5⟩, hPX, (fun q h09 h19 => by rw [hn4 q (by omega)])⟩ dX2_readCaptionPlace_30
  · have hl6 : rc6 f v d 18 = 0 := rcq_6 hl5 (by assumption)
    refine lv_aload_n F.1 F.2.1 dX2_readCaptionPlace_12 rfl (lv_at hl 0 rfl) ?_
    refine gf_RX2_18 F hW hE rfl dX2_readCaptionPlace_13 ?_
    refine h_iconst F dX2_readCaptionPlace_16 ?_
    refine lv_aload_n F.1 F.2.1 dX2_readCaptionPlace_17 rfl (lv_at hl 1 rfl) ?_
    refine gf_RX2_131 F hW hLo rfl dX2_readCaptionPlace_18 ?_
    refine h_iconst F dX2_readCaptionPlace_21 ?_
    refine h_isub (a := d 0) (b := 1) F dX2_readCaptionPlace_22 ?_
    refine cl_RX2_55 (As := [.int (iI 0), .int (iI ((d 0) - 1))]) (rest := []) F hl (k_takeNumber l X w1 (y + 311) (y + 307) (y + 308) N f (rc6 f v d) num 0 ((d 0) - 1) hX5 hB hT hp6 hM6 (by omega) hl6 (by omega) (by omega)) hW hS hX5 rfl rfl ⟨Nat.le_of_ble_eq_true rfl, Nat.le_of_ble_eq_true rfl⟩ (Nat.le_of_ble_eq_true rfl) ⟨Nat.zero_le _, Nat.zero_le _⟩ dX2_readCaptionPlace_23 (fun w7 H locs hp8 hW hS => ?_)
    obtain ⟨ho9, hn10⟩ := hp8
    have hB := (hn10 _ (by omega)).trans hB
    have hE := (hn10 _ (by omega)).trans hE
    have hv1 := (hn10 _ (by omega)).trans hv1
    have hLo := (hn10 _ (by omega)).trans hLo
    have hT := (hn10 _ (by omega)).trans hT
    have hv2 := (hn10 _ (by omega)).trans hv2
    have hL := hL.mv (w2 := w7) (fun q h1 h2 => hn10 q (by omega))
    have hX11 : w7 (y + 311) = some (.inr (6, rL (y + 307) (cR f N (rc7 f v d) (nuS 0 ((d 0) - 1) (rc6 f v d) num)))) := by rw [show (rc7 f v d : Int → Int) = tkV f 0 ((d 0) - 1) (rc6 f v d) from rfl]; exact ho9
    refine h_ifneb (tgt := 31) F dX2_readCaptionPlace_26 (by decide) (fun c12 => ?_) (fun c12 => ?_)
    · have c12d := of_decide_eq_true c12
      have hl7 : rc7 f v d 18 = 0 := by assumption
      refine lv_aload_n F.1 F.2.1 dX2_readCaptionPlace_31 rfl (lv_at hl 0 rfl) ?_
      refine gf_RX2_18 F hW hE rfl dX2_readCaptionPlace_32 ?_
      refine gf_RX2_59 F hW hX11 rfl dX2_readCaptionPlace_35 ?_
      refine h_top (show ((cR f N (rc7 f v d) (nuS 0 ((d 0) - 1) (rc6 f v d) num)) 5 : Int) = rcX f v d from by show nuS 0 (d 0 - 1) (rc6 f v d) num = _; unfold nuS; rw [← tk_18 (f := f), if_pos (show tkV f 0 (d 0 - 1) (rc6 f v d) 18 = 0 from hl7)]; rfl) ?_
      refine lv_istore_n (lv' := [(2, .int (iI (rcX f v d))), (0, .ref (y + 312)), (1, .ref (y + 26))]) F.1 F.2.1 dX2_readCaptionPlace_38 rfl hl (by decide) rfl (fun ls hl => ?_)
      refine lv_aload_n F.1 F.2.1 dX2_readCaptionPlace_39 rfl (lv_at hl 1 rfl) ?_
      refine gf_RX2_18 F hW hE rfl dX2_readCaptionPlace_40 ?_
      refine h_iconst F dX2_readCaptionPlace_43 ?_
      refine lv_aload_n F.1 F.2.1 dX2_readCaptionPlace_44 rfl (lv_at hl 2 rfl) ?_
      refine gf_RX2_134 F hW hLo rfl dX2_readCaptionPlace_45 ?_
      refine h_iconst F dX2_readCaptionPlace_48 ?_
      refine h_isub (a := d 1) (b := 1) F dX2_readCaptionPlace_49 ?_
      refine cl_RX2_137 (As := [.int (iI 0), .int (iI ((d 1) - 1))]) (rest := []) F hl (k_seesNumber l X w7 (y + 311) (y + 307) (y + 308) N f (rc7 f v d) (nuS 0 ((d 0) - 1) (rc6 f v d) num) 0 ((d 1) - 1) hX11 hB hT hp7 hM7 (by omega) hl7 (by omega) (by omega)) hW hS hX11 rfl rfl ⟨Nat.le_of_ble_eq_true rfl, Nat.le_of_ble_eq_true rfl⟩ (Nat.le_of_ble_eq_true rfl) ⟨Nat.zero_le _, Nat.zero_le _⟩ dX2_readCaptionPlace_50 (fun w13 H locs hp14 hW hS => ?_)
      obtain ⟨ho15, hn16⟩ := hp14
      have hB := (hn16 _ (by omega)).trans hB
      have hE := (hn16 _ (by omega)).trans hE
      have hv1 := (hn16 _ (by omega)).trans hv1
      have hLo := (hn16 _ (by omega)).trans hLo
      have hT := (hn16 _ (by omega)).trans hT
      have hv2 := (hn16 _ (by omega)).trans hv2
      have hL := hL.mv (w2 := w13) (fun q h1 h2 => hn16 q (by omega))
      have hX17 : w13 (y + 311) = some (.inr (6, rL (y + 307) (cR f N (rc8 f v d) (nuS 0 ((d 1) - 1) (rc7 f v d) (nuS 0 ((d 0) - 1) (rc6 f v d) num))))) := by rw [show (rc8 f v d : Int → Int) = seV 0 ((d 1) - 1) (rc7 f v d) from rfl]; exact ho15
      refine h_ifneb (tgt := 58) F dX2_readCaptionPlace_53 (by decide) (fun c18 => ?_) (fun c18 => ?_)
      · have c18d := of_decide_eq_true c18
        have hl8 : rc8 f v d 18 = 0 := by assumption
        refine lv_aload_n F.1 F.2.1 dX2_readCaptionPlace_58 rfl (lv_at hl 1 rfl) ?_
        refine gf_RX2_12 F hW hE rfl dX2_readCaptionPlace_59 ?_
        refine lv_iload_n F.1 F.2.1 dX2_readCaptionPlace_62 rfl (lv_at hl 0 rfl) ?_
        refine lv_aload_n F.1 F.2.1 dX2_readCaptionPlace_63 rfl (lv_at hl 1 rfl) ?_
        refine gf_RX2_18 F hW hE rfl dX2_readCaptionPlace_64 ?_
        refine gf_RX2_59 F hW hX17 rfl dX2_readCaptionPlace_67 ?_
        refine h_top (show ((cR f N (rc8 f v d) (nuS 0 ((d 1) - 1) (rc7 f v d) (nuS 0 ((d 0) - 1) (rc6 f v d) num))) 5 : Int) = rcY f v d from by show nuS 0 (d 1 - 1) (rc7 f v d) _ = _; unfold nuS; rw [if_pos (show seV 0 (d 1 - 1) (rc7 f v d) 18 = 0 from hl8)]; rfl) ?_
        have hv9 : capV X w13 (y + 313) (rcL f v d) (bz (rcR f v d)) bx by9 bc bf := ⟨hv1, hv2⟩
        refine cl_RX2_140 (As := [.int (iI (rcX f v d)), .int (iI (rcY f v d))]) (rest := []) F hl (c_X1_putAt l X w13 (y + 313) (rcL f v d) (bz (rcR f v d)) bx by9 bc bf (rcX f v d) (rcY f v d) hv9) hW hS hv1 rfl rfl ⟨Nat.le_of_ble_eq_true rfl, Nat.le_of_ble_eq_true rfl⟩ (Nat.le_of_ble_eq_true rfl) ⟨Nat.zero_le _, Nat.zero_le _⟩ dX2_readCaptionPlace_70 (fun w19 H locs hp20 hW hS => ?_)
        obtain ⟨ho21, hn22⟩ := hp20
        have hX17 := (hn22 _ (by omega)).trans hX17
        have hB := (hn22 _ (by omega)).trans hB
        have hE := (hn22 _ (by omega)).trans hE
        have hLo := (hn22 _ (by omega)).trans hLo
        have hT := (hn22 _ (by omega)).trans hT
        have hv2 := (hn22 _ (by omega)).trans hv2
        have hL := hL.mv (w2 := w19) (fun q h1 h2 => hn22 q (by omega))
        have hv8 : capV X w19 (y + 313) (rcL f v d) (bz (rcR f v d)) (rcX f v d) (rcY f v d) bc bf := ⟨ho21, hv2⟩
        refine lv_aload_n F.1 F.2.1 dX2_readCaptionPlace_73 rfl (lv_at hl 2 rfl) ?_
        refine lv_aload_n F.1 F.2.1 dX2_readCaptionPlace_74 rfl (lv_at hl 1 rfl) ?_
        refine gf_RX2_12 F hW hE rfl dX2_readCaptionPlace_75 ?_
        refine cl_RX2_143 (As := [.ref (y + 313)]) (rest := []) F hl (c_X5_holds l X w19 (y + 26) d (y + 313) (rcL f v d) (bz (rcR f v d)) (rcX f v d) (rcY f v d) bc bf hL.1 hwd hv8 (by omega) (by omega) (by omega)) hW hS hLo rfl rfl ⟨Nat.le_of_ble_eq_true rfl, Nat.le_of_ble_eq_true rfl⟩ (Nat.le_of_ble_eq_true rfl) ⟨Nat.zero_le _, Nat.zero_le _⟩ dX2_readCaptionPlace_78 (fun w1 H locs hp23 hW hS => ?_)
        rw [hp23] at hW; clear hp23; clear w1
        refine h_ifneb (tgt := 93) F dX2_readCaptionPlace_81 (by decide) (fun c24 => ?_) (fun c24 => ?_)
        · have e9 : rc9 f v d = rc8 f v d := by unfold rc9; rw [if_neg (fun z => by rw [lies_c heD] at z; rw [‹liesS _ _ _ _ = true›] at z; exact absurd z.2 (by decide))]
          have hli := of_decide_eq_true (show decide (0 ≤ rcX f v d ∧ 0 ≤ rcY f v d ∧ rcX f v d + 4 * rcL f v d - 2 < d 0 ∧ rcY f v d + 4 < d 1) = true by assumption)
          have hl9 : rc9 f v d 18 = 0 := by rw [e9]; exact hl8
          refine lv_aload_n F.1 F.2.1 dX2_readCaptionPlace_93 rfl (lv_at hl 2 rfl) ?_
          refine lv_aload_n F.1 F.2.1 dX2_readCaptionPlace_94 rfl (lv_at hl 1 rfl) ?_
          refine gf_RX2_12 F hW hE rfl dX2_readCaptionPlace_95 ?_
          refine h_iconst F dX2_readCaptionPlace_98 ?_
          refine cl_RX2_147 (As := [.ref (y + 313), .int (iI (-1))]) (rest := []) F hl (c_X5_isFree l X w19 (y + 26) d (y + 313) (rcL f v d) (bz (rcR f v d)) (rcX f v d) (rcY f v d) bc bf (-1) hL.1 hwd hv8 (by omega) (by omega) (by omega) (by omega) (by omega)) hW hS hLo rfl rfl ⟨Nat.le_of_ble_eq_true rfl, Nat.le_of_ble_eq_true rfl⟩ (Nat.le_of_ble_eq_true rfl) ⟨Nat.zero_le _, Nat.zero_le _⟩ dX2_readCaptionPlace_99 (fun w1 H locs hp25 hW hS => ?_)
          rw [hp25] at hW; clear hp25; clear w1
          refine h_ifneb (tgt := 114) F dX2_readCaptionPlace_102 (by decide) (fun c26 => ?_) (fun c26 => ?_)
          · have hme := bnot_t (by assumption)
            have e10 : rc10 f v d = rc8 f v d := by unfold rc10; rw [if_neg (fun z => by rw [meet_c (by omega) heD, hme] at z; exact absurd z.2 (by decide)), e9]
            have e11 : rc11 f v d = goV f (rc8 f v d) := by unfold rc11; rw [e10, mu_t hl8]
            have h11 : rc11 f v d 18 = 0 := by rw [e11, go_n (by decide)]; exact hl8
            refine lv_aload_n F.1 F.2.1 dX2_readCaptionPlace_114 rfl (lv_at hl 1 rfl) ?_
            refine gf_RX2_18 F hW hE rfl dX2_readCaptionPlace_115 ?_
            refine cl_RX2_92 (As := []) (rest := []) F hl (k_step l X w19 (y + 311) (y + 307) (y + 308) N f (rc8 f v d) (nuS 0 ((d 1) - 1) (rc7 f v d) (nuS 0 ((d 0) - 1) (rc6 f v d) num)) hX17 hB hT hp8 hM8 (by omega)) hW hS hX17 rfl rfl ⟨Nat.le_of_ble_eq_true rfl, Nat.le_of_ble_eq_true rfl⟩ (Nat.le_of_ble_eq_true rfl) ⟨Nat.zero_le _, Nat.zero_le _⟩ dX2_readCaptionPlace_118 (fun w27 H locs hp28 hW hS => ?_)
            obtain ⟨ho29, hn30⟩ := hp28
            have hB := (hn30 _ (by omega)).trans hB
            have hE := (hn30 _ (by omega)).trans hE
            have ho21 := (hn30 _ (by omega)).trans ho21
            have hLo := (hn30 _ (by omega)).trans hLo
            have hT := (hn30 _ (by omega)).trans hT
            have hv2 := (hn30 _ (by omega)).trans hv2
            have hL := hL.mv (w2 := w27) (fun q h1 h2 => hn30 q (by omega))
            have hPX : _ := (⟨_, _, ⟨ho21, hv2⟩, fun _ => ⟨rfl, rfl⟩⟩ : (∃ x9 y9, capV X w27 (y + 313) (rcL f v d) (bz (rcR f v d)) x9 y9 bc bf ∧ (rc11 f v d 18 = 0 → x9 = rcX f v d ∧ y9 = rcY f v d)))
            refine h_iconst F dX2_readCaptionPlace_121 ?_
            refine h_top (show (1 : Int) = bz (decide (rc11 f v d 18 = 0)) from by first | exact bzt (decide_eq_true h11) | exact bzf (decide_eq_false h11) | exact congrArg bz (decide_eq_false h11).symm) ?_
            exact h_iretz F hr hlk hW hS ⟨⟨_, by rw [e11]; exact ho29⟩, hPX, (fun q h09 h19 => by rw [hn30 q (by omega), hn22 q (by omega), hn16 q (by omega), hn10 q (by omega), hn4 q (by omega)])⟩ dX2_readCaptionPlace_122
          · have hme := bnot_f (by assumption)
            have e10 : rc10 f v d = faV 5 (rc8 f v d) := by unfold rc10; rw [if_pos ⟨hl9, by rw [meet_c (by omega) heD]; exact hme⟩, e9]
            obtain ⟨e11, h11⟩ := rcd_10 (f := f) (v := v) (d := d) (by rw [e10]; exact fa_ne (by decide))
            rw [e10] at e11
            refine lv_aload_n F.1 F.2.1 dX2_readCaptionPlace_105 rfl (lv_at hl 1 rfl) ?_
            refine gf_RX2_18 F hW hE rfl dX2_readCaptionPlace_106 ?_
            refine h_iconst F dX2_readCaptionPlace_109 ?_
            refine cl_RX2_86 (As := [.int (iI 5)]) (rest := []) F hl (k_fail l X w19 (y + 311) (y + 307) (y + 308) N f (rc8 f v d) (nuS 0 ((d 1) - 1) (rc7 f v d) (nuS 0 ((d 0) - 1) (rc6 f v d) num)) 5 hX17 hB hT hp8 hM8 (by omega) hl8) hW hS hX17 rfl rfl ⟨Nat.le_of_ble_eq_true rfl, Nat.le_of_ble_eq_true rfl⟩ (Nat.le_of_ble_eq_true rfl) ⟨Nat.zero_le _, Nat.zero_le _⟩ dX2_readCaptionPlace_110 (fun w31 H locs hp32 hW hS => ?_)
            obtain ⟨ho33, hn34⟩ := hp32
            have hB := (hn34 _ (by omega)).trans hB
            have hE := (hn34 _ (by omega)).trans hE
            have ho21 := (hn34 _ (by omega)).trans ho21
            have hLo := (hn34 _ (by omega)).trans hLo
            have hT := (hn34 _ (by omega)).trans hT
            have hv2 := (hn34 _ (by omega)).trans hv2
            have hL := hL.mv (w2 := w31) (fun q h1 h2 => hn34 q (by omega))
            have hPX : _ := (⟨_, _, ⟨ho21, hv2⟩, fun z => absurd z h11⟩ : (∃ x9 y9, capV X w31 (y + 313) (rcL f v d) (bz (rcR f v d)) x9 y9 bc bf ∧ (rc11 f v d 18 = 0 → x9 = rcX f v d ∧ y9 = rcY f v d)))
            refine h_top (show (bz false : Int) = bz (decide (rc11 f v d 18 = 0)) from by first | exact bzt (decide_eq_true h11) | exact bzf (decide_eq_false h11) | exact congrArg bz (decide_eq_false h11).symm) ?_
            exact h_iretz F hr hlk hW hS ⟨⟨_, by rw [e11]; exact ho33⟩, hPX, (fun q h09 h19 => by rw [hn34 q (by omega), hn22 q (by omega), hn16 q (by omega), hn10 q (by omega), hn4 q (by omega)])⟩ dX2_readCaptionPlace_113
        · have e9 : rc9 f v d = faV 4 (rc8 f v d) := by unfold rc9; rw [if_pos ⟨hl8, by rw [lies_c heD]; assumption⟩]
          obtain ⟨e11, h11⟩ := rcd_9 (f := f) (v := v) (d := d) (by rw [e9]; exact fa_ne (by decide))
          rw [e9] at e11
          refine lv_aload_n F.1 F.2.1 dX2_readCaptionPlace_84 rfl (lv_at hl 1 rfl) ?_
          refine gf_RX2_18 F hW hE rfl dX2_readCaptionPlace_85 ?_
          refine h_iconst F dX2_readCaptionPlace_88 ?_
          refine cl_RX2_86 (As := [.int (iI 4)]) (rest := []) F hl (k_fail l X w19 (y + 311) (y + 307) (y + 308) N f (rc8 f v d) (nuS 0 ((d 1) - 1) (rc7 f v d) (nuS 0 ((d 0) - 1) (rc6 f v d) num)) 4 hX17 hB hT hp8 hM8 (by omega) hl8) hW hS hX17 rfl rfl ⟨Nat.le_of_ble_eq_true rfl, Nat.le_of_ble_eq_true rfl⟩ (Nat.le_of_ble_eq_true rfl) ⟨Nat.zero_le _, Nat.zero_le _⟩ dX2_readCaptionPlace_89 (fun w35 H locs hp36 hW hS => ?_)
          obtain ⟨ho37, hn38⟩ := hp36
          have hB := (hn38 _ (by omega)).trans hB
          have hE := (hn38 _ (by omega)).trans hE
          have ho21 := (hn38 _ (by omega)).trans ho21
          have hLo := (hn38 _ (by omega)).trans hLo
          have hT := (hn38 _ (by omega)).trans hT
          have hv2 := (hn38 _ (by omega)).trans hv2
          have hL := hL.mv (w2 := w35) (fun q h1 h2 => hn38 q (by omega))
          have hPX : _ := (⟨_, _, ⟨ho21, hv2⟩, fun z => absurd z h11⟩ : (∃ x9 y9, capV X w35 (y + 313) (rcL f v d) (bz (rcR f v d)) x9 y9 bc bf ∧ (rc11 f v d 18 = 0 → x9 = rcX f v d ∧ y9 = rcY f v d)))
          refine h_top (show (bz false : Int) = bz (decide (rc11 f v d 18 = 0)) from by first | exact bzt (decide_eq_true h11) | exact bzf (decide_eq_false h11) | exact congrArg bz (decide_eq_false h11).symm) ?_
          exact h_iretz F hr hlk hW hS ⟨⟨_, by rw [e11]; exact ho37⟩, hPX, (fun q h09 h19 => by rw [hn38 q (by omega), hn22 q (by omega), hn16 q (by omega), hn10 q (by omega), hn4 q (by omega)])⟩ dX2_readCaptionPlace_92
      · have c18d := of_decide_eq_false c18
        have hq : rc8 f v d 18 ≠ 0 := by assumption
        obtain ⟨e11, h11⟩ := rcd_8 (f := f) (v := v) (d := d) hq
        refine h_iconst F dX2_readCaptionPlace_56 ?_
        have hPX : _ := (⟨_, _, ⟨hv1, hv2⟩, fun z => absurd z h11⟩ : (∃ x9 y9, capV X w13 (y + 313) (rcL f v d) (bz (rcR f v d)) x9 y9 bc bf ∧ (rc11 f v d 18 = 0 → x9 = rcX f v d ∧ y9 = rcY f v d)))
        refine h_top (show (0 : Int) = bz (decide (rc11 f v d 18 = 0)) from by first | exact bzt (decide_eq_true h11) | exact bzf (decide_eq_false h11) | exact congrArg bz (decide_eq_false h11).symm) ?_
        exact h_iretz F hr hlk hW hS ⟨⟨_, by rw [e11]; exact hX17⟩, hPX, (fun q h09 h19 => by rw [hn16 q (by omega), hn10 q (by omega), hn4 q (by omega)])⟩ dX2_readCaptionPlace_57
    · have c12d := of_decide_eq_false c12
      have hq : rc7 f v d 18 ≠ 0 := by assumption
      obtain ⟨e11, h11⟩ := rcd_7 (f := f) (v := v) (d := d) hq
      refine h_iconst F dX2_readCaptionPlace_29 ?_
      have hPX : _ := (⟨_, _, ⟨hv1, hv2⟩, fun z => absurd z h11⟩ : (∃ x9 y9, capV X w7 (y + 313) (rcL f v d) (bz (rcR f v d)) x9 y9 bc bf ∧ (rc11 f v d 18 = 0 → x9 = rcX f v d ∧ y9 = rcY f v d)))
      refine h_top (show (0 : Int) = bz (decide (rc11 f v d 18 = 0)) from by first | exact bzt (decide_eq_true h11) | exact bzf (decide_eq_false h11) | exact congrArg bz (decide_eq_false h11).symm) ?_
      exact h_iretz F hr hlk hW hS ⟨⟨_, by rw [e11]; exact hX11⟩, hPX, (fun q h09 h19 => by rw [hn10 q (by omega), hn4 q (by omega)])⟩ dX2_readCaptionPlace_30
