theorem rcE_d {X : Cx} {w : Wo} {a : Nat} {f v d : Int → Int} (h : vP f v) (hd : WF d) (hL : dlA X w a d) (h13 : rc13 f v d 18 ≠ 0) : dlA X w a (rcE f v d) := by
  unfold rcE
  rw [if_neg h13]
  exact ⟨hL.1.to hL.2 (rcD_eq h hd), (rcD_WF h hd).cap8⟩
theorem rc2_d {f v d : Int → Int} (h : rc1 v d 18 ≠ 0) : rc2 f v d = rc1 v d := mu_d h
theorem rc3_d {f v d : Int → Int} (h : rc2 f v d 18 ≠ 0) : rc3 f v d = rc2 f v d := by
  unfold rc3
  rw [fa_d h]
  split <;> rfl
theorem rc4_d {f v d : Int → Int} (h : rc3 f v d 18 ≠ 0) : rc4 f v d = rc3 f v d := mu_d h
theorem rcp_12 {f v d : Int → Int} (h5 : rc11 f v d 18 = 0) (h : isWR f (rc11 f v d) 4 = false) : rc12 f v d 18 ≠ 0 := by
  unfold rc12
  rw [h, mu_f h5]
  exact fa_ne (by decide)
theorem rcq_12 {f v d : Int → Int} (h5 : rc11 f v d 18 = 0) (h : isWR f (rc11 f v d) 4 = true) : rc12 f v d 18 = 0 := by
  unfold rc12
  rw [h, mu_t h5, go_n (by decide)]
  exact h5
theorem rs_dL {f v : Int → Int} (h : rs3 f v 18 ≠ 0) : (∀ (b : Nat) (N m : Int), rL b (cR f N (rsV f v) m) = rL b (cR f N (rs3 f v) m)) ∧ rsV f v 18 ≠ 0 := by
  have h4 : rs4 f v 18 ≠ 0 := h
  have e5 : rs5 f v = rs4 f v := mu_d h4
  have e : rsV f v = rs5 f v := tk_d (by rw [e5]; exact h4)
  rw [e, e5]
  exact ⟨fun b N m => rL_eq (c7 rfl rfl rfl rfl rfl rfl rfl), h4⟩
theorem rs_d2 {f v : Int → Int} (h : rs2 f v 18 ≠ 0) : (∀ (b : Nat) (N m : Int), rL b (cR f N (rsV f v) m) = rL b (cR f N (rs2 f v) m)) ∧ rsV f v 18 ≠ 0 := by
  have e3 : rs3 f v = rs2 f v := by
    unfold rs3
    rw [fa_d h]
    split <;> rfl
  have h9 := rs_dL (f := f) (v := v) (by rw [e3]; exact h)
  rw [e3] at h9
  exact h9
theorem dl_st {X : Cx} {w w2 : Wo} {a : Nat} {d t : Int → Int} {k x : Int} (h : dlA X w a d) (hk : 0 ≤ k ∧ k < 7) (hte : ∀ c, 0 ≤ c → c < 7 → t c = d (6 + c)) (ht : w2 (a + 5) = some (aZ X 7 (up t k x))) (hf : ∀ q : Nat, q ≠ a + 5 → w2 q = w q) : dlA X w2 a (up d (6 + k) x) := by
  have hA := h.1
  obtain ⟨gr, h2, h3⟩ := hA.2.1
  obtain ⟨gp, h4⟩ := hA.2.2.1
  have hu : ∀ p, p ≠ 6 + k → up d (6 + k) x p = d p := fun p hp => up_n hp
  have h8 := h.2
  have h81 := h8.1
  refine ⟨hA.up h8 ?_ ⟨gr, h2.mv (hf _ (by omega)) (hf _ (by omega)), fun i r c1 c2 c3 c4 => ?_⟩ ⟨gp, h4.mv (hf _ (by omega)) (hf _ (by omega))⟩ ⟨_, ht, fun c c0 c1 => ?_⟩ (fun q q0 q1 => hf q (by omega)) (fun c c0 c1 => ?_), ⟨by rw [hu 5 (by omega)]; exact h81, fun c c0 c1 => ?_⟩⟩
  · rw [hf a (by omega), hA.1]
    unfold lmF
    rw [hu 5 (by omega), hu 0 (by omega), hu 1 (by omega), hu 4 (by omega), hu 3 (by omega), hu 2 (by omega)]
  · rw [hu 0 (by omega)] at c2
    rw [hu 1 (by omega)] at c4
    exact (h3 i r c1 c2 c3 c4).trans (hu _ (by omega)).symm
  · by_cases g : c = k
    · rw [g, up_s, up_s]
    · rw [up_n g, hte c c0 c1, hu _ (by omega)]
  · rw [hu 5 (by omega)] at c1
    exact ⟨c1, fun j j0 j1 => hu _ (by omega)⟩
  · rw [hu 5 (by omega)] at c1
    have e : cp (up d (6 + k) x) c 0 = cp d c 0 := hu _ (by omega)
    rw [e]
    exact h8.2 c c0 c1
theorem rcf_12 {f v d : Int → Int} (h : rc12 f v d 18 ≠ 0) : rc13 f v d = rc12 f v d ∧ rc13 f v d 18 ≠ 0 := ⟨rc13_d h, by rw [rc13_d h]; exact h⟩
theorem rcf_11 {f v d : Int → Int} (h : rc11 f v d 18 ≠ 0) : rc13 f v d = rc11 f v d ∧ rc13 f v d 18 ≠ 0 := by
  have e := rc12_d (f := f) h
  obtain ⟨e1, h1⟩ := rcf_12 (f := f) (v := v) (d := d) (by rw [e]; exact h)
  exact ⟨e1.trans e, h1⟩
theorem rcf_10 {f v d : Int → Int} (h : rc10 f v d 18 ≠ 0) : rc13 f v d = rc10 f v d ∧ rc13 f v d 18 ≠ 0 := by
  have e := rc11_d (f := f) h
  obtain ⟨e1, h1⟩ := rcf_11 (f := f) (v := v) (d := d) (by rw [e]; exact h)
  exact ⟨e1.trans e, h1⟩
theorem rcf_9 {f v d : Int → Int} (h : rc9 f v d 18 ≠ 0) : rc13 f v d = rc9 f v d ∧ rc13 f v d 18 ≠ 0 := by
  have e := rc10_d (f := f) h
  obtain ⟨e1, h1⟩ := rcf_10 (f := f) (v := v) (d := d) (by rw [e]; exact h)
  exact ⟨e1.trans e, h1⟩
theorem rcf_8 {f v d : Int → Int} (h : rc8 f v d 18 ≠ 0) : rc13 f v d = rc8 f v d ∧ rc13 f v d 18 ≠ 0 := by
  have e := rc9_d (f := f) h
  obtain ⟨e1, h1⟩ := rcf_9 (f := f) (v := v) (d := d) (by rw [e]; exact h)
  exact ⟨e1.trans e, h1⟩
theorem rcf_7 {f v d : Int → Int} (h : rc7 f v d 18 ≠ 0) : rc13 f v d = rc7 f v d ∧ rc13 f v d 18 ≠ 0 := by
  have e := rc8_d (f := f) h
  obtain ⟨e1, h1⟩ := rcf_8 (f := f) (v := v) (d := d) (by rw [e]; exact h)
  exact ⟨e1.trans e, h1⟩
theorem rcf_6 {f v d : Int → Int} (h : rc6 f v d 18 ≠ 0) : rc13 f v d = rc6 f v d ∧ rc13 f v d 18 ≠ 0 := by
  have e := rc7_d (f := f) h
  obtain ⟨e1, h1⟩ := rcf_7 (f := f) (v := v) (d := d) (by rw [e]; exact h)
  exact ⟨e1.trans e, h1⟩
theorem rcf_5 {f v d : Int → Int} (h : rc5 f v d 18 ≠ 0) : rc13 f v d = rc5 f v d ∧ rc13 f v d 18 ≠ 0 := by
  have e := rc6_d (f := f) h
  obtain ⟨e1, h1⟩ := rcf_6 (f := f) (v := v) (d := d) (by rw [e]; exact h)
  exact ⟨e1.trans e, h1⟩
theorem rcf_4 {f v d : Int → Int} (h : rc4 f v d 18 ≠ 0) : rc13 f v d = rc4 f v d ∧ rc13 f v d 18 ≠ 0 := by
  have e := rc5_d (f := f) h
  obtain ⟨e1, h1⟩ := rcf_5 (f := f) (v := v) (d := d) (by rw [e]; exact h)
  exact ⟨e1.trans e, h1⟩
theorem rcf_3 {f v d : Int → Int} (h : rc3 f v d 18 ≠ 0) : rc13 f v d = rc3 f v d ∧ rc13 f v d 18 ≠ 0 := by
  have e := rc4_d (f := f) h
  obtain ⟨e1, h1⟩ := rcf_4 (f := f) (v := v) (d := d) (by rw [e]; exact h)
  exact ⟨e1.trans e, h1⟩
theorem rcf_2 {f v d : Int → Int} (h : rc2 f v d 18 ≠ 0) : rc13 f v d = rc2 f v d ∧ rc13 f v d 18 ≠ 0 := by
  have e := rc3_d (f := f) h
  obtain ⟨e1, h1⟩ := rcf_3 (f := f) (v := v) (d := d) (by rw [e]; exact h)
  exact ⟨e1.trans e, h1⟩
theorem rcf_1 {f v d : Int → Int} (h : rc1 v d 18 ≠ 0) : rc13 f v d = rc1 v d ∧ rc13 f v d 18 ≠ 0 := by
  have e := rc2_d (f := f) h
  obtain ⟨e1, h1⟩ := rcf_2 (f := f) (v := v) (d := d) (by rw [e]; exact h)
  exact ⟨e1.trans e, h1⟩

set_option maxHeartbeats 4000000 in
set_option maxRecDepth 100000 in
theorem c_X2_readCaption (l : Launch) (X : Cx) (w : Wo) (y : Nat) (N num : Int) (f v d : Int → Int) (ct dt : Int) (bn bsd bx by9 bc : Int) (bf : Int → Int) (hR : w (y + 311) = some (.inr (6, rL (y + 307) (cR f N v num)))) (hB : w (y + 307) = some (.inr (0, [.ref (y + 308), .int (iI N)]))) (hT : w (y + 308) = some (aZ X 400 f)) (hvp : vP f v) (hN : v 11 = N) (hwd : WF d) (hE : w (y + 312) = some (.inr (2, [.ref (y + 311), .ref (y + 313), .int (iI ct), .int (iI dt)]))) (hv : capV X w (y + 313) bn bsd bx by9 bc bf) (hL : dlA X w (y + 26) d) (hlv : v 18 = 0) : CM l X yX2_readCaption cX2_readCaption 2 (some (.boolean)) (rmk 7 150) [.ref (y + 312), .ref (y + 26)] w (some (.int (iI (bz (decide (rc13 f v d 18 = 0)))))) (fun w' => (∃ m : Int, w' (y + 311) = some (.inr (6, rL (y + 307) (cR f N (rc13 f v d) m)))) ∧ (∃ n s9 x9 y9 c9 g, capV X w' (y + 313) n s9 x9 y9 c9 g) ∧ dlA X w' (y + 26) (rcE f v d) ∧ ∀ q : Nat, q ≠ y + 311 → q ≠ y + 313 → q ≠ y + 313 + 1 → (q < y + 26 ∨ y + 51 ≤ q) → w' q = w q) := by
  refine CM.of (lv := [(0, .ref (y + 312)), (1, .ref (y + 26))]) (by decide) (Nat.le_of_ble_eq_true rfl) rfl (fun p e s m below meth c ls F hr hlk hin hW hS hl => ?_)
  have hZ0 := hW.2.2
  have hB9 := hW.1.2
  clear hin
  have hp1 := rc1_P (d := d) hvp
  have hp2 := rc2_P (d := d) hvp
  have hp3 := rc3_P (d := d) hvp
  have hp4 := rc4_P (d := d) hvp
  have hp5 := rc5_P (d := d) hvp
  have hp6 := rc6_P (d := d) hvp
  have hp7 := rc7_P (d := d) hvp
  have hp8 := rc8_P (d := d) hvp
  have hp9 := rc9_P (d := d) hvp
  have hp10 := rc10_P (d := d) hvp
  have hp11 := rc11_P (d := d) hvp
  have hp12 := rc12_P (d := d) hvp
  have hp13 := rc13_P (d := d) hvp
  have hM1 : rc1 v d 11 = N := ((rc1_E v d).1 11 (by omega)).trans hN
  have hM2 : rc2 f v d 11 = N := ((rc2_E hvp).1 11 (by omega)).trans hN
  have hM3 : rc3 f v d 11 = N := ((rc3_E hvp).1 11 (by omega)).trans hN
  have hM4 : rc4 f v d 11 = N := ((rc4_E hvp).1 11 (by omega)).trans hN
  have hM5 : rc5 f v d 11 = N := ((rc5_E hvp).1 11 (by omega)).trans hN
  have hM6 : rc6 f v d 11 = N := ((rc6_E hvp).1 11 (by omega)).trans hN
  have hM7 : rc7 f v d 11 = N := ((rc7_E hvp).1 11 (by omega)).trans hN
  have hM8 : rc8 f v d 11 = N := ((rc8_E hvp).1 11 (by omega)).trans hN
  have hM9 : rc9 f v d 11 = N := ((rc9_E hvp).1 11 (by omega)).trans hN
  have hM10 : rc10 f v d 11 = N := ((rc10_E hvp).1 11 (by omega)).trans hN
  have hM11 : rc11 f v d 11 = N := ((rc11_E hvp).1 11 (by omega)).trans hN
  have hM12 : rc12 f v d 11 = N := ((rc12_E hvp).1 11 (by omega)).trans hN
  have hM13 : rc13 f v d 11 = N := ((rc13_E hvp).1 11 (by omega)).trans hN
  have hd0 := hwd.1
  unfold WF0 at hd0
  have hv1 := hv.1
  have hv2 := hv.2
  have hLo := hL.1.o
  have hcC : 1 ≤ rcC f v d ∧ rcC f v d ≤ 6 := seR_r (by decide)
  refine lv_aload_n F.1 F.2.1 dX2_readCaption_0 rfl (lv_at hl 1 rfl) ?_
  refine gf_RX2_89 F hW hLo rfl dX2_readCaption_1 ?_
  refine h_bipush F dX2_readCaption_4 rfl ?_
  refine h_iclt (tgt := 19) F dX2_readCaption_6 (by decide) (by omega) (fun c1 => ?_) (fun c1 => ?_)
  · have e1 : rc1 v d = v := if_neg (by omega)
    have e2 : rc2 f v d = goV f v := by unfold rc2; rw [e1]; exact mu_t hlv
    have hl2 : rc2 f v d 18 = 0 := by rw [e2, go_n (by decide)]; exact hlv
    refine lv_aload_n F.1 F.2.1 dX2_readCaption_19 rfl (lv_at hl 0 rfl) ?_
    refine gf_RX2_18 F hW hE rfl dX2_readCaption_20 ?_
    refine cl_RX2_92 (As := []) (rest := []) F hl (k_step l X w (y + 311) (y + 307) (y + 308) N f v num hR hB hT hvp hN (by omega)) hW hS hR rfl rfl ⟨Nat.le_of_ble_eq_true rfl, Nat.le_of_ble_eq_true rfl⟩ (Nat.le_of_ble_eq_true rfl) ⟨Nat.zero_le _, Nat.zero_le _⟩ dX2_readCaption_23 (fun w2 H locs hp3 hW hS => ?_)
    obtain ⟨ho4, hn5⟩ := hp3
    have hB := (hn5 _ (by omega)).trans hB
    have hE := (hn5 _ (by omega)).trans hE
    have hv1 := (hn5 _ (by omega)).trans hv1
    have hLo := (hn5 _ (by omega)).trans hLo
    have hT := (hn5 _ (by omega)).trans hT
    have hv2 := (hn5 _ (by omega)).trans hv2
    have hL := hL.mv (w2 := w2) (fun q h1 h2 => hn5 q (by omega))
    have hX6 : w2 (y + 311) = some (.inr (6, rL (y + 307) (cR f N (rc2 f v d) num))) := by rw [show (rc2 f v d : Int → Int) = goV f v from e2]; exact ho4
    refine lv_aload_n F.1 F.2.1 dX2_readCaption_26 rfl (lv_at hl 0 rfl) ?_
    refine cl_RX2_95 (As := []) (rest := []) F hl (c_X2_readCaptionWord l X w2 y N num f v d ct dt bn bsd bx by9 bc bf hX6 hB hT hvp hN hwd hE ⟨hv1, hv2⟩ hl2) hW hS hE rfl rfl ⟨Nat.le_of_ble_eq_true rfl, Nat.le_of_ble_eq_true rfl⟩ (Nat.le_of_ble_eq_true rfl) ⟨Nat.zero_le _, Nat.zero_le _⟩ dX2_readCaption_27 (fun w7 H locs hp8 hW hS => ?_)
    obtain ⟨ho9, hBX, hn10⟩ := hp8
    have hB := (hn10 _ (by omega) (by omega) (by omega)).trans hB
    have hE := (hn10 _ (by omega) (by omega) (by omega)).trans hE
    have hLo := (hn10 _ (by omega) (by omega) (by omega)).trans hLo
    have hT := (hn10 _ (by omega) (by omega) (by omega)).trans hT
    have hL := hL.mv (w2 := w7) (fun q h1 h2 => hn10 q (by omega) (by omega) (by omega))
    refine h_ifeqb (tgt := 41) F dX2_readCaption_30 (by decide) (fun c11 => ?_) (fun c11 => ?_)
    · have c11d := of_decide_eq_false c11
      have hq : rc5 f v d 18 ≠ 0 := by assumption
      obtain ⟨e13, h13⟩ := rcf_5 (f := f) (v := v) (d := d) hq
      obtain ⟨n, s9, x9, y9, c9, g, hv, -⟩ := hBX
      have hBX : (∃ n s9 x9 y9 c9 g, capV X w7 (y + 313) n s9 x9 y9 c9 g) := ⟨_, _, _, _, _, _, hv⟩
      have hLE : dlA X w7 (y + 26) (rcE f v d) := rcE_d hvp hwd hL h13
      refine h_iconst F dX2_readCaption_41 ?_
      refine h_top (show (0 : Int) = bz (decide (rc13 f v d 18 = 0)) from by first | exact bzt (decide_eq_true h13) | exact bzf (decide_eq_false h13) | exact congrArg bz (decide_eq_false h13).symm) ?_
      exact h_iretz F hr hlk hW hS ⟨⟨_, by rw [e13]; exact ho9⟩, hBX, hLE, (fun q h09 h19 h29 h39 => by rw [hn10 q (by omega) (by omega) (by omega), hn5 q (by omega)])⟩ dX2_readCaption_42
    · have c11d := of_decide_eq_true c11
      have hl5 : rc5 f v d 18 = 0 := by assumption
      obtain ⟨n, s9, x9, y9, c9, g, hv, hcc⟩ := hBX
      obtain ⟨hM9, hs9, hlt⟩ := hcc hl5
      rw [hM9, hs9] at hv
      rw [hM9] at hlt
      have hv1 := hv.1
      have hv2 := hv.2
      refine lv_aload_n F.1 F.2.1 dX2_readCaption_33 rfl (lv_at hl 0 rfl) ?_
      refine lv_aload_n F.1 F.2.1 dX2_readCaption_34 rfl (lv_at hl 1 rfl) ?_
      refine cl_RX2_99 (As := [.ref (y + 26)]) (rest := []) F hl (c_X2_readCaptionPlace l X w7 y N num f v d ct dt x9 y9 c9 g ho9 hB hT hvp hN hwd hE ⟨hv1, hv2⟩ hL hl5) hW hS hE rfl rfl ⟨Nat.le_of_ble_eq_true rfl, Nat.le_of_ble_eq_true rfl⟩ (Nat.le_of_ble_eq_true rfl) ⟨Nat.zero_le _, Nat.zero_le _⟩ dX2_readCaption_35 (fun w12 H locs hp13 hW hS => ?_)
      obtain ⟨hRL, hPX, hn14⟩ := hp13
      have hB := (hn14 _ (by omega) (by omega)).trans hB
      have hE := (hn14 _ (by omega) (by omega)).trans hE
      have hLo := (hn14 _ (by omega) (by omega)).trans hLo
      have hT := (hn14 _ (by omega) (by omega)).trans hT
      have hv2 := (hn14 _ (by omega) (by omega)).trans hv2
      have hL := hL.mv (w2 := w12) (fun q h1 h2 => hn14 q (by omega) (by omega))
      obtain ⟨m9, hrd⟩ := hRL
      obtain ⟨x8, y8, hv7, hxy⟩ := hPX
      have hv1 := hv7.1
      have hv2 := hv7.2
      refine h_ifneb (tgt := 43) F dX2_readCaption_38 (by decide) (fun c15 => ?_) (fun c15 => ?_)
      · have c15d := of_decide_eq_true c15
        have hl11 : rc11 f v d 18 = 0 := by assumption
        refine lv_aload_n F.1 F.2.1 dX2_readCaption_43 rfl (lv_at hl 0 rfl) ?_
        refine gf_RX2_18 F hW hE rfl dX2_readCaption_44 ?_
        refine h_ldcS (tx := "in") (i := 4) F hW (by decide +kernel) dX2_readCaption_47 ?_
        refine cl_RX2_51 (As := [.ref (X.2.2 (10 + 4))]) (rest := []) F hl (k_takeWord l X w12 (y + 311) (y + 307) (y + 308) N f (rc11 f v d) m9 4 hrd hB hT hp11 hM11 (by omega) hl11 (by decide)) hW hS hrd rfl rfl ⟨Nat.le_of_ble_eq_true rfl, Nat.le_of_ble_eq_true rfl⟩ (Nat.le_of_ble_eq_true rfl) ⟨Nat.zero_le _, Nat.zero_le _⟩ dX2_readCaption_49 (fun w16 H locs hp17 hW hS => ?_)
        obtain ⟨ho18, hn19⟩ := hp17
        have hB := (hn19 _ (by omega)).trans hB
        have hE := (hn19 _ (by omega)).trans hE
        have hLo := (hn19 _ (by omega)).trans hLo
        have hv1 := (hn19 _ (by omega)).trans hv1
        have hT := (hn19 _ (by omega)).trans hT
        have hv2 := (hn19 _ (by omega)).trans hv2
        have hL := hL.mv (w2 := w16) (fun q h1 h2 => hn19 q (by omega))
        have hX20 : w16 (y + 311) = some (.inr (6, rL (y + 307) (cR f N (rc12 f v d) m9))) := by rw [show (rc12 f v d : Int → Int) = muV f (isWR f (rc11 f v d) 4) (rc11 f v d) from rfl]; exact ho18
        refine h_ifeqb (tgt := 68) F dX2_readCaption_52 (by decide) (fun c21 => ?_) (fun c21 => ?_)
        · have hq : rc12 f v d 18 ≠ 0 := rcp_12 hl11 (by assumption)
          obtain ⟨e13, h13⟩ := rcf_12 (f := f) (v := v) (d := d) hq
          have hBX := (⟨_, _, _, _, _, _, ⟨hv1, hv2⟩⟩ : (∃ n s9 x9 y9 c9 g, capV X w16 (y + 313) n s9 x9 y9 c9 g))
          have hLE : dlA X w16 (y + 26) (rcE f v d) := rcE_d hvp hwd hL h13
          refine h_iconst F dX2_readCaption_68 ?_
          refine h_top (show (0 : Int) = bz (decide (rc13 f v d 18 = 0)) from by first | exact bzt (decide_eq_true h13) | exact bzf (decide_eq_false h13) | exact congrArg bz (decide_eq_false h13).symm) ?_
          exact h_iretz F hr hlk hW hS ⟨⟨_, by rw [e13]; exact hX20⟩, hBX, hLE, (fun q h09 h19 h29 h39 => by rw [hn19 q (by omega), hn14 q (by omega) (by omega), hn10 q (by omega) (by omega) (by omega), hn5 q (by omega)])⟩ dX2_readCaption_69
        · have hl12 : rc12 f v d 18 = 0 := rcq_12 hl11 (by assumption)
          refine lv_aload_n F.1 F.2.1 dX2_readCaption_55 rfl (lv_at hl 0 rfl) ?_
          refine gf_RX2_18 F hW hE rfl dX2_readCaption_56 ?_
          refine h_iconst F dX2_readCaption_59 ?_
          refine h_bipush F dX2_readCaption_60 rfl ?_
          refine cl_RX2_55 (As := [.int (iI 1), .int (iI 6)]) (rest := []) F hl (k_takeNumber l X w16 (y + 311) (y + 307) (y + 308) N f (rc12 f v d) m9 1 6 hX20 hB hT hp12 hM12 (by omega) hl12 (by omega) (by omega)) hW hS hX20 rfl rfl ⟨Nat.le_of_ble_eq_true rfl, Nat.le_of_ble_eq_true rfl⟩ (Nat.le_of_ble_eq_true rfl) ⟨Nat.zero_le _, Nat.zero_le _⟩ dX2_readCaption_62 (fun w22 H locs hp23 hW hS => ?_)
          obtain ⟨ho24, hn25⟩ := hp23
          have hB := (hn25 _ (by omega)).trans hB
          have hE := (hn25 _ (by omega)).trans hE
          have hLo := (hn25 _ (by omega)).trans hLo
          have hv1 := (hn25 _ (by omega)).trans hv1
          have hT := (hn25 _ (by omega)).trans hT
          have hv2 := (hn25 _ (by omega)).trans hv2
          have hL := hL.mv (w2 := w22) (fun q h1 h2 => hn25 q (by omega))
          have hX26 : w22 (y + 311) = some (.inr (6, rL (y + 307) (cR f N (rc13 f v d) (nuS 1 6 (rc12 f v d) m9)))) := by rw [show (rc13 f v d : Int → Int) = tkV f 1 6 (rc12 f v d) from rfl]; exact ho24
          refine h_ifneb (tgt := 70) F dX2_readCaption_65 (by decide) (fun c27 => ?_) (fun c27 => ?_)
          · have c27d := of_decide_eq_true c27
            have h13 : rc13 f v d 18 = 0 := by assumption
            have e13 : rc13 f v d = rc13 f v d := rfl
            obtain ⟨eE, hLr, hd8, hwy, hco, hlet⟩ := rcE_S hvp hwd h13
            obtain ⟨hx8, hy8⟩ := hxy hl11
            refine lv_aload_n F.1 F.2.1 dX2_readCaption_70 rfl (lv_at hl 0 rfl) ?_
            refine gf_RX2_12 F hW hE rfl dX2_readCaption_71 ?_
            refine lv_aload_n F.1 F.2.1 dX2_readCaption_74 rfl (lv_at hl 0 rfl) ?_
            refine gf_RX2_18 F hW hE rfl dX2_readCaption_75 ?_
            refine gf_RX2_59 F hW hX26 rfl dX2_readCaption_78 ?_
            refine h_top (show ((cR f N (rc13 f v d) (nuS 1 6 (rc12 f v d) m9)) 5 : Int) = rcC f v d from by show nuS 1 6 (rc12 f v d) _ = _; unfold nuS; rw [← tk_18 (f := f), if_pos (show tkV f 1 6 (rc12 f v d) 18 = 0 from h13)]; rfl) ?_
            refine pf_RX2_104 F hW hS hv1 (Nat.le_of_ble_eq_true rfl) dX2_readCaption_81 (fun w28 H locs ho30 hn29 hW hS => ?_)
            have ho30 : w28 (y + 313) = some (.inr (1, [.ref (y + 313 + 1), .int (iI (rcL f v d)), .int (iI (bz (rcR f v d))), .int (iI x8), .int (iI y8), .int (iI (rcC f v d))])) := ho30
            have hB := (hn29 _ (by omega)).trans hB
            have hE := (hn29 _ (by omega)).trans hE
            have hLo := (hn29 _ (by omega)).trans hLo
            have hX26 := (hn29 _ (by omega)).trans hX26
            have hT := (hn29 _ (by omega)).trans hT
            have hv2 := (hn29 _ (by omega)).trans hv2
            have hL := hL.mv (w2 := w28) (fun q h1 h2 => hn29 q (by omega))
            refine lv_aload_n F.1 F.2.1 dX2_readCaption_84 rfl (lv_at hl 1 rfl) ?_
            refine lv_aload_n F.1 F.2.1 dX2_readCaption_85 rfl (lv_at hl 0 rfl) ?_
            refine gf_RX2_12 F hW hE rfl dX2_readCaption_86 ?_
            have hv5 : capV X w28 (y + 313) (rcL f v d) (bz (rcR f v d)) x8 y8 (rcC f v d) g := ⟨ho30, hv2⟩
            rw [hx8, hy8] at hv5
            have hdR : hangR d (rcE f v d) (rcL f v d) (bz (rcR f v d)) (rcX f v d) (rcY f v d) (rcC f v d) g := by rw [eE]; exact rc_R hL.2 hd8 hLr hlt
            refine cl_RX2_107 (As := [.ref (y + 313)]) (rest := []) F hl (c_X5_hang l X w28 (y + 26) d (rcE f v d) (y + 313) (rcL f v d) (bz (rcR f v d)) (rcX f v d) (rcY f v d) (rcC f v d) g hL.1 hL.2 (by omega) hv5 (by omega) (by omega) (by omega) hdR) hW hS hLo rfl rfl ⟨Nat.le_of_ble_eq_true rfl, Nat.le_of_ble_eq_true rfl⟩ (Nat.le_of_ble_eq_true rfl) ⟨Nat.zero_le _, Nat.zero_le _⟩ dX2_readCaption_89 (fun w31 H locs hp32 hW hS => ?_)
            obtain ⟨hAh, hn33⟩ := hp32
            have hB := (hn33 _ (by omega) (by omega)).trans hB
            have hE := (hn33 _ (by omega) (by omega)).trans hE
            have hX26 := (hn33 _ (by omega) (by omega)).trans hX26
            have ho30 := (hn33 _ (by omega) (by omega)).trans ho30
            have hT := (hn33 _ (by omega) (by omega)).trans hT
            have hv2 := (hn33 _ (by omega) (by omega)).trans hv2
            have hLE : dlA X w31 (y + 26) (rcE f v d) := ⟨hAh, (rcE_W hvp hwd).cap8⟩
            have hBX := (⟨_, _, _, _, _, _, ⟨ho30, hv2⟩⟩ : (∃ n s9 x9 y9 c9 g, capV X w31 (y + 313) n s9 x9 y9 c9 g))
            refine h_iconst F dX2_readCaption_92 ?_
            refine h_top (show (1 : Int) = bz (decide (rc13 f v d 18 = 0)) from by first | exact bzt (decide_eq_true h13) | exact bzf (decide_eq_false h13) | exact congrArg bz (decide_eq_false h13).symm) ?_
            exact h_iretz F hr hlk hW hS ⟨⟨_, by rw [e13]; exact hX26⟩, hBX, hLE, (fun q h09 h19 h29 h39 => by rw [hn33 q (by omega) (by omega), hn29 q (by omega), hn25 q (by omega), hn19 q (by omega), hn14 q (by omega) (by omega), hn10 q (by omega) (by omega) (by omega), hn5 q (by omega)])⟩ dX2_readCaption_93
          · have c27d := of_decide_eq_false c27
            have h13 : rc13 f v d 18 ≠ 0 := by assumption
            have e13 : rc13 f v d = rc13 f v d := rfl
            have hBX := (⟨_, _, _, _, _, _, ⟨hv1, hv2⟩⟩ : (∃ n s9 x9 y9 c9 g, capV X w22 (y + 313) n s9 x9 y9 c9 g))
            have hLE : dlA X w22 (y + 26) (rcE f v d) := rcE_d hvp hwd hL h13
            refine h_iconst F dX2_readCaption_68 ?_
            refine h_top (show (0 : Int) = bz (decide (rc13 f v d 18 = 0)) from by first | exact bzt (decide_eq_true h13) | exact bzf (decide_eq_false h13) | exact congrArg bz (decide_eq_false h13).symm) ?_
            exact h_iretz F hr hlk hW hS ⟨⟨_, by rw [e13]; exact hX26⟩, hBX, hLE, (fun q h09 h19 h29 h39 => by rw [hn25 q (by omega), hn19 q (by omega), hn14 q (by omega) (by omega), hn10 q (by omega) (by omega) (by omega), hn5 q (by omega)])⟩ dX2_readCaption_69
      · have c15d := of_decide_eq_false c15
        have hq : rc11 f v d 18 ≠ 0 := by assumption
        obtain ⟨e13, h13⟩ := rcf_11 (f := f) (v := v) (d := d) hq
        have hBX := (⟨_, _, _, _, _, _, ⟨hv1, hv2⟩⟩ : (∃ n s9 x9 y9 c9 g, capV X w12 (y + 313) n s9 x9 y9 c9 g))
        have hLE : dlA X w12 (y + 26) (rcE f v d) := rcE_d hvp hwd hL h13
        refine h_iconst F dX2_readCaption_41 ?_
        refine h_top (show (0 : Int) = bz (decide (rc13 f v d 18 = 0)) from by first | exact bzt (decide_eq_true h13) | exact bzf (decide_eq_false h13) | exact congrArg bz (decide_eq_false h13).symm) ?_
        exact h_iretz F hr hlk hW hS ⟨⟨_, by rw [e13]; exact hrd⟩, hBX, hLE, (fun q h09 h19 h29 h39 => by rw [hn14 q (by omega) (by omega), hn10 q (by omega) (by omega) (by omega), hn5 q (by omega)])⟩ dX2_readCaption_42
  · have e1 : rc1 v d = faV 6 v := if_pos (by omega)
    have hq : rc1 v d 18 ≠ 0 := by rw [e1]; exact fa_ne (by decide)
    obtain ⟨e13, h13⟩ := rcf_1 (f := f) (v := v) (d := d) hq
    rw [e1] at e13
    refine lv_aload_n F.1 F.2.1 dX2_readCaption_9 rfl (lv_at hl 0 rfl) ?_
    refine gf_RX2_18 F hW hE rfl dX2_readCaption_10 ?_
    refine h_bipush F dX2_readCaption_13 rfl ?_
    refine cl_RX2_86 (As := [.int (iI 6)]) (rest := []) F hl (k_fail l X w (y + 311) (y + 307) (y + 308) N f v num 6 hR hB hT hvp hN (by omega) hlv) hW hS hR rfl rfl ⟨Nat.le_of_ble_eq_true rfl, Nat.le_of_ble_eq_true rfl⟩ (Nat.le_of_ble_eq_true rfl) ⟨Nat.zero_le _, Nat.zero_le _⟩ dX2_readCaption_15 (fun w34 H locs hp35 hW hS => ?_)
    obtain ⟨ho36, hn37⟩ := hp35
    have hB := (hn37 _ (by omega)).trans hB
    have hE := (hn37 _ (by omega)).trans hE
    have hv1 := (hn37 _ (by omega)).trans hv1
    have hLo := (hn37 _ (by omega)).trans hLo
    have hT := (hn37 _ (by omega)).trans hT
    have hv2 := (hn37 _ (by omega)).trans hv2
    have hL := hL.mv (w2 := w34) (fun q h1 h2 => hn37 q (by omega))
    have hBX := (⟨_, _, _, _, _, _, ⟨hv1, hv2⟩⟩ : (∃ n s9 x9 y9 c9 g, capV X w34 (y + 313) n s9 x9 y9 c9 g))
    have hLE : dlA X w34 (y + 26) (rcE f v d) := rcE_d hvp hwd hL h13
    refine h_top (show (bz false : Int) = bz (decide (rc13 f v d 18 = 0)) from by first | exact bzt (decide_eq_true h13) | exact bzf (decide_eq_false h13) | exact congrArg bz (decide_eq_false h13).symm) ?_
    exact h_iretz F hr hlk hW hS ⟨⟨_, by rw [e13]; exact ho36⟩, hBX, hLE, (fun q h09 h19 h29 h39 => by rw [hn37 q (by omega)])⟩ dX2_readCaption_18
set_option maxHeartbeats 4000000 in
set_option maxRecDepth 100000 in
theorem c_X2_readStock (l : Launch) (X : Cx) (w : Wo) (y : Nat) (N num : Int) (f v d : Int → Int) (hR : w (y + 311) = some (.inr (6, rL (y + 307) (cR f N v num)))) (hB : w (y + 307) = some (.inr (0, [.ref (y + 308), .int (iI N)]))) (hT : w (y + 308) = some (aZ X 400 f)) (hvi : vI f v) (hN : v 11 = N) (hwd : WF d) (hE : w (y + 312) = some (.inr (2, [.ref (y + 311), .ref (y + 313), .int (iI (v 22)), .int (iI (v 23))]))) (hL : dlA X w (y + 26) d) (hlv : v 18 = 0) : CM l X yX2_readStock cX2_readStock 3 (some (.boolean)) (rmk 3 67) [.ref (y + 312), .ref (y + 26)] w (some (.int (iI (bz (decide (rsV f v 18 = 0)))))) (fun w' => (∃ m : Int, w' (y + 311) = some (.inr (6, rL (y + 307) (cR f N (rsV f v) m)))) ∧ (∃ c1 d1 : Int, w' (y + 312) = some (.inr (2, [.ref (y + 311), .ref (y + 313), .int (iI c1), .int (iI d1)])) ∧ (rsV f v 18 = 0 → c1 = rsV f v 22 ∧ d1 = rsV f v 23)) ∧ (∃ τ, dlA X w' (y + 26) τ ∧ (rsV f v 18 = 0 → τ = rsD f v d)) ∧ ∀ q : Nat, q ≠ y + 311 → q ≠ y + 312 → (q < y + 26 ∨ y + 51 ≤ q) → w' q = w q) := by
  refine CM.of (lv := [(0, .ref (y + 312)), (1, .ref (y + 26))]) (by decide) (Nat.le_of_ble_eq_true rfl) rfl (fun p e s m below meth c ls F hr hlk hin hW hS hl => ?_)
  have hZ0 := hW.2.2
  have hB9 := hW.1.2
  clear hin
  have hvp := hvi.1
  have h22 := hvi.2.1
  have h23 := hvi.2.2
  have hp1 := hvp.go
  have hM1 : goV f v 11 = N := (go_n (by decide)).trans hN
  have hl1 : goV f v 18 = 0 := (go_n (by decide)).trans hlv
  have hp2 : vP f (rs2 f v) := hp1.se
  have hM2 : rs2 f v 11 = N := (se_n (by omega)).trans hM1
  have hk := rsK_r f v
  have hp3 := rs3_P hvp
  have hp4 := rs4_P hvp
  have hM4 : rs4 f v 11 = N := by (show rs3 f v 11 = N; unfold rs3; split; (rw [fa_n (by decide) (by decide)]; exact hM2); exact hM2)
  have hp5 : vP f (rs5 f v) := hp4.mu
  have hM5 : rs5 f v 11 = N := (mu_n (by omega)).trans hM4
  have hLo := hL.1.o
  obtain ⟨t9, ht9, hte⟩ := hL.1.2.2.2.1
  refine lv_aload_n F.1 F.2.1 dX2_readStock_0 rfl (lv_at hl 0 rfl) ?_
  refine gf_RX2_18 F hW hE rfl dX2_readStock_1 ?_
  refine cl_RX2_92 (As := []) (rest := []) F hl (k_step l X w (y + 311) (y + 307) (y + 308) N f v num hR hB hT hvp hN (by omega)) hW hS hR rfl rfl ⟨Nat.le_of_ble_eq_true rfl, Nat.le_of_ble_eq_true rfl⟩ (Nat.le_of_ble_eq_true rfl) ⟨Nat.zero_le _, Nat.zero_le _⟩ dX2_readStock_4 (fun w1 H locs hp2 hW hS => ?_)
  obtain ⟨ho3, hn4⟩ := hp2
  have hB := (hn4 _ (by omega)).trans hB
  have hE := (hn4 _ (by omega)).trans hE
  have hLo := (hn4 _ (by omega)).trans hLo
  have hT := (hn4 _ (by omega)).trans hT
  have ht9 := (hn4 _ (by omega)).trans ht9
  have hL := hL.mv (w2 := w1) (fun q h1 h2 => hn4 q (by omega))
  refine lv_aload_n F.1 F.2.1 dX2_readStock_7 rfl (lv_at hl 0 rfl) ?_
  refine gf_RX2_18 F hW hE rfl dX2_readStock_8 ?_
  refine h_iconst F dX2_readStock_11 ?_
  refine h_bipush F dX2_readStock_12 rfl ?_
  refine cl_RX2_137 (As := [.int (iI 0), .int (iI 6)]) (rest := []) F hl (k_seesNumber l X w1 (y + 311) (y + 307) (y + 308) N f (goV f v) num 0 6 ho3 hB hT hp1 hM1 (by omega) hl1 (by omega) (by omega)) hW hS ho3 rfl rfl ⟨Nat.le_of_ble_eq_true rfl, Nat.le_of_ble_eq_true rfl⟩ (Nat.le_of_ble_eq_true rfl) ⟨Nat.zero_le _, Nat.zero_le _⟩ dX2_readStock_14 (fun w5 H locs hp6 hW hS => ?_)
  obtain ⟨ho7, hn8⟩ := hp6
  have hB := (hn8 _ (by omega)).trans hB
  have hE := (hn8 _ (by omega)).trans hE
  have hLo := (hn8 _ (by omega)).trans hLo
  have hT := (hn8 _ (by omega)).trans hT
  have ht9 := (hn8 _ (by omega)).trans ht9
  have hL := hL.mv (w2 := w5) (fun q h1 h2 => hn8 q (by omega))
  have hX9 : w5 (y + 311) = some (.inr (6, rL (y + 307) (cR f N (rs2 f v) (nuS 0 6 (goV f v) num)))) := by rw [show (rs2 f v : Int → Int) = seV 0 6 (goV f v) from rfl]; exact ho7
  refine h_ifneb (tgt := 22) F dX2_readStock_17 (by decide) (fun c10 => ?_) (fun c10 => ?_)
  · have c10d := of_decide_eq_true c10
    have hl2 : rs2 f v 18 = 0 := by assumption
    refine lv_aload_n F.1 F.2.1 dX2_readStock_22 rfl (lv_at hl 0 rfl) ?_
    refine gf_RX2_18 F hW hE rfl dX2_readStock_23 ?_
    refine gf_RX2_59 F hW hX9 rfl dX2_readStock_26 ?_
    refine h_top (show ((cR f N (rs2 f v) (nuS 0 6 (goV f v) num)) 5 : Int) = rsK f v from by show nuS 0 6 (goV f v) _ = _; unfold nuS; rw [if_pos (show seV 0 6 (goV f v) 18 = 0 from hl2)]; rfl) ?_
    refine lv_istore_n (lv' := [(2, .int (iI (rsK f v))), (0, .ref (y + 312)), (1, .ref (y + 26))]) F.1 F.2.1 dX2_readStock_29 rfl hl (by decide) rfl (fun ls hl => ?_)
    refine lv_aload_n F.1 F.2.1 dX2_readStock_30 rfl (lv_at hl 1 rfl) ?_
    refine gf_RX2_22 F hW hE rfl dX2_readStock_31 ?_
    refine h_iconst F dX2_readStock_34 ?_
    refine lv_iload_n F.1 F.2.1 dX2_readStock_35 rfl (lv_at hl 0 rfl) ?_
    refine h_ishl (z := iI (pw (rsK f v))) F dX2_readStock_36 (pw_eq (by omega)) ?_
    refine h_iand (z := iI (anS (v 22) (rsK f v))) F dX2_readStock_37 (anS_eq (by omega)) ?_
    have har := anS_r (a := v 22) (k := rsK f v) (by omega) (by omega)
    have hat := an_tb (a := v 22) (k := rsK f v) (by omega) (by omega)
    have h222 := rs2_22 f v
    refine h_ifeq (tgt := 50) F dX2_readStock_38 (by decide) (by omega) (fun c11 => ?_) (fun c11 => ?_)
    · have e3 : rs3 f v = rs2 f v := if_neg (by rw [h222]; exact fun z => absurd (by assumption) (hat.mpr z))
      refine lv_aload_n F.1 F.2.1 dX2_readStock_50 rfl (lv_at hl 1 rfl) ?_
      refine lv_dup F.1 F.2.1 dX2_readStock_51 rfl ?_
      refine gf_RX2_22 F hW hE rfl dX2_readStock_52 ?_
      refine h_iconst F dX2_readStock_55 ?_
      refine lv_iload_n F.1 F.2.1 dX2_readStock_56 rfl (lv_at hl 0 rfl) ?_
      refine h_ishl (z := iI (pw (rsK f v))) F dX2_readStock_57 (pw_eq (by omega)) ?_
      refine h_ior (z := iI (orS (v 22) (rsK f v))) F dX2_readStock_58 (orS_eq (by omega)) ?_
      refine pf_RX2_22 F hW hS hE (Nat.le_of_ble_eq_true rfl) dX2_readStock_59 (fun w12 H locs ho14 hn13 hW hS => ?_)
      have ho14 : w12 (y + 312) = some (.inr (2, [.ref (y + 311), .ref (y + 313), .int (iI (orS (v 22) (rsK f v))), .int (iI (v 23))])) := ho14
      have hX9 := (hn13 _ (by omega)).trans hX9
      have hB := (hn13 _ (by omega)).trans hB
      have hLo := (hn13 _ (by omega)).trans hLo
      have hT := (hn13 _ (by omega)).trans hT
      have ht9 := (hn13 _ (by omega)).trans ht9
      have hL := hL.mv (w2 := w12) (fun q h1 h2 => hn13 q (by omega))
      have hX15 : w12 (y + 311) = some (.inr (6, rL (y + 307) (cR f N (rs4 f v) (nuS 0 6 (goV f v) num)))) := by rw [show rL (y + 307) (cR f N (rs4 f v) (nuS 0 6 (goV f v) num)) = rL (y + 307) (cR f N (rs2 f v) (nuS 0 6 (goV f v) num)) from by rw [← e3]; exact rL_eq (c7 rfl rfl rfl rfl rfl rfl rfl)]; exact hX9
      refine lv_aload_n F.1 F.2.1 dX2_readStock_62 rfl (lv_at hl 1 rfl) ?_
      refine gf_RX2_18 F hW ho14 rfl dX2_readStock_63 ?_
      refine cl_RX2_92 (As := []) (rest := []) F hl (k_step l X w12 (y + 311) (y + 307) (y + 308) N f (rs4 f v) (nuS 0 6 (goV f v) num) hX15 hB hT hp4 hM4 (by omega)) hW hS hX15 rfl rfl ⟨Nat.le_of_ble_eq_true rfl, Nat.le_of_ble_eq_true rfl⟩ (Nat.le_of_ble_eq_true rfl) ⟨Nat.zero_le _, Nat.zero_le _⟩ dX2_readStock_66 (fun w16 H locs hp17 hW hS => ?_)
      obtain ⟨ho18, hn19⟩ := hp17
      have hB := (hn19 _ (by omega)).trans hB
      have ho14 := (hn19 _ (by omega)).trans ho14
      have hLo := (hn19 _ (by omega)).trans hLo
      have hT := (hn19 _ (by omega)).trans hT
      have ht9 := (hn19 _ (by omega)).trans ht9
      have hL := hL.mv (w2 := w16) (fun q h1 h2 => hn19 q (by omega))
      have hl4 : rs4 f v 18 = 0 := by (show rs3 f v 18 = 0; rw [e3]; exact hl2)
      have e5 : rs5 f v = goV f (rs4 f v) := mu_t hl4
      have hl5 : rs5 f v 18 = 0 := by rw [e5, go_n (by decide)]; exact hl4
      have hX20 : w16 (y + 311) = some (.inr (6, rL (y + 307) (cR f N (rs5 f v) (nuS 0 6 (goV f v) num)))) := by rw [show (rs5 f v : Int → Int) = goV f (rs4 f v) from e5]; exact ho18
      refine lv_aload_n F.1 F.2.1 dX2_readStock_69 rfl (lv_at hl 1 rfl) ?_
      refine gf_RX2_18 F hW ho14 rfl dX2_readStock_70 ?_
      refine h_iconst F dX2_readStock_73 ?_
      refine h_sipush F dX2_readStock_74 rfl ?_
      refine cl_RX2_55 (As := [.int (iI 0), .int (iI 9999)]) (rest := []) F hl (k_takeNumber l X w16 (y + 311) (y + 307) (y + 308) N f (rs5 f v) (nuS 0 6 (goV f v) num) 0 9999 hX20 hB hT hp5 hM5 (by omega) hl5 (by omega) (by omega)) hW hS hX20 rfl rfl ⟨Nat.le_of_ble_eq_true rfl, Nat.le_of_ble_eq_true rfl⟩ (Nat.le_of_ble_eq_true rfl) ⟨Nat.zero_le _, Nat.zero_le _⟩ dX2_readStock_77 (fun w21 H locs hp22 hW hS => ?_)
      obtain ⟨ho23, hn24⟩ := hp22
      have hB := (hn24 _ (by omega)).trans hB
      have ho14 := (hn24 _ (by omega)).trans ho14
      have hLo := (hn24 _ (by omega)).trans hLo
      have hT := (hn24 _ (by omega)).trans hT
      have ht9 := (hn24 _ (by omega)).trans ht9
      have hL := hL.mv (w2 := w21) (fun q h1 h2 => hn24 q (by omega))
      have hX25 : w21 (y + 311) = some (.inr (6, rL (y + 307) (cR f N (rsV f v) (nuS 0 9999 (rs5 f v) (nuS 0 6 (goV f v) num))))) := by rw [show (rsV f v : Int → Int) = tkV f 0 9999 (rs5 f v) from rfl]; exact ho23
      refine h_ifneb (tgt := 85) F dX2_readStock_80 (by decide) (fun c26 => ?_) (fun c26 => ?_)
      · have c26d := of_decide_eq_true c26
        have hx : rsV f v 18 = 0 := by assumption
        have eU : ∀ (b : Nat) (N m : Int), rL b (cR f N (rsV f v) m) = rL b (cR f N (rsV f v) m) := fun _ _ _ => rfl
        refine lv_aload_n F.1 F.2.1 dX2_readStock_85 rfl (lv_at hl 2 rfl) ?_
        refine gf_RX2_151 F hW hLo rfl dX2_readStock_86 ?_
        refine lv_iload_n F.1 F.2.1 dX2_readStock_89 rfl (lv_at hl 0 rfl) ?_
        refine lv_aload_n F.1 F.2.1 dX2_readStock_90 rfl (lv_at hl 1 rfl) ?_
        refine gf_RX2_18 F hW ho14 rfl dX2_readStock_91 ?_
        refine gf_RX2_59 F hW hX25 rfl dX2_readStock_94 ?_
        refine h_top (show ((cR f N (rsV f v) (nuS 0 9999 (rs5 f v) (nuS 0 6 (goV f v) num))) 5 : Int) = seR 0 9999 (rs5 f v) from by show nuS 0 9999 (rs5 f v) _ = _; unfold nuS; rw [← tk_18 (f := f), if_pos (show tkV f 0 9999 (rs5 f v) 18 = 0 from hx)]) ?_
        have hL0 := hL
        refine cl_RX2_155 (As := [.ref (y + 26 + 5), .int (iI (rsK f v)), .int (iI (seR 0 9999 (rs5 f v)))]) (rest := []) F hl (c_X8_put l X w21 (y + 26 + 5) 7 t9 (rsK f v) (seR 0 9999 (rs5 f v)) ht9 (by omega) (by omega)) hW hS rfl rfl ⟨Nat.le_of_ble_eq_true rfl, Nat.le_of_ble_eq_true rfl⟩ (Nat.le_of_ble_eq_true rfl) ⟨Nat.zero_le _, Nat.zero_le _⟩ dX2_readStock_97 (fun w27 H locs hp28 hW hS => ?_)
        obtain ⟨ha29, hn30⟩ := hp28
        have hX25 := (hn30 _ (by omega)).trans hX25
        have hB := (hn30 _ (by omega)).trans hB
        have ho14 := (hn30 _ (by omega)).trans ho14
        have hLo := (hn30 _ (by omega)).trans hLo
        have hT := (hn30 _ (by omega)).trans hT
        have hLn : dlA X w27 (y + 26) (rsD f v d) := dl_st hL0 (by omega) hte ha29 hn30
        have hLO : (∃ τ, dlA X w27 (y + 26) τ ∧ (rsV f v 18 = 0 → τ = rsD f v d)) := ⟨_, hLn, fun _ => rfl⟩
        have hE2 : (∃ c1 d1 : Int, w27 (y + 312) = some (.inr (2, [.ref (y + 311), .ref (y + 313), .int (iI c1), .int (iI d1)])) ∧ (rsV f v 18 = 0 → c1 = rsV f v 22 ∧ d1 = rsV f v 23)) := ⟨_, _, ho14, fun _ => ⟨by rw [rsV_22 hvp], by rw [rsV_n hvp (by omega) (by decide)]⟩⟩
        refine h_iconst F dX2_readStock_100 ?_
        refine h_top (show (1 : Int) = bz (decide (rsV f v 18 = 0)) from by first | exact bzt (decide_eq_true hx) | exact bzf (decide_eq_false hx) | exact congrArg bz (decide_eq_false hx).symm) ?_
        exact h_iretz F hr hlk hW hS ⟨⟨_, by rw [eU]; exact hX25⟩, hE2, hLO, (fun q h09 h19 h29 => by rw [hn30 q (by omega), hn24 q (by omega), hn19 q (by omega), hn13 q (by omega), hn8 q (by omega), hn4 q (by omega)])⟩ dX2_readStock_101
      · have c26d := of_decide_eq_false c26
        have hx : rsV f v 18 ≠ 0 := by assumption
        have eU : ∀ (b : Nat) (N m : Int), rL b (cR f N (rsV f v) m) = rL b (cR f N (rsV f v) m) := fun _ _ _ => rfl
        have hE2 : (∃ c1 d1 : Int, w21 (y + 312) = some (.inr (2, [.ref (y + 311), .ref (y + 313), .int (iI c1), .int (iI d1)])) ∧ (rsV f v 18 = 0 → c1 = rsV f v 22 ∧ d1 = rsV f v 23)) := ⟨_, _, ho14, fun z => absurd z hx⟩
        have hLO : (∃ τ, dlA X w21 (y + 26) τ ∧ (rsV f v 18 = 0 → τ = rsD f v d)) := ⟨_, hL, fun z => absurd z hx⟩
        refine h_iconst F dX2_readStock_83 ?_
        refine h_top (show (0 : Int) = bz (decide (rsV f v 18 = 0)) from by first | exact bzt (decide_eq_true hx) | exact bzf (decide_eq_false hx) | exact congrArg bz (decide_eq_false hx).symm) ?_
        exact h_iretz F hr hlk hW hS ⟨⟨_, by rw [eU]; exact hX25⟩, hE2, hLO, (fun q h09 h19 h29 => by rw [hn24 q (by omega), hn19 q (by omega), hn13 q (by omega), hn8 q (by omega), hn4 q (by omega)])⟩ dX2_readStock_84
    · have e3 : rs3 f v = faV 3 (rs2 f v) := if_pos (by rw [h222]; exact hat.mp (by assumption))
      obtain ⟨eU, hx⟩ := rs_dL (f := f) (v := v) (by rw [e3]; exact fa_ne (by decide))
      rw [e3] at eU
      refine lv_aload_n F.1 F.2.1 dX2_readStock_41 rfl (lv_at hl 1 rfl) ?_
      refine gf_RX2_18 F hW hE rfl dX2_readStock_42 ?_
      refine h_iconst F dX2_readStock_45 ?_
      refine cl_RX2_86 (As := [.int (iI 3)]) (rest := []) F hl (k_fail l X w5 (y + 311) (y + 307) (y + 308) N f (rs2 f v) (nuS 0 6 (goV f v) num) 3 hX9 hB hT hp2 hM2 (by omega) hl2) hW hS hX9 rfl rfl ⟨Nat.le_of_ble_eq_true rfl, Nat.le_of_ble_eq_true rfl⟩ (Nat.le_of_ble_eq_true rfl) ⟨Nat.zero_le _, Nat.zero_le _⟩ dX2_readStock_46 (fun w31 H locs hp32 hW hS => ?_)
      obtain ⟨ho33, hn34⟩ := hp32
      have hB := (hn34 _ (by omega)).trans hB
      have hE := (hn34 _ (by omega)).trans hE
      have hLo := (hn34 _ (by omega)).trans hLo
      have hT := (hn34 _ (by omega)).trans hT
      have ht9 := (hn34 _ (by omega)).trans ht9
      have hL := hL.mv (w2 := w31) (fun q h1 h2 => hn34 q (by omega))
      have hE2 : (∃ c1 d1 : Int, w31 (y + 312) = some (.inr (2, [.ref (y + 311), .ref (y + 313), .int (iI c1), .int (iI d1)])) ∧ (rsV f v 18 = 0 → c1 = rsV f v 22 ∧ d1 = rsV f v 23)) := ⟨_, _, hE, fun z => absurd z hx⟩
      have hLO : (∃ τ, dlA X w31 (y + 26) τ ∧ (rsV f v 18 = 0 → τ = rsD f v d)) := ⟨_, hL, fun z => absurd z hx⟩
      refine h_top (show (bz false : Int) = bz (decide (rsV f v 18 = 0)) from by first | exact bzt (decide_eq_true hx) | exact bzf (decide_eq_false hx) | exact congrArg bz (decide_eq_false hx).symm) ?_
      exact h_iretz F hr hlk hW hS ⟨⟨_, by rw [eU]; exact ho33⟩, hE2, hLO, (fun q h09 h19 h29 => by rw [hn34 q (by omega), hn8 q (by omega), hn4 q (by omega)])⟩ dX2_readStock_49
  · have c10d := of_decide_eq_false c10
    have hq : rs2 f v 18 ≠ 0 := by assumption
    obtain ⟨eU, hx⟩ := rs_d2 hq
    have hE2 : (∃ c1 d1 : Int, w5 (y + 312) = some (.inr (2, [.ref (y + 311), .ref (y + 313), .int (iI c1), .int (iI d1)])) ∧ (rsV f v 18 = 0 → c1 = rsV f v 22 ∧ d1 = rsV f v 23)) := ⟨_, _, hE, fun z => absurd z hx⟩
    have hLO : (∃ τ, dlA X w5 (y + 26) τ ∧ (rsV f v 18 = 0 → τ = rsD f v d)) := ⟨_, hL, fun z => absurd z hx⟩
    refine h_iconst F dX2_readStock_20 ?_
    refine h_top (show (0 : Int) = bz (decide (rsV f v 18 = 0)) from by first | exact bzt (decide_eq_true hx) | exact bzf (decide_eq_false hx) | exact congrArg bz (decide_eq_false hx).symm) ?_
    exact h_iretz F hr hlk hW hS ⟨⟨_, by rw [eU]; exact hX9⟩, hE2, hLO, (fun q h09 h19 h29 => by rw [hn8 q (by omega), hn4 q (by omega)])⟩ dX2_readStock_21
