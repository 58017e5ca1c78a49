theorem rm2_1 {f v : Int → Int} (h : v 18 = 0) (h1 : cmR f v ≠ -1) (h2 : v 28 ≠ 30) (h3 : ¬ (cmR f v = 5 ∧ v 29 = 3)) : rm2 f v = v ∧ rm2 f v 18 = 0 := by
  have e1 : rm1 f v = v := if_neg h1
  have e2 : rm2 f v = v := by unfold rm2; rw [if_neg (fun z => z.elim h2 h3), e1]
  exact ⟨e2, by rw [e2]; exact h⟩
theorem rmd_1 {f v : Int → Int} {wd : Int} (h1 : cmR f v = -1) : rmV f v wd = faV 1 v ∧ rmV f v wd 18 ≠ 0 := by
  have e1 : rm1 f v = faV 1 v := if_pos h1
  have e2 : rm2 f v = faV 1 v := by
    unfold rm2
    rw [e1, fa_d (fa_ne (by decide))]
    split <;> rfl
  have hx : rm2 f v 18 ≠ 0 := by rw [e2]; exact fa_ne (by decide)
  have e : rmV f v wd = rm2 f v := if_neg hx
  rw [e]
  exact ⟨e2, hx⟩
theorem rmd_2 {f v : Int → Int} {wd : Int} (h : v 18 = 0) (h1 : cmR f v ≠ -1) (h2 : v 28 = 30 ∨ (cmR f v = 5 ∧ v 29 = 3)) : rmV f v wd = faV 6 v ∧ rmV f v wd 18 ≠ 0 := by
  have e1 : rm1 f v = v := if_neg h1
  have e2 : rm2 f v = faV 6 v := by unfold rm2; rw [if_pos h2, e1]
  have hx : rm2 f v 18 ≠ 0 := by rw [e2]; exact fa_ne (by decide)
  have e : rmV f v wd = rm2 f v := if_neg hx
  rw [e]
  exact ⟨e2, hx⟩
theorem rmd_8 {f v : Int → Int} {wd : Int} (h : rm2 f v 18 = 0) (h8 : rm8 f v wd 18 ≠ 0) : rmV f v wd = rm8 f v wd ∧ rmV f v wd 18 ≠ 0 := by
  have e : rmV f v wd = rm8 f v wd := by unfold rmV; rw [if_pos h, if_neg h8]
  rw [e]
  exact ⟨rfl, h8⟩
theorem rmx_5 {f v : Int → Int} {wd : Int} (h : rm2 f v 18 = 0) (hc : cmR f v = 5) (h8 : rm8 f v wd 18 = 0) : rmV f v wd = up (rm9 f v wd) 29 (rm9 f v wd 29 + 1) := by
  unfold rmV
  rw [if_pos h, if_pos h8]
  exact if_pos hc
theorem rmd_5 {f v : Int → Int} {wd : Int} (h : rm2 f v 18 = 0) (hc : cmR f v = 5) : decide (rm8 f v wd 18 = 0) = decide (rmV f v wd 18 = 0) := by
  by_cases h8 : rm8 f v wd 18 = 0
  · have e : rmV f v wd 18 = rm8 f v wd 18 := by rw [rmx_5 h hc h8]; rfl
    rw [e]
  · rw [(rmd_8 h h8).1]
theorem rmr_5 {b : Nat} {f v : Int → Int} {wd N m : Int} (h : rm2 f v 18 = 0) (hc : cmR f v = 5) : rL b (cR f N (rmV f v wd) m) = rL b (cR f N (rm8 f v wd) m) := by
  by_cases h8 : rm8 f v wd 18 = 0
  · rw [rmx_5 h hc h8]
    exact rL_eq (c7 rfl rfl rfl rfl rfl rfl rfl)
  · rw [(rmd_8 h h8).1]
theorem la_v {sc : Int → Int} {n a b x y : Int} : laS sc n a b x y (4 * n) = a ∧ laS sc n a b x y (4 * n + 1) = b ∧ laS sc n a b x y (4 * n + 2) = x ∧ laS sc n a b x y (4 * n + 3) = y := by
  unfold laS
  refine ⟨?_, ?_, ?_, up_s _ _ _⟩
  · rw [up_n (by omega), up_n (by omega), up_n (by omega), up_s]
  · rw [up_n (by omega), up_n (by omega), up_s]
  · rw [up_n (by omega), up_s]
theorem la_o {sc : Int → Int} {n a b x y p : Int} (h : p < 4 * n) : laS sc n a b x y p = sc p := by
  unfold laS
  rw [up_n (by omega), up_n (by omega), up_n (by omega), up_n (by omega)]
theorem rmS_e {f v sc : Int → Int} {wd : Int} (hp : vP f v) (h : rm2 f v 18 = 0) (h8 : rm8 f v wd 18 = 0) : rmS f v sc wd = laS sc (v 27) (cmR f v) (rmA f v) (rmB f v wd) (rmC f v wd) := by
  unfold rmS
  rw [if_pos ⟨h, h8⟩, rm8_n hp (by omega) (by decide)]
theorem rmc_5 {X : Cx} {w : Wo} {y : Nat} {f v sc : Int → Int} {wd ac pr dp9 : Int} {kd ar tl op ah ar9 op9 ah9 : Int → Int} (hsi : sI f v) (h2 : rm2 f v 18 = 0) (h8 : rm8 f v wd 18 = 0) (hc : cmR f v = 5) (hOp : Op kd ar sc wd op ah (v 29).toNat (v 27) ac) (hac : ac ≤ v 28) (hS : scO X w y (v 27 + 1) (v 28 + 1) ac dp9 pr (up kd (v 27) (cmR f v)) ar9 tl op9 ah9) (he : dp9 = v 29 + 1 ∧ ar9 = up ar (3 * (v 27 + 1 - 1) + 0) (rmA f v) ∧ op9 = up op (v 29) (v 27 + 1 - 1) ∧ ah9 = up ah (v 29) ac) : scR X w y (rmV f v wd) (rmS f v sc wd) wd := by
  obtain ⟨e1, e2, e3, e4⟩ := he
  obtain ⟨hp, h29, h28, h27⟩ := hsi
  have hX := rmX_n (wd := wd) hp
  have eV : rmV f v wd = rmX f v wd := by unfold rmV; rw [if_pos h2, if_pos h8]
  have eA : rmA f v = seR 1 20 (rm3 f v) := by unfold rmA; rw [if_neg (by omega), if_neg (by omega), if_neg (by omega), if_pos hc]
  have hA := seR_r (v := rm3 f v) (lo := 1) (hi := 20) (by decide)
  rw [eV, rmS_e hp h2 h8]
  refine ⟨ac, pr, up kd (v 27) (cmR f v), ar9, tl, op9, ah9, ?_, ?_, by rw [hX.1]; omega⟩
  · rw [hX.1, hX.2.1, hX.2.2, if_pos hc, ← e1]
    exact hS
  · rw [hX.2.1, hX.2.2, if_pos hc, show (v 29 + 1).toNat = (v 29).toNat + 1 by omega, e2, e3, e4, show v 27 + 1 - 1 = v 27 by omega, show 3 * v 27 + 0 = 3 * v 27 by omega]
    have hl := la_v (sc := sc) (n := v 27) (a := cmR f v) (b := rmA f v) (x := rmB f v wd) (y := rmC f v wd)
    have hq := (hOp.cg (kd' := up kd (v 27) (cmR f v)) (ar' := up ar (3 * v 27) (rmA f v)) (sc' := laS sc (v 27) (cmR f v) (rmA f v) (rmB f v wd) (rmC f v wd)) (op' := op) (ah' := ah) (fun p p0 p1 => ⟨up_n (by omega), ⟨up_n (by omega), up_n (by omega), up_n (by omega)⟩, la_o (by omega), la_o (by omega), la_o (by omega), la_o (by omega)⟩) (fun i _ _ => ⟨rfl, rfl⟩)).beg (by rw [up_s]; exact hc) (hl.1.trans hc) (by rw [hl.2.1, eA]; exact hA) (by rw [up_s, hl.2.1])
    rw [show (((v 29).toNat : Nat) : Int) = v 29 by omega] at hq
    exact hq
theorem ca_ok {f v ar kd sc : Int → Int} {wd : Int} (hw : 8 ≤ wd) (hc : 0 ≤ cmR f v ∧ cmR f v ≤ 4) : okA (up kd (v 27) (cmR f v)) (caA (cmR f v) ar (v 27) (rmA f v) (rmB f v wd) (rmC f v wd)) (laS sc (v 27) (cmR f v) (rmA f v) (rmB f v wd) (rmC f v wd)) wd (v 27) := by
  obtain ⟨l1, l2, l3, l4⟩ := la_v (sc := sc) (n := v 27) (a := cmR f v) (b := rmA f v) (x := rmB f v wd) (y := rmC f v wd)
  unfold okA
  rw [l1, l2, l3, l4, up_s]
  refine ⟨rfl, ?_⟩
  rcases (show cmR f v = 0 ∨ cmR f v = 1 ∨ cmR f v = 2 ∨ cmR f v = 3 ∨ cmR f v = 4 by omega) with g | g | g | g | g
  · have eA : rmA f v = seR 0 6 (rm3 f v) := if_pos g
    have eB : rmB f v wd = seR 0 (wd - 1) (rm4 f v) := if_pos g
    have eC : rmC f v wd = seR (rmB f v wd) (wd - 1) (rm6 f v wd) := if_pos g
    have hA := seR_r (v := rm3 f v) (lo := 0) (hi := 6) (by decide)
    have hB := seR_r (v := rm4 f v) (lo := 0) (hi := wd - 1) (by omega)
    rw [← eB] at hB
    have hC := seR_r (v := rm6 f v wd) (lo := rmB f v wd) (hi := wd - 1) (by omega)
    rw [← eC] at hC
    rw [← eA] at hA
    refine .inl ⟨g, ?_, ?_, ?_, hA, by omega⟩
    · unfold caA
      rw [if_pos g, up_n (by omega), up_n (by omega), show 3 * v 27 + 0 = 3 * v 27 by omega, up_s]
    · unfold caA
      rw [if_pos g, up_n (by omega), up_s]
    · unfold caA
      rw [if_pos g, up_s]
  · exact .inr (.inl g)
  · have eA : rmA f v = seR 1 30 (rm3 f v) := by unfold rmA; rw [if_neg (by omega), if_pos g]
    have eB : rmB f v wd = bz (isWR f (rm4 f v) 10) := by unfold rmB; rw [if_neg (by omega), if_pos g]
    have hA := seR_r (v := rm3 f v) (lo := 1) (hi := 30) (by decide)
    have hB := bz_r (isWR f (rm4 f v) 10)
    rw [← eA] at hA
    rw [← eB] at hB
    refine .inr (.inr (.inl ⟨g, ?_, ?_, hA, by omega⟩))
    · unfold caA
      rw [if_neg (by omega), if_pos g, up_n (by omega), show 3 * v 27 + 0 = 3 * v 27 by omega, up_s]
    · unfold caA
      rw [if_neg (by omega), if_pos g, up_s]
  · have eA : rmA f v = seR 0 30 (rm3 f v) := by unfold rmA; rw [if_neg (by omega), if_neg (by omega), if_pos g]
    have hA := seR_r (v := rm3 f v) (lo := 0) (hi := 30) (by decide)
    rw [← eA] at hA
    refine .inr (.inr (.inr (.inl ⟨g, ?_, hA⟩)))
    unfold caA
    rw [if_neg (by omega), if_neg (by omega), if_pos g, show 3 * v 27 + 0 = 3 * v 27 by omega, up_s]
  · exact .inr (.inr (.inr (.inr g)))
theorem ca_o {ar : Int → Int} {c s a b x p : Int} (h : p < 3 * s) : caA c ar s a b x p = ar p := by
  unfold caA
  (repeat' split) <;> first | rfl | rw [up_n (by omega), up_n (by omega), up_n (by omega)] | rw [up_n (by omega), up_n (by omega)] | rw [up_n (by omega)]
theorem rmc_a {X : Cx} {w : Wo} {y : Nat} {f v sc : Int → Int} {wd ac pr : Int} {kd ar tl op ah : Int → Int} (hsi : sI f v) (h2 : rm2 f v 18 = 0) (h8 : rm8 f v wd 18 = 0) (hc : 0 ≤ cmR f v ∧ cmR f v ≤ 4) (hw : 8 ≤ wd) (hOp : Op kd ar sc wd op ah (v 29).toNat (v 27) ac) (hac : ac ≤ v 28) (hS : scO X w y (v 27 + 1) (v 28 + 1) (ac + 1) (v 29) pr (up kd (v 27) (cmR f v)) (caA (cmR f v) ar (v 27 + 1 - 1) (rmA f v) (rmB f v wd) (rmC f v wd)) tl op ah) : scR X w y (rmV f v wd) (rmS f v sc wd) wd := by
  obtain ⟨hp, h29, h28, h27⟩ := hsi
  have hX := rmX_n (wd := wd) hp
  have eV : rmV f v wd = rmX f v wd := by unfold rmV; rw [if_pos h2, if_pos h8]
  rw [eV, rmS_e hp h2 h8]
  rw [show v 27 + 1 - 1 = v 27 by omega] at hS
  refine ⟨ac + 1, pr, up kd (v 27) (cmR f v), caA (cmR f v) ar (v 27) (rmA f v) (rmB f v wd) (rmC f v wd), tl, op, ah, ?_, ?_, by rw [hX.1]; omega⟩
  · rw [hX.1, hX.2.1, hX.2.2, if_neg (by omega)]
    exact hS
  · rw [hX.2.1, hX.2.2, if_neg (by omega)]
    exact hOp.act (fun p p0 p1 => ⟨up_n (by omega), ⟨ca_o (by omega), ca_o (by omega), ca_o (by omega)⟩, la_o (by omega), la_o (by omega), la_o (by omega), la_o (by omega)⟩) (ca_ok hw hc)
theorem op_in {kd ar sc op ah : Int → Int} {wd s n d : Int} (h : Op kd ar sc wd op ah d.toNat s n) (hd : 0 < d) : ((0 ≤ op (d - 1) ∧ op (d - 1) < s) ∧ (0 ≤ ah (d - 1) ∧ ah (d - 1) ≤ n)) ∧ Op kd ar sc wd op ah ((d - 1).toNat + 1) s n := by
  rw [show d.toNat = (d - 1).toNat + 1 by omega] at h
  have h9 := h
  obtain ⟨h1, _, _, _, _, n1, L, h6, h7⟩ := h
  have l1 := h1.le
  have l6 := h6.le
  rw [show (((d - 1).toNat : Nat) : Int) = d - 1 by omega] at l1 l6 h7
  exact ⟨by omega, h9⟩
theorem clc {X : Cx} {w : Wo} {y : Nat} {f v sc : Int → Int} {wd ac pr : Int} {kd ar tl op ah ar9 : Int → Int} (hsi : sI f v) (hcl : 0 < v 29) (hOp : Op kd ar sc wd op ah (v 29).toNat (v 27) ac) (hac : ac ≤ v 28) (ha : (ac = ah (v 29 - 1) ∧ ar9 = up (up (up ar (3 * op (v 29 - 1) + 1) (v 27)) (3 * op (v 29 - 1) + 0) 0) (3 * (v 27 + 1 - 1) + 0) (op (v 29 - 1))) ∨ (ac ≠ ah (v 29 - 1) ∧ ar9 = up (up ar (3 * op (v 29 - 1) + 1) (v 27)) (3 * (v 27 + 1 - 1) + 0) (op (v 29 - 1)))) (hS : scO X w y (v 27 + 1) (v 28) ac (v 29 - 1) pr (up kd (v 27) 6) ar9 tl op ah) : scR X w y (clV f v) (laS sc (v 27) 6 0 0 0) wd := by
  obtain ⟨hp, h29, h28, h27⟩ := hsi
  obtain ⟨ho, hO⟩ := op_in hOp hcl
  have e27 : clV f v 27 = v 27 + 1 := (clV_n (by omega)).trans rfl
  have e28 : clV f v 28 = v 28 := (clV_n (by omega)).trans rfl
  have e29 : clV f v 29 = v 29 - 1 := (clV_n (by omega)).trans rfl
  have ek : (((v 29 - 1).toNat : Nat) : Int) = v 29 - 1 := by omega
  refine ⟨ac, pr, up kd (v 27) 6, ar9, tl, op, ah, ?_, ?_, by rw [e28]; exact hac⟩
  · rw [e27, e28, e29]
    exact hS
  · rw [e27, e29]
    have hl := la_v (sc := sc) (n := v 27) (a := 6) (b := 0) (x := 0) (y := 0)
    have e9 : ∀ p, p < 3 * v 27 → p ≠ 3 * op (v 29 - 1) → p ≠ 3 * op (v 29 - 1) + 1 → ar9 p = ar p := by
      intro p p1 p2 p3
      rcases ha with ⟨_, e⟩ | ⟨_, e⟩
      · rw [e, up_n (by omega), up_n (by omega), up_n (by omega)]
      · rw [e, up_n (by omega), up_n (by omega)]
    refine hO.cls (fun p p0 p1 p2 => ?_) ?_ (up_s _ _ _) hl.1 ?_ ?_ ?_
    · rw [ek] at p2
      exact ⟨up_n (by omega), ⟨e9 _ (by omega) (by omega) (by omega), e9 _ (by omega) (by omega) (by omega), e9 _ (by omega) (by omega) (by omega)⟩, la_o (by omega), la_o (by omega), la_o (by omega), la_o (by omega)⟩
    · rw [ek]
      exact ⟨up_n (by omega), fun j j0 j1 => la_o (by omega)⟩
    · rw [ek]
      rcases ha with ⟨_, e⟩ | ⟨_, e⟩ <;> (rw [e, show 3 * (v 27 + 1 - 1) + 0 = 3 * v 27 by omega, up_s])
    · rw [ek]
      rcases ha with ⟨_, e⟩ | ⟨_, e⟩
      · rw [e, up_n (by omega), up_n (by omega), up_s]
      · rw [e, up_n (by omega), up_s]
    · rw [ek]
      rcases ha with ⟨z, e⟩ | ⟨z, e⟩
      · rw [if_pos z, e, up_n (by omega), show 3 * op (v 29 - 1) + 0 = 3 * op (v 29 - 1) by omega, up_s]
      · rw [if_neg z, e, up_n (by omega), up_n (by omega)]
set_option maxHeartbeats 4000000 in
set_option maxRecDepth 100000 in
theorem c_X7_commandKind (l : Launch) (X : Cx) (w : Wo) (y : Nat) (N num : Int) (f v : Int → Int) (st cm ac dp pr : Int) (hR : w (y + 311) = some (.inr (6, rL (y + 307) (cR f N v num)))) (hB : w (y + 307) = some (.inr (0, [.ref (y + 308), .int (iI N)]))) (hT : w (y + 308) = some (aZ X 400 f)) (hvp : vP f v) (hN : v 11 = N) (hSc : w (y + 315) = some (.inr (7, [.ref (y + 311), .ref (y + 316), .ref (y + 317), .ref (y + 318), .int (iI st), .int (iI cm), .int (iI ac), .ref (y + 319), .ref (y + 320), .int (iI dp), .int (iI pr)]))) (hlv : v 18 = 0) : CM l X yX7_commandKind cX7_commandKind 1 (some (.int)) (rmk 5 107) [.ref (y + 315)] w (some (.int (iI (cmR f v)))) (fun w' => w' = w) := by
  refine CM.of (lv := [(0, .ref (y + 315))]) (by decide) (Nat.le_of_ble_eq_true rfl) rfl (fun p e s m below meth c ls F hr hlk hin hW hS hl => ?_)
  have hZ0 := hW.2.2
  have hB9 := hW.1.2
  clear hin
  refine lv_aload_n F.1 F.2.1 dX7_commandKind_0 rfl (lv_at hl 0 rfl) ?_
  refine gf_RX7_27 F hW hSc rfl dX7_commandKind_1 ?_
  refine h_ldcS (tx := "pass") (i := 7) F hW (by decide +kernel) dX7_commandKind_4 ?_
  refine cl_RX7_65 (As := [.ref (X.2.2 (10 + 7))]) (rest := []) F hl (k_isWord l X w (y + 311) (y + 307) (y + 308) N f v num 7 hR hB hT hvp hN (by omega) hlv (by decide)) hW hS hR rfl rfl ⟨Nat.le_of_ble_eq_true rfl, Nat.le_of_ble_eq_true rfl⟩ (Nat.le_of_ble_eq_true rfl) ⟨Nat.zero_le _, Nat.zero_le _⟩ dX7_commandKind_6 (fun w1 H locs hp1 hW hS => ?_)
  rw [hp1] at hW; clear hp1; clear w1
  refine h_ifeqb (tgt := 14) F dX7_commandKind_9 (by decide) (fun c2 => ?_) (fun c2 => ?_)
  · refine lv_aload_n F.1 F.2.1 dX7_commandKind_14 rfl (lv_at hl 0 rfl) ?_
    refine gf_RX7_27 F hW hSc rfl dX7_commandKind_15 ?_
    refine h_ldcS (tx := "beat") (i := 8) F hW (by decide +kernel) dX7_commandKind_18 ?_
    refine cl_RX7_65 (As := [.ref (X.2.2 (10 + 8))]) (rest := []) F hl (k_isWord l X w (y + 311) (y + 307) (y + 308) N f v num 8 hR hB hT hvp hN (by omega) hlv (by decide)) hW hS hR rfl rfl ⟨Nat.le_of_ble_eq_true rfl, Nat.le_of_ble_eq_true rfl⟩ (Nat.le_of_ble_eq_true rfl) ⟨Nat.zero_le _, Nat.zero_le _⟩ dX7_commandKind_20 (fun w1 H locs hp3 hW hS => ?_)
    rw [hp3] at hW; clear hp3; clear w1
    refine h_ifeqb (tgt := 28) F dX7_commandKind_23 (by decide) (fun c4 => ?_) (fun c4 => ?_)
    · refine lv_aload_n F.1 F.2.1 dX7_commandKind_28 rfl (lv_at hl 0 rfl) ?_
      refine gf_RX7_27 F hW hSc rfl dX7_commandKind_29 ?_
      refine h_ldcS (tx := "weave") (i := 9) F hW (by decide +kernel) dX7_commandKind_32 ?_
      refine cl_RX7_65 (As := [.ref (X.2.2 (10 + 9))]) (rest := []) F hl (k_isWord l X w (y + 311) (y + 307) (y + 308) N f v num 9 hR hB hT hvp hN (by omega) hlv (by decide)) hW hS hR rfl rfl ⟨Nat.le_of_ble_eq_true rfl, Nat.le_of_ble_eq_true rfl⟩ (Nat.le_of_ble_eq_true rfl) ⟨Nat.zero_le _, Nat.zero_le _⟩ dX7_commandKind_34 (fun w1 H locs hp5 hW hS => ?_)
      rw [hp5] at hW; clear hp5; clear w1
      refine h_ifeqb (tgt := 42) F dX7_commandKind_37 (by decide) (fun c6 => ?_) (fun c6 => ?_)
      · refine lv_aload_n F.1 F.2.1 dX7_commandKind_42 rfl (lv_at hl 0 rfl) ?_
        refine gf_RX7_27 F hW hSc rfl dX7_commandKind_43 ?_
        refine h_ldcS (tx := "unpick") (i := 11) F hW (by decide +kernel) dX7_commandKind_46 ?_
        refine cl_RX7_65 (As := [.ref (X.2.2 (10 + 11))]) (rest := []) F hl (k_isWord l X w (y + 311) (y + 307) (y + 308) N f v num 11 hR hB hT hvp hN (by omega) hlv (by decide)) hW hS hR rfl rfl ⟨Nat.le_of_ble_eq_true rfl, Nat.le_of_ble_eq_true rfl⟩ (Nat.le_of_ble_eq_true rfl) ⟨Nat.zero_le _, Nat.zero_le _⟩ dX7_commandKind_48 (fun w1 H locs hp7 hW hS => ?_)
        rw [hp7] at hW; clear hp7; clear w1
        refine h_ifeqb (tgt := 56) F dX7_commandKind_51 (by decide) (fun c8 => ?_) (fun c8 => ?_)
        · refine lv_aload_n F.1 F.2.1 dX7_commandKind_56 rfl (lv_at hl 0 rfl) ?_
          refine gf_RX7_27 F hW hSc rfl dX7_commandKind_57 ?_
          refine h_ldcS (tx := "look") (i := 12) F hW (by decide +kernel) dX7_commandKind_60 ?_
          refine cl_RX7_65 (As := [.ref (X.2.2 (10 + 12))]) (rest := []) F hl (k_isWord l X w (y + 311) (y + 307) (y + 308) N f v num 12 hR hB hT hvp hN (by omega) hlv (by decide)) hW hS hR rfl rfl ⟨Nat.le_of_ble_eq_true rfl, Nat.le_of_ble_eq_true rfl⟩ (Nat.le_of_ble_eq_true rfl) ⟨Nat.zero_le _, Nat.zero_le _⟩ dX7_commandKind_62 (fun w1 H locs hp9 hW hS => ?_)
          rw [hp9] at hW; clear hp9; clear w1
          refine h_ifeqb (tgt := 70) F dX7_commandKind_65 (by decide) (fun c10 => ?_) (fun c10 => ?_)
          · refine lv_aload_n F.1 F.2.1 dX7_commandKind_70 rfl (lv_at hl 0 rfl) ?_
            refine gf_RX7_27 F hW hSc rfl dX7_commandKind_71 ?_
            refine h_ldcS (tx := "repeat") (i := 13) F hW (by decide +kernel) dX7_commandKind_74 ?_
            refine cl_RX7_65 (As := [.ref (X.2.2 (10 + 13))]) (rest := []) F hl (k_isWord l X w (y + 311) (y + 307) (y + 308) N f v num 13 hR hB hT hvp hN (by omega) hlv (by decide)) hW hS hR rfl rfl ⟨Nat.le_of_ble_eq_true rfl, Nat.le_of_ble_eq_true rfl⟩ (Nat.le_of_ble_eq_true rfl) ⟨Nat.zero_le _, Nat.zero_le _⟩ dX7_commandKind_76 (fun w1 H locs hp11 hW hS => ?_)
            rw [hp11] at hW; clear hp11; clear w1
            refine h_ifeqb (tgt := 86) F dX7_commandKind_79 (by decide) (fun c12 => ?_) (fun c12 => ?_)
            · refine h_iconst F dX7_commandKind_86 ?_
              refine h_top (show ((-1) : Int) = cmR f v from by unfold cmR; simp [*]) ?_
              exact h_ireti F hr hlk hW hS rfl dX7_commandKind_87
            · refine h_iconst F dX7_commandKind_82 ?_
              refine h_goto (tgt := 87) F dX7_commandKind_83 (by decide) ?_
              refine h_top (show (5 : Int) = cmR f v from by unfold cmR; simp [*]) ?_
              exact h_ireti F hr hlk hW hS rfl dX7_commandKind_87
          · refine h_iconst F dX7_commandKind_68 ?_
            refine h_top (show (4 : Int) = cmR f v from by unfold cmR; simp [*]) ?_
            exact h_ireti F hr hlk hW hS rfl dX7_commandKind_69
        · refine h_iconst F dX7_commandKind_54 ?_
          refine h_top (show (3 : Int) = cmR f v from by unfold cmR; simp [*]) ?_
          exact h_ireti F hr hlk hW hS rfl dX7_commandKind_55
      · refine h_iconst F dX7_commandKind_40 ?_
        refine h_top (show (2 : Int) = cmR f v from by unfold cmR; simp [*]) ?_
        exact h_ireti F hr hlk hW hS rfl dX7_commandKind_41
    · refine h_iconst F dX7_commandKind_26 ?_
      refine h_top (show (1 : Int) = cmR f v from by unfold cmR; simp [*]) ?_
      exact h_ireti F hr hlk hW hS rfl dX7_commandKind_27
  · refine h_iconst F dX7_commandKind_12 ?_
    refine h_top (show (0 : Int) = cmR f v from by unfold cmR; simp [*]) ?_
    exact h_ireti F hr hlk hW hS rfl dX7_commandKind_13
set_option maxHeartbeats 4000000 in
set_option maxRecDepth 100000 in
theorem c_X7_readCommand (l : Launch) (X : Cx) (w : Wo) (y : Nat) (N num : Int) (f v sc : Int → Int) (wd : Int) (hR : w (y + 311) = some (.inr (6, rL (y + 307) (cR f N v num)))) (hB : w (y + 307) = some (.inr (0, [.ref (y + 308), .int (iI N)]))) (hT : w (y + 308) = some (aZ X 400 f)) (hN : v 11 = N) (hsi : sI f v) (hsr : scR X w y v sc wd) (hlv : v 18 = 0) (hwd9 : 8 ≤ wd ∧ wd ≤ 40) : CM l X yX7_readCommand cX7_readCommand 3 (some (.boolean)) (rmk 7 150) [.ref (y + 315), .int (iI wd)] w (some (.int (iI (bz (decide (rmV f v wd 18 = 0)))))) (fun w' => (∃ m : Int, w' (y + 311) = some (.inr (6, rL (y + 307) (cR f N (rmV f v wd) m)))) ∧ (scE X w' y ∧ (rmV f v wd 18 = 0 → scR X w' y (rmV f v wd) (rmS f v sc wd) wd)) ∧ ∀ q : Nat, q ≠ y + 311 → (q < y + 315 ∨ y + 321 ≤ q) → w' q = w q) := by
  refine CM.of (lv := [(0, .ref (y + 315)), (1, .int (iI wd))]) (by decide) (Nat.le_of_ble_eq_true rfl) rfl (fun p e s m below meth c ls F hr hlk hin hW hS hl => ?_)
  have hZ0 := hW.2.2
  have hB9 := hW.1.2
  clear hin
  have hvp := hsi.1
  have hsi2 := hsi.2
  obtain ⟨ac, pr, kd, ar, tl, op, ah, ⟨hSc, hkd, har, htl, hop, hah⟩, hOp, hac⟩ := hsr
  have hol := hOp.le
  have hp3 := rm3_P hvp
  have hp4 := rm4_P hvp
  have hp5 := rm5_P (wd := wd) hvp
  have hp6 := rm6_P (wd := wd) hvp
  have hp7 := rm7_P (wd := wd) hvp
  have hp8 := rm8_P (wd := wd) hvp
  have hp9 := rm9_P (wd := wd) hvp
  have hM3 : rm3 f v 11 = N := (rm3_n (by omega) (by decide)).trans hN
  have hM4 : rm4 f v 11 = N := ((rm4_E hvp).1 11 (by omega)).trans hM3
  have hM5 : rm5 f v wd 11 = N := ((rm5_E hvp).1 11 (by omega)).trans hM3
  have hM6 : rm6 f v wd 11 = N := ((rm6_E hvp).1 11 (by omega)).trans hM3
  have hM7 : rm7 f v wd 11 = N := ((rm7_E hvp).1 11 (by omega)).trans hM3
  have hM8 : rm8 f v wd 11 = N := ((rm8_E hvp).1 11 (by omega)).trans hM3
  have hBr := rmB_r (f := f) (v := v) hwd9.1
  have hcm := cmR_r f v
  refine lv_aload_n F.1 F.2.1 dX7_readCommand_0 rfl (lv_at hl 0 rfl) ?_
  refine cl_RX7_79 (As := []) (rest := []) F hl (c_X7_commandKind l X w y N num f v (v 27) (v 28) ac (v 29) pr hR hB hT hvp hN hSc hlv) hW hS hSc rfl rfl ⟨Nat.le_of_ble_eq_true rfl, Nat.le_of_ble_eq_true rfl⟩ (Nat.le_of_ble_eq_true rfl) ⟨Nat.zero_le _, Nat.zero_le _⟩ dX7_readCommand_1 (fun w1 H locs hp1 hW hS => ?_)
  rw [hp1] at hW; clear hp1; clear w1
  refine lv_istore_n (lv' := [(2, .int (iI (cmR f v))), (0, .ref (y + 315)), (1, .int (iI wd))]) F.1 F.2.1 dX7_readCommand_4 rfl hl (by decide) rfl (fun ls hl => ?_)
  refine lv_iload_n F.1 F.2.1 dX7_readCommand_5 rfl (lv_at hl 0 rfl) ?_
  refine h_iconst F dX7_readCommand_6 ?_
  refine h_icne (tgt := 19) F dX7_readCommand_7 (by decide) (by omega) (fun c2 => ?_) (fun c2 => ?_)
  · refine lv_aload_n F.1 F.2.1 dX7_readCommand_19 rfl (lv_at hl 1 rfl) ?_
    refine gf_RX7_35 F hW hSc rfl dX7_readCommand_20 ?_
    refine h_bipush F dX7_readCommand_23 rfl ?_
    refine h_icge (tgt := 41) F dX7_readCommand_25 (by decide) (by omega) (fun c3 => ?_) (fun c3 => ?_)
    · refine lv_aload_n F.1 F.2.1 dX7_readCommand_41 rfl (lv_at hl 1 rfl) ?_
      refine gf_RX7_27 F hW hSc rfl dX7_readCommand_42 ?_
      refine h_bipush F dX7_readCommand_45 rfl ?_
      refine cl_RX7_60 (As := [.int (iI 6)]) (rest := []) F hl (k_fail l X w (y + 311) (y + 307) (y + 308) N f v num 6 hR hB hT hvp hN (by omega) hlv) hW hS hR rfl rfl ⟨Nat.le_of_ble_eq_true rfl, Nat.le_of_ble_eq_true rfl⟩ (Nat.le_of_ble_eq_true rfl) ⟨Nat.zero_le _, Nat.zero_le _⟩ dX7_readCommand_47 (fun w4 H locs hp5 hW hS => ?_)
      obtain ⟨ho6, hn7⟩ := hp5
      have hB := (hn7 _ (by omega)).trans hB
      have hSc := (hn7 _ (by omega)).trans hSc
      have hT := (hn7 _ (by omega)).trans hT
      have hkd := (hn7 _ (by omega)).trans hkd
      have har := (hn7 _ (by omega)).trans har
      have htl := (hn7 _ (by omega)).trans htl
      have hop := (hn7 _ (by omega)).trans hop
      have hah := (hn7 _ (by omega)).trans hah
      obtain ⟨eU, hx⟩ := rmd_2 (f := f) (v := v) (wd := wd) hlv (by omega) (by omega)
      have hSX : (scE X w4 y ∧ (rmV f v wd 18 = 0 → scR X w4 y (rmV f v wd) (rmS f v sc wd) wd)) := ⟨⟨_, _, _, _, _, _, _, _, _, _, ⟨hSc, hkd, har, htl, hop, hah⟩⟩, fun z => absurd z hx⟩
      refine h_top (show (bz false : Int) = bz (decide (rmV f v wd 18 = 0)) from by first | exact bzt (decide_eq_true hx) | exact bzf (decide_eq_false hx) | exact congrArg bz hdd) ?_
      exact h_iretz F hr hlk hW hS ⟨⟨_, by rw [eU]; exact ho6⟩, hSX, (fun q h09 h19 => by rw [hn7 q (by omega)])⟩ dX7_readCommand_50
    · refine lv_iload_n F.1 F.2.1 dX7_readCommand_28 rfl (lv_at hl 0 rfl) ?_
      refine h_iconst F dX7_readCommand_29 ?_
      refine h_icne (tgt := 51) F dX7_readCommand_30 (by decide) (by omega) (fun c8 => ?_) (fun c8 => ?_)
      · have hc2 : rm2 f v = v ∧ rm2 f v 18 = 0 := rm2_1 hlv (by omega) (by omega) (by omega)
        have e3 : rm3 f v = goV f (up v 28 (v 28 + 1)) := by unfold rm3; rw [hc2.1]
        have hl3 : rm3 f v 18 = 0 := by rw [e3, go_n (by decide)]; exact hlv
        have hp28 : vP f (up v 28 (v 28 + 1)) := hvp.fld rfl rfl rfl rfl rfl rfl
        refine lv_aload_n F.1 F.2.1 dX7_readCommand_51 rfl (lv_at hl 1 rfl) ?_
        refine lv_dup F.1 F.2.1 dX7_readCommand_52 rfl ?_
        refine gf_RX7_35 F hW hSc rfl dX7_readCommand_53 ?_
        refine h_iconst F dX7_readCommand_56 ?_
        refine h_iadd (a := v 28) (b := 1) F dX7_readCommand_57 ?_
        refine pf_RX7_35 F hW hS hSc (Nat.le_of_ble_eq_true rfl) dX7_readCommand_58 (fun w9 H locs ho11 hn10 hW hS => ?_)
        have ho11 : w9 (y + 315) = some (.inr (7, [.ref (y + 311), .ref (y + 316), .ref (y + 317), .ref (y + 318), .int (iI (v 27)), .int (iI ((v 28) + 1)), .int (iI ac), .ref (y + 319), .ref (y + 320), .int (iI (v 29)), .int (iI pr)])) := ho11
        have hR := (hn10 _ (by omega)).trans hR
        have hB := (hn10 _ (by omega)).trans hB
        have hT := (hn10 _ (by omega)).trans hT
        have hkd := (hn10 _ (by omega)).trans hkd
        have har := (hn10 _ (by omega)).trans har
        have htl := (hn10 _ (by omega)).trans htl
        have hop := (hn10 _ (by omega)).trans hop
        have hah := (hn10 _ (by omega)).trans hah
        refine lv_aload_n F.1 F.2.1 dX7_readCommand_61 rfl (lv_at hl 1 rfl) ?_
        have hX12 : w9 (y + 311) = some (.inr (6, rL (y + 307) (cR f N (up v 28 (v 28 + 1)) num))) := by rw [show rL (y + 307) (cR f N (up v 28 (v 28 + 1)) num) = rL (y + 307) (cR f N v num) from rL_eq (c7 rfl rfl rfl rfl rfl rfl rfl)]; exact hR
        refine gf_RX7_27 F hW ho11 rfl dX7_readCommand_62 ?_
        refine cl_RX7_83 (As := []) (rest := []) F hl (k_step l X w9 (y + 311) (y + 307) (y + 308) N f (up v 28 (v 28 + 1)) num hX12 hB hT hp28 hN (by omega)) hW hS hX12 rfl rfl ⟨Nat.le_of_ble_eq_true rfl, Nat.le_of_ble_eq_true rfl⟩ (Nat.le_of_ble_eq_true rfl) ⟨Nat.zero_le _, Nat.zero_le _⟩ dX7_readCommand_65 (fun w13 H locs hp14 hW hS => ?_)
        obtain ⟨ho15, hn16⟩ := hp14
        have hB := (hn16 _ (by omega)).trans hB
        have ho11 := (hn16 _ (by omega)).trans ho11
        have hT := (hn16 _ (by omega)).trans hT
        have hkd := (hn16 _ (by omega)).trans hkd
        have har := (hn16 _ (by omega)).trans har
        have htl := (hn16 _ (by omega)).trans htl
        have hop := (hn16 _ (by omega)).trans hop
        have hah := (hn16 _ (by omega)).trans hah
        have hX17 : w13 (y + 311) = some (.inr (6, rL (y + 307) (cR f N (rm3 f v) num))) := by rw [show (rm3 f v : Int → Int) = goV f (up v 28 (v 28 + 1)) from e3]; exact ho15
        refine lv_aload_n F.1 F.2.1 dX7_readCommand_68 rfl (lv_at hl 1 rfl) ?_
        refine lv_iload_n F.1 F.2.1 dX7_readCommand_69 rfl (lv_at hl 0 rfl) ?_
        refine cl_RX7_86 (As := [.int (iI (cmR f v))]) (rest := []) F hl (c_X7_addStep l X w13 y (v 27) ((v 28) + 1) ac (v 29) pr kd (cmR f v) ho11 hkd (by omega)) hW hS ho11 rfl rfl ⟨Nat.le_of_ble_eq_true rfl, Nat.le_of_ble_eq_true rfl⟩ (Nat.le_of_ble_eq_true rfl) ⟨Nat.zero_le _, Nat.zero_le _⟩ dX7_readCommand_70 (fun w18 H locs hp19 hW hS => ?_)
        obtain ⟨ho20, ha21, hn22⟩ := hp19
        have hX17 := (hn22 _ (by omega) (by omega)).trans hX17
        have hB := (hn22 _ (by omega) (by omega)).trans hB
        have hT := (hn22 _ (by omega) (by omega)).trans hT
        have har := (hn22 _ (by omega) (by omega)).trans har
        have htl := (hn22 _ (by omega) (by omega)).trans htl
        have hop := (hn22 _ (by omega) (by omega)).trans hop
        have hah := (hn22 _ (by omega) (by omega)).trans hah
        refine lv_iload_n F.1 F.2.1 dX7_readCommand_73 rfl (lv_at hl 0 rfl) ?_
        refine h_iconst F dX7_readCommand_74 ?_
        refine h_icne (tgt := 83) F dX7_readCommand_75 (by decide) (by omega) (fun c23 => ?_) (fun c23 => ?_)
        · refine lv_aload_n F.1 F.2.1 dX7_readCommand_83 rfl (lv_at hl 1 rfl) ?_
          refine lv_dup F.1 F.2.1 dX7_readCommand_84 rfl ?_
          refine gf_RX7_38 F hW ho20 rfl dX7_readCommand_85 ?_
          refine h_iconst F dX7_readCommand_88 ?_
          refine h_iadd (a := ac) (b := 1) F dX7_readCommand_89 ?_
          refine pf_RX7_38 F hW hS ho20 (Nat.le_of_ble_eq_true rfl) dX7_readCommand_90 (fun w24 H locs ho26 hn25 hW hS => ?_)
          have ho26 : w24 (y + 315) = some (.inr (7, [.ref (y + 311), .ref (y + 316), .ref (y + 317), .ref (y + 318), .int (iI ((v 27) + 1)), .int (iI ((v 28) + 1)), .int (iI (ac + 1)), .ref (y + 319), .ref (y + 320), .int (iI (v 29)), .int (iI pr)])) := ho26
          have hX17 := (hn25 _ (by omega)).trans hX17
          have hB := (hn25 _ (by omega)).trans hB
          have hT := (hn25 _ (by omega)).trans hT
          have ha21 := (hn25 _ (by omega)).trans ha21
          have har := (hn25 _ (by omega)).trans har
          have htl := (hn25 _ (by omega)).trans htl
          have hop := (hn25 _ (by omega)).trans hop
          have hah := (hn25 _ (by omega)).trans hah
          refine lv_aload_n F.1 F.2.1 dX7_readCommand_93 rfl (lv_at hl 1 rfl) ?_
          refine lv_iload_n F.1 F.2.1 dX7_readCommand_94 rfl (lv_at hl 0 rfl) ?_
          refine lv_iload_n F.1 F.2.1 dX7_readCommand_95 rfl (lv_at hl 2 rfl) ?_
          refine cl_RX7_93 (As := [.int (iI (cmR f v)), .int (iI wd)]) (rest := []) F hl (c_X7_readArguments l X w24 y N num f v wd ((v 27) + 1) ((v 28) + 1) (ac + 1) (v 29) pr ar hX17 hB hT hvp hN ho26 har hl3 (by omega) (by omega) (by omega)) hW hS ho26 rfl rfl ⟨Nat.le_of_ble_eq_true rfl, Nat.le_of_ble_eq_true rfl⟩ (Nat.le_of_ble_eq_true rfl) ⟨Nat.zero_le _, Nat.zero_le _⟩ dX7_readCommand_96 (fun w27 H locs hp28 hW hS => ?_)
          obtain ⟨hRL, hA9, hn29⟩ := hp28
          have hB := (hn29 _ (by omega) (by omega)).trans hB
          have ho26 := (hn29 _ (by omega) (by omega)).trans ho26
          have hT := (hn29 _ (by omega) (by omega)).trans hT
          have ha21 := (hn29 _ (by omega) (by omega)).trans ha21
          have htl := (hn29 _ (by omega) (by omega)).trans htl
          have hop := (hn29 _ (by omega) (by omega)).trans hop
          have hah := (hn29 _ (by omega) (by omega)).trans hah
          obtain ⟨m7, hrd⟩ := hRL
          obtain ⟨ar9, har, hae⟩ := hA9
          have e8 : rm8 f v wd = rm7 f v wd := if_neg (by omega)
          refine h_ifeqb (tgt := 118) F dX7_readCommand_99 (by decide) (fun c30 => ?_) (fun c30 => ?_)
          · have c30d := of_decide_eq_false c30
            have hq : rm7 f v wd 18 ≠ 0 := by assumption
            obtain ⟨eU, hx⟩ := rmd_8 (f := f) (v := v) (wd := wd) hc2.2 (by rw [e8]; exact hq)
            rw [e8] at eU
            have hSX : (scE X w27 y ∧ (rmV f v wd 18 = 0 → scR X w27 y (rmV f v wd) (rmS f v sc wd) wd)) := ⟨⟨_, _, _, _, _, _, _, _, _, _, ⟨ho26, ha21, har, htl, hop, hah⟩⟩, fun z => absurd z hx⟩
            refine h_iconst F dX7_readCommand_118 ?_
            refine h_top (show (0 : Int) = bz (decide (rmV f v wd 18 = 0)) from by first | exact bzt (decide_eq_true hx) | exact bzf (decide_eq_false hx) | exact congrArg bz hdd) ?_
            exact h_iretz F hr hlk hW hS ⟨⟨_, by rw [eU]; exact hrd⟩, hSX, (fun q h09 h19 => by rw [hn29 q (by omega) (by omega), hn25 q (by omega), hn22 q (by omega) (by omega), hn16 q (by omega), hn10 q (by omega)])⟩ dX7_readCommand_119
          · have c30d := of_decide_eq_true c30
            have hl7 : rm7 f v wd 18 = 0 := by assumption
            have hM9 : rm9 f v wd 11 = N := hM8
            have hl9 : rm9 f v wd 18 = 0 := by (show rm8 f v wd 18 = 0; rw [e8]; exact hl7)
            have eX : rmV f v wd = muV f (isSR f (rm9 f v wd) 59) (rm9 f v wd) := by unfold rmV; rw [if_pos hc2.2, if_pos (show rm8 f v wd 18 = 0 from hl9)]; unfold rmX; rw [if_neg (by omega)]
            refine lv_aload_n F.1 F.2.1 dX7_readCommand_102 rfl (lv_at hl 1 rfl) ?_
            have hX31 : w27 (y + 311) = some (.inr (6, rL (y + 307) (cR f N (rm9 f v wd) m7))) := by rw [show rL (y + 307) (cR f N (rm9 f v wd) m7) = rL (y + 307) (cR f N (rm7 f v wd) m7) from (by rw [← e8]; exact rL_eq (c7 rfl rfl rfl rfl rfl rfl rfl))]; exact hrd
            refine gf_RX7_27 F hW ho26 rfl dX7_readCommand_103 ?_
            refine h_bipush F dX7_readCommand_106 rfl ?_
            refine cl_RX7_97 (As := [.int (iI 59)]) (rest := []) F hl (k_takeMark l X w27 (y + 311) (y + 307) (y + 308) N f (rm9 f v wd) m7 59 hX31 hB hT hp9 hM9 (by omega) hl9 (by omega)) hW hS hX31 rfl rfl ⟨Nat.le_of_ble_eq_true rfl, Nat.le_of_ble_eq_true rfl⟩ (Nat.le_of_ble_eq_true rfl) ⟨Nat.zero_le _, Nat.zero_le _⟩ dX7_readCommand_108 (fun w32 H locs hp33 hW hS => ?_)
            obtain ⟨ho34, hn35⟩ := hp33
            have hB := (hn35 _ (by omega)).trans hB
            have ho26 := (hn35 _ (by omega)).trans ho26
            have hT := (hn35 _ (by omega)).trans hT
            have ha21 := (hn35 _ (by omega)).trans ha21
            have htl := (hn35 _ (by omega)).trans htl
            have hop := (hn35 _ (by omega)).trans hop
            have hah := (hn35 _ (by omega)).trans hah
            have har := (hn35 _ (by omega)).trans har
            have hX36 : w32 (y + 311) = some (.inr (6, rL (y + 307) (cR f N (rmV f v wd) m7))) := by rw [show (rmV f v wd : Int → Int) = muV f (isSR f (rm9 f v wd) 59) (rm9 f v wd) from eX]; exact ho34
            refine h_ifeqb (tgt := 118) F dX7_readCommand_111 (by decide) (fun c37 => ?_) (fun c37 => ?_)
            · have hx : rmV f v wd 18 ≠ 0 := by rw [eX, ‹isSR f (rm9 f v wd) 59 = false›, mu_f hl9]; exact fa_ne (by decide)
              have eU : rmV f v wd = rmV f v wd := rfl
              have hSX : (scE X w32 y ∧ (rmV f v wd 18 = 0 → scR X w32 y (rmV f v wd) (rmS f v sc wd) wd)) := ⟨⟨_, _, _, _, _, _, _, _, _, _, ⟨ho26, ha21, har, htl, hop, hah⟩⟩, fun z => absurd z hx⟩
              refine h_iconst F dX7_readCommand_118 ?_
              refine h_top (show (0 : Int) = bz (decide (rmV f v wd 18 = 0)) from by first | exact bzt (decide_eq_true hx) | exact bzf (decide_eq_false hx) | exact congrArg bz hdd) ?_
              exact h_iretz F hr hlk hW hS ⟨⟨_, by rw [eU]; exact hX36⟩, hSX, (fun q h09 h19 => by rw [hn35 q (by omega), hn29 q (by omega) (by omega), hn25 q (by omega), hn22 q (by omega) (by omega), hn16 q (by omega), hn10 q (by omega)])⟩ dX7_readCommand_119
            · have hx : rmV f v wd 18 = 0 := by rw [eX, ‹isSR f (rm9 f v wd) 59 = true›, mu_t hl9, go_n (by decide)]; exact hl9
              have eU : rmV f v wd = rmV f v wd := rfl
              rw [hae hl7] at har
              have hSX : (scE X w32 y ∧ (rmV f v wd 18 = 0 → scR X w32 y (rmV f v wd) (rmS f v sc wd) wd)) := ⟨⟨_, _, _, _, _, _, _, _, _, _, ⟨ho26, ha21, har, htl, hop, hah⟩⟩, fun _ => rmc_a (X := X) (w := w32) hsi hc2.2 (by rw [e8]; exact hl7) (by omega) hwd9.1 hOp hac ⟨ho26, ha21, har, htl, hop, hah⟩⟩
              refine h_iconst F dX7_readCommand_114 ?_
              refine h_goto (tgt := 119) F dX7_readCommand_115 (by decide) ?_
              refine h_top (show (1 : Int) = bz (decide (rmV f v wd 18 = 0)) from by first | exact bzt (decide_eq_true hx) | exact bzf (decide_eq_false hx) | exact congrArg bz hdd) ?_
              exact h_iretz F hr hlk hW hS ⟨⟨_, by rw [eU]; exact hX36⟩, hSX, (fun q h09 h19 => by rw [hn35 q (by omega), hn29 q (by omega) (by omega), hn25 q (by omega), hn22 q (by omega) (by omega), hn16 q (by omega), hn10 q (by omega)])⟩ dX7_readCommand_119
        · refine lv_aload_n F.1 F.2.1 dX7_readCommand_78 rfl (lv_at hl 1 rfl) ?_
          have hSO9 : scO X w18 y (v 27 + 1) (v 28 + 1) ac (v 29) pr (up kd (v 27) (cmR f v)) ar tl op ah := ⟨ho20, ha21, har, htl, hop, hah⟩
          refine cl_RX7_90 (As := []) (rest := []) F hl (c_X7_readRepeat l X w18 y N num f v wd (v 27 + 1) (v 28 + 1) ac (v 29) pr (up kd (v 27) (cmR f v)) ar tl op ah hX17 hB hT hvp hN hSO9 hl3 (by omega) (by omega) (by omega) (by omega)) hW hS ho20 rfl rfl ⟨Nat.le_of_ble_eq_true rfl, Nat.le_of_ble_eq_true rfl⟩ (Nat.le_of_ble_eq_true rfl) ⟨Nat.zero_le _, Nat.zero_le _⟩ dX7_readCommand_79 (fun w38 H locs hp39 hW hS => ?_)
          obtain ⟨hRL, hS9, hn40⟩ := hp39
          have hB := (hn40 _ (by omega) (by omega) (by omega) (by omega) (by omega)).trans hB
          have hT := (hn40 _ (by omega) (by omega) (by omega) (by omega) (by omega)).trans hT
          have ha21 := (hn40 _ (by omega) (by omega) (by omega) (by omega) (by omega)).trans ha21
          have htl := (hn40 _ (by omega) (by omega) (by omega) (by omega) (by omega)).trans htl
          obtain ⟨m7, hrd⟩ := hRL
          obtain ⟨dp9, ar9, op9, ah9, hS8, hs9⟩ := hS9
          have hdd : decide (rm8 f v wd 18 = 0) = decide (rmV f v wd 18 = 0) := rmd_5 hc2.2 (by omega)
          have eU : ∀ m, rL (y + 307) (cR f N (rmV f v wd) m) = rL (y + 307) (cR f N (rm8 f v wd) m) := fun m => rmr_5 hc2.2 (by omega)
          have hSX : (scE X w38 y ∧ (rmV f v wd 18 = 0 → scR X w38 y (rmV f v wd) (rmS f v sc wd) wd)) := ⟨⟨_, _, _, _, _, _, _, _, _, _, hS8⟩, fun z => rmc_5 (X := X) (w := w38) hsi hc2.2 (of_decide_eq_true (hdd.trans (decide_eq_true z))) (by omega) hOp hac hS8 (hs9 (of_decide_eq_true (hdd.trans (decide_eq_true z))))⟩
          refine h_top (show (bz (decide (rm8 f v wd 18 = 0)) : Int) = bz (decide (rmV f v wd 18 = 0)) from by first | exact bzt (decide_eq_true hx) | exact bzf (decide_eq_false hx) | exact congrArg bz hdd) ?_
          exact h_iretz F hr hlk hW hS ⟨⟨_, by rw [eU]; exact hrd⟩, hSX, (fun q h09 h19 => by rw [hn40 q (by omega) (by omega) (by omega) (by omega) (by omega), hn22 q (by omega) (by omega), hn16 q (by omega), hn10 q (by omega)])⟩ dX7_readCommand_82
      · refine lv_aload_n F.1 F.2.1 dX7_readCommand_33 rfl (lv_at hl 1 rfl) ?_
        refine gf_RX7_41 F hW hSc rfl dX7_readCommand_34 ?_
        refine h_iconst F dX7_readCommand_37 ?_
        refine h_iclt (tgt := 51) F dX7_readCommand_38 (by decide) (by omega) (fun c41 => ?_) (fun c41 => ?_)
        · have hc2 : rm2 f v = v ∧ rm2 f v 18 = 0 := rm2_1 hlv (by omega) (by omega) (by omega)
          have e3 : rm3 f v = goV f (up v 28 (v 28 + 1)) := by unfold rm3; rw [hc2.1]
          have hl3 : rm3 f v 18 = 0 := by rw [e3, go_n (by decide)]; exact hlv
          have hp28 : vP f (up v 28 (v 28 + 1)) := hvp.fld rfl rfl rfl rfl rfl rfl
          refine lv_aload_n F.1 F.2.1 dX7_readCommand_51 rfl (lv_at hl 1 rfl) ?_
          refine lv_dup F.1 F.2.1 dX7_readCommand_52 rfl ?_
          refine gf_RX7_35 F hW hSc rfl dX7_readCommand_53 ?_
          refine h_iconst F dX7_readCommand_56 ?_
          refine h_iadd (a := v 28) (b := 1) F dX7_readCommand_57 ?_
          refine pf_RX7_35 F hW hS hSc (Nat.le_of_ble_eq_true rfl) dX7_readCommand_58 (fun w42 H locs ho44 hn43 hW hS => ?_)
          have ho44 : w42 (y + 315) = some (.inr (7, [.ref (y + 311), .ref (y + 316), .ref (y + 317), .ref (y + 318), .int (iI (v 27)), .int (iI ((v 28) + 1)), .int (iI ac), .ref (y + 319), .ref (y + 320), .int (iI (v 29)), .int (iI pr)])) := ho44
          have hR := (hn43 _ (by omega)).trans hR
          have hB := (hn43 _ (by omega)).trans hB
          have hT := (hn43 _ (by omega)).trans hT
          have hkd := (hn43 _ (by omega)).trans hkd
          have har := (hn43 _ (by omega)).trans har
          have htl := (hn43 _ (by omega)).trans htl
          have hop := (hn43 _ (by omega)).trans hop
          have hah := (hn43 _ (by omega)).trans hah
          refine lv_aload_n F.1 F.2.1 dX7_readCommand_61 rfl (lv_at hl 1 rfl) ?_
          have hX45 : w42 (y + 311) = some (.inr (6, rL (y + 307) (cR f N (up v 28 (v 28 + 1)) num))) := by rw [show rL (y + 307) (cR f N (up v 28 (v 28 + 1)) num) = rL (y + 307) (cR f N v num) from rL_eq (c7 rfl rfl rfl rfl rfl rfl rfl)]; exact hR
          refine gf_RX7_27 F hW ho44 rfl dX7_readCommand_62 ?_
          refine cl_RX7_83 (As := []) (rest := []) F hl (k_step l X w42 (y + 311) (y + 307) (y + 308) N f (up v 28 (v 28 + 1)) num hX45 hB hT hp28 hN (by omega)) hW hS hX45 rfl rfl ⟨Nat.le_of_ble_eq_true rfl, Nat.le_of_ble_eq_true rfl⟩ (Nat.le_of_ble_eq_true rfl) ⟨Nat.zero_le _, Nat.zero_le _⟩ dX7_readCommand_65 (fun w46 H locs hp47 hW hS => ?_)
          obtain ⟨ho48, hn49⟩ := hp47
          have hB := (hn49 _ (by omega)).trans hB
          have ho44 := (hn49 _ (by omega)).trans ho44
          have hT := (hn49 _ (by omega)).trans hT
          have hkd := (hn49 _ (by omega)).trans hkd
          have har := (hn49 _ (by omega)).trans har
          have htl := (hn49 _ (by omega)).trans htl
          have hop := (hn49 _ (by omega)).trans hop
          have hah := (hn49 _ (by omega)).trans hah
          have hX50 : w46 (y + 311) = some (.inr (6, rL (y + 307) (cR f N (rm3 f v) num))) := by rw [show (rm3 f v : Int → Int) = goV f (up v 28 (v 28 + 1)) from e3]; exact ho48
          refine lv_aload_n F.1 F.2.1 dX7_readCommand_68 rfl (lv_at hl 1 rfl) ?_
          refine lv_iload_n F.1 F.2.1 dX7_readCommand_69 rfl (lv_at hl 0 rfl) ?_
          refine cl_RX7_86 (As := [.int (iI (cmR f v))]) (rest := []) F hl (c_X7_addStep l X w46 y (v 27) ((v 28) + 1) ac (v 29) pr kd (cmR f v) ho44 hkd (by omega)) hW hS ho44 rfl rfl ⟨Nat.le_of_ble_eq_true rfl, Nat.le_of_ble_eq_true rfl⟩ (Nat.le_of_ble_eq_true rfl) ⟨Nat.zero_le _, Nat.zero_le _⟩ dX7_readCommand_70 (fun w51 H locs hp52 hW hS => ?_)
          obtain ⟨ho53, ha54, hn55⟩ := hp52
          have hX50 := (hn55 _ (by omega) (by omega)).trans hX50
          have hB := (hn55 _ (by omega) (by omega)).trans hB
          have hT := (hn55 _ (by omega) (by omega)).trans hT
          have har := (hn55 _ (by omega) (by omega)).trans har
          have htl := (hn55 _ (by omega) (by omega)).trans htl
          have hop := (hn55 _ (by omega) (by omega)).trans hop
          have hah := (hn55 _ (by omega) (by omega)).trans hah
          refine lv_iload_n F.1 F.2.1 dX7_readCommand_73 rfl (lv_at hl 0 rfl) ?_
          refine h_iconst F dX7_readCommand_74 ?_
          refine h_icne (tgt := 83) F dX7_readCommand_75 (by decide) (by omega) (fun c56 => ?_) (fun c56 => ?_)
          · refine lv_aload_n F.1 F.2.1 dX7_readCommand_83 rfl (lv_at hl 1 rfl) ?_
            refine lv_dup F.1 F.2.1 dX7_readCommand_84 rfl ?_
            refine gf_RX7_38 F hW ho53 rfl dX7_readCommand_85 ?_
            refine h_iconst F dX7_readCommand_88 ?_
            refine h_iadd (a := ac) (b := 1) F dX7_readCommand_89 ?_
            refine pf_RX7_38 F hW hS ho53 (Nat.le_of_ble_eq_true rfl) dX7_readCommand_90 (fun w57 H locs ho59 hn58 hW hS => ?_)
            have ho59 : w57 (y + 315) = some (.inr (7, [.ref (y + 311), .ref (y + 316), .ref (y + 317), .ref (y + 318), .int (iI ((v 27) + 1)), .int (iI ((v 28) + 1)), .int (iI (ac + 1)), .ref (y + 319), .ref (y + 320), .int (iI (v 29)), .int (iI pr)])) := ho59
            have hX50 := (hn58 _ (by omega)).trans hX50
            have hB := (hn58 _ (by omega)).trans hB
            have hT := (hn58 _ (by omega)).trans hT
            have ha54 := (hn58 _ (by omega)).trans ha54
            have har := (hn58 _ (by omega)).trans har
            have htl := (hn58 _ (by omega)).trans htl
            have hop := (hn58 _ (by omega)).trans hop
            have hah := (hn58 _ (by omega)).trans hah
            refine lv_aload_n F.1 F.2.1 dX7_readCommand_93 rfl (lv_at hl 1 rfl) ?_
            refine lv_iload_n F.1 F.2.1 dX7_readCommand_94 rfl (lv_at hl 0 rfl) ?_
            refine lv_iload_n F.1 F.2.1 dX7_readCommand_95 rfl (lv_at hl 2 rfl) ?_
            refine cl_RX7_93 (As := [.int (iI (cmR f v)), .int (iI wd)]) (rest := []) F hl (c_X7_readArguments l X w57 y N num f v wd ((v 27) + 1) ((v 28) + 1) (ac + 1) (v 29) pr ar hX50 hB hT hvp hN ho59 har hl3 (by omega) (by omega) (by omega)) hW hS ho59 rfl rfl ⟨Nat.le_of_ble_eq_true rfl, Nat.le_of_ble_eq_true rfl⟩ (Nat.le_of_ble_eq_true rfl) ⟨Nat.zero_le _, Nat.zero_le _⟩ dX7_readCommand_96 (fun w60 H locs hp61 hW hS => ?_)
            obtain ⟨hRL, hA9, hn62⟩ := hp61
            have hB := (hn62 _ (by omega) (by omega)).trans hB
            have ho59 := (hn62 _ (by omega) (by omega)).trans ho59
            have hT := (hn62 _ (by omega) (by omega)).trans hT
            have ha54 := (hn62 _ (by omega) (by omega)).trans ha54
            have htl := (hn62 _ (by omega) (by omega)).trans htl
            have hop := (hn62 _ (by omega) (by omega)).trans hop
            have hah := (hn62 _ (by omega) (by omega)).trans hah
            obtain ⟨m7, hrd⟩ := hRL
            obtain ⟨ar9, har, hae⟩ := hA9
            have e8 : rm8 f v wd = rm7 f v wd := if_neg (by omega)
            refine h_ifeqb (tgt := 118) F dX7_readCommand_99 (by decide) (fun c63 => ?_) (fun c63 => ?_)
            · have c63d := of_decide_eq_false c63
              have hq : rm7 f v wd 18 ≠ 0 := by assumption
              obtain ⟨eU, hx⟩ := rmd_8 (f := f) (v := v) (wd := wd) hc2.2 (by rw [e8]; exact hq)
              rw [e8] at eU
              have hSX : (scE X w60 y ∧ (rmV f v wd 18 = 0 → scR X w60 y (rmV f v wd) (rmS f v sc wd) wd)) := ⟨⟨_, _, _, _, _, _, _, _, _, _, ⟨ho59, ha54, har, htl, hop, hah⟩⟩, fun z => absurd z hx⟩
              refine h_iconst F dX7_readCommand_118 ?_
              refine h_top (show (0 : Int) = bz (decide (rmV f v wd 18 = 0)) from by first | exact bzt (decide_eq_true hx) | exact bzf (decide_eq_false hx) | exact congrArg bz hdd) ?_
              exact h_iretz F hr hlk hW hS ⟨⟨_, by rw [eU]; exact hrd⟩, hSX, (fun q h09 h19 => by rw [hn62 q (by omega) (by omega), hn58 q (by omega), hn55 q (by omega) (by omega), hn49 q (by omega), hn43 q (by omega)])⟩ dX7_readCommand_119
            · have c63d := of_decide_eq_true c63
              have hl7 : rm7 f v wd 18 = 0 := by assumption
              have hM9 : rm9 f v wd 11 = N := hM8
              have hl9 : rm9 f v wd 18 = 0 := by (show rm8 f v wd 18 = 0; rw [e8]; exact hl7)
              have eX : rmV f v wd = muV f (isSR f (rm9 f v wd) 59) (rm9 f v wd) := by unfold rmV; rw [if_pos hc2.2, if_pos (show rm8 f v wd 18 = 0 from hl9)]; unfold rmX; rw [if_neg (by omega)]
              refine lv_aload_n F.1 F.2.1 dX7_readCommand_102 rfl (lv_at hl 1 rfl) ?_
              have hX64 : w60 (y + 311) = some (.inr (6, rL (y + 307) (cR f N (rm9 f v wd) m7))) := by rw [show rL (y + 307) (cR f N (rm9 f v wd) m7) = rL (y + 307) (cR f N (rm7 f v wd) m7) from (by rw [← e8]; exact rL_eq (c7 rfl rfl rfl rfl rfl rfl rfl))]; exact hrd
              refine gf_RX7_27 F hW ho59 rfl dX7_readCommand_103 ?_
              refine h_bipush F dX7_readCommand_106 rfl ?_
              refine cl_RX7_97 (As := [.int (iI 59)]) (rest := []) F hl (k_takeMark l X w60 (y + 311) (y + 307) (y + 308) N f (rm9 f v wd) m7 59 hX64 hB hT hp9 hM9 (by omega) hl9 (by omega)) hW hS hX64 rfl rfl ⟨Nat.le_of_ble_eq_true rfl, Nat.le_of_ble_eq_true rfl⟩ (Nat.le_of_ble_eq_true rfl) ⟨Nat.zero_le _, Nat.zero_le _⟩ dX7_readCommand_108 (fun w65 H locs hp66 hW hS => ?_)
              obtain ⟨ho67, hn68⟩ := hp66
              have hB := (hn68 _ (by omega)).trans hB
              have ho59 := (hn68 _ (by omega)).trans ho59
              have hT := (hn68 _ (by omega)).trans hT
              have ha54 := (hn68 _ (by omega)).trans ha54
              have htl := (hn68 _ (by omega)).trans htl
              have hop := (hn68 _ (by omega)).trans hop
              have hah := (hn68 _ (by omega)).trans hah
              have har := (hn68 _ (by omega)).trans har
              have hX69 : w65 (y + 311) = some (.inr (6, rL (y + 307) (cR f N (rmV f v wd) m7))) := by rw [show (rmV f v wd : Int → Int) = muV f (isSR f (rm9 f v wd) 59) (rm9 f v wd) from eX]; exact ho67
              refine h_ifeqb (tgt := 118) F dX7_readCommand_111 (by decide) (fun c70 => ?_) (fun c70 => ?_)
              · have hx : rmV f v wd 18 ≠ 0 := by rw [eX, ‹isSR f (rm9 f v wd) 59 = false›, mu_f hl9]; exact fa_ne (by decide)
                have eU : rmV f v wd = rmV f v wd := rfl
                have hSX : (scE X w65 y ∧ (rmV f v wd 18 = 0 → scR X w65 y (rmV f v wd) (rmS f v sc wd) wd)) := ⟨⟨_, _, _, _, _, _, _, _, _, _, ⟨ho59, ha54, har, htl, hop, hah⟩⟩, fun z => absurd z hx⟩
                refine h_iconst F dX7_readCommand_118 ?_
                refine h_top (show (0 : Int) = bz (decide (rmV f v wd 18 = 0)) from by first | exact bzt (decide_eq_true hx) | exact bzf (decide_eq_false hx) | exact congrArg bz hdd) ?_
                exact h_iretz F hr hlk hW hS ⟨⟨_, by rw [eU]; exact hX69⟩, hSX, (fun q h09 h19 => by rw [hn68 q (by omega), hn62 q (by omega) (by omega), hn58 q (by omega), hn55 q (by omega) (by omega), hn49 q (by omega), hn43 q (by omega)])⟩ dX7_readCommand_119
              · have hx : rmV f v wd 18 = 0 := by rw [eX, ‹isSR f (rm9 f v wd) 59 = true›, mu_t hl9, go_n (by decide)]; exact hl9
                have eU : rmV f v wd = rmV f v wd := rfl
                rw [hae hl7] at har
                have hSX : (scE X w65 y ∧ (rmV f v wd 18 = 0 → scR X w65 y (rmV f v wd) (rmS f v sc wd) wd)) := ⟨⟨_, _, _, _, _, _, _, _, _, _, ⟨ho59, ha54, har, htl, hop, hah⟩⟩, fun _ => rmc_a (X := X) (w := w65) hsi hc2.2 (by rw [e8]; exact hl7) (by omega) hwd9.1 hOp hac ⟨ho59, ha54, har, htl, hop, hah⟩⟩
                refine h_iconst F dX7_readCommand_114 ?_
                refine h_goto (tgt := 119) F dX7_readCommand_115 (by decide) ?_
                refine h_top (show (1 : Int) = bz (decide (rmV f v wd 18 = 0)) from by first | exact bzt (decide_eq_true hx) | exact bzf (decide_eq_false hx) | exact congrArg bz hdd) ?_
                exact h_iretz F hr hlk hW hS ⟨⟨_, by rw [eU]; exact hX69⟩, hSX, (fun q h09 h19 => by rw [hn68 q (by omega), hn62 q (by omega) (by omega), hn58 q (by omega), hn55 q (by omega) (by omega), hn49 q (by omega), hn43 q (by omega)])⟩ dX7_readCommand_119
          · refine lv_aload_n F.1 F.2.1 dX7_readCommand_78 rfl (lv_at hl 1 rfl) ?_
            have hSO9 : scO X w51 y (v 27 + 1) (v 28 + 1) ac (v 29) pr (up kd (v 27) (cmR f v)) ar tl op ah := ⟨ho53, ha54, har, htl, hop, hah⟩
            refine cl_RX7_90 (As := []) (rest := []) F hl (c_X7_readRepeat l X w51 y N num f v wd (v 27 + 1) (v 28 + 1) ac (v 29) pr (up kd (v 27) (cmR f v)) ar tl op ah hX50 hB hT hvp hN hSO9 hl3 (by omega) (by omega) (by omega) (by omega)) hW hS ho53 rfl rfl ⟨Nat.le_of_ble_eq_true rfl, Nat.le_of_ble_eq_true rfl⟩ (Nat.le_of_ble_eq_true rfl) ⟨Nat.zero_le _, Nat.zero_le _⟩ dX7_readCommand_79 (fun w71 H locs hp72 hW hS => ?_)
            obtain ⟨hRL, hS9, hn73⟩ := hp72
            have hB := (hn73 _ (by omega) (by omega) (by omega) (by omega) (by omega)).trans hB
            have hT := (hn73 _ (by omega) (by omega) (by omega) (by omega) (by omega)).trans hT
            have ha54 := (hn73 _ (by omega) (by omega) (by omega) (by omega) (by omega)).trans ha54
            have htl := (hn73 _ (by omega) (by omega) (by omega) (by omega) (by omega)).trans htl
            obtain ⟨m7, hrd⟩ := hRL
            obtain ⟨dp9, ar9, op9, ah9, hS8, hs9⟩ := hS9
            have hdd : decide (rm8 f v wd 18 = 0) = decide (rmV f v wd 18 = 0) := rmd_5 hc2.2 (by omega)
            have eU : ∀ m, rL (y + 307) (cR f N (rmV f v wd) m) = rL (y + 307) (cR f N (rm8 f v wd) m) := fun m => rmr_5 hc2.2 (by omega)
            have hSX : (scE X w71 y ∧ (rmV f v wd 18 = 0 → scR X w71 y (rmV f v wd) (rmS f v sc wd) wd)) := ⟨⟨_, _, _, _, _, _, _, _, _, _, hS8⟩, fun z => rmc_5 (X := X) (w := w71) hsi hc2.2 (of_decide_eq_true (hdd.trans (decide_eq_true z))) (by omega) hOp hac hS8 (hs9 (of_decide_eq_true (hdd.trans (decide_eq_true z))))⟩
            refine h_top (show (bz (decide (rm8 f v wd 18 = 0)) : Int) = bz (decide (rmV f v wd 18 = 0)) from by first | exact bzt (decide_eq_true hx) | exact bzf (decide_eq_false hx) | exact congrArg bz hdd) ?_
            exact h_iretz F hr hlk hW hS ⟨⟨_, by rw [eU]; exact hrd⟩, hSX, (fun q h09 h19 => by rw [hn73 q (by omega) (by omega) (by omega) (by omega) (by omega), hn55 q (by omega) (by omega), hn49 q (by omega), hn43 q (by omega)])⟩ dX7_readCommand_82
        · refine lv_aload_n F.1 F.2.1 dX7_readCommand_41 rfl (lv_at hl 1 rfl) ?_
          refine gf_RX7_27 F hW hSc rfl dX7_readCommand_42 ?_
          refine h_bipush F dX7_readCommand_45 rfl ?_
          refine cl_RX7_60 (As := [.int (iI 6)]) (rest := []) F hl (k_fail l X w (y + 311) (y + 307) (y + 308) N f v num 6 hR hB hT hvp hN (by omega) hlv) hW hS hR rfl rfl ⟨Nat.le_of_ble_eq_true rfl, Nat.le_of_ble_eq_true rfl⟩ (Nat.le_of_ble_eq_true rfl) ⟨Nat.zero_le _, Nat.zero_le _⟩ dX7_readCommand_47 (fun w74 H locs hp75 hW hS => ?_)
          obtain ⟨ho76, hn77⟩ := hp75
          have hB := (hn77 _ (by omega)).trans hB
          have hSc := (hn77 _ (by omega)).trans hSc
          have hT := (hn77 _ (by omega)).trans hT
          have hkd := (hn77 _ (by omega)).trans hkd
          have har := (hn77 _ (by omega)).trans har
          have htl := (hn77 _ (by omega)).trans htl
          have hop := (hn77 _ (by omega)).trans hop
          have hah := (hn77 _ (by omega)).trans hah
          obtain ⟨eU, hx⟩ := rmd_2 (f := f) (v := v) (wd := wd) hlv (by omega) (by omega)
          have hSX : (scE X w74 y ∧ (rmV f v wd 18 = 0 → scR X w74 y (rmV f v wd) (rmS f v sc wd) wd)) := ⟨⟨_, _, _, _, _, _, _, _, _, _, ⟨hSc, hkd, har, htl, hop, hah⟩⟩, fun z => absurd z hx⟩
          refine h_top (show (bz false : Int) = bz (decide (rmV f v wd 18 = 0)) from by first | exact bzt (decide_eq_true hx) | exact bzf (decide_eq_false hx) | exact congrArg bz hdd) ?_
          exact h_iretz F hr hlk hW hS ⟨⟨_, by rw [eU]; exact ho76⟩, hSX, (fun q h09 h19 => by rw [hn77 q (by omega)])⟩ dX7_readCommand_50
  · refine lv_aload_n F.1 F.2.1 dX7_readCommand_10 rfl (lv_at hl 1 rfl) ?_
    refine gf_RX7_27 F hW hSc rfl dX7_readCommand_11 ?_
    refine h_iconst F dX7_readCommand_14 ?_
    refine cl_RX7_60 (As := [.int (iI 1)]) (rest := []) F hl (k_fail l X w (y + 311) (y + 307) (y + 308) N f v num 1 hR hB hT hvp hN (by omega) hlv) hW hS hR rfl rfl ⟨Nat.le_of_ble_eq_true rfl, Nat.le_of_ble_eq_true rfl⟩ (Nat.le_of_ble_eq_true rfl) ⟨Nat.zero_le _, Nat.zero_le _⟩ dX7_readCommand_15 (fun w78 H locs hp79 hW hS => ?_)
    obtain ⟨ho80, hn81⟩ := hp79
    have hB := (hn81 _ (by omega)).trans hB
    have hSc := (hn81 _ (by omega)).trans hSc
    have hT := (hn81 _ (by omega)).trans hT
    have hkd := (hn81 _ (by omega)).trans hkd
    have har := (hn81 _ (by omega)).trans har
    have htl := (hn81 _ (by omega)).trans htl
    have hop := (hn81 _ (by omega)).trans hop
    have hah := (hn81 _ (by omega)).trans hah
    obtain ⟨eU, hx⟩ := rmd_1 (f := f) (v := v) (wd := wd) (by omega)
    have hSX : (scE X w78 y ∧ (rmV f v wd 18 = 0 → scR X w78 y (rmV f v wd) (rmS f v sc wd) wd)) := ⟨⟨_, _, _, _, _, _, _, _, _, _, ⟨hSc, hkd, har, htl, hop, hah⟩⟩, fun z => absurd z hx⟩
    refine h_top (show (bz false : Int) = bz (decide (rmV f v wd 18 = 0)) from by first | exact bzt (decide_eq_true hx) | exact bzf (decide_eq_false hx) | exact congrArg bz hdd) ?_
    exact h_iretz F hr hlk hW hS ⟨⟨_, by rw [eU]; exact ho80⟩, hSX, (fun q h09 h19 => by rw [hn81 q (by omega)])⟩ dX7_readCommand_18
set_option maxHeartbeats 4000000 in
set_option maxRecDepth 100000 in
theorem c_X7_readClose (l : Launch) (X : Cx) (w : Wo) (y : Nat) (N num : Int) (f v sc : Int → Int) (wd : Int) (hR : w (y + 311) = some (.inr (6, rL (y + 307) (cR f N v num)))) (hB : w (y + 307) = some (.inr (0, [.ref (y + 308), .int (iI N)]))) (hT : w (y + 308) = some (aZ X 400 f)) (hN : v 11 = N) (hsi : sI f v) (hsr : scR X w y v sc wd) (hlv : v 18 = 0) (hcl : 0 < v 29) : CM l X yX7_readClose cX7_readClose 2 (some (.boolean)) (rmk 3 66) [.ref (y + 315)] w (some (.int (iI (bz (decide (clV f v 18 = 0)))))) (fun w' => (∃ m : Int, w' (y + 311) = some (.inr (6, rL (y + 307) (cR f N (clV f v) m)))) ∧ (scE X w' y ∧ (clV f v 18 = 0 → scR X w' y (clV f v) (laS sc (v 27) 6 0 0 0) wd)) ∧ ∀ q : Nat, q ≠ y + 311 → (q < y + 315 ∨ y + 321 ≤ q) → w' q = w q) := by
  refine CM.of (lv := [(0, .ref (y + 315))]) (by decide) (Nat.le_of_ble_eq_true rfl) rfl (fun p e s m below meth c ls F hr hlk hin hW hS hl => ?_)
  have hZ0 := hW.2.2
  have hB9 := hW.1.2
  clear hin
  have hvp := hsi.1
  have hsi2 := hsi.2
  obtain ⟨ac, pr, kd, ar, tl, op, ah, ⟨hSc, hkd, har, htl, hop, hah⟩, hOp, hac⟩ := hsr
  have hol := hOp.le
  obtain ⟨hoo, hke⟩ := op_in hOp (by omega)
  have hah9 := hoo.2
  have hp1 := cl1_P hvp
  have hM1 : cl1 v 11 = N := hN
  have hp2 := cl2_P hvp
  have hM2 : cl2 f v 11 = N := (go_n (by decide)).trans hN
  have hl2 : cl2 f v 18 = 0 := (go_n (by decide)).trans hlv
  refine lv_aload_n F.1 F.2.1 dX7_readClose_0 rfl (lv_at hl 0 rfl) ?_
  refine lv_dup F.1 F.2.1 dX7_readClose_1 rfl ?_
  refine gf_RX7_41 F hW hSc rfl dX7_readClose_2 ?_
  refine h_iconst F dX7_readClose_5 ?_
  refine h_isub (a := v 29) (b := 1) F dX7_readClose_6 ?_
  refine pf_RX7_41 F hW hS hSc (Nat.le_of_ble_eq_true rfl) dX7_readClose_7 (fun w1 H locs ho3 hn2 hW hS => ?_)
  have ho3 : w1 (y + 315) = some (.inr (7, [.ref (y + 311), .ref (y + 316), .ref (y + 317), .ref (y + 318), .int (iI (v 27)), .int (iI (v 28)), .int (iI ac), .ref (y + 319), .ref (y + 320), .int (iI ((v 29) - 1)), .int (iI pr)])) := ho3
  have hR := (hn2 _ (by omega)).trans hR
  have hB := (hn2 _ (by omega)).trans hB
  have hT := (hn2 _ (by omega)).trans hT
  have hkd := (hn2 _ (by omega)).trans hkd
  have har := (hn2 _ (by omega)).trans har
  have htl := (hn2 _ (by omega)).trans htl
  have hop := (hn2 _ (by omega)).trans hop
  have hah := (hn2 _ (by omega)).trans hah
  refine lv_aload_n F.1 F.2.1 dX7_readClose_10 rfl (lv_at hl 0 rfl) ?_
  refine gf_RX7_21 F hW ho3 rfl dX7_readClose_11 ?_
  refine lv_aload_n F.1 F.2.1 dX7_readClose_14 rfl (lv_at hl 0 rfl) ?_
  refine gf_RX7_41 F hW ho3 rfl dX7_readClose_15 ?_
  refine cl_RX7_123 (As := [.ref (y + 319), .int (iI ((v 29) - 1))]) (rest := []) F hl (c_X8_at l X w1 (y + 319) 3 op ((v 29) - 1) hop (by omega) (by omega)) hW hS rfl rfl ⟨Nat.le_of_ble_eq_true rfl, Nat.le_of_ble_eq_true rfl⟩ (Nat.le_of_ble_eq_true rfl) ⟨Nat.zero_le _, Nat.zero_le _⟩ dX7_readClose_18 (fun w1 H locs hp4 hW hS => ?_)
  rw [hp4] at hW; clear hp4; clear w1
  refine lv_istore_n (lv' := [(1, .int (iI (op ((v 29) - 1)))), (0, .ref (y + 315))]) F.1 F.2.1 dX7_readClose_21 rfl hl (by decide) rfl (fun ls hl => ?_)
  refine lv_aload_n F.1 F.2.1 dX7_readClose_22 rfl (lv_at hl 1 rfl) ?_
  refine lv_iload_n F.1 F.2.1 dX7_readClose_23 rfl (lv_at hl 0 rfl) ?_
  refine h_iconst F dX7_readClose_24 ?_
  refine lv_aload_n F.1 F.2.1 dX7_readClose_25 rfl (lv_at hl 1 rfl) ?_
  refine gf_RX7_31 F hW ho3 rfl dX7_readClose_26 ?_
  refine cl_RX7_117 (As := [.int (iI (op ((v 29) - 1))), .int (iI 1), .int (iI (v 27))]) (rest := []) F hl (c_X7_setArgument l X w1 y (v 27) (v 28) ac ((v 29) - 1) pr ar (op ((v 29) - 1)) 1 (v 27) ho3 har (by omega)) hW hS ho3 rfl rfl ⟨Nat.le_of_ble_eq_true rfl, Nat.le_of_ble_eq_true rfl⟩ (Nat.le_of_ble_eq_true rfl) ⟨Nat.zero_le _, Nat.zero_le _⟩ dX7_readClose_29 (fun w5 H locs hp6 hW hS => ?_)
  obtain ⟨ha7, hn8⟩ := hp6
  have hR := (hn8 _ (by omega)).trans hR
  have hB := (hn8 _ (by omega)).trans hB
  have ho3 := (hn8 _ (by omega)).trans ho3
  have hT := (hn8 _ (by omega)).trans hT
  have hkd := (hn8 _ (by omega)).trans hkd
  have htl := (hn8 _ (by omega)).trans htl
  have hop := (hn8 _ (by omega)).trans hop
  have hah := (hn8 _ (by omega)).trans hah
  refine lv_aload_n F.1 F.2.1 dX7_readClose_32 rfl (lv_at hl 1 rfl) ?_
  refine gf_RX7_38 F hW ho3 rfl dX7_readClose_33 ?_
  refine lv_aload_n F.1 F.2.1 dX7_readClose_36 rfl (lv_at hl 1 rfl) ?_
  refine gf_RX7_24 F hW ho3 rfl dX7_readClose_37 ?_
  refine lv_aload_n F.1 F.2.1 dX7_readClose_40 rfl (lv_at hl 1 rfl) ?_
  refine gf_RX7_41 F hW ho3 rfl dX7_readClose_41 ?_
  refine cl_RX7_123 (As := [.ref (y + 320), .int (iI ((v 29) - 1))]) (rest := [.int (iI ac)]) F hl (c_X8_at l X w5 (y + 320) 3 ah ((v 29) - 1) hah (by omega) (by omega)) hW hS rfl rfl ⟨Nat.le_of_ble_eq_true rfl, Nat.le_of_ble_eq_true rfl⟩ (Nat.le_of_ble_eq_true rfl) ⟨Nat.zero_le _, Nat.zero_le _⟩ dX7_readClose_44 (fun w1 H locs hp9 hW hS => ?_)
  rw [hp9] at hW; clear hp9; clear w1
  refine h_icne (tgt := 57) F dX7_readClose_47 (by decide) (by omega) (fun c10 => ?_) (fun c10 => ?_)
  · refine lv_aload_n F.1 F.2.1 dX7_readClose_57 rfl (lv_at hl 1 rfl) ?_
    refine h_bipush F dX7_readClose_58 rfl ?_
    refine cl_RX7_86 (As := [.int (iI 6)]) (rest := []) F hl (c_X7_addStep l X w5 y (v 27) (v 28) ac ((v 29) - 1) pr kd 6 ho3 hkd (by omega)) hW hS ho3 rfl rfl ⟨Nat.le_of_ble_eq_true rfl, Nat.le_of_ble_eq_true rfl⟩ (Nat.le_of_ble_eq_true rfl) ⟨Nat.zero_le _, Nat.zero_le _⟩ dX7_readClose_60 (fun w11 H locs hp12 hW hS => ?_)
    obtain ⟨ho13, ha14, hn15⟩ := hp12
    have hR := (hn15 _ (by omega) (by omega)).trans hR
    have hB := (hn15 _ (by omega) (by omega)).trans hB
    have hT := (hn15 _ (by omega) (by omega)).trans hT
    have ha7 := (hn15 _ (by omega) (by omega)).trans ha7
    have htl := (hn15 _ (by omega) (by omega)).trans htl
    have hop := (hn15 _ (by omega) (by omega)).trans hop
    have hah := (hn15 _ (by omega) (by omega)).trans hah
    refine lv_aload_n F.1 F.2.1 dX7_readClose_63 rfl (lv_at hl 1 rfl) ?_
    refine lv_aload_n F.1 F.2.1 dX7_readClose_64 rfl (lv_at hl 1 rfl) ?_
    refine gf_RX7_31 F hW ho13 rfl dX7_readClose_65 ?_
    refine h_iconst F dX7_readClose_68 ?_
    refine h_isub (a := (v 27) + 1) (b := 1) F dX7_readClose_69 ?_
    refine h_iconst F dX7_readClose_70 ?_
    refine lv_iload_n F.1 F.2.1 dX7_readClose_71 rfl (lv_at hl 0 rfl) ?_
    refine cl_RX7_117 (As := [.int (iI (((v 27) + 1) - 1)), .int (iI 0), .int (iI (op ((v 29) - 1)))]) (rest := []) F hl (c_X7_setArgument l X w11 y ((v 27) + 1) (v 28) ac ((v 29) - 1) pr (up ar (3 * (op ((v 29) - 1)) + 1) (v 27)) (((v 27) + 1) - 1) 0 (op ((v 29) - 1)) ho13 ha7 (by omega)) hW hS ho13 rfl rfl ⟨Nat.le_of_ble_eq_true rfl, Nat.le_of_ble_eq_true rfl⟩ (Nat.le_of_ble_eq_true rfl) ⟨Nat.zero_le _, Nat.zero_le _⟩ dX7_readClose_72 (fun w16 H locs hp17 hW hS => ?_)
    obtain ⟨ha18, hn19⟩ := hp17
    have hR := (hn19 _ (by omega)).trans hR
    have hB := (hn19 _ (by omega)).trans hB
    have ho13 := (hn19 _ (by omega)).trans ho13
    have hT := (hn19 _ (by omega)).trans hT
    have ha14 := (hn19 _ (by omega)).trans ha14
    have htl := (hn19 _ (by omega)).trans htl
    have hop := (hn19 _ (by omega)).trans hop
    have hah := (hn19 _ (by omega)).trans hah
    refine lv_aload_n F.1 F.2.1 dX7_readClose_75 rfl (lv_at hl 1 rfl) ?_
    have hX20 : w16 (y + 311) = some (.inr (6, rL (y + 307) (cR f N (cl1 v) num))) := by rw [show rL (y + 307) (cR f N (cl1 v) num) = rL (y + 307) (cR f N v num) from rL_eq (c7 rfl rfl rfl rfl rfl rfl rfl)]; exact hR
    refine gf_RX7_27 F hW ho13 rfl dX7_readClose_76 ?_
    refine cl_RX7_83 (As := []) (rest := []) F hl (k_step l X w16 (y + 311) (y + 307) (y + 308) N f (cl1 v) num hX20 hB hT hp1 hM1 (by omega)) hW hS hX20 rfl rfl ⟨Nat.le_of_ble_eq_true rfl, Nat.le_of_ble_eq_true rfl⟩ (Nat.le_of_ble_eq_true rfl) ⟨Nat.zero_le _, Nat.zero_le _⟩ dX7_readClose_79 (fun w21 H locs hp22 hW hS => ?_)
    obtain ⟨ho23, hn24⟩ := hp22
    have hB := (hn24 _ (by omega)).trans hB
    have ho13 := (hn24 _ (by omega)).trans ho13
    have hT := (hn24 _ (by omega)).trans hT
    have ha14 := (hn24 _ (by omega)).trans ha14
    have ha18 := (hn24 _ (by omega)).trans ha18
    have htl := (hn24 _ (by omega)).trans htl
    have hop := (hn24 _ (by omega)).trans hop
    have hah := (hn24 _ (by omega)).trans hah
    have hX25 : w21 (y + 311) = some (.inr (6, rL (y + 307) (cR f N (cl2 f v) num))) := by rw [show (cl2 f v : Int → Int) = goV f (cl1 v) from rfl]; exact ho23
    refine lv_aload_n F.1 F.2.1 dX7_readClose_82 rfl (lv_at hl 1 rfl) ?_
    refine gf_RX7_27 F hW ho13 rfl dX7_readClose_83 ?_
    refine h_bipush F dX7_readClose_86 rfl ?_
    refine cl_RX7_97 (As := [.int (iI 59)]) (rest := []) F hl (k_takeMark l X w21 (y + 311) (y + 307) (y + 308) N f (cl2 f v) num 59 hX25 hB hT hp2 hM2 (by omega) hl2 (by omega)) hW hS hX25 rfl rfl ⟨Nat.le_of_ble_eq_true rfl, Nat.le_of_ble_eq_true rfl⟩ (Nat.le_of_ble_eq_true rfl) ⟨Nat.zero_le _, Nat.zero_le _⟩ dX7_readClose_88 (fun w26 H locs hp27 hW hS => ?_)
    obtain ⟨ho28, hn29⟩ := hp27
    have hB := (hn29 _ (by omega)).trans hB
    have ho13 := (hn29 _ (by omega)).trans ho13
    have hT := (hn29 _ (by omega)).trans hT
    have ha14 := (hn29 _ (by omega)).trans ha14
    have ha18 := (hn29 _ (by omega)).trans ha18
    have htl := (hn29 _ (by omega)).trans htl
    have hop := (hn29 _ (by omega)).trans hop
    have hah := (hn29 _ (by omega)).trans hah
    refine h_top (show (bz (isSR f (cl2 f v) 59) : Int) = bz (decide (clV f v 18 = 0)) from congrArg bz (mu_dec hl2).symm) ?_
    have hX30 : w26 (y + 311) = some (.inr (6, rL (y + 307) (cR f N (clV f v) num))) := by rw [show (clV f v : Int → Int) = muV f (isSR f (cl2 f v) 59) (cl2 f v) from rfl]; exact ho28
    have hSX : (scE X w26 y ∧ (clV f v 18 = 0 → scR X w26 y (clV f v) (laS sc (v 27) 6 0 0 0) wd)) := ⟨⟨_, _, _, _, _, _, _, _, _, _, ⟨ho13, ha14, ha18, htl, hop, hah⟩⟩, fun _ => clc (X := X) (w := w26) (f := f) hsi hcl hOp hac (by first | exact .inl ⟨by assumption, rfl⟩ | exact .inr ⟨by assumption, rfl⟩) ⟨ho13, ha14, ha18, htl, hop, hah⟩⟩
    exact h_iretz F hr hlk hW hS ⟨⟨_, hX30⟩, hSX, (fun q h09 h19 => by rw [hn29 q (by omega), hn24 q (by omega), hn19 q (by omega), hn15 q (by omega) (by omega), hn8 q (by omega), hn2 q (by omega)])⟩ dX7_readClose_91
  · refine lv_aload_n F.1 F.2.1 dX7_readClose_50 rfl (lv_at hl 1 rfl) ?_
    refine lv_iload_n F.1 F.2.1 dX7_readClose_51 rfl (lv_at hl 0 rfl) ?_
    refine h_iconst F dX7_readClose_52 ?_
    refine h_iconst F dX7_readClose_53 ?_
    refine cl_RX7_117 (As := [.int (iI (op ((v 29) - 1))), .int (iI 0), .int (iI 0)]) (rest := []) F hl (c_X7_setArgument l X w5 y (v 27) (v 28) ac ((v 29) - 1) pr (up ar (3 * (op ((v 29) - 1)) + 1) (v 27)) (op ((v 29) - 1)) 0 0 ho3 ha7 (by omega)) hW hS ho3 rfl rfl ⟨Nat.le_of_ble_eq_true rfl, Nat.le_of_ble_eq_true rfl⟩ (Nat.le_of_ble_eq_true rfl) ⟨Nat.zero_le _, Nat.zero_le _⟩ dX7_readClose_54 (fun w31 H locs hp32 hW hS => ?_)
    obtain ⟨ha33, hn34⟩ := hp32
    have hR := (hn34 _ (by omega)).trans hR
    have hB := (hn34 _ (by omega)).trans hB
    have ho3 := (hn34 _ (by omega)).trans ho3
    have hT := (hn34 _ (by omega)).trans hT
    have hkd := (hn34 _ (by omega)).trans hkd
    have htl := (hn34 _ (by omega)).trans htl
    have hop := (hn34 _ (by omega)).trans hop
    have hah := (hn34 _ (by omega)).trans hah
    refine lv_aload_n F.1 F.2.1 dX7_readClose_57 rfl (lv_at hl 1 rfl) ?_
    refine h_bipush F dX7_readClose_58 rfl ?_
    refine cl_RX7_86 (As := [.int (iI 6)]) (rest := []) F hl (c_X7_addStep l X w31 y (v 27) (v 28) ac ((v 29) - 1) pr kd 6 ho3 hkd (by omega)) hW hS ho3 rfl rfl ⟨Nat.le_of_ble_eq_true rfl, Nat.le_of_ble_eq_true rfl⟩ (Nat.le_of_ble_eq_true rfl) ⟨Nat.zero_le _, Nat.zero_le _⟩ dX7_readClose_60 (fun w35 H locs hp36 hW hS => ?_)
    obtain ⟨ho37, ha38, hn39⟩ := hp36
    have hR := (hn39 _ (by omega) (by omega)).trans hR
    have hB := (hn39 _ (by omega) (by omega)).trans hB
    have hT := (hn39 _ (by omega) (by omega)).trans hT
    have ha33 := (hn39 _ (by omega) (by omega)).trans ha33
    have htl := (hn39 _ (by omega) (by omega)).trans htl
    have hop := (hn39 _ (by omega) (by omega)).trans hop
    have hah := (hn39 _ (by omega) (by omega)).trans hah
    refine lv_aload_n F.1 F.2.1 dX7_readClose_63 rfl (lv_at hl 1 rfl) ?_
    refine lv_aload_n F.1 F.2.1 dX7_readClose_64 rfl (lv_at hl 1 rfl) ?_
    refine gf_RX7_31 F hW ho37 rfl dX7_readClose_65 ?_
    refine h_iconst F dX7_readClose_68 ?_
    refine h_isub (a := (v 27) + 1) (b := 1) F dX7_readClose_69 ?_
    refine h_iconst F dX7_readClose_70 ?_
    refine lv_iload_n F.1 F.2.1 dX7_readClose_71 rfl (lv_at hl 0 rfl) ?_
    refine cl_RX7_117 (As := [.int (iI (((v 27) + 1) - 1)), .int (iI 0), .int (iI (op ((v 29) - 1)))]) (rest := []) F hl (c_X7_setArgument l X w35 y ((v 27) + 1) (v 28) ac ((v 29) - 1) pr (up (up ar (3 * (op ((v 29) - 1)) + 1) (v 27)) (3 * (op ((v 29) - 1)) + 0) 0) (((v 27) + 1) - 1) 0 (op ((v 29) - 1)) ho37 ha33 (by omega)) hW hS ho37 rfl rfl ⟨Nat.le_of_ble_eq_true rfl, Nat.le_of_ble_eq_true rfl⟩ (Nat.le_of_ble_eq_true rfl) ⟨Nat.zero_le _, Nat.zero_le _⟩ dX7_readClose_72 (fun w40 H locs hp41 hW hS => ?_)
    obtain ⟨ha42, hn43⟩ := hp41
    have hR := (hn43 _ (by omega)).trans hR
    have hB := (hn43 _ (by omega)).trans hB
    have ho37 := (hn43 _ (by omega)).trans ho37
    have hT := (hn43 _ (by omega)).trans hT
    have ha38 := (hn43 _ (by omega)).trans ha38
    have htl := (hn43 _ (by omega)).trans htl
    have hop := (hn43 _ (by omega)).trans hop
    have hah := (hn43 _ (by omega)).trans hah
    refine lv_aload_n F.1 F.2.1 dX7_readClose_75 rfl (lv_at hl 1 rfl) ?_
    have hX44 : w40 (y + 311) = some (.inr (6, rL (y + 307) (cR f N (cl1 v) num))) := by rw [show rL (y + 307) (cR f N (cl1 v) num) = rL (y + 307) (cR f N v num) from rL_eq (c7 rfl rfl rfl rfl rfl rfl rfl)]; exact hR
    refine gf_RX7_27 F hW ho37 rfl dX7_readClose_76 ?_
    refine cl_RX7_83 (As := []) (rest := []) F hl (k_step l X w40 (y + 311) (y + 307) (y + 308) N f (cl1 v) num hX44 hB hT hp1 hM1 (by omega)) hW hS hX44 rfl rfl ⟨Nat.le_of_ble_eq_true rfl, Nat.le_of_ble_eq_true rfl⟩ (Nat.le_of_ble_eq_true rfl) ⟨Nat.zero_le _, Nat.zero_le _⟩ dX7_readClose_79 (fun w45 H locs hp46 hW hS => ?_)
    obtain ⟨ho47, hn48⟩ := hp46
    have hB := (hn48 _ (by omega)).trans hB
    have ho37 := (hn48 _ (by omega)).trans ho37
    have hT := (hn48 _ (by omega)).trans hT
    have ha38 := (hn48 _ (by omega)).trans ha38
    have ha42 := (hn48 _ (by omega)).trans ha42
    have htl := (hn48 _ (by omega)).trans htl
    have hop := (hn48 _ (by omega)).trans hop
    have hah := (hn48 _ (by omega)).trans hah
    have hX49 : w45 (y + 311) = some (.inr (6, rL (y + 307) (cR f N (cl2 f v) num))) := by rw [show (cl2 f v : Int → Int) = goV f (cl1 v) from rfl]; exact ho47
    refine lv_aload_n F.1 F.2.1 dX7_readClose_82 rfl (lv_at hl 1 rfl) ?_
    refine gf_RX7_27 F hW ho37 rfl dX7_readClose_83 ?_
    refine h_bipush F dX7_readClose_86 rfl ?_
    refine cl_RX7_97 (As := [.int (iI 59)]) (rest := []) F hl (k_takeMark l X w45 (y + 311) (y + 307) (y + 308) N f (cl2 f v) num 59 hX49 hB hT hp2 hM2 (by omega) hl2 (by omega)) hW hS hX49 rfl rfl ⟨Nat.le_of_ble_eq_true rfl, Nat.le_of_ble_eq_true rfl⟩ (Nat.le_of_ble_eq_true rfl) ⟨Nat.zero_le _, Nat.zero_le _⟩ dX7_readClose_88 (fun w50 H locs hp51 hW hS => ?_)
    obtain ⟨ho52, hn53⟩ := hp51
    have hB := (hn53 _ (by omega)).trans hB
    have ho37 := (hn53 _ (by omega)).trans ho37
    have hT := (hn53 _ (by omega)).trans hT
    have ha38 := (hn53 _ (by omega)).trans ha38
    have ha42 := (hn53 _ (by omega)).trans ha42
    have htl := (hn53 _ (by omega)).trans htl
    have hop := (hn53 _ (by omega)).trans hop
    have hah := (hn53 _ (by omega)).trans hah
    refine h_top (show (bz (isSR f (cl2 f v) 59) : Int) = bz (decide (clV f v 18 = 0)) from congrArg bz (mu_dec hl2).symm) ?_
    have hX54 : w50 (y + 311) = some (.inr (6, rL (y + 307) (cR f N (clV f v) num))) := by rw [show (clV f v : Int → Int) = muV f (isSR f (cl2 f v) 59) (cl2 f v) from rfl]; exact ho52
    have hSX : (scE X w50 y ∧ (clV f v 18 = 0 → scR X w50 y (clV f v) (laS sc (v 27) 6 0 0 0) wd)) := ⟨⟨_, _, _, _, _, _, _, _, _, _, ⟨ho37, ha38, ha42, htl, hop, hah⟩⟩, fun _ => clc (X := X) (w := w50) (f := f) hsi hcl hOp hac (by first | exact .inl ⟨by assumption, rfl⟩ | exact .inr ⟨by assumption, rfl⟩) ⟨ho37, ha38, ha42, htl, hop, hah⟩⟩
    exact h_iretz F hr hlk hW hS ⟨⟨_, hX54⟩, hSX, (fun q h09 h19 => by rw [hn53 q (by omega), hn48 q (by omega), hn43 q (by omega), hn39 q (by omega) (by omega), hn34 q (by omega), hn8 q (by omega), hn2 q (by omega)])⟩ dX7_readClose_91
