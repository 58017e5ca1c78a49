theorem slQ_r {σ : Int → Int} (h : WF σ) (L : Int) : 0 ≤ slQ σ L ∧ slQ σ L ≤ 2000 := by
  have hF := h.1
  unfold WF0 at hF
  have h2 := sm_r (f := slB σ L) (lo := 0) (hi := σ 0 - 1) (M := 31) (by decide) (fun i _ _ => by
    have := cnt_r (fun r => enB σ i r && decide (L ≤ rnS σ i r)) (lo := 0) (hi := σ 4 + 1) (by omega)
    unfold slB
    omega) (by omega)
  unfold slQ
  omega
def shN (σ : Int → Int) (co : Int) : Int := sm (fun y => if y < σ 4 then wovR σ co y else 0) 0 (σ 1)
theorem shN_r {σ : Int → Int} (h : WF σ) (co : Int) : 0 ≤ shN σ co ∧ shN σ co ≤ 1200 := by
  have hF := h.1
  unfold WF0 at hF
  have h2 := sm_r (f := fun y => if y < σ 4 then wovR σ co y else 0) (lo := 0) (hi := σ 1) (M := 40) (by decide) (fun i _ _ => by
    have := wovR_r h co i
    by_cases h9 : i < σ 4
    · simp only [if_pos h9]; exact this
    · simp only [if_neg h9]; omega) (by omega)
  unfold shN
  omega
theorem mul_r {σ : Int → Int} (h : WF0 σ) : 0 ≤ σ 0 * σ 4 ∧ σ 0 * σ 4 ≤ 1200 := by
  unfold WF0 at h
  have h1 : 0 ≤ σ 0 * σ 4 := Int.mul_nonneg (by omega) (by omega)
  have h2 : σ 0 * σ 4 ≤ 40 * 30 := Int.mul_le_mul (by omega) (by omega) (by omega) (by omega)
  omega
def shQ (σ : Int → Int) (co : Int) : UInt32 := if σ 0 * σ 4 = 0 then FP.fconst0 else FP.fdiv (FP.i2f (iI (shN σ co))) (FP.i2f (iI (σ 0 * σ 4)))
def jcS (σ : Int → Int) (r : Int) : Int := cnt (fun z => decide (cellS σ z r ≠ cellS σ (z + 1) r)) 0 (σ 0 - 1)
theorem jcS_r {σ : Int → Int} (h : WF0 σ) (r : Int) : 0 ≤ jcS σ r ∧ jcS σ r < 40 := by
  unfold WF0 at h
  have h2 := cnt_r (fun z => decide (cellS σ z r ≠ cellS σ (z + 1) r)) (lo := 0) (hi := σ 0 - 1) (by omega)
  unfold jcS
  omega
theorem jcN_r {σ : Int → Int} (h : WF σ) : 0 ≤ sm (jcS σ) 0 (σ 4) ∧ sm (jcS σ) 0 (σ 4) ≤ 1200 := by
  have hF := h.1
  unfold WF0 at hF
  have h2 := sm_r (f := jcS σ) (lo := 0) (hi := σ 4) (M := 40) (by decide) (fun i _ _ => by have := jcS_r h.1 i; omega) (by omega)
  omega
def mjQ (σ : Int → Int) : UInt64 := if σ 4 = 0 then FP.dconst0 else FP.ddiv (FP.i2d (iI (sm (jcS σ) 0 (σ 4)))) (FP.i2d (iI (σ 4)))
theorem up_up (f : Int → Int) (k x y : Int) : up (up f k x) k y = up f k y := by
  funext j
  unfold up
  split <;> rfl
theorem bz_inj {a b : Bool} (h : bz a = bz b) : a = b := by cases a <;> cases b <;> first | rfl | (revert h; decide)
theorem bz_ne {a b : Bool} (h : bz a ≠ bz b) : (a == b) = false := by cases a <;> cases b <;> first | rfl | exact absurd rfl h
set_option maxHeartbeats 4000000 in
set_option maxRecDepth 100000 in
theorem c_let_0t (l : Launch) (X : Cx) (w : Wo) (mo : Nat) (v σ : Int → Int) (k j : Int) (hM : w mo = some (.inr (9, mL mo v))) (hs : w (mo + 1) = some (aZ X 1317 σ)) (hwf : WF σ) (hk : 0 ≤ k ∧ k < σ 5) (hj : 0 ≤ j ∧ j < cp σ k 0) : CM l X yX9_letter cX9_letter 4 (some (.int)) (rmk 4 97) [.ref mo, .int (iI k), .int (iI j), .int (iI 0)] w (some (.int (iI (letQ σ k j 0)))) (fun w' => w' mo = some (.inr (9, mL mo (up v 6 0))) ∧ ∀ q : Nat, q ≠ mo → w' q = w q) := by
  refine CM.of (lv := [(0, .ref mo), (1, .int (iI k)), (2, .int (iI j)), (3, .int (iI 0))]) (by decide) (Nat.le_of_ble_eq_true rfl) rfl (fun p e s m below meth c ls F hr hlk hin hW hS hl => ?_)
  have hZ0 := hW.2.2
  have hB9 := hW.1.2
  clear hin
  have hF := hwf.1
  unfold WF0 at hF
  obtain ⟨m1, m2, m3, m4, m5, m6⟩ := hwf.2.2.1 k (by omega) (by omega)
  have join32 : ∀ (H : Heap) (locs : List Loc) (ls : Array Slot), Wd X w s H → va_S (cxA X) s.heap H locs → lv_has ls 4 [(0, .ref mo), (1, .int (iI k)), (2, .int (iI j)), (3, .int (iI 0))] → W p l e (rmk 4 97) s m (List.toArray [.ref mo, .int (iI k), .int (iI j), .int (iI 0)]) below meth c H locs 0 0 (MX X below (List.toArray [.ref mo, .int (iI k), .int (iI j), .int (iI 0)]) s 0 0 (some (.int (iI (letQ σ k j 0)))) (fun w' => w' mo = some (.inr (9, mL mo (up v 6 0))) ∧ ∀ q : Nat, q ≠ mo → w' q = w q)) (F0 m 32 ls [.int (iI (bz true)), .ref mo]) := by
    intro  H locs ls  hW hS hl
    refine lv_iload_n F.1 F.2.1 dX9_letter_32 rfl (lv_at hl 3 rfl) ?_
    refine h_i2l F dX9_letter_33 (by omega) ?_
    refine h_lconst (n := 0) (z := 0) F dX9_letter_34 rfl ?_
    refine h_ldc2 (n := 3) F kk_RX9_181 dX9_letter_35 ?_
    refine cl_RX9_82 (As := [.long (lI 0), .long (lI 0), .long (lI 3)]) (rest := [.int (iI (bz true)), .ref mo]) F hl (c_X9_isIn l X w 0 0 3 (by omega) (by omega) (by omega)) hW hS rfl rfl ⟨Nat.le_of_ble_eq_true rfl, Nat.le_of_ble_eq_true rfl⟩ (Nat.le_of_ble_eq_true rfl) ⟨Nat.zero_le _, Nat.zero_le _⟩ dX9_letter_38 (fun w1 H locs hp1 hW hS => ?_)
    rw [hp1] at hW; clear hp1; clear w1
    refine h_top (show (bz (decide (0 ≤ 0 ∧ 0 ≤ 3)) : Int) = bz true from congrArg bz (decide_eq_true (by omega))) ?_
    refine cl_RX9_163 (As := [.int (iI (bz true)), .int (iI (bz true))]) (rest := []) F hl (c_both_tt l X w mo v σ hM hs hwf) hW hS hM rfl rfl ⟨Nat.le_of_ble_eq_true rfl, Nat.le_of_ble_eq_true rfl⟩ (Nat.le_of_ble_eq_true rfl) ⟨Nat.zero_le _, Nat.zero_le _⟩ dX9_letter_41 (fun w2 H locs hp3 hW hS => ?_)
    obtain ⟨ho4, hn5⟩ := hp3
    have hs := (hn5 _ (by omega)).trans hs
    refine h_ifneb (tgt := 49) F dX9_letter_44 (by decide) (fun _ => ?_) (fun c9 => absurd c9 (by decide))
    refine lv_iload_n F.1 F.2.1 dX9_letter_49 rfl (lv_at hl 3 rfl) ?_
    refine h_ifne (tgt := 60) F dX9_letter_50 (by decide) (by decide) (fun c9 => absurd c9 (by decide)) (fun _ => ?_)
    refine lv_aload_n F.1 F.2.1 dX9_letter_53 rfl (lv_at hl 0 rfl) ?_
    refine lv_iload_n F.1 F.2.1 dX9_letter_54 rfl (lv_at hl 1 rfl) ?_
    refine lv_iload_n F.1 F.2.1 dX9_letter_55 rfl (lv_at hl 2 rfl) ?_
    refine cl_RX9_155 (As := [.int (iI k), .int (iI j)]) (rest := []) F hl (c_X9_told l X w2 mo (up v 6 0) σ k j ho4 hs hwf (by omega) (by omega)) hW hS ho4 rfl rfl ⟨Nat.le_of_ble_eq_true rfl, Nat.le_of_ble_eq_true rfl⟩ (Nat.le_of_ble_eq_true rfl) ⟨Nat.zero_le _, Nat.zero_le _⟩ dX9_letter_56 (fun w1 H locs hp8 hW hS => ?_)
    rw [hp8] at hW; clear hp8; clear w1
    refine h_top (show (tdS σ k j : Int) = letQ σ k j 0 from by unfold letQ; first | rfl | (rw [hlg]; rfl)) ?_
    exact h_ireti F hr hlk hW hS ⟨ho4, (fun q h09 => by rw [hn5 q (by omega)])⟩ dX9_letter_59
  refine lv_aload_n F.1 F.2.1 dX9_letter_0 rfl (lv_at hl 0 rfl) ?_
  refine lv_aload_n F.1 F.2.1 dX9_letter_1 rfl (lv_at hl 0 rfl) ?_
  refine lv_iload_n F.1 F.2.1 dX9_letter_2 rfl (lv_at hl 1 rfl) ?_
  refine cl_RX9_158 (As := [.int (iI k)]) (rest := [.ref mo]) F hl (c_X9_isCaption l X w mo v σ k hM hs hwf (by omega)) hW hS hM rfl rfl ⟨Nat.le_of_ble_eq_true rfl, Nat.le_of_ble_eq_true rfl⟩ (Nat.le_of_ble_eq_true rfl) ⟨Nat.zero_le _, Nat.zero_le _⟩ dX9_letter_3 (fun w1 H locs hp9 hW hS => ?_)
  rw [hp9] at hW; clear hp9; clear w1
  refine h_ifeqb (tgt := 31) F dX9_letter_6 (by decide) (fun c10 => ?_) (fun c10 => ?_)
  · have c10d := of_decide_eq_false c10
    exfalso; omega
  · have c10d := of_decide_eq_true c10
    refine lv_iload_n F.1 F.2.1 dX9_letter_9 rfl (lv_at hl 2 rfl) ?_
    refine h_i2l F dX9_letter_10 (by omega) ?_
    refine h_lconst (n := 0) (z := 0) F dX9_letter_11 rfl ?_
    refine lv_aload_n F.1 F.2.1 dX9_letter_12 rfl (lv_at hl 0 rfl) ?_
    refine lv_iload_n F.1 F.2.1 dX9_letter_13 rfl (lv_at hl 1 rfl) ?_
    refine h_iconst F dX9_letter_14 ?_
    refine cl_RX9_95 (As := [.int (iI k), .int (iI 0)]) (rest := [.long (lI 0), .long (lI j), .ref mo]) F hl (c_X9_cap l X w mo v σ k 0 hM hs hwf (by omega)) hW hS hM rfl rfl ⟨Nat.le_of_ble_eq_true rfl, Nat.le_of_ble_eq_true rfl⟩ (Nat.le_of_ble_eq_true rfl) ⟨Nat.zero_le _, Nat.zero_le _⟩ dX9_letter_15 (fun w1 H locs hp11 hW hS => ?_)
    rw [hp11] at hW; clear hp11; clear w1
    refine h_iconst F dX9_letter_18 ?_
    refine h_isub (a := cp σ k 0) (b := 1) F dX9_letter_19 ?_
    refine h_i2l F dX9_letter_20 (by omega) ?_
    refine cl_RX9_82 (As := [.long (lI j), .long (lI 0), .long (lI ((cp σ k 0) - 1))]) (rest := [.ref mo]) F hl (c_X9_isIn l X w j 0 ((cp σ k 0) - 1) (by omega) (by omega) (by omega)) hW hS rfl rfl ⟨Nat.le_of_ble_eq_true rfl, Nat.le_of_ble_eq_true rfl⟩ (Nat.le_of_ble_eq_true rfl) ⟨Nat.zero_le _, Nat.zero_le _⟩ dX9_letter_21 (fun w1 H locs hp12 hW hS => ?_)
    rw [hp12] at hW; clear hp12; clear w1
    refine h_ifeqb (tgt := 31) F dX9_letter_24 (by decide) (fun c13 => ?_) (fun c13 => ?_)
    · have c13d := of_decide_eq_false c13
      exfalso; omega
    · have c13d := of_decide_eq_true c13
      refine h_iconst F dX9_letter_27 ?_
      refine h_goto (tgt := 32) F dX9_letter_28 (by decide) ?_
      refine h_top (show (1 : Int) = bz true from by first | exact bzt rfl | (exfalso; omega)) ?_
      exact join32  _ _ ls  hW hS (lv_sub hl [0, 1, 2, 3] rfl)
set_option maxHeartbeats 4000000 in
set_option maxRecDepth 100000 in
theorem c_let_1t (l : Launch) (X : Cx) (w : Wo) (mo : Nat) (v σ : Int → Int) (k j : Int) (hM : w mo = some (.inr (9, mL mo v))) (hs : w (mo + 1) = some (aZ X 1317 σ)) (hwf : WF σ) (hk : 0 ≤ k ∧ k < σ 5) (hj : 0 ≤ j ∧ j < cp σ k 0) (hlg : legS σ k = true) : CM l X yX9_letter cX9_letter 4 (some (.int)) (rmk 4 97) [.ref mo, .int (iI k), .int (iI j), .int (iI 1)] w (some (.int (iI (letQ σ k j 1)))) (fun w' => w' mo = some (.inr (9, mL mo (up v 6 0))) ∧ ∀ q : Nat, q ≠ mo → w' q = w q) := by
  refine CM.of (lv := [(0, .ref mo), (1, .int (iI k)), (2, .int (iI j)), (3, .int (iI 1))]) (by decide) (Nat.le_of_ble_eq_true rfl) rfl (fun p e s m below meth c ls F hr hlk hin hW hS hl => ?_)
  have hZ0 := hW.2.2
  have hB9 := hW.1.2
  clear hin
  have hF := hwf.1
  unfold WF0 at hF
  obtain ⟨m1, m2, m3, m4, m5, m6⟩ := hwf.2.2.1 k (by omega) (by omega)
  have join32 : ∀ (H : Heap) (locs : List Loc) (ls : Array Slot), Wd X w s H → va_S (cxA X) s.heap H locs → lv_has ls 4 [(0, .ref mo), (1, .int (iI k)), (2, .int (iI j)), (3, .int (iI 1))] → W p l e (rmk 4 97) s m (List.toArray [.ref mo, .int (iI k), .int (iI j), .int (iI 1)]) below meth c H locs 0 0 (MX X below (List.toArray [.ref mo, .int (iI k), .int (iI j), .int (iI 1)]) s 0 0 (some (.int (iI (letQ σ k j 1)))) (fun w' => w' mo = some (.inr (9, mL mo (up v 6 0))) ∧ ∀ q : Nat, q ≠ mo → w' q = w q)) (F0 m 32 ls [.int (iI (bz true)), .ref mo]) := by
    intro  H locs ls  hW hS hl
    refine lv_iload_n F.1 F.2.1 dX9_letter_32 rfl (lv_at hl 3 rfl) ?_
    refine h_i2l F dX9_letter_33 (by omega) ?_
    refine h_lconst (n := 0) (z := 0) F dX9_letter_34 rfl ?_
    refine h_ldc2 (n := 3) F kk_RX9_181 dX9_letter_35 ?_
    refine cl_RX9_82 (As := [.long (lI 1), .long (lI 0), .long (lI 3)]) (rest := [.int (iI (bz true)), .ref mo]) F hl (c_X9_isIn l X w 1 0 3 (by omega) (by omega) (by omega)) hW hS rfl rfl ⟨Nat.le_of_ble_eq_true rfl, Nat.le_of_ble_eq_true rfl⟩ (Nat.le_of_ble_eq_true rfl) ⟨Nat.zero_le _, Nat.zero_le _⟩ dX9_letter_38 (fun w1 H locs hp1 hW hS => ?_)
    rw [hp1] at hW; clear hp1; clear w1
    refine h_top (show (bz (decide (0 ≤ 1 ∧ 1 ≤ 3)) : Int) = bz true from congrArg bz (decide_eq_true (by omega))) ?_
    refine cl_RX9_163 (As := [.int (iI (bz true)), .int (iI (bz true))]) (rest := []) F hl (c_both_tt l X w mo v σ hM hs hwf) hW hS hM rfl rfl ⟨Nat.le_of_ble_eq_true rfl, Nat.le_of_ble_eq_true rfl⟩ (Nat.le_of_ble_eq_true rfl) ⟨Nat.zero_le _, Nat.zero_le _⟩ dX9_letter_41 (fun w2 H locs hp3 hW hS => ?_)
    obtain ⟨ho4, hn5⟩ := hp3
    have hs := (hn5 _ (by omega)).trans hs
    refine h_ifneb (tgt := 49) F dX9_letter_44 (by decide) (fun _ => ?_) (fun c9 => absurd c9 (by decide))
    refine lv_iload_n F.1 F.2.1 dX9_letter_49 rfl (lv_at hl 3 rfl) ?_
    refine h_ifne (tgt := 60) F dX9_letter_50 (by decide) (by decide) (fun _ => ?_) (fun c9 => absurd c9 (by decide))
    refine lv_aload_n F.1 F.2.1 dX9_letter_60 rfl (lv_at hl 0 rfl) ?_
    refine lv_iload_n F.1 F.2.1 dX9_letter_61 rfl (lv_at hl 1 rfl) ?_
    refine cl_RX9_149 (As := [.int (iI k)]) (rest := []) F hl (c_X9_isLegible l X w2 mo (up v 6 0) σ k ho4 hs hwf (by omega)) hW hS ho4 rfl rfl ⟨Nat.le_of_ble_eq_true rfl, Nat.le_of_ble_eq_true rfl⟩ (Nat.le_of_ble_eq_true rfl) ⟨Nat.zero_le _, Nat.zero_le _⟩ dX9_letter_62 (fun w1 H locs hp8 hW hS => ?_)
    rw [hp8] at hW; clear hp8; clear w1
    refine h_ifneb (tgt := 70) F dX9_letter_65 (by decide) (fun c9 => ?_) (fun c9 => ?_)
    · refine lv_iload_n F.1 F.2.1 dX9_letter_70 rfl (lv_at hl 3 rfl) ?_
      refine h_iconst F dX9_letter_71 ?_
      refine h_icne (tgt := 85) F dX9_letter_72 (by decide) (by decide) (fun _ => ?_) (fun c9 => absurd c9 (by decide))
      refine lv_aload_n F.1 F.2.1 dX9_letter_85 rfl (lv_at hl 0 rfl) ?_
      refine lv_iload_n F.1 F.2.1 dX9_letter_86 rfl (lv_at hl 1 rfl) ?_
      refine lv_iload_n F.1 F.2.1 dX9_letter_87 rfl (lv_at hl 2 rfl) ?_
      refine lv_iload_n F.1 F.2.1 dX9_letter_88 rfl (lv_at hl 3 rfl) ?_
      refine h_iconst F dX9_letter_89 ?_
      refine h_icne (tgt := 97) F dX9_letter_90 (by decide) (by decide) (fun _ => ?_) (fun c9 => absurd c9 (by decide))
      refine h_iconst F dX9_letter_97 ?_
      refine cl_RX9_152 (As := [.int (iI k), .int (iI j), .int (iI 0)]) (rest := []) F hl (c_rd_f l X w2 mo (up v 6 0) σ k j ho4 hs hwf (by omega) (by omega) (by assumption)) hW hS ho4 rfl rfl ⟨Nat.le_of_ble_eq_true rfl, Nat.le_of_ble_eq_true rfl⟩ (Nat.le_of_ble_eq_true rfl) ⟨Nat.zero_le _, Nat.zero_le _⟩ dX9_letter_98 (fun w1 H locs hp12 hW hS => ?_)
      rw [hp12] at hW; clear hp12; clear w1
      refine h_top (show (rdS σ k j false : Int) = letQ σ k j 1 from by unfold letQ; first | rfl | (rw [hlg]; rfl)) ?_
      exact h_ireti F hr hlk hW hS ⟨ho4, (fun q h09 => by rw [hn5 q (by omega)])⟩ dX9_letter_101
    · exfalso; rw [hlg] at c9; cases c9
  refine lv_aload_n F.1 F.2.1 dX9_letter_0 rfl (lv_at hl 0 rfl) ?_
  refine lv_aload_n F.1 F.2.1 dX9_letter_1 rfl (lv_at hl 0 rfl) ?_
  refine lv_iload_n F.1 F.2.1 dX9_letter_2 rfl (lv_at hl 1 rfl) ?_
  refine cl_RX9_158 (As := [.int (iI k)]) (rest := [.ref mo]) F hl (c_X9_isCaption l X w mo v σ k hM hs hwf (by omega)) hW hS hM rfl rfl ⟨Nat.le_of_ble_eq_true rfl, Nat.le_of_ble_eq_true rfl⟩ (Nat.le_of_ble_eq_true rfl) ⟨Nat.zero_le _, Nat.zero_le _⟩ dX9_letter_3 (fun w1 H locs hp13 hW hS => ?_)
  rw [hp13] at hW; clear hp13; clear w1
  refine h_ifeqb (tgt := 31) F dX9_letter_6 (by decide) (fun c14 => ?_) (fun c14 => ?_)
  · have c14d := of_decide_eq_false c14
    exfalso; omega
  · have c14d := of_decide_eq_true c14
    refine lv_iload_n F.1 F.2.1 dX9_letter_9 rfl (lv_at hl 2 rfl) ?_
    refine h_i2l F dX9_letter_10 (by omega) ?_
    refine h_lconst (n := 0) (z := 0) F dX9_letter_11 rfl ?_
    refine lv_aload_n F.1 F.2.1 dX9_letter_12 rfl (lv_at hl 0 rfl) ?_
    refine lv_iload_n F.1 F.2.1 dX9_letter_13 rfl (lv_at hl 1 rfl) ?_
    refine h_iconst F dX9_letter_14 ?_
    refine cl_RX9_95 (As := [.int (iI k), .int (iI 0)]) (rest := [.long (lI 0), .long (lI j), .ref mo]) F hl (c_X9_cap l X w mo v σ k 0 hM hs hwf (by omega)) hW hS hM rfl rfl ⟨Nat.le_of_ble_eq_true rfl, Nat.le_of_ble_eq_true rfl⟩ (Nat.le_of_ble_eq_true rfl) ⟨Nat.zero_le _, Nat.zero_le _⟩ dX9_letter_15 (fun w1 H locs hp15 hW hS => ?_)
    rw [hp15] at hW; clear hp15; clear w1
    refine h_iconst F dX9_letter_18 ?_
    refine h_isub (a := cp σ k 0) (b := 1) F dX9_letter_19 ?_
    refine h_i2l F dX9_letter_20 (by omega) ?_
    refine cl_RX9_82 (As := [.long (lI j), .long (lI 0), .long (lI ((cp σ k 0) - 1))]) (rest := [.ref mo]) F hl (c_X9_isIn l X w j 0 ((cp σ k 0) - 1) (by omega) (by omega) (by omega)) hW hS rfl rfl ⟨Nat.le_of_ble_eq_true rfl, Nat.le_of_ble_eq_true rfl⟩ (Nat.le_of_ble_eq_true rfl) ⟨Nat.zero_le _, Nat.zero_le _⟩ dX9_letter_21 (fun w1 H locs hp16 hW hS => ?_)
    rw [hp16] at hW; clear hp16; clear w1
    refine h_ifeqb (tgt := 31) F dX9_letter_24 (by decide) (fun c17 => ?_) (fun c17 => ?_)
    · have c17d := of_decide_eq_false c17
      exfalso; omega
    · have c17d := of_decide_eq_true c17
      refine h_iconst F dX9_letter_27 ?_
      refine h_goto (tgt := 32) F dX9_letter_28 (by decide) ?_
      refine h_top (show (1 : Int) = bz true from by first | exact bzt rfl | (exfalso; omega)) ?_
      exact join32  _ _ ls  hW hS (lv_sub hl [0, 1, 2, 3] rfl)
set_option maxHeartbeats 4000000 in
set_option maxRecDepth 100000 in
theorem c_let_1f (l : Launch) (X : Cx) (w : Wo) (mo : Nat) (v σ : Int → Int) (k j : Int) (hM : w mo = some (.inr (9, mL mo v))) (hs : w (mo + 1) = some (aZ X 1317 σ)) (hwf : WF σ) (hk : 0 ≤ k ∧ k < σ 5) (hj : 0 ≤ j ∧ j < cp σ k 0) (hlg : legS σ k = false) : CM l X yX9_letter cX9_letter 4 (some (.int)) (rmk 4 97) [.ref mo, .int (iI k), .int (iI j), .int (iI 1)] w (some (.int (iI (letQ σ k j 1)))) (fun w' => w' mo = some (.inr (9, mL mo (up v 6 0))) ∧ ∀ q : Nat, q ≠ mo → w' q = w q) := by
  refine CM.of (lv := [(0, .ref mo), (1, .int (iI k)), (2, .int (iI j)), (3, .int (iI 1))]) (by decide) (Nat.le_of_ble_eq_true rfl) rfl (fun p e s m below meth c ls F hr hlk hin hW hS hl => ?_)
  have hZ0 := hW.2.2
  have hB9 := hW.1.2
  clear hin
  have hF := hwf.1
  unfold WF0 at hF
  obtain ⟨m1, m2, m3, m4, m5, m6⟩ := hwf.2.2.1 k (by omega) (by omega)
  have join32 : ∀ (H : Heap) (locs : List Loc) (ls : Array Slot), Wd X w s H → va_S (cxA X) s.heap H locs → lv_has ls 4 [(0, .ref mo), (1, .int (iI k)), (2, .int (iI j)), (3, .int (iI 1))] → W p l e (rmk 4 97) s m (List.toArray [.ref mo, .int (iI k), .int (iI j), .int (iI 1)]) below meth c H locs 0 0 (MX X below (List.toArray [.ref mo, .int (iI k), .int (iI j), .int (iI 1)]) s 0 0 (some (.int (iI (letQ σ k j 1)))) (fun w' => w' mo = some (.inr (9, mL mo (up v 6 0))) ∧ ∀ q : Nat, q ≠ mo → w' q = w q)) (F0 m 32 ls [.int (iI (bz true)), .ref mo]) := by
    intro  H locs ls  hW hS hl
    refine lv_iload_n F.1 F.2.1 dX9_letter_32 rfl (lv_at hl 3 rfl) ?_
    refine h_i2l F dX9_letter_33 (by omega) ?_
    refine h_lconst (n := 0) (z := 0) F dX9_letter_34 rfl ?_
    refine h_ldc2 (n := 3) F kk_RX9_181 dX9_letter_35 ?_
    refine cl_RX9_82 (As := [.long (lI 1), .long (lI 0), .long (lI 3)]) (rest := [.int (iI (bz true)), .ref mo]) F hl (c_X9_isIn l X w 1 0 3 (by omega) (by omega) (by omega)) hW hS rfl rfl ⟨Nat.le_of_ble_eq_true rfl, Nat.le_of_ble_eq_true rfl⟩ (Nat.le_of_ble_eq_true rfl) ⟨Nat.zero_le _, Nat.zero_le _⟩ dX9_letter_38 (fun w1 H locs hp1 hW hS => ?_)
    rw [hp1] at hW; clear hp1; clear w1
    refine h_top (show (bz (decide (0 ≤ 1 ∧ 1 ≤ 3)) : Int) = bz true from congrArg bz (decide_eq_true (by omega))) ?_
    refine cl_RX9_163 (As := [.int (iI (bz true)), .int (iI (bz true))]) (rest := []) F hl (c_both_tt l X w mo v σ hM hs hwf) hW hS hM rfl rfl ⟨Nat.le_of_ble_eq_true rfl, Nat.le_of_ble_eq_true rfl⟩ (Nat.le_of_ble_eq_true rfl) ⟨Nat.zero_le _, Nat.zero_le _⟩ dX9_letter_41 (fun w2 H locs hp3 hW hS => ?_)
    obtain ⟨ho4, hn5⟩ := hp3
    have hs := (hn5 _ (by omega)).trans hs
    refine h_ifneb (tgt := 49) F dX9_letter_44 (by decide) (fun _ => ?_) (fun c9 => absurd c9 (by decide))
    refine lv_iload_n F.1 F.2.1 dX9_letter_49 rfl (lv_at hl 3 rfl) ?_
    refine h_ifne (tgt := 60) F dX9_letter_50 (by decide) (by decide) (fun _ => ?_) (fun c9 => absurd c9 (by decide))
    refine lv_aload_n F.1 F.2.1 dX9_letter_60 rfl (lv_at hl 0 rfl) ?_
    refine lv_iload_n F.1 F.2.1 dX9_letter_61 rfl (lv_at hl 1 rfl) ?_
    refine cl_RX9_149 (As := [.int (iI k)]) (rest := []) F hl (c_X9_isLegible l X w2 mo (up v 6 0) σ k ho4 hs hwf (by omega)) hW hS ho4 rfl rfl ⟨Nat.le_of_ble_eq_true rfl, Nat.le_of_ble_eq_true rfl⟩ (Nat.le_of_ble_eq_true rfl) ⟨Nat.zero_le _, Nat.zero_le _⟩ dX9_letter_62 (fun w1 H locs hp8 hW hS => ?_)
    rw [hp8] at hW; clear hp8; clear w1
    refine h_ifneb (tgt := 70) F dX9_letter_65 (by decide) (fun c9 => ?_) (fun c9 => ?_)
    · exfalso; rw [hlg] at c9; cases c9
    · refine h_iconst F dX9_letter_68 ?_
      refine h_top (show ((-1) : Int) = letQ σ k j 1 from by unfold letQ; first | rfl | (rw [hlg]; rfl)) ?_
      exact h_ireti F hr hlk hW hS ⟨ho4, (fun q h09 => by rw [hn5 q (by omega)])⟩ dX9_letter_69
  refine lv_aload_n F.1 F.2.1 dX9_letter_0 rfl (lv_at hl 0 rfl) ?_
  refine lv_aload_n F.1 F.2.1 dX9_letter_1 rfl (lv_at hl 0 rfl) ?_
  refine lv_iload_n F.1 F.2.1 dX9_letter_2 rfl (lv_at hl 1 rfl) ?_
  refine cl_RX9_158 (As := [.int (iI k)]) (rest := [.ref mo]) F hl (c_X9_isCaption l X w mo v σ k hM hs hwf (by omega)) hW hS hM rfl rfl ⟨Nat.le_of_ble_eq_true rfl, Nat.le_of_ble_eq_true rfl⟩ (Nat.le_of_ble_eq_true rfl) ⟨Nat.zero_le _, Nat.zero_le _⟩ dX9_letter_3 (fun w1 H locs hp10 hW hS => ?_)
  rw [hp10] at hW; clear hp10; clear w1
  refine h_ifeqb (tgt := 31) F dX9_letter_6 (by decide) (fun c11 => ?_) (fun c11 => ?_)
  · have c11d := of_decide_eq_false c11
    exfalso; omega
  · have c11d := of_decide_eq_true c11
    refine lv_iload_n F.1 F.2.1 dX9_letter_9 rfl (lv_at hl 2 rfl) ?_
    refine h_i2l F dX9_letter_10 (by omega) ?_
    refine h_lconst (n := 0) (z := 0) F dX9_letter_11 rfl ?_
    refine lv_aload_n F.1 F.2.1 dX9_letter_12 rfl (lv_at hl 0 rfl) ?_
    refine lv_iload_n F.1 F.2.1 dX9_letter_13 rfl (lv_at hl 1 rfl) ?_
    refine h_iconst F dX9_letter_14 ?_
    refine cl_RX9_95 (As := [.int (iI k), .int (iI 0)]) (rest := [.long (lI 0), .long (lI j), .ref mo]) F hl (c_X9_cap l X w mo v σ k 0 hM hs hwf (by omega)) hW hS hM rfl rfl ⟨Nat.le_of_ble_eq_true rfl, Nat.le_of_ble_eq_true rfl⟩ (Nat.le_of_ble_eq_true rfl) ⟨Nat.zero_le _, Nat.zero_le _⟩ dX9_letter_15 (fun w1 H locs hp12 hW hS => ?_)
    rw [hp12] at hW; clear hp12; clear w1
    refine h_iconst F dX9_letter_18 ?_
    refine h_isub (a := cp σ k 0) (b := 1) F dX9_letter_19 ?_
    refine h_i2l F dX9_letter_20 (by omega) ?_
    refine cl_RX9_82 (As := [.long (lI j), .long (lI 0), .long (lI ((cp σ k 0) - 1))]) (rest := [.ref mo]) F hl (c_X9_isIn l X w j 0 ((cp σ k 0) - 1) (by omega) (by omega) (by omega)) hW hS rfl rfl ⟨Nat.le_of_ble_eq_true rfl, Nat.le_of_ble_eq_true rfl⟩ (Nat.le_of_ble_eq_true rfl) ⟨Nat.zero_le _, Nat.zero_le _⟩ dX9_letter_21 (fun w1 H locs hp13 hW hS => ?_)
    rw [hp13] at hW; clear hp13; clear w1
    refine h_ifeqb (tgt := 31) F dX9_letter_24 (by decide) (fun c14 => ?_) (fun c14 => ?_)
    · have c14d := of_decide_eq_false c14
      exfalso; omega
    · have c14d := of_decide_eq_true c14
      refine h_iconst F dX9_letter_27 ?_
      refine h_goto (tgt := 32) F dX9_letter_28 (by decide) ?_
      refine h_top (show (1 : Int) = bz true from by first | exact bzt rfl | (exfalso; omega)) ?_
      exact join32  _ _ ls  hW hS (lv_sub hl [0, 1, 2, 3] rfl)
set_option maxHeartbeats 4000000 in
set_option maxRecDepth 100000 in
theorem c_let_2t (l : Launch) (X : Cx) (w : Wo) (mo : Nat) (v σ : Int → Int) (k j : Int) (hM : w mo = some (.inr (9, mL mo v))) (hs : w (mo + 1) = some (aZ X 1317 σ)) (hwf : WF σ) (hk : 0 ≤ k ∧ k < σ 5) (hj : 0 ≤ j ∧ j < cp σ k 0) (hlg : legS σ k = true) : CM l X yX9_letter cX9_letter 4 (some (.int)) (rmk 4 97) [.ref mo, .int (iI k), .int (iI j), .int (iI 2)] w (some (.int (iI (letQ σ k j 2)))) (fun w' => w' mo = some (.inr (9, mL mo (up v 6 0))) ∧ ∀ q : Nat, q ≠ mo → w' q = w q) := by
  refine CM.of (lv := [(0, .ref mo), (1, .int (iI k)), (2, .int (iI j)), (3, .int (iI 2))]) (by decide) (Nat.le_of_ble_eq_true rfl) rfl (fun p e s m below meth c ls F hr hlk hin hW hS hl => ?_)
  have hZ0 := hW.2.2
  have hB9 := hW.1.2
  clear hin
  have hF := hwf.1
  unfold WF0 at hF
  obtain ⟨m1, m2, m3, m4, m5, m6⟩ := hwf.2.2.1 k (by omega) (by omega)
  have join32 : ∀ (H : Heap) (locs : List Loc) (ls : Array Slot), Wd X w s H → va_S (cxA X) s.heap H locs → lv_has ls 4 [(0, .ref mo), (1, .int (iI k)), (2, .int (iI j)), (3, .int (iI 2))] → W p l e (rmk 4 97) s m (List.toArray [.ref mo, .int (iI k), .int (iI j), .int (iI 2)]) below meth c H locs 0 0 (MX X below (List.toArray [.ref mo, .int (iI k), .int (iI j), .int (iI 2)]) s 0 0 (some (.int (iI (letQ σ k j 2)))) (fun w' => w' mo = some (.inr (9, mL mo (up v 6 0))) ∧ ∀ q : Nat, q ≠ mo → w' q = w q)) (F0 m 32 ls [.int (iI (bz true)), .ref mo]) := by
    intro  H locs ls  hW hS hl
    refine lv_iload_n F.1 F.2.1 dX9_letter_32 rfl (lv_at hl 3 rfl) ?_
    refine h_i2l F dX9_letter_33 (by omega) ?_
    refine h_lconst (n := 0) (z := 0) F dX9_letter_34 rfl ?_
    refine h_ldc2 (n := 3) F kk_RX9_181 dX9_letter_35 ?_
    refine cl_RX9_82 (As := [.long (lI 2), .long (lI 0), .long (lI 3)]) (rest := [.int (iI (bz true)), .ref mo]) F hl (c_X9_isIn l X w 2 0 3 (by omega) (by omega) (by omega)) hW hS rfl rfl ⟨Nat.le_of_ble_eq_true rfl, Nat.le_of_ble_eq_true rfl⟩ (Nat.le_of_ble_eq_true rfl) ⟨Nat.zero_le _, Nat.zero_le _⟩ dX9_letter_38 (fun w1 H locs hp1 hW hS => ?_)
    rw [hp1] at hW; clear hp1; clear w1
    refine h_top (show (bz (decide (0 ≤ 2 ∧ 2 ≤ 3)) : Int) = bz true from congrArg bz (decide_eq_true (by omega))) ?_
    refine cl_RX9_163 (As := [.int (iI (bz true)), .int (iI (bz true))]) (rest := []) F hl (c_both_tt l X w mo v σ hM hs hwf) hW hS hM rfl rfl ⟨Nat.le_of_ble_eq_true rfl, Nat.le_of_ble_eq_true rfl⟩ (Nat.le_of_ble_eq_true rfl) ⟨Nat.zero_le _, Nat.zero_le _⟩ dX9_letter_41 (fun w2 H locs hp3 hW hS => ?_)
    obtain ⟨ho4, hn5⟩ := hp3
    have hs := (hn5 _ (by omega)).trans hs
    refine h_ifneb (tgt := 49) F dX9_letter_44 (by decide) (fun _ => ?_) (fun c9 => absurd c9 (by decide))
    refine lv_iload_n F.1 F.2.1 dX9_letter_49 rfl (lv_at hl 3 rfl) ?_
    refine h_ifne (tgt := 60) F dX9_letter_50 (by decide) (by decide) (fun _ => ?_) (fun c9 => absurd c9 (by decide))
    refine lv_aload_n F.1 F.2.1 dX9_letter_60 rfl (lv_at hl 0 rfl) ?_
    refine lv_iload_n F.1 F.2.1 dX9_letter_61 rfl (lv_at hl 1 rfl) ?_
    refine cl_RX9_149 (As := [.int (iI k)]) (rest := []) F hl (c_X9_isLegible l X w2 mo (up v 6 0) σ k ho4 hs hwf (by omega)) hW hS ho4 rfl rfl ⟨Nat.le_of_ble_eq_true rfl, Nat.le_of_ble_eq_true rfl⟩ (Nat.le_of_ble_eq_true rfl) ⟨Nat.zero_le _, Nat.zero_le _⟩ dX9_letter_62 (fun w1 H locs hp8 hW hS => ?_)
    rw [hp8] at hW; clear hp8; clear w1
    refine h_ifneb (tgt := 70) F dX9_letter_65 (by decide) (fun c9 => ?_) (fun c9 => ?_)
    · refine lv_iload_n F.1 F.2.1 dX9_letter_70 rfl (lv_at hl 3 rfl) ?_
      refine h_iconst F dX9_letter_71 ?_
      refine h_icne (tgt := 85) F dX9_letter_72 (by decide) (by decide) (fun _ => ?_) (fun c9 => absurd c9 (by decide))
      refine lv_aload_n F.1 F.2.1 dX9_letter_85 rfl (lv_at hl 0 rfl) ?_
      refine lv_iload_n F.1 F.2.1 dX9_letter_86 rfl (lv_at hl 1 rfl) ?_
      refine lv_iload_n F.1 F.2.1 dX9_letter_87 rfl (lv_at hl 2 rfl) ?_
      refine lv_iload_n F.1 F.2.1 dX9_letter_88 rfl (lv_at hl 3 rfl) ?_
      refine h_iconst F dX9_letter_89 ?_
      refine h_icne (tgt := 97) F dX9_letter_90 (by decide) (by decide) (fun c9 => absurd c9 (by decide)) (fun _ => ?_)
      refine h_iconst F dX9_letter_93 ?_
      refine h_goto (tgt := 98) F dX9_letter_94 (by decide) ?_
      refine cl_RX9_152 (As := [.int (iI k), .int (iI j), .int (iI 1)]) (rest := []) F hl (c_rd_t l X w2 mo (up v 6 0) σ k j ho4 hs hwf (by omega) (by omega) (by assumption)) hW hS ho4 rfl rfl ⟨Nat.le_of_ble_eq_true rfl, Nat.le_of_ble_eq_true rfl⟩ (Nat.le_of_ble_eq_true rfl) ⟨Nat.zero_le _, Nat.zero_le _⟩ dX9_letter_98 (fun w1 H locs hp12 hW hS => ?_)
      rw [hp12] at hW; clear hp12; clear w1
      refine h_top (show (rdS σ k j true : Int) = letQ σ k j 2 from by unfold letQ; first | rfl | (rw [hlg]; rfl)) ?_
      exact h_ireti F hr hlk hW hS ⟨ho4, (fun q h09 => by rw [hn5 q (by omega)])⟩ dX9_letter_101
    · exfalso; rw [hlg] at c9; cases c9
  refine lv_aload_n F.1 F.2.1 dX9_letter_0 rfl (lv_at hl 0 rfl) ?_
  refine lv_aload_n F.1 F.2.1 dX9_letter_1 rfl (lv_at hl 0 rfl) ?_
  refine lv_iload_n F.1 F.2.1 dX9_letter_2 rfl (lv_at hl 1 rfl) ?_
  refine cl_RX9_158 (As := [.int (iI k)]) (rest := [.ref mo]) F hl (c_X9_isCaption l X w mo v σ k hM hs hwf (by omega)) hW hS hM rfl rfl ⟨Nat.le_of_ble_eq_true rfl, Nat.le_of_ble_eq_true rfl⟩ (Nat.le_of_ble_eq_true rfl) ⟨Nat.zero_le _, Nat.zero_le _⟩ dX9_letter_3 (fun w1 H locs hp13 hW hS => ?_)
  rw [hp13] at hW; clear hp13; clear w1
  refine h_ifeqb (tgt := 31) F dX9_letter_6 (by decide) (fun c14 => ?_) (fun c14 => ?_)
  · have c14d := of_decide_eq_false c14
    exfalso; omega
  · have c14d := of_decide_eq_true c14
    refine lv_iload_n F.1 F.2.1 dX9_letter_9 rfl (lv_at hl 2 rfl) ?_
    refine h_i2l F dX9_letter_10 (by omega) ?_
    refine h_lconst (n := 0) (z := 0) F dX9_letter_11 rfl ?_
    refine lv_aload_n F.1 F.2.1 dX9_letter_12 rfl (lv_at hl 0 rfl) ?_
    refine lv_iload_n F.1 F.2.1 dX9_letter_13 rfl (lv_at hl 1 rfl) ?_
    refine h_iconst F dX9_letter_14 ?_
    refine cl_RX9_95 (As := [.int (iI k), .int (iI 0)]) (rest := [.long (lI 0), .long (lI j), .ref mo]) F hl (c_X9_cap l X w mo v σ k 0 hM hs hwf (by omega)) hW hS hM rfl rfl ⟨Nat.le_of_ble_eq_true rfl, Nat.le_of_ble_eq_true rfl⟩ (Nat.le_of_ble_eq_true rfl) ⟨Nat.zero_le _, Nat.zero_le _⟩ dX9_letter_15 (fun w1 H locs hp15 hW hS => ?_)
    rw [hp15] at hW; clear hp15; clear w1
    refine h_iconst F dX9_letter_18 ?_
    refine h_isub (a := cp σ k 0) (b := 1) F dX9_letter_19 ?_
    refine h_i2l F dX9_letter_20 (by omega) ?_
    refine cl_RX9_82 (As := [.long (lI j), .long (lI 0), .long (lI ((cp σ k 0) - 1))]) (rest := [.ref mo]) F hl (c_X9_isIn l X w j 0 ((cp σ k 0) - 1) (by omega) (by omega) (by omega)) hW hS rfl rfl ⟨Nat.le_of_ble_eq_true rfl, Nat.le_of_ble_eq_true rfl⟩ (Nat.le_of_ble_eq_true rfl) ⟨Nat.zero_le _, Nat.zero_le _⟩ dX9_letter_21 (fun w1 H locs hp16 hW hS => ?_)
    rw [hp16] at hW; clear hp16; clear w1
    refine h_ifeqb (tgt := 31) F dX9_letter_24 (by decide) (fun c17 => ?_) (fun c17 => ?_)
    · have c17d := of_decide_eq_false c17
      exfalso; omega
    · have c17d := of_decide_eq_true c17
      refine h_iconst F dX9_letter_27 ?_
      refine h_goto (tgt := 32) F dX9_letter_28 (by decide) ?_
      refine h_top (show (1 : Int) = bz true from by first | exact bzt rfl | (exfalso; omega)) ?_
      exact join32  _ _ ls  hW hS (lv_sub hl [0, 1, 2, 3] rfl)
set_option maxHeartbeats 4000000 in
set_option maxRecDepth 100000 in
theorem c_let_2f (l : Launch) (X : Cx) (w : Wo) (mo : Nat) (v σ : Int → Int) (k j : Int) (hM : w mo = some (.inr (9, mL mo v))) (hs : w (mo + 1) = some (aZ X 1317 σ)) (hwf : WF σ) (hk : 0 ≤ k ∧ k < σ 5) (hj : 0 ≤ j ∧ j < cp σ k 0) (hlg : legS σ k = false) : CM l X yX9_letter cX9_letter 4 (some (.int)) (rmk 4 97) [.ref mo, .int (iI k), .int (iI j), .int (iI 2)] w (some (.int (iI (letQ σ k j 2)))) (fun w' => w' mo = some (.inr (9, mL mo (up v 6 0))) ∧ ∀ q : Nat, q ≠ mo → w' q = w q) := by
  refine CM.of (lv := [(0, .ref mo), (1, .int (iI k)), (2, .int (iI j)), (3, .int (iI 2))]) (by decide) (Nat.le_of_ble_eq_true rfl) rfl (fun p e s m below meth c ls F hr hlk hin hW hS hl => ?_)
  have hZ0 := hW.2.2
  have hB9 := hW.1.2
  clear hin
  have hF := hwf.1
  unfold WF0 at hF
  obtain ⟨m1, m2, m3, m4, m5, m6⟩ := hwf.2.2.1 k (by omega) (by omega)
  have join32 : ∀ (H : Heap) (locs : List Loc) (ls : Array Slot), Wd X w s H → va_S (cxA X) s.heap H locs → lv_has ls 4 [(0, .ref mo), (1, .int (iI k)), (2, .int (iI j)), (3, .int (iI 2))] → W p l e (rmk 4 97) s m (List.toArray [.ref mo, .int (iI k), .int (iI j), .int (iI 2)]) below meth c H locs 0 0 (MX X below (List.toArray [.ref mo, .int (iI k), .int (iI j), .int (iI 2)]) s 0 0 (some (.int (iI (letQ σ k j 2)))) (fun w' => w' mo = some (.inr (9, mL mo (up v 6 0))) ∧ ∀ q : Nat, q ≠ mo → w' q = w q)) (F0 m 32 ls [.int (iI (bz true)), .ref mo]) := by
    intro  H locs ls  hW hS hl
    refine lv_iload_n F.1 F.2.1 dX9_letter_32 rfl (lv_at hl 3 rfl) ?_
    refine h_i2l F dX9_letter_33 (by omega) ?_
    refine h_lconst (n := 0) (z := 0) F dX9_letter_34 rfl ?_
    refine h_ldc2 (n := 3) F kk_RX9_181 dX9_letter_35 ?_
    refine cl_RX9_82 (As := [.long (lI 2), .long (lI 0), .long (lI 3)]) (rest := [.int (iI (bz true)), .ref mo]) F hl (c_X9_isIn l X w 2 0 3 (by omega) (by omega) (by omega)) hW hS rfl rfl ⟨Nat.le_of_ble_eq_true rfl, Nat.le_of_ble_eq_true rfl⟩ (Nat.le_of_ble_eq_true rfl) ⟨Nat.zero_le _, Nat.zero_le _⟩ dX9_letter_38 (fun w1 H locs hp1 hW hS => ?_)
    rw [hp1] at hW; clear hp1; clear w1
    refine h_top (show (bz (decide (0 ≤ 2 ∧ 2 ≤ 3)) : Int) = bz true from congrArg bz (decide_eq_true (by omega))) ?_
    refine cl_RX9_163 (As := [.int (iI (bz true)), .int (iI (bz true))]) (rest := []) F hl (c_both_tt l X w mo v σ hM hs hwf) hW hS hM rfl rfl ⟨Nat.le_of_ble_eq_true rfl, Nat.le_of_ble_eq_true rfl⟩ (Nat.le_of_ble_eq_true rfl) ⟨Nat.zero_le _, Nat.zero_le _⟩ dX9_letter_41 (fun w2 H locs hp3 hW hS => ?_)
    obtain ⟨ho4, hn5⟩ := hp3
    have hs := (hn5 _ (by omega)).trans hs
    refine h_ifneb (tgt := 49) F dX9_letter_44 (by decide) (fun _ => ?_) (fun c9 => absurd c9 (by decide))
    refine lv_iload_n F.1 F.2.1 dX9_letter_49 rfl (lv_at hl 3 rfl) ?_
    refine h_ifne (tgt := 60) F dX9_letter_50 (by decide) (by decide) (fun _ => ?_) (fun c9 => absurd c9 (by decide))
    refine lv_aload_n F.1 F.2.1 dX9_letter_60 rfl (lv_at hl 0 rfl) ?_
    refine lv_iload_n F.1 F.2.1 dX9_letter_61 rfl (lv_at hl 1 rfl) ?_
    refine cl_RX9_149 (As := [.int (iI k)]) (rest := []) F hl (c_X9_isLegible l X w2 mo (up v 6 0) σ k ho4 hs hwf (by omega)) hW hS ho4 rfl rfl ⟨Nat.le_of_ble_eq_true rfl, Nat.le_of_ble_eq_true rfl⟩ (Nat.le_of_ble_eq_true rfl) ⟨Nat.zero_le _, Nat.zero_le _⟩ dX9_letter_62 (fun w1 H locs hp8 hW hS => ?_)
    rw [hp8] at hW; clear hp8; clear w1
    refine h_ifneb (tgt := 70) F dX9_letter_65 (by decide) (fun c9 => ?_) (fun c9 => ?_)
    · exfalso; rw [hlg] at c9; cases c9
    · refine h_iconst F dX9_letter_68 ?_
      refine h_top (show ((-1) : Int) = letQ σ k j 2 from by unfold letQ; first | rfl | (rw [hlg]; rfl)) ?_
      exact h_ireti F hr hlk hW hS ⟨ho4, (fun q h09 => by rw [hn5 q (by omega)])⟩ dX9_letter_69
  refine lv_aload_n F.1 F.2.1 dX9_letter_0 rfl (lv_at hl 0 rfl) ?_
  refine lv_aload_n F.1 F.2.1 dX9_letter_1 rfl (lv_at hl 0 rfl) ?_
  refine lv_iload_n F.1 F.2.1 dX9_letter_2 rfl (lv_at hl 1 rfl) ?_
  refine cl_RX9_158 (As := [.int (iI k)]) (rest := [.ref mo]) F hl (c_X9_isCaption l X w mo v σ k hM hs hwf (by omega)) hW hS hM rfl rfl ⟨Nat.le_of_ble_eq_true rfl, Nat.le_of_ble_eq_true rfl⟩ (Nat.le_of_ble_eq_true rfl) ⟨Nat.zero_le _, Nat.zero_le _⟩ dX9_letter_3 (fun w1 H locs hp10 hW hS => ?_)
  rw [hp10] at hW; clear hp10; clear w1
  refine h_ifeqb (tgt := 31) F dX9_letter_6 (by decide) (fun c11 => ?_) (fun c11 => ?_)
  · have c11d := of_decide_eq_false c11
    exfalso; omega
  · have c11d := of_decide_eq_true c11
    refine lv_iload_n F.1 F.2.1 dX9_letter_9 rfl (lv_at hl 2 rfl) ?_
    refine h_i2l F dX9_letter_10 (by omega) ?_
    refine h_lconst (n := 0) (z := 0) F dX9_letter_11 rfl ?_
    refine lv_aload_n F.1 F.2.1 dX9_letter_12 rfl (lv_at hl 0 rfl) ?_
    refine lv_iload_n F.1 F.2.1 dX9_letter_13 rfl (lv_at hl 1 rfl) ?_
    refine h_iconst F dX9_letter_14 ?_
    refine cl_RX9_95 (As := [.int (iI k), .int (iI 0)]) (rest := [.long (lI 0), .long (lI j), .ref mo]) F hl (c_X9_cap l X w mo v σ k 0 hM hs hwf (by omega)) hW hS hM rfl rfl ⟨Nat.le_of_ble_eq_true rfl, Nat.le_of_ble_eq_true rfl⟩ (Nat.le_of_ble_eq_true rfl) ⟨Nat.zero_le _, Nat.zero_le _⟩ dX9_letter_15 (fun w1 H locs hp12 hW hS => ?_)
    rw [hp12] at hW; clear hp12; clear w1
    refine h_iconst F dX9_letter_18 ?_
    refine h_isub (a := cp σ k 0) (b := 1) F dX9_letter_19 ?_
    refine h_i2l F dX9_letter_20 (by omega) ?_
    refine cl_RX9_82 (As := [.long (lI j), .long (lI 0), .long (lI ((cp σ k 0) - 1))]) (rest := [.ref mo]) F hl (c_X9_isIn l X w j 0 ((cp σ k 0) - 1) (by omega) (by omega) (by omega)) hW hS rfl rfl ⟨Nat.le_of_ble_eq_true rfl, Nat.le_of_ble_eq_true rfl⟩ (Nat.le_of_ble_eq_true rfl) ⟨Nat.zero_le _, Nat.zero_le _⟩ dX9_letter_21 (fun w1 H locs hp13 hW hS => ?_)
    rw [hp13] at hW; clear hp13; clear w1
    refine h_ifeqb (tgt := 31) F dX9_letter_24 (by decide) (fun c14 => ?_) (fun c14 => ?_)
    · have c14d := of_decide_eq_false c14
      exfalso; omega
    · have c14d := of_decide_eq_true c14
      refine h_iconst F dX9_letter_27 ?_
      refine h_goto (tgt := 32) F dX9_letter_28 (by decide) ?_
      refine h_top (show (1 : Int) = bz true from by first | exact bzt rfl | (exfalso; omega)) ?_
      exact join32  _ _ ls  hW hS (lv_sub hl [0, 1, 2, 3] rfl)
set_option maxHeartbeats 4000000 in
set_option maxRecDepth 100000 in
theorem c_let_3t (l : Launch) (X : Cx) (w : Wo) (mo : Nat) (v σ : Int → Int) (k j : Int) (hM : w mo = some (.inr (9, mL mo v))) (hs : w (mo + 1) = some (aZ X 1317 σ)) (hwf : WF σ) (hk : 0 ≤ k ∧ k < σ 5) (hj : 0 ≤ j ∧ j < cp σ k 0) (hlg : legS σ k = true) : CM l X yX9_letter cX9_letter 4 (some (.int)) (rmk 4 97) [.ref mo, .int (iI k), .int (iI j), .int (iI 3)] w (some (.int (iI (letQ σ k j 3)))) (fun w' => w' mo = some (.inr (9, mL mo (up v 6 0))) ∧ ∀ q : Nat, q ≠ mo → w' q = w q) := by
  refine CM.of (lv := [(0, .ref mo), (1, .int (iI k)), (2, .int (iI j)), (3, .int (iI 3))]) (by decide) (Nat.le_of_ble_eq_true rfl) rfl (fun p e s m below meth c ls F hr hlk hin hW hS hl => ?_)
  have hZ0 := hW.2.2
  have hB9 := hW.1.2
  clear hin
  have hF := hwf.1
  unfold WF0 at hF
  obtain ⟨m1, m2, m3, m4, m5, m6⟩ := hwf.2.2.1 k (by omega) (by omega)
  have join32 : ∀ (H : Heap) (locs : List Loc) (ls : Array Slot), Wd X w s H → va_S (cxA X) s.heap H locs → lv_has ls 4 [(0, .ref mo), (1, .int (iI k)), (2, .int (iI j)), (3, .int (iI 3))] → W p l e (rmk 4 97) s m (List.toArray [.ref mo, .int (iI k), .int (iI j), .int (iI 3)]) below meth c H locs 0 0 (MX X below (List.toArray [.ref mo, .int (iI k), .int (iI j), .int (iI 3)]) s 0 0 (some (.int (iI (letQ σ k j 3)))) (fun w' => w' mo = some (.inr (9, mL mo (up v 6 0))) ∧ ∀ q : Nat, q ≠ mo → w' q = w q)) (F0 m 32 ls [.int (iI (bz true)), .ref mo]) := by
    intro  H locs ls  hW hS hl
    refine lv_iload_n F.1 F.2.1 dX9_letter_32 rfl (lv_at hl 3 rfl) ?_
    refine h_i2l F dX9_letter_33 (by omega) ?_
    refine h_lconst (n := 0) (z := 0) F dX9_letter_34 rfl ?_
    refine h_ldc2 (n := 3) F kk_RX9_181 dX9_letter_35 ?_
    refine cl_RX9_82 (As := [.long (lI 3), .long (lI 0), .long (lI 3)]) (rest := [.int (iI (bz true)), .ref mo]) F hl (c_X9_isIn l X w 3 0 3 (by omega) (by omega) (by omega)) hW hS rfl rfl ⟨Nat.le_of_ble_eq_true rfl, Nat.le_of_ble_eq_true rfl⟩ (Nat.le_of_ble_eq_true rfl) ⟨Nat.zero_le _, Nat.zero_le _⟩ dX9_letter_38 (fun w1 H locs hp1 hW hS => ?_)
    rw [hp1] at hW; clear hp1; clear w1
    refine h_top (show (bz (decide (0 ≤ 3 ∧ 3 ≤ 3)) : Int) = bz true from congrArg bz (decide_eq_true (by omega))) ?_
    refine cl_RX9_163 (As := [.int (iI (bz true)), .int (iI (bz true))]) (rest := []) F hl (c_both_tt l X w mo v σ hM hs hwf) hW hS hM rfl rfl ⟨Nat.le_of_ble_eq_true rfl, Nat.le_of_ble_eq_true rfl⟩ (Nat.le_of_ble_eq_true rfl) ⟨Nat.zero_le _, Nat.zero_le _⟩ dX9_letter_41 (fun w2 H locs hp3 hW hS => ?_)
    obtain ⟨ho4, hn5⟩ := hp3
    have hs := (hn5 _ (by omega)).trans hs
    refine h_ifneb (tgt := 49) F dX9_letter_44 (by decide) (fun _ => ?_) (fun c9 => absurd c9 (by decide))
    refine lv_iload_n F.1 F.2.1 dX9_letter_49 rfl (lv_at hl 3 rfl) ?_
    refine h_ifne (tgt := 60) F dX9_letter_50 (by decide) (by decide) (fun _ => ?_) (fun c9 => absurd c9 (by decide))
    refine lv_aload_n F.1 F.2.1 dX9_letter_60 rfl (lv_at hl 0 rfl) ?_
    refine lv_iload_n F.1 F.2.1 dX9_letter_61 rfl (lv_at hl 1 rfl) ?_
    refine cl_RX9_149 (As := [.int (iI k)]) (rest := []) F hl (c_X9_isLegible l X w2 mo (up v 6 0) σ k ho4 hs hwf (by omega)) hW hS ho4 rfl rfl ⟨Nat.le_of_ble_eq_true rfl, Nat.le_of_ble_eq_true rfl⟩ (Nat.le_of_ble_eq_true rfl) ⟨Nat.zero_le _, Nat.zero_le _⟩ dX9_letter_62 (fun w1 H locs hp8 hW hS => ?_)
    rw [hp8] at hW; clear hp8; clear w1
    refine h_ifneb (tgt := 70) F dX9_letter_65 (by decide) (fun c9 => ?_) (fun c9 => ?_)
    · refine lv_iload_n F.1 F.2.1 dX9_letter_70 rfl (lv_at hl 3 rfl) ?_
      refine h_iconst F dX9_letter_71 ?_
      refine h_icne (tgt := 85) F dX9_letter_72 (by decide) (by decide) (fun c9 => absurd c9 (by decide)) (fun _ => ?_)
      refine lv_aload_n F.1 F.2.1 dX9_letter_75 rfl (lv_at hl 0 rfl) ?_
      refine lv_iload_n F.1 F.2.1 dX9_letter_76 rfl (lv_at hl 1 rfl) ?_
      refine lv_iload_n F.1 F.2.1 dX9_letter_77 rfl (lv_at hl 2 rfl) ?_
      refine h_iconst F dX9_letter_78 ?_
      refine cl_RX9_139 (As := [.int (iI k), .int (iI j), .int (iI 0)]) (rest := []) F hl (c_pic_f l X w2 mo (up v 6 0) σ k j ho4 hs hwf (by omega) (by omega) (by assumption)) hW hS ho4 rfl rfl ⟨Nat.le_of_ble_eq_true rfl, Nat.le_of_ble_eq_true rfl⟩ (Nat.le_of_ble_eq_true rfl) ⟨Nat.zero_le _, Nat.zero_le _⟩ dX9_letter_79 (fun w1 H locs hp11 hW hS => ?_)
      rw [hp11] at hW; clear hp11; clear w1
      refine h_goto (tgt := 101) F dX9_letter_82 (by decide) ?_
      refine h_top (show (picS σ k j false : Int) = letQ σ k j 3 from by unfold letQ; first | rfl | (rw [hlg]; rfl)) ?_
      exact h_ireti F hr hlk hW hS ⟨ho4, (fun q h09 => by rw [hn5 q (by omega)])⟩ dX9_letter_101
    · exfalso; rw [hlg] at c9; cases c9
  refine lv_aload_n F.1 F.2.1 dX9_letter_0 rfl (lv_at hl 0 rfl) ?_
  refine lv_aload_n F.1 F.2.1 dX9_letter_1 rfl (lv_at hl 0 rfl) ?_
  refine lv_iload_n F.1 F.2.1 dX9_letter_2 rfl (lv_at hl 1 rfl) ?_
  refine cl_RX9_158 (As := [.int (iI k)]) (rest := [.ref mo]) F hl (c_X9_isCaption l X w mo v σ k hM hs hwf (by omega)) hW hS hM rfl rfl ⟨Nat.le_of_ble_eq_true rfl, Nat.le_of_ble_eq_true rfl⟩ (Nat.le_of_ble_eq_true rfl) ⟨Nat.zero_le _, Nat.zero_le _⟩ dX9_letter_3 (fun w1 H locs hp12 hW hS => ?_)
  rw [hp12] at hW; clear hp12; clear w1
  refine h_ifeqb (tgt := 31) F dX9_letter_6 (by decide) (fun c13 => ?_) (fun c13 => ?_)
  · have c13d := of_decide_eq_false c13
    exfalso; omega
  · have c13d := of_decide_eq_true c13
    refine lv_iload_n F.1 F.2.1 dX9_letter_9 rfl (lv_at hl 2 rfl) ?_
    refine h_i2l F dX9_letter_10 (by omega) ?_
    refine h_lconst (n := 0) (z := 0) F dX9_letter_11 rfl ?_
    refine lv_aload_n F.1 F.2.1 dX9_letter_12 rfl (lv_at hl 0 rfl) ?_
    refine lv_iload_n F.1 F.2.1 dX9_letter_13 rfl (lv_at hl 1 rfl) ?_
    refine h_iconst F dX9_letter_14 ?_
    refine cl_RX9_95 (As := [.int (iI k), .int (iI 0)]) (rest := [.long (lI 0), .long (lI j), .ref mo]) F hl (c_X9_cap l X w mo v σ k 0 hM hs hwf (by omega)) hW hS hM rfl rfl ⟨Nat.le_of_ble_eq_true rfl, Nat.le_of_ble_eq_true rfl⟩ (Nat.le_of_ble_eq_true rfl) ⟨Nat.zero_le _, Nat.zero_le _⟩ dX9_letter_15 (fun w1 H locs hp14 hW hS => ?_)
    rw [hp14] at hW; clear hp14; clear w1
    refine h_iconst F dX9_letter_18 ?_
    refine h_isub (a := cp σ k 0) (b := 1) F dX9_letter_19 ?_
    refine h_i2l F dX9_letter_20 (by omega) ?_
    refine cl_RX9_82 (As := [.long (lI j), .long (lI 0), .long (lI ((cp σ k 0) - 1))]) (rest := [.ref mo]) F hl (c_X9_isIn l X w j 0 ((cp σ k 0) - 1) (by omega) (by omega) (by omega)) hW hS rfl rfl ⟨Nat.le_of_ble_eq_true rfl, Nat.le_of_ble_eq_true rfl⟩ (Nat.le_of_ble_eq_true rfl) ⟨Nat.zero_le _, Nat.zero_le _⟩ dX9_letter_21 (fun w1 H locs hp15 hW hS => ?_)
    rw [hp15] at hW; clear hp15; clear w1
    refine h_ifeqb (tgt := 31) F dX9_letter_24 (by decide) (fun c16 => ?_) (fun c16 => ?_)
    · have c16d := of_decide_eq_false c16
      exfalso; omega
    · have c16d := of_decide_eq_true c16
      refine h_iconst F dX9_letter_27 ?_
      refine h_goto (tgt := 32) F dX9_letter_28 (by decide) ?_
      refine h_top (show (1 : Int) = bz true from by first | exact bzt rfl | (exfalso; omega)) ?_
      exact join32  _ _ ls  hW hS (lv_sub hl [0, 1, 2, 3] rfl)
set_option maxHeartbeats 4000000 in
set_option maxRecDepth 100000 in
theorem c_let_3f (l : Launch) (X : Cx) (w : Wo) (mo : Nat) (v σ : Int → Int) (k j : Int) (hM : w mo = some (.inr (9, mL mo v))) (hs : w (mo + 1) = some (aZ X 1317 σ)) (hwf : WF σ) (hk : 0 ≤ k ∧ k < σ 5) (hj : 0 ≤ j ∧ j < cp σ k 0) (hlg : legS σ k = false) : CM l X yX9_letter cX9_letter 4 (some (.int)) (rmk 4 97) [.ref mo, .int (iI k), .int (iI j), .int (iI 3)] w (some (.int (iI (letQ σ k j 3)))) (fun w' => w' mo = some (.inr (9, mL mo (up v 6 0))) ∧ ∀ q : Nat, q ≠ mo → w' q = w q) := by
  refine CM.of (lv := [(0, .ref mo), (1, .int (iI k)), (2, .int (iI j)), (3, .int (iI 3))]) (by decide) (Nat.le_of_ble_eq_true rfl) rfl (fun p e s m below meth c ls F hr hlk hin hW hS hl => ?_)
  have hZ0 := hW.2.2
  have hB9 := hW.1.2
  clear hin
  have hF := hwf.1
  unfold WF0 at hF
  obtain ⟨m1, m2, m3, m4, m5, m6⟩ := hwf.2.2.1 k (by omega) (by omega)
  have join32 : ∀ (H : Heap) (locs : List Loc) (ls : Array Slot), Wd X w s H → va_S (cxA X) s.heap H locs → lv_has ls 4 [(0, .ref mo), (1, .int (iI k)), (2, .int (iI j)), (3, .int (iI 3))] → W p l e (rmk 4 97) s m (List.toArray [.ref mo, .int (iI k), .int (iI j), .int (iI 3)]) below meth c H locs 0 0 (MX X below (List.toArray [.ref mo, .int (iI k), .int (iI j), .int (iI 3)]) s 0 0 (some (.int (iI (letQ σ k j 3)))) (fun w' => w' mo = some (.inr (9, mL mo (up v 6 0))) ∧ ∀ q : Nat, q ≠ mo → w' q = w q)) (F0 m 32 ls [.int (iI (bz true)), .ref mo]) := by
    intro  H locs ls  hW hS hl
    refine lv_iload_n F.1 F.2.1 dX9_letter_32 rfl (lv_at hl 3 rfl) ?_
    refine h_i2l F dX9_letter_33 (by omega) ?_
    refine h_lconst (n := 0) (z := 0) F dX9_letter_34 rfl ?_
    refine h_ldc2 (n := 3) F kk_RX9_181 dX9_letter_35 ?_
    refine cl_RX9_82 (As := [.long (lI 3), .long (lI 0), .long (lI 3)]) (rest := [.int (iI (bz true)), .ref mo]) F hl (c_X9_isIn l X w 3 0 3 (by omega) (by omega) (by omega)) hW hS rfl rfl ⟨Nat.le_of_ble_eq_true rfl, Nat.le_of_ble_eq_true rfl⟩ (Nat.le_of_ble_eq_true rfl) ⟨Nat.zero_le _, Nat.zero_le _⟩ dX9_letter_38 (fun w1 H locs hp1 hW hS => ?_)
    rw [hp1] at hW; clear hp1; clear w1
    refine h_top (show (bz (decide (0 ≤ 3 ∧ 3 ≤ 3)) : Int) = bz true from congrArg bz (decide_eq_true (by omega))) ?_
    refine cl_RX9_163 (As := [.int (iI (bz true)), .int (iI (bz true))]) (rest := []) F hl (c_both_tt l X w mo v σ hM hs hwf) hW hS hM rfl rfl ⟨Nat.le_of_ble_eq_true rfl, Nat.le_of_ble_eq_true rfl⟩ (Nat.le_of_ble_eq_true rfl) ⟨Nat.zero_le _, Nat.zero_le _⟩ dX9_letter_41 (fun w2 H locs hp3 hW hS => ?_)
    obtain ⟨ho4, hn5⟩ := hp3
    have hs := (hn5 _ (by omega)).trans hs
    refine h_ifneb (tgt := 49) F dX9_letter_44 (by decide) (fun _ => ?_) (fun c9 => absurd c9 (by decide))
    refine lv_iload_n F.1 F.2.1 dX9_letter_49 rfl (lv_at hl 3 rfl) ?_
    refine h_ifne (tgt := 60) F dX9_letter_50 (by decide) (by decide) (fun _ => ?_) (fun c9 => absurd c9 (by decide))
    refine lv_aload_n F.1 F.2.1 dX9_letter_60 rfl (lv_at hl 0 rfl) ?_
    refine lv_iload_n F.1 F.2.1 dX9_letter_61 rfl (lv_at hl 1 rfl) ?_
    refine cl_RX9_149 (As := [.int (iI k)]) (rest := []) F hl (c_X9_isLegible l X w2 mo (up v 6 0) σ k ho4 hs hwf (by omega)) hW hS ho4 rfl rfl ⟨Nat.le_of_ble_eq_true rfl, Nat.le_of_ble_eq_true rfl⟩ (Nat.le_of_ble_eq_true rfl) ⟨Nat.zero_le _, Nat.zero_le _⟩ dX9_letter_62 (fun w1 H locs hp8 hW hS => ?_)
    rw [hp8] at hW; clear hp8; clear w1
    refine h_ifneb (tgt := 70) F dX9_letter_65 (by decide) (fun c9 => ?_) (fun c9 => ?_)
    · exfalso; rw [hlg] at c9; cases c9
    · refine h_iconst F dX9_letter_68 ?_
      refine h_top (show ((-1) : Int) = letQ σ k j 3 from by unfold letQ; first | rfl | (rw [hlg]; rfl)) ?_
      exact h_ireti F hr hlk hW hS ⟨ho4, (fun q h09 => by rw [hn5 q (by omega)])⟩ dX9_letter_69
  refine lv_aload_n F.1 F.2.1 dX9_letter_0 rfl (lv_at hl 0 rfl) ?_
  refine lv_aload_n F.1 F.2.1 dX9_letter_1 rfl (lv_at hl 0 rfl) ?_
  refine lv_iload_n F.1 F.2.1 dX9_letter_2 rfl (lv_at hl 1 rfl) ?_
  refine cl_RX9_158 (As := [.int (iI k)]) (rest := [.ref mo]) F hl (c_X9_isCaption l X w mo v σ k hM hs hwf (by omega)) hW hS hM rfl rfl ⟨Nat.le_of_ble_eq_true rfl, Nat.le_of_ble_eq_true rfl⟩ (Nat.le_of_ble_eq_true rfl) ⟨Nat.zero_le _, Nat.zero_le _⟩ dX9_letter_3 (fun w1 H locs hp10 hW hS => ?_)
  rw [hp10] at hW; clear hp10; clear w1
  refine h_ifeqb (tgt := 31) F dX9_letter_6 (by decide) (fun c11 => ?_) (fun c11 => ?_)
  · have c11d := of_decide_eq_false c11
    exfalso; omega
  · have c11d := of_decide_eq_true c11
    refine lv_iload_n F.1 F.2.1 dX9_letter_9 rfl (lv_at hl 2 rfl) ?_
    refine h_i2l F dX9_letter_10 (by omega) ?_
    refine h_lconst (n := 0) (z := 0) F dX9_letter_11 rfl ?_
    refine lv_aload_n F.1 F.2.1 dX9_letter_12 rfl (lv_at hl 0 rfl) ?_
    refine lv_iload_n F.1 F.2.1 dX9_letter_13 rfl (lv_at hl 1 rfl) ?_
    refine h_iconst F dX9_letter_14 ?_
    refine cl_RX9_95 (As := [.int (iI k), .int (iI 0)]) (rest := [.long (lI 0), .long (lI j), .ref mo]) F hl (c_X9_cap l X w mo v σ k 0 hM hs hwf (by omega)) hW hS hM rfl rfl ⟨Nat.le_of_ble_eq_true rfl, Nat.le_of_ble_eq_true rfl⟩ (Nat.le_of_ble_eq_true rfl) ⟨Nat.zero_le _, Nat.zero_le _⟩ dX9_letter_15 (fun w1 H locs hp12 hW hS => ?_)
    rw [hp12] at hW; clear hp12; clear w1
    refine h_iconst F dX9_letter_18 ?_
    refine h_isub (a := cp σ k 0) (b := 1) F dX9_letter_19 ?_
    refine h_i2l F dX9_letter_20 (by omega) ?_
    refine cl_RX9_82 (As := [.long (lI j), .long (lI 0), .long (lI ((cp σ k 0) - 1))]) (rest := [.ref mo]) F hl (c_X9_isIn l X w j 0 ((cp σ k 0) - 1) (by omega) (by omega) (by omega)) hW hS rfl rfl ⟨Nat.le_of_ble_eq_true rfl, Nat.le_of_ble_eq_true rfl⟩ (Nat.le_of_ble_eq_true rfl) ⟨Nat.zero_le _, Nat.zero_le _⟩ dX9_letter_21 (fun w1 H locs hp13 hW hS => ?_)
    rw [hp13] at hW; clear hp13; clear w1
    refine h_ifeqb (tgt := 31) F dX9_letter_24 (by decide) (fun c14 => ?_) (fun c14 => ?_)
    · have c14d := of_decide_eq_false c14
      exfalso; omega
    · have c14d := of_decide_eq_true c14
      refine h_iconst F dX9_letter_27 ?_
      refine h_goto (tgt := 32) F dX9_letter_28 (by decide) ?_
      refine h_top (show (1 : Int) = bz true from by first | exact bzt rfl | (exfalso; omega)) ?_
      exact join32  _ _ ls  hW hS (lv_sub hl [0, 1, 2, 3] rfl)
theorem c_X9_letter (l : Launch) (X : Cx) (w : Wo) (mo : Nat) (v σ : Int → Int) (k j wh : Int) (hM : w mo = some (.inr (9, mL mo v))) (hs : w (mo + 1) = some (aZ X 1317 σ)) (hwf : WF σ) (hk : 0 ≤ k ∧ k < σ 5) (hj : 0 ≤ j ∧ j < cp σ k 0) (hw : 0 ≤ wh ∧ wh ≤ 3) : CM l X yX9_letter cX9_letter 4 (some (.int)) (rmk 4 97) [.ref mo, .int (iI k), .int (iI j), .int (iI wh)] w (some (.int (iI (letQ σ k j wh)))) (fun w' => w' mo = some (.inr (9, mL mo (up v 6 0))) ∧ ∀ q : Nat, q ≠ mo → w' q = w q) := by
  rcases (show wh = 0 ∨ wh = 1 ∨ wh = 2 ∨ wh = 3 by omega) with rfl | rfl | rfl | rfl
  · exact c_let_0t l X w mo v σ k j hM hs hwf hk hj
  all_goals
    rcases hg : legS σ k with _ | _
    first
    | exact c_let_1f l X w mo v σ k j hM hs hwf hk hj hg
    | exact c_let_2f l X w mo v σ k j hM hs hwf hk hj hg
    | exact c_let_3f l X w mo v σ k j hM hs hwf hk hj hg
    first
    | exact c_let_1t l X w mo v σ k j hM hs hwf hk hj hg
    | exact c_let_2t l X w mo v σ k j hM hs hwf hk hj hg
    | exact c_let_3t l X w mo v σ k j hM hs hwf hk hj hg
set_option maxHeartbeats 4000000 in
set_option maxRecDepth 100000 in
theorem c_X9_letter_x1 (l : Launch) (X : Cx) (w : Wo) (mo : Nat) (v σ : Int → Int) (k j wh : Int) (hM : w mo = some (.inr (9, mL mo v))) (hs : w (mo + 1) = some (aZ X 1317 σ)) (hwf : WF σ) (hk : -2147483648 ≤ k ∧ k < 2147483648) (hj : -2147483648 ≤ j ∧ j < 2147483648) (hw : -2147483648 ≤ wh ∧ wh < 2147483648) (hb : ¬ (0 ≤ k ∧ k < σ 5 ∧ 0 ≤ j ∧ j < cp σ k 0)) : CM l X yX9_letter cX9_letter 4 (some (.int)) (rmk 4 97) [.ref mo, .int (iI k), .int (iI j), .int (iI wh)] w (some (.int (iI 0))) (fun w' => w' mo = some (.inr (9, mL mo (up v 6 1))) ∧ ∀ q : Nat, q ≠ mo → w' q = w q) := by
  refine CM.of (lv := [(0, .ref mo), (1, .int (iI k)), (2, .int (iI j)), (3, .int (iI wh))]) (by decide) (Nat.le_of_ble_eq_true rfl) rfl (fun p e s m below meth c ls F hr hlk hin hW hS hl => ?_)
  have hZ0 := hW.2.2
  have hB9 := hW.1.2
  clear hin
  have hF := hwf.1
  unfold WF0 at hF
  have join32 : ∀ (H : Heap) (locs : List Loc) (ls : Array Slot), Wd X w s H → va_S (cxA X) s.heap H locs → lv_has ls 4 [(0, .ref mo), (1, .int (iI k)), (2, .int (iI j)), (3, .int (iI wh))] → W p l e (rmk 4 97) s m (List.toArray [.ref mo, .int (iI k), .int (iI j), .int (iI wh)]) below meth c H locs 0 0 (MX X below (List.toArray [.ref mo, .int (iI k), .int (iI j), .int (iI wh)]) s 0 0 (some (.int (iI 0))) (fun w' => w' mo = some (.inr (9, mL mo (up v 6 1))) ∧ ∀ q : Nat, q ≠ mo → w' q = w q)) (F0 m 32 ls [.int (iI (bz false)), .ref mo]) := by
    intro  H locs ls  hW hS hl
    refine lv_iload_n F.1 F.2.1 dX9_letter_32 rfl (lv_at hl 3 rfl) ?_
    refine h_i2l F dX9_letter_33 (by omega) ?_
    refine h_lconst (n := 0) (z := 0) F dX9_letter_34 rfl ?_
    refine h_ldc2 (n := 3) F kk_RX9_181 dX9_letter_35 ?_
    refine cl_RX9_82 (As := [.long (lI wh), .long (lI 0), .long (lI 3)]) (rest := [.int (iI (bz false)), .ref mo]) F hl (c_X9_isIn l X w wh 0 3 (by omega) (by omega) (by omega)) hW hS rfl rfl ⟨Nat.le_of_ble_eq_true rfl, Nat.le_of_ble_eq_true rfl⟩ (Nat.le_of_ble_eq_true rfl) ⟨Nat.zero_le _, Nat.zero_le _⟩ dX9_letter_38 (fun w1 H locs hp1 hW hS => ?_)
    rw [hp1] at hW; clear hp1; clear w1
    refine cl_RX9_163 (As := [.int (iI (bz false)), .int (iI (bz (decide (0 ≤ wh ∧ wh ≤ 3))))]) (rest := []) F hl (c_both_f l X w mo v σ (decide (0 ≤ wh ∧ wh ≤ 3)) hM hs hwf) hW hS hM rfl rfl ⟨Nat.le_of_ble_eq_true rfl, Nat.le_of_ble_eq_true rfl⟩ (Nat.le_of_ble_eq_true rfl) ⟨Nat.zero_le _, Nat.zero_le _⟩ dX9_letter_41 (fun w2 H locs hp3 hW hS => ?_)
    obtain ⟨ho4, hn5⟩ := hp3
    have hs := (hn5 _ (by omega)).trans hs
    refine h_ifneb (tgt := 49) F dX9_letter_44 (by decide) (fun c9 => absurd c9 (by decide)) (fun _ => ?_)
    refine h_iconst F dX9_letter_47 ?_
    exact h_ireti F hr hlk hW hS ⟨ho4, (fun q h09 => by rw [hn5 q (by omega)])⟩ dX9_letter_48
  refine lv_aload_n F.1 F.2.1 dX9_letter_0 rfl (lv_at hl 0 rfl) ?_
  refine lv_aload_n F.1 F.2.1 dX9_letter_1 rfl (lv_at hl 0 rfl) ?_
  refine lv_iload_n F.1 F.2.1 dX9_letter_2 rfl (lv_at hl 1 rfl) ?_
  refine cl_RX9_158 (As := [.int (iI k)]) (rest := [.ref mo]) F hl (c_X9_isCaption l X w mo v σ k hM hs hwf (by omega)) hW hS hM rfl rfl ⟨Nat.le_of_ble_eq_true rfl, Nat.le_of_ble_eq_true rfl⟩ (Nat.le_of_ble_eq_true rfl) ⟨Nat.zero_le _, Nat.zero_le _⟩ dX9_letter_3 (fun w1 H locs hp7 hW hS => ?_)
  rw [hp7] at hW; clear hp7; clear w1
  refine h_ifeqb (tgt := 31) F dX9_letter_6 (by decide) (fun c8 => ?_) (fun c8 => ?_)
  · have c8d := of_decide_eq_false c8
    refine h_iconst F dX9_letter_31 ?_
    refine h_top (show (0 : Int) = bz false from by first | exact bzf rfl | (exfalso; omega)) ?_
    exact join32  _ _ ls  hW hS (lv_sub hl [0, 1, 2, 3] rfl)
  · have c8d := of_decide_eq_true c8
    obtain ⟨m1, m2, m3, m4, m5, m6⟩ := hwf.2.2.1 k (by omega) (by omega)
    refine lv_iload_n F.1 F.2.1 dX9_letter_9 rfl (lv_at hl 2 rfl) ?_
    refine h_i2l F dX9_letter_10 (by omega) ?_
    refine h_lconst (n := 0) (z := 0) F dX9_letter_11 rfl ?_
    refine lv_aload_n F.1 F.2.1 dX9_letter_12 rfl (lv_at hl 0 rfl) ?_
    refine lv_iload_n F.1 F.2.1 dX9_letter_13 rfl (lv_at hl 1 rfl) ?_
    refine h_iconst F dX9_letter_14 ?_
    refine cl_RX9_95 (As := [.int (iI k), .int (iI 0)]) (rest := [.long (lI 0), .long (lI j), .ref mo]) F hl (c_X9_cap l X w mo v σ k 0 hM hs hwf (by omega)) hW hS hM rfl rfl ⟨Nat.le_of_ble_eq_true rfl, Nat.le_of_ble_eq_true rfl⟩ (Nat.le_of_ble_eq_true rfl) ⟨Nat.zero_le _, Nat.zero_le _⟩ dX9_letter_15 (fun w1 H locs hp9 hW hS => ?_)
    rw [hp9] at hW; clear hp9; clear w1
    refine h_iconst F dX9_letter_18 ?_
    refine h_isub (a := cp σ k 0) (b := 1) F dX9_letter_19 ?_
    refine h_i2l F dX9_letter_20 (by omega) ?_
    refine cl_RX9_82 (As := [.long (lI j), .long (lI 0), .long (lI ((cp σ k 0) - 1))]) (rest := [.ref mo]) F hl (c_X9_isIn l X w j 0 ((cp σ k 0) - 1) (by omega) (by omega) (by omega)) hW hS rfl rfl ⟨Nat.le_of_ble_eq_true rfl, Nat.le_of_ble_eq_true rfl⟩ (Nat.le_of_ble_eq_true rfl) ⟨Nat.zero_le _, Nat.zero_le _⟩ dX9_letter_21 (fun w1 H locs hp10 hW hS => ?_)
    rw [hp10] at hW; clear hp10; clear w1
    refine h_ifeqb (tgt := 31) F dX9_letter_24 (by decide) (fun c11 => ?_) (fun c11 => ?_)
    · have c11d := of_decide_eq_false c11
      refine h_iconst F dX9_letter_31 ?_
      refine h_top (show (0 : Int) = bz false from by first | exact bzf rfl | (exfalso; omega)) ?_
      exact join32  _ _ ls  hW hS (lv_sub hl [0, 1, 2, 3] rfl)
    · have c11d := of_decide_eq_true c11
      exfalso; omega
set_option maxHeartbeats 4000000 in
set_option maxRecDepth 100000 in
theorem c_X9_letter_x2 (l : Launch) (X : Cx) (w : Wo) (mo : Nat) (v σ : Int → Int) (k j wh : Int) (hM : w mo = some (.inr (9, mL mo v))) (hs : w (mo + 1) = some (aZ X 1317 σ)) (hwf : WF σ) (hk : 0 ≤ k ∧ k < σ 5) (hj : 0 ≤ j ∧ j < cp σ k 0) (hw : -2147483648 ≤ wh ∧ wh < 2147483648) (hb : ¬ (0 ≤ wh ∧ wh ≤ 3)) : CM l X yX9_letter cX9_letter 4 (some (.int)) (rmk 4 97) [.ref mo, .int (iI k), .int (iI j), .int (iI wh)] w (some (.int (iI 0))) (fun w' => w' mo = some (.inr (9, mL mo (up v 6 2))) ∧ ∀ q : Nat, q ≠ mo → w' q = w q) := by
  refine CM.of (lv := [(0, .ref mo), (1, .int (iI k)), (2, .int (iI j)), (3, .int (iI wh))]) (by decide) (Nat.le_of_ble_eq_true rfl) rfl (fun p e s m below meth c ls F hr hlk hin hW hS hl => ?_)
  have hZ0 := hW.2.2
  have hB9 := hW.1.2
  clear hin
  have hF := hwf.1
  unfold WF0 at hF
  obtain ⟨m1, m2, m3, m4, m5, m6⟩ := hwf.2.2.1 k (by omega) (by omega)
  have join32 : ∀ (H : Heap) (locs : List Loc) (ls : Array Slot), Wd X w s H → va_S (cxA X) s.heap H locs → lv_has ls 4 [(0, .ref mo), (1, .int (iI k)), (2, .int (iI j)), (3, .int (iI wh))] → W p l e (rmk 4 97) s m (List.toArray [.ref mo, .int (iI k), .int (iI j), .int (iI wh)]) below meth c H locs 0 0 (MX X below (List.toArray [.ref mo, .int (iI k), .int (iI j), .int (iI wh)]) s 0 0 (some (.int (iI 0))) (fun w' => w' mo = some (.inr (9, mL mo (up v 6 2))) ∧ ∀ q : Nat, q ≠ mo → w' q = w q)) (F0 m 32 ls [.int (iI (bz true)), .ref mo]) := by
    intro  H locs ls  hW hS hl
    refine lv_iload_n F.1 F.2.1 dX9_letter_32 rfl (lv_at hl 3 rfl) ?_
    refine h_i2l F dX9_letter_33 (by omega) ?_
    refine h_lconst (n := 0) (z := 0) F dX9_letter_34 rfl ?_
    refine h_ldc2 (n := 3) F kk_RX9_181 dX9_letter_35 ?_
    refine cl_RX9_82 (As := [.long (lI wh), .long (lI 0), .long (lI 3)]) (rest := [.int (iI (bz true)), .ref mo]) F hl (c_X9_isIn l X w wh 0 3 (by omega) (by omega) (by omega)) hW hS rfl rfl ⟨Nat.le_of_ble_eq_true rfl, Nat.le_of_ble_eq_true rfl⟩ (Nat.le_of_ble_eq_true rfl) ⟨Nat.zero_le _, Nat.zero_le _⟩ dX9_letter_38 (fun w1 H locs hp1 hW hS => ?_)
    rw [hp1] at hW; clear hp1; clear w1
    refine h_top (show (bz (decide (0 ≤ wh ∧ wh ≤ 3)) : Int) = bz false from congrArg bz (decide_eq_false (by omega))) ?_
    refine cl_RX9_163 (As := [.int (iI (bz true)), .int (iI (bz false))]) (rest := []) F hl (c_both_tf l X w mo v σ hM hs hwf) hW hS hM rfl rfl ⟨Nat.le_of_ble_eq_true rfl, Nat.le_of_ble_eq_true rfl⟩ (Nat.le_of_ble_eq_true rfl) ⟨Nat.zero_le _, Nat.zero_le _⟩ dX9_letter_41 (fun w2 H locs hp3 hW hS => ?_)
    obtain ⟨ho4, hn5⟩ := hp3
    have hs := (hn5 _ (by omega)).trans hs
    refine h_ifneb (tgt := 49) F dX9_letter_44 (by decide) (fun c9 => absurd c9 (by decide)) (fun _ => ?_)
    refine h_iconst F dX9_letter_47 ?_
    exact h_ireti F hr hlk hW hS ⟨ho4, (fun q h09 => by rw [hn5 q (by omega)])⟩ dX9_letter_48
  refine lv_aload_n F.1 F.2.1 dX9_letter_0 rfl (lv_at hl 0 rfl) ?_
  refine lv_aload_n F.1 F.2.1 dX9_letter_1 rfl (lv_at hl 0 rfl) ?_
  refine lv_iload_n F.1 F.2.1 dX9_letter_2 rfl (lv_at hl 1 rfl) ?_
  refine cl_RX9_158 (As := [.int (iI k)]) (rest := [.ref mo]) F hl (c_X9_isCaption l X w mo v σ k hM hs hwf (by omega)) hW hS hM rfl rfl ⟨Nat.le_of_ble_eq_true rfl, Nat.le_of_ble_eq_true rfl⟩ (Nat.le_of_ble_eq_true rfl) ⟨Nat.zero_le _, Nat.zero_le _⟩ dX9_letter_3 (fun w1 H locs hp7 hW hS => ?_)
  rw [hp7] at hW; clear hp7; clear w1
  refine h_ifeqb (tgt := 31) F dX9_letter_6 (by decide) (fun c8 => ?_) (fun c8 => ?_)
  · have c8d := of_decide_eq_false c8
    exfalso; omega
  · have c8d := of_decide_eq_true c8
    refine lv_iload_n F.1 F.2.1 dX9_letter_9 rfl (lv_at hl 2 rfl) ?_
    refine h_i2l F dX9_letter_10 (by omega) ?_
    refine h_lconst (n := 0) (z := 0) F dX9_letter_11 rfl ?_
    refine lv_aload_n F.1 F.2.1 dX9_letter_12 rfl (lv_at hl 0 rfl) ?_
    refine lv_iload_n F.1 F.2.1 dX9_letter_13 rfl (lv_at hl 1 rfl) ?_
    refine h_iconst F dX9_letter_14 ?_
    refine cl_RX9_95 (As := [.int (iI k), .int (iI 0)]) (rest := [.long (lI 0), .long (lI j), .ref mo]) F hl (c_X9_cap l X w mo v σ k 0 hM hs hwf (by omega)) hW hS hM rfl rfl ⟨Nat.le_of_ble_eq_true rfl, Nat.le_of_ble_eq_true rfl⟩ (Nat.le_of_ble_eq_true rfl) ⟨Nat.zero_le _, Nat.zero_le _⟩ dX9_letter_15 (fun w1 H locs hp9 hW hS => ?_)
    rw [hp9] at hW; clear hp9; clear w1
    refine h_iconst F dX9_letter_18 ?_
    refine h_isub (a := cp σ k 0) (b := 1) F dX9_letter_19 ?_
    refine h_i2l F dX9_letter_20 (by omega) ?_
    refine cl_RX9_82 (As := [.long (lI j), .long (lI 0), .long (lI ((cp σ k 0) - 1))]) (rest := [.ref mo]) F hl (c_X9_isIn l X w j 0 ((cp σ k 0) - 1) (by omega) (by omega) (by omega)) hW hS rfl rfl ⟨Nat.le_of_ble_eq_true rfl, Nat.le_of_ble_eq_true rfl⟩ (Nat.le_of_ble_eq_true rfl) ⟨Nat.zero_le _, Nat.zero_le _⟩ dX9_letter_21 (fun w1 H locs hp10 hW hS => ?_)
    rw [hp10] at hW; clear hp10; clear w1
    refine h_ifeqb (tgt := 31) F dX9_letter_24 (by decide) (fun c11 => ?_) (fun c11 => ?_)
    · have c11d := of_decide_eq_false c11
      exfalso; omega
    · have c11d := of_decide_eq_true c11
      refine h_iconst F dX9_letter_27 ?_
      refine h_goto (tgt := 32) F dX9_letter_28 (by decide) ?_
      refine h_top (show (1 : Int) = bz true from by first | exact bzt rfl | (exfalso; omega)) ?_
      exact join32  _ _ ls  hW hS (lv_sub hl [0, 1, 2, 3] rfl)
set_option maxHeartbeats 4000000 in
set_option maxRecDepth 100000 in
theorem c_X9_account (l : Launch) (X : Cx) (w : Wo) (mo : Nat) (v σ : Int → Int) (ac : Int → Int) (wh : Int) (hM : w mo = some (.inr (9, mL mo v))) (hs : w (mo + 1) = some (aZ X 1317 σ)) (hwf : WF σ) (hac : w (mo + 6) = some (aZ X 8 ac)) (hw : 0 ≤ wh ∧ wh ≤ 8) : CM l X yX9_account cX9_account 2 (some (.int)) (rmk 1 25) [.ref mo, .int (iI wh)] w (some (.int (iI (accQ v ac wh)))) (fun w' => w' mo = some (.inr (9, mL mo (up v 6 0))) ∧ ∀ q : Nat, q ≠ mo → w' q = w q) := by
  refine CM.of (lv := [(0, .ref mo), (1, .int (iI wh))]) (by decide) (Nat.le_of_ble_eq_true rfl) rfl (fun p e s m below meth c ls F hr hlk hin hW hS hl => ?_)
  have hZ0 := hW.2.2
  have hB9 := hW.1.2
  clear hin
  have hF := hwf.1
  unfold WF0 at hF
  refine lv_aload_n F.1 F.2.1 dX9_account_0 rfl (lv_at hl 0 rfl) ?_
  refine lv_iload_n F.1 F.2.1 dX9_account_1 rfl (lv_at hl 1 rfl) ?_
  refine h_i2l F dX9_account_2 (by omega) ?_
  refine h_lconst (n := 0) (z := 0) F dX9_account_3 rfl ?_
  refine h_ldc2 (n := 8) F kk_RX9_183 dX9_account_4 ?_
  refine cl_RX9_82 (As := [.long (lI wh), .long (lI 0), .long (lI 8)]) (rest := [.ref mo]) F hl (c_X9_isIn l X w wh 0 8 (by omega) (by omega) (by omega)) hW hS rfl rfl ⟨Nat.le_of_ble_eq_true rfl, Nat.le_of_ble_eq_true rfl⟩ (Nat.le_of_ble_eq_true rfl) ⟨Nat.zero_le _, Nat.zero_le _⟩ dX9_account_7 (fun w1 H locs hp1 hW hS => ?_)
  rw [hp1] at hW; clear hp1; clear w1
  refine h_top (show (bz (decide (0 ≤ wh ∧ wh ≤ 8)) : Int) = bz true from congrArg bz (decide_eq_true (by omega))) ?_
  refine cl_RX9_74 (As := [.int (iI (bz true))]) (rest := []) F hl (c_pass_t l X w mo v σ hM hs hwf) hW hS hM rfl rfl ⟨Nat.le_of_ble_eq_true rfl, Nat.le_of_ble_eq_true rfl⟩ (Nat.le_of_ble_eq_true rfl) ⟨Nat.zero_le _, Nat.zero_le _⟩ dX9_account_10 (fun w2 H locs hp3 hW hS => ?_)
  obtain ⟨ho4, hn5⟩ := hp3
  have hs := (hn5 _ (by omega)).trans hs
  have hac := (hn5 _ (by omega)).trans hac
  refine h_ifneb (tgt := 18) F dX9_account_13 (by decide) (fun _ => ?_) (fun c9 => absurd c9 (by decide))
  refine lv_iload_n F.1 F.2.1 dX9_account_18 rfl (lv_at hl 1 rfl) ?_
  refine h_ifne (tgt := 29) F dX9_account_19 (by decide) (by omega) (fun c7 => ?_) (fun c7 => ?_)
  · refine lv_iload_n F.1 F.2.1 dX9_account_29 rfl (lv_at hl 1 rfl) ?_
    refine h_bipush F dX9_account_30 rfl ?_
    refine h_icne (tgt := 42) F dX9_account_32 (by decide) (by omega) (fun c8 => ?_) (fun c8 => ?_)
    · refine lv_aload_n F.1 F.2.1 dX9_account_42 rfl (lv_at hl 0 rfl) ?_
      refine gf_RX9_26 F hW ho4 rfl dX9_account_43 ?_
      refine lv_iload_n F.1 F.2.1 dX9_account_46 rfl (lv_at hl 1 rfl) ?_
      refine h_iald F hW hac (by omega) (by omega) dX9_account_47 ?_
      refine h_top (show (ac wh : Int) = accQ v ac wh from by unfold accQ; (repeat first | rw [if_pos (by omega)] | rw [if_neg (by omega)]) <;> rfl) ?_
      exact h_ireti F hr hlk hW hS ⟨ho4, (fun q h09 => by rw [hn5 q (by omega)])⟩ dX9_account_48
    · refine lv_aload_n F.1 F.2.1 dX9_account_35 rfl (lv_at hl 0 rfl) ?_
      refine gf_RX9_216 F hW ho4 rfl dX9_account_36 ?_
      refine h_top (show ((up v 6 0) 9 : Int) = v 9 from rfl) ?_
      refine h_goto (tgt := 48) F dX9_account_39 (by decide) ?_
      refine h_top (show (v 9 : Int) = accQ v ac wh from by unfold accQ; (repeat first | rw [if_pos (by omega)] | rw [if_neg (by omega)]) <;> rfl) ?_
      exact h_ireti F hr hlk hW hS ⟨ho4, (fun q h09 => by rw [hn5 q (by omega)])⟩ dX9_account_48
  · refine lv_aload_n F.1 F.2.1 dX9_account_22 rfl (lv_at hl 0 rfl) ?_
    refine gf_RX9_68 F hW ho4 rfl dX9_account_23 ?_
    refine h_top (show ((up v 6 0) 8 : Int) = v 8 from rfl) ?_
    refine h_goto (tgt := 48) F dX9_account_26 (by decide) ?_
    refine h_top (show (v 8 : Int) = accQ v ac wh from by unfold accQ; (repeat first | rw [if_pos (by omega)] | rw [if_neg (by omega)]) <;> rfl) ?_
    exact h_ireti F hr hlk hW hS ⟨ho4, (fun q h09 => by rw [hn5 q (by omega)])⟩ dX9_account_48
set_option maxHeartbeats 4000000 in
set_option maxRecDepth 100000 in
theorem c_X9_account_x (l : Launch) (X : Cx) (w : Wo) (mo : Nat) (v σ : Int → Int) (wh : Int) (hM : w mo = some (.inr (9, mL mo v))) (hs : w (mo + 1) = some (aZ X 1317 σ)) (hwf : WF σ) (hw : -2147483648 ≤ wh ∧ wh < 2147483648) (hb : ¬ (0 ≤ wh ∧ wh ≤ 8)) : CM l X yX9_account cX9_account 2 (some (.int)) (rmk 1 25) [.ref mo, .int (iI wh)] w (some (.int (iI 0))) (fun w' => w' mo = some (.inr (9, mL mo (up v 6 1))) ∧ ∀ q : Nat, q ≠ mo → w' q = w q) := by
  refine CM.of (lv := [(0, .ref mo), (1, .int (iI wh))]) (by decide) (Nat.le_of_ble_eq_true rfl) rfl (fun p e s m below meth c ls F hr hlk hin hW hS hl => ?_)
  have hZ0 := hW.2.2
  have hB9 := hW.1.2
  clear hin
  have hF := hwf.1
  unfold WF0 at hF
  refine lv_aload_n F.1 F.2.1 dX9_account_0 rfl (lv_at hl 0 rfl) ?_
  refine lv_iload_n F.1 F.2.1 dX9_account_1 rfl (lv_at hl 1 rfl) ?_
  refine h_i2l F dX9_account_2 (by omega) ?_
  refine h_lconst (n := 0) (z := 0) F dX9_account_3 rfl ?_
  refine h_ldc2 (n := 8) F kk_RX9_183 dX9_account_4 ?_
  refine cl_RX9_82 (As := [.long (lI wh), .long (lI 0), .long (lI 8)]) (rest := [.ref mo]) F hl (c_X9_isIn l X w wh 0 8 (by omega) (by omega) (by omega)) hW hS rfl rfl ⟨Nat.le_of_ble_eq_true rfl, Nat.le_of_ble_eq_true rfl⟩ (Nat.le_of_ble_eq_true rfl) ⟨Nat.zero_le _, Nat.zero_le _⟩ dX9_account_7 (fun w1 H locs hp1 hW hS => ?_)
  rw [hp1] at hW; clear hp1; clear w1
  refine h_top (show (bz (decide (0 ≤ wh ∧ wh ≤ 8)) : Int) = bz false from congrArg bz (decide_eq_false (by omega))) ?_
  refine cl_RX9_74 (As := [.int (iI (bz false))]) (rest := []) F hl (c_pass_f l X w mo v σ hM hs hwf) hW hS hM rfl rfl ⟨Nat.le_of_ble_eq_true rfl, Nat.le_of_ble_eq_true rfl⟩ (Nat.le_of_ble_eq_true rfl) ⟨Nat.zero_le _, Nat.zero_le _⟩ dX9_account_10 (fun w2 H locs hp3 hW hS => ?_)
  obtain ⟨ho4, hn5⟩ := hp3
  have hs := (hn5 _ (by omega)).trans hs
  refine h_ifneb (tgt := 18) F dX9_account_13 (by decide) (fun c9 => absurd c9 (by decide)) (fun _ => ?_)
  refine h_iconst F dX9_account_16 ?_
  exact h_ireti F hr hlk hW hS ⟨ho4, (fun q h09 => by rw [hn5 q (by omega)])⟩ dX9_account_17
set_option maxHeartbeats 4000000 in
set_option maxRecDepth 100000 in
theorem c_X9_lasts (l : Launch) (X : Cx) (w : Wo) (mo : Nat) (v σ : Int → Int) (hM : w mo = some (.inr (9, mL mo v))) (hs : w (mo + 1) = some (aZ X 1317 σ)) (hwf : WF σ) : CM l X yX9_lasts cX9_lasts 2 (some (.int)) (rmk 6 144) [.ref mo] w (some (.int (iI (fi (lastsP σ) 0 (σ 1 - σ 4))))) (fun w' => w' mo = some (.inr (9, mL mo (up v 6 0))) ∧ ∀ q : Nat, q ≠ mo → w' q = w q) := by
  refine CM.of (lv := [(0, .ref mo)]) (by decide) (Nat.le_of_ble_eq_true rfl) rfl (fun p e s m below meth c ls F hr hlk hin hW hS hl => ?_)
  have hZ0 := hW.2.2
  have hB9 := hW.1.2
  clear hin
  have hF := hwf.1
  unfold WF0 at hF
  refine lv_aload_n F.1 F.2.1 dX9_lasts_0 rfl (lv_at hl 0 rfl) ?_
  refine h_iconst F dX9_lasts_1 ?_
  refine pf_RX9_58 F hW hS hM (Nat.le_of_ble_eq_true rfl) dX9_lasts_2 (fun w1 H locs ho3 hn2 hW hS => ?_)
  rw [mL_6] at ho3
  have hs := (hn2 _ (by omega)).trans hs
  refine h_iconst F dX9_lasts_5 ?_
  refine lv_istore_n (lv' := [(1, .int (iI 0)), (0, .ref mo)]) F.1 F.2.1 dX9_lasts_6 rfl hl (by decide) rfl (fun ls hl => ?_)
  have loop7 : ∀ (n9 : Nat) (i : Int), (hrg : 0 ≤ i ∧ i ≤ σ 1 - σ 4) → (hms : σ 1 - σ 4 - i < (n9 : Int)) → (hno : ∀ j, 0 ≤ j → j < i → lastsP σ j = false) → (H : Heap) → (locs : List Loc) → (ls : Array Slot) → Wd X w1 s H → va_S (cxA X) s.heap H locs → lv_has ls 2 [(1, .int (iI i)), (0, .ref mo)] → W p l e (rmk 6 144) s m (List.toArray [.ref mo]) below meth c H locs 0 0 (MX X below (List.toArray [.ref mo]) s 0 0 (some (.int (iI (fi (lastsP σ) 0 (σ 1 - σ 4))))) (fun w' => w' mo = some (.inr (9, mL mo (up v 6 0))) ∧ ∀ q : Nat, q ≠ mo → w' q = w q)) (F0 m 7 ls []) := by
    intro n9
    induction n9 with
    | zero => intro i  hrg hms; exfalso; omega
    | succ n9 ih7 =>
      intro i  hrg hms  hno H locs ls hW hS hl
      refine lv_aload_n F.1 F.2.1 dX9_lasts_7 rfl (lv_at hl 1 rfl) ?_
      refine gf_RX9_7 F hW ho3 rfl dX9_lasts_8 ?_
      refine h_iconst F dX9_lasts_11 ?_
      refine h_iald F hW hs (by omega) (by omega) dX9_lasts_12 ?_
      refine lv_iload_n F.1 F.2.1 dX9_lasts_13 rfl (lv_at hl 0 rfl) ?_
      refine h_iadd (a := σ 4) (b := i) F dX9_lasts_14 ?_
      refine lv_aload_n F.1 F.2.1 dX9_lasts_15 rfl (lv_at hl 1 rfl) ?_
      refine gf_RX9_7 F hW ho3 rfl dX9_lasts_16 ?_
      refine h_iconst F dX9_lasts_19 ?_
      refine h_iald F hW hs (by omega) (by omega) dX9_lasts_20 ?_
      refine h_icge (tgt := 41) F dX9_lasts_21 (by decide) (by omega) (fun c4 => ?_) (fun c4 => ?_)
      · refine lv_iload_n F.1 F.2.1 dX9_lasts_41 rfl (lv_at hl 0 rfl) ?_
        refine h_top (show (i : Int) = fi (lastsP σ) 0 (σ 1 - σ 4) from by first | (rw [fi_none (by omega) (fun j h1 h2 => hno j h1 (by omega))]; omega) | rw [fi_hit (by omega) (by omega) hno (by unfold lastsP; rw [‹enoS σ false (i + 1) = false›]; rfl)]) ?_
        exact h_ireti F hr hlk hW hS ⟨ho3, (fun q h09 => by rw [hn2 q (by omega)])⟩ dX9_lasts_42
      · refine lv_aload_n F.1 F.2.1 dX9_lasts_24 rfl (lv_at hl 1 rfl) ?_
        refine lv_iload_n F.1 F.2.1 dX9_lasts_25 rfl (lv_at hl 0 rfl) ?_
        refine h_iconst F dX9_lasts_26 ?_
        refine h_iadd (a := i) (b := 1) F dX9_lasts_27 ?_
        refine h_iconst F dX9_lasts_28 ?_
        refine cl_RX9_225 (As := [.int (iI (i + 1)), .int (iI 0)]) (rest := []) F hl (c_X9_isEnough l X w1 mo (up v 6 0) σ (i + 1) false ho3 hs hwf (by omega)) hW hS ho3 rfl rfl ⟨Nat.le_of_ble_eq_true rfl, Nat.le_of_ble_eq_true rfl⟩ (Nat.le_of_ble_eq_true rfl) ⟨Nat.zero_le _, Nat.zero_le _⟩ dX9_lasts_29 (fun w1 H locs hp5 hW hS => ?_)
        rw [hp5] at hW; clear hp5; clear w1
        refine h_ifeqb (tgt := 41) F dX9_lasts_32 (by decide) (fun c6 => ?_) (fun c6 => ?_)
        · refine lv_iload_n F.1 F.2.1 dX9_lasts_41 rfl (lv_at hl 0 rfl) ?_
          refine h_top (show (i : Int) = fi (lastsP σ) 0 (σ 1 - σ 4) from by first | (rw [fi_none (by omega) (fun j h1 h2 => hno j h1 (by omega))]; omega) | rw [fi_hit (by omega) (by omega) hno (by unfold lastsP; rw [‹enoS σ false (i + 1) = false›]; rfl)]) ?_
          exact h_ireti F hr hlk hW hS ⟨ho3, (fun q h09 => by rw [hn2 q (by omega)])⟩ dX9_lasts_42
        · refine h_iinc (k := 0) (a := i) (lv' := [(1, .int (iI (i + 1))), (0, .ref mo)]) F dX9_lasts_35 hl rfl (by decide) rfl (fun ls hl => ?_)
          refine h_goto (tgt := 7) F dX9_lasts_38 (by decide) ?_
          have eq7 : ((i + 1) : Int) = i + 1 := by first | rfl | omega | simp
          exact ih7 (i + 1)  (by omega) (by omega)  (fun j h1 h2 => (by by_cases hj : j = i; (rw [hj]; unfold lastsP; rw [‹enoS σ false (i + 1) = true›]; rfl); exact hno j h1 (by omega))) _ _ ls hW hS (by rw [eq7]; exact lv_sub hl [0, 1] rfl)
  exact loop7 ((σ 1 - σ 4 - 0) + 1 : Int).toNat 0  (by omega) (by omega)  (fun j h1 h2 => by omega) _ _ ls hW hS (lv_sub hl [0, 1] rfl)
set_option maxHeartbeats 4000000 in
set_option maxRecDepth 100000 in
theorem c_X9_minutes (l : Launch) (X : Cx) (w : Wo) (mo : Nat) (v σ : Int → Int) (rows : Int) (hM : w mo = some (.inr (9, mL mo v))) (hs : w (mo + 1) = some (aZ X 1317 σ)) (hwf : WF σ) (hrows : 0 ≤ rows ∧ rows ≤ 30) : CM l X yX9_minutes cX9_minutes 6 (some (.int)) (rmk 4 94) [.ref mo, .int (iI rows)] w (some (.int (iI (minQ σ rows)))) (fun w' => w' mo = some (.inr (9, mL mo (up v 6 0))) ∧ ∀ q : Nat, q ≠ mo → w' q = w q) := by
  refine CM.of (lv := [(0, .ref mo), (1, .int (iI rows))]) (by decide) (Nat.le_of_ble_eq_true rfl) rfl (fun p e s m below meth c ls F hr hlk hin hW hS hl => ?_)
  have hZ0 := hW.2.2
  have hB9 := hW.1.2
  clear hin
  have hF := hwf.1
  unfold WF0 at hF
  refine lv_aload_n F.1 F.2.1 dX9_minutes_0 rfl (lv_at hl 0 rfl) ?_
  refine lv_iload_n F.1 F.2.1 dX9_minutes_1 rfl (lv_at hl 1 rfl) ?_
  refine h_i2l F dX9_minutes_2 (by omega) ?_
  refine h_lconst (n := 0) (z := 0) F dX9_minutes_3 rfl ?_
  refine h_ldc2 (n := 30) F kk_RX9_211 dX9_minutes_4 ?_
  refine cl_RX9_82 (As := [.long (lI rows), .long (lI 0), .long (lI 30)]) (rest := [.ref mo]) F hl (c_X9_isIn l X w rows 0 30 (by omega) (by omega) (by omega)) hW hS rfl rfl ⟨Nat.le_of_ble_eq_true rfl, Nat.le_of_ble_eq_true rfl⟩ (Nat.le_of_ble_eq_true rfl) ⟨Nat.zero_le _, Nat.zero_le _⟩ dX9_minutes_7 (fun w1 H locs hp1 hW hS => ?_)
  rw [hp1] at hW; clear hp1; clear w1
  refine h_top (show (bz (decide (0 ≤ rows ∧ rows ≤ 30)) : Int) = bz true from congrArg bz (decide_eq_true (by omega))) ?_
  refine cl_RX9_74 (As := [.int (iI (bz true))]) (rest := []) F hl (c_pass_t l X w mo v σ hM hs hwf) hW hS hM rfl rfl ⟨Nat.le_of_ble_eq_true rfl, Nat.le_of_ble_eq_true rfl⟩ (Nat.le_of_ble_eq_true rfl) ⟨Nat.zero_le _, Nat.zero_le _⟩ dX9_minutes_10 (fun w2 H locs hp3 hW hS => ?_)
  obtain ⟨ho4, hn5⟩ := hp3
  have hs := (hn5 _ (by omega)).trans hs
  refine h_ifneb (tgt := 18) F dX9_minutes_13 (by decide) (fun _ => ?_) (fun c9 => absurd c9 (by decide))
  refine h_iconst F dX9_minutes_18 ?_
  refine lv_istore_n (lv' := [(2, .int (iI 0)), (0, .ref mo), (1, .int (iI rows))]) F.1 F.2.1 dX9_minutes_19 rfl hl (by decide) rfl (fun ls hl => ?_)
  refine lv_aload_n F.1 F.2.1 dX9_minutes_20 rfl (lv_at hl 1 rfl) ?_
  refine gf_RX9_7 F hW ho4 rfl dX9_minutes_21 ?_
  refine h_iconst F dX9_minutes_24 ?_
  refine h_iald F hW hs (by omega) (by omega) dX9_minutes_25 ?_
  refine lv_istore_n (lv' := [(3, .int (iI (σ 4))), (2, .int (iI 0)), (0, .ref mo), (1, .int (iI rows))]) F.1 F.2.1 dX9_minutes_26 rfl hl (by decide) rfl (fun ls hl => ?_)
  have loop27 : ∀ (n9 : Nat) (r : Int), (hrg : σ 4 ≤ r ∧ r ≤ min (σ 1) (σ 4 + rows)) → (hms : min (σ 1) (σ 4 + rows) - r < (n9 : Int)) → (H : Heap) → (locs : List Loc) → (ls : Array Slot) → Wd X w2 s H → va_S (cxA X) s.heap H locs → lv_has ls 6 [(2, .int (iI (sm (fun z => minZ (σ 0) (jwS σ z)) (σ 4) r))), (3, .int (iI r)), (0, .ref mo), (1, .int (iI rows))] → W p l e (rmk 4 94) s m (List.toArray [.ref mo, .int (iI rows)]) below meth c H locs 0 0 (MX X below (List.toArray [.ref mo, .int (iI rows)]) s 0 0 (some (.int (iI (minQ σ rows)))) (fun w' => w' mo = some (.inr (9, mL mo (up v 6 0))) ∧ ∀ q : Nat, q ≠ mo → w' q = w q)) (F0 m 27 ls []) := by
    intro n9
    induction n9 with
    | zero => intro r  hrg hms; exfalso; omega
    | succ n9 ih27 =>
      intro r  hrg hms   H locs ls hW hS hl
      refine lv_iload_n F.1 F.2.1 dX9_minutes_27 rfl (lv_at hl 1 rfl) ?_
      refine lv_aload_n F.1 F.2.1 dX9_minutes_28 rfl (lv_at hl 2 rfl) ?_
      refine gf_RX9_7 F hW ho4 rfl dX9_minutes_29 ?_
      refine h_iconst F dX9_minutes_32 ?_
      refine h_iald F hW hs (by omega) (by omega) dX9_minutes_33 ?_
      refine lv_aload_n F.1 F.2.1 dX9_minutes_34 rfl (lv_at hl 2 rfl) ?_
      refine gf_RX9_7 F hW ho4 rfl dX9_minutes_35 ?_
      refine h_iconst F dX9_minutes_38 ?_
      refine h_iald F hW hs (by omega) (by omega) dX9_minutes_39 ?_
      refine lv_iload_n F.1 F.2.1 dX9_minutes_40 rfl (lv_at hl 3 rfl) ?_
      refine h_iadd (a := σ 4) (b := rows) F dX9_minutes_41 ?_
      refine h_mmin (index := 167) (a := σ 1) (b := (σ 4) + rows) F hl km_RX9_167 (Nat.le_of_ble_eq_true rfl) (Nat.le_of_ble_eq_true rfl) (Nat.zero_le _) (Nat.zero_le _) (by omega) dX9_minutes_42 ?_
      refine h_icge (tgt := 124) F dX9_minutes_45 (by decide) (by omega) (fun c7 => ?_) (fun c7 => ?_)
      · refine lv_iload_n F.1 F.2.1 dX9_minutes_124 rfl (lv_at hl 0 rfl) ?_
        refine h_top (show (sm (fun z => minZ (σ 0) (jwS σ z)) (σ 4) r : Int) = minQ σ rows from by rw [show r = min (σ 1) (σ 4 + rows) by omega]; rfl) ?_
        exact h_ireti F hr hlk hW hS ⟨ho4, (fun q h09 => by rw [hn5 q (by omega)])⟩ dX9_minutes_125
      · refine h_iconst F dX9_minutes_48 ?_
        refine lv_istore (lv' := [(4, .int (iI 0)), (2, .int (iI (sm (fun z => minZ (σ 0) (jwS σ z)) (σ 4) r))), (3, .int (iI r)), (0, .ref mo), (1, .int (iI rows))]) F.1 F.2.1 dX9_minutes_49 hl (by decide) rfl (fun ls hl => ?_)
        refine h_iconst F dX9_minutes_51 ?_
        refine lv_istore (lv' := [(5, .int (iI 0)), (4, .int (iI 0)), (2, .int (iI (sm (fun z => minZ (σ 0) (jwS σ z)) (σ 4) r))), (3, .int (iI r)), (0, .ref mo), (1, .int (iI rows))]) F.1 F.2.1 dX9_minutes_52 hl (by decide) rfl (fun ls hl => ?_)
        have loop54 : ∀ (n9 : Nat) (i : Int), (hrg : 0 ≤ i ∧ i ≤ σ 0 - 1) → (hms : σ 0 - 1 - i < (n9 : Int)) → (H : Heap) → (locs : List Loc) → (ls : Array Slot) → Wd X w2 s H → va_S (cxA X) s.heap H locs → lv_has ls 6 [(4, .int (iI (cnt (fun z => decide (wvS σ z r ≠ wvS σ (z + 1) r)) 0 i))), (5, .int (iI i)), (2, .int (iI (sm (fun z => minZ (σ 0) (jwS σ z)) (σ 4) r))), (3, .int (iI r)), (0, .ref mo), (1, .int (iI rows))] → W p l e (rmk 4 94) s m (List.toArray [.ref mo, .int (iI rows)]) below meth c H locs 0 0 (MX X below (List.toArray [.ref mo, .int (iI rows)]) s 0 0 (some (.int (iI (minQ σ rows)))) (fun w' => w' mo = some (.inr (9, mL mo (up v 6 0))) ∧ ∀ q : Nat, q ≠ mo → w' q = w q)) (F0 m 54 ls []) := by
          intro n9
          induction n9 with
          | zero => intro i  hrg hms; exfalso; omega
          | succ n9 ih54 =>
            intro i  hrg hms   H locs ls hW hS hl
            refine lv_iload F.1 F.2.1 dX9_minutes_54 (lv_at hl 1 rfl) ?_
            refine h_iconst F dX9_minutes_56 ?_
            refine h_iadd (a := i) (b := 1) F dX9_minutes_57 ?_
            refine lv_aload_n F.1 F.2.1 dX9_minutes_58 rfl (lv_at hl 4 rfl) ?_
            refine gf_RX9_7 F hW ho4 rfl dX9_minutes_59 ?_
            refine h_iconst F dX9_minutes_62 ?_
            refine h_iald F hW hs (by omega) (by omega) dX9_minutes_63 ?_
            refine h_icge (tgt := 104) F dX9_minutes_64 (by decide) (by omega) (fun c8 => ?_) (fun c8 => ?_)
            · refine lv_iload_n F.1 F.2.1 dX9_minutes_104 rfl (lv_at hl 2 rfl) ?_
              refine lv_aload_n F.1 F.2.1 dX9_minutes_105 rfl (lv_at hl 4 rfl) ?_
              refine gf_RX9_7 F hW ho4 rfl dX9_minutes_106 ?_
              refine h_iconst F dX9_minutes_109 ?_
              refine h_iald F hW hs (by omega) (by omega) dX9_minutes_110 ?_
              refine lv_iload F.1 F.2.1 dX9_minutes_111 (lv_at hl 0 rfl) ?_
              have hjr := jwS_r hwf r
              have hje : cnt (fun z => decide (wvS σ z r ≠ wvS σ (z + 1) r)) 0 i = jwS σ r := by rw [show i = σ 0 - 1 by omega]; rfl
              refine cl_RX9_229 (As := [.int (iI (σ 0)), .int (iI (cnt (fun z => decide (wvS σ z r ≠ wvS σ (z + 1) r)) 0 i))]) (rest := [.int (iI (sm (fun z => minZ (σ 0) (jwS σ z)) (σ 4) r))]) F hl (c_X9_minutesOf l X w2 (σ 0) (cnt (fun z => decide (wvS σ z r ≠ wvS σ (z + 1) r)) 0 i) (by omega) (by omega)) hW hS rfl rfl ⟨Nat.le_of_ble_eq_true rfl, Nat.le_of_ble_eq_true rfl⟩ (Nat.le_of_ble_eq_true rfl) ⟨Nat.zero_le _, Nat.zero_le _⟩ dX9_minutes_113 (fun w1 H locs hp9 hW hS => ?_)
              rw [hp9] at hW; clear hp9; clear w1
              refine h_top (show (minZ (σ 0) (cnt (fun z => decide (wvS σ z r ≠ wvS σ (z + 1) r)) 0 i) : Int) = minZ (σ 0) (jwS σ r) from by rw [hje]) ?_
              refine h_iadd (a := sm (fun z => minZ (σ 0) (jwS σ z)) (σ 4) r) (b := minZ (σ 0) (jwS σ r)) F dX9_minutes_116 ?_
              refine lv_istore_n (lv' := [(2, .int (iI ((sm (fun z => minZ (σ 0) (jwS σ z)) (σ 4) r) + (minZ (σ 0) (jwS σ r))))), (4, .int (iI (cnt (fun z => decide (wvS σ z r ≠ wvS σ (z + 1) r)) 0 i))), (5, .int (iI i)), (3, .int (iI r)), (0, .ref mo), (1, .int (iI rows))]) F.1 F.2.1 dX9_minutes_117 rfl hl (by decide) rfl (fun ls hl => ?_)
              refine h_iinc (k := 3) (a := r) (lv' := [(3, .int (iI (r + 1))), (2, .int (iI ((sm (fun z => minZ (σ 0) (jwS σ z)) (σ 4) r) + (minZ (σ 0) (jwS σ r))))), (4, .int (iI (cnt (fun z => decide (wvS σ z r ≠ wvS σ (z + 1) r)) 0 i))), (5, .int (iI i)), (0, .ref mo), (1, .int (iI rows))]) F dX9_minutes_118 hl rfl (by decide) rfl (fun ls hl => ?_)
              refine h_goto (tgt := 27) F dX9_minutes_121 (by decide) ?_
              have eq10 : (sm (fun z => minZ (σ 0) (jwS σ z)) (σ 4) (r + 1) : Int) = (sm (fun z => minZ (σ 0) (jwS σ z)) (σ 4) r) + (minZ (σ 0) (jwS σ r)) := by rw [sm_s _ (by omega)]
              have eq11 : ((r + 1) : Int) = r + 1 := by first | rfl | omega | simp
              exact ih27 (r + 1)  (by omega) (by omega)   _ _ ls hW hS (by rw [eq10, eq11]; exact lv_sub hl [1, 0, 4, 5] rfl)
            · refine lv_iload F.1 F.2.1 dX9_minutes_67 (lv_at hl 0 rfl) ?_
              refine lv_aload_n F.1 F.2.1 dX9_minutes_69 rfl (lv_at hl 4 rfl) ?_
              refine lv_iload F.1 F.2.1 dX9_minutes_70 (lv_at hl 1 rfl) ?_
              refine lv_iload_n F.1 F.2.1 dX9_minutes_72 rfl (lv_at hl 3 rfl) ?_
              refine h_iconst F dX9_minutes_73 ?_
              refine cl_RX9_219 (As := [.int (iI i), .int (iI r), .int (iI 0)]) (rest := [.int (iI (cnt (fun z => decide (wvS σ z r ≠ wvS σ (z + 1) r)) 0 i))]) F hl (c_X9_wovenAt l X w2 mo (up v 6 0) σ i r false ho4 hs hwf (by omega)) hW hS ho4 rfl rfl ⟨Nat.le_of_ble_eq_true rfl, Nat.le_of_ble_eq_true rfl⟩ (Nat.le_of_ble_eq_true rfl) ⟨Nat.zero_le _, Nat.zero_le _⟩ dX9_minutes_74 (fun w1 H locs hp12 hW hS => ?_)
              rw [hp12] at hW; clear hp12; clear w1
              refine h_top (show ((if cellS σ i r = -1 then desS σ (if false then turnS σ i else i) r else cellS σ i r) : Int) = wvS σ i r from rfl) ?_
              refine lv_aload_n F.1 F.2.1 dX9_minutes_77 rfl (lv_at hl 4 rfl) ?_
              refine lv_iload F.1 F.2.1 dX9_minutes_78 (lv_at hl 1 rfl) ?_
              refine h_iconst F dX9_minutes_80 ?_
              refine h_iadd (a := i) (b := 1) F dX9_minutes_81 ?_
              refine lv_iload_n F.1 F.2.1 dX9_minutes_82 rfl (lv_at hl 3 rfl) ?_
              refine h_iconst F dX9_minutes_83 ?_
              refine cl_RX9_219 (As := [.int (iI (i + 1)), .int (iI r), .int (iI 0)]) (rest := [.int (iI (wvS σ i r)), .int (iI (cnt (fun z => decide (wvS σ z r ≠ wvS σ (z + 1) r)) 0 i))]) F hl (c_X9_wovenAt l X w2 mo (up v 6 0) σ (i + 1) r false ho4 hs hwf (by omega)) hW hS ho4 rfl rfl ⟨Nat.le_of_ble_eq_true rfl, Nat.le_of_ble_eq_true rfl⟩ (Nat.le_of_ble_eq_true rfl) ⟨Nat.zero_le _, Nat.zero_le _⟩ dX9_minutes_84 (fun w1 H locs hp13 hW hS => ?_)
              rw [hp13] at hW; clear hp13; clear w1
              refine h_top (show ((if cellS σ (i + 1) r = -1 then desS σ (if false then turnS σ (i + 1) else (i + 1)) r else cellS σ (i + 1) r) : Int) = wvS σ (i + 1) r from rfl) ?_
              have hj1 := wvS_r hwf i r (by omega) (by omega)
              have hj2 := wvS_r hwf (i + 1) r (by omega) (by omega)
              refine h_icne (tgt := 94) F dX9_minutes_87 (by decide) (by omega) (fun c14 => ?_) (fun c14 => ?_)
              · refine h_iconst F dX9_minutes_94 ?_
                refine h_iadd (a := cnt (fun z => decide (wvS σ z r ≠ wvS σ (z + 1) r)) 0 i) (b := 1) F dX9_minutes_95 ?_
                refine lv_istore (lv' := [(4, .int (iI ((cnt (fun z => decide (wvS σ z r ≠ wvS σ (z + 1) r)) 0 i) + 1))), (5, .int (iI i)), (2, .int (iI (sm (fun z => minZ (σ 0) (jwS σ z)) (σ 4) r))), (3, .int (iI r)), (0, .ref mo), (1, .int (iI rows))]) F.1 F.2.1 dX9_minutes_96 hl (by decide) rfl (fun ls hl => ?_)
                refine h_iinc (k := 1) (a := i) (lv' := [(5, .int (iI (i + 1))), (4, .int (iI ((cnt (fun z => decide (wvS σ z r ≠ wvS σ (z + 1) r)) 0 i) + 1))), (2, .int (iI (sm (fun z => minZ (σ 0) (jwS σ z)) (σ 4) r))), (3, .int (iI r)), (0, .ref mo), (1, .int (iI rows))]) F dX9_minutes_98 hl rfl (by decide) rfl (fun ls hl => ?_)
                refine h_goto (tgt := 54) F dX9_minutes_101 (by decide) ?_
                have eq15 : (cnt (fun z => decide (wvS σ z r ≠ wvS σ (z + 1) r)) 0 (i + 1) : Int) = (cnt (fun z => decide (wvS σ z r ≠ wvS σ (z + 1) r)) 0 i) + 1 := by first | rw [cnt_t (by omega) (decide_eq_true (by assumption))] | (rw [cnt_f (by omega) (decide_eq_false (by omega))]; omega)
                have eq16 : ((i + 1) : Int) = i + 1 := by first | rfl | omega | simp
                exact ih54 (i + 1)  (by omega) (by omega)   _ _ ls hW hS (by rw [eq15, eq16]; exact lv_sub hl [1, 0, 2, 3, 4, 5] rfl)
              · refine h_iconst F dX9_minutes_90 ?_
                refine h_goto (tgt := 95) F dX9_minutes_91 (by decide) ?_
                refine h_iadd (a := cnt (fun z => decide (wvS σ z r ≠ wvS σ (z + 1) r)) 0 i) (b := 0) F dX9_minutes_95 ?_
                refine lv_istore (lv' := [(4, .int (iI ((cnt (fun z => decide (wvS σ z r ≠ wvS σ (z + 1) r)) 0 i) + 0))), (5, .int (iI i)), (2, .int (iI (sm (fun z => minZ (σ 0) (jwS σ z)) (σ 4) r))), (3, .int (iI r)), (0, .ref mo), (1, .int (iI rows))]) F.1 F.2.1 dX9_minutes_96 hl (by decide) rfl (fun ls hl => ?_)
                refine h_iinc (k := 1) (a := i) (lv' := [(5, .int (iI (i + 1))), (4, .int (iI ((cnt (fun z => decide (wvS σ z r ≠ wvS σ (z + 1) r)) 0 i) + 0))), (2, .int (iI (sm (fun z => minZ (σ 0) (jwS σ z)) (σ 4) r))), (3, .int (iI r)), (0, .ref mo), (1, .int (iI rows))]) F dX9_minutes_98 hl rfl (by decide) rfl (fun ls hl => ?_)
                refine h_goto (tgt := 54) F dX9_minutes_101 (by decide) ?_
                have eq17 : (cnt (fun z => decide (wvS σ z r ≠ wvS σ (z + 1) r)) 0 (i + 1) : Int) = (cnt (fun z => decide (wvS σ z r ≠ wvS σ (z + 1) r)) 0 i) + 0 := by first | rw [cnt_t (by omega) (decide_eq_true (by assumption))] | (rw [cnt_f (by omega) (decide_eq_false (by omega))]; omega)
                have eq18 : ((i + 1) : Int) = i + 1 := by first | rfl | omega | simp
                exact ih54 (i + 1)  (by omega) (by omega)   _ _ ls hW hS (by rw [eq17, eq18]; exact lv_sub hl [1, 0, 2, 3, 4, 5] rfl)
        have eq19 : (cnt (fun z => decide (wvS σ z r ≠ wvS σ (z + 1) r)) 0 0 : Int) = 0 := cnt_0 _ _
        exact loop54 ((σ 0 - 1 - 0) + 1 : Int).toNat 0  (by omega) (by omega)   _ _ ls hW hS (by rw [eq19]; exact lv_sub hl [1, 0, 2, 3, 4, 5] rfl)
  have eq20 : (sm (fun z => minZ (σ 0) (jwS σ z)) (σ 4) (σ 4) : Int) = 0 := sm_0 _ _
  have eq21 : ((σ 4) : Int) = σ 4 := by first | rfl | omega | simp
  exact loop27 ((min (σ 1) (σ 4 + rows) - (σ 4)) + 1 : Int).toNat (σ 4)  (by omega) (by omega)   _ _ ls hW hS (by rw [eq20, eq21]; exact lv_sub hl [1, 0, 2, 3] rfl)
set_option maxHeartbeats 4000000 in
set_option maxRecDepth 100000 in
theorem c_X9_minutes_x (l : Launch) (X : Cx) (w : Wo) (mo : Nat) (v σ : Int → Int) (rows : Int) (hM : w mo = some (.inr (9, mL mo v))) (hs : w (mo + 1) = some (aZ X 1317 σ)) (hwf : WF σ) (hrows : -2147483648 ≤ rows ∧ rows < 2147483648) (hbad : ¬ (0 ≤ rows ∧ rows ≤ 30)) : CM l X yX9_minutes cX9_minutes 6 (some (.int)) (rmk 4 94) [.ref mo, .int (iI rows)] w (some (.int (iI 0))) (fun w' => w' mo = some (.inr (9, mL mo (up v 6 1))) ∧ ∀ q : Nat, q ≠ mo → w' q = w q) := by
  refine CM.of (lv := [(0, .ref mo), (1, .int (iI rows))]) (by decide) (Nat.le_of_ble_eq_true rfl) rfl (fun p e s m below meth c ls F hr hlk hin hW hS hl => ?_)
  have hZ0 := hW.2.2
  have hB9 := hW.1.2
  clear hin
  have hF := hwf.1
  unfold WF0 at hF
  refine lv_aload_n F.1 F.2.1 dX9_minutes_0 rfl (lv_at hl 0 rfl) ?_
  refine lv_iload_n F.1 F.2.1 dX9_minutes_1 rfl (lv_at hl 1 rfl) ?_
  refine h_i2l F dX9_minutes_2 (by omega) ?_
  refine h_lconst (n := 0) (z := 0) F dX9_minutes_3 rfl ?_
  refine h_ldc2 (n := 30) F kk_RX9_211 dX9_minutes_4 ?_
  refine cl_RX9_82 (As := [.long (lI rows), .long (lI 0), .long (lI 30)]) (rest := [.ref mo]) F hl (c_X9_isIn l X w rows 0 30 (by omega) (by omega) (by omega)) hW hS rfl rfl ⟨Nat.le_of_ble_eq_true rfl, Nat.le_of_ble_eq_true rfl⟩ (Nat.le_of_ble_eq_true rfl) ⟨Nat.zero_le _, Nat.zero_le _⟩ dX9_minutes_7 (fun w1 H locs hp1 hW hS => ?_)
  rw [hp1] at hW; clear hp1; clear w1
  refine h_top (show (bz (decide (0 ≤ rows ∧ rows ≤ 30)) : Int) = bz false from congrArg bz (decide_eq_false (by omega))) ?_
  refine cl_RX9_74 (As := [.int (iI (bz false))]) (rest := []) F hl (c_pass_f l X w mo v σ hM hs hwf) hW hS hM rfl rfl ⟨Nat.le_of_ble_eq_true rfl, Nat.le_of_ble_eq_true rfl⟩ (Nat.le_of_ble_eq_true rfl) ⟨Nat.zero_le _, Nat.zero_le _⟩ dX9_minutes_10 (fun w2 H locs hp3 hW hS => ?_)
  obtain ⟨ho4, hn5⟩ := hp3
  have hs := (hn5 _ (by omega)).trans hs
  refine h_ifneb (tgt := 18) F dX9_minutes_13 (by decide) (fun c9 => absurd c9 (by decide)) (fun _ => ?_)
  refine h_iconst F dX9_minutes_16 ?_
  exact h_ireti F hr hlk hW hS ⟨ho4, (fun q h09 => by rw [hn5 q (by omega)])⟩ dX9_minutes_17
set_option maxHeartbeats 4000000 in
set_option maxRecDepth 100000 in
theorem c_X9_isAlike (l : Launch) (X : Cx) (w : Wo) (mo : Nat) (v σ : Int → Int) (k : Int) (hM : w mo = some (.inr (9, mL mo v))) (hs : w (mo + 1) = some (aZ X 1317 σ)) (hwf : WF σ) (hk : 0 ≤ k ∧ k < σ 5) : CM l X yX9_isAlike cX9_isAlike 6 (some (.boolean)) (rmk 2 46) [.ref mo, .int (iI k)] w (some (.int (iI (bz (alkQ σ k))))) (fun w' => w' mo = some (.inr (9, mL mo (up v 6 0))) ∧ ∀ q : Nat, q ≠ mo → w' q = w q) := by
  refine CM.of (lv := [(0, .ref mo), (1, .int (iI k))]) (by decide) (Nat.le_of_ble_eq_true rfl) rfl (fun p e s m below meth c ls F hr hlk hin hW hS hl => ?_)
  have hZ0 := hW.2.2
  have hB9 := hW.1.2
  clear hin
  have hF := hwf.1
  unfold WF0 at hF
  obtain ⟨m1, m2, m3, m4, m5, m6⟩ := hwf.2.2.1 k (by omega) (by omega)
  refine lv_aload_n F.1 F.2.1 dX9_isAlike_0 rfl (lv_at hl 0 rfl) ?_
  refine lv_aload_n F.1 F.2.1 dX9_isAlike_1 rfl (lv_at hl 0 rfl) ?_
  refine lv_iload_n F.1 F.2.1 dX9_isAlike_2 rfl (lv_at hl 1 rfl) ?_
  refine cl_RX9_158 (As := [.int (iI k)]) (rest := [.ref mo]) F hl (c_X9_isCaption l X w mo v σ k hM hs hwf (by omega)) hW hS hM rfl rfl ⟨Nat.le_of_ble_eq_true rfl, Nat.le_of_ble_eq_true rfl⟩ (Nat.le_of_ble_eq_true rfl) ⟨Nat.zero_le _, Nat.zero_le _⟩ dX9_isAlike_3 (fun w1 H locs hp1 hW hS => ?_)
  rw [hp1] at hW; clear hp1; clear w1
  refine h_top (show (bz (decide (0 ≤ k ∧ k ≤ σ 5 - 1)) : Int) = bz true from congrArg bz (decide_eq_true (by omega))) ?_
  refine cl_RX9_74 (As := [.int (iI (bz true))]) (rest := []) F hl (c_pass_t l X w mo v σ hM hs hwf) hW hS hM rfl rfl ⟨Nat.le_of_ble_eq_true rfl, Nat.le_of_ble_eq_true rfl⟩ (Nat.le_of_ble_eq_true rfl) ⟨Nat.zero_le _, Nat.zero_le _⟩ dX9_isAlike_6 (fun w2 H locs hp3 hW hS => ?_)
  obtain ⟨ho4, hn5⟩ := hp3
  have hs := (hn5 _ (by omega)).trans hs
  refine h_ifneb (tgt := 14) F dX9_isAlike_9 (by decide) (fun _ => ?_) (fun c9 => absurd c9 (by decide))
  refine h_iconst F dX9_isAlike_14 ?_
  refine lv_aload_n F.1 F.2.1 dX9_isAlike_15 rfl (lv_at hl 0 rfl) ?_
  refine lv_iload_n F.1 F.2.1 dX9_isAlike_16 rfl (lv_at hl 1 rfl) ?_
  refine h_iconst F dX9_isAlike_17 ?_
  refine cl_RX9_95 (As := [.int (iI k), .int (iI 0)]) (rest := [.int (iI 4)]) F hl (c_X9_cap l X w2 mo (up v 6 0) σ k 0 ho4 hs hwf (by omega)) hW hS ho4 rfl rfl ⟨Nat.le_of_ble_eq_true rfl, Nat.le_of_ble_eq_true rfl⟩ (Nat.le_of_ble_eq_true rfl) ⟨Nat.zero_le _, Nat.zero_le _⟩ dX9_isAlike_18 (fun w1 H locs hp7 hW hS => ?_)
  rw [hp7] at hW; clear hp7; clear w1
  refine h_imul (a := 4) (b := cp σ k 0) F dX9_isAlike_21 ?_
  refine h_iconst F dX9_isAlike_22 ?_
  refine h_isub (a := 4 * (cp σ k 0)) (b := 2) F dX9_isAlike_23 ?_
  refine lv_istore_n (lv' := [(2, .int (iI ((4 * (cp σ k 0)) - 2))), (0, .ref mo), (1, .int (iI k))]) F.1 F.2.1 dX9_isAlike_24 rfl hl (by decide) rfl (fun ls hl => ?_)
  refine h_iconst F dX9_isAlike_25 ?_
  refine lv_istore_n (lv' := [(3, .int (iI 1)), (2, .int (iI ((4 * (cp σ k 0)) - 2))), (0, .ref mo), (1, .int (iI k))]) F.1 F.2.1 dX9_isAlike_26 rfl hl (by decide) rfl (fun ls hl => ?_)
  refine h_iconst F dX9_isAlike_27 ?_
  refine lv_istore (lv' := [(4, .int (iI 0)), (3, .int (iI 1)), (2, .int (iI ((4 * (cp σ k 0)) - 2))), (0, .ref mo), (1, .int (iI k))]) F.1 F.2.1 dX9_isAlike_28 hl (by decide) rfl (fun ls hl => ?_)
  have loop30 : ∀ (n9 : Nat) (ov : Int), (hrg : 0 ≤ ov ∧ ov ≤ 4 * cp σ k 0 - 1) → (hms : 4 * cp σ k 0 - 1 - ov < (n9 : Int)) → (H : Heap) → (locs : List Loc) → (ls : Array Slot) → Wd X w2 s H → va_S (cxA X) s.heap H locs → lv_has ls 6 [(3, .int (iI (bz (al (fun z => al (fun y => inkS σ k z y == inkS σ k (4 * cp σ k 0 - 2 - z) y) 0 5) 0 ov)))), (4, .int (iI ov)), (2, .int (iI ((4 * (cp σ k 0)) - 2))), (0, .ref mo), (1, .int (iI k))] → W p l e (rmk 2 46) s m (List.toArray [.ref mo, .int (iI k)]) below meth c H locs 0 0 (MX X below (List.toArray [.ref mo, .int (iI k)]) s 0 0 (some (.int (iI (bz (alkQ σ k))))) (fun w' => w' mo = some (.inr (9, mL mo (up v 6 0))) ∧ ∀ q : Nat, q ≠ mo → w' q = w q)) (F0 m 30 ls []) := by
    intro n9
    induction n9 with
    | zero => intro ov  hrg hms; exfalso; omega
    | succ n9 ih30 =>
      intro ov  hrg hms   H locs ls hW hS hl
      refine lv_iload F.1 F.2.1 dX9_isAlike_30 (lv_at hl 1 rfl) ?_
      refine lv_iload_n F.1 F.2.1 dX9_isAlike_32 rfl (lv_at hl 2 rfl) ?_
      refine h_icgt (tgt := 90) F dX9_isAlike_33 (by decide) (by omega) (fun c8 => ?_) (fun c8 => ?_)
      · refine lv_iload_n F.1 F.2.1 dX9_isAlike_90 rfl (lv_at hl 0 rfl) ?_
        refine h_top (show (bz (al (fun z => al (fun y => inkS σ k z y == inkS σ k (4 * cp σ k 0 - 2 - z) y) 0 5) 0 ov) : Int) = bz (alkQ σ k) from by rw [show ov = 4 * cp σ k 0 - 1 by omega]; rfl) ?_
        exact h_iretz F hr hlk hW hS ⟨ho4, (fun q h09 => by rw [hn5 q (by omega)])⟩ dX9_isAlike_91
      · refine h_iconst F dX9_isAlike_36 ?_
        refine lv_istore (lv' := [(5, .int (iI 0)), (3, .int (iI (bz (al (fun z => al (fun y => inkS σ k z y == inkS σ k (4 * cp σ k 0 - 2 - z) y) 0 5) 0 ov)))), (4, .int (iI ov)), (2, .int (iI ((4 * (cp σ k 0)) - 2))), (0, .ref mo), (1, .int (iI k))]) F.1 F.2.1 dX9_isAlike_37 hl (by decide) rfl (fun ls hl => ?_)
        have loop39 : ∀ (n9 : Nat) (u : Int), (hrg : 0 ≤ u ∧ u ≤ 5) → (hms : 5 - u < (n9 : Int)) → (H : Heap) → (locs : List Loc) → (ls : Array Slot) → Wd X w2 s H → va_S (cxA X) s.heap H locs → lv_has ls 6 [(3, .int (iI (bz (al (fun z => al (fun y => inkS σ k z y == inkS σ k (4 * cp σ k 0 - 2 - z) y) 0 5) 0 ov && al (fun y => inkS σ k ov y == inkS σ k (4 * cp σ k 0 - 2 - ov) y) 0 u)))), (5, .int (iI u)), (4, .int (iI ov)), (2, .int (iI ((4 * (cp σ k 0)) - 2))), (0, .ref mo), (1, .int (iI k))] → W p l e (rmk 2 46) s m (List.toArray [.ref mo, .int (iI k)]) below meth c H locs 0 0 (MX X below (List.toArray [.ref mo, .int (iI k)]) s 0 0 (some (.int (iI (bz (alkQ σ k))))) (fun w' => w' mo = some (.inr (9, mL mo (up v 6 0))) ∧ ∀ q : Nat, q ≠ mo → w' q = w q)) (F0 m 39 ls []) := by
          intro n9
          induction n9 with
          | zero => intro u  hrg hms; exfalso; omega
          | succ n9 ih39 =>
            intro u  hrg hms   H locs ls hW hS hl
            refine lv_iload F.1 F.2.1 dX9_isAlike_39 (lv_at hl 1 rfl) ?_
            refine h_iconst F dX9_isAlike_41 ?_
            refine h_icge (tgt := 84) F dX9_isAlike_42 (by decide) (by omega) (fun c9 => ?_) (fun c9 => ?_)
            · refine h_iinc (k := 2) (a := ov) (lv' := [(4, .int (iI (ov + 1))), (3, .int (iI (bz (al (fun z => al (fun y => inkS σ k z y == inkS σ k (4 * cp σ k 0 - 2 - z) y) 0 5) 0 ov && al (fun y => inkS σ k ov y == inkS σ k (4 * cp σ k 0 - 2 - ov) y) 0 u)))), (5, .int (iI u)), (2, .int (iI ((4 * (cp σ k 0)) - 2))), (0, .ref mo), (1, .int (iI k))]) F dX9_isAlike_84 hl rfl (by decide) rfl (fun ls hl => ?_)
              refine h_goto (tgt := 30) F dX9_isAlike_87 (by decide) ?_
              have eq10 : (bz (al (fun z => al (fun y => inkS σ k z y == inkS σ k (4 * cp σ k 0 - 2 - z) y) 0 5) 0 (ov + 1)) : Int) = bz (al (fun z => al (fun y => inkS σ k z y == inkS σ k (4 * cp σ k 0 - 2 - z) y) 0 5) 0 ov && al (fun y => inkS σ k ov y == inkS σ k (4 * cp σ k 0 - 2 - ov) y) 0 u) := by rw [al_s _ (by omega), show u = 5 by omega]
              have eq11 : ((ov + 1) : Int) = ov + 1 := by first | rfl | omega | simp
              exact ih30 (ov + 1)  (by omega) (by omega)   _ _ ls hW hS (by rw [eq10, eq11]; exact lv_sub hl [1, 0, 3, 4, 5] rfl)
            · refine lv_iload_n F.1 F.2.1 dX9_isAlike_45 rfl (lv_at hl 0 rfl) ?_
              refine h_ifeqb (tgt := 76) F dX9_isAlike_46 (by decide) (fun c12 => ?_) (fun c12 => ?_)
              · refine h_iconst F dX9_isAlike_76 ?_
                refine lv_istore_n (lv' := [(3, .int (iI 0)), (5, .int (iI u)), (4, .int (iI ov)), (2, .int (iI ((4 * (cp σ k 0)) - 2))), (0, .ref mo), (1, .int (iI k))]) F.1 F.2.1 dX9_isAlike_77 rfl hl (by decide) rfl (fun ls hl => ?_)
                refine h_iinc (k := 1) (a := u) (lv' := [(5, .int (iI (u + 1))), (3, .int (iI 0)), (4, .int (iI ov)), (2, .int (iI ((4 * (cp σ k 0)) - 2))), (0, .ref mo), (1, .int (iI k))]) F dX9_isAlike_78 hl rfl (by decide) rfl (fun ls hl => ?_)
                refine h_goto (tgt := 39) F dX9_isAlike_81 (by decide) ?_
                have eq13 : (bz (al (fun z => al (fun y => inkS σ k z y == inkS σ k (4 * cp σ k 0 - 2 - z) y) 0 5) 0 ov && al (fun y => inkS σ k ov y == inkS σ k (4 * cp σ k 0 - 2 - ov) y) 0 (u + 1)) : Int) = 0 := by rw [al_s _ (by omega), ← Bool.and_assoc]; first | exact (bzf (by rw [‹(al (fun z => al (fun y => inkS σ k z y == inkS σ k (4 * cp σ k 0 - 2 - z) y) 0 5) 0 ov && al (fun y => inkS σ k ov y == inkS σ k (4 * cp σ k 0 - 2 - ov) y) 0 u) = false›]; rfl)).symm | exact (bzt (by rw [‹(al (fun z => al (fun y => inkS σ k z y == inkS σ k (4 * cp σ k 0 - 2 - z) y) 0 5) 0 ov && al (fun y => inkS σ k ov y == inkS σ k (4 * cp σ k 0 - 2 - ov) y) 0 u) = true›, bz_inj (a := inkS σ k ov u) (b := inkS σ k (4 * cp σ k 0 - 2 - ov) u) (by assumption)]; simp)).symm | exact (bzf (by rw [bz_ne (a := inkS σ k ov u) (b := inkS σ k (4 * cp σ k 0 - 2 - ov) u) (by assumption)]; simp)).symm
                have eq14 : ((u + 1) : Int) = u + 1 := by first | rfl | omega | simp
                exact ih39 (u + 1)  (by omega) (by omega)   _ _ ls hW hS (by rw [eq13, eq14]; exact lv_sub hl [1, 0, 2, 3, 4, 5] rfl)
              · refine lv_aload_n F.1 F.2.1 dX9_isAlike_49 rfl (lv_at hl 4 rfl) ?_
                refine lv_iload_n F.1 F.2.1 dX9_isAlike_50 rfl (lv_at hl 5 rfl) ?_
                refine lv_iload F.1 F.2.1 dX9_isAlike_51 (lv_at hl 2 rfl) ?_
                refine lv_iload F.1 F.2.1 dX9_isAlike_53 (lv_at hl 1 rfl) ?_
                refine cl_RX9_108 (As := [.int (iI k), .int (iI ov), .int (iI u)]) (rest := []) F hl (c_X9_isInk l X w2 mo (up v 6 0) σ k ov u ho4 hs hwf (by omega) (by omega)) hW hS ho4 rfl rfl ⟨Nat.le_of_ble_eq_true rfl, Nat.le_of_ble_eq_true rfl⟩ (Nat.le_of_ble_eq_true rfl) ⟨Nat.zero_le _, Nat.zero_le _⟩ dX9_isAlike_55 (fun w1 H locs hp15 hW hS => ?_)
                rw [hp15] at hW; clear hp15; clear w1
                refine lv_aload_n F.1 F.2.1 dX9_isAlike_58 rfl (lv_at hl 4 rfl) ?_
                refine lv_iload_n F.1 F.2.1 dX9_isAlike_59 rfl (lv_at hl 5 rfl) ?_
                refine lv_iload_n F.1 F.2.1 dX9_isAlike_60 rfl (lv_at hl 3 rfl) ?_
                refine lv_iload F.1 F.2.1 dX9_isAlike_61 (lv_at hl 2 rfl) ?_
                refine h_isub (a := (4 * (cp σ k 0)) - 2) (b := ov) F dX9_isAlike_63 ?_
                refine lv_iload F.1 F.2.1 dX9_isAlike_64 (lv_at hl 1 rfl) ?_
                refine cl_RX9_108 (As := [.int (iI k), .int (iI (((4 * (cp σ k 0)) - 2) - ov)), .int (iI u)]) (rest := [.int (iI (bz (inkS σ k ov u)))]) F hl (c_X9_isInk l X w2 mo (up v 6 0) σ k (((4 * (cp σ k 0)) - 2) - ov) u ho4 hs hwf (by omega) (by omega)) hW hS ho4 rfl rfl ⟨Nat.le_of_ble_eq_true rfl, Nat.le_of_ble_eq_true rfl⟩ (Nat.le_of_ble_eq_true rfl) ⟨Nat.zero_le _, Nat.zero_le _⟩ dX9_isAlike_66 (fun w1 H locs hp16 hW hS => ?_)
                rw [hp16] at hW; clear hp16; clear w1
                refine h_icne (tgt := 76) F dX9_isAlike_69 (by decide) (by have := bz_r (inkS σ k ov u); have := bz_r (inkS σ k (((4 * (cp σ k 0)) - 2) - ov) u);  omega) (fun c17 => ?_) (fun c17 => ?_)
                · refine h_iconst F dX9_isAlike_76 ?_
                  refine lv_istore_n (lv' := [(3, .int (iI 0)), (5, .int (iI u)), (4, .int (iI ov)), (2, .int (iI ((4 * (cp σ k 0)) - 2))), (0, .ref mo), (1, .int (iI k))]) F.1 F.2.1 dX9_isAlike_77 rfl hl (by decide) rfl (fun ls hl => ?_)
                  refine h_iinc (k := 1) (a := u) (lv' := [(5, .int (iI (u + 1))), (3, .int (iI 0)), (4, .int (iI ov)), (2, .int (iI ((4 * (cp σ k 0)) - 2))), (0, .ref mo), (1, .int (iI k))]) F dX9_isAlike_78 hl rfl (by decide) rfl (fun ls hl => ?_)
                  refine h_goto (tgt := 39) F dX9_isAlike_81 (by decide) ?_
                  have eq18 : (bz (al (fun z => al (fun y => inkS σ k z y == inkS σ k (4 * cp σ k 0 - 2 - z) y) 0 5) 0 ov && al (fun y => inkS σ k ov y == inkS σ k (4 * cp σ k 0 - 2 - ov) y) 0 (u + 1)) : Int) = 0 := by rw [al_s _ (by omega), ← Bool.and_assoc]; first | exact (bzf (by rw [‹(al (fun z => al (fun y => inkS σ k z y == inkS σ k (4 * cp σ k 0 - 2 - z) y) 0 5) 0 ov && al (fun y => inkS σ k ov y == inkS σ k (4 * cp σ k 0 - 2 - ov) y) 0 u) = false›]; rfl)).symm | exact (bzt (by rw [‹(al (fun z => al (fun y => inkS σ k z y == inkS σ k (4 * cp σ k 0 - 2 - z) y) 0 5) 0 ov && al (fun y => inkS σ k ov y == inkS σ k (4 * cp σ k 0 - 2 - ov) y) 0 u) = true›, bz_inj (a := inkS σ k ov u) (b := inkS σ k (4 * cp σ k 0 - 2 - ov) u) (by assumption)]; simp)).symm | exact (bzf (by rw [bz_ne (a := inkS σ k ov u) (b := inkS σ k (4 * cp σ k 0 - 2 - ov) u) (by assumption)]; simp)).symm
                  have eq19 : ((u + 1) : Int) = u + 1 := by first | rfl | omega | simp
                  exact ih39 (u + 1)  (by omega) (by omega)   _ _ ls hW hS (by rw [eq18, eq19]; exact lv_sub hl [1, 0, 2, 3, 4, 5] rfl)
                · refine h_iconst F dX9_isAlike_72 ?_
                  refine h_goto (tgt := 77) F dX9_isAlike_73 (by decide) ?_
                  refine lv_istore_n (lv' := [(3, .int (iI 1)), (5, .int (iI u)), (4, .int (iI ov)), (2, .int (iI ((4 * (cp σ k 0)) - 2))), (0, .ref mo), (1, .int (iI k))]) F.1 F.2.1 dX9_isAlike_77 rfl hl (by decide) rfl (fun ls hl => ?_)
                  refine h_iinc (k := 1) (a := u) (lv' := [(5, .int (iI (u + 1))), (3, .int (iI 1)), (4, .int (iI ov)), (2, .int (iI ((4 * (cp σ k 0)) - 2))), (0, .ref mo), (1, .int (iI k))]) F dX9_isAlike_78 hl rfl (by decide) rfl (fun ls hl => ?_)
                  refine h_goto (tgt := 39) F dX9_isAlike_81 (by decide) ?_
                  have eq20 : (bz (al (fun z => al (fun y => inkS σ k z y == inkS σ k (4 * cp σ k 0 - 2 - z) y) 0 5) 0 ov && al (fun y => inkS σ k ov y == inkS σ k (4 * cp σ k 0 - 2 - ov) y) 0 (u + 1)) : Int) = 1 := by rw [al_s _ (by omega), ← Bool.and_assoc]; first | exact (bzf (by rw [‹(al (fun z => al (fun y => inkS σ k z y == inkS σ k (4 * cp σ k 0 - 2 - z) y) 0 5) 0 ov && al (fun y => inkS σ k ov y == inkS σ k (4 * cp σ k 0 - 2 - ov) y) 0 u) = false›]; rfl)).symm | exact (bzt (by rw [‹(al (fun z => al (fun y => inkS σ k z y == inkS σ k (4 * cp σ k 0 - 2 - z) y) 0 5) 0 ov && al (fun y => inkS σ k ov y == inkS σ k (4 * cp σ k 0 - 2 - ov) y) 0 u) = true›, bz_inj (a := inkS σ k ov u) (b := inkS σ k (4 * cp σ k 0 - 2 - ov) u) (by assumption)]; simp)).symm | exact (bzf (by rw [bz_ne (a := inkS σ k ov u) (b := inkS σ k (4 * cp σ k 0 - 2 - ov) u) (by assumption)]; simp)).symm
                  have eq21 : ((u + 1) : Int) = u + 1 := by first | rfl | omega | simp
                  exact ih39 (u + 1)  (by omega) (by omega)   _ _ ls hW hS (by rw [eq20, eq21]; exact lv_sub hl [1, 0, 2, 3, 4, 5] rfl)
        have eq22 : (bz (al (fun z => al (fun y => inkS σ k z y == inkS σ k (4 * cp σ k 0 - 2 - z) y) 0 5) 0 ov && al (fun y => inkS σ k ov y == inkS σ k (4 * cp σ k 0 - 2 - ov) y) 0 0) : Int) = bz (al (fun z => al (fun y => inkS σ k z y == inkS σ k (4 * cp σ k 0 - 2 - z) y) 0 5) 0 ov) := by rw [al_0, Bool.and_true]
        exact loop39 ((5 - 0) + 1 : Int).toNat 0  (by omega) (by omega)   _ _ ls hW hS (by rw [eq22]; exact lv_sub hl [1, 0, 2, 3, 4, 5] rfl)
  have eq23 : (bz (al (fun z => al (fun y => inkS σ k z y == inkS σ k (4 * cp σ k 0 - 2 - z) y) 0 5) 0 0) : Int) = 1 := by rw [al_0]; rfl
  exact loop30 ((4 * cp σ k 0 - 1 - 0) + 1 : Int).toNat 0  (by omega) (by omega)   _ _ ls hW hS (by rw [eq23]; exact lv_sub hl [1, 0, 2, 3, 4] rfl)
set_option maxHeartbeats 4000000 in
set_option maxRecDepth 100000 in
theorem c_X9_isAlike_x (l : Launch) (X : Cx) (w : Wo) (mo : Nat) (v σ : Int → Int) (k : Int) (hM : w mo = some (.inr (9, mL mo v))) (hs : w (mo + 1) = some (aZ X 1317 σ)) (hwf : WF σ) (hk : -2147483648 ≤ k ∧ k < 2147483648) (hb : ¬ (0 ≤ k ∧ k < σ 5)) : CM l X yX9_isAlike cX9_isAlike 6 (some (.boolean)) (rmk 2 46) [.ref mo, .int (iI k)] w (some (.int (iI (bz false)))) (fun w' => w' mo = some (.inr (9, mL mo (up v 6 1))) ∧ ∀ q : Nat, q ≠ mo → w' q = w q) := by
  refine CM.of (lv := [(0, .ref mo), (1, .int (iI k))]) (by decide) (Nat.le_of_ble_eq_true rfl) rfl (fun p e s m below meth c ls F hr hlk hin hW hS hl => ?_)
  have hZ0 := hW.2.2
  have hB9 := hW.1.2
  clear hin
  have hF := hwf.1
  unfold WF0 at hF
  refine lv_aload_n F.1 F.2.1 dX9_isAlike_0 rfl (lv_at hl 0 rfl) ?_
  refine lv_aload_n F.1 F.2.1 dX9_isAlike_1 rfl (lv_at hl 0 rfl) ?_
  refine lv_iload_n F.1 F.2.1 dX9_isAlike_2 rfl (lv_at hl 1 rfl) ?_
  refine cl_RX9_158 (As := [.int (iI k)]) (rest := [.ref mo]) F hl (c_X9_isCaption l X w mo v σ k hM hs hwf (by omega)) hW hS hM rfl rfl ⟨Nat.le_of_ble_eq_true rfl, Nat.le_of_ble_eq_true rfl⟩ (Nat.le_of_ble_eq_true rfl) ⟨Nat.zero_le _, Nat.zero_le _⟩ dX9_isAlike_3 (fun w1 H locs hp1 hW hS => ?_)
  rw [hp1] at hW; clear hp1; clear w1
  refine h_top (show (bz (decide (0 ≤ k ∧ k ≤ σ 5 - 1)) : Int) = bz false from congrArg bz (decide_eq_false (by omega))) ?_
  refine cl_RX9_74 (As := [.int (iI (bz false))]) (rest := []) F hl (c_pass_f l X w mo v σ hM hs hwf) hW hS hM rfl rfl ⟨Nat.le_of_ble_eq_true rfl, Nat.le_of_ble_eq_true rfl⟩ (Nat.le_of_ble_eq_true rfl) ⟨Nat.zero_le _, Nat.zero_le _⟩ dX9_isAlike_6 (fun w2 H locs hp3 hW hS => ?_)
  obtain ⟨ho4, hn5⟩ := hp3
  have hs := (hn5 _ (by omega)).trans hs
  refine h_ifneb (tgt := 14) F dX9_isAlike_9 (by decide) (fun c9 => absurd c9 (by decide)) (fun _ => ?_)
  refine h_iconst F dX9_isAlike_12 ?_
  refine h_top (show (0 : Int) = bz false from rfl) ?_
  exact h_iretz F hr hlk hW hS ⟨ho4, (fun q h09 => by rw [hn5 q (by omega)])⟩ dX9_isAlike_13
set_option maxHeartbeats 4000000 in
set_option maxRecDepth 100000 in
theorem c_X9_fits (l : Launch) (X : Cx) (w : Wo) (mo : Nat) (v σ : Int → Int) (hM : w mo = some (.inr (9, mL mo v))) (hs : w (mo + 1) = some (aZ X 1317 σ)) (hwf : WF σ) : CM l X yX9_fits cX9_fits 3 (some (.boolean)) (rmk 5 122) [.ref mo] w (some (.int (iI (bz (fitQ σ))))) (fun w' => w' mo = some (.inr (9, mL mo (up v 6 0))) ∧ ∀ q : Nat, q ≠ mo → w' q = w q) := by
  refine CM.of (lv := [(0, .ref mo)]) (by decide) (Nat.le_of_ble_eq_true rfl) rfl (fun p e s m below meth c ls F hr hlk hin hW hS hl => ?_)
  have hZ0 := hW.2.2
  have hB9 := hW.1.2
  clear hin
  have hF := hwf.1
  unfold WF0 at hF
  refine lv_aload_n F.1 F.2.1 dX9_fits_0 rfl (lv_at hl 0 rfl) ?_
  refine h_iconst F dX9_fits_1 ?_
  refine pf_RX9_58 F hW hS hM (Nat.le_of_ble_eq_true rfl) dX9_fits_2 (fun w1 H locs ho3 hn2 hW hS => ?_)
  rw [mL_6] at ho3
  have hs := (hn2 _ (by omega)).trans hs
  refine lv_aload_n F.1 F.2.1 dX9_fits_5 rfl (lv_at hl 0 rfl) ?_
  refine gf_RX9_7 F hW ho3 rfl dX9_fits_6 ?_
  refine h_iconst F dX9_fits_9 ?_
  refine h_iald F hW hs (by omega) (by omega) dX9_fits_10 ?_
  refine lv_aload_n F.1 F.2.1 dX9_fits_11 rfl (lv_at hl 0 rfl) ?_
  refine gf_RX9_7 F hW ho3 rfl dX9_fits_12 ?_
  refine h_iconst F dX9_fits_15 ?_
  refine h_iald F hW hs (by omega) (by omega) dX9_fits_16 ?_
  refine h_icne (tgt := 24) F dX9_fits_17 (by decide) (by omega) (fun c4 => ?_) (fun c4 => ?_)
  · refine h_iconst F dX9_fits_24 ?_
    refine lv_istore_n (lv' := [(1, .int (iI 0)), (0, .ref mo)]) F.1 F.2.1 dX9_fits_25 rfl hl (by decide) rfl (fun ls hl => ?_)
    refine h_iconst F dX9_fits_26 ?_
    refine lv_istore_n (lv' := [(2, .int (iI 0)), (1, .int (iI 0)), (0, .ref mo)]) F.1 F.2.1 dX9_fits_27 rfl hl (by decide) rfl (fun ls hl => ?_)
    have loop28 : ∀ (n9 : Nat) (k : Int), (hrg : 0 ≤ k ∧ k ≤ σ 5) → (hms : σ 5 - k < (n9 : Int)) → (H : Heap) → (locs : List Loc) → (ls : Array Slot) → Wd X w1 s H → va_S (cxA X) s.heap H locs → lv_has ls 3 [(1, .int (iI (bz (decide (σ 4 = σ 1) && al (fitB σ) 0 k)))), (2, .int (iI k)), (0, .ref mo)] → W p l e (rmk 5 122) s m (List.toArray [.ref mo]) below meth c H locs 0 0 (MX X below (List.toArray [.ref mo]) s 0 0 (some (.int (iI (bz (fitQ σ))))) (fun w' => w' mo = some (.inr (9, mL mo (up v 6 0))) ∧ ∀ q : Nat, q ≠ mo → w' q = w q)) (F0 m 28 ls []) := by
      intro n9
      induction n9 with
      | zero => intro k  hrg hms; exfalso; omega
      | succ n9 ih28 =>
        intro k  hrg hms   H locs ls hW hS hl
        refine lv_iload_n F.1 F.2.1 dX9_fits_28 rfl (lv_at hl 1 rfl) ?_
        refine lv_aload_n F.1 F.2.1 dX9_fits_29 rfl (lv_at hl 2 rfl) ?_
        refine gf_RX9_7 F hW ho3 rfl dX9_fits_30 ?_
        refine h_iconst F dX9_fits_33 ?_
        refine h_iald F hW hs (by omega) (by omega) dX9_fits_34 ?_
        refine h_icge (tgt := 69) F dX9_fits_35 (by decide) (by omega) (fun c5 => ?_) (fun c5 => ?_)
        · refine lv_iload_n F.1 F.2.1 dX9_fits_69 rfl (lv_at hl 0 rfl) ?_
          refine h_top (show (bz (decide (σ 4 = σ 1) && al (fitB σ) 0 k) : Int) = bz (fitQ σ) from by rw [show k = σ 5 by omega]; rfl) ?_
          exact h_iretz F hr hlk hW hS ⟨ho3, (fun q h09 => by rw [hn2 q (by omega)])⟩ dX9_fits_70
        · refine lv_iload_n F.1 F.2.1 dX9_fits_38 rfl (lv_at hl 0 rfl) ?_
          refine h_ifeqb (tgt := 61) F dX9_fits_39 (by decide) (fun c6 => ?_) (fun c6 => ?_)
          · refine h_iconst F dX9_fits_61 ?_
            refine lv_istore_n (lv' := [(1, .int (iI 0)), (2, .int (iI k)), (0, .ref mo)]) F.1 F.2.1 dX9_fits_62 rfl hl (by decide) rfl (fun ls hl => ?_)
            refine h_iinc (k := 1) (a := k) (lv' := [(2, .int (iI (k + 1))), (1, .int (iI 0)), (0, .ref mo)]) F dX9_fits_63 hl rfl (by decide) rfl (fun ls hl => ?_)
            refine h_goto (tgt := 28) F dX9_fits_66 (by decide) ?_
            have eq7 : (bz (decide (σ 4 = σ 1) && al (fitB σ) 0 (k + 1)) : Int) = 0 := by rw [al_s _ (by omega), ← Bool.and_assoc]; first | exact (bzf (by rw [‹(decide (σ 4 = σ 1) && al (fitB σ) 0 k) = false›]; rfl)).symm | exact (bzt (by rw [‹(decide (σ 4 = σ 1) && al (fitB σ) 0 k) = true›]; exact decide_eq_true (by assumption))).symm | exact (bzf (by rw [show fitB σ k = false from decide_eq_false (by assumption)]; simp)).symm
            have eq8 : ((k + 1) : Int) = k + 1 := by first | rfl | omega | simp
            exact ih28 (k + 1)  (by omega) (by omega)   _ _ ls hW hS (by rw [eq7, eq8]; exact lv_sub hl [1, 0, 2] rfl)
          · obtain ⟨m1, m2, m3, m4, m5, m6⟩ := hwf.2.2.1 k (by omega) (by omega)
            have hcr := cnt_r (fun z => legS σ k && decide (rdS σ k z false = tdS σ k z)) (lo := 0) (hi := cp σ k 0) (by omega)
            refine lv_aload_n F.1 F.2.1 dX9_fits_42 rfl (lv_at hl 2 rfl) ?_
            refine lv_iload_n F.1 F.2.1 dX9_fits_43 rfl (lv_at hl 1 rfl) ?_
            refine h_iconst F dX9_fits_44 ?_
            refine cl_RX9_175 (As := [.int (iI k), .int (iI 0)]) (rest := []) F hl (c_that_r l X w1 mo (up v 6 0) σ k ho3 hs hwf (by omega)) hW hS ho3 rfl rfl ⟨Nat.le_of_ble_eq_true rfl, Nat.le_of_ble_eq_true rfl⟩ (Nat.le_of_ble_eq_true rfl) ⟨Nat.zero_le _, Nat.zero_le _⟩ dX9_fits_45 (fun w1 H locs hp9 hW hS => ?_)
            rw [hp9] at hW; clear hp9; clear w1
            refine lv_aload_n F.1 F.2.1 dX9_fits_48 rfl (lv_at hl 2 rfl) ?_
            refine lv_iload_n F.1 F.2.1 dX9_fits_49 rfl (lv_at hl 1 rfl) ?_
            refine h_iconst F dX9_fits_50 ?_
            refine cl_RX9_95 (As := [.int (iI k), .int (iI 0)]) (rest := [.int (iI (cnt (fun z => legS σ k && decide (rdS σ k z false = tdS σ k z)) 0 (cp σ k 0)))]) F hl (c_X9_cap l X w1 mo (up v 6 0) σ k 0 ho3 hs hwf (by omega)) hW hS ho3 rfl rfl ⟨Nat.le_of_ble_eq_true rfl, Nat.le_of_ble_eq_true rfl⟩ (Nat.le_of_ble_eq_true rfl) ⟨Nat.zero_le _, Nat.zero_le _⟩ dX9_fits_51 (fun w1 H locs hp10 hW hS => ?_)
            rw [hp10] at hW; clear hp10; clear w1
            refine h_icne (tgt := 61) F dX9_fits_54 (by decide) (by omega) (fun c11 => ?_) (fun c11 => ?_)
            · refine h_iconst F dX9_fits_61 ?_
              refine lv_istore_n (lv' := [(1, .int (iI 0)), (2, .int (iI k)), (0, .ref mo)]) F.1 F.2.1 dX9_fits_62 rfl hl (by decide) rfl (fun ls hl => ?_)
              refine h_iinc (k := 1) (a := k) (lv' := [(2, .int (iI (k + 1))), (1, .int (iI 0)), (0, .ref mo)]) F dX9_fits_63 hl rfl (by decide) rfl (fun ls hl => ?_)
              refine h_goto (tgt := 28) F dX9_fits_66 (by decide) ?_
              have eq12 : (bz (decide (σ 4 = σ 1) && al (fitB σ) 0 (k + 1)) : Int) = 0 := by rw [al_s _ (by omega), ← Bool.and_assoc]; first | exact (bzf (by rw [‹(decide (σ 4 = σ 1) && al (fitB σ) 0 k) = false›]; rfl)).symm | exact (bzt (by rw [‹(decide (σ 4 = σ 1) && al (fitB σ) 0 k) = true›]; exact decide_eq_true (by assumption))).symm | exact (bzf (by rw [show fitB σ k = false from decide_eq_false (by assumption)]; simp)).symm
              have eq13 : ((k + 1) : Int) = k + 1 := by first | rfl | omega | simp
              exact ih28 (k + 1)  (by omega) (by omega)   _ _ ls hW hS (by rw [eq12, eq13]; exact lv_sub hl [1, 0, 2] rfl)
            · refine h_iconst F dX9_fits_57 ?_
              refine h_goto (tgt := 62) F dX9_fits_58 (by decide) ?_
              refine lv_istore_n (lv' := [(1, .int (iI 1)), (2, .int (iI k)), (0, .ref mo)]) F.1 F.2.1 dX9_fits_62 rfl hl (by decide) rfl (fun ls hl => ?_)
              refine h_iinc (k := 1) (a := k) (lv' := [(2, .int (iI (k + 1))), (1, .int (iI 1)), (0, .ref mo)]) F dX9_fits_63 hl rfl (by decide) rfl (fun ls hl => ?_)
              refine h_goto (tgt := 28) F dX9_fits_66 (by decide) ?_
              have eq14 : (bz (decide (σ 4 = σ 1) && al (fitB σ) 0 (k + 1)) : Int) = 1 := by rw [al_s _ (by omega), ← Bool.and_assoc]; first | exact (bzf (by rw [‹(decide (σ 4 = σ 1) && al (fitB σ) 0 k) = false›]; rfl)).symm | exact (bzt (by rw [‹(decide (σ 4 = σ 1) && al (fitB σ) 0 k) = true›]; exact decide_eq_true (by assumption))).symm | exact (bzf (by rw [show fitB σ k = false from decide_eq_false (by assumption)]; simp)).symm
              have eq15 : ((k + 1) : Int) = k + 1 := by first | rfl | omega | simp
              exact ih28 (k + 1)  (by omega) (by omega)   _ _ ls hW hS (by rw [eq14, eq15]; exact lv_sub hl [1, 0, 2] rfl)
    have eq16 : (bz (decide (σ 4 = σ 1) && al (fitB σ) 0 0) : Int) = 0 := by rw [al_0, Bool.and_true]; first | exact (bzt (decide_eq_true (by omega))).symm | exact (bzf (decide_eq_false (by omega))).symm
    exact loop28 ((σ 5 - 0) + 1 : Int).toNat 0  (by omega) (by omega)   _ _ ls hW hS (by rw [eq16]; exact lv_sub hl [1, 0, 2] rfl)
  · refine h_iconst F dX9_fits_20 ?_
    refine h_goto (tgt := 25) F dX9_fits_21 (by decide) ?_
    refine lv_istore_n (lv' := [(1, .int (iI 1)), (0, .ref mo)]) F.1 F.2.1 dX9_fits_25 rfl hl (by decide) rfl (fun ls hl => ?_)
    refine h_iconst F dX9_fits_26 ?_
    refine lv_istore_n (lv' := [(2, .int (iI 0)), (1, .int (iI 1)), (0, .ref mo)]) F.1 F.2.1 dX9_fits_27 rfl hl (by decide) rfl (fun ls hl => ?_)
    have loop28 : ∀ (n9 : Nat) (k : Int), (hrg : 0 ≤ k ∧ k ≤ σ 5) → (hms : σ 5 - k < (n9 : Int)) → (H : Heap) → (locs : List Loc) → (ls : Array Slot) → Wd X w1 s H → va_S (cxA X) s.heap H locs → lv_has ls 3 [(1, .int (iI (bz (decide (σ 4 = σ 1) && al (fitB σ) 0 k)))), (2, .int (iI k)), (0, .ref mo)] → W p l e (rmk 5 122) s m (List.toArray [.ref mo]) below meth c H locs 0 0 (MX X below (List.toArray [.ref mo]) s 0 0 (some (.int (iI (bz (fitQ σ))))) (fun w' => w' mo = some (.inr (9, mL mo (up v 6 0))) ∧ ∀ q : Nat, q ≠ mo → w' q = w q)) (F0 m 28 ls []) := by
      intro n9
      induction n9 with
      | zero => intro k  hrg hms; exfalso; omega
      | succ n9 ih28 =>
        intro k  hrg hms   H locs ls hW hS hl
        refine lv_iload_n F.1 F.2.1 dX9_fits_28 rfl (lv_at hl 1 rfl) ?_
        refine lv_aload_n F.1 F.2.1 dX9_fits_29 rfl (lv_at hl 2 rfl) ?_
        refine gf_RX9_7 F hW ho3 rfl dX9_fits_30 ?_
        refine h_iconst F dX9_fits_33 ?_
        refine h_iald F hW hs (by omega) (by omega) dX9_fits_34 ?_
        refine h_icge (tgt := 69) F dX9_fits_35 (by decide) (by omega) (fun c17 => ?_) (fun c17 => ?_)
        · refine lv_iload_n F.1 F.2.1 dX9_fits_69 rfl (lv_at hl 0 rfl) ?_
          refine h_top (show (bz (decide (σ 4 = σ 1) && al (fitB σ) 0 k) : Int) = bz (fitQ σ) from by rw [show k = σ 5 by omega]; rfl) ?_
          exact h_iretz F hr hlk hW hS ⟨ho3, (fun q h09 => by rw [hn2 q (by omega)])⟩ dX9_fits_70
        · refine lv_iload_n F.1 F.2.1 dX9_fits_38 rfl (lv_at hl 0 rfl) ?_
          refine h_ifeqb (tgt := 61) F dX9_fits_39 (by decide) (fun c18 => ?_) (fun c18 => ?_)
          · refine h_iconst F dX9_fits_61 ?_
            refine lv_istore_n (lv' := [(1, .int (iI 0)), (2, .int (iI k)), (0, .ref mo)]) F.1 F.2.1 dX9_fits_62 rfl hl (by decide) rfl (fun ls hl => ?_)
            refine h_iinc (k := 1) (a := k) (lv' := [(2, .int (iI (k + 1))), (1, .int (iI 0)), (0, .ref mo)]) F dX9_fits_63 hl rfl (by decide) rfl (fun ls hl => ?_)
            refine h_goto (tgt := 28) F dX9_fits_66 (by decide) ?_
            have eq19 : (bz (decide (σ 4 = σ 1) && al (fitB σ) 0 (k + 1)) : Int) = 0 := by rw [al_s _ (by omega), ← Bool.and_assoc]; first | exact (bzf (by rw [‹(decide (σ 4 = σ 1) && al (fitB σ) 0 k) = false›]; rfl)).symm | exact (bzt (by rw [‹(decide (σ 4 = σ 1) && al (fitB σ) 0 k) = true›]; exact decide_eq_true (by assumption))).symm | exact (bzf (by rw [show fitB σ k = false from decide_eq_false (by assumption)]; simp)).symm
            have eq20 : ((k + 1) : Int) = k + 1 := by first | rfl | omega | simp
            exact ih28 (k + 1)  (by omega) (by omega)   _ _ ls hW hS (by rw [eq19, eq20]; exact lv_sub hl [1, 0, 2] rfl)
          · obtain ⟨m1, m2, m3, m4, m5, m6⟩ := hwf.2.2.1 k (by omega) (by omega)
            have hcr := cnt_r (fun z => legS σ k && decide (rdS σ k z false = tdS σ k z)) (lo := 0) (hi := cp σ k 0) (by omega)
            refine lv_aload_n F.1 F.2.1 dX9_fits_42 rfl (lv_at hl 2 rfl) ?_
            refine lv_iload_n F.1 F.2.1 dX9_fits_43 rfl (lv_at hl 1 rfl) ?_
            refine h_iconst F dX9_fits_44 ?_
            refine cl_RX9_175 (As := [.int (iI k), .int (iI 0)]) (rest := []) F hl (c_that_r l X w1 mo (up v 6 0) σ k ho3 hs hwf (by omega)) hW hS ho3 rfl rfl ⟨Nat.le_of_ble_eq_true rfl, Nat.le_of_ble_eq_true rfl⟩ (Nat.le_of_ble_eq_true rfl) ⟨Nat.zero_le _, Nat.zero_le _⟩ dX9_fits_45 (fun w1 H locs hp21 hW hS => ?_)
            rw [hp21] at hW; clear hp21; clear w1
            refine lv_aload_n F.1 F.2.1 dX9_fits_48 rfl (lv_at hl 2 rfl) ?_
            refine lv_iload_n F.1 F.2.1 dX9_fits_49 rfl (lv_at hl 1 rfl) ?_
            refine h_iconst F dX9_fits_50 ?_
            refine cl_RX9_95 (As := [.int (iI k), .int (iI 0)]) (rest := [.int (iI (cnt (fun z => legS σ k && decide (rdS σ k z false = tdS σ k z)) 0 (cp σ k 0)))]) F hl (c_X9_cap l X w1 mo (up v 6 0) σ k 0 ho3 hs hwf (by omega)) hW hS ho3 rfl rfl ⟨Nat.le_of_ble_eq_true rfl, Nat.le_of_ble_eq_true rfl⟩ (Nat.le_of_ble_eq_true rfl) ⟨Nat.zero_le _, Nat.zero_le _⟩ dX9_fits_51 (fun w1 H locs hp22 hW hS => ?_)
            rw [hp22] at hW; clear hp22; clear w1
            refine h_icne (tgt := 61) F dX9_fits_54 (by decide) (by omega) (fun c23 => ?_) (fun c23 => ?_)
            · refine h_iconst F dX9_fits_61 ?_
              refine lv_istore_n (lv' := [(1, .int (iI 0)), (2, .int (iI k)), (0, .ref mo)]) F.1 F.2.1 dX9_fits_62 rfl hl (by decide) rfl (fun ls hl => ?_)
              refine h_iinc (k := 1) (a := k) (lv' := [(2, .int (iI (k + 1))), (1, .int (iI 0)), (0, .ref mo)]) F dX9_fits_63 hl rfl (by decide) rfl (fun ls hl => ?_)
              refine h_goto (tgt := 28) F dX9_fits_66 (by decide) ?_
              have eq24 : (bz (decide (σ 4 = σ 1) && al (fitB σ) 0 (k + 1)) : Int) = 0 := by rw [al_s _ (by omega), ← Bool.and_assoc]; first | exact (bzf (by rw [‹(decide (σ 4 = σ 1) && al (fitB σ) 0 k) = false›]; rfl)).symm | exact (bzt (by rw [‹(decide (σ 4 = σ 1) && al (fitB σ) 0 k) = true›]; exact decide_eq_true (by assumption))).symm | exact (bzf (by rw [show fitB σ k = false from decide_eq_false (by assumption)]; simp)).symm
              have eq25 : ((k + 1) : Int) = k + 1 := by first | rfl | omega | simp
              exact ih28 (k + 1)  (by omega) (by omega)   _ _ ls hW hS (by rw [eq24, eq25]; exact lv_sub hl [1, 0, 2] rfl)
            · refine h_iconst F dX9_fits_57 ?_
              refine h_goto (tgt := 62) F dX9_fits_58 (by decide) ?_
              refine lv_istore_n (lv' := [(1, .int (iI 1)), (2, .int (iI k)), (0, .ref mo)]) F.1 F.2.1 dX9_fits_62 rfl hl (by decide) rfl (fun ls hl => ?_)
              refine h_iinc (k := 1) (a := k) (lv' := [(2, .int (iI (k + 1))), (1, .int (iI 1)), (0, .ref mo)]) F dX9_fits_63 hl rfl (by decide) rfl (fun ls hl => ?_)
              refine h_goto (tgt := 28) F dX9_fits_66 (by decide) ?_
              have eq26 : (bz (decide (σ 4 = σ 1) && al (fitB σ) 0 (k + 1)) : Int) = 1 := by rw [al_s _ (by omega), ← Bool.and_assoc]; first | exact (bzf (by rw [‹(decide (σ 4 = σ 1) && al (fitB σ) 0 k) = false›]; rfl)).symm | exact (bzt (by rw [‹(decide (σ 4 = σ 1) && al (fitB σ) 0 k) = true›]; exact decide_eq_true (by assumption))).symm | exact (bzf (by rw [show fitB σ k = false from decide_eq_false (by assumption)]; simp)).symm
              have eq27 : ((k + 1) : Int) = k + 1 := by first | rfl | omega | simp
              exact ih28 (k + 1)  (by omega) (by omega)   _ _ ls hW hS (by rw [eq26, eq27]; exact lv_sub hl [1, 0, 2] rfl)
    have eq28 : (bz (decide (σ 4 = σ 1) && al (fitB σ) 0 0) : Int) = 1 := by rw [al_0, Bool.and_true]; first | exact (bzt (decide_eq_true (by omega))).symm | exact (bzf (decide_eq_false (by omega))).symm
    exact loop28 ((σ 5 - 0) + 1 : Int).toNat 0  (by omega) (by omega)   _ _ ls hW hS (by rw [eq28]; exact lv_sub hl [1, 0, 2] rfl)
set_option maxHeartbeats 4000000 in
set_option maxRecDepth 100000 in
theorem c_X9_slitsOf (l : Launch) (X : Cx) (w : Wo) (mo : Nat) (v σ : Int → Int) (le : Int) (hM : w mo = some (.inr (9, mL mo v))) (hs : w (mo + 1) = some (aZ X 1317 σ)) (hwf : WF σ) (hle : 2 ≤ le ∧ le ≤ 30) : CM l X yX9_slitsOf cX9_slitsOf 6 (some (.int)) (rmk 2 43) [.ref mo, .int (iI le)] w (some (.int (iI (slQ σ le)))) (fun w' => w' mo = some (.inr (9, mL mo (up v 12 (lgQ σ)))) ∧ ∀ q : Nat, q ≠ mo → w' q = w q) := by
  refine CM.of (lv := [(0, .ref mo), (1, .int (iI le))]) (by decide) (Nat.le_of_ble_eq_true rfl) rfl (fun p e s m below meth c ls F hr hlk hin hW hS hl => ?_)
  have hZ0 := hW.2.2
  have hB9 := hW.1.2
  clear hin
  have hF := hwf.1
  unfold WF0 at hF
  refine h_iconst F dX9_slitsOf_0 ?_
  refine lv_istore_n (lv' := [(2, .int (iI 0)), (0, .ref mo), (1, .int (iI le))]) F.1 F.2.1 dX9_slitsOf_1 rfl hl (by decide) rfl (fun ls hl => ?_)
  refine lv_aload_n F.1 F.2.1 dX9_slitsOf_2 rfl (lv_at hl 1 rfl) ?_
  refine h_iconst F dX9_slitsOf_3 ?_
  refine pf_RX9_208 F hW hS hM (Nat.le_of_ble_eq_true rfl) dX9_slitsOf_4 (fun w1 H locs ho3 hn2 hW hS => ?_)
  rw [mL_12] at ho3
  have hs := (hn2 _ (by omega)).trans hs
  refine h_iconst F dX9_slitsOf_7 ?_
  refine lv_istore_n (lv' := [(3, .int (iI 0)), (2, .int (iI 0)), (0, .ref mo), (1, .int (iI le))]) F.1 F.2.1 dX9_slitsOf_8 rfl hl (by decide) rfl (fun ls hl => ?_)
  have loop9 : ∀ (n9 : Nat) (i : Int), (hrg : 0 ≤ i ∧ i ≤ σ 0 - 1) → (hms : σ 0 - 1 - i < (n9 : Int)) → (w9 : Wo) → (hO9_0 : w9 mo = some (.inr (9, mL mo (up v 12 (mx (lgB σ) 0 i))))) → (hF9 : ∀ q : Nat, q ≠ mo → w9 q = w1 q) → (H : Heap) → (locs : List Loc) → (ls : Array Slot) → Wd X w9 s H → va_S (cxA X) s.heap H locs → lv_has ls 6 [(2, .int (iI (sm (slB σ le) 0 i))), (3, .int (iI i)), (0, .ref mo), (1, .int (iI le))] → W p l e (rmk 2 43) s m (List.toArray [.ref mo, .int (iI le)]) below meth c H locs 0 0 (MX X below (List.toArray [.ref mo, .int (iI le)]) s 0 0 (some (.int (iI (slQ σ le)))) (fun w' => w' mo = some (.inr (9, mL mo (up v 12 (lgQ σ)))) ∧ ∀ q : Nat, q ≠ mo → w' q = w q)) (F0 m 9 ls []) := by
    intro n9
    induction n9 with
    | zero => intro i  hrg hms; exfalso; omega
    | succ n9 ih9 =>
      intro i  hrg hms w9 hO9_0 hF9  H locs ls hW hS hl
      have hs := (hF9 _ (by omega)).trans hs
      refine lv_iload_n F.1 F.2.1 dX9_slitsOf_9 rfl (lv_at hl 1 rfl) ?_
      refine h_iconst F dX9_slitsOf_10 ?_
      refine h_iadd (a := i) (b := 1) F dX9_slitsOf_11 ?_
      refine lv_aload_n F.1 F.2.1 dX9_slitsOf_12 rfl (lv_at hl 2 rfl) ?_
      refine gf_RX9_7 F hW hO9_0 rfl dX9_slitsOf_13 ?_
      refine h_iconst F dX9_slitsOf_16 ?_
      refine h_iald F hW hs (by omega) (by omega) dX9_slitsOf_17 ?_
      refine h_icge (tgt := 116) F dX9_slitsOf_18 (by decide) (by omega) (fun c4 => ?_) (fun c4 => ?_)
      · refine lv_iload_n F.1 F.2.1 dX9_slitsOf_116 rfl (lv_at hl 0 rfl) ?_
        refine h_top (show (sm (slB σ le) 0 i : Int) = slQ σ le from by rw [show i = σ 0 - 1 by omega]; rfl) ?_
        exact h_ireti F hr hlk hW hS ⟨(by rw [hO9_0]; rw [show i = σ 0 - 1 by omega]; rfl), (fun q h09 => by rw [hF9 q (by omega), hn2 q (by omega)])⟩ dX9_slitsOf_117
      · refine h_iconst F dX9_slitsOf_21 ?_
        refine lv_istore (lv' := [(4, .int (iI 0)), (2, .int (iI (sm (slB σ le) 0 i))), (3, .int (iI i)), (0, .ref mo), (1, .int (iI le))]) F.1 F.2.1 dX9_slitsOf_22 hl (by decide) rfl (fun ls hl => ?_)
        refine h_iconst F dX9_slitsOf_24 ?_
        refine lv_istore (lv' := [(5, .int (iI 0)), (4, .int (iI 0)), (2, .int (iI (sm (slB σ le) 0 i))), (3, .int (iI i)), (0, .ref mo), (1, .int (iI le))]) F.1 F.2.1 dX9_slitsOf_25 hl (by decide) rfl (fun ls hl => ?_)
        have loop27 : ∀ (n9 : Nat) (r : Int), (hrg : 0 ≤ r ∧ r ≤ σ 4 + 1) → (hms : σ 4 + 1 - r < (n9 : Int)) → (w8 : Wo) → (hO27_0 : w8 mo = some (.inr (9, mL mo (up v 12 (max (mx (lgB σ) 0 i) (mx (fun z => if enB σ i z then rnS σ i z else 0) 0 r)))))) → (hF27 : ∀ q : Nat, q ≠ mo → w8 q = w9 q) → (H : Heap) → (locs : List Loc) → (ls : Array Slot) → Wd X w8 s H → va_S (cxA X) s.heap H locs → lv_has ls 6 [(2, .int (iI (sm (slB σ le) 0 i + cnt (fun z => enB σ i z && decide (le ≤ rnS σ i z)) 0 r))), (4, .int (iI (if r ≤ σ 4 then rnS σ i r else 0))), (5, .int (iI r)), (3, .int (iI i)), (0, .ref mo), (1, .int (iI le))] → W p l e (rmk 2 43) s m (List.toArray [.ref mo, .int (iI le)]) below meth c H locs 0 0 (MX X below (List.toArray [.ref mo, .int (iI le)]) s 0 0 (some (.int (iI (slQ σ le)))) (fun w' => w' mo = some (.inr (9, mL mo (up v 12 (lgQ σ)))) ∧ ∀ q : Nat, q ≠ mo → w' q = w q)) (F0 m 27 ls []) := by
          intro n9
          induction n9 with
          | zero => intro r  hrg hms; exfalso; omega
          | succ n9 ih27 =>
            intro r  hrg hms w8 hO27_0 hF27  H locs ls hW hS hl
            have hs := (hF27 _ (by omega)).trans hs
            have hr4 := rnS_r σ i (r := r) (by omega)
            refine lv_iload F.1 F.2.1 dX9_slitsOf_27 (lv_at hl 2 rfl) ?_
            refine lv_aload_n F.1 F.2.1 dX9_slitsOf_29 rfl (lv_at hl 4 rfl) ?_
            refine gf_RX9_7 F hW hO27_0 rfl dX9_slitsOf_30 ?_
            refine h_iconst F dX9_slitsOf_33 ?_
            refine h_iald F hW hs (by omega) (by omega) dX9_slitsOf_34 ?_
            refine h_icgt (tgt := 110) F dX9_slitsOf_35 (by decide) (by omega) (fun c5 => ?_) (fun c5 => ?_)
            · refine h_iinc (k := 3) (a := i) (lv' := [(3, .int (iI (i + 1))), (2, .int (iI (sm (slB σ le) 0 i + cnt (fun z => enB σ i z && decide (le ≤ rnS σ i z)) 0 r))), (4, .int (iI (if r ≤ σ 4 then rnS σ i r else 0))), (5, .int (iI r)), (0, .ref mo), (1, .int (iI le))]) F dX9_slitsOf_110 hl rfl (by decide) rfl (fun ls hl => ?_)
              refine h_goto (tgt := 9) F dX9_slitsOf_113 (by decide) ?_
              have eq6 : (sm (slB σ le) 0 (i + 1) : Int) = sm (slB σ le) 0 i + cnt (fun z => enB σ i z && decide (le ≤ rnS σ i z)) 0 r := by rw [sm_s _ (by omega), show r = σ 4 + 1 by omega]; rfl
              have eq7 : ((i + 1) : Int) = i + 1 := by first | rfl | omega | simp
              exact ih9 (i + 1)  (by omega) (by omega) w8 (by rw [show (up v 12 (mx (lgB σ) 0 (i + 1)) : Int → Int) = up v 12 (max (mx (lgB σ) 0 i) (mx (fun z => if enB σ i z then rnS σ i z else 0) 0 r)) from by rw [mx_s _ (by omega), show r = σ 4 + 1 by omega]; rfl]; exact hO27_0) (fun q h09 => by rw [hF27 q (by omega), hF9 q h09])  _ _ ls hW hS (by rw [eq6, eq7]; exact lv_sub hl [1, 0, 4, 5] rfl)
            · rw [if_pos (show r ≤ σ 4 by omega)] at hl
              refine lv_iload F.1 F.2.1 dX9_slitsOf_38 (lv_at hl 2 rfl) ?_
              refine lv_aload_n F.1 F.2.1 dX9_slitsOf_40 rfl (lv_at hl 4 rfl) ?_
              refine gf_RX9_7 F hW hO27_0 rfl dX9_slitsOf_41 ?_
              refine h_iconst F dX9_slitsOf_44 ?_
              refine h_iald F hW hs (by omega) (by omega) dX9_slitsOf_45 ?_
              refine h_icge (tgt := 74) F dX9_slitsOf_46 (by decide) (by omega) (fun c8 => ?_) (fun c8 => ?_)
              · have hen : enB σ i r = true := by unfold enB; rw [decide_eq_true (by omega)]; rfl
                have hrs : r + 1 ≤ σ 4 → rnS σ i (r + 1) = 0 := fun h => by omega
                refine lv_iload_n F.1 F.2.1 dX9_slitsOf_74 rfl (lv_at hl 0 rfl) ?_
                refine lv_iload F.1 F.2.1 dX9_slitsOf_75 (lv_at hl 1 rfl) ?_
                refine lv_iload_n F.1 F.2.1 dX9_slitsOf_77 rfl (lv_at hl 5 rfl) ?_
                refine h_iclt (tgt := 85) F dX9_slitsOf_78 (by decide) (by omega) (fun c9 => ?_) (fun c9 => ?_)
                · refine h_iconst F dX9_slitsOf_85 ?_
                  refine h_iadd (a := sm (slB σ le) 0 i + cnt (fun z => enB σ i z && decide (le ≤ rnS σ i z)) 0 r) (b := 0) F dX9_slitsOf_86 ?_
                  refine lv_istore_n (lv' := [(2, .int (iI ((sm (slB σ le) 0 i + cnt (fun z => enB σ i z && decide (le ≤ rnS σ i z)) 0 r) + 0))), (4, .int (iI (rnS σ i r))), (5, .int (iI r)), (3, .int (iI i)), (0, .ref mo), (1, .int (iI le))]) F.1 F.2.1 dX9_slitsOf_87 rfl hl (by decide) rfl (fun ls hl => ?_)
                  refine lv_aload_n F.1 F.2.1 dX9_slitsOf_88 rfl (lv_at hl 4 rfl) ?_
                  refine lv_aload_n F.1 F.2.1 dX9_slitsOf_89 rfl (lv_at hl 4 rfl) ?_
                  refine gf_RX9_208 F hW hO27_0 rfl dX9_slitsOf_90 ?_
                  refine h_top (show ((up v 12 (max (mx (lgB σ) 0 i) (mx (fun z => if enB σ i z then rnS σ i z else 0) 0 r))) 12 : Int) = max (mx (lgB σ) 0 i) (mx (fun z => if enB σ i z then rnS σ i z else 0) 0 r) from rfl) ?_
                  refine lv_iload F.1 F.2.1 dX9_slitsOf_93 (lv_at hl 1 rfl) ?_
                  refine h_mmax (index := 172) (a := max (mx (lgB σ) 0 i) (mx (fun z => if enB σ i z then rnS σ i z else 0) 0 r)) (b := rnS σ i r) F hl km_RX9_172 (Nat.le_of_ble_eq_true rfl) (Nat.le_of_ble_eq_true rfl) (Nat.zero_le _) (Nat.zero_le _) (by have := lgB_r σ (by omega) i; have hm1 := mx_r (f := lgB σ) (lo := 0) (hi := i) (M := 30) (by decide) (fun q _ _ => by have := lgB_r σ (by omega) q; omega); have hm2 := mx_r (f := fun z => if enB σ i z then rnS σ i z else 0) (lo := 0) (hi := r) (M := 31) (by decide) (fun q h1 h2 => by have := rnS_r σ i (r := q) (by omega); show (if _ then _ else _) ≤ _; split <;> omega); omega) dX9_slitsOf_95 ?_
                  refine pf_RX9_208 F hW hS hO27_0 (Nat.le_of_ble_eq_true rfl) dX9_slitsOf_98 (fun w10 H locs ho12 hn11 hW hS => ?_)
                  rw [mL_12] at ho12
                  have hs := (hn11 _ (by omega)).trans hs
                  refine h_iconst F dX9_slitsOf_101 ?_
                  refine lv_istore (lv' := [(4, .int (iI 0)), (2, .int (iI ((sm (slB σ le) 0 i + cnt (fun z => enB σ i z && decide (le ≤ rnS σ i z)) 0 r) + 0))), (5, .int (iI r)), (3, .int (iI i)), (0, .ref mo), (1, .int (iI le))]) F.1 F.2.1 dX9_slitsOf_102 hl (by decide) rfl (fun ls hl => ?_)
                  refine h_iinc (k := 2) (a := r) (lv' := [(5, .int (iI (r + 1))), (4, .int (iI 0)), (2, .int (iI ((sm (slB σ le) 0 i + cnt (fun z => enB σ i z && decide (le ≤ rnS σ i z)) 0 r) + 0))), (3, .int (iI i)), (0, .ref mo), (1, .int (iI le))]) F dX9_slitsOf_104 hl rfl (by decide) rfl (fun ls hl => ?_)
                  refine h_goto (tgt := 27) F dX9_slitsOf_107 (by decide) ?_
                  have eq13 : (sm (slB σ le) 0 i + cnt (fun z => enB σ i z && decide (le ≤ rnS σ i z)) 0 (r + 1) : Int) = (sm (slB σ le) 0 i + cnt (fun z => enB σ i z && decide (le ≤ rnS σ i z)) 0 r) + 0 := by first | (rw [cnt_t (by omega) (by rw [hen, decide_eq_true (by omega)]; rfl)]; omega) | (rw [cnt_f (by omega) (by rw [decide_eq_false (p := le ≤ _) (by omega)]; simp)]; omega) | (rw [cnt_f (by omega) (by rw [hen]; rfl)])
                  have eq14 : ((if (r + 1) ≤ σ 4 then rnS σ i (r + 1) else 0) : Int) = 0 := by split <;> first | omega | (rw [hrs]; omega) | (rw [hrs])
                  have eq15 : ((r + 1) : Int) = r + 1 := by first | rfl | omega | simp
                  exact ih27 (r + 1)  (by omega) (by omega) w10 (by rw [show (up v 12 (max (mx (lgB σ) 0 i) (mx (fun z => if enB σ i z then rnS σ i z else 0) 0 (r + 1))) : Int → Int) = up (up v 12 (max (mx (lgB σ) 0 i) (mx (fun z => if enB σ i z then rnS σ i z else 0) 0 r))) 12 (max (max (mx (lgB σ) 0 i) (mx (fun z => if enB σ i z then rnS σ i z else 0) 0 r)) (rnS σ i r)) from by (first | rw [up_up] | skip); congr 1; rw [mx_s _ (by omega)]; simp only [hen, if_true, Bool.false_eq_true, if_false]; have h9 := mxN_0 (fun z => if enB σ i z then rnS σ i z else 0) 0 (r - 0).toNat; unfold mx at *; omega]; exact ho12) (fun q h09 => by rw [hn11 q (by omega), hF27 q h09])  _ _ ls hW hS (by rw [eq13, eq14, eq15]; exact lv_sub hl [2, 1, 0, 3, 4, 5] rfl)
                · refine h_iconst F dX9_slitsOf_81 ?_
                  refine h_goto (tgt := 86) F dX9_slitsOf_82 (by decide) ?_
                  refine h_iadd (a := sm (slB σ le) 0 i + cnt (fun z => enB σ i z && decide (le ≤ rnS σ i z)) 0 r) (b := 1) F dX9_slitsOf_86 ?_
                  refine lv_istore_n (lv' := [(2, .int (iI ((sm (slB σ le) 0 i + cnt (fun z => enB σ i z && decide (le ≤ rnS σ i z)) 0 r) + 1))), (4, .int (iI (rnS σ i r))), (5, .int (iI r)), (3, .int (iI i)), (0, .ref mo), (1, .int (iI le))]) F.1 F.2.1 dX9_slitsOf_87 rfl hl (by decide) rfl (fun ls hl => ?_)
                  refine lv_aload_n F.1 F.2.1 dX9_slitsOf_88 rfl (lv_at hl 4 rfl) ?_
                  refine lv_aload_n F.1 F.2.1 dX9_slitsOf_89 rfl (lv_at hl 4 rfl) ?_
                  refine gf_RX9_208 F hW hO27_0 rfl dX9_slitsOf_90 ?_
                  refine h_top (show ((up v 12 (max (mx (lgB σ) 0 i) (mx (fun z => if enB σ i z then rnS σ i z else 0) 0 r))) 12 : Int) = max (mx (lgB σ) 0 i) (mx (fun z => if enB σ i z then rnS σ i z else 0) 0 r) from rfl) ?_
                  refine lv_iload F.1 F.2.1 dX9_slitsOf_93 (lv_at hl 1 rfl) ?_
                  refine h_mmax (index := 172) (a := max (mx (lgB σ) 0 i) (mx (fun z => if enB σ i z then rnS σ i z else 0) 0 r)) (b := rnS σ i r) F hl km_RX9_172 (Nat.le_of_ble_eq_true rfl) (Nat.le_of_ble_eq_true rfl) (Nat.zero_le _) (Nat.zero_le _) (by have := lgB_r σ (by omega) i; have hm1 := mx_r (f := lgB σ) (lo := 0) (hi := i) (M := 30) (by decide) (fun q _ _ => by have := lgB_r σ (by omega) q; omega); have hm2 := mx_r (f := fun z => if enB σ i z then rnS σ i z else 0) (lo := 0) (hi := r) (M := 31) (by decide) (fun q h1 h2 => by have := rnS_r σ i (r := q) (by omega); show (if _ then _ else _) ≤ _; split <;> omega); omega) dX9_slitsOf_95 ?_
                  refine pf_RX9_208 F hW hS hO27_0 (Nat.le_of_ble_eq_true rfl) dX9_slitsOf_98 (fun w16 H locs ho18 hn17 hW hS => ?_)
                  rw [mL_12] at ho18
                  have hs := (hn17 _ (by omega)).trans hs
                  refine h_iconst F dX9_slitsOf_101 ?_
                  refine lv_istore (lv' := [(4, .int (iI 0)), (2, .int (iI ((sm (slB σ le) 0 i + cnt (fun z => enB σ i z && decide (le ≤ rnS σ i z)) 0 r) + 1))), (5, .int (iI r)), (3, .int (iI i)), (0, .ref mo), (1, .int (iI le))]) F.1 F.2.1 dX9_slitsOf_102 hl (by decide) rfl (fun ls hl => ?_)
                  refine h_iinc (k := 2) (a := r) (lv' := [(5, .int (iI (r + 1))), (4, .int (iI 0)), (2, .int (iI ((sm (slB σ le) 0 i + cnt (fun z => enB σ i z && decide (le ≤ rnS σ i z)) 0 r) + 1))), (3, .int (iI i)), (0, .ref mo), (1, .int (iI le))]) F dX9_slitsOf_104 hl rfl (by decide) rfl (fun ls hl => ?_)
                  refine h_goto (tgt := 27) F dX9_slitsOf_107 (by decide) ?_
                  have eq19 : (sm (slB σ le) 0 i + cnt (fun z => enB σ i z && decide (le ≤ rnS σ i z)) 0 (r + 1) : Int) = (sm (slB σ le) 0 i + cnt (fun z => enB σ i z && decide (le ≤ rnS σ i z)) 0 r) + 1 := by first | (rw [cnt_t (by omega) (by rw [hen, decide_eq_true (by omega)]; rfl)]; omega) | (rw [cnt_f (by omega) (by rw [decide_eq_false (p := le ≤ _) (by omega)]; simp)]; omega) | (rw [cnt_f (by omega) (by rw [hen]; rfl)])
                  have eq20 : ((if (r + 1) ≤ σ 4 then rnS σ i (r + 1) else 0) : Int) = 0 := by split <;> first | omega | (rw [hrs]; omega) | (rw [hrs])
                  have eq21 : ((r + 1) : Int) = r + 1 := by first | rfl | omega | simp
                  exact ih27 (r + 1)  (by omega) (by omega) w16 (by rw [show (up v 12 (max (mx (lgB σ) 0 i) (mx (fun z => if enB σ i z then rnS σ i z else 0) 0 (r + 1))) : Int → Int) = up (up v 12 (max (mx (lgB σ) 0 i) (mx (fun z => if enB σ i z then rnS σ i z else 0) 0 r))) 12 (max (max (mx (lgB σ) 0 i) (mx (fun z => if enB σ i z then rnS σ i z else 0) 0 r)) (rnS σ i r)) from by (first | rw [up_up] | skip); congr 1; rw [mx_s _ (by omega)]; simp only [hen, if_true, Bool.false_eq_true, if_false]; have h9 := mxN_0 (fun z => if enB σ i z then rnS σ i z else 0) 0 (r - 0).toNat; unfold mx at *; omega]; exact ho18) (fun q h09 => by rw [hn17 q (by omega), hF27 q h09])  _ _ ls hW hS (by rw [eq19, eq20, eq21]; exact lv_sub hl [2, 1, 0, 3, 4, 5] rfl)
              · have hj1 := hwf.2.2.2.1 i r (by omega) (by omega) (by omega) (by omega)
                have hj2 := hwf.2.2.2.1 (i + 1) r (by omega) (by omega) (by omega) (by omega)
                refine lv_aload_n F.1 F.2.1 dX9_slitsOf_49 rfl (lv_at hl 4 rfl) ?_
                refine lv_iload_n F.1 F.2.1 dX9_slitsOf_50 rfl (lv_at hl 3 rfl) ?_
                refine lv_iload F.1 F.2.1 dX9_slitsOf_51 (lv_at hl 2 rfl) ?_
                have hj1 := hwf.2.2.2.1 i r (by omega) (by omega) (by omega) (by omega)
                have hj2 := hwf.2.2.2.1 (i + 1) r (by omega) (by omega) (by omega) (by omega)
                refine cl_RX9_113 (As := [.int (iI i), .int (iI r)]) (rest := []) F hl (c_X9_colourAt l X w8 mo (up v 12 (max (mx (lgB σ) 0 i) (mx (fun z => if enB σ i z then rnS σ i z else 0) 0 r))) σ i r hO27_0 hs hwf (by omega)) hW hS hO27_0 rfl rfl ⟨Nat.le_of_ble_eq_true rfl, Nat.le_of_ble_eq_true rfl⟩ (Nat.le_of_ble_eq_true rfl) ⟨Nat.zero_le _, Nat.zero_le _⟩ dX9_slitsOf_53 (fun w1 H locs hp22 hW hS => ?_)
                rw [hp22] at hW; clear hp22; clear w1
                refine lv_aload_n F.1 F.2.1 dX9_slitsOf_56 rfl (lv_at hl 4 rfl) ?_
                refine lv_iload_n F.1 F.2.1 dX9_slitsOf_57 rfl (lv_at hl 3 rfl) ?_
                refine h_iconst F dX9_slitsOf_58 ?_
                refine h_iadd (a := i) (b := 1) F dX9_slitsOf_59 ?_
                refine lv_iload F.1 F.2.1 dX9_slitsOf_60 (lv_at hl 2 rfl) ?_
                refine cl_RX9_113 (As := [.int (iI (i + 1)), .int (iI r)]) (rest := [.int (iI (cellS σ i r))]) F hl (c_X9_colourAt l X w8 mo (up v 12 (max (mx (lgB σ) 0 i) (mx (fun z => if enB σ i z then rnS σ i z else 0) 0 r))) σ (i + 1) r hO27_0 hs hwf (by omega)) hW hS hO27_0 rfl rfl ⟨Nat.le_of_ble_eq_true rfl, Nat.le_of_ble_eq_true rfl⟩ (Nat.le_of_ble_eq_true rfl) ⟨Nat.zero_le _, Nat.zero_le _⟩ dX9_slitsOf_62 (fun w1 H locs hp23 hW hS => ?_)
                rw [hp23] at hW; clear hp23; clear w1
                refine h_iceq (tgt := 74) F dX9_slitsOf_65 (by decide) (by omega) (fun c24 => ?_) (fun c24 => ?_)
                · have hjn : jnS σ i r = false := decide_eq_false (by omega)
                  have hen : enB σ i r = true := by unfold enB; rw [hjn]; simp
                  have hrs : rnS σ i (r + 1) = 0 := by rw [rnS_s σ i (by omega), hjn]; rfl
                  refine lv_iload_n F.1 F.2.1 dX9_slitsOf_74 rfl (lv_at hl 0 rfl) ?_
                  refine lv_iload F.1 F.2.1 dX9_slitsOf_75 (lv_at hl 1 rfl) ?_
                  refine lv_iload_n F.1 F.2.1 dX9_slitsOf_77 rfl (lv_at hl 5 rfl) ?_
                  refine h_iclt (tgt := 85) F dX9_slitsOf_78 (by decide) (by omega) (fun c25 => ?_) (fun c25 => ?_)
                  · refine h_iconst F dX9_slitsOf_85 ?_
                    refine h_iadd (a := sm (slB σ le) 0 i + cnt (fun z => enB σ i z && decide (le ≤ rnS σ i z)) 0 r) (b := 0) F dX9_slitsOf_86 ?_
                    refine lv_istore_n (lv' := [(2, .int (iI ((sm (slB σ le) 0 i + cnt (fun z => enB σ i z && decide (le ≤ rnS σ i z)) 0 r) + 0))), (4, .int (iI (rnS σ i r))), (5, .int (iI r)), (3, .int (iI i)), (0, .ref mo), (1, .int (iI le))]) F.1 F.2.1 dX9_slitsOf_87 rfl hl (by decide) rfl (fun ls hl => ?_)
                    refine lv_aload_n F.1 F.2.1 dX9_slitsOf_88 rfl (lv_at hl 4 rfl) ?_
                    refine lv_aload_n F.1 F.2.1 dX9_slitsOf_89 rfl (lv_at hl 4 rfl) ?_
                    refine gf_RX9_208 F hW hO27_0 rfl dX9_slitsOf_90 ?_
                    refine h_top (show ((up v 12 (max (mx (lgB σ) 0 i) (mx (fun z => if enB σ i z then rnS σ i z else 0) 0 r))) 12 : Int) = max (mx (lgB σ) 0 i) (mx (fun z => if enB σ i z then rnS σ i z else 0) 0 r) from rfl) ?_
                    refine lv_iload F.1 F.2.1 dX9_slitsOf_93 (lv_at hl 1 rfl) ?_
                    refine h_mmax (index := 172) (a := max (mx (lgB σ) 0 i) (mx (fun z => if enB σ i z then rnS σ i z else 0) 0 r)) (b := rnS σ i r) F hl km_RX9_172 (Nat.le_of_ble_eq_true rfl) (Nat.le_of_ble_eq_true rfl) (Nat.zero_le _) (Nat.zero_le _) (by have := lgB_r σ (by omega) i; have hm1 := mx_r (f := lgB σ) (lo := 0) (hi := i) (M := 30) (by decide) (fun q _ _ => by have := lgB_r σ (by omega) q; omega); have hm2 := mx_r (f := fun z => if enB σ i z then rnS σ i z else 0) (lo := 0) (hi := r) (M := 31) (by decide) (fun q h1 h2 => by have := rnS_r σ i (r := q) (by omega); show (if _ then _ else _) ≤ _; split <;> omega); omega) dX9_slitsOf_95 ?_
                    refine pf_RX9_208 F hW hS hO27_0 (Nat.le_of_ble_eq_true rfl) dX9_slitsOf_98 (fun w26 H locs ho28 hn27 hW hS => ?_)
                    rw [mL_12] at ho28
                    have hs := (hn27 _ (by omega)).trans hs
                    refine h_iconst F dX9_slitsOf_101 ?_
                    refine lv_istore (lv' := [(4, .int (iI 0)), (2, .int (iI ((sm (slB σ le) 0 i + cnt (fun z => enB σ i z && decide (le ≤ rnS σ i z)) 0 r) + 0))), (5, .int (iI r)), (3, .int (iI i)), (0, .ref mo), (1, .int (iI le))]) F.1 F.2.1 dX9_slitsOf_102 hl (by decide) rfl (fun ls hl => ?_)
                    refine h_iinc (k := 2) (a := r) (lv' := [(5, .int (iI (r + 1))), (4, .int (iI 0)), (2, .int (iI ((sm (slB σ le) 0 i + cnt (fun z => enB σ i z && decide (le ≤ rnS σ i z)) 0 r) + 0))), (3, .int (iI i)), (0, .ref mo), (1, .int (iI le))]) F dX9_slitsOf_104 hl rfl (by decide) rfl (fun ls hl => ?_)
                    refine h_goto (tgt := 27) F dX9_slitsOf_107 (by decide) ?_
                    have eq29 : (sm (slB σ le) 0 i + cnt (fun z => enB σ i z && decide (le ≤ rnS σ i z)) 0 (r + 1) : Int) = (sm (slB σ le) 0 i + cnt (fun z => enB σ i z && decide (le ≤ rnS σ i z)) 0 r) + 0 := by first | (rw [cnt_t (by omega) (by rw [hen, decide_eq_true (by omega)]; rfl)]; omega) | (rw [cnt_f (by omega) (by rw [decide_eq_false (p := le ≤ _) (by omega)]; simp)]; omega) | (rw [cnt_f (by omega) (by rw [hen]; rfl)])
                    have eq30 : ((if (r + 1) ≤ σ 4 then rnS σ i (r + 1) else 0) : Int) = 0 := by split <;> first | omega | (rw [hrs]; omega) | (rw [hrs])
                    have eq31 : ((r + 1) : Int) = r + 1 := by first | rfl | omega | simp
                    exact ih27 (r + 1)  (by omega) (by omega) w26 (by rw [show (up v 12 (max (mx (lgB σ) 0 i) (mx (fun z => if enB σ i z then rnS σ i z else 0) 0 (r + 1))) : Int → Int) = up (up v 12 (max (mx (lgB σ) 0 i) (mx (fun z => if enB σ i z then rnS σ i z else 0) 0 r))) 12 (max (max (mx (lgB σ) 0 i) (mx (fun z => if enB σ i z then rnS σ i z else 0) 0 r)) (rnS σ i r)) from by (first | rw [up_up] | skip); congr 1; rw [mx_s _ (by omega)]; simp only [hen, if_true, Bool.false_eq_true, if_false]; have h9 := mxN_0 (fun z => if enB σ i z then rnS σ i z else 0) 0 (r - 0).toNat; unfold mx at *; omega]; exact ho28) (fun q h09 => by rw [hn27 q (by omega), hF27 q h09])  _ _ ls hW hS (by rw [eq29, eq30, eq31]; exact lv_sub hl [2, 1, 0, 3, 4, 5] rfl)
                  · refine h_iconst F dX9_slitsOf_81 ?_
                    refine h_goto (tgt := 86) F dX9_slitsOf_82 (by decide) ?_
                    refine h_iadd (a := sm (slB σ le) 0 i + cnt (fun z => enB σ i z && decide (le ≤ rnS σ i z)) 0 r) (b := 1) F dX9_slitsOf_86 ?_
                    refine lv_istore_n (lv' := [(2, .int (iI ((sm (slB σ le) 0 i + cnt (fun z => enB σ i z && decide (le ≤ rnS σ i z)) 0 r) + 1))), (4, .int (iI (rnS σ i r))), (5, .int (iI r)), (3, .int (iI i)), (0, .ref mo), (1, .int (iI le))]) F.1 F.2.1 dX9_slitsOf_87 rfl hl (by decide) rfl (fun ls hl => ?_)
                    refine lv_aload_n F.1 F.2.1 dX9_slitsOf_88 rfl (lv_at hl 4 rfl) ?_
                    refine lv_aload_n F.1 F.2.1 dX9_slitsOf_89 rfl (lv_at hl 4 rfl) ?_
                    refine gf_RX9_208 F hW hO27_0 rfl dX9_slitsOf_90 ?_
                    refine h_top (show ((up v 12 (max (mx (lgB σ) 0 i) (mx (fun z => if enB σ i z then rnS σ i z else 0) 0 r))) 12 : Int) = max (mx (lgB σ) 0 i) (mx (fun z => if enB σ i z then rnS σ i z else 0) 0 r) from rfl) ?_
                    refine lv_iload F.1 F.2.1 dX9_slitsOf_93 (lv_at hl 1 rfl) ?_
                    refine h_mmax (index := 172) (a := max (mx (lgB σ) 0 i) (mx (fun z => if enB σ i z then rnS σ i z else 0) 0 r)) (b := rnS σ i r) F hl km_RX9_172 (Nat.le_of_ble_eq_true rfl) (Nat.le_of_ble_eq_true rfl) (Nat.zero_le _) (Nat.zero_le _) (by have := lgB_r σ (by omega) i; have hm1 := mx_r (f := lgB σ) (lo := 0) (hi := i) (M := 30) (by decide) (fun q _ _ => by have := lgB_r σ (by omega) q; omega); have hm2 := mx_r (f := fun z => if enB σ i z then rnS σ i z else 0) (lo := 0) (hi := r) (M := 31) (by decide) (fun q h1 h2 => by have := rnS_r σ i (r := q) (by omega); show (if _ then _ else _) ≤ _; split <;> omega); omega) dX9_slitsOf_95 ?_
                    refine pf_RX9_208 F hW hS hO27_0 (Nat.le_of_ble_eq_true rfl) dX9_slitsOf_98 (fun w32 H locs ho34 hn33 hW hS => ?_)
                    rw [mL_12] at ho34
                    have hs := (hn33 _ (by omega)).trans hs
                    refine h_iconst F dX9_slitsOf_101 ?_
                    refine lv_istore (lv' := [(4, .int (iI 0)), (2, .int (iI ((sm (slB σ le) 0 i + cnt (fun z => enB σ i z && decide (le ≤ rnS σ i z)) 0 r) + 1))), (5, .int (iI r)), (3, .int (iI i)), (0, .ref mo), (1, .int (iI le))]) F.1 F.2.1 dX9_slitsOf_102 hl (by decide) rfl (fun ls hl => ?_)
                    refine h_iinc (k := 2) (a := r) (lv' := [(5, .int (iI (r + 1))), (4, .int (iI 0)), (2, .int (iI ((sm (slB σ le) 0 i + cnt (fun z => enB σ i z && decide (le ≤ rnS σ i z)) 0 r) + 1))), (3, .int (iI i)), (0, .ref mo), (1, .int (iI le))]) F dX9_slitsOf_104 hl rfl (by decide) rfl (fun ls hl => ?_)
                    refine h_goto (tgt := 27) F dX9_slitsOf_107 (by decide) ?_
                    have eq35 : (sm (slB σ le) 0 i + cnt (fun z => enB σ i z && decide (le ≤ rnS σ i z)) 0 (r + 1) : Int) = (sm (slB σ le) 0 i + cnt (fun z => enB σ i z && decide (le ≤ rnS σ i z)) 0 r) + 1 := by first | (rw [cnt_t (by omega) (by rw [hen, decide_eq_true (by omega)]; rfl)]; omega) | (rw [cnt_f (by omega) (by rw [decide_eq_false (p := le ≤ _) (by omega)]; simp)]; omega) | (rw [cnt_f (by omega) (by rw [hen]; rfl)])
                    have eq36 : ((if (r + 1) ≤ σ 4 then rnS σ i (r + 1) else 0) : Int) = 0 := by split <;> first | omega | (rw [hrs]; omega) | (rw [hrs])
                    have eq37 : ((r + 1) : Int) = r + 1 := by first | rfl | omega | simp
                    exact ih27 (r + 1)  (by omega) (by omega) w32 (by rw [show (up v 12 (max (mx (lgB σ) 0 i) (mx (fun z => if enB σ i z then rnS σ i z else 0) 0 (r + 1))) : Int → Int) = up (up v 12 (max (mx (lgB σ) 0 i) (mx (fun z => if enB σ i z then rnS σ i z else 0) 0 r))) 12 (max (max (mx (lgB σ) 0 i) (mx (fun z => if enB σ i z then rnS σ i z else 0) 0 r)) (rnS σ i r)) from by (first | rw [up_up] | skip); congr 1; rw [mx_s _ (by omega)]; simp only [hen, if_true, Bool.false_eq_true, if_false]; have h9 := mxN_0 (fun z => if enB σ i z then rnS σ i z else 0) 0 (r - 0).toNat; unfold mx at *; omega]; exact ho34) (fun q h09 => by rw [hn33 q (by omega), hF27 q h09])  _ _ ls hW hS (by rw [eq35, eq36, eq37]; exact lv_sub hl [2, 1, 0, 3, 4, 5] rfl)
                · have hjn : jnS σ i r = true := decide_eq_true (by omega)
                  have hen : enB σ i r = false := by unfold enB; rw [hjn, decide_eq_false (by omega)]; rfl
                  have hrs : rnS σ i (r + 1) = rnS σ i r + 1 := by rw [rnS_s σ i (by omega), hjn]; rfl
                  refine h_iinc (k := 1) (a := rnS σ i r) (lv' := [(4, .int (iI ((rnS σ i r) + 1))), (2, .int (iI (sm (slB σ le) 0 i + cnt (fun z => enB σ i z && decide (le ≤ rnS σ i z)) 0 r))), (5, .int (iI r)), (3, .int (iI i)), (0, .ref mo), (1, .int (iI le))]) F dX9_slitsOf_68 hl rfl (by decide) rfl (fun ls hl => ?_)
                  refine h_goto (tgt := 104) F dX9_slitsOf_71 (by decide) ?_
                  refine h_iinc (k := 2) (a := r) (lv' := [(5, .int (iI (r + 1))), (4, .int (iI ((rnS σ i r) + 1))), (2, .int (iI (sm (slB σ le) 0 i + cnt (fun z => enB σ i z && decide (le ≤ rnS σ i z)) 0 r))), (3, .int (iI i)), (0, .ref mo), (1, .int (iI le))]) F dX9_slitsOf_104 hl rfl (by decide) rfl (fun ls hl => ?_)
                  refine h_goto (tgt := 27) F dX9_slitsOf_107 (by decide) ?_
                  have eq38 : (sm (slB σ le) 0 i + cnt (fun z => enB σ i z && decide (le ≤ rnS σ i z)) 0 (r + 1) : Int) = sm (slB σ le) 0 i + cnt (fun z => enB σ i z && decide (le ≤ rnS σ i z)) 0 r := by first | (rw [cnt_t (by omega) (by rw [hen, decide_eq_true (by omega)]; rfl)]; omega) | (rw [cnt_f (by omega) (by rw [decide_eq_false (p := le ≤ _) (by omega)]; simp)]; omega) | (rw [cnt_f (by omega) (by rw [hen]; rfl)])
                  have eq39 : ((if (r + 1) ≤ σ 4 then rnS σ i (r + 1) else 0) : Int) = (rnS σ i r) + 1 := by split <;> first | omega | (rw [hrs]; omega) | (rw [hrs])
                  have eq40 : ((r + 1) : Int) = r + 1 := by first | rfl | omega | simp
                  exact ih27 (r + 1)  (by omega) (by omega) w8 (by rw [show (up v 12 (max (mx (lgB σ) 0 i) (mx (fun z => if enB σ i z then rnS σ i z else 0) 0 (r + 1))) : Int → Int) = up v 12 (max (mx (lgB σ) 0 i) (mx (fun z => if enB σ i z then rnS σ i z else 0) 0 r)) from by (first | rw [up_up] | skip); congr 1; rw [mx_s _ (by omega)]; simp only [hen, if_true, Bool.false_eq_true, if_false]; have h9 := mxN_0 (fun z => if enB σ i z then rnS σ i z else 0) 0 (r - 0).toNat; unfold mx at *; omega]; exact hO27_0) (fun q h09 => by rw [hF27 q h09])  _ _ ls hW hS (by rw [eq38, eq39, eq40]; exact lv_sub hl [2, 1, 0, 3, 4, 5] rfl)
        have eq41 : (sm (slB σ le) 0 i + cnt (fun z => enB σ i z && decide (le ≤ rnS σ i z)) 0 0 : Int) = sm (slB σ le) 0 i := by rw [cnt_0]; omega
        have eq42 : ((if 0 ≤ σ 4 then rnS σ i 0 else 0) : Int) = 0 := by rw [if_pos (by omega)]; rfl
        exact loop27 ((σ 4 + 1 - 0) + 1 : Int).toNat 0  (by omega) (by omega) w9 (by rw [show (up v 12 (max (mx (lgB σ) 0 i) (mx (fun z => if enB σ i z then rnS σ i z else 0) 0 0)) : Int → Int) = up v 12 (mx (lgB σ) 0 i) from by rw [mx_0]; have := mxN_0 (lgB σ) 0 (i - 0).toNat; congr 1; show _ = mxN (lgB σ) 0 (i - 0).toNat; unfold mx; omega]; exact hO9_0) (fun q _ => rfl)  _ _ ls hW hS (by rw [eq41, eq42]; exact lv_sub hl [2, 1, 0, 3, 4, 5] rfl)
  have eq43 : (sm (slB σ le) 0 0 : Int) = 0 := sm_0 _ _
  exact loop9 ((σ 0 - 1 - 0) + 1 : Int).toNat 0  (by omega) (by omega) w1 (by rw [show (up v 12 (mx (lgB σ) 0 0) : Int → Int) = up v 12 0 from by rw [mx_0]]; exact ho3) (fun q _ => rfl)  _ _ ls hW hS (by rw [eq43]; exact lv_sub hl [1, 0, 2, 3] rfl)
set_option maxHeartbeats 4000000 in
set_option maxRecDepth 100000 in
theorem c_X9_longestSlit (l : Launch) (X : Cx) (w : Wo) (mo : Nat) (v σ : Int → Int) (hM : w mo = some (.inr (9, mL mo v))) (hs : w (mo + 1) = some (aZ X 1317 σ)) (hwf : WF σ) : CM l X yX9_longestSlit cX9_longestSlit 2 (some (.int)) (rmk 3 68) [.ref mo] w (some (.int (iI (if slQ σ 2 = 0 then 0 else lgQ σ)))) (fun w' => w' mo = some (.inr (9, mL mo (up (up v 6 0) 12 (lgQ σ)))) ∧ ∀ q : Nat, q ≠ mo → w' q = w q) := by
  refine CM.of (lv := [(0, .ref mo)]) (by decide) (Nat.le_of_ble_eq_true rfl) rfl (fun p e s m below meth c ls F hr hlk hin hW hS hl => ?_)
  have hZ0 := hW.2.2
  have hB9 := hW.1.2
  clear hin
  have hF := hwf.1
  unfold WF0 at hF
  have hsb := slQ_r hwf 2
  refine lv_aload_n F.1 F.2.1 dX9_longestSlit_0 rfl (lv_at hl 0 rfl) ?_
  refine h_iconst F dX9_longestSlit_1 ?_
  refine pf_RX9_58 F hW hS hM (Nat.le_of_ble_eq_true rfl) dX9_longestSlit_2 (fun w1 H locs ho3 hn2 hW hS => ?_)
  rw [mL_6] at ho3
  have hs := (hn2 _ (by omega)).trans hs
  refine lv_aload_n F.1 F.2.1 dX9_longestSlit_5 rfl (lv_at hl 0 rfl) ?_
  refine h_iconst F dX9_longestSlit_6 ?_
  refine cl_RX9_213 (As := [.int (iI 2)]) (rest := []) F hl (c_X9_slitsOf l X w1 mo (up v 6 0) σ 2 ho3 hs hwf (by omega)) hW hS ho3 rfl rfl ⟨Nat.le_of_ble_eq_true rfl, Nat.le_of_ble_eq_true rfl⟩ (Nat.le_of_ble_eq_true rfl) ⟨Nat.zero_le _, Nat.zero_le _⟩ dX9_longestSlit_7 (fun w4 H locs hp5 hW hS => ?_)
  obtain ⟨ho6, hn7⟩ := hp5
  have hs := (hn7 _ (by omega)).trans hs
  refine lv_istore_n (lv' := [(1, .int (iI (slQ σ 2))), (0, .ref mo)]) F.1 F.2.1 dX9_longestSlit_10 rfl hl (by decide) rfl (fun ls hl => ?_)
  refine lv_iload_n F.1 F.2.1 dX9_longestSlit_11 rfl (lv_at hl 0 rfl) ?_
  refine h_ifne (tgt := 19) F dX9_longestSlit_12 (by decide) (by omega) (fun c8 => ?_) (fun c8 => ?_)
  · refine lv_aload_n F.1 F.2.1 dX9_longestSlit_19 rfl (lv_at hl 1 rfl) ?_
    refine gf_RX9_208 F hW ho6 rfl dX9_longestSlit_20 ?_
    refine h_top (show ((up (up v 6 0) 12 (lgQ σ)) 12 : Int) = lgQ σ from rfl) ?_
    refine h_top (show (lgQ σ : Int) = (if slQ σ 2 = 0 then 0 else lgQ σ) from by split <;> first | rfl | omega) ?_
    exact h_ireti F hr hlk hW hS ⟨ho6, (fun q h09 => by rw [hn7 q (by omega), hn2 q (by omega)])⟩ dX9_longestSlit_23
  · refine h_iconst F dX9_longestSlit_15 ?_
    refine h_goto (tgt := 23) F dX9_longestSlit_16 (by decide) ?_
    refine h_top (show (0 : Int) = (if slQ σ 2 = 0 then 0 else lgQ σ) from by split <;> first | rfl | omega) ?_
    exact h_ireti F hr hlk hW hS ⟨ho6, (fun q h09 => by rw [hn7 q (by omega), hn2 q (by omega)])⟩ dX9_longestSlit_23
set_option maxHeartbeats 4000000 in
set_option maxRecDepth 100000 in
theorem c_X9_slits (l : Launch) (X : Cx) (w : Wo) (mo : Nat) (v σ : Int → Int) (le : Int) (hM : w mo = some (.inr (9, mL mo v))) (hs : w (mo + 1) = some (aZ X 1317 σ)) (hwf : WF σ) (hle : 2 ≤ le ∧ le ≤ 30) : CM l X yX9_slits cX9_slits 2 (some (.int)) (rmk 3 68) [.ref mo, .int (iI le)] w (some (.int (iI (slQ σ le)))) (fun w' => w' mo = some (.inr (9, mL mo (up (up v 6 0) 12 (lgQ σ)))) ∧ ∀ q : Nat, q ≠ mo → w' q = w q) := by
  refine CM.of (lv := [(0, .ref mo), (1, .int (iI le))]) (by decide) (Nat.le_of_ble_eq_true rfl) rfl (fun p e s m below meth c ls F hr hlk hin hW hS hl => ?_)
  have hZ0 := hW.2.2
  have hB9 := hW.1.2
  clear hin
  have hF := hwf.1
  unfold WF0 at hF
  refine lv_aload_n F.1 F.2.1 dX9_slits_0 rfl (lv_at hl 0 rfl) ?_
  refine lv_iload_n F.1 F.2.1 dX9_slits_1 rfl (lv_at hl 1 rfl) ?_
  refine h_i2l F dX9_slits_2 (by omega) ?_
  refine h_ldc2 (n := 2) F kk_RX9_111 dX9_slits_3 ?_
  refine h_ldc2 (n := 30) F kk_RX9_211 dX9_slits_6 ?_
  refine cl_RX9_82 (As := [.long (lI le), .long (lI 2), .long (lI 30)]) (rest := [.ref mo]) F hl (c_X9_isIn l X w le 2 30 (by omega) (by omega) (by omega)) hW hS rfl rfl ⟨Nat.le_of_ble_eq_true rfl, Nat.le_of_ble_eq_true rfl⟩ (Nat.le_of_ble_eq_true rfl) ⟨Nat.zero_le _, Nat.zero_le _⟩ dX9_slits_9 (fun w1 H locs hp1 hW hS => ?_)
  rw [hp1] at hW; clear hp1; clear w1
  refine h_top (show (bz (decide (2 ≤ le ∧ le ≤ 30)) : Int) = bz true from congrArg bz (decide_eq_true (by omega))) ?_
  refine cl_RX9_74 (As := [.int (iI (bz true))]) (rest := []) F hl (c_pass_t l X w mo v σ hM hs hwf) hW hS hM rfl rfl ⟨Nat.le_of_ble_eq_true rfl, Nat.le_of_ble_eq_true rfl⟩ (Nat.le_of_ble_eq_true rfl) ⟨Nat.zero_le _, Nat.zero_le _⟩ dX9_slits_12 (fun w2 H locs hp3 hW hS => ?_)
  obtain ⟨ho4, hn5⟩ := hp3
  have hs := (hn5 _ (by omega)).trans hs
  refine h_ifeqb (tgt := 26) F dX9_slits_15 (by decide) (fun c9 => absurd c9 (by decide)) (fun _ => ?_)
  refine lv_aload_n F.1 F.2.1 dX9_slits_18 rfl (lv_at hl 0 rfl) ?_
  refine lv_iload_n F.1 F.2.1 dX9_slits_19 rfl (lv_at hl 1 rfl) ?_
  refine cl_RX9_213 (As := [.int (iI le)]) (rest := []) F hl (c_X9_slitsOf l X w2 mo (up v 6 0) σ le ho4 hs hwf (by omega)) hW hS ho4 rfl rfl ⟨Nat.le_of_ble_eq_true rfl, Nat.le_of_ble_eq_true rfl⟩ (Nat.le_of_ble_eq_true rfl) ⟨Nat.zero_le _, Nat.zero_le _⟩ dX9_slits_20 (fun w7 H locs hp8 hW hS => ?_)
  obtain ⟨ho9, hn10⟩ := hp8
  have hs := (hn10 _ (by omega)).trans hs
  refine h_goto (tgt := 27) F dX9_slits_23 (by decide) ?_
  exact h_ireti F hr hlk hW hS ⟨ho9, (fun q h09 => by rw [hn10 q (by omega), hn5 q (by omega)])⟩ dX9_slits_27
set_option maxHeartbeats 4000000 in
set_option maxRecDepth 100000 in
theorem c_X9_slits_x (l : Launch) (X : Cx) (w : Wo) (mo : Nat) (v σ : Int → Int) (le : Int) (hM : w mo = some (.inr (9, mL mo v))) (hs : w (mo + 1) = some (aZ X 1317 σ)) (hwf : WF σ) (hw : -2147483648 ≤ le ∧ le < 2147483648) (hb : ¬ (2 ≤ le ∧ le ≤ 30)) : CM l X yX9_slits cX9_slits 2 (some (.int)) (rmk 3 68) [.ref mo, .int (iI le)] w (some (.int (iI 0))) (fun w' => w' mo = some (.inr (9, mL mo (up v 6 1))) ∧ ∀ q : Nat, q ≠ mo → w' q = w q) := by
  refine CM.of (lv := [(0, .ref mo), (1, .int (iI le))]) (by decide) (Nat.le_of_ble_eq_true rfl) rfl (fun p e s m below meth c ls F hr hlk hin hW hS hl => ?_)
  have hZ0 := hW.2.2
  have hB9 := hW.1.2
  clear hin
  have hF := hwf.1
  unfold WF0 at hF
  refine lv_aload_n F.1 F.2.1 dX9_slits_0 rfl (lv_at hl 0 rfl) ?_
  refine lv_iload_n F.1 F.2.1 dX9_slits_1 rfl (lv_at hl 1 rfl) ?_
  refine h_i2l F dX9_slits_2 (by omega) ?_
  refine h_ldc2 (n := 2) F kk_RX9_111 dX9_slits_3 ?_
  refine h_ldc2 (n := 30) F kk_RX9_211 dX9_slits_6 ?_
  refine cl_RX9_82 (As := [.long (lI le), .long (lI 2), .long (lI 30)]) (rest := [.ref mo]) F hl (c_X9_isIn l X w le 2 30 (by omega) (by omega) (by omega)) hW hS rfl rfl ⟨Nat.le_of_ble_eq_true rfl, Nat.le_of_ble_eq_true rfl⟩ (Nat.le_of_ble_eq_true rfl) ⟨Nat.zero_le _, Nat.zero_le _⟩ dX9_slits_9 (fun w1 H locs hp1 hW hS => ?_)
  rw [hp1] at hW; clear hp1; clear w1
  refine h_top (show (bz (decide (2 ≤ le ∧ le ≤ 30)) : Int) = bz false from congrArg bz (decide_eq_false (by omega))) ?_
  refine cl_RX9_74 (As := [.int (iI (bz false))]) (rest := []) F hl (c_pass_f l X w mo v σ hM hs hwf) hW hS hM rfl rfl ⟨Nat.le_of_ble_eq_true rfl, Nat.le_of_ble_eq_true rfl⟩ (Nat.le_of_ble_eq_true rfl) ⟨Nat.zero_le _, Nat.zero_le _⟩ dX9_slits_12 (fun w2 H locs hp3 hW hS => ?_)
  obtain ⟨ho4, hn5⟩ := hp3
  have hs := (hn5 _ (by omega)).trans hs
  refine h_ifeqb (tgt := 26) F dX9_slits_15 (by decide) (fun _ => ?_) (fun c9 => absurd c9 (by decide))
  refine h_iconst F dX9_slits_26 ?_
  exact h_ireti F hr hlk hW hS ⟨ho4, (fun q h09 => by rw [hn5 q (by omega)])⟩ dX9_slits_27
set_option maxHeartbeats 4000000 in
set_option maxRecDepth 100000 in
theorem c_X9_place (l : Launch) (X : Cx) (w : Wo) (mo : Nat) (v σ : Int → Int) (n sd : Int) (hM : w mo = some (.inr (9, mL mo v))) (hs : w (mo + 1) = some (aZ X 1317 σ)) (hwf : WF σ) (hn : 1 ≤ n ∧ n ≤ 8) (hsd : 0 ≤ sd ∧ sd ≤ 1) : CM l X yX9_place cX9_place 5 (some (.int)) (rmk 2 45) [.ref mo, .int (iI n), .int (iI sd)] w (some (.int (iI (plQ σ n sd)))) (fun w' => w' mo = some (.inr (9, mL mo (up v 6 0))) ∧ ∀ q : Nat, q ≠ mo → w' q = w q) := by
  refine CM.of (lv := [(0, .ref mo), (1, .int (iI n)), (2, .int (iI sd))]) (by decide) (Nat.le_of_ble_eq_true rfl) rfl (fun p e s m below meth c ls F hr hlk hin hW hS hl => ?_)
  have hZ0 := hW.2.2
  have hB9 := hW.1.2
  clear hin
  have hF := hwf.1
  unfold WF0 at hF
  have join25 : ∀ (H : Heap) (locs : List Loc) (ls : Array Slot), Wd X w s H → va_S (cxA X) s.heap H locs → lv_has ls 5 [(0, .ref mo), (1, .int (iI n)), (2, .int (iI sd))] → W p l e (rmk 2 45) s m (List.toArray [.ref mo, .int (iI n), .int (iI sd)]) below meth c H locs 0 0 (MX X below (List.toArray [.ref mo, .int (iI n), .int (iI sd)]) s 0 0 (some (.int (iI (plQ σ n sd)))) (fun w' => w' mo = some (.inr (9, mL mo (up v 6 0))) ∧ ∀ q : Nat, q ≠ mo → w' q = w q)) (F0 m 25 ls [.int (iI (bz true)), .ref mo]) := by
    intro  H locs ls  hW hS hl
    refine cl_RX9_74 (As := [.int (iI (bz true))]) (rest := []) F hl (c_pass_t l X w mo v σ hM hs hwf) hW hS hM rfl rfl ⟨Nat.le_of_ble_eq_true rfl, Nat.le_of_ble_eq_true rfl⟩ (Nat.le_of_ble_eq_true rfl) ⟨Nat.zero_le _, Nat.zero_le _⟩ dX9_place_25 (fun w1 H locs hp2 hW hS => ?_)
    obtain ⟨ho3, hn4⟩ := hp2
    have hs := (hn4 _ (by omega)).trans hs
    refine h_ifneb (tgt := 33) F dX9_place_28 (by decide) (fun _ => ?_) (fun c9 => absurd c9 (by decide))
    refine lv_aload_n F.1 F.2.1 dX9_place_33 rfl (lv_at hl 0 rfl) ?_
    refine gf_RX9_7 F hW ho3 rfl dX9_place_34 ?_
    refine h_iconst F dX9_place_37 ?_
    refine h_iald F hW hs (by omega) (by omega) dX9_place_38 ?_
    refine lv_istore_n (lv' := [(3, .int (iI (σ 4))), (0, .ref mo), (1, .int (iI n)), (2, .int (iI sd))]) F.1 F.2.1 dX9_place_39 rfl hl (by decide) rfl (fun ls hl => ?_)
    have loop40 : ∀ (n9 : Nat) (y : Int), (hrg : σ 4 ≤ y ∧ y ≤ σ 1) → (hms : σ 1 - y < (n9 : Int)) → (hnoy : ∀ r, σ 4 ≤ r → r < y → plY σ n sd r = false) → (H : Heap) → (locs : List Loc) → (ls : Array Slot) → Wd X w1 s H → va_S (cxA X) s.heap H locs → lv_has ls 5 [(3, .int (iI y)), (0, .ref mo), (1, .int (iI n)), (2, .int (iI sd))] → W p l e (rmk 2 45) s m (List.toArray [.ref mo, .int (iI n), .int (iI sd)]) below meth c H locs 0 0 (MX X below (List.toArray [.ref mo, .int (iI n), .int (iI sd)]) s 0 0 (some (.int (iI (plQ σ n sd)))) (fun w' => w' mo = some (.inr (9, mL mo (up v 6 0))) ∧ ∀ q : Nat, q ≠ mo → w' q = w q)) (F0 m 40 ls []) := by
      intro n9
      induction n9 with
      | zero => intro y  hrg hms; exfalso; omega
      | succ n9 ih40 =>
        intro y  hrg hms  hnoy H locs ls hW hS hl
        refine lv_iload_n F.1 F.2.1 dX9_place_40 rfl (lv_at hl 0 rfl) ?_
        refine lv_aload_n F.1 F.2.1 dX9_place_41 rfl (lv_at hl 1 rfl) ?_
        refine gf_RX9_7 F hW ho3 rfl dX9_place_42 ?_
        refine h_iconst F dX9_place_45 ?_
        refine h_iald F hW hs (by omega) (by omega) dX9_place_46 ?_
        refine h_icge (tgt := 116) F dX9_place_47 (by decide) (by omega) (fun c6 => ?_) (fun c6 => ?_)
        · refine h_iconst F dX9_place_116 ?_
          refine h_top (show ((-1) : Int) = plQ σ n sd from by unfold plQ; rw [fi_none (by omega) (fun r h1 h2 => hnoy r h1 (by omega)), if_neg (by omega)]) ?_
          exact h_ireti F hr hlk hW hS ⟨ho3, (fun q h09 => by rw [hn4 q (by omega)])⟩ dX9_place_117
        · refine h_iconst F dX9_place_50 ?_
          refine lv_istore (lv' := [(4, .int (iI 0)), (3, .int (iI y)), (0, .ref mo), (1, .int (iI n)), (2, .int (iI sd))]) F.1 F.2.1 dX9_place_51 hl (by decide) rfl (fun ls hl => ?_)
          have loop53 : ∀ (n9 : Nat) (x : Int), (hrg : 0 ≤ x ∧ x ≤ σ 0) → (hms : σ 0 - x < (n9 : Int)) → (hnox : ∀ q, 0 ≤ q → q < x → plP σ n sd y q = false) → (H : Heap) → (locs : List Loc) → (ls : Array Slot) → Wd X w1 s H → va_S (cxA X) s.heap H locs → lv_has ls 5 [(4, .int (iI x)), (3, .int (iI y)), (0, .ref mo), (1, .int (iI n)), (2, .int (iI sd))] → W p l e (rmk 2 45) s m (List.toArray [.ref mo, .int (iI n), .int (iI sd)]) below meth c H locs 0 0 (MX X below (List.toArray [.ref mo, .int (iI n), .int (iI sd)]) s 0 0 (some (.int (iI (plQ σ n sd)))) (fun w' => w' mo = some (.inr (9, mL mo (up v 6 0))) ∧ ∀ q : Nat, q ≠ mo → w' q = w q)) (F0 m 53 ls []) := by
            intro n9
            induction n9 with
            | zero => intro x  hrg hms; exfalso; omega
            | succ n9 ih53 =>
              intro x  hrg hms  hnox H locs ls hW hS hl
              refine lv_iload F.1 F.2.1 dX9_place_53 (lv_at hl 0 rfl) ?_
              refine lv_aload_n F.1 F.2.1 dX9_place_55 rfl (lv_at hl 2 rfl) ?_
              refine gf_RX9_7 F hW ho3 rfl dX9_place_56 ?_
              refine h_iconst F dX9_place_59 ?_
              refine h_iald F hW hs (by omega) (by omega) dX9_place_60 ?_
              refine h_icge (tgt := 110) F dX9_place_61 (by decide) (by omega) (fun c7 => ?_) (fun c7 => ?_)
              · refine h_iinc (k := 1) (a := y) (lv' := [(3, .int (iI (y + 1))), (4, .int (iI x)), (0, .ref mo), (1, .int (iI n)), (2, .int (iI sd))]) F dX9_place_110 hl rfl (by decide) rfl (fun ls hl => ?_)
                refine h_goto (tgt := 40) F dX9_place_113 (by decide) ?_
                have eq8 : ((y + 1) : Int) = y + 1 := by first | rfl | omega | simp
                exact ih40 (y + 1)  (by omega) (by omega)  (fun r h1 h2 => (by by_cases hj : r = y; (rw [hj]; exact ex_f.mpr (fun q g1 g2 => hnox q g1 (by omega))); exact hnoy r h1 (by omega))) _ _ ls hW hS (by rw [eq8]; exact lv_sub hl [0, 2, 3, 4] rfl)
              · refine lv_aload_n F.1 F.2.1 dX9_place_64 rfl (lv_at hl 2 rfl) ?_
                refine gf_RX9_7 F hW ho3 rfl dX9_place_65 ?_
                refine lv_iload_n F.1 F.2.1 dX9_place_68 rfl (lv_at hl 3 rfl) ?_
                refine lv_iload F.1 F.2.1 dX9_place_69 (lv_at hl 0 rfl) ?_
                refine h_i2l F dX9_place_71 (by omega) ?_
                refine lv_iload_n F.1 F.2.1 dX9_place_72 rfl (lv_at hl 1 rfl) ?_
                refine h_i2l F dX9_place_73 (by omega) ?_
                refine cl_RX9_235 (As := [.ref (mo + 1), .int (iI n), .long (lI x), .long (lI y)]) (rest := []) F hl (c_X9_lies l X w1 (mo + 1) σ n x y hs hwf (by omega) (by omega) (by omega)) hW hS rfl rfl ⟨Nat.le_of_ble_eq_true rfl, Nat.le_of_ble_eq_true rfl⟩ (Nat.le_of_ble_eq_true rfl) ⟨Nat.zero_le _, Nat.zero_le _⟩ dX9_place_74 (fun w1 H locs hp9 hW hS => ?_)
                rw [hp9] at hW; clear hp9; clear w1
                refine h_ifeqb (tgt := 104) F dX9_place_77 (by decide) (fun c10 => ?_) (fun c10 => ?_)
                · refine h_iinc (k := 0) (a := x) (lv' := [(4, .int (iI (x + 1))), (3, .int (iI y)), (0, .ref mo), (1, .int (iI n)), (2, .int (iI sd))]) F dX9_place_104 hl rfl (by decide) rfl (fun ls hl => ?_)
                  refine h_goto (tgt := 53) F dX9_place_107 (by decide) ?_
                  have eq11 : ((x + 1) : Int) = x + 1 := by first | rfl | omega | simp
                  exact ih53 (x + 1)  (by omega) (by omega)  (fun q h1 h2 => (by by_cases hj : q = x; (rw [hj]; unfold plP; first | (rw [‹liesS σ n x y = false›]; rfl) | (rw [‹meetS σ n sd x y (-1) = true›]; simp)); exact hnox q h1 (by omega))) _ _ ls hW hS (by rw [eq11]; exact lv_sub hl [0, 1, 2, 3, 4] rfl)
                · have hl9 : 0 ≤ x ∧ 0 ≤ y ∧ x + 4 * n - 2 < σ 0 ∧ y + 4 < σ 1 := of_decide_eq_true c10
                  refine lv_aload_n F.1 F.2.1 dX9_place_80 rfl (lv_at hl 2 rfl) ?_
                  refine gf_RX9_7 F hW ho3 rfl dX9_place_81 ?_
                  refine lv_iload_n F.1 F.2.1 dX9_place_84 rfl (lv_at hl 3 rfl) ?_
                  refine lv_iload_n F.1 F.2.1 dX9_place_85 rfl (lv_at hl 4 rfl) ?_
                  refine lv_iload F.1 F.2.1 dX9_place_86 (lv_at hl 0 rfl) ?_
                  refine lv_iload_n F.1 F.2.1 dX9_place_88 rfl (lv_at hl 1 rfl) ?_
                  refine h_iconst F dX9_place_89 ?_
                  refine cl_RX9_239 (As := [.ref (mo + 1), .int (iI n), .int (iI sd), .int (iI x), .int (iI y), .int (iI (-1))]) (rest := []) F hl (c_X9_meets l X w1 (mo + 1) σ n sd x y (-1) hs hwf (by omega) (by omega) (by omega) (by omega) (by omega)) hW hS rfl rfl ⟨Nat.le_of_ble_eq_true rfl, Nat.le_of_ble_eq_true rfl⟩ (Nat.le_of_ble_eq_true rfl) ⟨Nat.zero_le _, Nat.zero_le _⟩ dX9_place_90 (fun w1 H locs hp12 hW hS => ?_)
                  rw [hp12] at hW; clear hp12; clear w1
                  refine h_ifneb (tgt := 104) F dX9_place_93 (by decide) (fun c13 => ?_) (fun c13 => ?_)
                  · refine h_iinc (k := 0) (a := x) (lv' := [(4, .int (iI (x + 1))), (3, .int (iI y)), (0, .ref mo), (1, .int (iI n)), (2, .int (iI sd))]) F dX9_place_104 hl rfl (by decide) rfl (fun ls hl => ?_)
                    refine h_goto (tgt := 53) F dX9_place_107 (by decide) ?_
                    have eq14 : ((x + 1) : Int) = x + 1 := by first | rfl | omega | simp
                    exact ih53 (x + 1)  (by omega) (by omega)  (fun q h1 h2 => (by by_cases hj : q = x; (rw [hj]; unfold plP; first | (rw [‹liesS σ n x y = false›]; rfl) | (rw [‹meetS σ n sd x y (-1) = true›]; simp)); exact hnox q h1 (by omega))) _ _ ls hW hS (by rw [eq14]; exact lv_sub hl [0, 1, 2, 3, 4] rfl)
                  · refine h_bipush F dX9_place_96 rfl ?_
                    refine lv_iload_n F.1 F.2.1 dX9_place_98 rfl (lv_at hl 1 rfl) ?_
                    refine h_imul (a := 100) (b := y) F dX9_place_99 ?_
                    refine lv_iload F.1 F.2.1 dX9_place_100 (lv_at hl 0 rfl) ?_
                    refine h_iadd (a := 100 * y) (b := x) F dX9_place_102 ?_
                    have hp9 : plP σ n sd y x = true := by unfold plP; rw [‹liesS σ n x y = true›, ‹meetS σ n sd x y (-1) = false›]; rfl
                    have hx9 : fi (plP σ n sd y) 0 (σ 0) = x := fi_hit (by omega) (by omega) hnox hp9
                    have hy9 : fi (plY σ n sd) (σ 4) (σ 1) = y := fi_hit (by omega) (by omega) hnoy (ex_t (i := x) (by omega) (by omega) hp9)
                    refine h_top (show ((100 * y) + x : Int) = plQ σ n sd from by unfold plQ; rw [hy9, hx9, if_pos (by omega)]) ?_
                    exact h_ireti F hr hlk hW hS ⟨ho3, (fun q h09 => by rw [hn4 q (by omega)])⟩ dX9_place_103
          exact loop53 ((σ 0 - 0) + 1 : Int).toNat 0  (by omega) (by omega)  (fun j h1 h2 => by omega) _ _ ls hW hS (lv_sub hl [0, 1, 2, 3, 4] rfl)
    have eq15 : ((σ 4) : Int) = σ 4 := by first | rfl | omega | simp
    exact loop40 ((σ 1 - (σ 4)) + 1 : Int).toNat (σ 4)  (by omega) (by omega)  (fun j h1 h2 => by omega) _ _ ls hW hS (by rw [eq15]; exact lv_sub hl [0, 1, 2, 3] rfl)
  refine lv_aload_n F.1 F.2.1 dX9_place_0 rfl (lv_at hl 0 rfl) ?_
  refine lv_iload_n F.1 F.2.1 dX9_place_1 rfl (lv_at hl 1 rfl) ?_
  refine h_i2l F dX9_place_2 (by omega) ?_
  refine h_lconst (n := 1) (z := 1) F dX9_place_3 rfl ?_
  refine h_ldc2 (n := 8) F kk_RX9_183 dX9_place_4 ?_
  refine cl_RX9_82 (As := [.long (lI n), .long (lI 1), .long (lI 8)]) (rest := [.ref mo]) F hl (c_X9_isIn l X w n 1 8 (by omega) (by omega) (by omega)) hW hS rfl rfl ⟨Nat.le_of_ble_eq_true rfl, Nat.le_of_ble_eq_true rfl⟩ (Nat.le_of_ble_eq_true rfl) ⟨Nat.zero_le _, Nat.zero_le _⟩ dX9_place_7 (fun w1 H locs hp16 hW hS => ?_)
  rw [hp16] at hW; clear hp16; clear w1
  refine h_ifeqb (tgt := 24) F dX9_place_10 (by decide) (fun c17 => ?_) (fun c17 => ?_)
  · have c17d := of_decide_eq_false c17
    exfalso; omega
  · have c17d := of_decide_eq_true c17
    refine lv_iload_n F.1 F.2.1 dX9_place_13 rfl (lv_at hl 2 rfl) ?_
    refine cl_RX9_232 (As := [.int (iI sd)]) (rest := [.ref mo]) F hl (c_X9_isSide l X w sd (by omega)) hW hS rfl rfl ⟨Nat.le_of_ble_eq_true rfl, Nat.le_of_ble_eq_true rfl⟩ (Nat.le_of_ble_eq_true rfl) ⟨Nat.zero_le _, Nat.zero_le _⟩ dX9_place_14 (fun w1 H locs hp18 hW hS => ?_)
    rw [hp18] at hW; clear hp18; clear w1
    refine h_ifeqb (tgt := 24) F dX9_place_17 (by decide) (fun c19 => ?_) (fun c19 => ?_)
    · have c19d := of_decide_eq_false c19
      exfalso; omega
    · have c19d := of_decide_eq_true c19
      refine h_iconst F dX9_place_20 ?_
      refine h_goto (tgt := 25) F dX9_place_21 (by decide) ?_
      refine h_top (show (1 : Int) = bz true from by first | exact bzt rfl | (exfalso; omega)) ?_
      exact join25  _ _ ls  hW hS (lv_sub hl [0, 1, 2] rfl)
set_option maxHeartbeats 4000000 in
set_option maxRecDepth 100000 in
theorem c_X9_place_x (l : Launch) (X : Cx) (w : Wo) (mo : Nat) (v σ : Int → Int) (n sd : Int) (hM : w mo = some (.inr (9, mL mo v))) (hs : w (mo + 1) = some (aZ X 1317 σ)) (hwf : WF σ) (hn : -2147483648 ≤ n ∧ n < 2147483648) (hsd : -2147483648 ≤ sd ∧ sd < 2147483648) (hb : ¬ (1 ≤ n ∧ n ≤ 8 ∧ 0 ≤ sd ∧ sd ≤ 1)) : CM l X yX9_place cX9_place 5 (some (.int)) (rmk 2 45) [.ref mo, .int (iI n), .int (iI sd)] w (some (.int (iI 0))) (fun w' => w' mo = some (.inr (9, mL mo (up v 6 1))) ∧ ∀ q : Nat, q ≠ mo → w' q = w q) := by
  refine CM.of (lv := [(0, .ref mo), (1, .int (iI n)), (2, .int (iI sd))]) (by decide) (Nat.le_of_ble_eq_true rfl) rfl (fun p e s m below meth c ls F hr hlk hin hW hS hl => ?_)
  have hZ0 := hW.2.2
  have hB9 := hW.1.2
  clear hin
  have hF := hwf.1
  unfold WF0 at hF
  have join25 : ∀ (H : Heap) (locs : List Loc) (ls : Array Slot), Wd X w s H → va_S (cxA X) s.heap H locs → lv_has ls 5 [(0, .ref mo), (1, .int (iI n)), (2, .int (iI sd))] → W p l e (rmk 2 45) s m (List.toArray [.ref mo, .int (iI n), .int (iI sd)]) below meth c H locs 0 0 (MX X below (List.toArray [.ref mo, .int (iI n), .int (iI sd)]) s 0 0 (some (.int (iI 0))) (fun w' => w' mo = some (.inr (9, mL mo (up v 6 1))) ∧ ∀ q : Nat, q ≠ mo → w' q = w q)) (F0 m 25 ls [.int (iI (bz false)), .ref mo]) := by
    intro  H locs ls  hW hS hl
    refine cl_RX9_74 (As := [.int (iI (bz false))]) (rest := []) F hl (c_pass_f l X w mo v σ hM hs hwf) hW hS hM rfl rfl ⟨Nat.le_of_ble_eq_true rfl, Nat.le_of_ble_eq_true rfl⟩ (Nat.le_of_ble_eq_true rfl) ⟨Nat.zero_le _, Nat.zero_le _⟩ dX9_place_25 (fun w1 H locs hp2 hW hS => ?_)
    obtain ⟨ho3, hn4⟩ := hp2
    have hs := (hn4 _ (by omega)).trans hs
    refine h_ifneb (tgt := 33) F dX9_place_28 (by decide) (fun c9 => absurd c9 (by decide)) (fun _ => ?_)
    refine h_iconst F dX9_place_31 ?_
    exact h_ireti F hr hlk hW hS ⟨ho3, (fun q h09 => by rw [hn4 q (by omega)])⟩ dX9_place_32
  refine lv_aload_n F.1 F.2.1 dX9_place_0 rfl (lv_at hl 0 rfl) ?_
  refine lv_iload_n F.1 F.2.1 dX9_place_1 rfl (lv_at hl 1 rfl) ?_
  refine h_i2l F dX9_place_2 (by omega) ?_
  refine h_lconst (n := 1) (z := 1) F dX9_place_3 rfl ?_
  refine h_ldc2 (n := 8) F kk_RX9_183 dX9_place_4 ?_
  refine cl_RX9_82 (As := [.long (lI n), .long (lI 1), .long (lI 8)]) (rest := [.ref mo]) F hl (c_X9_isIn l X w n 1 8 (by omega) (by omega) (by omega)) hW hS rfl rfl ⟨Nat.le_of_ble_eq_true rfl, Nat.le_of_ble_eq_true rfl⟩ (Nat.le_of_ble_eq_true rfl) ⟨Nat.zero_le _, Nat.zero_le _⟩ dX9_place_7 (fun w1 H locs hp6 hW hS => ?_)
  rw [hp6] at hW; clear hp6; clear w1
  refine h_ifeqb (tgt := 24) F dX9_place_10 (by decide) (fun c7 => ?_) (fun c7 => ?_)
  · have c7d := of_decide_eq_false c7
    refine h_iconst F dX9_place_24 ?_
    refine h_top (show (0 : Int) = bz false from by first | exact bzf rfl | (exfalso; omega)) ?_
    exact join25  _ _ ls  hW hS (lv_sub hl [0, 1, 2] rfl)
  · have c7d := of_decide_eq_true c7
    refine lv_iload_n F.1 F.2.1 dX9_place_13 rfl (lv_at hl 2 rfl) ?_
    refine cl_RX9_232 (As := [.int (iI sd)]) (rest := [.ref mo]) F hl (c_X9_isSide l X w sd (by omega)) hW hS rfl rfl ⟨Nat.le_of_ble_eq_true rfl, Nat.le_of_ble_eq_true rfl⟩ (Nat.le_of_ble_eq_true rfl) ⟨Nat.zero_le _, Nat.zero_le _⟩ dX9_place_14 (fun w1 H locs hp8 hW hS => ?_)
    rw [hp8] at hW; clear hp8; clear w1
    refine h_ifeqb (tgt := 24) F dX9_place_17 (by decide) (fun c9 => ?_) (fun c9 => ?_)
    · have c9d := of_decide_eq_false c9
      refine h_iconst F dX9_place_24 ?_
      refine h_top (show (0 : Int) = bz false from by first | exact bzf rfl | (exfalso; omega)) ?_
      exact join25  _ _ ls  hW hS (lv_sub hl [0, 1, 2] rfl)
    · have c9d := of_decide_eq_true c9
      exfalso; omega
set_option maxHeartbeats 4000000 in
set_option maxRecDepth 100000 in
theorem c_X9_share (l : Launch) (X : Cx) (w : Wo) (mo : Nat) (v σ : Int → Int) (co : Int) (hM : w mo = some (.inr (9, mL mo v))) (hs : w (mo + 1) = some (aZ X 1317 σ)) (hwf : WF σ) (hco : 0 ≤ co ∧ co ≤ 6) : CM l X yX9_share cX9_share 3 (some (.float)) (rmk 4 96) [.ref mo, .int (iI co)] w (some (.float (shQ σ co))) (fun w' => w' mo = some (.inr (9, mL mo (up v 6 0))) ∧ ∀ q : Nat, q ≠ mo → w' q = w q) := by
  refine CM.of (lv := [(0, .ref mo), (1, .int (iI co))]) (by decide) (Nat.le_of_ble_eq_true rfl) rfl (fun p e s m below meth c ls F hr hlk hin hW hS hl => ?_)
  have hZ0 := hW.2.2
  have hB9 := hW.1.2
  clear hin
  have hF := hwf.1
  unfold WF0 at hF
  have hs1 := shN_r hwf co
  have hm1 : 0 ≤ σ 0 * σ 4 ∧ σ 0 * σ 4 ≤ 1200 := mul_r hwf.1
  refine lv_aload_n F.1 F.2.1 dX9_share_0 rfl (lv_at hl 0 rfl) ?_
  refine lv_iload_n F.1 F.2.1 dX9_share_1 rfl (lv_at hl 1 rfl) ?_
  refine cl_RX9_195 (As := [.int (iI co)]) (rest := [.ref mo]) F hl (c_X9_isColour l X w co (by omega)) hW hS rfl rfl ⟨Nat.le_of_ble_eq_true rfl, Nat.le_of_ble_eq_true rfl⟩ (Nat.le_of_ble_eq_true rfl) ⟨Nat.zero_le _, Nat.zero_le _⟩ dX9_share_2 (fun w1 H locs hp1 hW hS => ?_)
  rw [hp1] at hW; clear hp1; clear w1
  refine h_top (show (bz (decide (0 ≤ co ∧ co ≤ 6)) : Int) = bz true from congrArg bz (decide_eq_true (by omega))) ?_
  refine cl_RX9_74 (As := [.int (iI (bz true))]) (rest := []) F hl (c_pass_t l X w mo v σ hM hs hwf) hW hS hM rfl rfl ⟨Nat.le_of_ble_eq_true rfl, Nat.le_of_ble_eq_true rfl⟩ (Nat.le_of_ble_eq_true rfl) ⟨Nat.zero_le _, Nat.zero_le _⟩ dX9_share_5 (fun w2 H locs hp3 hW hS => ?_)
  obtain ⟨ho4, hn5⟩ := hp3
  have hs := (hn5 _ (by omega)).trans hs
  refine h_ifneb (tgt := 13) F dX9_share_8 (by decide) (fun _ => ?_) (fun c9 => absurd c9 (by decide))
  refine lv_aload_n F.1 F.2.1 dX9_share_13 rfl (lv_at hl 0 rfl) ?_
  refine gf_RX9_7 F hW ho4 rfl dX9_share_14 ?_
  refine h_iconst F dX9_share_17 ?_
  refine h_iald F hW hs (by omega) (by omega) dX9_share_18 ?_
  refine lv_aload_n F.1 F.2.1 dX9_share_19 rfl (lv_at hl 0 rfl) ?_
  refine gf_RX9_7 F hW ho4 rfl dX9_share_20 ?_
  refine h_iconst F dX9_share_23 ?_
  refine h_iald F hW hs (by omega) (by omega) dX9_share_24 ?_
  refine h_imul (a := σ 0) (b := σ 4) F dX9_share_25 ?_
  refine lv_istore_n (lv' := [(2, .int (iI ((σ 0) * (σ 4)))), (0, .ref mo), (1, .int (iI co))]) F.1 F.2.1 dX9_share_26 rfl hl (by decide) rfl (fun ls hl => ?_)
  refine lv_iload_n F.1 F.2.1 dX9_share_27 rfl (lv_at hl 0 rfl) ?_
  refine h_ifne (tgt := 35) F dX9_share_28 (by decide) (by omega) (fun c7 => ?_) (fun c7 => ?_)
  · refine lv_aload_n F.1 F.2.1 dX9_share_35 rfl (lv_at hl 1 rfl) ?_
    refine lv_iload_n F.1 F.2.1 dX9_share_36 rfl (lv_at hl 2 rfl) ?_
    refine h_iconst F dX9_share_37 ?_
    refine cl_RX9_198 (As := [.int (iI co), .int (iI 1)]) (rest := []) F hl (c_cells_1 l X w2 mo (up v 6 0) σ co ho4 hs hwf (by omega)) hW hS ho4 rfl rfl ⟨Nat.le_of_ble_eq_true rfl, Nat.le_of_ble_eq_true rfl⟩ (Nat.le_of_ble_eq_true rfl) ⟨Nat.zero_le _, Nat.zero_le _⟩ dX9_share_38 (fun w1 H locs hp8 hW hS => ?_)
    rw [hp8] at hW; clear hp8; clear w1
    refine lv_i2f F.1 F.2.1 dX9_share_41 ?_
    refine lv_iload_n F.1 F.2.1 dX9_share_42 rfl (lv_at hl 0 rfl) ?_
    refine lv_i2f F.1 F.2.1 dX9_share_43 ?_
    refine lv_fdiv F.1 F.2.1 dX9_share_44 (fdiv_ok hs1 (by omega)) ?_
    refine h_topv (show (.float (FP.fdiv (FP.i2f (iI (sm (fun y => if y < σ 4 then wovR σ co y else 0) 0 (σ 1)))) (FP.i2f (iI ((σ 0) * (σ 4))))) : Value) = .float (shQ σ co) from by unfold shQ shN; first | rw [if_pos (by assumption)] | rw [if_neg (by assumption)]) ?_
    exact h_fret F hr hlk hW hS ⟨ho4, (fun q h09 => by rw [hn5 q (by omega)])⟩ dX9_share_45
  · refine lv_fconst0 F.1 F.2.1 dX9_share_31 ?_
    refine h_goto (tgt := 45) F dX9_share_32 (by decide) ?_
    refine h_topv (show (.float FP.fconst0 : Value) = .float (shQ σ co) from by unfold shQ shN; first | rw [if_pos (by assumption)] | rw [if_neg (by assumption)]) ?_
    exact h_fret F hr hlk hW hS ⟨ho4, (fun q h09 => by rw [hn5 q (by omega)])⟩ dX9_share_45
set_option maxHeartbeats 4000000 in
set_option maxRecDepth 100000 in
theorem c_X9_share_x (l : Launch) (X : Cx) (w : Wo) (mo : Nat) (v σ : Int → Int) (co : Int) (hM : w mo = some (.inr (9, mL mo v))) (hs : w (mo + 1) = some (aZ X 1317 σ)) (hwf : WF σ) (hco : -2147483648 ≤ co ∧ co < 2147483648) (hb : ¬ (0 ≤ co ∧ co ≤ 6)) : CM l X yX9_share cX9_share 3 (some (.float)) (rmk 4 96) [.ref mo, .int (iI co)] w (some (.float FP.fconst0)) (fun w' => w' mo = some (.inr (9, mL mo (up v 6 1))) ∧ ∀ q : Nat, q ≠ mo → w' q = w q) := by
  refine CM.of (lv := [(0, .ref mo), (1, .int (iI co))]) (by decide) (Nat.le_of_ble_eq_true rfl) rfl (fun p e s m below meth c ls F hr hlk hin hW hS hl => ?_)
  have hZ0 := hW.2.2
  have hB9 := hW.1.2
  clear hin
  have hF := hwf.1
  unfold WF0 at hF
  refine lv_aload_n F.1 F.2.1 dX9_share_0 rfl (lv_at hl 0 rfl) ?_
  refine lv_iload_n F.1 F.2.1 dX9_share_1 rfl (lv_at hl 1 rfl) ?_
  refine cl_RX9_195 (As := [.int (iI co)]) (rest := [.ref mo]) F hl (c_X9_isColour l X w co (by omega)) hW hS rfl rfl ⟨Nat.le_of_ble_eq_true rfl, Nat.le_of_ble_eq_true rfl⟩ (Nat.le_of_ble_eq_true rfl) ⟨Nat.zero_le _, Nat.zero_le _⟩ dX9_share_2 (fun w1 H locs hp1 hW hS => ?_)
  rw [hp1] at hW; clear hp1; clear w1
  refine h_top (show (bz (decide (0 ≤ co ∧ co ≤ 6)) : Int) = bz false from congrArg bz (decide_eq_false (by omega))) ?_
  refine cl_RX9_74 (As := [.int (iI (bz false))]) (rest := []) F hl (c_pass_f l X w mo v σ hM hs hwf) hW hS hM rfl rfl ⟨Nat.le_of_ble_eq_true rfl, Nat.le_of_ble_eq_true rfl⟩ (Nat.le_of_ble_eq_true rfl) ⟨Nat.zero_le _, Nat.zero_le _⟩ dX9_share_5 (fun w2 H locs hp3 hW hS => ?_)
  obtain ⟨ho4, hn5⟩ := hp3
  have hs := (hn5 _ (by omega)).trans hs
  refine h_ifneb (tgt := 13) F dX9_share_8 (by decide) (fun c9 => absurd c9 (by decide)) (fun _ => ?_)
  refine lv_fconst0 F.1 F.2.1 dX9_share_11 ?_
  exact h_fret F hr hlk hW hS ⟨ho4, (fun q h09 => by rw [hn5 q (by omega)])⟩ dX9_share_12
set_option maxHeartbeats 4000000 in
set_option maxRecDepth 100000 in
theorem c_X9_meanJoins (l : Launch) (X : Cx) (w : Wo) (mo : Nat) (v σ : Int → Int) (hM : w mo = some (.inr (9, mL mo v))) (hs : w (mo + 1) = some (aZ X 1317 σ)) (hwf : WF σ) : CM l X yX9_meanJoins cX9_meanJoins 3 (some (.double)) (rmk 3 66) [.ref mo] w (some (.double (mjQ σ))) (fun w' => w' mo = some (.inr (9, mL mo (up v 6 0))) ∧ ∀ q : Nat, q ≠ mo → w' q = w q) := by
  refine CM.of (lv := [(0, .ref mo)]) (by decide) (Nat.le_of_ble_eq_true rfl) rfl (fun p e s m below meth c ls F hr hlk hin hW hS hl => ?_)
  have hZ0 := hW.2.2
  have hB9 := hW.1.2
  clear hin
  have hF := hwf.1
  unfold WF0 at hF
  refine lv_aload_n F.1 F.2.1 dX9_meanJoins_0 rfl (lv_at hl 0 rfl) ?_
  refine h_iconst F dX9_meanJoins_1 ?_
  refine pf_RX9_58 F hW hS hM (Nat.le_of_ble_eq_true rfl) dX9_meanJoins_2 (fun w1 H locs ho3 hn2 hW hS => ?_)
  rw [mL_6] at ho3
  have hs := (hn2 _ (by omega)).trans hs
  refine h_iconst F dX9_meanJoins_5 ?_
  refine lv_istore_n (lv' := [(1, .int (iI 0)), (0, .ref mo)]) F.1 F.2.1 dX9_meanJoins_6 rfl hl (by decide) rfl (fun ls hl => ?_)
  refine h_iconst F dX9_meanJoins_7 ?_
  refine lv_istore_n (lv' := [(2, .int (iI 0)), (1, .int (iI 0)), (0, .ref mo)]) F.1 F.2.1 dX9_meanJoins_8 rfl hl (by decide) rfl (fun ls hl => ?_)
  have loop9 : ∀ (n9 : Nat) (r : Int), (hrg : 0 ≤ r ∧ r ≤ σ 4) → (hms : σ 4 - r < (n9 : Int)) → (H : Heap) → (locs : List Loc) → (ls : Array Slot) → Wd X w1 s H → va_S (cxA X) s.heap H locs → lv_has ls 3 [(1, .int (iI (sm (jcS σ) 0 r))), (2, .int (iI r)), (0, .ref mo)] → W p l e (rmk 3 66) s m (List.toArray [.ref mo]) below meth c H locs 0 0 (MX X below (List.toArray [.ref mo]) s 0 0 (some (.double (mjQ σ))) (fun w' => w' mo = some (.inr (9, mL mo (up v 6 0))) ∧ ∀ q : Nat, q ≠ mo → w' q = w q)) (F0 m 9 ls []) := by
    intro n9
    induction n9 with
    | zero => intro r  hrg hms; exfalso; omega
    | succ n9 ih9 =>
      intro r  hrg hms   H locs ls hW hS hl
      refine lv_iload_n F.1 F.2.1 dX9_meanJoins_9 rfl (lv_at hl 1 rfl) ?_
      refine lv_aload_n F.1 F.2.1 dX9_meanJoins_10 rfl (lv_at hl 2 rfl) ?_
      refine gf_RX9_7 F hW ho3 rfl dX9_meanJoins_11 ?_
      refine h_iconst F dX9_meanJoins_14 ?_
      refine h_iald F hW hs (by omega) (by omega) dX9_meanJoins_15 ?_
      refine h_icge (tgt := 33) F dX9_meanJoins_16 (by decide) (by omega) (fun c4 => ?_) (fun c4 => ?_)
      · refine lv_aload_n F.1 F.2.1 dX9_meanJoins_33 rfl (lv_at hl 2 rfl) ?_
        refine gf_RX9_7 F hW ho3 rfl dX9_meanJoins_34 ?_
        refine h_iconst F dX9_meanJoins_37 ?_
        refine h_iald F hW hs (by omega) (by omega) dX9_meanJoins_38 ?_
        refine h_ifne (tgt := 46) F dX9_meanJoins_39 (by decide) (by omega) (fun c5 => ?_) (fun c5 => ?_)
        · refine lv_iload_n F.1 F.2.1 dX9_meanJoins_46 rfl (lv_at hl 0 rfl) ?_
          refine lv_i2d F.1 F.2.1 dX9_meanJoins_47 ?_
          refine lv_aload_n F.1 F.2.1 dX9_meanJoins_48 rfl (lv_at hl 2 rfl) ?_
          refine gf_RX9_7 F hW ho3 rfl dX9_meanJoins_49 ?_
          refine h_iconst F dX9_meanJoins_52 ?_
          refine h_iald F hW hs (by omega) (by omega) dX9_meanJoins_53 ?_
          refine lv_i2d F.1 F.2.1 dX9_meanJoins_54 ?_
          refine lv_ddiv F.1 F.2.1 dX9_meanJoins_55 (ddiv_ok (by rw [show r = σ 4 by omega]; exact jcN_r hwf) (by omega)) ?_
          refine h_topv (show (.double (FP.ddiv (FP.i2d (iI (sm (jcS σ) 0 r))) (FP.i2d (iI (σ 4)))) : Value) = .double (mjQ σ) from by unfold mjQ; first | rw [if_pos (by assumption)] | (rw [if_neg (by assumption), show r = σ 4 by omega])) ?_
          exact h_dret F hr hlk hW hS ⟨ho3, (fun q h09 => by rw [hn2 q (by omega)])⟩ dX9_meanJoins_56
        · refine lv_dconst0 F.1 F.2.1 dX9_meanJoins_42 ?_
          refine h_goto (tgt := 56) F dX9_meanJoins_43 (by decide) ?_
          refine h_topv (show (.double FP.dconst0 : Value) = .double (mjQ σ) from by unfold mjQ; first | rw [if_pos (by assumption)] | (rw [if_neg (by assumption), show r = σ 4 by omega])) ?_
          exact h_dret F hr hlk hW hS ⟨ho3, (fun q h09 => by rw [hn2 q (by omega)])⟩ dX9_meanJoins_56
      · refine lv_iload_n F.1 F.2.1 dX9_meanJoins_19 rfl (lv_at hl 0 rfl) ?_
        refine lv_aload_n F.1 F.2.1 dX9_meanJoins_20 rfl (lv_at hl 2 rfl) ?_
        refine lv_iload_n F.1 F.2.1 dX9_meanJoins_21 rfl (lv_at hl 1 rfl) ?_
        refine cl_RX9_205 (As := [.int (iI r)]) (rest := [.int (iI (sm (jcS σ) 0 r))]) F hl (c_X9_joinsOf l X w1 mo (up v 6 0) σ r ho3 hs hwf (by omega)) hW hS ho3 rfl rfl ⟨Nat.le_of_ble_eq_true rfl, Nat.le_of_ble_eq_true rfl⟩ (Nat.le_of_ble_eq_true rfl) ⟨Nat.zero_le _, Nat.zero_le _⟩ dX9_meanJoins_22 (fun w1 H locs hp6 hW hS => ?_)
        rw [hp6] at hW; clear hp6; clear w1
        refine h_iadd (a := sm (jcS σ) 0 r) (b := cnt (fun z => decide (cellS σ z r ≠ cellS σ (z + 1) r)) 0 (σ 0 - 1)) F dX9_meanJoins_25 ?_
        refine lv_istore_n (lv' := [(1, .int (iI ((sm (jcS σ) 0 r) + (cnt (fun z => decide (cellS σ z r ≠ cellS σ (z + 1) r)) 0 (σ 0 - 1))))), (2, .int (iI r)), (0, .ref mo)]) F.1 F.2.1 dX9_meanJoins_26 rfl hl (by decide) rfl (fun ls hl => ?_)
        refine h_iinc (k := 1) (a := r) (lv' := [(2, .int (iI (r + 1))), (1, .int (iI ((sm (jcS σ) 0 r) + (cnt (fun z => decide (cellS σ z r ≠ cellS σ (z + 1) r)) 0 (σ 0 - 1))))), (0, .ref mo)]) F dX9_meanJoins_27 hl rfl (by decide) rfl (fun ls hl => ?_)
        refine h_goto (tgt := 9) F dX9_meanJoins_30 (by decide) ?_
        have eq7 : (sm (jcS σ) 0 (r + 1) : Int) = (sm (jcS σ) 0 r) + (cnt (fun z => decide (cellS σ z r ≠ cellS σ (z + 1) r)) 0 (σ 0 - 1)) := by rw [sm_s _ (by omega)]; rfl
        have eq8 : ((r + 1) : Int) = r + 1 := by first | rfl | omega | simp
        exact ih9 (r + 1)  (by omega) (by omega)   _ _ ls hW hS (by rw [eq7, eq8]; exact lv_sub hl [1, 0, 2] rfl)
  have eq9 : (sm (jcS σ) 0 0 : Int) = 0 := sm_0 _ _
  exact loop9 ((σ 4 - 0) + 1 : Int).toNat 0  (by omega) (by omega)   _ _ ls hW hS (by rw [eq9]; exact lv_sub hl [1, 0, 2] rfl)
