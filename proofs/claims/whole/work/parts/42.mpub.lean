set_option maxHeartbeats 4000000 in
set_option maxRecDepth 100000 in
theorem c_pass_t (l : Launch) (X : Cx) (w : Wo) (mo : Nat) (v σ : Int → Int) (hM : w mo = some (.inr (9, mL mo v))) (hs : w (mo + 1) = some (aZ X 1317 σ)) (hwf : WF σ) : CM l X yX9_passes cX9_passes 2 (some (.boolean)) (rmk 0 0) [.ref mo, .int (iI (bz true))] w (some (.int (iI (bz true)))) (fun w' => w' mo = some (.inr (9, mL mo (up v 6 0))) ∧ ∀ q : Nat, q ≠ mo → w' q = w q) := by
  refine CM.of (lv := [(0, .ref mo), (1, .int (iI (bz true)))]) (by decide) (Nat.le_of_ble_eq_true rfl) rfl (fun p e s m below meth c ls F hr hlk hin hW hS hl => ?_)
  have hZ0 := hW.2.2
  have hB9 := hW.1.2
  clear hin
  have hF := hwf.1
  unfold WF0 at hF
  refine lv_aload_n F.1 F.2.1 dX9_passes_0 rfl (lv_at hl 0 rfl) ?_
  refine lv_iload_n F.1 F.2.1 dX9_passes_1 rfl (lv_at hl 1 rfl) ?_
  refine h_top (show (bz true : Int) = 1 from rfl) ?_
  refine h_ifeq (tgt := 9) F dX9_passes_2 (by decide) (by decide) (fun c9 => absurd c9 (by decide)) (fun _ => ?_)
  refine h_iconst F dX9_passes_5 ?_
  refine h_goto (tgt := 10) F dX9_passes_6 (by decide) ?_
  refine pf_RX9_58 F hW hS hM (Nat.le_of_ble_eq_true rfl) dX9_passes_10 (fun w2 H locs ho4 hn3 hW hS => ?_)
  rw [mL_6] at ho4
  have hs := (hn3 _ (by omega)).trans hs
  refine lv_iload_n F.1 F.2.1 dX9_passes_13 rfl (lv_at hl 1 rfl) ?_
  refine h_top (show (bz true : Int) = 1 from rfl) ?_
  refine h_top (show (1 : Int) = bz true from rfl) ?_
  exact h_iretz F hr hlk hW hS ⟨ho4, (fun q h09 => by rw [hn3 q (by omega)])⟩ dX9_passes_14
set_option maxHeartbeats 4000000 in
set_option maxRecDepth 100000 in
theorem c_pass_f (l : Launch) (X : Cx) (w : Wo) (mo : Nat) (v σ : Int → Int) (hM : w mo = some (.inr (9, mL mo v))) (hs : w (mo + 1) = some (aZ X 1317 σ)) (hwf : WF σ) : CM l X yX9_passes cX9_passes 2 (some (.boolean)) (rmk 0 0) [.ref mo, .int (iI (bz false))] w (some (.int (iI (bz false)))) (fun w' => w' mo = some (.inr (9, mL mo (up v 6 1))) ∧ ∀ q : Nat, q ≠ mo → w' q = w q) := by
  refine CM.of (lv := [(0, .ref mo), (1, .int (iI (bz false)))]) (by decide) (Nat.le_of_ble_eq_true rfl) rfl (fun p e s m below meth c ls F hr hlk hin hW hS hl => ?_)
  have hZ0 := hW.2.2
  have hB9 := hW.1.2
  clear hin
  have hF := hwf.1
  unfold WF0 at hF
  refine lv_aload_n F.1 F.2.1 dX9_passes_0 rfl (lv_at hl 0 rfl) ?_
  refine lv_iload_n F.1 F.2.1 dX9_passes_1 rfl (lv_at hl 1 rfl) ?_
  refine h_top (show (bz false : Int) = 0 from rfl) ?_
  refine h_ifeq (tgt := 9) F dX9_passes_2 (by decide) (by decide) (fun _ => ?_) (fun c9 => absurd c9 (by decide))
  refine h_iconst F dX9_passes_9 ?_
  refine pf_RX9_58 F hW hS hM (Nat.le_of_ble_eq_true rfl) dX9_passes_10 (fun w2 H locs ho4 hn3 hW hS => ?_)
  rw [mL_6] at ho4
  have hs := (hn3 _ (by omega)).trans hs
  refine lv_iload_n F.1 F.2.1 dX9_passes_13 rfl (lv_at hl 1 rfl) ?_
  refine h_top (show (bz false : Int) = 0 from rfl) ?_
  refine h_top (show (0 : Int) = bz false from rfl) ?_
  exact h_iretz F hr hlk hW hS ⟨ho4, (fun q h09 => by rw [hn3 q (by omega)])⟩ dX9_passes_14
set_option maxHeartbeats 4000000 in
set_option maxRecDepth 100000 in
theorem c_both_tt (l : Launch) (X : Cx) (w : Wo) (mo : Nat) (v σ : Int → Int) (hM : w mo = some (.inr (9, mL mo v))) (hs : w (mo + 1) = some (aZ X 1317 σ)) (hwf : WF σ) : CM l X yX9_passesBoth cX9_passesBoth 3 (some (.boolean)) (rmk 0 0) [.ref mo, .int (iI (bz true)), .int (iI (bz true))] w (some (.int (iI (bz true)))) (fun w' => w' mo = some (.inr (9, mL mo (up v 6 0))) ∧ ∀ q : Nat, q ≠ mo → w' q = w q) := by
  refine CM.of (lv := [(0, .ref mo), (1, .int (iI (bz true))), (2, .int (iI (bz true)))]) (by decide) (Nat.le_of_ble_eq_true rfl) rfl (fun p e s m below meth c ls F hr hlk hin hW hS hl => ?_)
  have hZ0 := hW.2.2
  have hB9 := hW.1.2
  clear hin
  have hF := hwf.1
  unfold WF0 at hF
  refine lv_aload_n F.1 F.2.1 dX9_passesBoth_0 rfl (lv_at hl 0 rfl) ?_
  refine lv_iload_n F.1 F.2.1 dX9_passesBoth_1 rfl (lv_at hl 1 rfl) ?_
  refine h_top (show (bz true : Int) = 1 from rfl) ?_
  refine h_ifne (tgt := 9) F dX9_passesBoth_2 (by decide) (by decide) (fun _ => ?_) (fun c9 => absurd c9 (by decide))
  refine lv_iload_n F.1 F.2.1 dX9_passesBoth_9 rfl (lv_at hl 2 rfl) ?_
  refine h_top (show (bz true : Int) = 1 from rfl) ?_
  refine h_ifne (tgt := 17) F dX9_passesBoth_10 (by decide) (by decide) (fun _ => ?_) (fun c9 => absurd c9 (by decide))
  refine h_iconst F dX9_passesBoth_17 ?_
  refine pf_RX9_58 F hW hS hM (Nat.le_of_ble_eq_true rfl) dX9_passesBoth_18 (fun w3 H locs ho5 hn4 hW hS => ?_)
  rw [mL_6] at ho5
  have hs := (hn4 _ (by omega)).trans hs
  refine lv_aload_n F.1 F.2.1 dX9_passesBoth_21 rfl (lv_at hl 0 rfl) ?_
  refine gf_RX9_58 F hW ho5 rfl dX9_passesBoth_22 ?_
  refine h_top (show ((up v 6 0) 6 : Int) = 0 from rfl) ?_
  refine h_ifne (tgt := 32) F dX9_passesBoth_25 (by decide) (by decide) (fun c9 => absurd c9 (by decide)) (fun _ => ?_)
  refine h_iconst F dX9_passesBoth_28 ?_
  refine h_goto (tgt := 33) F dX9_passesBoth_29 (by decide) ?_
  refine h_top (show (1 : Int) = bz true from rfl) ?_
  exact h_iretz F hr hlk hW hS ⟨ho5, (fun q h09 => by rw [hn4 q (by omega)])⟩ dX9_passesBoth_33
set_option maxHeartbeats 4000000 in
set_option maxRecDepth 100000 in
theorem c_both_tf (l : Launch) (X : Cx) (w : Wo) (mo : Nat) (v σ : Int → Int) (hM : w mo = some (.inr (9, mL mo v))) (hs : w (mo + 1) = some (aZ X 1317 σ)) (hwf : WF σ) : CM l X yX9_passesBoth cX9_passesBoth 3 (some (.boolean)) (rmk 0 0) [.ref mo, .int (iI (bz true)), .int (iI (bz false))] w (some (.int (iI (bz false)))) (fun w' => w' mo = some (.inr (9, mL mo (up v 6 2))) ∧ ∀ q : Nat, q ≠ mo → w' q = w q) := by
  refine CM.of (lv := [(0, .ref mo), (1, .int (iI (bz true))), (2, .int (iI (bz false)))]) (by decide) (Nat.le_of_ble_eq_true rfl) rfl (fun p e s m below meth c ls F hr hlk hin hW hS hl => ?_)
  have hZ0 := hW.2.2
  have hB9 := hW.1.2
  clear hin
  have hF := hwf.1
  unfold WF0 at hF
  refine lv_aload_n F.1 F.2.1 dX9_passesBoth_0 rfl (lv_at hl 0 rfl) ?_
  refine lv_iload_n F.1 F.2.1 dX9_passesBoth_1 rfl (lv_at hl 1 rfl) ?_
  refine h_top (show (bz true : Int) = 1 from rfl) ?_
  refine h_ifne (tgt := 9) F dX9_passesBoth_2 (by decide) (by decide) (fun _ => ?_) (fun c9 => absurd c9 (by decide))
  refine lv_iload_n F.1 F.2.1 dX9_passesBoth_9 rfl (lv_at hl 2 rfl) ?_
  refine h_top (show (bz false : Int) = 0 from rfl) ?_
  refine h_ifne (tgt := 17) F dX9_passesBoth_10 (by decide) (by decide) (fun c9 => absurd c9 (by decide)) (fun _ => ?_)
  refine h_iconst F dX9_passesBoth_13 ?_
  refine h_goto (tgt := 18) F dX9_passesBoth_14 (by decide) ?_
  refine pf_RX9_58 F hW hS hM (Nat.le_of_ble_eq_true rfl) dX9_passesBoth_18 (fun w3 H locs ho5 hn4 hW hS => ?_)
  rw [mL_6] at ho5
  have hs := (hn4 _ (by omega)).trans hs
  refine lv_aload_n F.1 F.2.1 dX9_passesBoth_21 rfl (lv_at hl 0 rfl) ?_
  refine gf_RX9_58 F hW ho5 rfl dX9_passesBoth_22 ?_
  refine h_top (show ((up v 6 2) 6 : Int) = 2 from rfl) ?_
  refine h_ifne (tgt := 32) F dX9_passesBoth_25 (by decide) (by decide) (fun _ => ?_) (fun c9 => absurd c9 (by decide))
  refine h_iconst F dX9_passesBoth_32 ?_
  refine h_top (show (0 : Int) = bz false from rfl) ?_
  exact h_iretz F hr hlk hW hS ⟨ho5, (fun q h09 => by rw [hn4 q (by omega)])⟩ dX9_passesBoth_33
set_option maxHeartbeats 4000000 in
set_option maxRecDepth 100000 in
theorem c_both_f (l : Launch) (X : Cx) (w : Wo) (mo : Nat) (v σ : Int → Int) (b : Bool) (hM : w mo = some (.inr (9, mL mo v))) (hs : w (mo + 1) = some (aZ X 1317 σ)) (hwf : WF σ) : CM l X yX9_passesBoth cX9_passesBoth 3 (some (.boolean)) (rmk 0 0) [.ref mo, .int (iI (bz false)), .int (iI (bz b))] w (some (.int (iI (bz false)))) (fun w' => w' mo = some (.inr (9, mL mo (up v 6 1))) ∧ ∀ q : Nat, q ≠ mo → w' q = w q) := by
  refine CM.of (lv := [(0, .ref mo), (1, .int (iI (bz false))), (2, .int (iI (bz b)))]) (by decide) (Nat.le_of_ble_eq_true rfl) rfl (fun p e s m below meth c ls F hr hlk hin hW hS hl => ?_)
  have hZ0 := hW.2.2
  have hB9 := hW.1.2
  clear hin
  have hF := hwf.1
  unfold WF0 at hF
  refine lv_aload_n F.1 F.2.1 dX9_passesBoth_0 rfl (lv_at hl 0 rfl) ?_
  refine lv_iload_n F.1 F.2.1 dX9_passesBoth_1 rfl (lv_at hl 1 rfl) ?_
  refine h_top (show (bz false : Int) = 0 from rfl) ?_
  refine h_ifne (tgt := 9) F dX9_passesBoth_2 (by decide) (by decide) (fun c9 => absurd c9 (by decide)) (fun _ => ?_)
  refine h_iconst F dX9_passesBoth_5 ?_
  refine h_goto (tgt := 18) F dX9_passesBoth_6 (by decide) ?_
  refine pf_RX9_58 F hW hS hM (Nat.le_of_ble_eq_true rfl) dX9_passesBoth_18 (fun w2 H locs ho4 hn3 hW hS => ?_)
  rw [mL_6] at ho4
  have hs := (hn3 _ (by omega)).trans hs
  refine lv_aload_n F.1 F.2.1 dX9_passesBoth_21 rfl (lv_at hl 0 rfl) ?_
  refine gf_RX9_58 F hW ho4 rfl dX9_passesBoth_22 ?_
  refine h_top (show ((up v 6 1) 6 : Int) = 1 from rfl) ?_
  refine h_ifne (tgt := 32) F dX9_passesBoth_25 (by decide) (by decide) (fun _ => ?_) (fun c9 => absurd c9 (by decide))
  refine h_iconst F dX9_passesBoth_32 ?_
  refine h_top (show (0 : Int) = bz false from rfl) ?_
  exact h_iretz F hr hlk hW hS ⟨ho4, (fun q h09 => by rw [hn3 q (by omega)])⟩ dX9_passesBoth_33
set_option maxHeartbeats 4000000 in
set_option maxRecDepth 100000 in
theorem c_X9_mistakes (l : Launch) (X : Cx) (w : Wo) (mo : Nat) (v σ : Int → Int) (wh : Int) (hM : w mo = some (.inr (9, mL mo v))) (hs : w (mo + 1) = some (aZ X 1317 σ)) (hwf : WF σ) (hwh : 0 ≤ wh ∧ wh ≤ 5) : CM l X yX9_mistakes cX9_mistakes 5 (some (.int)) (rmk 6 138) [.ref mo, .int (iI wh)] w (some (.int (iI (misQ σ wh)))) (fun w' => w' mo = some (.inr (9, mL mo (up v 6 0))) ∧ ∀ q : Nat, q ≠ mo → w' q = w q) := by
  refine CM.of (lv := [(0, .ref mo), (1, .int (iI wh))]) (by decide) (Nat.le_of_ble_eq_true rfl) rfl (fun p e s m below meth c ls F hr hlk hin hW hS hl => ?_)
  have hZ0 := hW.2.2
  have hB9 := hW.1.2
  clear hin
  have hF := hwf.1
  unfold WF0 at hF
  refine lv_aload_n F.1 F.2.1 dX9_mistakes_0 rfl (lv_at hl 0 rfl) ?_
  refine lv_iload_n F.1 F.2.1 dX9_mistakes_1 rfl (lv_at hl 1 rfl) ?_
  refine h_i2l F dX9_mistakes_2 (by omega) ?_
  refine h_lconst (n := 0) (z := 0) F dX9_mistakes_3 rfl ?_
  refine h_ldc2 (n := 5) F kk_RX9_130 dX9_mistakes_4 ?_
  refine cl_RX9_82 (As := [.long (lI wh), .long (lI 0), .long (lI 5)]) (rest := [.ref mo]) F hl (c_X9_isIn l X w wh 0 5 (by omega) (by omega) (by omega)) hW hS rfl rfl ⟨Nat.le_of_ble_eq_true rfl, Nat.le_of_ble_eq_true rfl⟩ (Nat.le_of_ble_eq_true rfl) ⟨Nat.zero_le _, Nat.zero_le _⟩ dX9_mistakes_7 (fun w1 H locs hp1 hW hS => ?_)
  rw [hp1] at hW; clear hp1; clear w1
  refine h_top (show (bz (decide (0 ≤ wh ∧ wh ≤ 5)) : Int) = bz true from congrArg bz (decide_eq_true (by omega))) ?_
  refine cl_RX9_74 (As := [.int (iI (bz true))]) (rest := []) F hl (c_pass_t l X w mo v σ hM hs hwf) hW hS hM rfl rfl ⟨Nat.le_of_ble_eq_true rfl, Nat.le_of_ble_eq_true rfl⟩ (Nat.le_of_ble_eq_true rfl) ⟨Nat.zero_le _, Nat.zero_le _⟩ dX9_mistakes_10 (fun w2 H locs hp3 hW hS => ?_)
  obtain ⟨ho4, hn5⟩ := hp3
  have hs := (hn5 _ (by omega)).trans hs
  refine h_ifneb (tgt := 18) F dX9_mistakes_13 (by decide) (fun _ => ?_) (fun c9 => absurd c9 (by decide))
  have join34 : ∀ (H : Heap) (locs : List Loc) (ls : Array Slot), Wd X w2 s H → va_S (cxA X) s.heap H locs → lv_has ls 5 [(0, .ref mo), (1, .int (iI wh))] → W p l e (rmk 6 138) s m (List.toArray [.ref mo, .int (iI wh)]) below meth c H locs 0 0 (MX X below (List.toArray [.ref mo, .int (iI wh)]) s 0 0 (some (.int (iI (misQ σ wh)))) (fun w' => w' mo = some (.inr (9, mL mo (up v 6 0))) ∧ ∀ q : Nat, q ≠ mo → w' q = w q)) (F0 m 34 ls [.int (iI (bz (decide (wh = 3 ∨ wh = 5)))), .ref mo]) := by
    intro  H locs ls  hW hS hl
    have hlo := lowS_r hwf.1 (decide (wh = 3 ∨ wh = 5))
    refine cl_RX9_132 (As := [.int (iI (bz (decide (wh = 3 ∨ wh = 5))))]) (rest := []) F hl (c_X9_lowestWrong l X w2 mo (up v 6 0) σ (decide (wh = 3 ∨ wh = 5)) ho4 hs hwf) hW hS ho4 rfl rfl ⟨Nat.le_of_ble_eq_true rfl, Nat.le_of_ble_eq_true rfl⟩ (Nat.le_of_ble_eq_true rfl) ⟨Nat.zero_le _, Nat.zero_le _⟩ dX9_mistakes_34 (fun w1 H locs hp7 hW hS => ?_)
    rw [hp7] at hW; clear hp7; clear w1
    refine lv_istore_n (lv' := [(2, .int (iI (lowS σ (decide (wh = 3 ∨ wh = 5))))), (0, .ref mo), (1, .int (iI wh))]) F.1 F.2.1 dX9_mistakes_37 rfl hl (by decide) rfl (fun ls hl => ?_)
    refine lv_iload_n F.1 F.2.1 dX9_mistakes_38 rfl (lv_at hl 2 rfl) ?_
    rcases (show wh = 0 ∨ wh = 1 ∨ wh = 2 ∨ wh = 3 ∨ (wh < 0 ∨ 3 < wh) by omega) with c8 | c8 | c8 | c8 | c8
    · refine lv_tableIn (off := 29) (tgt := 68) F.1 F.2.1 dX9_mistakes_39 (by rw [iI_toInt (by omega)]; omega) (by rw [iI_toInt (by omega)]; omega) (by rw [iI_toInt (by omega), c8]; rfl) (by decide) ?_
      refine lv_aload_n F.1 F.2.1 dX9_mistakes_68 rfl (lv_at hl 1 rfl) ?_
      refine lv_iload_n F.1 F.2.1 dX9_mistakes_69 rfl (lv_at hl 2 rfl) ?_
      refine h_iconst F dX9_mistakes_70 ?_
      refine h_icne (tgt := 78) F dX9_mistakes_71 (by decide) (by omega) (fun c9 => ?_) (fun c9 => ?_)
      · refine h_iconst F dX9_mistakes_78 ?_
        refine cl_RX9_136 (As := [.int (iI 0)]) (rest := []) F hl (c_mall_f l X w2 mo (up v 6 0) σ ho4 hs hwf) hW hS ho4 rfl rfl ⟨Nat.le_of_ble_eq_true rfl, Nat.le_of_ble_eq_true rfl⟩ (Nat.le_of_ble_eq_true rfl) ⟨Nat.zero_le _, Nat.zero_le _⟩ dX9_mistakes_79 (fun w1 H locs hp10 hW hS => ?_)
        rw [hp10] at hW; clear hp10; clear w1
        refine h_top (show (misFrom σ 0 : Int) = misQ σ wh from by unfold misQ; (repeat first | rw [if_pos (by omega)] | rw [if_neg (by omega)]) <;> first | rfl | (exfalso; omega) | (rw [show i = σ 4 by omega]) | (rw [show decide (wh = 3 ∨ wh = 5) = true from decide_eq_true (by omega)]; done) | (unfold dnS; split <;> first | rfl | omega)) ?_
        exact h_ireti F hr hlk hW hS ⟨ho4, (fun q h09 => by rw [hn5 q (by omega)])⟩ dX9_mistakes_82
      · refine h_iconst F dX9_mistakes_74 ?_
        refine h_goto (tgt := 79) F dX9_mistakes_75 (by decide) ?_
        refine cl_RX9_136 (As := [.int (iI 1)]) (rest := []) F hl (c_mall_t l X w2 mo (up v 6 0) σ ho4 hs hwf) hW hS ho4 rfl rfl ⟨Nat.le_of_ble_eq_true rfl, Nat.le_of_ble_eq_true rfl⟩ (Nat.le_of_ble_eq_true rfl) ⟨Nat.zero_le _, Nat.zero_le _⟩ dX9_mistakes_79 (fun w1 H locs hp11 hW hS => ?_)
        rw [hp11] at hW; clear hp11; clear w1
        refine h_top (show (misSeen σ : Int) = misQ σ wh from by unfold misQ; (repeat first | rw [if_pos (by omega)] | rw [if_neg (by omega)]) <;> first | rfl | (exfalso; omega) | (rw [show i = σ 4 by omega]) | (rw [show decide (wh = 3 ∨ wh = 5) = true from decide_eq_true (by omega)]; done) | (unfold dnS; split <;> first | rfl | omega)) ?_
        exact h_ireti F hr hlk hW hS ⟨ho4, (fun q h09 => by rw [hn5 q (by omega)])⟩ dX9_mistakes_82
    · refine lv_tableIn (off := 29) (tgt := 68) F.1 F.2.1 dX9_mistakes_39 (by rw [iI_toInt (by omega)]; omega) (by rw [iI_toInt (by omega)]; omega) (by rw [iI_toInt (by omega), c8]; rfl) (by decide) ?_
      refine lv_aload_n F.1 F.2.1 dX9_mistakes_68 rfl (lv_at hl 1 rfl) ?_
      refine lv_iload_n F.1 F.2.1 dX9_mistakes_69 rfl (lv_at hl 2 rfl) ?_
      refine h_iconst F dX9_mistakes_70 ?_
      refine h_icne (tgt := 78) F dX9_mistakes_71 (by decide) (by omega) (fun c12 => ?_) (fun c12 => ?_)
      · refine h_iconst F dX9_mistakes_78 ?_
        refine cl_RX9_136 (As := [.int (iI 0)]) (rest := []) F hl (c_mall_f l X w2 mo (up v 6 0) σ ho4 hs hwf) hW hS ho4 rfl rfl ⟨Nat.le_of_ble_eq_true rfl, Nat.le_of_ble_eq_true rfl⟩ (Nat.le_of_ble_eq_true rfl) ⟨Nat.zero_le _, Nat.zero_le _⟩ dX9_mistakes_79 (fun w1 H locs hp13 hW hS => ?_)
        rw [hp13] at hW; clear hp13; clear w1
        refine h_top (show (misFrom σ 0 : Int) = misQ σ wh from by unfold misQ; (repeat first | rw [if_pos (by omega)] | rw [if_neg (by omega)]) <;> first | rfl | (exfalso; omega) | (rw [show i = σ 4 by omega]) | (rw [show decide (wh = 3 ∨ wh = 5) = true from decide_eq_true (by omega)]; done) | (unfold dnS; split <;> first | rfl | omega)) ?_
        exact h_ireti F hr hlk hW hS ⟨ho4, (fun q h09 => by rw [hn5 q (by omega)])⟩ dX9_mistakes_82
      · refine h_iconst F dX9_mistakes_74 ?_
        refine h_goto (tgt := 79) F dX9_mistakes_75 (by decide) ?_
        refine cl_RX9_136 (As := [.int (iI 1)]) (rest := []) F hl (c_mall_t l X w2 mo (up v 6 0) σ ho4 hs hwf) hW hS ho4 rfl rfl ⟨Nat.le_of_ble_eq_true rfl, Nat.le_of_ble_eq_true rfl⟩ (Nat.le_of_ble_eq_true rfl) ⟨Nat.zero_le _, Nat.zero_le _⟩ dX9_mistakes_79 (fun w1 H locs hp14 hW hS => ?_)
        rw [hp14] at hW; clear hp14; clear w1
        refine h_top (show (misSeen σ : Int) = misQ σ wh from by unfold misQ; (repeat first | rw [if_pos (by omega)] | rw [if_neg (by omega)]) <;> first | rfl | (exfalso; omega) | (rw [show i = σ 4 by omega]) | (rw [show decide (wh = 3 ∨ wh = 5) = true from decide_eq_true (by omega)]; done) | (unfold dnS; split <;> first | rfl | omega)) ?_
        exact h_ireti F hr hlk hW hS ⟨ho4, (fun q h09 => by rw [hn5 q (by omega)])⟩ dX9_mistakes_82
    · refine lv_tableIn (off := 44) (tgt := 83) F.1 F.2.1 dX9_mistakes_39 (by rw [iI_toInt (by omega)]; omega) (by rw [iI_toInt (by omega)]; omega) (by rw [iI_toInt (by omega), c8]; rfl) (by decide) ?_
      refine h_iconst F dX9_mistakes_83 ?_
      refine lv_istore_n (lv' := [(3, .int (iI 0)), (2, .int (iI (lowS σ (decide (wh = 3 ∨ wh = 5))))), (0, .ref mo), (1, .int (iI wh))]) F.1 F.2.1 dX9_mistakes_84 rfl hl (by decide) rfl (fun ls hl => ?_)
      refine h_iconst F dX9_mistakes_85 ?_
      refine lv_istore (lv' := [(4, .int (iI 0)), (3, .int (iI 0)), (2, .int (iI (lowS σ (decide (wh = 3 ∨ wh = 5))))), (0, .ref mo), (1, .int (iI wh))]) F.1 F.2.1 dX9_mistakes_86 hl (by decide) rfl (fun ls hl => ?_)
      have loop88 : ∀ (n9 : Nat) (i : Int), (hrg : 0 ≤ i ∧ i ≤ σ 4) → (hms : σ 4 - i < (n9 : Int)) → (H : Heap) → (locs : List Loc) → (ls : Array Slot) → Wd X w2 s H → va_S (cxA X) s.heap H locs → lv_has ls 5 [(3, .int (iI (cnt (fun z => decide (0 < misRow σ z)) 0 i))), (4, .int (iI i)), (2, .int (iI (lowS σ (decide (wh = 3 ∨ wh = 5))))), (0, .ref mo), (1, .int (iI wh))] → W p l e (rmk 6 138) s m (List.toArray [.ref mo, .int (iI wh)]) below meth c H locs 0 0 (MX X below (List.toArray [.ref mo, .int (iI wh)]) s 0 0 (some (.int (iI (misQ σ wh)))) (fun w' => w' mo = some (.inr (9, mL mo (up v 6 0))) ∧ ∀ q : Nat, q ≠ mo → w' q = w q)) (F0 m 88 ls []) := by
        intro n9
        induction n9 with
        | zero => intro i  hrg hms; exfalso; omega
        | succ n9 ih88 =>
          intro i  hrg hms   H locs ls hW hS hl
          refine lv_iload F.1 F.2.1 dX9_mistakes_88 (lv_at hl 1 rfl) ?_
          refine lv_aload_n F.1 F.2.1 dX9_mistakes_90 rfl (lv_at hl 3 rfl) ?_
          refine gf_RX9_7 F hW ho4 rfl dX9_mistakes_91 ?_
          refine h_iconst F dX9_mistakes_94 ?_
          refine h_iald F hW hs (by omega) (by omega) dX9_mistakes_95 ?_
          refine h_icge (tgt := 122) F dX9_mistakes_96 (by decide) (by omega) (fun c15 => ?_) (fun c15 => ?_)
          · refine lv_iload_n F.1 F.2.1 dX9_mistakes_122 rfl (lv_at hl 0 rfl) ?_
            refine h_top (show (cnt (fun z => decide (0 < misRow σ z)) 0 i : Int) = misQ σ wh from by unfold misQ; (repeat first | rw [if_pos (by omega)] | rw [if_neg (by omega)]) <;> first | rfl | (exfalso; omega) | (rw [show i = σ 4 by omega]) | (rw [show decide (wh = 3 ∨ wh = 5) = true from decide_eq_true (by omega)]; done) | (unfold dnS; split <;> first | rfl | omega)) ?_
            exact h_ireti F hr hlk hW hS ⟨ho4, (fun q h09 => by rw [hn5 q (by omega)])⟩ dX9_mistakes_123
          · refine lv_iload_n F.1 F.2.1 dX9_mistakes_99 rfl (lv_at hl 0 rfl) ?_
            refine lv_aload_n F.1 F.2.1 dX9_mistakes_100 rfl (lv_at hl 3 rfl) ?_
            refine lv_iload F.1 F.2.1 dX9_mistakes_101 (lv_at hl 1 rfl) ?_
            refine cl_RX9_127 (As := [.int (iI i)]) (rest := [.int (iI (cnt (fun z => decide (0 < misRow σ z)) 0 i))]) F hl (c_X9_mistakesIn l X w2 mo (up v 6 0) σ i ho4 hs hwf (by omega)) hW hS ho4 rfl rfl ⟨Nat.le_of_ble_eq_true rfl, Nat.le_of_ble_eq_true rfl⟩ (Nat.le_of_ble_eq_true rfl) ⟨Nat.zero_le _, Nat.zero_le _⟩ dX9_mistakes_103 (fun w1 H locs hp16 hW hS => ?_)
            rw [hp16] at hW; clear hp16; clear w1
            have hm := misRow_r hwf i
            refine h_ifle (tgt := 113) F dX9_mistakes_106 (by decide) (by omega) (fun c17 => ?_) (fun c17 => ?_)
            · refine h_iconst F dX9_mistakes_113 ?_
              refine h_iadd (a := cnt (fun z => decide (0 < misRow σ z)) 0 i) (b := 0) F dX9_mistakes_114 ?_
              refine lv_istore_n (lv' := [(3, .int (iI ((cnt (fun z => decide (0 < misRow σ z)) 0 i) + 0))), (4, .int (iI i)), (2, .int (iI (lowS σ (decide (wh = 3 ∨ wh = 5))))), (0, .ref mo), (1, .int (iI wh))]) F.1 F.2.1 dX9_mistakes_115 rfl hl (by decide) rfl (fun ls hl => ?_)
              refine h_iinc (k := 1) (a := i) (lv' := [(4, .int (iI (i + 1))), (3, .int (iI ((cnt (fun z => decide (0 < misRow σ z)) 0 i) + 0))), (2, .int (iI (lowS σ (decide (wh = 3 ∨ wh = 5))))), (0, .ref mo), (1, .int (iI wh))]) F dX9_mistakes_116 hl rfl (by decide) rfl (fun ls hl => ?_)
              refine h_goto (tgt := 88) F dX9_mistakes_119 (by decide) ?_
              have eq18 : (cnt (fun z => decide (0 < misRow σ z)) 0 (i + 1) : Int) = (cnt (fun z => decide (0 < misRow σ z)) 0 i) + 0 := by first | rw [cnt_t (by omega) (decide_eq_true (by omega))] | (rw [cnt_f (by omega) (decide_eq_false (by omega))]; omega)
              have eq19 : ((i + 1) : Int) = i + 1 := by first | rfl | omega | simp
              exact ih88 (i + 1)  (by omega) (by omega)   _ _ ls hW hS (by rw [eq18, eq19]; exact lv_sub hl [1, 0, 2, 3, 4] rfl)
            · refine h_iconst F dX9_mistakes_109 ?_
              refine h_goto (tgt := 114) F dX9_mistakes_110 (by decide) ?_
              refine h_iadd (a := cnt (fun z => decide (0 < misRow σ z)) 0 i) (b := 1) F dX9_mistakes_114 ?_
              refine lv_istore_n (lv' := [(3, .int (iI ((cnt (fun z => decide (0 < misRow σ z)) 0 i) + 1))), (4, .int (iI i)), (2, .int (iI (lowS σ (decide (wh = 3 ∨ wh = 5))))), (0, .ref mo), (1, .int (iI wh))]) F.1 F.2.1 dX9_mistakes_115 rfl hl (by decide) rfl (fun ls hl => ?_)
              refine h_iinc (k := 1) (a := i) (lv' := [(4, .int (iI (i + 1))), (3, .int (iI ((cnt (fun z => decide (0 < misRow σ z)) 0 i) + 1))), (2, .int (iI (lowS σ (decide (wh = 3 ∨ wh = 5))))), (0, .ref mo), (1, .int (iI wh))]) F dX9_mistakes_116 hl rfl (by decide) rfl (fun ls hl => ?_)
              refine h_goto (tgt := 88) F dX9_mistakes_119 (by decide) ?_
              have eq20 : (cnt (fun z => decide (0 < misRow σ z)) 0 (i + 1) : Int) = (cnt (fun z => decide (0 < misRow σ z)) 0 i) + 1 := by first | rw [cnt_t (by omega) (decide_eq_true (by omega))] | (rw [cnt_f (by omega) (decide_eq_false (by omega))]; omega)
              have eq21 : ((i + 1) : Int) = i + 1 := by first | rfl | omega | simp
              exact ih88 (i + 1)  (by omega) (by omega)   _ _ ls hW hS (by rw [eq20, eq21]; exact lv_sub hl [1, 0, 2, 3, 4] rfl)
      have eq22 : (cnt (fun z => decide (0 < misRow σ z)) 0 0 : Int) = 0 := cnt_0 _ _
      exact loop88 ((σ 4 - 0) + 1 : Int).toNat 0  (by omega) (by omega)   _ _ ls hW hS (by rw [eq22]; exact lv_sub hl [1, 0, 2, 3, 4] rfl)
    · refine lv_tableIn (off := 85) (tgt := 124) F.1 F.2.1 dX9_mistakes_39 (by rw [iI_toInt (by omega)]; omega) (by rw [iI_toInt (by omega)]; omega) (by rw [iI_toInt (by omega), c8]; rfl) (by decide) ?_
      refine lv_iload_n F.1 F.2.1 dX9_mistakes_124 rfl (lv_at hl 0 rfl) ?_
      refine h_top (show (lowS σ (decide (wh = 3 ∨ wh = 5)) : Int) = misQ σ wh from by unfold misQ; (repeat first | rw [if_pos (by omega)] | rw [if_neg (by omega)]) <;> first | rfl | (exfalso; omega) | (rw [show i = σ 4 by omega]) | (rw [show decide (wh = 3 ∨ wh = 5) = true from decide_eq_true (by omega)]; done) | (unfold dnS; split <;> first | rfl | omega)) ?_
      exact h_ireti F hr hlk hW hS ⟨ho4, (fun q h09 => by rw [hn5 q (by omega)])⟩ dX9_mistakes_125
    · refine lv_tableOut (tgt := 126) F.1 F.2.1 dX9_mistakes_39 (by rw [iI_toInt (by omega)]; exact c8) (by decide) ?_
      refine lv_iload_n F.1 F.2.1 dX9_mistakes_126 rfl (lv_at hl 0 rfl) ?_
      refine h_iconst F dX9_mistakes_127 ?_
      refine h_icne (tgt := 135) F dX9_mistakes_128 (by decide) (by omega) (fun c23 => ?_) (fun c23 => ?_)
      · refine lv_aload_n F.1 F.2.1 dX9_mistakes_135 rfl (lv_at hl 1 rfl) ?_
        refine gf_RX9_7 F hW ho4 rfl dX9_mistakes_136 ?_
        refine h_iconst F dX9_mistakes_139 ?_
        refine h_iald F hW hs (by omega) (by omega) dX9_mistakes_140 ?_
        refine lv_iload_n F.1 F.2.1 dX9_mistakes_141 rfl (lv_at hl 0 rfl) ?_
        refine h_isub (a := σ 4) (b := lowS σ (decide (wh = 3 ∨ wh = 5))) F dX9_mistakes_142 ?_
        refine h_top (show ((σ 4) - (lowS σ (decide (wh = 3 ∨ wh = 5))) : Int) = misQ σ wh from by unfold misQ; (repeat first | rw [if_pos (by omega)] | rw [if_neg (by omega)]) <;> first | rfl | (exfalso; omega) | (rw [show i = σ 4 by omega]) | (rw [show decide (wh = 3 ∨ wh = 5) = true from decide_eq_true (by omega)]; done) | (unfold dnS; split <;> first | rfl | omega)) ?_
        exact h_ireti F hr hlk hW hS ⟨ho4, (fun q h09 => by rw [hn5 q (by omega)])⟩ dX9_mistakes_143
      · refine h_iconst F dX9_mistakes_131 ?_
        refine h_goto (tgt := 143) F dX9_mistakes_132 (by decide) ?_
        refine h_top (show (0 : Int) = misQ σ wh from by unfold misQ; (repeat first | rw [if_pos (by omega)] | rw [if_neg (by omega)]) <;> first | rfl | (exfalso; omega) | (rw [show i = σ 4 by omega]) | (rw [show decide (wh = 3 ∨ wh = 5) = true from decide_eq_true (by omega)]; done) | (unfold dnS; split <;> first | rfl | omega)) ?_
        exact h_ireti F hr hlk hW hS ⟨ho4, (fun q h09 => by rw [hn5 q (by omega)])⟩ dX9_mistakes_143
  refine lv_aload_n F.1 F.2.1 dX9_mistakes_18 rfl (lv_at hl 0 rfl) ?_
  refine lv_iload_n F.1 F.2.1 dX9_mistakes_19 rfl (lv_at hl 1 rfl) ?_
  refine h_iconst F dX9_mistakes_20 ?_
  refine h_iceq (tgt := 29) F dX9_mistakes_21 (by decide) (by omega) (fun c24 => ?_) (fun c24 => ?_)
  · refine h_iconst F dX9_mistakes_29 ?_
    refine h_goto (tgt := 34) F dX9_mistakes_30 (by decide) ?_
    refine h_top (show (1 : Int) = bz (decide (wh = 3 ∨ wh = 5)) from bzt (by first | exact decide_eq_true (by omega) | (simp only [Bool.and_eq_true, Bool.or_eq_true, decide_eq_true_eq]; omega) | simp_all)) ?_
    exact join34  _ _ ls  hW hS (lv_sub hl [0, 1] rfl)
  · refine lv_iload_n F.1 F.2.1 dX9_mistakes_24 rfl (lv_at hl 1 rfl) ?_
    refine h_iconst F dX9_mistakes_25 ?_
    refine h_icne (tgt := 33) F dX9_mistakes_26 (by decide) (by omega) (fun c25 => ?_) (fun c25 => ?_)
    · refine h_iconst F dX9_mistakes_33 ?_
      refine h_top (show (0 : Int) = bz (decide (wh = 3 ∨ wh = 5)) from bzf (by first | exact decide_eq_false (by omega) | (simp only [Bool.and_eq_false_iff, Bool.or_eq_false_iff, decide_eq_false_iff_not]; omega) | simp_all)) ?_
      exact join34  _ _ ls  hW hS (lv_sub hl [0, 1] rfl)
    · refine h_iconst F dX9_mistakes_29 ?_
      refine h_goto (tgt := 34) F dX9_mistakes_30 (by decide) ?_
      refine h_top (show (1 : Int) = bz (decide (wh = 3 ∨ wh = 5)) from bzt (by first | exact decide_eq_true (by omega) | (simp only [Bool.and_eq_true, Bool.or_eq_true, decide_eq_true_eq]; omega) | simp_all)) ?_
      exact join34  _ _ ls  hW hS (lv_sub hl [0, 1] rfl)
set_option maxHeartbeats 4000000 in
set_option maxRecDepth 100000 in
theorem c_X9_mistakes_x (l : Launch) (X : Cx) (w : Wo) (mo : Nat) (v σ : Int → Int) (wh : Int) (hM : w mo = some (.inr (9, mL mo v))) (hs : w (mo + 1) = some (aZ X 1317 σ)) (hwf : WF σ) (hwh : -2147483648 ≤ wh ∧ wh < 2147483648) (hbad : ¬ (0 ≤ wh ∧ wh ≤ 5)) : CM l X yX9_mistakes cX9_mistakes 5 (some (.int)) (rmk 6 138) [.ref mo, .int (iI wh)] w (some (.int (iI 0))) (fun w' => w' mo = some (.inr (9, mL mo (up v 6 1))) ∧ ∀ q : Nat, q ≠ mo → w' q = w q) := by
  refine CM.of (lv := [(0, .ref mo), (1, .int (iI wh))]) (by decide) (Nat.le_of_ble_eq_true rfl) rfl (fun p e s m below meth c ls F hr hlk hin hW hS hl => ?_)
  have hZ0 := hW.2.2
  have hB9 := hW.1.2
  clear hin
  have hF := hwf.1
  unfold WF0 at hF
  refine lv_aload_n F.1 F.2.1 dX9_mistakes_0 rfl (lv_at hl 0 rfl) ?_
  refine lv_iload_n F.1 F.2.1 dX9_mistakes_1 rfl (lv_at hl 1 rfl) ?_
  refine h_i2l F dX9_mistakes_2 (by omega) ?_
  refine h_lconst (n := 0) (z := 0) F dX9_mistakes_3 rfl ?_
  refine h_ldc2 (n := 5) F kk_RX9_130 dX9_mistakes_4 ?_
  refine cl_RX9_82 (As := [.long (lI wh), .long (lI 0), .long (lI 5)]) (rest := [.ref mo]) F hl (c_X9_isIn l X w wh 0 5 (by omega) (by omega) (by omega)) hW hS rfl rfl ⟨Nat.le_of_ble_eq_true rfl, Nat.le_of_ble_eq_true rfl⟩ (Nat.le_of_ble_eq_true rfl) ⟨Nat.zero_le _, Nat.zero_le _⟩ dX9_mistakes_7 (fun w1 H locs hp1 hW hS => ?_)
  rw [hp1] at hW; clear hp1; clear w1
  refine h_top (show (bz (decide (0 ≤ wh ∧ wh ≤ 5)) : Int) = bz false from congrArg bz (decide_eq_false (by omega))) ?_
  refine cl_RX9_74 (As := [.int (iI (bz false))]) (rest := []) F hl (c_pass_f l X w mo v σ hM hs hwf) hW hS hM rfl rfl ⟨Nat.le_of_ble_eq_true rfl, Nat.le_of_ble_eq_true rfl⟩ (Nat.le_of_ble_eq_true rfl) ⟨Nat.zero_le _, Nat.zero_le _⟩ dX9_mistakes_10 (fun w2 H locs hp3 hW hS => ?_)
  obtain ⟨ho4, hn5⟩ := hp3
  have hs := (hn5 _ (by omega)).trans hs
  refine h_ifneb (tgt := 18) F dX9_mistakes_13 (by decide) (fun c9 => absurd c9 (by decide)) (fun _ => ?_)
  refine h_iconst F dX9_mistakes_16 ?_
  exact h_ireti F hr hlk hW hS ⟨ho4, (fun q h09 => by rw [hn5 q (by omega)])⟩ dX9_mistakes_17
set_option maxHeartbeats 4000000 in
set_option maxRecDepth 100000 in
theorem c_X9_count (l : Launch) (X : Cx) (w : Wo) (mo : Nat) (v σ : Int → Int) (wh : Int) (hM : w mo = some (.inr (9, mL mo v))) (hs : w (mo + 1) = some (aZ X 1317 σ)) (hwf : WF σ) (hwh : 0 ≤ wh ∧ wh ≤ 8) : CM l X yX9_count cX9_count 4 (some (.int)) (rmk 3 65) [.ref mo, .int (iI wh)] w (some (.int (iI (cntQ σ (v 5) wh)))) (fun w' => w' mo = some (.inr (9, mL mo (up v 6 0))) ∧ ∀ q : Nat, q ≠ mo → w' q = w q) := by
  refine CM.of (lv := [(0, .ref mo), (1, .int (iI wh))]) (by decide) (Nat.le_of_ble_eq_true rfl) rfl (fun p e s m below meth c ls F hr hlk hin hW hS hl => ?_)
  have hZ0 := hW.2.2
  have hB9 := hW.1.2
  clear hin
  have hF := hwf.1
  unfold WF0 at hF
  refine lv_aload_n F.1 F.2.1 dX9_count_0 rfl (lv_at hl 0 rfl) ?_
  refine lv_iload_n F.1 F.2.1 dX9_count_1 rfl (lv_at hl 1 rfl) ?_
  refine h_i2l F dX9_count_2 (by omega) ?_
  refine h_lconst (n := 0) (z := 0) F dX9_count_3 rfl ?_
  refine h_ldc2 (n := 8) F kk_RX9_183 dX9_count_4 ?_
  refine cl_RX9_82 (As := [.long (lI wh), .long (lI 0), .long (lI 8)]) (rest := [.ref mo]) F hl (c_X9_isIn l X w wh 0 8 (by omega) (by omega) (by omega)) hW hS rfl rfl ⟨Nat.le_of_ble_eq_true rfl, Nat.le_of_ble_eq_true rfl⟩ (Nat.le_of_ble_eq_true rfl) ⟨Nat.zero_le _, Nat.zero_le _⟩ dX9_count_7 (fun w1 H locs hp1 hW hS => ?_)
  rw [hp1] at hW; clear hp1; clear w1
  refine h_top (show (bz (decide (0 ≤ wh ∧ wh ≤ 8)) : Int) = bz true from congrArg bz (decide_eq_true (by omega))) ?_
  refine cl_RX9_74 (As := [.int (iI (bz true))]) (rest := []) F hl (c_pass_t l X w mo v σ hM hs hwf) hW hS hM rfl rfl ⟨Nat.le_of_ble_eq_true rfl, Nat.le_of_ble_eq_true rfl⟩ (Nat.le_of_ble_eq_true rfl) ⟨Nat.zero_le _, Nat.zero_le _⟩ dX9_count_10 (fun w2 H locs hp3 hW hS => ?_)
  obtain ⟨ho4, hn5⟩ := hp3
  have hs := (hn5 _ (by omega)).trans hs
  refine h_ifneb (tgt := 18) F dX9_count_13 (by decide) (fun _ => ?_) (fun c9 => absurd c9 (by decide))
  refine lv_iload_n F.1 F.2.1 dX9_count_18 rfl (lv_at hl 1 rfl) ?_
  rcases (show wh = 0 ∨ wh = 1 ∨ wh = 2 ∨ wh = 3 ∨ wh = 4 ∨ wh = 5 ∨ wh = 6 ∨ wh = 7 ∨ (wh < 0 ∨ 7 < wh) by omega) with c7 | c7 | c7 | c7 | c7 | c7 | c7 | c7 | c7
  · refine lv_tableIn (off := 45) (tgt := 64) F.1 F.2.1 dX9_count_19 (by rw [iI_toInt (by omega)]; omega) (by rw [iI_toInt (by omega)]; omega) (by rw [iI_toInt (by omega), c7]; rfl) (by decide) ?_
    refine lv_aload_n F.1 F.2.1 dX9_count_64 rfl (lv_at hl 0 rfl) ?_
    refine gf_RX9_7 F hW ho4 rfl dX9_count_65 ?_
    refine lv_iload_n F.1 F.2.1 dX9_count_68 rfl (lv_at hl 1 rfl) ?_
    refine h_iald F hW hs (by omega) (by omega) dX9_count_69 ?_
    refine h_top (show (σ wh : Int) = cntQ σ (v 5) wh from by unfold cntQ; (repeat first | rw [if_pos (by omega)] | rw [if_neg (by omega)]) <;> first | rfl | (rw [show k = σ 5 by omega]) | (rw [show wh = 0 by omega]) | (rw [show wh = 1 by omega])) ?_
    exact h_ireti F hr hlk hW hS ⟨ho4, (fun q h09 => by rw [hn5 q (by omega)])⟩ dX9_count_70
  · refine lv_tableIn (off := 45) (tgt := 64) F.1 F.2.1 dX9_count_19 (by rw [iI_toInt (by omega)]; omega) (by rw [iI_toInt (by omega)]; omega) (by rw [iI_toInt (by omega), c7]; rfl) (by decide) ?_
    refine lv_aload_n F.1 F.2.1 dX9_count_64 rfl (lv_at hl 0 rfl) ?_
    refine gf_RX9_7 F hW ho4 rfl dX9_count_65 ?_
    refine lv_iload_n F.1 F.2.1 dX9_count_68 rfl (lv_at hl 1 rfl) ?_
    refine h_iald F hW hs (by omega) (by omega) dX9_count_69 ?_
    refine h_top (show (σ wh : Int) = cntQ σ (v 5) wh from by unfold cntQ; (repeat first | rw [if_pos (by omega)] | rw [if_neg (by omega)]) <;> first | rfl | (rw [show k = σ 5 by omega]) | (rw [show wh = 0 by omega]) | (rw [show wh = 1 by omega])) ?_
    exact h_ireti F hr hlk hW hS ⟨ho4, (fun q h09 => by rw [hn5 q (by omega)])⟩ dX9_count_70
  · refine lv_tableIn (off := 52) (tgt := 71) F.1 F.2.1 dX9_count_19 (by rw [iI_toInt (by omega)]; omega) (by rw [iI_toInt (by omega)]; omega) (by rw [iI_toInt (by omega), c7]; rfl) (by decide) ?_
    refine lv_aload_n F.1 F.2.1 dX9_count_71 rfl (lv_at hl 0 rfl) ?_
    refine gf_RX9_7 F hW ho4 rfl dX9_count_72 ?_
    refine h_iconst F dX9_count_75 ?_
    refine h_iald F hW hs (by omega) (by omega) dX9_count_76 ?_
    refine h_top (show (σ 4 : Int) = cntQ σ (v 5) wh from by unfold cntQ; (repeat first | rw [if_pos (by omega)] | rw [if_neg (by omega)]) <;> first | rfl | (rw [show k = σ 5 by omega]) | (rw [show wh = 0 by omega]) | (rw [show wh = 1 by omega])) ?_
    exact h_ireti F hr hlk hW hS ⟨ho4, (fun q h09 => by rw [hn5 q (by omega)])⟩ dX9_count_77
  · refine lv_tableIn (off := 59) (tgt := 78) F.1 F.2.1 dX9_count_19 (by rw [iI_toInt (by omega)]; omega) (by rw [iI_toInt (by omega)]; omega) (by rw [iI_toInt (by omega), c7]; rfl) (by decide) ?_
    refine lv_aload_n F.1 F.2.1 dX9_count_78 rfl (lv_at hl 0 rfl) ?_
    refine cl_RX9_185 (As := []) (rest := []) F hl (c_X9_cellsOpen l X w2 mo (up v 6 0) σ ho4 hs hwf) hW hS ho4 rfl rfl ⟨Nat.le_of_ble_eq_true rfl, Nat.le_of_ble_eq_true rfl⟩ (Nat.le_of_ble_eq_true rfl) ⟨Nat.zero_le _, Nat.zero_le _⟩ dX9_count_79 (fun w1 H locs hp8 hW hS => ?_)
    rw [hp8] at hW; clear hp8; clear w1
    refine h_top (show (opnS σ : Int) = cntQ σ (v 5) wh from by unfold cntQ; (repeat first | rw [if_pos (by omega)] | rw [if_neg (by omega)]) <;> first | rfl | (rw [show k = σ 5 by omega]) | (rw [show wh = 0 by omega]) | (rw [show wh = 1 by omega])) ?_
    exact h_ireti F hr hlk hW hS ⟨ho4, (fun q h09 => by rw [hn5 q (by omega)])⟩ dX9_count_82
  · refine lv_tableIn (off := 64) (tgt := 83) F.1 F.2.1 dX9_count_19 (by rw [iI_toInt (by omega)]; omega) (by rw [iI_toInt (by omega)]; omega) (by rw [iI_toInt (by omega), c7]; rfl) (by decide) ?_
    refine lv_aload_n F.1 F.2.1 dX9_count_83 rfl (lv_at hl 0 rfl) ?_
    refine gf_RX9_7 F hW ho4 rfl dX9_count_84 ?_
    refine h_iconst F dX9_count_87 ?_
    refine h_iald F hW hs (by omega) (by omega) dX9_count_88 ?_
    refine h_top (show (σ 5 : Int) = cntQ σ (v 5) wh from by unfold cntQ; (repeat first | rw [if_pos (by omega)] | rw [if_neg (by omega)]) <;> first | rfl | (rw [show k = σ 5 by omega]) | (rw [show wh = 0 by omega]) | (rw [show wh = 1 by omega])) ?_
    exact h_ireti F hr hlk hW hS ⟨ho4, (fun q h09 => by rw [hn5 q (by omega)])⟩ dX9_count_89
  · refine lv_tableIn (off := 71) (tgt := 90) F.1 F.2.1 dX9_count_19 (by rw [iI_toInt (by omega)]; omega) (by rw [iI_toInt (by omega)]; omega) (by rw [iI_toInt (by omega), c7]; rfl) (by decide) ?_
    refine lv_aload_n F.1 F.2.1 dX9_count_90 rfl (lv_at hl 0 rfl) ?_
    refine gf_RX9_7 F hW ho4 rfl dX9_count_91 ?_
    refine h_iconst F dX9_count_94 ?_
    refine h_iald F hW hs (by omega) (by omega) dX9_count_95 ?_
    refine h_top (show (σ 2 : Int) = cntQ σ (v 5) wh from by unfold cntQ; (repeat first | rw [if_pos (by omega)] | rw [if_neg (by omega)]) <;> first | rfl | (rw [show k = σ 5 by omega]) | (rw [show wh = 0 by omega]) | (rw [show wh = 1 by omega])) ?_
    exact h_ireti F hr hlk hW hS ⟨ho4, (fun q h09 => by rw [hn5 q (by omega)])⟩ dX9_count_96
  · refine lv_tableIn (off := 78) (tgt := 97) F.1 F.2.1 dX9_count_19 (by rw [iI_toInt (by omega)]; omega) (by rw [iI_toInt (by omega)]; omega) (by rw [iI_toInt (by omega), c7]; rfl) (by decide) ?_
    refine lv_aload_n F.1 F.2.1 dX9_count_97 rfl (lv_at hl 0 rfl) ?_
    refine gf_RX9_7 F hW ho4 rfl dX9_count_98 ?_
    refine h_iconst F dX9_count_101 ?_
    refine h_iald F hW hs (by omega) (by omega) dX9_count_102 ?_
    refine h_top (show (σ 3 : Int) = cntQ σ (v 5) wh from by unfold cntQ; (repeat first | rw [if_pos (by omega)] | rw [if_neg (by omega)]) <;> first | rfl | (rw [show k = σ 5 by omega]) | (rw [show wh = 0 by omega]) | (rw [show wh = 1 by omega])) ?_
    exact h_ireti F hr hlk hW hS ⟨ho4, (fun q h09 => by rw [hn5 q (by omega)])⟩ dX9_count_103
  · refine lv_tableIn (off := 85) (tgt := 104) F.1 F.2.1 dX9_count_19 (by rw [iI_toInt (by omega)]; omega) (by rw [iI_toInt (by omega)]; omega) (by rw [iI_toInt (by omega), c7]; rfl) (by decide) ?_
    refine h_iconst F dX9_count_104 ?_
    refine lv_istore_n (lv' := [(2, .int (iI 0)), (0, .ref mo), (1, .int (iI wh))]) F.1 F.2.1 dX9_count_105 rfl hl (by decide) rfl (fun ls hl => ?_)
    refine h_iconst F dX9_count_106 ?_
    refine lv_istore_n (lv' := [(3, .int (iI 0)), (2, .int (iI 0)), (0, .ref mo), (1, .int (iI wh))]) F.1 F.2.1 dX9_count_107 rfl hl (by decide) rfl (fun ls hl => ?_)
    have loop108 : ∀ (n9 : Nat) (k : Int), (hrg : 0 ≤ k ∧ k ≤ σ 5) → (hms : σ 5 - k < (n9 : Int)) → (H : Heap) → (locs : List Loc) → (ls : Array Slot) → Wd X w2 s H → va_S (cxA X) s.heap H locs → lv_has ls 4 [(2, .int (iI (sm (fun z => cp σ z 0) 0 k))), (3, .int (iI k)), (0, .ref mo), (1, .int (iI wh))] → W p l e (rmk 3 65) s m (List.toArray [.ref mo, .int (iI wh)]) below meth c H locs 0 0 (MX X below (List.toArray [.ref mo, .int (iI wh)]) s 0 0 (some (.int (iI (cntQ σ (v 5) wh)))) (fun w' => w' mo = some (.inr (9, mL mo (up v 6 0))) ∧ ∀ q : Nat, q ≠ mo → w' q = w q)) (F0 m 108 ls []) := by
      intro n9
      induction n9 with
      | zero => intro k  hrg hms; exfalso; omega
      | succ n9 ih108 =>
        intro k  hrg hms   H locs ls hW hS hl
        refine lv_iload_n F.1 F.2.1 dX9_count_108 rfl (lv_at hl 1 rfl) ?_
        refine lv_aload_n F.1 F.2.1 dX9_count_109 rfl (lv_at hl 2 rfl) ?_
        refine gf_RX9_7 F hW ho4 rfl dX9_count_110 ?_
        refine h_iconst F dX9_count_113 ?_
        refine h_iald F hW hs (by omega) (by omega) dX9_count_114 ?_
        refine h_icge (tgt := 133) F dX9_count_115 (by decide) (by omega) (fun c9 => ?_) (fun c9 => ?_)
        · refine lv_iload_n F.1 F.2.1 dX9_count_133 rfl (lv_at hl 0 rfl) ?_
          refine h_top (show (sm (fun z => cp σ z 0) 0 k : Int) = cntQ σ (v 5) wh from by unfold cntQ; (repeat first | rw [if_pos (by omega)] | rw [if_neg (by omega)]) <;> first | rfl | (rw [show k = σ 5 by omega]) | (rw [show wh = 0 by omega]) | (rw [show wh = 1 by omega])) ?_
          exact h_ireti F hr hlk hW hS ⟨ho4, (fun q h09 => by rw [hn5 q (by omega)])⟩ dX9_count_134
        · refine lv_iload_n F.1 F.2.1 dX9_count_118 rfl (lv_at hl 0 rfl) ?_
          refine lv_aload_n F.1 F.2.1 dX9_count_119 rfl (lv_at hl 2 rfl) ?_
          refine lv_iload_n F.1 F.2.1 dX9_count_120 rfl (lv_at hl 1 rfl) ?_
          refine h_iconst F dX9_count_121 ?_
          refine cl_RX9_95 (As := [.int (iI k), .int (iI 0)]) (rest := [.int (iI (sm (fun z => cp σ z 0) 0 k))]) F hl (c_X9_cap l X w2 mo (up v 6 0) σ k 0 ho4 hs hwf (by omega)) hW hS ho4 rfl rfl ⟨Nat.le_of_ble_eq_true rfl, Nat.le_of_ble_eq_true rfl⟩ (Nat.le_of_ble_eq_true rfl) ⟨Nat.zero_le _, Nat.zero_le _⟩ dX9_count_122 (fun w1 H locs hp10 hW hS => ?_)
          rw [hp10] at hW; clear hp10; clear w1
          refine h_iadd (a := sm (fun z => cp σ z 0) 0 k) (b := cp σ k 0) F dX9_count_125 ?_
          refine lv_istore_n (lv' := [(2, .int (iI ((sm (fun z => cp σ z 0) 0 k) + (cp σ k 0)))), (3, .int (iI k)), (0, .ref mo), (1, .int (iI wh))]) F.1 F.2.1 dX9_count_126 rfl hl (by decide) rfl (fun ls hl => ?_)
          refine h_iinc (k := 1) (a := k) (lv' := [(3, .int (iI (k + 1))), (2, .int (iI ((sm (fun z => cp σ z 0) 0 k) + (cp σ k 0)))), (0, .ref mo), (1, .int (iI wh))]) F dX9_count_127 hl rfl (by decide) rfl (fun ls hl => ?_)
          refine h_goto (tgt := 108) F dX9_count_130 (by decide) ?_
          have eq11 : (sm (fun z => cp σ z 0) 0 (k + 1) : Int) = (sm (fun z => cp σ z 0) 0 k) + (cp σ k 0) := sm_s _ (by omega)
          have eq12 : ((k + 1) : Int) = k + 1 := by first | rfl | omega | simp
          exact ih108 (k + 1)  (by omega) (by omega)   _ _ ls hW hS (by rw [eq11, eq12]; exact lv_sub hl [1, 0, 2, 3] rfl)
    have eq13 : (sm (fun z => cp σ z 0) 0 0 : Int) = 0 := sm_0 _ _
    exact loop108 ((σ 5 - 0) + 1 : Int).toNat 0  (by omega) (by omega)   _ _ ls hW hS (by rw [eq13]; exact lv_sub hl [1, 0, 2, 3] rfl)
  · refine lv_tableOut (tgt := 135) F.1 F.2.1 dX9_count_19 (by rw [iI_toInt (by omega)]; exact c7) (by decide) ?_
    refine lv_aload_n F.1 F.2.1 dX9_count_135 rfl (lv_at hl 0 rfl) ?_
    refine gf_RX9_61 F hW ho4 rfl dX9_count_136 ?_
    refine h_top (show ((up v 6 0) 5 : Int) = v 5 from rfl) ?_
    refine h_top (show (v 5 : Int) = cntQ σ (v 5) wh from by unfold cntQ; (repeat first | rw [if_pos (by omega)] | rw [if_neg (by omega)]) <;> first | rfl | (rw [show k = σ 5 by omega]) | (rw [show wh = 0 by omega]) | (rw [show wh = 1 by omega])) ?_
    exact h_ireti F hr hlk hW hS ⟨ho4, (fun q h09 => by rw [hn5 q (by omega)])⟩ dX9_count_139
set_option maxHeartbeats 4000000 in
set_option maxRecDepth 100000 in
theorem c_X9_count_x (l : Launch) (X : Cx) (w : Wo) (mo : Nat) (v σ : Int → Int) (wh : Int) (hM : w mo = some (.inr (9, mL mo v))) (hs : w (mo + 1) = some (aZ X 1317 σ)) (hwf : WF σ) (hwh : -2147483648 ≤ wh ∧ wh < 2147483648) (hbad : ¬ (0 ≤ wh ∧ wh ≤ 8)) : CM l X yX9_count cX9_count 4 (some (.int)) (rmk 3 65) [.ref mo, .int (iI wh)] w (some (.int (iI 0))) (fun w' => w' mo = some (.inr (9, mL mo (up v 6 1))) ∧ ∀ q : Nat, q ≠ mo → w' q = w q) := by
  refine CM.of (lv := [(0, .ref mo), (1, .int (iI wh))]) (by decide) (Nat.le_of_ble_eq_true rfl) rfl (fun p e s m below meth c ls F hr hlk hin hW hS hl => ?_)
  have hZ0 := hW.2.2
  have hB9 := hW.1.2
  clear hin
  have hF := hwf.1
  unfold WF0 at hF
  refine lv_aload_n F.1 F.2.1 dX9_count_0 rfl (lv_at hl 0 rfl) ?_
  refine lv_iload_n F.1 F.2.1 dX9_count_1 rfl (lv_at hl 1 rfl) ?_
  refine h_i2l F dX9_count_2 (by omega) ?_
  refine h_lconst (n := 0) (z := 0) F dX9_count_3 rfl ?_
  refine h_ldc2 (n := 8) F kk_RX9_183 dX9_count_4 ?_
  refine cl_RX9_82 (As := [.long (lI wh), .long (lI 0), .long (lI 8)]) (rest := [.ref mo]) F hl (c_X9_isIn l X w wh 0 8 (by omega) (by omega) (by omega)) hW hS rfl rfl ⟨Nat.le_of_ble_eq_true rfl, Nat.le_of_ble_eq_true rfl⟩ (Nat.le_of_ble_eq_true rfl) ⟨Nat.zero_le _, Nat.zero_le _⟩ dX9_count_7 (fun w1 H locs hp1 hW hS => ?_)
  rw [hp1] at hW; clear hp1; clear w1
  refine h_top (show (bz (decide (0 ≤ wh ∧ wh ≤ 8)) : Int) = bz false from congrArg bz (decide_eq_false (by omega))) ?_
  refine cl_RX9_74 (As := [.int (iI (bz false))]) (rest := []) F hl (c_pass_f l X w mo v σ hM hs hwf) hW hS hM rfl rfl ⟨Nat.le_of_ble_eq_true rfl, Nat.le_of_ble_eq_true rfl⟩ (Nat.le_of_ble_eq_true rfl) ⟨Nat.zero_le _, Nat.zero_le _⟩ dX9_count_10 (fun w2 H locs hp3 hW hS => ?_)
  obtain ⟨ho4, hn5⟩ := hp3
  have hs := (hn5 _ (by omega)).trans hs
  refine h_ifneb (tgt := 18) F dX9_count_13 (by decide) (fun c9 => absurd c9 (by decide)) (fun _ => ?_)
  refine h_iconst F dX9_count_16 ?_
  exact h_ireti F hr hlk hW hS ⟨ho4, (fun q h09 => by rw [hn5 q (by omega)])⟩ dX9_count_17
set_option maxHeartbeats 4000000 in
set_option maxRecDepth 100000 in
theorem c_X9_joins (l : Launch) (X : Cx) (w : Wo) (mo : Nat) (v σ : Int → Int) (rn : Int) (hM : w mo = some (.inr (9, mL mo v))) (hs : w (mo + 1) = some (aZ X 1317 σ)) (hwf : WF σ) (hrn : 0 ≤ rn ∧ rn ≤ σ 1 - 1) : CM l X yX9_joins cX9_joins 2 (some (.int)) (rmk 3 66) [.ref mo, .int (iI rn)] w (some (.int (iI (if rn < σ 4 then cnt (fun z => decide (cellS σ z rn ≠ cellS σ (z + 1) rn)) 0 (σ 0 - 1) else -1)))) (fun w' => w' mo = some (.inr (9, mL mo (up v 6 0))) ∧ ∀ q : Nat, q ≠ mo → w' q = w q) := by
  refine CM.of (lv := [(0, .ref mo), (1, .int (iI rn))]) (by decide) (Nat.le_of_ble_eq_true rfl) rfl (fun p e s m below meth c ls F hr hlk hin hW hS hl => ?_)
  have hZ0 := hW.2.2
  have hB9 := hW.1.2
  clear hin
  have hF := hwf.1
  unfold WF0 at hF
  refine lv_aload_n F.1 F.2.1 dX9_joins_0 rfl (lv_at hl 0 rfl) ?_
  refine lv_aload_n F.1 F.2.1 dX9_joins_1 rfl (lv_at hl 0 rfl) ?_
  refine lv_iload_n F.1 F.2.1 dX9_joins_2 rfl (lv_at hl 1 rfl) ?_
  refine cl_RX9_189 (As := [.int (iI rn)]) (rest := [.ref mo]) F hl (c_X9_isRow l X w mo v σ rn hM hs hwf (by omega)) hW hS hM rfl rfl ⟨Nat.le_of_ble_eq_true rfl, Nat.le_of_ble_eq_true rfl⟩ (Nat.le_of_ble_eq_true rfl) ⟨Nat.zero_le _, Nat.zero_le _⟩ dX9_joins_3 (fun w1 H locs hp1 hW hS => ?_)
  rw [hp1] at hW; clear hp1; clear w1
  refine h_top (show (bz (decide (0 ≤ rn ∧ rn ≤ σ 1 - 1)) : Int) = bz true from congrArg bz (decide_eq_true (by omega))) ?_
  refine cl_RX9_74 (As := [.int (iI (bz true))]) (rest := []) F hl (c_pass_t l X w mo v σ hM hs hwf) hW hS hM rfl rfl ⟨Nat.le_of_ble_eq_true rfl, Nat.le_of_ble_eq_true rfl⟩ (Nat.le_of_ble_eq_true rfl) ⟨Nat.zero_le _, Nat.zero_le _⟩ dX9_joins_6 (fun w2 H locs hp3 hW hS => ?_)
  obtain ⟨ho4, hn5⟩ := hp3
  have hs := (hn5 _ (by omega)).trans hs
  refine h_ifneb (tgt := 14) F dX9_joins_9 (by decide) (fun _ => ?_) (fun c9 => absurd c9 (by decide))
  refine lv_iload_n F.1 F.2.1 dX9_joins_14 rfl (lv_at hl 1 rfl) ?_
  refine lv_aload_n F.1 F.2.1 dX9_joins_15 rfl (lv_at hl 0 rfl) ?_
  refine gf_RX9_7 F hW ho4 rfl dX9_joins_16 ?_
  refine h_iconst F dX9_joins_19 ?_
  refine h_iald F hW hs (by omega) (by omega) dX9_joins_20 ?_
  refine h_icge (tgt := 32) F dX9_joins_21 (by decide) (by omega) (fun c7 => ?_) (fun c7 => ?_)
  · refine h_iconst F dX9_joins_32 ?_
    refine h_top (show ((-1) : Int) = (if rn < σ 4 then cnt (fun z => decide (cellS σ z rn ≠ cellS σ (z + 1) rn)) 0 (σ 0 - 1) else -1) from by split <;> first | rfl | omega) ?_
    exact h_ireti F hr hlk hW hS ⟨ho4, (fun q h09 => by rw [hn5 q (by omega)])⟩ dX9_joins_33
  · refine lv_aload_n F.1 F.2.1 dX9_joins_24 rfl (lv_at hl 0 rfl) ?_
    refine lv_iload_n F.1 F.2.1 dX9_joins_25 rfl (lv_at hl 1 rfl) ?_
    refine cl_RX9_205 (As := [.int (iI rn)]) (rest := []) F hl (c_X9_joinsOf l X w2 mo (up v 6 0) σ rn ho4 hs hwf (by omega)) hW hS ho4 rfl rfl ⟨Nat.le_of_ble_eq_true rfl, Nat.le_of_ble_eq_true rfl⟩ (Nat.le_of_ble_eq_true rfl) ⟨Nat.zero_le _, Nat.zero_le _⟩ dX9_joins_26 (fun w1 H locs hp8 hW hS => ?_)
    rw [hp8] at hW; clear hp8; clear w1
    refine h_goto (tgt := 33) F dX9_joins_29 (by decide) ?_
    refine h_top (show (cnt (fun z => decide (cellS σ z rn ≠ cellS σ (z + 1) rn)) 0 (σ 0 - 1) : Int) = (if rn < σ 4 then cnt (fun z => decide (cellS σ z rn ≠ cellS σ (z + 1) rn)) 0 (σ 0 - 1) else -1) from by split <;> first | rfl | omega) ?_
    exact h_ireti F hr hlk hW hS ⟨ho4, (fun q h09 => by rw [hn5 q (by omega)])⟩ dX9_joins_33
set_option maxHeartbeats 4000000 in
set_option maxRecDepth 100000 in
theorem c_X9_joins_x (l : Launch) (X : Cx) (w : Wo) (mo : Nat) (v σ : Int → Int) (rn : Int) (hM : w mo = some (.inr (9, mL mo v))) (hs : w (mo + 1) = some (aZ X 1317 σ)) (hwf : WF σ) (hrn : -2147483648 ≤ rn ∧ rn < 2147483648) (hbad : ¬ (0 ≤ rn ∧ rn ≤ σ 1 - 1)) : CM l X yX9_joins cX9_joins 2 (some (.int)) (rmk 3 66) [.ref mo, .int (iI rn)] w (some (.int (iI 0))) (fun w' => w' mo = some (.inr (9, mL mo (up v 6 1))) ∧ ∀ q : Nat, q ≠ mo → w' q = w q) := by
  refine CM.of (lv := [(0, .ref mo), (1, .int (iI rn))]) (by decide) (Nat.le_of_ble_eq_true rfl) rfl (fun p e s m below meth c ls F hr hlk hin hW hS hl => ?_)
  have hZ0 := hW.2.2
  have hB9 := hW.1.2
  clear hin
  have hF := hwf.1
  unfold WF0 at hF
  refine lv_aload_n F.1 F.2.1 dX9_joins_0 rfl (lv_at hl 0 rfl) ?_
  refine lv_aload_n F.1 F.2.1 dX9_joins_1 rfl (lv_at hl 0 rfl) ?_
  refine lv_iload_n F.1 F.2.1 dX9_joins_2 rfl (lv_at hl 1 rfl) ?_
  refine cl_RX9_189 (As := [.int (iI rn)]) (rest := [.ref mo]) F hl (c_X9_isRow l X w mo v σ rn hM hs hwf (by omega)) hW hS hM rfl rfl ⟨Nat.le_of_ble_eq_true rfl, Nat.le_of_ble_eq_true rfl⟩ (Nat.le_of_ble_eq_true rfl) ⟨Nat.zero_le _, Nat.zero_le _⟩ dX9_joins_3 (fun w1 H locs hp1 hW hS => ?_)
  rw [hp1] at hW; clear hp1; clear w1
  refine h_top (show (bz (decide (0 ≤ rn ∧ rn ≤ σ 1 - 1)) : Int) = bz false from congrArg bz (decide_eq_false (by omega))) ?_
  refine cl_RX9_74 (As := [.int (iI (bz false))]) (rest := []) F hl (c_pass_f l X w mo v σ hM hs hwf) hW hS hM rfl rfl ⟨Nat.le_of_ble_eq_true rfl, Nat.le_of_ble_eq_true rfl⟩ (Nat.le_of_ble_eq_true rfl) ⟨Nat.zero_le _, Nat.zero_le _⟩ dX9_joins_6 (fun w2 H locs hp3 hW hS => ?_)
  obtain ⟨ho4, hn5⟩ := hp3
  have hs := (hn5 _ (by omega)).trans hs
  refine h_ifneb (tgt := 14) F dX9_joins_9 (by decide) (fun c9 => absurd c9 (by decide)) (fun _ => ?_)
  refine h_iconst F dX9_joins_12 ?_
  exact h_ireti F hr hlk hW hS ⟨ho4, (fun q h09 => by rw [hn5 q (by omega)])⟩ dX9_joins_13
set_option maxHeartbeats 4000000 in
set_option maxRecDepth 100000 in
theorem c_X9_wouldErr (l : Launch) (X : Cx) (w : Wo) (mo : Nat) (v σ : Int → Int) (rn : Int) (hM : w mo = some (.inr (9, mL mo v))) (hs : w (mo + 1) = some (aZ X 1317 σ)) (hwf : WF σ) (hrn : 0 ≤ rn ∧ rn ≤ σ 1 - 1) : CM l X yX9_wouldErr cX9_wouldErr 4 (some (.int)) (rmk 3 70) [.ref mo, .int (iI rn)] w (some (.int (iI (cnt (fun z => decide (desS σ (turnS σ z) rn ≠ desS σ z rn)) 0 (σ 0))))) (fun w' => w' mo = some (.inr (9, mL mo (up v 6 0))) ∧ ∀ q : Nat, q ≠ mo → w' q = w q) := by
  refine CM.of (lv := [(0, .ref mo), (1, .int (iI rn))]) (by decide) (Nat.le_of_ble_eq_true rfl) rfl (fun p e s m below meth c ls F hr hlk hin hW hS hl => ?_)
  have hZ0 := hW.2.2
  have hB9 := hW.1.2
  clear hin
  have hF := hwf.1
  unfold WF0 at hF
  refine lv_aload_n F.1 F.2.1 dX9_wouldErr_0 rfl (lv_at hl 0 rfl) ?_
  refine lv_aload_n F.1 F.2.1 dX9_wouldErr_1 rfl (lv_at hl 0 rfl) ?_
  refine lv_iload_n F.1 F.2.1 dX9_wouldErr_2 rfl (lv_at hl 1 rfl) ?_
  refine cl_RX9_189 (As := [.int (iI rn)]) (rest := [.ref mo]) F hl (c_X9_isRow l X w mo v σ rn hM hs hwf (by omega)) hW hS hM rfl rfl ⟨Nat.le_of_ble_eq_true rfl, Nat.le_of_ble_eq_true rfl⟩ (Nat.le_of_ble_eq_true rfl) ⟨Nat.zero_le _, Nat.zero_le _⟩ dX9_wouldErr_3 (fun w1 H locs hp1 hW hS => ?_)
  rw [hp1] at hW; clear hp1; clear w1
  refine h_top (show (bz (decide (0 ≤ rn ∧ rn ≤ σ 1 - 1)) : Int) = bz true from congrArg bz (decide_eq_true (by omega))) ?_
  refine cl_RX9_74 (As := [.int (iI (bz true))]) (rest := []) F hl (c_pass_t l X w mo v σ hM hs hwf) hW hS hM rfl rfl ⟨Nat.le_of_ble_eq_true rfl, Nat.le_of_ble_eq_true rfl⟩ (Nat.le_of_ble_eq_true rfl) ⟨Nat.zero_le _, Nat.zero_le _⟩ dX9_wouldErr_6 (fun w2 H locs hp3 hW hS => ?_)
  obtain ⟨ho4, hn5⟩ := hp3
  have hs := (hn5 _ (by omega)).trans hs
  refine h_ifneb (tgt := 14) F dX9_wouldErr_9 (by decide) (fun _ => ?_) (fun c9 => absurd c9 (by decide))
  refine h_iconst F dX9_wouldErr_14 ?_
  refine lv_istore_n (lv' := [(2, .int (iI 0)), (0, .ref mo), (1, .int (iI rn))]) F.1 F.2.1 dX9_wouldErr_15 rfl hl (by decide) rfl (fun ls hl => ?_)
  refine h_iconst F dX9_wouldErr_16 ?_
  refine lv_istore_n (lv' := [(3, .int (iI 0)), (2, .int (iI 0)), (0, .ref mo), (1, .int (iI rn))]) F.1 F.2.1 dX9_wouldErr_17 rfl hl (by decide) rfl (fun ls hl => ?_)
  have loop18 : ∀ (n9 : Nat) (i : Int), (hrg : 0 ≤ i ∧ i ≤ σ 0) → (hms : σ 0 - i < (n9 : Int)) → (H : Heap) → (locs : List Loc) → (ls : Array Slot) → Wd X w2 s H → va_S (cxA X) s.heap H locs → lv_has ls 4 [(2, .int (iI (cnt (fun z => decide (desS σ (turnS σ z) rn ≠ desS σ z rn)) 0 i))), (3, .int (iI i)), (0, .ref mo), (1, .int (iI rn))] → W p l e (rmk 3 70) s m (List.toArray [.ref mo, .int (iI rn)]) below meth c H locs 0 0 (MX X below (List.toArray [.ref mo, .int (iI rn)]) s 0 0 (some (.int (iI (cnt (fun z => decide (desS σ (turnS σ z) rn ≠ desS σ z rn)) 0 (σ 0))))) (fun w' => w' mo = some (.inr (9, mL mo (up v 6 0))) ∧ ∀ q : Nat, q ≠ mo → w' q = w q)) (F0 m 18 ls []) := by
    intro n9
    induction n9 with
    | zero => intro i  hrg hms; exfalso; omega
    | succ n9 ih18 =>
      intro i  hrg hms   H locs ls hW hS hl
      refine lv_iload_n F.1 F.2.1 dX9_wouldErr_18 rfl (lv_at hl 1 rfl) ?_
      refine lv_aload_n F.1 F.2.1 dX9_wouldErr_19 rfl (lv_at hl 2 rfl) ?_
      refine gf_RX9_7 F hW ho4 rfl dX9_wouldErr_20 ?_
      refine h_iconst F dX9_wouldErr_23 ?_
      refine h_iald F hW hs (by omega) (by omega) dX9_wouldErr_24 ?_
      refine h_icge (tgt := 61) F dX9_wouldErr_25 (by decide) (by omega) (fun c7 => ?_) (fun c7 => ?_)
      · refine lv_iload_n F.1 F.2.1 dX9_wouldErr_61 rfl (lv_at hl 0 rfl) ?_
        refine h_top (show (cnt (fun z => decide (desS σ (turnS σ z) rn ≠ desS σ z rn)) 0 i : Int) = cnt (fun z => decide (desS σ (turnS σ z) rn ≠ desS σ z rn)) 0 (σ 0) from by rw [show i = σ 0 by omega]) ?_
        exact h_ireti F hr hlk hW hS ⟨ho4, (fun q h09 => by rw [hn5 q (by omega)])⟩ dX9_wouldErr_62
      · have htt : 0 ≤ turnS σ i ∧ turnS σ i < σ 0 := by unfold turnS; omega
        have hd1 := desS_r hwf (turnS σ i) rn
        have hd2 := desS_r hwf i rn
        refine lv_iload_n F.1 F.2.1 dX9_wouldErr_28 rfl (lv_at hl 0 rfl) ?_
        refine lv_aload_n F.1 F.2.1 dX9_wouldErr_29 rfl (lv_at hl 2 rfl) ?_
        refine lv_aload_n F.1 F.2.1 dX9_wouldErr_30 rfl (lv_at hl 2 rfl) ?_
        refine lv_iload_n F.1 F.2.1 dX9_wouldErr_31 rfl (lv_at hl 1 rfl) ?_
        refine cl_RX9_102 (As := [.int (iI i)]) (rest := [.ref mo, .int (iI (cnt (fun z => decide (desS σ (turnS σ z) rn ≠ desS σ z rn)) 0 i))]) F hl (c_X9_turned l X w2 mo (up v 6 0) σ i ho4 hs hwf) hW hS ho4 rfl rfl ⟨Nat.le_of_ble_eq_true rfl, Nat.le_of_ble_eq_true rfl⟩ (Nat.le_of_ble_eq_true rfl) ⟨Nat.zero_le _, Nat.zero_le _⟩ dX9_wouldErr_32 (fun w1 H locs hp8 hW hS => ?_)
        rw [hp8] at hW; clear hp8; clear w1
        refine lv_iload_n F.1 F.2.1 dX9_wouldErr_35 rfl (lv_at hl 3 rfl) ?_
        refine cl_RX9_116 (As := [.int (iI (turnS σ i)), .int (iI rn)]) (rest := [.int (iI (cnt (fun z => decide (desS σ (turnS σ z) rn ≠ desS σ z rn)) 0 i))]) F hl (c_X9_designOf l X w2 mo (up v 6 0) σ (turnS σ i) rn ho4 hs hwf (by omega)) hW hS ho4 rfl rfl ⟨Nat.le_of_ble_eq_true rfl, Nat.le_of_ble_eq_true rfl⟩ (Nat.le_of_ble_eq_true rfl) ⟨Nat.zero_le _, Nat.zero_le _⟩ dX9_wouldErr_36 (fun w1 H locs hp9 hW hS => ?_)
        rw [hp9] at hW; clear hp9; clear w1
        refine lv_aload_n F.1 F.2.1 dX9_wouldErr_39 rfl (lv_at hl 2 rfl) ?_
        refine lv_iload_n F.1 F.2.1 dX9_wouldErr_40 rfl (lv_at hl 1 rfl) ?_
        refine lv_iload_n F.1 F.2.1 dX9_wouldErr_41 rfl (lv_at hl 3 rfl) ?_
        refine cl_RX9_116 (As := [.int (iI i), .int (iI rn)]) (rest := [.int (iI (desS σ (turnS σ i) rn)), .int (iI (cnt (fun z => decide (desS σ (turnS σ z) rn ≠ desS σ z rn)) 0 i))]) F hl (c_X9_designOf l X w2 mo (up v 6 0) σ i rn ho4 hs hwf (by omega)) hW hS ho4 rfl rfl ⟨Nat.le_of_ble_eq_true rfl, Nat.le_of_ble_eq_true rfl⟩ (Nat.le_of_ble_eq_true rfl) ⟨Nat.zero_le _, Nat.zero_le _⟩ dX9_wouldErr_42 (fun w1 H locs hp10 hW hS => ?_)
        rw [hp10] at hW; clear hp10; clear w1
        refine h_icne (tgt := 52) F dX9_wouldErr_45 (by decide) (by omega) (fun c11 => ?_) (fun c11 => ?_)
        · refine h_iconst F dX9_wouldErr_52 ?_
          refine h_iadd (a := cnt (fun z => decide (desS σ (turnS σ z) rn ≠ desS σ z rn)) 0 i) (b := 1) F dX9_wouldErr_53 ?_
          refine lv_istore_n (lv' := [(2, .int (iI ((cnt (fun z => decide (desS σ (turnS σ z) rn ≠ desS σ z rn)) 0 i) + 1))), (3, .int (iI i)), (0, .ref mo), (1, .int (iI rn))]) F.1 F.2.1 dX9_wouldErr_54 rfl hl (by decide) rfl (fun ls hl => ?_)
          refine h_iinc (k := 1) (a := i) (lv' := [(3, .int (iI (i + 1))), (2, .int (iI ((cnt (fun z => decide (desS σ (turnS σ z) rn ≠ desS σ z rn)) 0 i) + 1))), (0, .ref mo), (1, .int (iI rn))]) F dX9_wouldErr_55 hl rfl (by decide) rfl (fun ls hl => ?_)
          refine h_goto (tgt := 18) F dX9_wouldErr_58 (by decide) ?_
          have eq12 : (cnt (fun z => decide (desS σ (turnS σ z) rn ≠ desS σ z rn)) 0 (i + 1) : Int) = (cnt (fun z => decide (desS σ (turnS σ z) rn ≠ desS σ z rn)) 0 i) + 1 := by first | rw [cnt_t (by omega) (decide_eq_true (by omega))] | (rw [cnt_f (by omega) (decide_eq_false (by omega))]; omega)
          have eq13 : ((i + 1) : Int) = i + 1 := by first | rfl | omega | simp
          exact ih18 (i + 1)  (by omega) (by omega)   _ _ ls hW hS (by rw [eq12, eq13]; exact lv_sub hl [1, 0, 2, 3] rfl)
        · refine h_iconst F dX9_wouldErr_48 ?_
          refine h_goto (tgt := 53) F dX9_wouldErr_49 (by decide) ?_
          refine h_iadd (a := cnt (fun z => decide (desS σ (turnS σ z) rn ≠ desS σ z rn)) 0 i) (b := 0) F dX9_wouldErr_53 ?_
          refine lv_istore_n (lv' := [(2, .int (iI ((cnt (fun z => decide (desS σ (turnS σ z) rn ≠ desS σ z rn)) 0 i) + 0))), (3, .int (iI i)), (0, .ref mo), (1, .int (iI rn))]) F.1 F.2.1 dX9_wouldErr_54 rfl hl (by decide) rfl (fun ls hl => ?_)
          refine h_iinc (k := 1) (a := i) (lv' := [(3, .int (iI (i + 1))), (2, .int (iI ((cnt (fun z => decide (desS σ (turnS σ z) rn ≠ desS σ z rn)) 0 i) + 0))), (0, .ref mo), (1, .int (iI rn))]) F dX9_wouldErr_55 hl rfl (by decide) rfl (fun ls hl => ?_)
          refine h_goto (tgt := 18) F dX9_wouldErr_58 (by decide) ?_
          have eq14 : (cnt (fun z => decide (desS σ (turnS σ z) rn ≠ desS σ z rn)) 0 (i + 1) : Int) = (cnt (fun z => decide (desS σ (turnS σ z) rn ≠ desS σ z rn)) 0 i) + 0 := by first | rw [cnt_t (by omega) (decide_eq_true (by omega))] | (rw [cnt_f (by omega) (decide_eq_false (by omega))]; omega)
          have eq15 : ((i + 1) : Int) = i + 1 := by first | rfl | omega | simp
          exact ih18 (i + 1)  (by omega) (by omega)   _ _ ls hW hS (by rw [eq14, eq15]; exact lv_sub hl [1, 0, 2, 3] rfl)
  have eq16 : (cnt (fun z => decide (desS σ (turnS σ z) rn ≠ desS σ z rn)) 0 0 : Int) = 0 := cnt_0 _ _
  exact loop18 ((σ 0 - 0) + 1 : Int).toNat 0  (by omega) (by omega)   _ _ ls hW hS (by rw [eq16]; exact lv_sub hl [1, 0, 2, 3] rfl)
set_option maxHeartbeats 4000000 in
set_option maxRecDepth 100000 in
theorem c_X9_wouldErr_x (l : Launch) (X : Cx) (w : Wo) (mo : Nat) (v σ : Int → Int) (rn : Int) (hM : w mo = some (.inr (9, mL mo v))) (hs : w (mo + 1) = some (aZ X 1317 σ)) (hwf : WF σ) (hrn : -2147483648 ≤ rn ∧ rn < 2147483648) (hbad : ¬ (0 ≤ rn ∧ rn ≤ σ 1 - 1)) : CM l X yX9_wouldErr cX9_wouldErr 4 (some (.int)) (rmk 3 70) [.ref mo, .int (iI rn)] w (some (.int (iI 0))) (fun w' => w' mo = some (.inr (9, mL mo (up v 6 1))) ∧ ∀ q : Nat, q ≠ mo → w' q = w q) := by
  refine CM.of (lv := [(0, .ref mo), (1, .int (iI rn))]) (by decide) (Nat.le_of_ble_eq_true rfl) rfl (fun p e s m below meth c ls F hr hlk hin hW hS hl => ?_)
  have hZ0 := hW.2.2
  have hB9 := hW.1.2
  clear hin
  have hF := hwf.1
  unfold WF0 at hF
  refine lv_aload_n F.1 F.2.1 dX9_wouldErr_0 rfl (lv_at hl 0 rfl) ?_
  refine lv_aload_n F.1 F.2.1 dX9_wouldErr_1 rfl (lv_at hl 0 rfl) ?_
  refine lv_iload_n F.1 F.2.1 dX9_wouldErr_2 rfl (lv_at hl 1 rfl) ?_
  refine cl_RX9_189 (As := [.int (iI rn)]) (rest := [.ref mo]) F hl (c_X9_isRow l X w mo v σ rn hM hs hwf (by omega)) hW hS hM rfl rfl ⟨Nat.le_of_ble_eq_true rfl, Nat.le_of_ble_eq_true rfl⟩ (Nat.le_of_ble_eq_true rfl) ⟨Nat.zero_le _, Nat.zero_le _⟩ dX9_wouldErr_3 (fun w1 H locs hp1 hW hS => ?_)
  rw [hp1] at hW; clear hp1; clear w1
  refine h_top (show (bz (decide (0 ≤ rn ∧ rn ≤ σ 1 - 1)) : Int) = bz false from congrArg bz (decide_eq_false (by omega))) ?_
  refine cl_RX9_74 (As := [.int (iI (bz false))]) (rest := []) F hl (c_pass_f l X w mo v σ hM hs hwf) hW hS hM rfl rfl ⟨Nat.le_of_ble_eq_true rfl, Nat.le_of_ble_eq_true rfl⟩ (Nat.le_of_ble_eq_true rfl) ⟨Nat.zero_le _, Nat.zero_le _⟩ dX9_wouldErr_6 (fun w2 H locs hp3 hW hS => ?_)
  obtain ⟨ho4, hn5⟩ := hp3
  have hs := (hn5 _ (by omega)).trans hs
  refine h_ifneb (tgt := 14) F dX9_wouldErr_9 (by decide) (fun c9 => absurd c9 (by decide)) (fun _ => ?_)
  refine h_iconst F dX9_wouldErr_12 ?_
  exact h_ireti F hr hlk hW hS ⟨ho4, (fun q h09 => by rw [hn5 q (by omega)])⟩ dX9_wouldErr_13
set_option maxHeartbeats 4000000 in
set_option maxRecDepth 100000 in
theorem c_X9_caption (l : Launch) (X : Cx) (w : Wo) (mo : Nat) (v σ : Int → Int) (k wh : Int) (hM : w mo = some (.inr (9, mL mo v))) (hs : w (mo + 1) = some (aZ X 1317 σ)) (hwf : WF σ) (hk : -2147483648 ≤ k ∧ k < 2147483648) (hw : -2147483648 ≤ wh ∧ wh < 2147483648) (h1 : 0 ≤ k ∧ k ≤ σ 5 - 1) (h2 : 0 ≤ wh ∧ wh ≤ 9) : CM l X yX9_caption cX9_caption 3 (some (.int)) (rmk 5 122) [.ref mo, .int (iI k), .int (iI wh)] w (some (.int (iI (capQ σ k wh)))) (fun w' => w' mo = some (.inr (9, mL mo (up v 6 0))) ∧ ∀ q : Nat, q ≠ mo → w' q = w q) := by
  refine CM.of (lv := [(0, .ref mo), (1, .int (iI k)), (2, .int (iI wh))]) (by decide) (Nat.le_of_ble_eq_true rfl) rfl (fun p e s m below meth c ls F hr hlk hin hW hS hl => ?_)
  have hZ0 := hW.2.2
  have hB9 := hW.1.2
  clear hin
  have hF := hwf.1
  unfold WF0 at hF
  refine lv_aload_n F.1 F.2.1 dX9_caption_0 rfl (lv_at hl 0 rfl) ?_
  refine lv_aload_n F.1 F.2.1 dX9_caption_1 rfl (lv_at hl 0 rfl) ?_
  refine lv_iload_n F.1 F.2.1 dX9_caption_2 rfl (lv_at hl 1 rfl) ?_
  refine cl_RX9_158 (As := [.int (iI k)]) (rest := [.ref mo]) F hl (c_X9_isCaption l X w mo v σ k hM hs hwf (by omega)) hW hS hM rfl rfl ⟨Nat.le_of_ble_eq_true rfl, Nat.le_of_ble_eq_true rfl⟩ (Nat.le_of_ble_eq_true rfl) ⟨Nat.zero_le _, Nat.zero_le _⟩ dX9_caption_3 (fun w1 H locs hp1 hW hS => ?_)
  rw [hp1] at hW; clear hp1; clear w1
  refine h_top (show (bz (decide (0 ≤ k ∧ k ≤ σ 5 - 1)) : Int) = bz true from congrArg bz (decide_eq_true (by omega))) ?_
  refine lv_iload_n F.1 F.2.1 dX9_caption_6 rfl (lv_at hl 2 rfl) ?_
  refine h_i2l F dX9_caption_7 (by omega) ?_
  refine h_lconst (n := 0) (z := 0) F dX9_caption_8 rfl ?_
  refine h_ldc2 (n := 9) F kk_RX9_161 dX9_caption_9 ?_
  refine cl_RX9_82 (As := [.long (lI wh), .long (lI 0), .long (lI 9)]) (rest := [.int (iI (bz true)), .ref mo]) F hl (c_X9_isIn l X w wh 0 9 (by omega) (by omega) (by omega)) hW hS rfl rfl ⟨Nat.le_of_ble_eq_true rfl, Nat.le_of_ble_eq_true rfl⟩ (Nat.le_of_ble_eq_true rfl) ⟨Nat.zero_le _, Nat.zero_le _⟩ dX9_caption_12 (fun w1 H locs hp2 hW hS => ?_)
  rw [hp2] at hW; clear hp2; clear w1
  refine h_top (show (bz (decide (0 ≤ wh ∧ wh ≤ 9)) : Int) = bz true from congrArg bz (decide_eq_true (by omega))) ?_
  refine cl_RX9_163 (As := [.int (iI (bz true)), .int (iI (bz true))]) (rest := []) F hl (c_both_tt l X w mo v σ hM hs hwf) hW hS hM rfl rfl ⟨Nat.le_of_ble_eq_true rfl, Nat.le_of_ble_eq_true rfl⟩ (Nat.le_of_ble_eq_true rfl) ⟨Nat.zero_le _, Nat.zero_le _⟩ dX9_caption_15 (fun w3 H locs hp4 hW hS => ?_)
  obtain ⟨ho5, hn6⟩ := hp4
  have hs := (hn6 _ (by omega)).trans hs
  refine h_ifneb (tgt := 23) F dX9_caption_18 (by decide) (fun _ => ?_) (fun c9 => absurd c9 (by decide))
  obtain ⟨m1, m2, m3, m4, m5, m6⟩ := hwf.2.2.1 k (by omega) (by omega)
  refine lv_iload_n F.1 F.2.1 dX9_caption_23 rfl (lv_at hl 2 rfl) ?_
  rcases (show wh = 5 ∨ wh = 6 ∨ wh = 7 ∨ wh = 8 ∨ wh = 9 ∨ (wh < 5 ∨ 9 < wh) by omega) with c8 | c8 | c8 | c8 | c8 | c8
  · refine lv_tableIn (off := 36) (tgt := 60) F.1 F.2.1 dX9_caption_24 (by rw [iI_toInt (by omega)]; omega) (by rw [iI_toInt (by omega)]; omega) (by rw [iI_toInt (by omega), c8]; rfl) (by decide) ?_
    refine h_iconst F dX9_caption_60 ?_
    refine h_iconst F dX9_caption_61 ?_
    refine lv_aload_n F.1 F.2.1 dX9_caption_62 rfl (lv_at hl 0 rfl) ?_
    refine gf_RX9_7 F hW ho5 rfl dX9_caption_63 ?_
    refine h_iconst F dX9_caption_66 ?_
    refine h_iald F hW hs (by omega) (by omega) dX9_caption_67 ?_
    refine lv_aload_n F.1 F.2.1 dX9_caption_68 rfl (lv_at hl 0 rfl) ?_
    refine lv_iload_n F.1 F.2.1 dX9_caption_69 rfl (lv_at hl 1 rfl) ?_
    refine h_iconst F dX9_caption_70 ?_
    refine cl_RX9_95 (As := [.int (iI k), .int (iI 3)]) (rest := [.int (iI (σ 4)), .int (iI 5), .int (iI 0)]) F hl (c_X9_cap l X w3 mo (up v 6 0) σ k 3 ho5 hs hwf (by omega)) hW hS ho5 rfl rfl ⟨Nat.le_of_ble_eq_true rfl, Nat.le_of_ble_eq_true rfl⟩ (Nat.le_of_ble_eq_true rfl) ⟨Nat.zero_le _, Nat.zero_le _⟩ dX9_caption_71 (fun w1 H locs hp9 hW hS => ?_)
    rw [hp9] at hW; clear hp9; clear w1
    refine h_isub (a := σ 4) (b := cp σ k 3) F dX9_caption_74 ?_
    refine h_mmin (index := 167) (a := 5) (b := (σ 4) - (cp σ k 3)) F hl km_RX9_167 (Nat.le_of_ble_eq_true rfl) (Nat.le_of_ble_eq_true rfl) (Nat.zero_le _) (Nat.zero_le _) (by omega) dX9_caption_75 ?_
    refine h_mmax (index := 172) (a := 0) (b := min 5 ((σ 4) - (cp σ k 3))) F hl km_RX9_172 (Nat.le_of_ble_eq_true rfl) (Nat.le_of_ble_eq_true rfl) (Nat.zero_le _) (Nat.zero_le _) (by omega) dX9_caption_78 ?_
    refine h_top (show (max 0 (min 5 ((σ 4) - (cp σ k 3))) : Int) = capQ σ k wh from by unfold capQ; (repeat first | rw [if_pos (by omega)] | rw [if_neg (by omega)]) <;> first | rfl | (rw [show wh = 0 by omega]) | (rw [show wh = 1 by omega]) | (rw [show wh = 2 by omega]) | (rw [show wh = 3 by omega]) | (rw [show wh = 4 by omega])) ?_
    exact h_ireti F hr hlk hW hS ⟨ho5, (fun q h09 => by rw [hn6 q (by omega)])⟩ dX9_caption_81
  · refine lv_tableIn (off := 58) (tgt := 82) F.1 F.2.1 dX9_caption_24 (by rw [iI_toInt (by omega)]; omega) (by rw [iI_toInt (by omega)]; omega) (by rw [iI_toInt (by omega), c8]; rfl) (by decide) ?_
    refine lv_aload_n F.1 F.2.1 dX9_caption_82 rfl (lv_at hl 0 rfl) ?_
    refine lv_iload_n F.1 F.2.1 dX9_caption_83 rfl (lv_at hl 1 rfl) ?_
    refine lv_iload_n F.1 F.2.1 dX9_caption_84 rfl (lv_at hl 2 rfl) ?_
    refine h_bipush F dX9_caption_85 rfl ?_
    refine h_isub (a := wh) (b := 6) F dX9_caption_87 ?_
    refine h_top (show (wh - 6 : Int) = 0 from by omega) ?_
    refine cl_RX9_175 (As := [.int (iI k), .int (iI 0)]) (rest := []) F hl (c_that_r l X w3 mo (up v 6 0) σ k ho5 hs hwf (by omega)) hW hS ho5 rfl rfl ⟨Nat.le_of_ble_eq_true rfl, Nat.le_of_ble_eq_true rfl⟩ (Nat.le_of_ble_eq_true rfl) ⟨Nat.zero_le _, Nat.zero_le _⟩ dX9_caption_88 (fun w1 H locs hp10 hW hS => ?_)
    rw [hp10] at hW; clear hp10; clear w1
    refine h_top (show (cnt (fun z => legS σ k && decide (rdS σ k z false = tdS σ k z)) 0 (cp σ k 0) : Int) = capQ σ k wh from by unfold capQ; (repeat first | rw [if_pos (by omega)] | rw [if_neg (by omega)]) <;> first | rfl | (rw [show wh = 0 by omega]) | (rw [show wh = 1 by omega]) | (rw [show wh = 2 by omega]) | (rw [show wh = 3 by omega]) | (rw [show wh = 4 by omega])) ?_
    exact h_ireti F hr hlk hW hS ⟨ho5, (fun q h09 => by rw [hn6 q (by omega)])⟩ dX9_caption_91
  · refine lv_tableIn (off := 58) (tgt := 82) F.1 F.2.1 dX9_caption_24 (by rw [iI_toInt (by omega)]; omega) (by rw [iI_toInt (by omega)]; omega) (by rw [iI_toInt (by omega), c8]; rfl) (by decide) ?_
    refine lv_aload_n F.1 F.2.1 dX9_caption_82 rfl (lv_at hl 0 rfl) ?_
    refine lv_iload_n F.1 F.2.1 dX9_caption_83 rfl (lv_at hl 1 rfl) ?_
    refine lv_iload_n F.1 F.2.1 dX9_caption_84 rfl (lv_at hl 2 rfl) ?_
    refine h_bipush F dX9_caption_85 rfl ?_
    refine h_isub (a := wh) (b := 6) F dX9_caption_87 ?_
    refine h_top (show (wh - 6 : Int) = 1 from by omega) ?_
    refine cl_RX9_175 (As := [.int (iI k), .int (iI 1)]) (rest := []) F hl (c_that_t l X w3 mo (up v 6 0) σ k ho5 hs hwf (by omega)) hW hS ho5 rfl rfl ⟨Nat.le_of_ble_eq_true rfl, Nat.le_of_ble_eq_true rfl⟩ (Nat.le_of_ble_eq_true rfl) ⟨Nat.zero_le _, Nat.zero_le _⟩ dX9_caption_88 (fun w1 H locs hp11 hW hS => ?_)
    rw [hp11] at hW; clear hp11; clear w1
    refine h_top (show (cnt (fun z => legS σ k && decide (rdS σ k z true = tdS σ k z)) 0 (cp σ k 0) : Int) = capQ σ k wh from by unfold capQ; (repeat first | rw [if_pos (by omega)] | rw [if_neg (by omega)]) <;> first | rfl | (rw [show wh = 0 by omega]) | (rw [show wh = 1 by omega]) | (rw [show wh = 2 by omega]) | (rw [show wh = 3 by omega]) | (rw [show wh = 4 by omega])) ?_
    exact h_ireti F hr hlk hW hS ⟨ho5, (fun q h09 => by rw [hn6 q (by omega)])⟩ dX9_caption_91
  · refine lv_tableIn (off := 58) (tgt := 82) F.1 F.2.1 dX9_caption_24 (by rw [iI_toInt (by omega)]; omega) (by rw [iI_toInt (by omega)]; omega) (by rw [iI_toInt (by omega), c8]; rfl) (by decide) ?_
    refine lv_aload_n F.1 F.2.1 dX9_caption_82 rfl (lv_at hl 0 rfl) ?_
    refine lv_iload_n F.1 F.2.1 dX9_caption_83 rfl (lv_at hl 1 rfl) ?_
    refine lv_iload_n F.1 F.2.1 dX9_caption_84 rfl (lv_at hl 2 rfl) ?_
    refine h_bipush F dX9_caption_85 rfl ?_
    refine h_isub (a := wh) (b := 6) F dX9_caption_87 ?_
    refine h_top (show (wh - 6 : Int) = 2 from by omega) ?_
    refine cl_RX9_175 (As := [.int (iI k), .int (iI 2)]) (rest := []) F hl (c_that_g l X w3 mo (up v 6 0) σ k ho5 hs hwf (by omega)) hW hS ho5 rfl rfl ⟨Nat.le_of_ble_eq_true rfl, Nat.le_of_ble_eq_true rfl⟩ (Nat.le_of_ble_eq_true rfl) ⟨Nat.zero_le _, Nat.zero_le _⟩ dX9_caption_88 (fun w1 H locs hp12 hW hS => ?_)
    rw [hp12] at hW; clear hp12; clear w1
    refine h_top (show (cnt (fun z => legS σ k && decide (ltrS (picS σ k z true) = tdS σ k z)) 0 (cp σ k 0) : Int) = capQ σ k wh from by unfold capQ; (repeat first | rw [if_pos (by omega)] | rw [if_neg (by omega)]) <;> first | rfl | (rw [show wh = 0 by omega]) | (rw [show wh = 1 by omega]) | (rw [show wh = 2 by omega]) | (rw [show wh = 3 by omega]) | (rw [show wh = 4 by omega])) ?_
    exact h_ireti F hr hlk hW hS ⟨ho5, (fun q h09 => by rw [hn6 q (by omega)])⟩ dX9_caption_91
  · refine lv_tableIn (off := 68) (tgt := 92) F.1 F.2.1 dX9_caption_24 (by rw [iI_toInt (by omega)]; omega) (by rw [iI_toInt (by omega)]; omega) (by rw [iI_toInt (by omega), c8]; rfl) (by decide) ?_
    refine lv_aload_n F.1 F.2.1 dX9_caption_92 rfl (lv_at hl 0 rfl) ?_
    refine lv_iload_n F.1 F.2.1 dX9_caption_93 rfl (lv_at hl 1 rfl) ?_
    refine cl_RX9_178 (As := [.int (iI k)]) (rest := []) F hl (c_X9_mistakesOf l X w3 mo (up v 6 0) σ k ho5 hs hwf (by omega)) hW hS ho5 rfl rfl ⟨Nat.le_of_ble_eq_true rfl, Nat.le_of_ble_eq_true rfl⟩ (Nat.le_of_ble_eq_true rfl) ⟨Nat.zero_le _, Nat.zero_le _⟩ dX9_caption_94 (fun w1 H locs hp13 hW hS => ?_)
    rw [hp13] at hW; clear hp13; clear w1
    refine h_top (show (sm (fun z => cnt (fun y => misS σ (capCol σ k (cp σ k 2 + z)) (cp σ k 3 + y)) 0 5) 0 (4 * cp σ k 0 - 1) : Int) = capQ σ k wh from by unfold capQ; (repeat first | rw [if_pos (by omega)] | rw [if_neg (by omega)]) <;> first | rfl | (rw [show wh = 0 by omega]) | (rw [show wh = 1 by omega]) | (rw [show wh = 2 by omega]) | (rw [show wh = 3 by omega]) | (rw [show wh = 4 by omega])) ?_
    exact h_ireti F hr hlk hW hS ⟨ho5, (fun q h09 => by rw [hn6 q (by omega)])⟩ dX9_caption_97
  · refine lv_tableOut (tgt := 98) F.1 F.2.1 dX9_caption_24 (by rw [iI_toInt (by omega)]; exact c8) (by decide) ?_
    refine lv_aload_n F.1 F.2.1 dX9_caption_98 rfl (lv_at hl 0 rfl) ?_
    refine lv_iload_n F.1 F.2.1 dX9_caption_99 rfl (lv_at hl 1 rfl) ?_
    refine lv_iload_n F.1 F.2.1 dX9_caption_100 rfl (lv_at hl 2 rfl) ?_
    refine cl_RX9_95 (As := [.int (iI k), .int (iI wh)]) (rest := []) F hl (c_X9_cap l X w3 mo (up v 6 0) σ k wh ho5 hs hwf (by omega)) hW hS ho5 rfl rfl ⟨Nat.le_of_ble_eq_true rfl, Nat.le_of_ble_eq_true rfl⟩ (Nat.le_of_ble_eq_true rfl) ⟨Nat.zero_le _, Nat.zero_le _⟩ dX9_caption_101 (fun w1 H locs hp14 hW hS => ?_)
    rw [hp14] at hW; clear hp14; clear w1
    refine h_top (show (cp σ k wh : Int) = capQ σ k wh from by unfold capQ; (repeat first | rw [if_pos (by omega)] | rw [if_neg (by omega)]) <;> first | rfl | (rw [show wh = 0 by omega]) | (rw [show wh = 1 by omega]) | (rw [show wh = 2 by omega]) | (rw [show wh = 3 by omega]) | (rw [show wh = 4 by omega])) ?_
    exact h_ireti F hr hlk hW hS ⟨ho5, (fun q h09 => by rw [hn6 q (by omega)])⟩ dX9_caption_104
set_option maxHeartbeats 4000000 in
set_option maxRecDepth 100000 in
theorem c_X9_caption_x2 (l : Launch) (X : Cx) (w : Wo) (mo : Nat) (v σ : Int → Int) (k wh : Int) (hM : w mo = some (.inr (9, mL mo v))) (hs : w (mo + 1) = some (aZ X 1317 σ)) (hwf : WF σ) (hk : -2147483648 ≤ k ∧ k < 2147483648) (hw : -2147483648 ≤ wh ∧ wh < 2147483648) (h1 : 0 ≤ k ∧ k ≤ σ 5 - 1) (h2 : ¬ (0 ≤ wh ∧ wh ≤ 9)) : CM l X yX9_caption cX9_caption 3 (some (.int)) (rmk 5 122) [.ref mo, .int (iI k), .int (iI wh)] w (some (.int (iI 0))) (fun w' => w' mo = some (.inr (9, mL mo (up v 6 2))) ∧ ∀ q : Nat, q ≠ mo → w' q = w q) := by
  refine CM.of (lv := [(0, .ref mo), (1, .int (iI k)), (2, .int (iI wh))]) (by decide) (Nat.le_of_ble_eq_true rfl) rfl (fun p e s m below meth c ls F hr hlk hin hW hS hl => ?_)
  have hZ0 := hW.2.2
  have hB9 := hW.1.2
  clear hin
  have hF := hwf.1
  unfold WF0 at hF
  refine lv_aload_n F.1 F.2.1 dX9_caption_0 rfl (lv_at hl 0 rfl) ?_
  refine lv_aload_n F.1 F.2.1 dX9_caption_1 rfl (lv_at hl 0 rfl) ?_
  refine lv_iload_n F.1 F.2.1 dX9_caption_2 rfl (lv_at hl 1 rfl) ?_
  refine cl_RX9_158 (As := [.int (iI k)]) (rest := [.ref mo]) F hl (c_X9_isCaption l X w mo v σ k hM hs hwf (by omega)) hW hS hM rfl rfl ⟨Nat.le_of_ble_eq_true rfl, Nat.le_of_ble_eq_true rfl⟩ (Nat.le_of_ble_eq_true rfl) ⟨Nat.zero_le _, Nat.zero_le _⟩ dX9_caption_3 (fun w1 H locs hp1 hW hS => ?_)
  rw [hp1] at hW; clear hp1; clear w1
  refine h_top (show (bz (decide (0 ≤ k ∧ k ≤ σ 5 - 1)) : Int) = bz true from congrArg bz (decide_eq_true (by omega))) ?_
  refine lv_iload_n F.1 F.2.1 dX9_caption_6 rfl (lv_at hl 2 rfl) ?_
  refine h_i2l F dX9_caption_7 (by omega) ?_
  refine h_lconst (n := 0) (z := 0) F dX9_caption_8 rfl ?_
  refine h_ldc2 (n := 9) F kk_RX9_161 dX9_caption_9 ?_
  refine cl_RX9_82 (As := [.long (lI wh), .long (lI 0), .long (lI 9)]) (rest := [.int (iI (bz true)), .ref mo]) F hl (c_X9_isIn l X w wh 0 9 (by omega) (by omega) (by omega)) hW hS rfl rfl ⟨Nat.le_of_ble_eq_true rfl, Nat.le_of_ble_eq_true rfl⟩ (Nat.le_of_ble_eq_true rfl) ⟨Nat.zero_le _, Nat.zero_le _⟩ dX9_caption_12 (fun w1 H locs hp2 hW hS => ?_)
  rw [hp2] at hW; clear hp2; clear w1
  refine h_top (show (bz (decide (0 ≤ wh ∧ wh ≤ 9)) : Int) = bz false from congrArg bz (decide_eq_false (by omega))) ?_
  refine cl_RX9_163 (As := [.int (iI (bz true)), .int (iI (bz false))]) (rest := []) F hl (c_both_tf l X w mo v σ hM hs hwf) hW hS hM rfl rfl ⟨Nat.le_of_ble_eq_true rfl, Nat.le_of_ble_eq_true rfl⟩ (Nat.le_of_ble_eq_true rfl) ⟨Nat.zero_le _, Nat.zero_le _⟩ dX9_caption_15 (fun w3 H locs hp4 hW hS => ?_)
  obtain ⟨ho5, hn6⟩ := hp4
  have hs := (hn6 _ (by omega)).trans hs
  refine h_ifneb (tgt := 23) F dX9_caption_18 (by decide) (fun c9 => absurd c9 (by decide)) (fun _ => ?_)
  refine h_iconst F dX9_caption_21 ?_
  exact h_ireti F hr hlk hW hS ⟨ho5, (fun q h09 => by rw [hn6 q (by omega)])⟩ dX9_caption_22
set_option maxHeartbeats 4000000 in
set_option maxRecDepth 100000 in
theorem c_X9_caption_x1 (l : Launch) (X : Cx) (w : Wo) (mo : Nat) (v σ : Int → Int) (k wh : Int) (hM : w mo = some (.inr (9, mL mo v))) (hs : w (mo + 1) = some (aZ X 1317 σ)) (hwf : WF σ) (hk : -2147483648 ≤ k ∧ k < 2147483648) (hw : -2147483648 ≤ wh ∧ wh < 2147483648) (h1 : ¬ (0 ≤ k ∧ k ≤ σ 5 - 1)) : CM l X yX9_caption cX9_caption 3 (some (.int)) (rmk 5 122) [.ref mo, .int (iI k), .int (iI wh)] w (some (.int (iI 0))) (fun w' => w' mo = some (.inr (9, mL mo (up v 6 1))) ∧ ∀ q : Nat, q ≠ mo → w' q = w q) := by
  refine CM.of (lv := [(0, .ref mo), (1, .int (iI k)), (2, .int (iI wh))]) (by decide) (Nat.le_of_ble_eq_true rfl) rfl (fun p e s m below meth c ls F hr hlk hin hW hS hl => ?_)
  have hZ0 := hW.2.2
  have hB9 := hW.1.2
  clear hin
  have hF := hwf.1
  unfold WF0 at hF
  refine lv_aload_n F.1 F.2.1 dX9_caption_0 rfl (lv_at hl 0 rfl) ?_
  refine lv_aload_n F.1 F.2.1 dX9_caption_1 rfl (lv_at hl 0 rfl) ?_
  refine lv_iload_n F.1 F.2.1 dX9_caption_2 rfl (lv_at hl 1 rfl) ?_
  refine cl_RX9_158 (As := [.int (iI k)]) (rest := [.ref mo]) F hl (c_X9_isCaption l X w mo v σ k hM hs hwf (by omega)) hW hS hM rfl rfl ⟨Nat.le_of_ble_eq_true rfl, Nat.le_of_ble_eq_true rfl⟩ (Nat.le_of_ble_eq_true rfl) ⟨Nat.zero_le _, Nat.zero_le _⟩ dX9_caption_3 (fun w1 H locs hp1 hW hS => ?_)
  rw [hp1] at hW; clear hp1; clear w1
  refine h_top (show (bz (decide (0 ≤ k ∧ k ≤ σ 5 - 1)) : Int) = bz false from congrArg bz (decide_eq_false (by omega))) ?_
  refine lv_iload_n F.1 F.2.1 dX9_caption_6 rfl (lv_at hl 2 rfl) ?_
  refine h_i2l F dX9_caption_7 (by omega) ?_
  refine h_lconst (n := 0) (z := 0) F dX9_caption_8 rfl ?_
  refine h_ldc2 (n := 9) F kk_RX9_161 dX9_caption_9 ?_
  refine cl_RX9_82 (As := [.long (lI wh), .long (lI 0), .long (lI 9)]) (rest := [.int (iI (bz false)), .ref mo]) F hl (c_X9_isIn l X w wh 0 9 (by omega) (by omega) (by omega)) hW hS rfl rfl ⟨Nat.le_of_ble_eq_true rfl, Nat.le_of_ble_eq_true rfl⟩ (Nat.le_of_ble_eq_true rfl) ⟨Nat.zero_le _, Nat.zero_le _⟩ dX9_caption_12 (fun w1 H locs hp2 hW hS => ?_)
  rw [hp2] at hW; clear hp2; clear w1
  refine cl_RX9_163 (As := [.int (iI (bz false)), .int (iI (bz (decide (0 ≤ wh ∧ wh ≤ 9))))]) (rest := []) F hl (c_both_f l X w mo v σ (decide (0 ≤ wh ∧ wh ≤ 9)) hM hs hwf) hW hS hM rfl rfl ⟨Nat.le_of_ble_eq_true rfl, Nat.le_of_ble_eq_true rfl⟩ (Nat.le_of_ble_eq_true rfl) ⟨Nat.zero_le _, Nat.zero_le _⟩ dX9_caption_15 (fun w3 H locs hp4 hW hS => ?_)
  obtain ⟨ho5, hn6⟩ := hp4
  have hs := (hn6 _ (by omega)).trans hs
  refine h_ifneb (tgt := 23) F dX9_caption_18 (by decide) (fun c9 => absurd c9 (by decide)) (fun _ => ?_)
  refine h_iconst F dX9_caption_21 ?_
  exact h_ireti F hr hlk hW hS ⟨ho5, (fun q h09 => by rw [hn6 q (by omega)])⟩ dX9_caption_22
