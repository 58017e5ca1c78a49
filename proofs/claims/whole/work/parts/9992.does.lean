set_option maxHeartbeats 4000000 in
set_option maxRecDepth 100000 in
theorem c_does_p0 (l : Launch) (X : Cx) (w : Wo) (mo : Nat) (v σ pa rf tk sc : Int → Int) (ix : Int) (hM : w mo = some (.inr (9, mL mo v))) (hs : w (mo + 1) = some (aZ X 1317 σ)) (hwf : WF σ) (hpa : w (mo + 3) = some (aZ X 10536 pa)) (hun : 0 ≤ v 5 ∧ v 5 ≤ 8) (hrf : w (mo + 6) = some (aZ X 8 rf)) (htk : w (mo + 8) = some (aZ X 7 tk)) (hsc : w (mo + 9) = some (aZ X 240 sc)) (hix : 0 ≤ ix ∧ ix + 3 < 240) (hk : sc ix = 0) (hco : 0 ≤ sc (ix + 1) ∧ sc (ix + 1) < 7) (hft : 0 ≤ sc (ix + 2) ∧ sc (ix + 2) ≤ sc (ix + 3) ∧ sc (ix + 3) < σ 0) (hop : σ 4 < σ 1) (hst : sc (ix + 3) - sc (ix + 2) + 1 ≤ σ (6 + sc (ix + 1))) : CM l X yX9_does cX9_does 4 (some (.int)) (rmk 7 199) [.ref mo, .int (iI ix)] w (some (.int (iI (σ (6 + sc (ix + 1)) - (sc (ix + 3) - sc (ix + 2) + 1))))) (fun w' => w' mo = some (.inr (9, mL mo (up (up v 5 (min 8 (v 5 + 1))) 8 (v 8 + 1)))) ∧ w' (mo + 1) = some (aZ X 1317 (passN σ (sc (ix + 1)) (sc (ix + 2)) (sc (ix + 3) - sc (ix + 2) + 1).toNat)) ∧ w' (mo + 3) = some (aZ X 10536 (actP (v 5) pa σ)) ∧ ∀ q : Nat, q ≠ mo → q ≠ mo + 1 → q ≠ mo + 3 → w' q = w q) := by
  refine CM.of (lv := [(0, .ref mo), (1, .int (iI ix))]) (by decide) (Nat.le_of_ble_eq_true rfl) rfl (fun p e s m below meth c ls F hr hlk hin hW hS hl => ?_)
  have hZ0 := hW.2.2
  have hB9 := hW.1.2
  clear hin
  refine lv_aload_n F.1 F.2.1 dX9_does_0 rfl (lv_at hl 0 rfl) ?_
  refine gf_RX9_42 F hW hM rfl dX9_does_1 ?_
  refine lv_iload_n F.1 F.2.1 dX9_does_4 rfl (lv_at hl 1 rfl) ?_
  refine h_iconst F dX9_does_5 ?_
  refine h_iadd (a := ix) (b := 1) F dX9_does_6 ?_
  refine h_iald F hW hsc (by omega) (by omega) dX9_does_7 ?_
  refine lv_istore_n (lv' := [(2, .int (iI (sc (ix + 1)))), (0, .ref mo), (1, .int (iI ix))]) F.1 F.2.1 dX9_does_8 rfl hl (by decide) rfl (fun ls hl => ?_)
  refine lv_aload_n F.1 F.2.1 dX9_does_9 rfl (lv_at hl 1 rfl) ?_
  refine gf_RX9_42 F hW hM rfl dX9_does_10 ?_
  refine lv_iload_n F.1 F.2.1 dX9_does_13 rfl (lv_at hl 2 rfl) ?_
  refine h_iconst F dX9_does_14 ?_
  refine h_iadd (a := ix) (b := 2) F dX9_does_15 ?_
  refine h_iald F hW hsc (by omega) (by omega) dX9_does_16 ?_
  refine lv_istore_n (lv' := [(3, .int (iI (sc (ix + 2)))), (2, .int (iI (sc (ix + 1)))), (0, .ref mo), (1, .int (iI ix))]) F.1 F.2.1 dX9_does_17 rfl hl (by decide) rfl (fun ls hl => ?_)
  refine lv_aload_n F.1 F.2.1 dX9_does_18 rfl (lv_at hl 2 rfl) ?_
  refine gf_RX9_42 F hW hM rfl dX9_does_19 ?_
  refine lv_iload_n F.1 F.2.1 dX9_does_22 rfl (lv_at hl 3 rfl) ?_
  refine h_iald F hW hsc (by omega) (by omega) dX9_does_23 ?_
  rcases (show sc ix = 0 by omega) with c1
  · refine lv_tableIn (off := 32) (tgt := 56) F.1 F.2.1 dX9_does_24 (by rw [iI_toInt (by omega)]; omega) (by rw [iI_toInt (by omega)]; omega) (by rw [iI_toInt (by omega), c1]; rfl) (by decide) ?_
    refine lv_aload_n F.1 F.2.1 dX9_does_56 rfl (lv_at hl 2 rfl) ?_
    refine lv_iload_n F.1 F.2.1 dX9_does_57 rfl (lv_at hl 1 rfl) ?_
    refine lv_iload_n F.1 F.2.1 dX9_does_58 rfl (lv_at hl 0 rfl) ?_
    refine lv_aload_n F.1 F.2.1 dX9_does_59 rfl (lv_at hl 2 rfl) ?_
    refine gf_RX9_42 F hW hM rfl dX9_does_60 ?_
    refine lv_iload_n F.1 F.2.1 dX9_does_63 rfl (lv_at hl 3 rfl) ?_
    refine h_iconst F dX9_does_64 ?_
    refine h_iadd (a := ix) (b := 3) F dX9_does_65 ?_
    refine h_iald F hW hsc (by omega) (by omega) dX9_does_66 ?_
    refine cl_RX9_243 (As := [.int (iI (sc (ix + 1))), .int (iI (sc (ix + 2))), .int (iI (sc (ix + 3)))]) (rest := []) F hl (c_X9_passes0 l X w mo v σ pa (sc (ix + 1)) (sc (ix + 2)) (sc (ix + 3)) hM hs hwf hpa (by omega) hco hft hop hst) hW hS hM rfl rfl ⟨Nat.le_of_ble_eq_true rfl, Nat.le_of_ble_eq_true rfl⟩ (Nat.le_of_ble_eq_true rfl) ⟨Nat.zero_le _, Nat.zero_le _⟩ dX9_does_67 (fun w2 H locs hp3 hW hS => ?_)
    obtain ⟨ho4, ha5, ha6, hn7⟩ := hp3
    have hrf := (hn7 _ (by omega) (by omega) (by omega)).trans hrf
    have htk := (hn7 _ (by omega) (by omega) (by omega)).trans htk
    have hsc := (hn7 _ (by omega) (by omega) (by omega)).trans hsc
    refine h_top (show (σ (6 + (sc (ix + 1))) - ((sc (ix + 3)) - (sc (ix + 2)) + 1) : Int) = σ (6 + sc (ix + 1)) - (sc (ix + 3) - sc (ix + 2) + 1) from by first | rfl | omega | (simp_all; done)) ?_
    exact h_ireti F hr hlk hW hS ⟨ho4, (by (rw [ha5]) <;> (rfl)), ha6, (fun q h09 h19 h29 => by rw [hn7 q (by omega) (by omega) (by omega)])⟩ dX9_does_70
set_option maxHeartbeats 4000000 in
set_option maxRecDepth 100000 in
theorem c_does_p1 (l : Launch) (X : Cx) (w : Wo) (mo : Nat) (v σ pa rf tk sc : Int → Int) (ix : Int) (hM : w mo = some (.inr (9, mL mo v))) (hs : w (mo + 1) = some (aZ X 1317 σ)) (hwf : WF σ) (hpa : w (mo + 3) = some (aZ X 10536 pa)) (hun : 0 ≤ v 5 ∧ v 5 ≤ 8) (hrf : w (mo + 6) = some (aZ X 8 rf)) (htk : w (mo + 8) = some (aZ X 7 tk)) (hsc : w (mo + 9) = some (aZ X 240 sc)) (hix : 0 ≤ ix ∧ ix + 3 < 240) (hk : sc ix = 0) (hco : 0 ≤ sc (ix + 1) ∧ sc (ix + 1) < 7) (hft : 0 ≤ sc (ix + 2) ∧ sc (ix + 2) ≤ sc (ix + 3) ∧ sc (ix + 3) < σ 0) (hop : σ 4 = σ 1) : CM l X yX9_does cX9_does 4 (some (.int)) (rmk 7 199) [.ref mo, .int (iI ix)] w (some (.int (iI (-1)))) (fun w' => w' (mo + 6) = some (aZ X 8 (up rf 1 (rf 1 + 1))) ∧ ∀ q : Nat, q ≠ mo + 6 → w' q = w q) := by
  refine CM.of (lv := [(0, .ref mo), (1, .int (iI ix))]) (by decide) (Nat.le_of_ble_eq_true rfl) rfl (fun p e s m below meth c ls F hr hlk hin hW hS hl => ?_)
  have hZ0 := hW.2.2
  have hB9 := hW.1.2
  clear hin
  refine lv_aload_n F.1 F.2.1 dX9_does_0 rfl (lv_at hl 0 rfl) ?_
  refine gf_RX9_42 F hW hM rfl dX9_does_1 ?_
  refine lv_iload_n F.1 F.2.1 dX9_does_4 rfl (lv_at hl 1 rfl) ?_
  refine h_iconst F dX9_does_5 ?_
  refine h_iadd (a := ix) (b := 1) F dX9_does_6 ?_
  refine h_iald F hW hsc (by omega) (by omega) dX9_does_7 ?_
  refine lv_istore_n (lv' := [(2, .int (iI (sc (ix + 1)))), (0, .ref mo), (1, .int (iI ix))]) F.1 F.2.1 dX9_does_8 rfl hl (by decide) rfl (fun ls hl => ?_)
  refine lv_aload_n F.1 F.2.1 dX9_does_9 rfl (lv_at hl 1 rfl) ?_
  refine gf_RX9_42 F hW hM rfl dX9_does_10 ?_
  refine lv_iload_n F.1 F.2.1 dX9_does_13 rfl (lv_at hl 2 rfl) ?_
  refine h_iconst F dX9_does_14 ?_
  refine h_iadd (a := ix) (b := 2) F dX9_does_15 ?_
  refine h_iald F hW hsc (by omega) (by omega) dX9_does_16 ?_
  refine lv_istore_n (lv' := [(3, .int (iI (sc (ix + 2)))), (2, .int (iI (sc (ix + 1)))), (0, .ref mo), (1, .int (iI ix))]) F.1 F.2.1 dX9_does_17 rfl hl (by decide) rfl (fun ls hl => ?_)
  refine lv_aload_n F.1 F.2.1 dX9_does_18 rfl (lv_at hl 2 rfl) ?_
  refine gf_RX9_42 F hW hM rfl dX9_does_19 ?_
  refine lv_iload_n F.1 F.2.1 dX9_does_22 rfl (lv_at hl 3 rfl) ?_
  refine h_iald F hW hsc (by omega) (by omega) dX9_does_23 ?_
  rcases (show sc ix = 0 by omega) with c1
  · refine lv_tableIn (off := 32) (tgt := 56) F.1 F.2.1 dX9_does_24 (by rw [iI_toInt (by omega)]; omega) (by rw [iI_toInt (by omega)]; omega) (by rw [iI_toInt (by omega), c1]; rfl) (by decide) ?_
    refine lv_aload_n F.1 F.2.1 dX9_does_56 rfl (lv_at hl 2 rfl) ?_
    refine lv_iload_n F.1 F.2.1 dX9_does_57 rfl (lv_at hl 1 rfl) ?_
    refine lv_iload_n F.1 F.2.1 dX9_does_58 rfl (lv_at hl 0 rfl) ?_
    refine lv_aload_n F.1 F.2.1 dX9_does_59 rfl (lv_at hl 2 rfl) ?_
    refine gf_RX9_42 F hW hM rfl dX9_does_60 ?_
    refine lv_iload_n F.1 F.2.1 dX9_does_63 rfl (lv_at hl 3 rfl) ?_
    refine h_iconst F dX9_does_64 ?_
    refine h_iadd (a := ix) (b := 3) F dX9_does_65 ?_
    refine h_iald F hW hsc (by omega) (by omega) dX9_does_66 ?_
    refine cl_RX9_243 (As := [.int (iI (sc (ix + 1))), .int (iI (sc (ix + 2))), .int (iI (sc (ix + 3)))]) (rest := []) F hl (c_passes0_r1 l X w mo v σ rf (sc (ix + 1)) (sc (ix + 2)) (sc (ix + 3)) hM hs hwf hrf hco hft hop) hW hS hM rfl rfl ⟨Nat.le_of_ble_eq_true rfl, Nat.le_of_ble_eq_true rfl⟩ (Nat.le_of_ble_eq_true rfl) ⟨Nat.zero_le _, Nat.zero_le _⟩ dX9_does_67 (fun w2 H locs hp3 hW hS => ?_)
    obtain ⟨ha4, hn5⟩ := hp3
    have hM := (hn5 _ (by omega)).trans hM
    have hs := (hn5 _ (by omega)).trans hs
    have hpa := (hn5 _ (by omega)).trans hpa
    have htk := (hn5 _ (by omega)).trans htk
    have hsc := (hn5 _ (by omega)).trans hsc
    exact h_ireti F hr hlk hW hS ⟨ha4, (fun q h09 => by rw [hn5 q (by omega)])⟩ dX9_does_70
set_option maxHeartbeats 4000000 in
set_option maxRecDepth 100000 in
theorem c_does_p2 (l : Launch) (X : Cx) (w : Wo) (mo : Nat) (v σ pa rf tk sc : Int → Int) (ix : Int) (hM : w mo = some (.inr (9, mL mo v))) (hs : w (mo + 1) = some (aZ X 1317 σ)) (hwf : WF σ) (hpa : w (mo + 3) = some (aZ X 10536 pa)) (hun : 0 ≤ v 5 ∧ v 5 ≤ 8) (hrf : w (mo + 6) = some (aZ X 8 rf)) (htk : w (mo + 8) = some (aZ X 7 tk)) (hsc : w (mo + 9) = some (aZ X 240 sc)) (hix : 0 ≤ ix ∧ ix + 3 < 240) (hk : sc ix = 0) (hco : 0 ≤ sc (ix + 1) ∧ sc (ix + 1) < 7) (hft : 0 ≤ sc (ix + 2) ∧ sc (ix + 2) ≤ sc (ix + 3) ∧ sc (ix + 3) < σ 0) (hop : σ 4 < σ 1) (hst : σ (6 + sc (ix + 1)) < sc (ix + 3) - sc (ix + 2) + 1) : CM l X yX9_does cX9_does 4 (some (.int)) (rmk 7 199) [.ref mo, .int (iI ix)] w (some (.int (iI (-2)))) (fun w' => w' (mo + 6) = some (aZ X 8 (up rf 2 (rf 2 + 1))) ∧ ∀ q : Nat, q ≠ mo + 6 → w' q = w q) := by
  refine CM.of (lv := [(0, .ref mo), (1, .int (iI ix))]) (by decide) (Nat.le_of_ble_eq_true rfl) rfl (fun p e s m below meth c ls F hr hlk hin hW hS hl => ?_)
  have hZ0 := hW.2.2
  have hB9 := hW.1.2
  clear hin
  refine lv_aload_n F.1 F.2.1 dX9_does_0 rfl (lv_at hl 0 rfl) ?_
  refine gf_RX9_42 F hW hM rfl dX9_does_1 ?_
  refine lv_iload_n F.1 F.2.1 dX9_does_4 rfl (lv_at hl 1 rfl) ?_
  refine h_iconst F dX9_does_5 ?_
  refine h_iadd (a := ix) (b := 1) F dX9_does_6 ?_
  refine h_iald F hW hsc (by omega) (by omega) dX9_does_7 ?_
  refine lv_istore_n (lv' := [(2, .int (iI (sc (ix + 1)))), (0, .ref mo), (1, .int (iI ix))]) F.1 F.2.1 dX9_does_8 rfl hl (by decide) rfl (fun ls hl => ?_)
  refine lv_aload_n F.1 F.2.1 dX9_does_9 rfl (lv_at hl 1 rfl) ?_
  refine gf_RX9_42 F hW hM rfl dX9_does_10 ?_
  refine lv_iload_n F.1 F.2.1 dX9_does_13 rfl (lv_at hl 2 rfl) ?_
  refine h_iconst F dX9_does_14 ?_
  refine h_iadd (a := ix) (b := 2) F dX9_does_15 ?_
  refine h_iald F hW hsc (by omega) (by omega) dX9_does_16 ?_
  refine lv_istore_n (lv' := [(3, .int (iI (sc (ix + 2)))), (2, .int (iI (sc (ix + 1)))), (0, .ref mo), (1, .int (iI ix))]) F.1 F.2.1 dX9_does_17 rfl hl (by decide) rfl (fun ls hl => ?_)
  refine lv_aload_n F.1 F.2.1 dX9_does_18 rfl (lv_at hl 2 rfl) ?_
  refine gf_RX9_42 F hW hM rfl dX9_does_19 ?_
  refine lv_iload_n F.1 F.2.1 dX9_does_22 rfl (lv_at hl 3 rfl) ?_
  refine h_iald F hW hsc (by omega) (by omega) dX9_does_23 ?_
  rcases (show sc ix = 0 by omega) with c1
  · refine lv_tableIn (off := 32) (tgt := 56) F.1 F.2.1 dX9_does_24 (by rw [iI_toInt (by omega)]; omega) (by rw [iI_toInt (by omega)]; omega) (by rw [iI_toInt (by omega), c1]; rfl) (by decide) ?_
    refine lv_aload_n F.1 F.2.1 dX9_does_56 rfl (lv_at hl 2 rfl) ?_
    refine lv_iload_n F.1 F.2.1 dX9_does_57 rfl (lv_at hl 1 rfl) ?_
    refine lv_iload_n F.1 F.2.1 dX9_does_58 rfl (lv_at hl 0 rfl) ?_
    refine lv_aload_n F.1 F.2.1 dX9_does_59 rfl (lv_at hl 2 rfl) ?_
    refine gf_RX9_42 F hW hM rfl dX9_does_60 ?_
    refine lv_iload_n F.1 F.2.1 dX9_does_63 rfl (lv_at hl 3 rfl) ?_
    refine h_iconst F dX9_does_64 ?_
    refine h_iadd (a := ix) (b := 3) F dX9_does_65 ?_
    refine h_iald F hW hsc (by omega) (by omega) dX9_does_66 ?_
    refine cl_RX9_243 (As := [.int (iI (sc (ix + 1))), .int (iI (sc (ix + 2))), .int (iI (sc (ix + 3)))]) (rest := []) F hl (c_passes0_r2 l X w mo v σ rf (sc (ix + 1)) (sc (ix + 2)) (sc (ix + 3)) hM hs hwf hrf hco hft hop hst) hW hS hM rfl rfl ⟨Nat.le_of_ble_eq_true rfl, Nat.le_of_ble_eq_true rfl⟩ (Nat.le_of_ble_eq_true rfl) ⟨Nat.zero_le _, Nat.zero_le _⟩ dX9_does_67 (fun w2 H locs hp3 hW hS => ?_)
    obtain ⟨ha4, hn5⟩ := hp3
    have hM := (hn5 _ (by omega)).trans hM
    have hs := (hn5 _ (by omega)).trans hs
    have hpa := (hn5 _ (by omega)).trans hpa
    have htk := (hn5 _ (by omega)).trans htk
    have hsc := (hn5 _ (by omega)).trans hsc
    exact h_ireti F hr hlk hW hS ⟨ha4, (fun q h09 => by rw [hn5 q (by omega)])⟩ dX9_does_70
set_option maxHeartbeats 4000000 in
set_option maxRecDepth 100000 in
theorem c_does_b0 (l : Launch) (X : Cx) (w : Wo) (mo : Nat) (v σ pa rf tk sc : Int → Int) (ix : Int) (hM : w mo = some (.inr (9, mL mo v))) (hs : w (mo + 1) = some (aZ X 1317 σ)) (hwf : WF σ) (hpa : w (mo + 3) = some (aZ X 10536 pa)) (hun : 0 ≤ v 5 ∧ v 5 ≤ 8) (hrf : w (mo + 6) = some (aZ X 8 rf)) (htk : w (mo + 8) = some (aZ X 7 tk)) (hsc : w (mo + 9) = some (aZ X 240 sc)) (hix : 0 ≤ ix ∧ ix + 3 < 240) (hk : sc ix = 1) (hop : σ 4 < σ 1) (hst : σ 0 - opnS σ ≤ σ 6) : CM l X yX9_does cX9_does 4 (some (.int)) (rmk 7 199) [.ref mo, .int (iI ix)] w (some (.int (iI (misRow (btS σ) (σ 4))))) (fun w' => w' mo = some (.inr (9, mL mo (up (up (up (up v 6 0) 5 (min 8 (v 5 + 1))) 8 (v 8 + 1)) 9 (v 9 + mnS (beatN σ (σ 0).toNat) (σ 4))))) ∧ w' (mo + 1) = some (aZ X 1317 (btS σ)) ∧ w' (mo + 3) = some (aZ X 10536 (actP (v 5) pa σ)) ∧ ∀ q : Nat, q ≠ mo → q ≠ mo + 1 → q ≠ mo + 3 → w' q = w q) := by
  refine CM.of (lv := [(0, .ref mo), (1, .int (iI ix))]) (by decide) (Nat.le_of_ble_eq_true rfl) rfl (fun p e s m below meth c ls F hr hlk hin hW hS hl => ?_)
  have hZ0 := hW.2.2
  have hB9 := hW.1.2
  clear hin
  refine lv_aload_n F.1 F.2.1 dX9_does_0 rfl (lv_at hl 0 rfl) ?_
  refine gf_RX9_42 F hW hM rfl dX9_does_1 ?_
  refine lv_iload_n F.1 F.2.1 dX9_does_4 rfl (lv_at hl 1 rfl) ?_
  refine h_iconst F dX9_does_5 ?_
  refine h_iadd (a := ix) (b := 1) F dX9_does_6 ?_
  refine h_iald F hW hsc (by omega) (by omega) dX9_does_7 ?_
  refine lv_istore_n (lv' := [(2, .int (iI (sc (ix + 1)))), (0, .ref mo), (1, .int (iI ix))]) F.1 F.2.1 dX9_does_8 rfl hl (by decide) rfl (fun ls hl => ?_)
  refine lv_aload_n F.1 F.2.1 dX9_does_9 rfl (lv_at hl 1 rfl) ?_
  refine gf_RX9_42 F hW hM rfl dX9_does_10 ?_
  refine lv_iload_n F.1 F.2.1 dX9_does_13 rfl (lv_at hl 2 rfl) ?_
  refine h_iconst F dX9_does_14 ?_
  refine h_iadd (a := ix) (b := 2) F dX9_does_15 ?_
  refine h_iald F hW hsc (by omega) (by omega) dX9_does_16 ?_
  refine lv_istore_n (lv' := [(3, .int (iI (sc (ix + 2)))), (2, .int (iI (sc (ix + 1)))), (0, .ref mo), (1, .int (iI ix))]) F.1 F.2.1 dX9_does_17 rfl hl (by decide) rfl (fun ls hl => ?_)
  refine lv_aload_n F.1 F.2.1 dX9_does_18 rfl (lv_at hl 2 rfl) ?_
  refine gf_RX9_42 F hW hM rfl dX9_does_19 ?_
  refine lv_iload_n F.1 F.2.1 dX9_does_22 rfl (lv_at hl 3 rfl) ?_
  refine h_iald F hW hsc (by omega) (by omega) dX9_does_23 ?_
  rcases (show sc ix = 1 by omega) with c1
  · refine lv_tableIn (off := 47) (tgt := 71) F.1 F.2.1 dX9_does_24 (by rw [iI_toInt (by omega)]; omega) (by rw [iI_toInt (by omega)]; omega) (by rw [iI_toInt (by omega), c1]; rfl) (by decide) ?_
    refine lv_aload_n F.1 F.2.1 dX9_does_71 rfl (lv_at hl 2 rfl) ?_
    refine cl_RX9_408 (As := []) (rest := []) F hl (c_X9_beat l X w mo v σ pa hM hs hwf hpa (by omega) hop hst) hW hS hM rfl rfl ⟨Nat.le_of_ble_eq_true rfl, Nat.le_of_ble_eq_true rfl⟩ (Nat.le_of_ble_eq_true rfl) ⟨Nat.zero_le _, Nat.zero_le _⟩ dX9_does_72 (fun w2 H locs hp3 hW hS => ?_)
    obtain ⟨ho4, ha5, ha6, hn7⟩ := hp3
    have hrf := (hn7 _ (by omega) (by omega) (by omega)).trans hrf
    have htk := (hn7 _ (by omega) (by omega) (by omega)).trans htk
    have hsc := (hn7 _ (by omega) (by omega) (by omega)).trans hsc
    exact h_ireti F hr hlk hW hS ⟨ho4, ha5, ha6, (fun q h09 h19 h29 => by rw [hn7 q (by omega) (by omega) (by omega)])⟩ dX9_does_75
set_option maxHeartbeats 4000000 in
set_option maxRecDepth 100000 in
theorem c_does_b1 (l : Launch) (X : Cx) (w : Wo) (mo : Nat) (v σ pa rf tk sc : Int → Int) (ix : Int) (hM : w mo = some (.inr (9, mL mo v))) (hs : w (mo + 1) = some (aZ X 1317 σ)) (hwf : WF σ) (hpa : w (mo + 3) = some (aZ X 10536 pa)) (hun : 0 ≤ v 5 ∧ v 5 ≤ 8) (hrf : w (mo + 6) = some (aZ X 8 rf)) (htk : w (mo + 8) = some (aZ X 7 tk)) (hsc : w (mo + 9) = some (aZ X 240 sc)) (hix : 0 ≤ ix ∧ ix + 3 < 240) (hk : sc ix = 1) (hop : σ 4 = σ 1) : CM l X yX9_does cX9_does 4 (some (.int)) (rmk 7 199) [.ref mo, .int (iI ix)] w (some (.int (iI (-1)))) (fun w' => w' mo = some (.inr (9, mL mo (up v 6 0))) ∧ w' (mo + 6) = some (aZ X 8 (up rf 1 (rf 1 + 1))) ∧ ∀ q : Nat, q ≠ mo → q ≠ mo + 6 → w' q = w q) := by
  refine CM.of (lv := [(0, .ref mo), (1, .int (iI ix))]) (by decide) (Nat.le_of_ble_eq_true rfl) rfl (fun p e s m below meth c ls F hr hlk hin hW hS hl => ?_)
  have hZ0 := hW.2.2
  have hB9 := hW.1.2
  clear hin
  refine lv_aload_n F.1 F.2.1 dX9_does_0 rfl (lv_at hl 0 rfl) ?_
  refine gf_RX9_42 F hW hM rfl dX9_does_1 ?_
  refine lv_iload_n F.1 F.2.1 dX9_does_4 rfl (lv_at hl 1 rfl) ?_
  refine h_iconst F dX9_does_5 ?_
  refine h_iadd (a := ix) (b := 1) F dX9_does_6 ?_
  refine h_iald F hW hsc (by omega) (by omega) dX9_does_7 ?_
  refine lv_istore_n (lv' := [(2, .int (iI (sc (ix + 1)))), (0, .ref mo), (1, .int (iI ix))]) F.1 F.2.1 dX9_does_8 rfl hl (by decide) rfl (fun ls hl => ?_)
  refine lv_aload_n F.1 F.2.1 dX9_does_9 rfl (lv_at hl 1 rfl) ?_
  refine gf_RX9_42 F hW hM rfl dX9_does_10 ?_
  refine lv_iload_n F.1 F.2.1 dX9_does_13 rfl (lv_at hl 2 rfl) ?_
  refine h_iconst F dX9_does_14 ?_
  refine h_iadd (a := ix) (b := 2) F dX9_does_15 ?_
  refine h_iald F hW hsc (by omega) (by omega) dX9_does_16 ?_
  refine lv_istore_n (lv' := [(3, .int (iI (sc (ix + 2)))), (2, .int (iI (sc (ix + 1)))), (0, .ref mo), (1, .int (iI ix))]) F.1 F.2.1 dX9_does_17 rfl hl (by decide) rfl (fun ls hl => ?_)
  refine lv_aload_n F.1 F.2.1 dX9_does_18 rfl (lv_at hl 2 rfl) ?_
  refine gf_RX9_42 F hW hM rfl dX9_does_19 ?_
  refine lv_iload_n F.1 F.2.1 dX9_does_22 rfl (lv_at hl 3 rfl) ?_
  refine h_iald F hW hsc (by omega) (by omega) dX9_does_23 ?_
  rcases (show sc ix = 1 by omega) with c1
  · refine lv_tableIn (off := 47) (tgt := 71) F.1 F.2.1 dX9_does_24 (by rw [iI_toInt (by omega)]; omega) (by rw [iI_toInt (by omega)]; omega) (by rw [iI_toInt (by omega), c1]; rfl) (by decide) ?_
    refine lv_aload_n F.1 F.2.1 dX9_does_71 rfl (lv_at hl 2 rfl) ?_
    refine cl_RX9_408 (As := []) (rest := []) F hl (c_X9_beat_r1 l X w mo v σ rf hM hs hwf hrf hop) hW hS hM rfl rfl ⟨Nat.le_of_ble_eq_true rfl, Nat.le_of_ble_eq_true rfl⟩ (Nat.le_of_ble_eq_true rfl) ⟨Nat.zero_le _, Nat.zero_le _⟩ dX9_does_72 (fun w2 H locs hp3 hW hS => ?_)
    obtain ⟨ho4, ha5, hn6⟩ := hp3
    have hs := (hn6 _ (by omega) (by omega)).trans hs
    have hpa := (hn6 _ (by omega) (by omega)).trans hpa
    have htk := (hn6 _ (by omega) (by omega)).trans htk
    have hsc := (hn6 _ (by omega) (by omega)).trans hsc
    exact h_ireti F hr hlk hW hS ⟨ho4, ha5, (fun q h09 h19 => by rw [hn6 q (by omega) (by omega)])⟩ dX9_does_75
set_option maxHeartbeats 4000000 in
set_option maxRecDepth 100000 in
theorem c_does_b2 (l : Launch) (X : Cx) (w : Wo) (mo : Nat) (v σ pa rf tk sc : Int → Int) (ix : Int) (hM : w mo = some (.inr (9, mL mo v))) (hs : w (mo + 1) = some (aZ X 1317 σ)) (hwf : WF σ) (hpa : w (mo + 3) = some (aZ X 10536 pa)) (hun : 0 ≤ v 5 ∧ v 5 ≤ 8) (hrf : w (mo + 6) = some (aZ X 8 rf)) (htk : w (mo + 8) = some (aZ X 7 tk)) (hsc : w (mo + 9) = some (aZ X 240 sc)) (hix : 0 ≤ ix ∧ ix + 3 < 240) (hk : sc ix = 1) (hop : σ 4 < σ 1) (hst : σ 6 < σ 0 - opnS σ) : CM l X yX9_does cX9_does 4 (some (.int)) (rmk 7 199) [.ref mo, .int (iI ix)] w (some (.int (iI (-2)))) (fun w' => w' mo = some (.inr (9, mL mo (up v 6 0))) ∧ w' (mo + 6) = some (aZ X 8 (up rf 2 (rf 2 + 1))) ∧ ∀ q : Nat, q ≠ mo → q ≠ mo + 6 → w' q = w q) := by
  refine CM.of (lv := [(0, .ref mo), (1, .int (iI ix))]) (by decide) (Nat.le_of_ble_eq_true rfl) rfl (fun p e s m below meth c ls F hr hlk hin hW hS hl => ?_)
  have hZ0 := hW.2.2
  have hB9 := hW.1.2
  clear hin
  refine lv_aload_n F.1 F.2.1 dX9_does_0 rfl (lv_at hl 0 rfl) ?_
  refine gf_RX9_42 F hW hM rfl dX9_does_1 ?_
  refine lv_iload_n F.1 F.2.1 dX9_does_4 rfl (lv_at hl 1 rfl) ?_
  refine h_iconst F dX9_does_5 ?_
  refine h_iadd (a := ix) (b := 1) F dX9_does_6 ?_
  refine h_iald F hW hsc (by omega) (by omega) dX9_does_7 ?_
  refine lv_istore_n (lv' := [(2, .int (iI (sc (ix + 1)))), (0, .ref mo), (1, .int (iI ix))]) F.1 F.2.1 dX9_does_8 rfl hl (by decide) rfl (fun ls hl => ?_)
  refine lv_aload_n F.1 F.2.1 dX9_does_9 rfl (lv_at hl 1 rfl) ?_
  refine gf_RX9_42 F hW hM rfl dX9_does_10 ?_
  refine lv_iload_n F.1 F.2.1 dX9_does_13 rfl (lv_at hl 2 rfl) ?_
  refine h_iconst F dX9_does_14 ?_
  refine h_iadd (a := ix) (b := 2) F dX9_does_15 ?_
  refine h_iald F hW hsc (by omega) (by omega) dX9_does_16 ?_
  refine lv_istore_n (lv' := [(3, .int (iI (sc (ix + 2)))), (2, .int (iI (sc (ix + 1)))), (0, .ref mo), (1, .int (iI ix))]) F.1 F.2.1 dX9_does_17 rfl hl (by decide) rfl (fun ls hl => ?_)
  refine lv_aload_n F.1 F.2.1 dX9_does_18 rfl (lv_at hl 2 rfl) ?_
  refine gf_RX9_42 F hW hM rfl dX9_does_19 ?_
  refine lv_iload_n F.1 F.2.1 dX9_does_22 rfl (lv_at hl 3 rfl) ?_
  refine h_iald F hW hsc (by omega) (by omega) dX9_does_23 ?_
  rcases (show sc ix = 1 by omega) with c1
  · refine lv_tableIn (off := 47) (tgt := 71) F.1 F.2.1 dX9_does_24 (by rw [iI_toInt (by omega)]; omega) (by rw [iI_toInt (by omega)]; omega) (by rw [iI_toInt (by omega), c1]; rfl) (by decide) ?_
    refine lv_aload_n F.1 F.2.1 dX9_does_71 rfl (lv_at hl 2 rfl) ?_
    refine cl_RX9_408 (As := []) (rest := []) F hl (c_X9_beat_r2 l X w mo v σ rf hM hs hwf hrf hop hst) hW hS hM rfl rfl ⟨Nat.le_of_ble_eq_true rfl, Nat.le_of_ble_eq_true rfl⟩ (Nat.le_of_ble_eq_true rfl) ⟨Nat.zero_le _, Nat.zero_le _⟩ dX9_does_72 (fun w2 H locs hp3 hW hS => ?_)
    obtain ⟨ho4, ha5, hn6⟩ := hp3
    have hs := (hn6 _ (by omega) (by omega)).trans hs
    have hpa := (hn6 _ (by omega) (by omega)).trans hpa
    have htk := (hn6 _ (by omega) (by omega)).trans htk
    have hsc := (hn6 _ (by omega) (by omega)).trans hsc
    exact h_ireti F hr hlk hW hS ⟨ho4, ha5, (fun q h09 h19 => by rw [hn6 q (by omega) (by omega)])⟩ dX9_does_75
set_option maxHeartbeats 4000000 in
set_option maxRecDepth 100000 in
theorem c_does_w0 (l : Launch) (X : Cx) (w : Wo) (mo : Nat) (v σ pa rf tk sc : Int → Int) (ix : Int) (b9 : Bool) (hM : w mo = some (.inr (9, mL mo v))) (hs : w (mo + 1) = some (aZ X 1317 σ)) (hwf : WF σ) (hpa : w (mo + 3) = some (aZ X 10536 pa)) (hun : 0 ≤ v 5 ∧ v 5 ≤ 8) (hrf : w (mo + 6) = some (aZ X 8 rf)) (htk : w (mo + 8) = some (aZ X 7 tk)) (hsc : w (mo + 9) = some (aZ X 240 sc)) (hix : 0 ≤ ix ∧ ix + 3 < 240) (hk : sc ix = 2) (hrw : 1 ≤ sc (ix + 1) ∧ sc (ix + 1) ≤ 30) (hbb : sc (ix + 2) = bz b9) (hop : σ 4 + sc (ix + 1) ≤ σ 1) (hen : enoS σ b9 (sc (ix + 1)) = true) : CM l X yX9_does cX9_does 4 (some (.int)) (rmk 7 199) [.ref mo, .int (iI ix)] w (some (.int (iI (misFrom (weaveN σ b9 (sc (ix + 1)).toNat) (σ 4))))) (fun w' => w' mo = some (.inr (9, mL mo (up (up (up v 5 (min 8 (v 5 + 1))) 8 (v 8 + 1)) 9 (v 9 + macN σ b9 (sc (ix + 1)).toNat)))) ∧ w' (mo + 1) = some (aZ X 1317 (weaveN σ b9 (sc (ix + 1)).toNat)) ∧ w' (mo + 3) = some (aZ X 10536 (actP (v 5) pa σ)) ∧ ∀ q : Nat, q ≠ mo → q ≠ mo + 1 → q ≠ mo + 3 → w' q = w q) := by
  refine CM.of (lv := [(0, .ref mo), (1, .int (iI ix))]) (by decide) (Nat.le_of_ble_eq_true rfl) rfl (fun p e s m below meth c ls F hr hlk hin hW hS hl => ?_)
  have hZ0 := hW.2.2
  have hB9 := hW.1.2
  clear hin
  have hb9r := bz_r b9
  refine lv_aload_n F.1 F.2.1 dX9_does_0 rfl (lv_at hl 0 rfl) ?_
  refine gf_RX9_42 F hW hM rfl dX9_does_1 ?_
  refine lv_iload_n F.1 F.2.1 dX9_does_4 rfl (lv_at hl 1 rfl) ?_
  refine h_iconst F dX9_does_5 ?_
  refine h_iadd (a := ix) (b := 1) F dX9_does_6 ?_
  refine h_iald F hW hsc (by omega) (by omega) dX9_does_7 ?_
  refine lv_istore_n (lv' := [(2, .int (iI (sc (ix + 1)))), (0, .ref mo), (1, .int (iI ix))]) F.1 F.2.1 dX9_does_8 rfl hl (by decide) rfl (fun ls hl => ?_)
  refine lv_aload_n F.1 F.2.1 dX9_does_9 rfl (lv_at hl 1 rfl) ?_
  refine gf_RX9_42 F hW hM rfl dX9_does_10 ?_
  refine lv_iload_n F.1 F.2.1 dX9_does_13 rfl (lv_at hl 2 rfl) ?_
  refine h_iconst F dX9_does_14 ?_
  refine h_iadd (a := ix) (b := 2) F dX9_does_15 ?_
  refine h_iald F hW hsc (by omega) (by omega) dX9_does_16 ?_
  refine lv_istore_n (lv' := [(3, .int (iI (sc (ix + 2)))), (2, .int (iI (sc (ix + 1)))), (0, .ref mo), (1, .int (iI ix))]) F.1 F.2.1 dX9_does_17 rfl hl (by decide) rfl (fun ls hl => ?_)
  refine lv_aload_n F.1 F.2.1 dX9_does_18 rfl (lv_at hl 2 rfl) ?_
  refine gf_RX9_42 F hW hM rfl dX9_does_19 ?_
  refine lv_iload_n F.1 F.2.1 dX9_does_22 rfl (lv_at hl 3 rfl) ?_
  refine h_iald F hW hsc (by omega) (by omega) dX9_does_23 ?_
  rcases (show sc ix = 2 by omega) with c1
  · refine lv_tableIn (off := 52) (tgt := 76) F.1 F.2.1 dX9_does_24 (by rw [iI_toInt (by omega)]; omega) (by rw [iI_toInt (by omega)]; omega) (by rw [iI_toInt (by omega), c1]; rfl) (by decide) ?_
    refine lv_aload_n F.1 F.2.1 dX9_does_76 rfl (lv_at hl 2 rfl) ?_
    refine lv_iload_n F.1 F.2.1 dX9_does_77 rfl (lv_at hl 1 rfl) ?_
    refine lv_iload_n F.1 F.2.1 dX9_does_78 rfl (lv_at hl 0 rfl) ?_
    refine h_iconst F dX9_does_79 ?_
    have join88 : ∀ (H : Heap) (locs : List Loc) (ls : Array Slot), Wd X w s H → va_S (cxA X) s.heap H locs → lv_has ls 4 [(3, .int (iI (sc (ix + 2)))), (2, .int (iI (sc (ix + 1)))), (0, .ref mo), (1, .int (iI ix))] → W p l e (rmk 7 199) s m (List.toArray [.ref mo, .int (iI ix)]) below meth c H locs 0 0 (MX X below (List.toArray [.ref mo, .int (iI ix)]) s 0 0 (some (.int (iI (misFrom (weaveN σ b9 (sc (ix + 1)).toNat) (σ 4))))) (fun w' => w' mo = some (.inr (9, mL mo (up (up (up v 5 (min 8 (v 5 + 1))) 8 (v 8 + 1)) 9 (v 9 + macN σ b9 (sc (ix + 1)).toNat)))) ∧ w' (mo + 1) = some (aZ X 1317 (weaveN σ b9 (sc (ix + 1)).toNat)) ∧ w' (mo + 3) = some (aZ X 10536 (actP (v 5) pa σ)) ∧ ∀ q : Nat, q ≠ mo → q ≠ mo + 1 → q ≠ mo + 3 → w' q = w q)) (F0 m 88 ls [.int (iI (bz b9)), .int (iI (sc (ix + 1))), .ref mo]) := by
      intro  H locs ls  hW hS hl
      refine cl_RX9_256 (As := [.int (iI (sc (ix + 1))), .int (iI (bz b9))]) (rest := []) F hl (c_X9_weaves l X w mo v σ pa (sc (ix + 1)) b9 hM hs hwf hpa (by omega) hrw hop hen) hW hS hM rfl rfl ⟨Nat.le_of_ble_eq_true rfl, Nat.le_of_ble_eq_true rfl⟩ (Nat.le_of_ble_eq_true rfl) ⟨Nat.zero_le _, Nat.zero_le _⟩ dX9_does_88 (fun w2 H locs hp3 hW hS => ?_)
      obtain ⟨ho4, ha5, ha6, hn7⟩ := hp3
      have hrf := (hn7 _ (by omega) (by omega) (by omega)).trans hrf
      have htk := (hn7 _ (by omega) (by omega) (by omega)).trans htk
      have hsc := (hn7 _ (by omega) (by omega) (by omega)).trans hsc
      exact h_ireti F hr hlk hW hS ⟨ho4, ha5, ha6, (fun q h09 h19 h29 => by rw [hn7 q (by omega) (by omega) (by omega)])⟩ dX9_does_91
    refine h_icne (tgt := 87) F dX9_does_80 (by decide) (by omega) (fun c8 => ?_) (fun c8 => ?_)
    · refine h_iconst F dX9_does_87 ?_
      refine h_top (show (0 : Int) = bz b9 from by first | exact bzt (bz_1 (by omega)) | exact bzf (bz_0 (by have := bz_r b9; omega))) ?_
      exact join88  _ _ ls  hW hS (lv_sub hl [0, 1, 2, 3] rfl)
    · refine h_iconst F dX9_does_83 ?_
      refine h_goto (tgt := 88) F dX9_does_84 (by decide) ?_
      refine h_top (show (1 : Int) = bz b9 from by first | exact bzt (bz_1 (by omega)) | exact bzf (bz_0 (by have := bz_r b9; omega))) ?_
      exact join88  _ _ ls  hW hS (lv_sub hl [0, 1, 2, 3] rfl)
set_option maxHeartbeats 4000000 in
set_option maxRecDepth 100000 in
theorem c_does_w3 (l : Launch) (X : Cx) (w : Wo) (mo : Nat) (v σ pa rf tk sc : Int → Int) (ix : Int) (b9 : Bool) (hM : w mo = some (.inr (9, mL mo v))) (hs : w (mo + 1) = some (aZ X 1317 σ)) (hwf : WF σ) (hpa : w (mo + 3) = some (aZ X 10536 pa)) (hun : 0 ≤ v 5 ∧ v 5 ≤ 8) (hrf : w (mo + 6) = some (aZ X 8 rf)) (htk : w (mo + 8) = some (aZ X 7 tk)) (hsc : w (mo + 9) = some (aZ X 240 sc)) (hix : 0 ≤ ix ∧ ix + 3 < 240) (hk : sc ix = 2) (hrw : 1 ≤ sc (ix + 1) ∧ sc (ix + 1) ≤ 30) (hbb : sc (ix + 2) = bz b9) (hop : σ 1 < σ 4 + sc (ix + 1)) : CM l X yX9_does cX9_does 4 (some (.int)) (rmk 7 199) [.ref mo, .int (iI ix)] w (some (.int (iI (-3)))) (fun w' => w' (mo + 6) = some (aZ X 8 (up rf 3 (rf 3 + 1))) ∧ ∀ q : Nat, q ≠ mo + 6 → w' q = w q) := by
  refine CM.of (lv := [(0, .ref mo), (1, .int (iI ix))]) (by decide) (Nat.le_of_ble_eq_true rfl) rfl (fun p e s m below meth c ls F hr hlk hin hW hS hl => ?_)
  have hZ0 := hW.2.2
  have hB9 := hW.1.2
  clear hin
  have hb9r := bz_r b9
  refine lv_aload_n F.1 F.2.1 dX9_does_0 rfl (lv_at hl 0 rfl) ?_
  refine gf_RX9_42 F hW hM rfl dX9_does_1 ?_
  refine lv_iload_n F.1 F.2.1 dX9_does_4 rfl (lv_at hl 1 rfl) ?_
  refine h_iconst F dX9_does_5 ?_
  refine h_iadd (a := ix) (b := 1) F dX9_does_6 ?_
  refine h_iald F hW hsc (by omega) (by omega) dX9_does_7 ?_
  refine lv_istore_n (lv' := [(2, .int (iI (sc (ix + 1)))), (0, .ref mo), (1, .int (iI ix))]) F.1 F.2.1 dX9_does_8 rfl hl (by decide) rfl (fun ls hl => ?_)
  refine lv_aload_n F.1 F.2.1 dX9_does_9 rfl (lv_at hl 1 rfl) ?_
  refine gf_RX9_42 F hW hM rfl dX9_does_10 ?_
  refine lv_iload_n F.1 F.2.1 dX9_does_13 rfl (lv_at hl 2 rfl) ?_
  refine h_iconst F dX9_does_14 ?_
  refine h_iadd (a := ix) (b := 2) F dX9_does_15 ?_
  refine h_iald F hW hsc (by omega) (by omega) dX9_does_16 ?_
  refine lv_istore_n (lv' := [(3, .int (iI (sc (ix + 2)))), (2, .int (iI (sc (ix + 1)))), (0, .ref mo), (1, .int (iI ix))]) F.1 F.2.1 dX9_does_17 rfl hl (by decide) rfl (fun ls hl => ?_)
  refine lv_aload_n F.1 F.2.1 dX9_does_18 rfl (lv_at hl 2 rfl) ?_
  refine gf_RX9_42 F hW hM rfl dX9_does_19 ?_
  refine lv_iload_n F.1 F.2.1 dX9_does_22 rfl (lv_at hl 3 rfl) ?_
  refine h_iald F hW hsc (by omega) (by omega) dX9_does_23 ?_
  rcases (show sc ix = 2 by omega) with c1
  · refine lv_tableIn (off := 52) (tgt := 76) F.1 F.2.1 dX9_does_24 (by rw [iI_toInt (by omega)]; omega) (by rw [iI_toInt (by omega)]; omega) (by rw [iI_toInt (by omega), c1]; rfl) (by decide) ?_
    refine lv_aload_n F.1 F.2.1 dX9_does_76 rfl (lv_at hl 2 rfl) ?_
    refine lv_iload_n F.1 F.2.1 dX9_does_77 rfl (lv_at hl 1 rfl) ?_
    refine lv_iload_n F.1 F.2.1 dX9_does_78 rfl (lv_at hl 0 rfl) ?_
    refine h_iconst F dX9_does_79 ?_
    have join88 : ∀ (H : Heap) (locs : List Loc) (ls : Array Slot), Wd X w s H → va_S (cxA X) s.heap H locs → lv_has ls 4 [(3, .int (iI (sc (ix + 2)))), (2, .int (iI (sc (ix + 1)))), (0, .ref mo), (1, .int (iI ix))] → W p l e (rmk 7 199) s m (List.toArray [.ref mo, .int (iI ix)]) below meth c H locs 0 0 (MX X below (List.toArray [.ref mo, .int (iI ix)]) s 0 0 (some (.int (iI (-3)))) (fun w' => w' (mo + 6) = some (aZ X 8 (up rf 3 (rf 3 + 1))) ∧ ∀ q : Nat, q ≠ mo + 6 → w' q = w q)) (F0 m 88 ls [.int (iI (bz b9)), .int (iI (sc (ix + 1))), .ref mo]) := by
      intro  H locs ls  hW hS hl
      refine cl_RX9_256 (As := [.int (iI (sc (ix + 1))), .int (iI (bz b9))]) (rest := []) F hl (c_weaves_r3 l X w mo v σ rf (sc (ix + 1)) b9 hM hs hwf hrf hrw hop) hW hS hM rfl rfl ⟨Nat.le_of_ble_eq_true rfl, Nat.le_of_ble_eq_true rfl⟩ (Nat.le_of_ble_eq_true rfl) ⟨Nat.zero_le _, Nat.zero_le _⟩ dX9_does_88 (fun w2 H locs hp3 hW hS => ?_)
      obtain ⟨ha4, hn5⟩ := hp3
      have hM := (hn5 _ (by omega)).trans hM
      have hs := (hn5 _ (by omega)).trans hs
      have hpa := (hn5 _ (by omega)).trans hpa
      have htk := (hn5 _ (by omega)).trans htk
      have hsc := (hn5 _ (by omega)).trans hsc
      exact h_ireti F hr hlk hW hS ⟨ha4, (fun q h09 => by rw [hn5 q (by omega)])⟩ dX9_does_91
    refine h_icne (tgt := 87) F dX9_does_80 (by decide) (by omega) (fun c6 => ?_) (fun c6 => ?_)
    · refine h_iconst F dX9_does_87 ?_
      refine h_top (show (0 : Int) = bz b9 from by first | exact bzt (bz_1 (by omega)) | exact bzf (bz_0 (by have := bz_r b9; omega))) ?_
      exact join88  _ _ ls  hW hS (lv_sub hl [0, 1, 2, 3] rfl)
    · refine h_iconst F dX9_does_83 ?_
      refine h_goto (tgt := 88) F dX9_does_84 (by decide) ?_
      refine h_top (show (1 : Int) = bz b9 from by first | exact bzt (bz_1 (by omega)) | exact bzf (bz_0 (by have := bz_r b9; omega))) ?_
      exact join88  _ _ ls  hW hS (lv_sub hl [0, 1, 2, 3] rfl)
set_option maxHeartbeats 4000000 in
set_option maxRecDepth 100000 in
theorem c_does_w2 (l : Launch) (X : Cx) (w : Wo) (mo : Nat) (v σ pa rf tk sc : Int → Int) (ix : Int) (b9 : Bool) (hM : w mo = some (.inr (9, mL mo v))) (hs : w (mo + 1) = some (aZ X 1317 σ)) (hwf : WF σ) (hpa : w (mo + 3) = some (aZ X 10536 pa)) (hun : 0 ≤ v 5 ∧ v 5 ≤ 8) (hrf : w (mo + 6) = some (aZ X 8 rf)) (htk : w (mo + 8) = some (aZ X 7 tk)) (hsc : w (mo + 9) = some (aZ X 240 sc)) (hix : 0 ≤ ix ∧ ix + 3 < 240) (hk : sc ix = 2) (hrw : 1 ≤ sc (ix + 1) ∧ sc (ix + 1) ≤ 30) (hbb : sc (ix + 2) = bz b9) (hop : σ 4 + sc (ix + 1) ≤ σ 1) (hen : enoS σ b9 (sc (ix + 1)) = false) : CM l X yX9_does cX9_does 4 (some (.int)) (rmk 7 199) [.ref mo, .int (iI ix)] w (some (.int (iI (-2)))) (fun w' => w' (mo + 6) = some (aZ X 8 (up rf 2 (rf 2 + 1))) ∧ ∀ q : Nat, q ≠ mo + 6 → w' q = w q) := by
  refine CM.of (lv := [(0, .ref mo), (1, .int (iI ix))]) (by decide) (Nat.le_of_ble_eq_true rfl) rfl (fun p e s m below meth c ls F hr hlk hin hW hS hl => ?_)
  have hZ0 := hW.2.2
  have hB9 := hW.1.2
  clear hin
  have hb9r := bz_r b9
  refine lv_aload_n F.1 F.2.1 dX9_does_0 rfl (lv_at hl 0 rfl) ?_
  refine gf_RX9_42 F hW hM rfl dX9_does_1 ?_
  refine lv_iload_n F.1 F.2.1 dX9_does_4 rfl (lv_at hl 1 rfl) ?_
  refine h_iconst F dX9_does_5 ?_
  refine h_iadd (a := ix) (b := 1) F dX9_does_6 ?_
  refine h_iald F hW hsc (by omega) (by omega) dX9_does_7 ?_
  refine lv_istore_n (lv' := [(2, .int (iI (sc (ix + 1)))), (0, .ref mo), (1, .int (iI ix))]) F.1 F.2.1 dX9_does_8 rfl hl (by decide) rfl (fun ls hl => ?_)
  refine lv_aload_n F.1 F.2.1 dX9_does_9 rfl (lv_at hl 1 rfl) ?_
  refine gf_RX9_42 F hW hM rfl dX9_does_10 ?_
  refine lv_iload_n F.1 F.2.1 dX9_does_13 rfl (lv_at hl 2 rfl) ?_
  refine h_iconst F dX9_does_14 ?_
  refine h_iadd (a := ix) (b := 2) F dX9_does_15 ?_
  refine h_iald F hW hsc (by omega) (by omega) dX9_does_16 ?_
  refine lv_istore_n (lv' := [(3, .int (iI (sc (ix + 2)))), (2, .int (iI (sc (ix + 1)))), (0, .ref mo), (1, .int (iI ix))]) F.1 F.2.1 dX9_does_17 rfl hl (by decide) rfl (fun ls hl => ?_)
  refine lv_aload_n F.1 F.2.1 dX9_does_18 rfl (lv_at hl 2 rfl) ?_
  refine gf_RX9_42 F hW hM rfl dX9_does_19 ?_
  refine lv_iload_n F.1 F.2.1 dX9_does_22 rfl (lv_at hl 3 rfl) ?_
  refine h_iald F hW hsc (by omega) (by omega) dX9_does_23 ?_
  rcases (show sc ix = 2 by omega) with c1
  · refine lv_tableIn (off := 52) (tgt := 76) F.1 F.2.1 dX9_does_24 (by rw [iI_toInt (by omega)]; omega) (by rw [iI_toInt (by omega)]; omega) (by rw [iI_toInt (by omega), c1]; rfl) (by decide) ?_
    refine lv_aload_n F.1 F.2.1 dX9_does_76 rfl (lv_at hl 2 rfl) ?_
    refine lv_iload_n F.1 F.2.1 dX9_does_77 rfl (lv_at hl 1 rfl) ?_
    refine lv_iload_n F.1 F.2.1 dX9_does_78 rfl (lv_at hl 0 rfl) ?_
    refine h_iconst F dX9_does_79 ?_
    have join88 : ∀ (H : Heap) (locs : List Loc) (ls : Array Slot), Wd X w s H → va_S (cxA X) s.heap H locs → lv_has ls 4 [(3, .int (iI (sc (ix + 2)))), (2, .int (iI (sc (ix + 1)))), (0, .ref mo), (1, .int (iI ix))] → W p l e (rmk 7 199) s m (List.toArray [.ref mo, .int (iI ix)]) below meth c H locs 0 0 (MX X below (List.toArray [.ref mo, .int (iI ix)]) s 0 0 (some (.int (iI (-2)))) (fun w' => w' (mo + 6) = some (aZ X 8 (up rf 2 (rf 2 + 1))) ∧ ∀ q : Nat, q ≠ mo + 6 → w' q = w q)) (F0 m 88 ls [.int (iI (bz b9)), .int (iI (sc (ix + 1))), .ref mo]) := by
      intro  H locs ls  hW hS hl
      refine cl_RX9_256 (As := [.int (iI (sc (ix + 1))), .int (iI (bz b9))]) (rest := []) F hl (c_weaves_r2 l X w mo v σ rf (sc (ix + 1)) b9 hM hs hwf hrf hrw hop hen) hW hS hM rfl rfl ⟨Nat.le_of_ble_eq_true rfl, Nat.le_of_ble_eq_true rfl⟩ (Nat.le_of_ble_eq_true rfl) ⟨Nat.zero_le _, Nat.zero_le _⟩ dX9_does_88 (fun w2 H locs hp3 hW hS => ?_)
      obtain ⟨ha4, hn5⟩ := hp3
      have hM := (hn5 _ (by omega)).trans hM
      have hs := (hn5 _ (by omega)).trans hs
      have hpa := (hn5 _ (by omega)).trans hpa
      have htk := (hn5 _ (by omega)).trans htk
      have hsc := (hn5 _ (by omega)).trans hsc
      exact h_ireti F hr hlk hW hS ⟨ha4, (fun q h09 => by rw [hn5 q (by omega)])⟩ dX9_does_91
    refine h_icne (tgt := 87) F dX9_does_80 (by decide) (by omega) (fun c6 => ?_) (fun c6 => ?_)
    · refine h_iconst F dX9_does_87 ?_
      refine h_top (show (0 : Int) = bz b9 from by first | exact bzt (bz_1 (by omega)) | exact bzf (bz_0 (by have := bz_r b9; omega))) ?_
      exact join88  _ _ ls  hW hS (lv_sub hl [0, 1, 2, 3] rfl)
    · refine h_iconst F dX9_does_83 ?_
      refine h_goto (tgt := 88) F dX9_does_84 (by decide) ?_
      refine h_top (show (1 : Int) = bz b9 from by first | exact bzt (bz_1 (by omega)) | exact bzf (bz_0 (by have := bz_r b9; omega))) ?_
      exact join88  _ _ ls  hW hS (lv_sub hl [0, 1, 2, 3] rfl)
set_option maxHeartbeats 4000000 in
set_option maxRecDepth 100000 in
theorem c_does_u0 (l : Launch) (X : Cx) (w : Wo) (mo : Nat) (v σ pa rf tk sc : Int → Int) (ix : Int) (hM : w mo = some (.inr (9, mL mo v))) (hs : w (mo + 1) = some (aZ X 1317 σ)) (hwf : WF σ) (hpa : w (mo + 3) = some (aZ X 10536 pa)) (hun : 0 ≤ v 5 ∧ v 5 ≤ 8) (hrf : w (mo + 6) = some (aZ X 8 rf)) (htk : w (mo + 8) = some (aZ X 7 tk)) (hsc : w (mo + 9) = some (aZ X 240 sc)) (hix : 0 ≤ ix ∧ ix + 3 < 240) (hk : sc ix = 3) (hrw : 0 ≤ sc (ix + 1) ∧ sc (ix + 1) ≤ 30) (hop : sc (ix + 1) ≤ σ 4) : CM l X yX9_does cX9_does 4 (some (.int)) (rmk 7 199) [.ref mo, .int (iI ix)] w (some (.int (iI (sm (wvnS σ (σ 4 - sc (ix + 1))) 0 7)))) (fun w' => w' mo = some (.inr (9, mL mo (up (up v 5 (min 8 (v 5 + 1))) 8 (v 8 + 1)))) ∧ w' (mo + 1) = some (aZ X 1317 (uqS σ (σ 4 - sc (ix + 1)))) ∧ w' (mo + 3) = some (aZ X 10536 (actP (v 5) pa σ)) ∧ w' (mo + 8) = some (aZ X 7 (tkA tk σ (σ 4 - sc (ix + 1)) (σ 1) 0)) ∧ ∀ q : Nat, q ≠ mo → q ≠ mo + 1 → q ≠ mo + 3 → q ≠ mo + 8 → w' q = w q) := by
  refine CM.of (lv := [(0, .ref mo), (1, .int (iI ix))]) (by decide) (Nat.le_of_ble_eq_true rfl) rfl (fun p e s m below meth c ls F hr hlk hin hW hS hl => ?_)
  have hZ0 := hW.2.2
  have hB9 := hW.1.2
  clear hin
  refine lv_aload_n F.1 F.2.1 dX9_does_0 rfl (lv_at hl 0 rfl) ?_
  refine gf_RX9_42 F hW hM rfl dX9_does_1 ?_
  refine lv_iload_n F.1 F.2.1 dX9_does_4 rfl (lv_at hl 1 rfl) ?_
  refine h_iconst F dX9_does_5 ?_
  refine h_iadd (a := ix) (b := 1) F dX9_does_6 ?_
  refine h_iald F hW hsc (by omega) (by omega) dX9_does_7 ?_
  refine lv_istore_n (lv' := [(2, .int (iI (sc (ix + 1)))), (0, .ref mo), (1, .int (iI ix))]) F.1 F.2.1 dX9_does_8 rfl hl (by decide) rfl (fun ls hl => ?_)
  refine lv_aload_n F.1 F.2.1 dX9_does_9 rfl (lv_at hl 1 rfl) ?_
  refine gf_RX9_42 F hW hM rfl dX9_does_10 ?_
  refine lv_iload_n F.1 F.2.1 dX9_does_13 rfl (lv_at hl 2 rfl) ?_
  refine h_iconst F dX9_does_14 ?_
  refine h_iadd (a := ix) (b := 2) F dX9_does_15 ?_
  refine h_iald F hW hsc (by omega) (by omega) dX9_does_16 ?_
  refine lv_istore_n (lv' := [(3, .int (iI (sc (ix + 2)))), (2, .int (iI (sc (ix + 1)))), (0, .ref mo), (1, .int (iI ix))]) F.1 F.2.1 dX9_does_17 rfl hl (by decide) rfl (fun ls hl => ?_)
  refine lv_aload_n F.1 F.2.1 dX9_does_18 rfl (lv_at hl 2 rfl) ?_
  refine gf_RX9_42 F hW hM rfl dX9_does_19 ?_
  refine lv_iload_n F.1 F.2.1 dX9_does_22 rfl (lv_at hl 3 rfl) ?_
  refine h_iald F hW hsc (by omega) (by omega) dX9_does_23 ?_
  rcases (show sc ix = 3 by omega) with c1
  · refine lv_tableIn (off := 68) (tgt := 92) F.1 F.2.1 dX9_does_24 (by rw [iI_toInt (by omega)]; omega) (by rw [iI_toInt (by omega)]; omega) (by rw [iI_toInt (by omega), c1]; rfl) (by decide) ?_
    refine lv_aload_n F.1 F.2.1 dX9_does_92 rfl (lv_at hl 2 rfl) ?_
    refine lv_iload_n F.1 F.2.1 dX9_does_93 rfl (lv_at hl 1 rfl) ?_
    refine cl_RX9_260 (As := [.int (iI (sc (ix + 1)))]) (rest := []) F hl (c_X9_unpicks l X w mo v σ pa tk (sc (ix + 1)) hM hs hwf hpa (by omega) htk hrw hop) hW hS hM rfl rfl ⟨Nat.le_of_ble_eq_true rfl, Nat.le_of_ble_eq_true rfl⟩ (Nat.le_of_ble_eq_true rfl) ⟨Nat.zero_le _, Nat.zero_le _⟩ dX9_does_94 (fun w2 H locs hp3 hW hS => ?_)
    obtain ⟨ho4, ha5, ha6, ha7, hn8⟩ := hp3
    have hrf := (hn8 _ (by omega) (by omega) (by omega) (by omega)).trans hrf
    have hsc := (hn8 _ (by omega) (by omega) (by omega) (by omega)).trans hsc
    refine h_top (show (sm (wvnS σ (σ 4 - (sc (ix + 1)))) 0 7 : Int) = sm (wvnS σ (σ 4 - sc (ix + 1))) 0 7 from by first | rfl | omega | (simp_all; done)) ?_
    exact h_ireti F hr hlk hW hS ⟨ho4, (by (rw [ha5]) <;> (rfl)), ha6, (by (rw [ha7]) <;> (rfl)), (fun q h09 h19 h29 h39 => by rw [hn8 q (by omega) (by omega) (by omega) (by omega)])⟩ dX9_does_97
set_option maxHeartbeats 4000000 in
set_option maxRecDepth 100000 in
theorem c_does_u3 (l : Launch) (X : Cx) (w : Wo) (mo : Nat) (v σ pa rf tk sc : Int → Int) (ix : Int) (hM : w mo = some (.inr (9, mL mo v))) (hs : w (mo + 1) = some (aZ X 1317 σ)) (hwf : WF σ) (hpa : w (mo + 3) = some (aZ X 10536 pa)) (hun : 0 ≤ v 5 ∧ v 5 ≤ 8) (hrf : w (mo + 6) = some (aZ X 8 rf)) (htk : w (mo + 8) = some (aZ X 7 tk)) (hsc : w (mo + 9) = some (aZ X 240 sc)) (hix : 0 ≤ ix ∧ ix + 3 < 240) (hk : sc ix = 3) (hrw : 0 ≤ sc (ix + 1) ∧ sc (ix + 1) ≤ 30) (hop : σ 4 < sc (ix + 1)) : CM l X yX9_does cX9_does 4 (some (.int)) (rmk 7 199) [.ref mo, .int (iI ix)] w (some (.int (iI (-3)))) (fun w' => w' (mo + 6) = some (aZ X 8 (up rf 3 (rf 3 + 1))) ∧ ∀ q : Nat, q ≠ mo + 6 → w' q = w q) := by
  refine CM.of (lv := [(0, .ref mo), (1, .int (iI ix))]) (by decide) (Nat.le_of_ble_eq_true rfl) rfl (fun p e s m below meth c ls F hr hlk hin hW hS hl => ?_)
  have hZ0 := hW.2.2
  have hB9 := hW.1.2
  clear hin
  refine lv_aload_n F.1 F.2.1 dX9_does_0 rfl (lv_at hl 0 rfl) ?_
  refine gf_RX9_42 F hW hM rfl dX9_does_1 ?_
  refine lv_iload_n F.1 F.2.1 dX9_does_4 rfl (lv_at hl 1 rfl) ?_
  refine h_iconst F dX9_does_5 ?_
  refine h_iadd (a := ix) (b := 1) F dX9_does_6 ?_
  refine h_iald F hW hsc (by omega) (by omega) dX9_does_7 ?_
  refine lv_istore_n (lv' := [(2, .int (iI (sc (ix + 1)))), (0, .ref mo), (1, .int (iI ix))]) F.1 F.2.1 dX9_does_8 rfl hl (by decide) rfl (fun ls hl => ?_)
  refine lv_aload_n F.1 F.2.1 dX9_does_9 rfl (lv_at hl 1 rfl) ?_
  refine gf_RX9_42 F hW hM rfl dX9_does_10 ?_
  refine lv_iload_n F.1 F.2.1 dX9_does_13 rfl (lv_at hl 2 rfl) ?_
  refine h_iconst F dX9_does_14 ?_
  refine h_iadd (a := ix) (b := 2) F dX9_does_15 ?_
  refine h_iald F hW hsc (by omega) (by omega) dX9_does_16 ?_
  refine lv_istore_n (lv' := [(3, .int (iI (sc (ix + 2)))), (2, .int (iI (sc (ix + 1)))), (0, .ref mo), (1, .int (iI ix))]) F.1 F.2.1 dX9_does_17 rfl hl (by decide) rfl (fun ls hl => ?_)
  refine lv_aload_n F.1 F.2.1 dX9_does_18 rfl (lv_at hl 2 rfl) ?_
  refine gf_RX9_42 F hW hM rfl dX9_does_19 ?_
  refine lv_iload_n F.1 F.2.1 dX9_does_22 rfl (lv_at hl 3 rfl) ?_
  refine h_iald F hW hsc (by omega) (by omega) dX9_does_23 ?_
  rcases (show sc ix = 3 by omega) with c1
  · refine lv_tableIn (off := 68) (tgt := 92) F.1 F.2.1 dX9_does_24 (by rw [iI_toInt (by omega)]; omega) (by rw [iI_toInt (by omega)]; omega) (by rw [iI_toInt (by omega), c1]; rfl) (by decide) ?_
    refine lv_aload_n F.1 F.2.1 dX9_does_92 rfl (lv_at hl 2 rfl) ?_
    refine lv_iload_n F.1 F.2.1 dX9_does_93 rfl (lv_at hl 1 rfl) ?_
    refine cl_RX9_260 (As := [.int (iI (sc (ix + 1)))]) (rest := []) F hl (c_unpicks_r3 l X w mo v σ rf (sc (ix + 1)) hM hs hwf hrf hrw hop) hW hS hM rfl rfl ⟨Nat.le_of_ble_eq_true rfl, Nat.le_of_ble_eq_true rfl⟩ (Nat.le_of_ble_eq_true rfl) ⟨Nat.zero_le _, Nat.zero_le _⟩ dX9_does_94 (fun w2 H locs hp3 hW hS => ?_)
    obtain ⟨ha4, hn5⟩ := hp3
    have hM := (hn5 _ (by omega)).trans hM
    have hs := (hn5 _ (by omega)).trans hs
    have hpa := (hn5 _ (by omega)).trans hpa
    have htk := (hn5 _ (by omega)).trans htk
    have hsc := (hn5 _ (by omega)).trans hsc
    exact h_ireti F hr hlk hW hS ⟨ha4, (fun q h09 => by rw [hn5 q (by omega)])⟩ dX9_does_97
set_option maxHeartbeats 4000000 in
set_option maxRecDepth 100000 in
theorem c_does_l0 (l : Launch) (X : Cx) (w : Wo) (mo : Nat) (v σ pa rf tk sc : Int → Int) (ix : Int) (hM : w mo = some (.inr (9, mL mo v))) (hs : w (mo + 1) = some (aZ X 1317 σ)) (hwf : WF σ) (hpa : w (mo + 3) = some (aZ X 10536 pa)) (hun : 0 ≤ v 5 ∧ v 5 ≤ 8) (hrf : w (mo + 6) = some (aZ X 8 rf)) (htk : w (mo + 8) = some (aZ X 7 tk)) (hsc : w (mo + 9) = some (aZ X 240 sc)) (hix : 0 ≤ ix ∧ ix + 3 < 240) (hk : sc ix = 4) : CM l X yX9_does cX9_does 4 (some (.int)) (rmk 7 199) [.ref mo, .int (iI ix)] w (some (.int (iI (misSeen (up σ 3 (σ 4)) - misSeen σ)))) (fun w' => w' mo = some (.inr (9, mL mo (up (up v 5 (min 8 (v 5 + 1))) 8 (v 8 + 1)))) ∧ w' (mo + 1) = some (aZ X 1317 (up σ 3 (σ 4))) ∧ w' (mo + 3) = some (aZ X 10536 (actP (v 5) pa σ)) ∧ ∀ q : Nat, q ≠ mo → q ≠ mo + 1 → q ≠ mo + 3 → w' q = w q) := by
  refine CM.of (lv := [(0, .ref mo), (1, .int (iI ix))]) (by decide) (Nat.le_of_ble_eq_true rfl) rfl (fun p e s m below meth c ls F hr hlk hin hW hS hl => ?_)
  have hZ0 := hW.2.2
  have hB9 := hW.1.2
  clear hin
  refine lv_aload_n F.1 F.2.1 dX9_does_0 rfl (lv_at hl 0 rfl) ?_
  refine gf_RX9_42 F hW hM rfl dX9_does_1 ?_
  refine lv_iload_n F.1 F.2.1 dX9_does_4 rfl (lv_at hl 1 rfl) ?_
  refine h_iconst F dX9_does_5 ?_
  refine h_iadd (a := ix) (b := 1) F dX9_does_6 ?_
  refine h_iald F hW hsc (by omega) (by omega) dX9_does_7 ?_
  refine lv_istore_n (lv' := [(2, .int (iI (sc (ix + 1)))), (0, .ref mo), (1, .int (iI ix))]) F.1 F.2.1 dX9_does_8 rfl hl (by decide) rfl (fun ls hl => ?_)
  refine lv_aload_n F.1 F.2.1 dX9_does_9 rfl (lv_at hl 1 rfl) ?_
  refine gf_RX9_42 F hW hM rfl dX9_does_10 ?_
  refine lv_iload_n F.1 F.2.1 dX9_does_13 rfl (lv_at hl 2 rfl) ?_
  refine h_iconst F dX9_does_14 ?_
  refine h_iadd (a := ix) (b := 2) F dX9_does_15 ?_
  refine h_iald F hW hsc (by omega) (by omega) dX9_does_16 ?_
  refine lv_istore_n (lv' := [(3, .int (iI (sc (ix + 2)))), (2, .int (iI (sc (ix + 1)))), (0, .ref mo), (1, .int (iI ix))]) F.1 F.2.1 dX9_does_17 rfl hl (by decide) rfl (fun ls hl => ?_)
  refine lv_aload_n F.1 F.2.1 dX9_does_18 rfl (lv_at hl 2 rfl) ?_
  refine gf_RX9_42 F hW hM rfl dX9_does_19 ?_
  refine lv_iload_n F.1 F.2.1 dX9_does_22 rfl (lv_at hl 3 rfl) ?_
  refine h_iald F hW hsc (by omega) (by omega) dX9_does_23 ?_
  rcases (show (sc ix < 0 ∨ 3 < sc ix) by omega) with c1
  · refine lv_tableOut (tgt := 98) F.1 F.2.1 dX9_does_24 (by rw [iI_toInt (by omega)]; exact c1) (by decide) ?_
    refine lv_aload_n F.1 F.2.1 dX9_does_98 rfl (lv_at hl 2 rfl) ?_
    refine cl_RX9_263 (As := []) (rest := []) F hl (c_X9_looks l X w mo v σ pa hM hs hwf hpa (by omega)) hW hS hM rfl rfl ⟨Nat.le_of_ble_eq_true rfl, Nat.le_of_ble_eq_true rfl⟩ (Nat.le_of_ble_eq_true rfl) ⟨Nat.zero_le _, Nat.zero_le _⟩ dX9_does_99 (fun w2 H locs hp3 hW hS => ?_)
    obtain ⟨ho4, ha5, ha6, hn7⟩ := hp3
    have hrf := (hn7 _ (by omega) (by omega) (by omega)).trans hrf
    have htk := (hn7 _ (by omega) (by omega) (by omega)).trans htk
    have hsc := (hn7 _ (by omega) (by omega) (by omega)).trans hsc
    exact h_ireti F hr hlk hW hS ⟨ho4, ha5, ha6, (fun q h09 h19 h29 => by rw [hn7 q (by omega) (by omega) (by omega)])⟩ dX9_does_102
