def btS (σ : Int → Int) : Int → Int := up (beatN σ (σ 0).toNat) 4 (σ 4 + 1)
theorem beatN_f {σ : Int → Int} {i : Int} (h : 0 ≤ i) (hc : cellS (beatN σ i.toNat) i (σ 4) ≠ -1) : beatN σ (i + 1).toNat = beatN σ i.toNat := by
  rw [show (i + 1).toNat = i.toNat + 1 by omega]
  show (if cellS _ (i.toNat : Int) (σ 4) = -1 then _ else _) = _
  rw [show (i.toNat : Int) = i by omega, if_neg hc]
theorem beatN_t {σ : Int → Int} {i : Int} (h : 0 ≤ i) (hc : cellS (beatN σ i.toNat) i (σ 4) = -1) : beatN σ (i + 1).toNat = giveS (beatN σ i.toNat) i (σ 4) 0 := by
  rw [show (i + 1).toNat = i.toNat + 1 by omega]
  show (if cellS _ (i.toNat : Int) (σ 4) = -1 then giveS _ (i.toNat : Int) (σ 4) 0 else _) = _
  rw [show (i.toNat : Int) = i by omega, if_pos hc]
theorem passN_t {σ : Int → Int} {co fr i : Int} (h : fr ≤ i) : passN σ co fr (i + 1 - fr).toNat = giveS (passN σ co fr (i - fr).toNat) (turnS σ i) (σ 4) co := by
  rw [show (i + 1 - fr).toNat = (i - fr).toNat + 1 by omega]
  show giveS _ (turnS σ (fr + ((i - fr).toNat : Int))) _ _ = _
  rw [show fr + ((i - fr).toNat : Int) = i by omega]
theorem beat_fu {σ : Int → Int} (h : WF σ) (hop : σ 4 < σ 1) (c : Int) (c0 : 0 ≤ c) (c1 : c < σ 0) : 0 ≤ cellS (beatN σ (σ 0).toNat) c (σ 4) := by
  have w0 := h.1
  unfold WF0 at w0
  rw [beat_cell (by omega) (by omega) _ (by omega)]
  have := h.2.2.2.1 c (σ 4) c0 c1 (by omega) hop
  split
  · decide
  · rename_i g
    have : cellS σ c (σ 4) ≠ -1 := fun z => g ⟨rfl, by omega, z⟩
    omega
set_option maxHeartbeats 4000000 in
set_option maxRecDepth 100000 in
theorem c_doPass_r1 (l : Launch) (X : Cx) (w : Wo) (y : Nat) (su : Int) (ac : Int → Int) (σ : Int → Int) (nx sz : Int) (pas : Int → Int → Int) (co fr to : Int) (hY : clO X w y su) (hac : w (y + 305) = some (aZ X 9 ac)) (hL : loomAt X w (y + 1) σ) (hH : hisAt X w (y + 53) nx sz pas) (hco : 0 ≤ co ∧ co < 7) (hft : 0 ≤ fr ∧ fr ≤ to ∧ to < σ 0) (hop : σ 4 = σ 1) : CM l X yX8_doPass cX8_doPass 6 (some (.int)) (rmk 5 128) [.ref y, .int (iI co), .int (iI fr), .int (iI to)] w (some (.int (iI (-1)))) (fun w' => w' (y + 305) = some (aZ X 9 (up ac 1 (ac 1 + 1))) ∧ ∀ q : Nat, q ≠ y + 305 → w' q = w q) := by
  refine CM.of (lv := [(0, .ref y), (1, .int (iI co)), (2, .int (iI fr)), (3, .int (iI to))]) (by decide) (Nat.le_of_ble_eq_true rfl) rfl (fun p e s m below meth c ls F hr hlk hin hW hS hl => ?_)
  have hZ0 := hW.2.2
  have hB9 := hW.1.2
  clear hin
  unfold clO at hY
  have hO := hL.1.o
  have hA := hL.1
  have hwf := hL.2.2
  have hF := hwf.1
  unfold WF0 at hF
  have hsr := hwf.2.1 co (by omega) (by omega)
  refine lv_iload_n F.1 F.2.1 dX8_doPass_0 rfl (lv_at hl 3 rfl) ?_
  refine lv_iload_n F.1 F.2.1 dX8_doPass_1 rfl (lv_at hl 2 rfl) ?_
  refine h_isub (a := to) (b := fr) F dX8_doPass_2 ?_
  refine h_iconst F dX8_doPass_3 ?_
  refine h_iadd (a := to - fr) (b := 1) F dX8_doPass_4 ?_
  refine lv_istore (lv' := [(4, .int (iI ((to - fr) + 1))), (0, .ref y), (1, .int (iI co)), (2, .int (iI fr)), (3, .int (iI to))]) F.1 F.2.1 dX8_doPass_5 hl (by decide) rfl (fun ls hl => ?_)
  refine lv_aload_n F.1 F.2.1 dX8_doPass_7 rfl (lv_at hl 1 rfl) ?_
  refine gf_RX8_10 F hW hY rfl dX8_doPass_8 ?_
  refine cl_RX8_277 (As := []) (rest := []) F hl (c_X5_isOpen l X w (y + 1) σ hA hwf) hW hS hO rfl rfl ⟨Nat.le_of_ble_eq_true rfl, Nat.le_of_ble_eq_true rfl⟩ (Nat.le_of_ble_eq_true rfl) ⟨Nat.zero_le _, Nat.zero_le _⟩ dX8_doPass_11 (fun w1 H locs hp1 hW hS => ?_)
  rw [hp1] at hW; clear hp1; clear w1
  refine h_ifneb (tgt := 23) F dX8_doPass_14 (by decide) (fun c2 => ?_) (fun c2 => ?_)
  · have c2d := of_decide_eq_true c2
    exfalso; omega
  · have c2d := of_decide_eq_false c2
    refine lv_aload_n F.1 F.2.1 dX8_doPass_17 rfl (lv_at hl 1 rfl) ?_
    refine h_iconst F dX8_doPass_18 ?_
    refine cl_RX8_374 (As := [.int (iI 1)]) (rest := []) F hl (c_X8_refuse l X w y su ac 1 hY hac (by omega)) hW hS hY rfl rfl ⟨Nat.le_of_ble_eq_true rfl, Nat.le_of_ble_eq_true rfl⟩ (Nat.le_of_ble_eq_true rfl) ⟨Nat.zero_le _, Nat.zero_le _⟩ dX8_doPass_19 (fun w3 H locs hp4 hW hS => ?_)
    obtain ⟨ha5, hn6⟩ := hp4
    have hY := (hn6 _ (by omega)).trans hY
    have hO := (hn6 _ (by omega)).trans hO
    exact h_ireti F hr hlk hW hS ⟨ha5, (fun q h09 => by rw [hn6 q (by omega)])⟩ dX8_doPass_22
set_option maxHeartbeats 4000000 in
set_option maxRecDepth 100000 in
theorem c_doPass_r2 (l : Launch) (X : Cx) (w : Wo) (y : Nat) (su : Int) (ac : Int → Int) (σ : Int → Int) (nx sz : Int) (pas : Int → Int → Int) (co fr to : Int) (hY : clO X w y su) (hac : w (y + 305) = some (aZ X 9 ac)) (hL : loomAt X w (y + 1) σ) (hH : hisAt X w (y + 53) nx sz pas) (hco : 0 ≤ co ∧ co < 7) (hft : 0 ≤ fr ∧ fr ≤ to ∧ to < σ 0) (hop : σ 4 < σ 1) (hst : σ (6 + co) < to - fr + 1) : CM l X yX8_doPass cX8_doPass 6 (some (.int)) (rmk 5 128) [.ref y, .int (iI co), .int (iI fr), .int (iI to)] w (some (.int (iI (-2)))) (fun w' => w' (y + 305) = some (aZ X 9 (up ac 2 (ac 2 + 1))) ∧ ∀ q : Nat, q ≠ y + 305 → w' q = w q) := by
  refine CM.of (lv := [(0, .ref y), (1, .int (iI co)), (2, .int (iI fr)), (3, .int (iI to))]) (by decide) (Nat.le_of_ble_eq_true rfl) rfl (fun p e s m below meth c ls F hr hlk hin hW hS hl => ?_)
  have hZ0 := hW.2.2
  have hB9 := hW.1.2
  clear hin
  unfold clO at hY
  have hO := hL.1.o
  have hA := hL.1
  have hwf := hL.2.2
  have hF := hwf.1
  unfold WF0 at hF
  have hsr := hwf.2.1 co (by omega) (by omega)
  refine lv_iload_n F.1 F.2.1 dX8_doPass_0 rfl (lv_at hl 3 rfl) ?_
  refine lv_iload_n F.1 F.2.1 dX8_doPass_1 rfl (lv_at hl 2 rfl) ?_
  refine h_isub (a := to) (b := fr) F dX8_doPass_2 ?_
  refine h_iconst F dX8_doPass_3 ?_
  refine h_iadd (a := to - fr) (b := 1) F dX8_doPass_4 ?_
  refine lv_istore (lv' := [(4, .int (iI ((to - fr) + 1))), (0, .ref y), (1, .int (iI co)), (2, .int (iI fr)), (3, .int (iI to))]) F.1 F.2.1 dX8_doPass_5 hl (by decide) rfl (fun ls hl => ?_)
  refine lv_aload_n F.1 F.2.1 dX8_doPass_7 rfl (lv_at hl 1 rfl) ?_
  refine gf_RX8_10 F hW hY rfl dX8_doPass_8 ?_
  refine cl_RX8_277 (As := []) (rest := []) F hl (c_X5_isOpen l X w (y + 1) σ hA hwf) hW hS hO rfl rfl ⟨Nat.le_of_ble_eq_true rfl, Nat.le_of_ble_eq_true rfl⟩ (Nat.le_of_ble_eq_true rfl) ⟨Nat.zero_le _, Nat.zero_le _⟩ dX8_doPass_11 (fun w1 H locs hp1 hW hS => ?_)
  rw [hp1] at hW; clear hp1; clear w1
  refine h_ifneb (tgt := 23) F dX8_doPass_14 (by decide) (fun c2 => ?_) (fun c2 => ?_)
  · have c2d := of_decide_eq_true c2
    refine lv_aload_n F.1 F.2.1 dX8_doPass_23 rfl (lv_at hl 1 rfl) ?_
    refine gf_RX8_10 F hW hY rfl dX8_doPass_24 ?_
    refine lv_iload_n F.1 F.2.1 dX8_doPass_27 rfl (lv_at hl 2 rfl) ?_
    refine cl_RX8_248 (As := [.int (iI co)]) (rest := []) F hl (c_X5_stockOf l X w (y + 1) σ co hA hwf (by omega)) hW hS hO rfl rfl ⟨Nat.le_of_ble_eq_true rfl, Nat.le_of_ble_eq_true rfl⟩ (Nat.le_of_ble_eq_true rfl) ⟨Nat.zero_le _, Nat.zero_le _⟩ dX8_doPass_28 (fun w1 H locs hp3 hW hS => ?_)
    rw [hp3] at hW; clear hp3; clear w1
    refine lv_iload F.1 F.2.1 dX8_doPass_31 (lv_at hl 0 rfl) ?_
    refine h_icge (tgt := 42) F dX8_doPass_33 (by decide) (by omega) (fun c4 => ?_) (fun c4 => ?_)
    · exfalso; omega
    · refine lv_aload_n F.1 F.2.1 dX8_doPass_36 rfl (lv_at hl 1 rfl) ?_
      refine h_iconst F dX8_doPass_37 ?_
      refine cl_RX8_374 (As := [.int (iI 2)]) (rest := []) F hl (c_X8_refuse l X w y su ac 2 hY hac (by omega)) hW hS hY rfl rfl ⟨Nat.le_of_ble_eq_true rfl, Nat.le_of_ble_eq_true rfl⟩ (Nat.le_of_ble_eq_true rfl) ⟨Nat.zero_le _, Nat.zero_le _⟩ dX8_doPass_38 (fun w5 H locs hp6 hW hS => ?_)
      obtain ⟨ha7, hn8⟩ := hp6
      have hY := (hn8 _ (by omega)).trans hY
      have hO := (hn8 _ (by omega)).trans hO
      exact h_ireti F hr hlk hW hS ⟨ha7, (fun q h09 => by rw [hn8 q (by omega)])⟩ dX8_doPass_41
  · have c2d := of_decide_eq_false c2
    exfalso; omega
set_option maxHeartbeats 4000000 in
set_option maxRecDepth 100000 in
theorem c_X8_doPass (l : Launch) (X : Cx) (w : Wo) (y : Nat) (su : Int) (ac : Int → Int) (σ : Int → Int) (nx sz : Int) (pas : Int → Int → Int) (co fr to : Int) (hY : clO X w y su) (hac : w (y + 305) = some (aZ X 9 ac)) (hL : loomAt X w (y + 1) σ) (hH : hisAt X w (y + 53) nx sz pas) (hco : 0 ≤ co ∧ co < 7) (hft : 0 ≤ fr ∧ fr ≤ to ∧ to < σ 0) (hop : σ 4 < σ 1) (hst : to - fr + 1 ≤ σ (6 + co)) : CM l X yX8_doPass cX8_doPass 6 (some (.int)) (rmk 5 128) [.ref y, .int (iI co), .int (iI fr), .int (iI to)] w (some (.int (iI (σ (6 + co) - (to - fr + 1))))) (fun w' => w' (y + 305) = some (aZ X 9 (up ac 0 (ac 0 + 1))) ∧ hisAt X w' (y + 53) ((if nx = 8 then 0 else nx) + 1) (min 8 (sz + 1)) (keepP sz pas σ) ∧ loomAt X w' (y + 1) (passN σ co fr (to - fr + 1).toNat) ∧ ∀ q : Nat, q ≠ y + 305 → q ≠ y + 1 + 2 → q ≠ y + 1 + 5 → (q < y + 53 ∨ y + 255 ≤ q) → w' q = w q) := by
  refine CM.of (lv := [(0, .ref y), (1, .int (iI co)), (2, .int (iI fr)), (3, .int (iI to))]) (by decide) (Nat.le_of_ble_eq_true rfl) rfl (fun p e s m below meth c ls F hr hlk hin hW hS hl => ?_)
  have hZ0 := hW.2.2
  have hB9 := hW.1.2
  clear hin
  unfold clO at hY
  have hO := hL.1.o
  have hA := hL.1
  have hwf := hL.2.2
  have hF := hwf.1
  unfold WF0 at hF
  have hsr := hwf.2.1 co (by omega) (by omega)
  refine lv_iload_n F.1 F.2.1 dX8_doPass_0 rfl (lv_at hl 3 rfl) ?_
  refine lv_iload_n F.1 F.2.1 dX8_doPass_1 rfl (lv_at hl 2 rfl) ?_
  refine h_isub (a := to) (b := fr) F dX8_doPass_2 ?_
  refine h_iconst F dX8_doPass_3 ?_
  refine h_iadd (a := to - fr) (b := 1) F dX8_doPass_4 ?_
  refine lv_istore (lv' := [(4, .int (iI ((to - fr) + 1))), (0, .ref y), (1, .int (iI co)), (2, .int (iI fr)), (3, .int (iI to))]) F.1 F.2.1 dX8_doPass_5 hl (by decide) rfl (fun ls hl => ?_)
  refine lv_aload_n F.1 F.2.1 dX8_doPass_7 rfl (lv_at hl 1 rfl) ?_
  refine gf_RX8_10 F hW hY rfl dX8_doPass_8 ?_
  refine cl_RX8_277 (As := []) (rest := []) F hl (c_X5_isOpen l X w (y + 1) σ hA hwf) hW hS hO rfl rfl ⟨Nat.le_of_ble_eq_true rfl, Nat.le_of_ble_eq_true rfl⟩ (Nat.le_of_ble_eq_true rfl) ⟨Nat.zero_le _, Nat.zero_le _⟩ dX8_doPass_11 (fun w1 H locs hp1 hW hS => ?_)
  rw [hp1] at hW; clear hp1; clear w1
  refine h_ifneb (tgt := 23) F dX8_doPass_14 (by decide) (fun c2 => ?_) (fun c2 => ?_)
  · have c2d := of_decide_eq_true c2
    refine lv_aload_n F.1 F.2.1 dX8_doPass_23 rfl (lv_at hl 1 rfl) ?_
    refine gf_RX8_10 F hW hY rfl dX8_doPass_24 ?_
    refine lv_iload_n F.1 F.2.1 dX8_doPass_27 rfl (lv_at hl 2 rfl) ?_
    refine cl_RX8_248 (As := [.int (iI co)]) (rest := []) F hl (c_X5_stockOf l X w (y + 1) σ co hA hwf (by omega)) hW hS hO rfl rfl ⟨Nat.le_of_ble_eq_true rfl, Nat.le_of_ble_eq_true rfl⟩ (Nat.le_of_ble_eq_true rfl) ⟨Nat.zero_le _, Nat.zero_le _⟩ dX8_doPass_28 (fun w1 H locs hp3 hW hS => ?_)
    rw [hp3] at hW; clear hp3; clear w1
    refine lv_iload F.1 F.2.1 dX8_doPass_31 (lv_at hl 0 rfl) ?_
    refine h_icge (tgt := 42) F dX8_doPass_33 (by decide) (by omega) (fun c4 => ?_) (fun c4 => ?_)
    · refine lv_aload_n F.1 F.2.1 dX8_doPass_42 rfl (lv_at hl 1 rfl) ?_
      refine cl_RX8_380 (As := []) (rest := []) F hl (c_X8_beginAct l X w y su ac σ nx sz pas hY hac hL hH) hW hS hY rfl rfl ⟨Nat.le_of_ble_eq_true rfl, Nat.le_of_ble_eq_true rfl⟩ (Nat.le_of_ble_eq_true rfl) ⟨Nat.zero_le _, Nat.zero_le _⟩ dX8_doPass_43 (fun w5 H locs hp6 hW hS => ?_)
      obtain ⟨ha7, hmB, hn8⟩ := hp6
      have hY := (hn8 _ (by omega) (by omega)).trans hY
      have hO := (hn8 _ (by omega) (by omega)).trans hO
      have hLb := hL.mv (w2 := w5) (fun q h1 h2 => hn8 q (by omega) (by omega))
      refine lv_iload_n F.1 F.2.1 dX8_doPass_46 rfl (lv_at hl 3 rfl) ?_
      refine lv_istore (lv' := [(5, .int (iI fr)), (4, .int (iI ((to - fr) + 1))), (0, .ref y), (1, .int (iI co)), (2, .int (iI fr)), (3, .int (iI to))]) F.1 F.2.1 dX8_doPass_47 hl (by decide) rfl (fun ls hl => ?_)
      have loop49 : ∀ (n9 : Nat) (i : Int), (hrg : fr ≤ i ∧ i ≤ to + 1) → (hms : to + 1 - i < (n9 : Int)) → (w9 : Wo) → (hF49 : ∀ q : Nat, q ≠ y + 1 + 2 → q ≠ y + 1 + 5 → w9 q = w5 q) → (hL9 : loomAt X w9 (y + 1) (passN σ co fr (i - fr).toNat)) → (H : Heap) → (locs : List Loc) → (ls : Array Slot) → Wd X w9 s H → va_S (cxA X) s.heap H locs → lv_has ls 6 [(5, .int (iI i)), (4, .int (iI ((to - fr) + 1))), (0, .ref y), (1, .int (iI co)), (2, .int (iI fr)), (3, .int (iI to))] → W p l e (rmk 5 128) s m (List.toArray [.ref y, .int (iI co), .int (iI fr), .int (iI to)]) below meth c H locs 0 0 (MX X below (List.toArray [.ref y, .int (iI co), .int (iI fr), .int (iI to)]) s 0 0 (some (.int (iI (σ (6 + co) - (to - fr + 1))))) (fun w' => w' (y + 305) = some (aZ X 9 (up ac 0 (ac 0 + 1))) ∧ hisAt X w' (y + 53) ((if nx = 8 then 0 else nx) + 1) (min 8 (sz + 1)) (keepP sz pas σ) ∧ loomAt X w' (y + 1) (passN σ co fr (to - fr + 1).toNat) ∧ ∀ q : Nat, q ≠ y + 305 → q ≠ y + 1 + 2 → q ≠ y + 1 + 5 → (q < y + 53 ∨ y + 255 ≤ q) → w' q = w q)) (F0 m 49 ls []) := by
        intro n9
        induction n9 with
        | zero => intro i  hrg hms; exfalso; omega
        | succ n9 ih49 =>
          intro i  hrg hms w9 hF49 hL9 H locs ls hW hS hl
          have hY := (hF49 _ (by omega) (by omega)).trans hY
          have hO := (hF49 _ (by omega) (by omega)).trans hO
          have ha7 := (hF49 _ (by omega) (by omega)).trans ha7
          have hwt := pass_WF (co := co) (fr := fr) hwf hco (by omega) (i - fr).toNat (by omega) (by omega)
          obtain ⟨τ, hτ⟩ : ∃ τ, τ = passN σ co fr (i - fr).toNat := ⟨_, rfl⟩
          rw [← hτ] at hL9 hwt
          have hlo := fun p (h1 : p < 117) (h2 : p ≠ 6 + co) => pass_lo (σ := σ) (co := co) (fr := fr) (p := p) (by omega) h1 h2 (i - fr).toNat (by omega) (by omega)
          rw [← hτ] at hlo
          have ht0 := hlo 0 (by decide) (by omega)
          have ht1 := hlo 1 (by decide) (by omega)
          have ht4 := hlo 4 (by decide) (by omega)
          have hA := hL9.1
          have hOt := hA.o
          have htt : i ≤ to → 0 ≤ turnS σ i ∧ turnS σ i < σ 0 := by intro z; unfold turnS; omega
          refine lv_iload F.1 F.2.1 dX8_doPass_49 (lv_at hl 0 rfl) ?_
          refine lv_iload_n F.1 F.2.1 dX8_doPass_51 rfl (lv_at hl 5 rfl) ?_
          refine h_icgt (tgt := 85) F dX8_doPass_52 (by decide) (by omega) (fun c9 => ?_) (fun c9 => ?_)
          · refine lv_aload_n F.1 F.2.1 dX8_doPass_85 rfl (lv_at hl 2 rfl) ?_
            refine gf_RX8_10 F hW hY rfl dX8_doPass_86 ?_
            refine lv_iload_n F.1 F.2.1 dX8_doPass_89 rfl (lv_at hl 3 rfl) ?_
            refine cl_RX8_248 (As := [.int (iI co)]) (rest := []) F hl (c_X5_stockOf l X w9 (y + 1) τ co hA hwt (by omega)) hW hS hOt rfl rfl ⟨Nat.le_of_ble_eq_true rfl, Nat.le_of_ble_eq_true rfl⟩ (Nat.le_of_ble_eq_true rfl) ⟨Nat.zero_le _, Nat.zero_le _⟩ dX8_doPass_90 (fun w1 H locs hp10 hW hS => ?_)
            rw [hp10] at hW; clear hp10; clear w1
            refine h_top (show (τ (6 + co) : Int) = σ (6 + co) - (to - fr + 1) from by rw [hτ, pass_st]; omega) ?_
            exact h_ireti F hr hlk hW hS ⟨ha7, hmB.mv (fun q h1 h2 => hF49 q (by omega) (by omega)), (by rw [show (to - fr + 1).toNat = (i - fr).toNat by omega, ← hτ]; exact hL9), (fun q h09 h19 h29 h39 => by rw [hF49 q (by omega) (by omega), hn8 q (by omega) (by omega)])⟩ dX8_doPass_93
          · refine lv_aload_n F.1 F.2.1 dX8_doPass_55 rfl (lv_at hl 2 rfl) ?_
            refine gf_RX8_10 F hW hY rfl dX8_doPass_56 ?_
            refine lv_aload_n F.1 F.2.1 dX8_doPass_59 rfl (lv_at hl 2 rfl) ?_
            refine gf_RX8_10 F hW hY rfl dX8_doPass_60 ?_
            refine lv_iload F.1 F.2.1 dX8_doPass_63 (lv_at hl 0 rfl) ?_
            refine cl_RX8_403 (As := [.int (iI i)]) (rest := [.ref (y + 1)]) F hl (c_X5_turned l X w9 (y + 1) τ i hA hwt) hW hS hOt rfl rfl ⟨Nat.le_of_ble_eq_true rfl, Nat.le_of_ble_eq_true rfl⟩ (Nat.le_of_ble_eq_true rfl) ⟨Nat.zero_le _, Nat.zero_le _⟩ dX8_doPass_65 (fun w1 H locs hp11 hW hS => ?_)
            rw [hp11] at hW; clear hp11; clear w1
            refine h_top (show (turnS τ i : Int) = turnS σ i from by unfold turnS; rw [ht0]) ?_
            refine lv_aload_n F.1 F.2.1 dX8_doPass_68 rfl (lv_at hl 2 rfl) ?_
            refine gf_RX8_10 F hW hY rfl dX8_doPass_69 ?_
            refine gf_RX8_148 F hW hOt rfl dX8_doPass_72 ?_
            refine h_top (show (τ 4 : Int) = σ 4 from ht4) ?_
            refine lv_iload_n F.1 F.2.1 dX8_doPass_75 rfl (lv_at hl 3 rfl) ?_
            have htt := htt (by omega)
            refine cl_RX8_466 (As := [.int (iI (turnS σ i)), .int (iI (σ 4)), .int (iI co)]) (rest := []) F hl (c_X5_giveCell l X w9 (y + 1) τ (turnS σ i) (σ 4) co hA hwt.cap8 (by omega) (by omega) (by omega)) hW hS hOt rfl rfl ⟨Nat.le_of_ble_eq_true rfl, Nat.le_of_ble_eq_true rfl⟩ (Nat.le_of_ble_eq_true rfl) ⟨Nat.zero_le _, Nat.zero_le _⟩ dX8_doPass_76 (fun w12 H locs hp13 hW hS => ?_)
            obtain ⟨hm9, hn14⟩ := hp13
            have hY := (hn14 _ (by omega) (by omega)).trans hY
            have hOt := (hn14 _ (by omega) (by omega)).trans hOt
            have ha7 := (hn14 _ (by omega) (by omega)).trans ha7
            have hpt : passN σ co fr (i + 1 - fr).toNat = giveS τ (turnS σ i) (σ 4) co := by rw [hτ]; exact passN_t (by omega)
            have hL8 : loomAt X w12 (y + 1) (passN σ co fr (i + 1 - fr).toNat) := by rw [hpt]; exact give_loom hL9 hm9 (by rw [← hpt]; exact pass_WF hwf hco (by omega) _ (by omega) (by omega)) (by omega) (by omega) (hn14 _ (by omega) (by omega)) (hn14 _ (by omega) (by omega))
            refine h_iinc (k := 0) (a := i) (lv' := [(5, .int (iI (i + 1))), (4, .int (iI ((to - fr) + 1))), (0, .ref y), (1, .int (iI co)), (2, .int (iI fr)), (3, .int (iI to))]) F dX8_doPass_79 hl rfl (by decide) rfl (fun ls hl => ?_)
            refine h_goto (tgt := 49) F dX8_doPass_82 (by decide) ?_
            have eq15 : ((i + 1) : Int) = i + 1 := by first | rfl | omega | simp
            exact ih49 (i + 1)  (by omega) (by omega) w12 (fun q h09 h19 => by rw [hn14 q (by omega) (by omega), hF49 q (by omega) (by omega)]) hL8 _ _ ls hW hS (by rw [eq15]; exact lv_sub hl [0, 1, 2, 3, 4, 5] rfl)
      exact loop49 ((to + 1 - fr) + 1 : Int).toNat fr  (by omega) (by omega) w5 (fun q _ _ => rfl) (by rw [show (fr - fr).toNat = 0 by omega]; exact hLb) _ _ ls hW hS (lv_sub hl [0, 1, 2, 3, 4, 5] rfl)
    · exfalso; omega
  · have c2d := of_decide_eq_false c2
    exfalso; omega
