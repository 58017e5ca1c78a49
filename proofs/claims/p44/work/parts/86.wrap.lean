set_option maxHeartbeats 4000000 in
set_option maxRecDepth 100000 in
theorem c_pass_r1 (l : Launch) (X : Cx) (w : Wo) (y : Nat) (su : Int) (ac : Int → Int) (σ : Int → Int) (nx sz : Int) (pas : Int → Int → Int) (co fr to : Int) (hY : clO X w y su) (hac : w (y + 305) = some (aZ X 9 ac)) (hL : loomAt X w (y + 1) σ) (hH : hisAt X w (y + 53) nx sz pas) (hco : 0 ≤ co ∧ co < 7) (hft : 0 ≤ fr ∧ fr ≤ to ∧ to < σ 0) (hop : σ 4 = σ 1) : CM l X yX8_pass cX8_pass 4 (some (.int)) (rmk 6 153) [.ref y, .int (iI co), .int (iI fr), .int (iI to)] w (some (.int (iI (-1)))) (fun w' => w' (y + 305) = some (aZ X 9 (up ac 1 (ac 1 + 1))) ∧ ∀ q : Nat, q ≠ y + 305 → w' q = w q) := by
  refine CM.of (lv := [(0, .ref y), (1, .int (iI co)), (2, .int (iI fr)), (3, .int (iI to))]) (by decide) (Nat.le_of_ble_eq_true rfl) rfl (fun p e s m below meth c ls F hr hlk hin hW hS hl => ?_)
  have hZ0 := hW.2.2
  have hB9 := hW.1.2
  clear hin
  unfold clO at hY
  have hO := hL.1.o
  have hA := hL.1
  have hwf := hL.2.2
  have hF := hwf.1
  unfold WF0 at hF
  have hsr := hwf.2.1 co (by omega) (by omega)
  refine lv_aload_n F.1 F.2.1 dX8_pass_0 rfl (lv_at hl 0 rfl) ?_
  refine lv_iload_n F.1 F.2.1 dX8_pass_1 rfl (lv_at hl 1 rfl) ?_
  refine cl_RX8_245 (As := [.int (iI co)]) (rest := []) F hl (c_X8_checkColour l X w y su σ co hY hL (by omega)) hW hS hY rfl rfl ⟨Nat.le_of_ble_eq_true rfl, Nat.le_of_ble_eq_true rfl⟩ (Nat.le_of_ble_eq_true rfl) ⟨Nat.zero_le _, Nat.zero_le _⟩ dX8_pass_2 (fun w1 H locs hp1 hW hS => ?_)
  rw [hp1] at hW; clear hp1; clear w1
  refine lv_aload_n F.1 F.2.1 dX8_pass_5 rfl (lv_at hl 0 rfl) ?_
  refine gf_RX8_10 F hW hY rfl dX8_pass_6 ?_
  refine lv_iload_n F.1 F.2.1 dX8_pass_9 rfl (lv_at hl 2 rfl) ?_
  refine cl_RX8_342 (As := [.int (iI fr)]) (rest := []) F hl (c_X5_hasColumn l X w (y + 1) σ fr hA hwf (by omega)) hW hS hO rfl rfl ⟨Nat.le_of_ble_eq_true rfl, Nat.le_of_ble_eq_true rfl⟩ (Nat.le_of_ble_eq_true rfl) ⟨Nat.zero_le _, Nat.zero_le _⟩ dX8_pass_10 (fun w1 H locs hp2 hW hS => ?_)
  rw [hp2] at hW; clear hp2; clear w1
  refine h_ifeqb (tgt := 27) F dX8_pass_13 (by decide) (fun c3 => ?_) (fun c3 => ?_)
  · have c3d := of_decide_eq_false c3
    exfalso; omega
  · have c3d := of_decide_eq_true c3
    refine lv_aload_n F.1 F.2.1 dX8_pass_16 rfl (lv_at hl 0 rfl) ?_
    refine gf_RX8_10 F hW hY rfl dX8_pass_17 ?_
    refine lv_iload_n F.1 F.2.1 dX8_pass_20 rfl (lv_at hl 3 rfl) ?_
    refine cl_RX8_342 (As := [.int (iI to)]) (rest := []) F hl (c_X5_hasColumn l X w (y + 1) σ to hA hwf (by omega)) hW hS hO rfl rfl ⟨Nat.le_of_ble_eq_true rfl, Nat.le_of_ble_eq_true rfl⟩ (Nat.le_of_ble_eq_true rfl) ⟨Nat.zero_le _, Nat.zero_le _⟩ dX8_pass_21 (fun w1 H locs hp4 hW hS => ?_)
    rw [hp4] at hW; clear hp4; clear w1
    refine h_ifneb (tgt := 38) F dX8_pass_24 (by decide) (fun c5 => ?_) (fun c5 => ?_)
    · have c5d := of_decide_eq_true c5
      refine lv_iload_n F.1 F.2.1 dX8_pass_38 rfl (lv_at hl 3 rfl) ?_
      refine lv_iload_n F.1 F.2.1 dX8_pass_39 rfl (lv_at hl 2 rfl) ?_
      refine h_icge (tgt := 54) F dX8_pass_40 (by decide) (by omega) (fun c6 => ?_) (fun c6 => ?_)
      · refine lv_aload_n F.1 F.2.1 dX8_pass_54 rfl (lv_at hl 0 rfl) ?_
        refine lv_iload_n F.1 F.2.1 dX8_pass_55 rfl (lv_at hl 1 rfl) ?_
        refine lv_iload_n F.1 F.2.1 dX8_pass_56 rfl (lv_at hl 2 rfl) ?_
        refine lv_iload_n F.1 F.2.1 dX8_pass_57 rfl (lv_at hl 3 rfl) ?_
        refine cl_RX8_349 (As := [.int (iI co), .int (iI fr), .int (iI to)]) (rest := []) F hl (c_doPass_r1 l X w y su ac σ nx sz pas co fr to hY hac hL hH (by omega) (by omega) (by omega)) hW hS hY rfl rfl ⟨Nat.le_of_ble_eq_true rfl, Nat.le_of_ble_eq_true rfl⟩ (Nat.le_of_ble_eq_true rfl) ⟨Nat.zero_le _, Nat.zero_le _⟩ dX8_pass_58 (fun w7 H locs hp8 hW hS => ?_)
        obtain ⟨ha9, hn10⟩ := hp8
        have hY := (hn10 _ (by omega)).trans hY
        have hO := (hn10 _ (by omega)).trans hO
        exact h_ireti F hr hlk hW hS ⟨ha9, (fun q h09 => by rw [hn10 q (by omega)])⟩ dX8_pass_61
      · exfalso; omega
    · have c5d := of_decide_eq_false c5
      exfalso; omega
set_option maxHeartbeats 4000000 in
set_option maxRecDepth 100000 in
theorem c_pass_r2 (l : Launch) (X : Cx) (w : Wo) (y : Nat) (su : Int) (ac : Int → Int) (σ : Int → Int) (nx sz : Int) (pas : Int → Int → Int) (co fr to : Int) (hY : clO X w y su) (hac : w (y + 305) = some (aZ X 9 ac)) (hL : loomAt X w (y + 1) σ) (hH : hisAt X w (y + 53) nx sz pas) (hco : 0 ≤ co ∧ co < 7) (hft : 0 ≤ fr ∧ fr ≤ to ∧ to < σ 0) (hop : σ 4 < σ 1) (hst : σ (6 + co) < to - fr + 1) : CM l X yX8_pass cX8_pass 4 (some (.int)) (rmk 6 153) [.ref y, .int (iI co), .int (iI fr), .int (iI to)] w (some (.int (iI (-2)))) (fun w' => w' (y + 305) = some (aZ X 9 (up ac 2 (ac 2 + 1))) ∧ ∀ q : Nat, q ≠ y + 305 → w' q = w q) := by
  refine CM.of (lv := [(0, .ref y), (1, .int (iI co)), (2, .int (iI fr)), (3, .int (iI to))]) (by decide) (Nat.le_of_ble_eq_true rfl) rfl (fun p e s m below meth c ls F hr hlk hin hW hS hl => ?_)
  have hZ0 := hW.2.2
  have hB9 := hW.1.2
  clear hin
  unfold clO at hY
  have hO := hL.1.o
  have hA := hL.1
  have hwf := hL.2.2
  have hF := hwf.1
  unfold WF0 at hF
  have hsr := hwf.2.1 co (by omega) (by omega)
  refine lv_aload_n F.1 F.2.1 dX8_pass_0 rfl (lv_at hl 0 rfl) ?_
  refine lv_iload_n F.1 F.2.1 dX8_pass_1 rfl (lv_at hl 1 rfl) ?_
  refine cl_RX8_245 (As := [.int (iI co)]) (rest := []) F hl (c_X8_checkColour l X w y su σ co hY hL (by omega)) hW hS hY rfl rfl ⟨Nat.le_of_ble_eq_true rfl, Nat.le_of_ble_eq_true rfl⟩ (Nat.le_of_ble_eq_true rfl) ⟨Nat.zero_le _, Nat.zero_le _⟩ dX8_pass_2 (fun w1 H locs hp1 hW hS => ?_)
  rw [hp1] at hW; clear hp1; clear w1
  refine lv_aload_n F.1 F.2.1 dX8_pass_5 rfl (lv_at hl 0 rfl) ?_
  refine gf_RX8_10 F hW hY rfl dX8_pass_6 ?_
  refine lv_iload_n F.1 F.2.1 dX8_pass_9 rfl (lv_at hl 2 rfl) ?_
  refine cl_RX8_342 (As := [.int (iI fr)]) (rest := []) F hl (c_X5_hasColumn l X w (y + 1) σ fr hA hwf (by omega)) hW hS hO rfl rfl ⟨Nat.le_of_ble_eq_true rfl, Nat.le_of_ble_eq_true rfl⟩ (Nat.le_of_ble_eq_true rfl) ⟨Nat.zero_le _, Nat.zero_le _⟩ dX8_pass_10 (fun w1 H locs hp2 hW hS => ?_)
  rw [hp2] at hW; clear hp2; clear w1
  refine h_ifeqb (tgt := 27) F dX8_pass_13 (by decide) (fun c3 => ?_) (fun c3 => ?_)
  · have c3d := of_decide_eq_false c3
    exfalso; omega
  · have c3d := of_decide_eq_true c3
    refine lv_aload_n F.1 F.2.1 dX8_pass_16 rfl (lv_at hl 0 rfl) ?_
    refine gf_RX8_10 F hW hY rfl dX8_pass_17 ?_
    refine lv_iload_n F.1 F.2.1 dX8_pass_20 rfl (lv_at hl 3 rfl) ?_
    refine cl_RX8_342 (As := [.int (iI to)]) (rest := []) F hl (c_X5_hasColumn l X w (y + 1) σ to hA hwf (by omega)) hW hS hO rfl rfl ⟨Nat.le_of_ble_eq_true rfl, Nat.le_of_ble_eq_true rfl⟩ (Nat.le_of_ble_eq_true rfl) ⟨Nat.zero_le _, Nat.zero_le _⟩ dX8_pass_21 (fun w1 H locs hp4 hW hS => ?_)
    rw [hp4] at hW; clear hp4; clear w1
    refine h_ifneb (tgt := 38) F dX8_pass_24 (by decide) (fun c5 => ?_) (fun c5 => ?_)
    · have c5d := of_decide_eq_true c5
      refine lv_iload_n F.1 F.2.1 dX8_pass_38 rfl (lv_at hl 3 rfl) ?_
      refine lv_iload_n F.1 F.2.1 dX8_pass_39 rfl (lv_at hl 2 rfl) ?_
      refine h_icge (tgt := 54) F dX8_pass_40 (by decide) (by omega) (fun c6 => ?_) (fun c6 => ?_)
      · refine lv_aload_n F.1 F.2.1 dX8_pass_54 rfl (lv_at hl 0 rfl) ?_
        refine lv_iload_n F.1 F.2.1 dX8_pass_55 rfl (lv_at hl 1 rfl) ?_
        refine lv_iload_n F.1 F.2.1 dX8_pass_56 rfl (lv_at hl 2 rfl) ?_
        refine lv_iload_n F.1 F.2.1 dX8_pass_57 rfl (lv_at hl 3 rfl) ?_
        refine cl_RX8_349 (As := [.int (iI co), .int (iI fr), .int (iI to)]) (rest := []) F hl (c_doPass_r2 l X w y su ac σ nx sz pas co fr to hY hac hL hH (by omega) (by omega) (by omega) (by omega)) hW hS hY rfl rfl ⟨Nat.le_of_ble_eq_true rfl, Nat.le_of_ble_eq_true rfl⟩ (Nat.le_of_ble_eq_true rfl) ⟨Nat.zero_le _, Nat.zero_le _⟩ dX8_pass_58 (fun w7 H locs hp8 hW hS => ?_)
        obtain ⟨ha9, hn10⟩ := hp8
        have hY := (hn10 _ (by omega)).trans hY
        have hO := (hn10 _ (by omega)).trans hO
        exact h_ireti F hr hlk hW hS ⟨ha9, (fun q h09 => by rw [hn10 q (by omega)])⟩ dX8_pass_61
      · exfalso; omega
    · have c5d := of_decide_eq_false c5
      exfalso; omega
set_option maxHeartbeats 4000000 in
set_option maxRecDepth 100000 in
theorem c_X8_pass (l : Launch) (X : Cx) (w : Wo) (y : Nat) (su : Int) (ac : Int → Int) (σ : Int → Int) (nx sz : Int) (pas : Int → Int → Int) (co fr to : Int) (hY : clO X w y su) (hac : w (y + 305) = some (aZ X 9 ac)) (hL : loomAt X w (y + 1) σ) (hH : hisAt X w (y + 53) nx sz pas) (hco : 0 ≤ co ∧ co < 7) (hft : 0 ≤ fr ∧ fr ≤ to ∧ to < σ 0) (hop : σ 4 < σ 1) (hst : to - fr + 1 ≤ σ (6 + co)) : CM l X yX8_pass cX8_pass 4 (some (.int)) (rmk 6 153) [.ref y, .int (iI co), .int (iI fr), .int (iI to)] w (some (.int (iI (σ (6 + co) - (to - fr + 1))))) (fun w' => w' (y + 305) = some (aZ X 9 (up ac 0 (ac 0 + 1))) ∧ hisAt X w' (y + 53) ((if nx = 8 then 0 else nx) + 1) (min 8 (sz + 1)) (keepP sz pas σ) ∧ loomAt X w' (y + 1) (passN σ co fr (to - fr + 1).toNat) ∧ ∀ q : Nat, q ≠ y + 305 → q ≠ y + 1 + 2 → q ≠ y + 1 + 5 → (q < y + 53 ∨ y + 255 ≤ q) → w' q = w q) := by
  refine CM.of (lv := [(0, .ref y), (1, .int (iI co)), (2, .int (iI fr)), (3, .int (iI to))]) (by decide) (Nat.le_of_ble_eq_true rfl) rfl (fun p e s m below meth c ls F hr hlk hin hW hS hl => ?_)
  have hZ0 := hW.2.2
  have hB9 := hW.1.2
  clear hin
  unfold clO at hY
  have hO := hL.1.o
  have hA := hL.1
  have hwf := hL.2.2
  have hF := hwf.1
  unfold WF0 at hF
  have hsr := hwf.2.1 co (by omega) (by omega)
  refine lv_aload_n F.1 F.2.1 dX8_pass_0 rfl (lv_at hl 0 rfl) ?_
  refine lv_iload_n F.1 F.2.1 dX8_pass_1 rfl (lv_at hl 1 rfl) ?_
  refine cl_RX8_245 (As := [.int (iI co)]) (rest := []) F hl (c_X8_checkColour l X w y su σ co hY hL (by omega)) hW hS hY rfl rfl ⟨Nat.le_of_ble_eq_true rfl, Nat.le_of_ble_eq_true rfl⟩ (Nat.le_of_ble_eq_true rfl) ⟨Nat.zero_le _, Nat.zero_le _⟩ dX8_pass_2 (fun w1 H locs hp1 hW hS => ?_)
  rw [hp1] at hW; clear hp1; clear w1
  refine lv_aload_n F.1 F.2.1 dX8_pass_5 rfl (lv_at hl 0 rfl) ?_
  refine gf_RX8_10 F hW hY rfl dX8_pass_6 ?_
  refine lv_iload_n F.1 F.2.1 dX8_pass_9 rfl (lv_at hl 2 rfl) ?_
  refine cl_RX8_342 (As := [.int (iI fr)]) (rest := []) F hl (c_X5_hasColumn l X w (y + 1) σ fr hA hwf (by omega)) hW hS hO rfl rfl ⟨Nat.le_of_ble_eq_true rfl, Nat.le_of_ble_eq_true rfl⟩ (Nat.le_of_ble_eq_true rfl) ⟨Nat.zero_le _, Nat.zero_le _⟩ dX8_pass_10 (fun w1 H locs hp2 hW hS => ?_)
  rw [hp2] at hW; clear hp2; clear w1
  refine h_ifeqb (tgt := 27) F dX8_pass_13 (by decide) (fun c3 => ?_) (fun c3 => ?_)
  · have c3d := of_decide_eq_false c3
    exfalso; omega
  · have c3d := of_decide_eq_true c3
    refine lv_aload_n F.1 F.2.1 dX8_pass_16 rfl (lv_at hl 0 rfl) ?_
    refine gf_RX8_10 F hW hY rfl dX8_pass_17 ?_
    refine lv_iload_n F.1 F.2.1 dX8_pass_20 rfl (lv_at hl 3 rfl) ?_
    refine cl_RX8_342 (As := [.int (iI to)]) (rest := []) F hl (c_X5_hasColumn l X w (y + 1) σ to hA hwf (by omega)) hW hS hO rfl rfl ⟨Nat.le_of_ble_eq_true rfl, Nat.le_of_ble_eq_true rfl⟩ (Nat.le_of_ble_eq_true rfl) ⟨Nat.zero_le _, Nat.zero_le _⟩ dX8_pass_21 (fun w1 H locs hp4 hW hS => ?_)
    rw [hp4] at hW; clear hp4; clear w1
    refine h_ifneb (tgt := 38) F dX8_pass_24 (by decide) (fun c5 => ?_) (fun c5 => ?_)
    · have c5d := of_decide_eq_true c5
      refine lv_iload_n F.1 F.2.1 dX8_pass_38 rfl (lv_at hl 3 rfl) ?_
      refine lv_iload_n F.1 F.2.1 dX8_pass_39 rfl (lv_at hl 2 rfl) ?_
      refine h_icge (tgt := 54) F dX8_pass_40 (by decide) (by omega) (fun c6 => ?_) (fun c6 => ?_)
      · refine lv_aload_n F.1 F.2.1 dX8_pass_54 rfl (lv_at hl 0 rfl) ?_
        refine lv_iload_n F.1 F.2.1 dX8_pass_55 rfl (lv_at hl 1 rfl) ?_
        refine lv_iload_n F.1 F.2.1 dX8_pass_56 rfl (lv_at hl 2 rfl) ?_
        refine lv_iload_n F.1 F.2.1 dX8_pass_57 rfl (lv_at hl 3 rfl) ?_
        refine cl_RX8_349 (As := [.int (iI co), .int (iI fr), .int (iI to)]) (rest := []) F hl (c_X8_doPass l X w y su ac σ nx sz pas co fr to hY hac hL hH (by omega) (by omega) (by omega) (by omega)) hW hS hY rfl rfl ⟨Nat.le_of_ble_eq_true rfl, Nat.le_of_ble_eq_true rfl⟩ (Nat.le_of_ble_eq_true rfl) ⟨Nat.zero_le _, Nat.zero_le _⟩ dX8_pass_58 (fun w7 H locs hp8 hW hS => ?_)
        obtain ⟨ha9, hq09, hq19, hn10⟩ := hp8
        have hY := (hn10 _ (by omega) (by omega) (by omega) (by omega)).trans hY
        exact h_ireti F hr hlk hW hS ⟨ha9, hq09, hq19, (fun q h09 h19 h29 h39 => by rw [hn10 q (by omega) (by omega) (by omega) (by omega)])⟩ dX8_pass_61
      · exfalso; omega
    · have c5d := of_decide_eq_false c5
      exfalso; omega
set_option maxHeartbeats 4000000 in
set_option maxRecDepth 100000 in
theorem c_beat_r1 (l : Launch) (X : Cx) (w : Wo) (y : Nat) (su : Int) (ac : Int → Int) (σ : Int → Int) (nx sz : Int) (pas : Int → Int → Int) (hY : clO X w y su) (hac : w (y + 305) = some (aZ X 9 ac)) (hL : loomAt X w (y + 1) σ) (hH : hisAt X w (y + 53) nx sz pas) (hop : σ 4 = σ 1) : CM l X yX8_beat cX8_beat 1 (some (.int)) (rmk 6 150) [.ref y] w (some (.int (iI (-1)))) (fun w' => w' (y + 305) = some (aZ X 9 (up ac 1 (ac 1 + 1))) ∧ ∀ q : Nat, q ≠ y + 305 → w' q = w q) := by
  refine CM.of (lv := [(0, .ref y)]) (by decide) (Nat.le_of_ble_eq_true rfl) rfl (fun p e s m below meth c ls F hr hlk hin hW hS hl => ?_)
  have hZ0 := hW.2.2
  have hB9 := hW.1.2
  clear hin
  unfold clO at hY
  have hO := hL.1.o
  have hA := hL.1
  have hwf := hL.2.2
  have hF := hwf.1
  unfold WF0 at hF
  have hs0 := hwf.2.1 0 (by decide) (by decide)
  have hs6 : σ (6 + 0) = σ 6 := rfl
  have hor : 0 ≤ opnS σ ∧ opnS σ ≤ σ 0 := by have := cnt_r (opnB σ) (lo := 0) (hi := σ 0) (by omega); unfold opnS; omega
  refine lv_aload_n F.1 F.2.1 dX8_beat_0 rfl (lv_at hl 0 rfl) ?_
  refine cl_RX8_352 (As := []) (rest := []) F hl (c_doBeat_r1 l X w y su ac σ nx sz pas hY hac hL hH (by omega)) hW hS hY rfl rfl ⟨Nat.le_of_ble_eq_true rfl, Nat.le_of_ble_eq_true rfl⟩ (Nat.le_of_ble_eq_true rfl) ⟨Nat.zero_le _, Nat.zero_le _⟩ dX8_beat_1 (fun w1 H locs hp2 hW hS => ?_)
  obtain ⟨ha3, hn4⟩ := hp2
  have hY := (hn4 _ (by omega)).trans hY
  have hO := (hn4 _ (by omega)).trans hO
  exact h_ireti F hr hlk hW hS ⟨ha3, (fun q h09 => by rw [hn4 q (by omega)])⟩ dX8_beat_4
set_option maxHeartbeats 4000000 in
set_option maxRecDepth 100000 in
theorem c_beat_r2 (l : Launch) (X : Cx) (w : Wo) (y : Nat) (su : Int) (ac : Int → Int) (σ : Int → Int) (nx sz : Int) (pas : Int → Int → Int) (hY : clO X w y su) (hac : w (y + 305) = some (aZ X 9 ac)) (hL : loomAt X w (y + 1) σ) (hH : hisAt X w (y + 53) nx sz pas) (hop : σ 4 < σ 1) (hst : σ 6 < σ 0 - opnS σ) : CM l X yX8_beat cX8_beat 1 (some (.int)) (rmk 6 150) [.ref y] w (some (.int (iI (-2)))) (fun w' => w' (y + 305) = some (aZ X 9 (up ac 2 (ac 2 + 1))) ∧ ∀ q : Nat, q ≠ y + 305 → w' q = w q) := by
  refine CM.of (lv := [(0, .ref y)]) (by decide) (Nat.le_of_ble_eq_true rfl) rfl (fun p e s m below meth c ls F hr hlk hin hW hS hl => ?_)
  have hZ0 := hW.2.2
  have hB9 := hW.1.2
  clear hin
  unfold clO at hY
  have hO := hL.1.o
  have hA := hL.1
  have hwf := hL.2.2
  have hF := hwf.1
  unfold WF0 at hF
  have hs0 := hwf.2.1 0 (by decide) (by decide)
  have hs6 : σ (6 + 0) = σ 6 := rfl
  have hor : 0 ≤ opnS σ ∧ opnS σ ≤ σ 0 := by have := cnt_r (opnB σ) (lo := 0) (hi := σ 0) (by omega); unfold opnS; omega
  refine lv_aload_n F.1 F.2.1 dX8_beat_0 rfl (lv_at hl 0 rfl) ?_
  refine cl_RX8_352 (As := []) (rest := []) F hl (c_doBeat_r2 l X w y su ac σ nx sz pas hY hac hL hH (by omega) (by omega)) hW hS hY rfl rfl ⟨Nat.le_of_ble_eq_true rfl, Nat.le_of_ble_eq_true rfl⟩ (Nat.le_of_ble_eq_true rfl) ⟨Nat.zero_le _, Nat.zero_le _⟩ dX8_beat_1 (fun w1 H locs hp2 hW hS => ?_)
  obtain ⟨ha3, hn4⟩ := hp2
  have hY := (hn4 _ (by omega)).trans hY
  have hO := (hn4 _ (by omega)).trans hO
  exact h_ireti F hr hlk hW hS ⟨ha3, (fun q h09 => by rw [hn4 q (by omega)])⟩ dX8_beat_4
set_option maxHeartbeats 4000000 in
set_option maxRecDepth 100000 in
theorem c_X8_beat (l : Launch) (X : Cx) (w : Wo) (y : Nat) (su : Int) (ac : Int → Int) (σ : Int → Int) (nx sz : Int) (pas : Int → Int → Int) (hY : clO X w y su) (hac : w (y + 305) = some (aZ X 9 ac)) (hL : loomAt X w (y + 1) σ) (hH : hisAt X w (y + 53) nx sz pas) (hop : σ 4 < σ 1) (hst : σ 0 - opnS σ ≤ σ 6) : CM l X yX8_beat cX8_beat 1 (some (.int)) (rmk 6 150) [.ref y] w (some (.int (iI (misRow (btS σ) (σ 4))))) (fun w' => w' (y + 305) = some (aZ X 9 (up (up ac 0 (ac 0 + 1)) 8 (ac 8 + mnS (beatN σ (σ 0).toNat) (σ 4)))) ∧ hisAt X w' (y + 53) ((if nx = 8 then 0 else nx) + 1) (min 8 (sz + 1)) (keepP sz pas σ) ∧ loomAt X w' (y + 1) (btS σ) ∧ ∀ q : Nat, q ≠ y + 305 → q ≠ y + 1 + 2 → q ≠ y + 1 + 5 → (q < y + 53 ∨ y + 255 ≤ q) → q ≠ y + 1 → w' q = w q) := by
  refine CM.of (lv := [(0, .ref y)]) (by decide) (Nat.le_of_ble_eq_true rfl) rfl (fun p e s m below meth c ls F hr hlk hin hW hS hl => ?_)
  have hZ0 := hW.2.2
  have hB9 := hW.1.2
  clear hin
  unfold clO at hY
  have hO := hL.1.o
  have hA := hL.1
  have hwf := hL.2.2
  have hF := hwf.1
  unfold WF0 at hF
  have hs0 := hwf.2.1 0 (by decide) (by decide)
  have hs6 : σ (6 + 0) = σ 6 := rfl
  have hor : 0 ≤ opnS σ ∧ opnS σ ≤ σ 0 := by have := cnt_r (opnB σ) (lo := 0) (hi := σ 0) (by omega); unfold opnS; omega
  refine lv_aload_n F.1 F.2.1 dX8_beat_0 rfl (lv_at hl 0 rfl) ?_
  refine cl_RX8_352 (As := []) (rest := []) F hl (c_X8_doBeat l X w y su ac σ nx sz pas hY hac hL hH (by omega) (by omega)) hW hS hY rfl rfl ⟨Nat.le_of_ble_eq_true rfl, Nat.le_of_ble_eq_true rfl⟩ (Nat.le_of_ble_eq_true rfl) ⟨Nat.zero_le _, Nat.zero_le _⟩ dX8_beat_1 (fun w1 H locs hp2 hW hS => ?_)
  obtain ⟨ha3, hq09, hq19, hn4⟩ := hp2
  have hY := (hn4 _ (by omega) (by omega) (by omega) (by omega) (by omega)).trans hY
  exact h_ireti F hr hlk hW hS ⟨ha3, hq09, hq19, (fun q h09 h19 h29 h39 h49 => by rw [hn4 q (by omega) (by omega) (by omega) (by omega) (by omega)])⟩ dX8_beat_4
set_option maxHeartbeats 4000000 in
set_option maxRecDepth 100000 in
theorem c_weave_r3 (l : Launch) (X : Cx) (w : Wo) (y : Nat) (su : Int) (ac am : Int → Int) (σ : Int → Int) (nx sz : Int) (pas : Int → Int → Int) (rw9 : Int) (b : Bool) (hY : clO X w y su) (hac : w (y + 305) = some (aZ X 9 ac)) (ham : w (y + 306) = some (aZ X 7 am)) (hL : loomAt X w (y + 1) σ) (hH : hisAt X w (y + 53) nx sz pas) (hrw : 1 ≤ rw9 ∧ rw9 ≤ 30) (hop : σ 1 < σ 4 + rw9) : CM l X yX8_weave cX8_weave 3 (some (.int)) (rmk 6 152) [.ref y, .int (iI rw9), .int (iI (bz b))] w (some (.int (iI (-3)))) (fun w' => w' (y + 305) = some (aZ X 9 (up ac 3 (ac 3 + 1))) ∧ ∀ q : Nat, q ≠ y + 305 → w' q = w q) := by
  refine CM.of (lv := [(0, .ref y), (1, .int (iI rw9)), (2, .int (iI (bz b)))]) (by decide) (Nat.le_of_ble_eq_true rfl) rfl (fun p e s m below meth c ls F hr hlk hin hW hS hl => ?_)
  have hZ0 := hW.2.2
  have hB9 := hW.1.2
  clear hin
  unfold clO at hY
  have hO := hL.1.o
  have hA := hL.1
  have hwf := hL.2.2
  have hF := hwf.1
  unfold WF0 at hF
  refine lv_iload_n F.1 F.2.1 dX8_weave_0 rfl (lv_at hl 1 rfl) ?_
  refine h_iconst F dX8_weave_1 ?_
  refine h_iclt (tgt := 11) F dX8_weave_2 (by decide) (by omega) (fun c1 => ?_) (fun c1 => ?_)
  · exfalso; omega
  · refine lv_iload_n F.1 F.2.1 dX8_weave_5 rfl (lv_at hl 1 rfl) ?_
    refine h_bipush F dX8_weave_6 rfl ?_
    refine h_icle (tgt := 22) F dX8_weave_8 (by decide) (by omega) (fun c2 => ?_) (fun c2 => ?_)
    · refine lv_aload_n F.1 F.2.1 dX8_weave_22 rfl (lv_at hl 0 rfl) ?_
      refine lv_iload_n F.1 F.2.1 dX8_weave_23 rfl (lv_at hl 1 rfl) ?_
      refine lv_iload_n F.1 F.2.1 dX8_weave_24 rfl (lv_at hl 2 rfl) ?_
      refine cl_RX8_355 (As := [.int (iI rw9), .int (iI (bz b))]) (rest := []) F hl (c_doWeave_r3 l X w y su ac am σ nx sz pas rw9 b hY hac ham hL hH (by omega) (by omega)) hW hS hY rfl rfl ⟨Nat.le_of_ble_eq_true rfl, Nat.le_of_ble_eq_true rfl⟩ (Nat.le_of_ble_eq_true rfl) ⟨Nat.zero_le _, Nat.zero_le _⟩ dX8_weave_25 (fun w3 H locs hp4 hW hS => ?_)
      obtain ⟨ha5, hn6⟩ := hp4
      have hY := (hn6 _ (by omega)).trans hY
      have hO := (hn6 _ (by omega)).trans hO
      have ham := (hn6 _ (by omega)).trans ham
      exact h_ireti F hr hlk hW hS ⟨ha5, (fun q h09 => by rw [hn6 q (by omega)])⟩ dX8_weave_28
    · exfalso; omega
set_option maxHeartbeats 4000000 in
set_option maxRecDepth 100000 in
theorem c_weave_r2 (l : Launch) (X : Cx) (w : Wo) (y : Nat) (su : Int) (ac am : Int → Int) (σ : Int → Int) (nx sz : Int) (pas : Int → Int → Int) (rw9 : Int) (b : Bool) (hY : clO X w y su) (hac : w (y + 305) = some (aZ X 9 ac)) (ham : w (y + 306) = some (aZ X 7 am)) (hL : loomAt X w (y + 1) σ) (hH : hisAt X w (y + 53) nx sz pas) (hrw : 1 ≤ rw9 ∧ rw9 ≤ 30) (hop : σ 4 + rw9 ≤ σ 1) (hen : enoS σ b rw9 = false) : CM l X yX8_weave cX8_weave 3 (some (.int)) (rmk 6 152) [.ref y, .int (iI rw9), .int (iI (bz b))] w (some (.int (iI (-2)))) (fun w' => w' (y + 305) = some (aZ X 9 (up ac 2 (ac 2 + 1))) ∧ w' (y + 306) = some (aZ X 7 (ndS am σ b (σ 4 + rw9))) ∧ ∀ q : Nat, q ≠ y + 305 → q ≠ y + 306 → w' q = w q) := by
  refine CM.of (lv := [(0, .ref y), (1, .int (iI rw9)), (2, .int (iI (bz b)))]) (by decide) (Nat.le_of_ble_eq_true rfl) rfl (fun p e s m below meth c ls F hr hlk hin hW hS hl => ?_)
  have hZ0 := hW.2.2
  have hB9 := hW.1.2
  clear hin
  unfold clO at hY
  have hO := hL.1.o
  have hA := hL.1
  have hwf := hL.2.2
  have hF := hwf.1
  unfold WF0 at hF
  refine lv_iload_n F.1 F.2.1 dX8_weave_0 rfl (lv_at hl 1 rfl) ?_
  refine h_iconst F dX8_weave_1 ?_
  refine h_iclt (tgt := 11) F dX8_weave_2 (by decide) (by omega) (fun c1 => ?_) (fun c1 => ?_)
  · exfalso; omega
  · refine lv_iload_n F.1 F.2.1 dX8_weave_5 rfl (lv_at hl 1 rfl) ?_
    refine h_bipush F dX8_weave_6 rfl ?_
    refine h_icle (tgt := 22) F dX8_weave_8 (by decide) (by omega) (fun c2 => ?_) (fun c2 => ?_)
    · refine lv_aload_n F.1 F.2.1 dX8_weave_22 rfl (lv_at hl 0 rfl) ?_
      refine lv_iload_n F.1 F.2.1 dX8_weave_23 rfl (lv_at hl 1 rfl) ?_
      refine lv_iload_n F.1 F.2.1 dX8_weave_24 rfl (lv_at hl 2 rfl) ?_
      refine cl_RX8_355 (As := [.int (iI rw9), .int (iI (bz b))]) (rest := []) F hl (c_doWeave_r2 l X w y su ac am σ nx sz pas rw9 b hY hac ham hL hH (by omega) (by omega) hen) hW hS hY rfl rfl ⟨Nat.le_of_ble_eq_true rfl, Nat.le_of_ble_eq_true rfl⟩ (Nat.le_of_ble_eq_true rfl) ⟨Nat.zero_le _, Nat.zero_le _⟩ dX8_weave_25 (fun w3 H locs hp4 hW hS => ?_)
      obtain ⟨ha5, ha6, hn7⟩ := hp4
      have hY := (hn7 _ (by omega) (by omega)).trans hY
      have hO := (hn7 _ (by omega) (by omega)).trans hO
      exact h_ireti F hr hlk hW hS ⟨ha5, ha6, (fun q h09 h19 => by rw [hn7 q (by omega) (by omega)])⟩ dX8_weave_28
    · exfalso; omega
set_option maxHeartbeats 4000000 in
set_option maxRecDepth 100000 in
theorem c_X8_weave (l : Launch) (X : Cx) (w : Wo) (y : Nat) (su : Int) (ac am : Int → Int) (σ : Int → Int) (nx sz : Int) (pas : Int → Int → Int) (rw9 : Int) (b : Bool) (hY : clO X w y su) (hac : w (y + 305) = some (aZ X 9 ac)) (ham : w (y + 306) = some (aZ X 7 am)) (hL : loomAt X w (y + 1) σ) (hH : hisAt X w (y + 53) nx sz pas) (hrw : 1 ≤ rw9 ∧ rw9 ≤ 30) (hop : σ 4 + rw9 ≤ σ 1) (hen : enoS σ b rw9 = true) : CM l X yX8_weave cX8_weave 3 (some (.int)) (rmk 6 152) [.ref y, .int (iI rw9), .int (iI (bz b))] w (some (.int (iI (misFrom (weaveN σ b rw9.toNat) (σ 4))))) (fun w' => w' (y + 305) = some (aZ X 9 (wac ac σ b rw9.toNat)) ∧ w' (y + 306) = some (aZ X 7 (ndS am σ b (σ 4 + rw9))) ∧ hisAt X w' (y + 53) ((if nx = 8 then 0 else nx) + 1) (min 8 (sz + 1)) (keepP sz pas σ) ∧ loomAt X w' (y + 1) (weaveN σ b rw9.toNat) ∧ ∀ q : Nat, q ≠ y + 305 → q ≠ y + 306 → q ≠ y + 1 → q ≠ y + 1 + 2 → q ≠ y + 1 + 5 → (q < y + 53 ∨ y + 255 ≤ q) → w' q = w q) := by
  refine CM.of (lv := [(0, .ref y), (1, .int (iI rw9)), (2, .int (iI (bz b)))]) (by decide) (Nat.le_of_ble_eq_true rfl) rfl (fun p e s m below meth c ls F hr hlk hin hW hS hl => ?_)
  have hZ0 := hW.2.2
  have hB9 := hW.1.2
  clear hin
  unfold clO at hY
  have hO := hL.1.o
  have hA := hL.1
  have hwf := hL.2.2
  have hF := hwf.1
  unfold WF0 at hF
  refine lv_iload_n F.1 F.2.1 dX8_weave_0 rfl (lv_at hl 1 rfl) ?_
  refine h_iconst F dX8_weave_1 ?_
  refine h_iclt (tgt := 11) F dX8_weave_2 (by decide) (by omega) (fun c1 => ?_) (fun c1 => ?_)
  · exfalso; omega
  · refine lv_iload_n F.1 F.2.1 dX8_weave_5 rfl (lv_at hl 1 rfl) ?_
    refine h_bipush F dX8_weave_6 rfl ?_
    refine h_icle (tgt := 22) F dX8_weave_8 (by decide) (by omega) (fun c2 => ?_) (fun c2 => ?_)
    · refine lv_aload_n F.1 F.2.1 dX8_weave_22 rfl (lv_at hl 0 rfl) ?_
      refine lv_iload_n F.1 F.2.1 dX8_weave_23 rfl (lv_at hl 1 rfl) ?_
      refine lv_iload_n F.1 F.2.1 dX8_weave_24 rfl (lv_at hl 2 rfl) ?_
      refine cl_RX8_355 (As := [.int (iI rw9), .int (iI (bz b))]) (rest := []) F hl (c_X8_doWeave l X w y su ac am σ nx sz pas rw9 b hY hac ham hL hH (by omega) (by omega) hen) hW hS hY rfl rfl ⟨Nat.le_of_ble_eq_true rfl, Nat.le_of_ble_eq_true rfl⟩ (Nat.le_of_ble_eq_true rfl) ⟨Nat.zero_le _, Nat.zero_le _⟩ dX8_weave_25 (fun w3 H locs hp4 hW hS => ?_)
      obtain ⟨ha5, ha6, hq09, hq19, hn7⟩ := hp4
      have hY := (hn7 _ (by omega) (by omega) (by omega) (by omega) (by omega) (by omega)).trans hY
      exact h_ireti F hr hlk hW hS ⟨ha5, ha6, hq09, hq19, (fun q h09 h19 h29 h39 h49 h59 => by rw [hn7 q (by omega) (by omega) (by omega) (by omega) (by omega) (by omega)])⟩ dX8_weave_28
    · exfalso; omega
set_option maxHeartbeats 4000000 in
set_option maxRecDepth 100000 in
theorem c_unpick_r3 (l : Launch) (X : Cx) (w : Wo) (y : Nat) (su : Int) (ac : Int → Int) (σ : Int → Int) (nx sz : Int) (pas : Int → Int → Int) (rw9 : Int) (hY : clO X w y su) (hac : w (y + 305) = some (aZ X 9 ac)) (hL : loomAt X w (y + 1) σ) (hH : hisAt X w (y + 53) nx sz pas) (hrw : 0 ≤ rw9 ∧ rw9 ≤ 30) (hop : σ 4 < rw9) : CM l X yX8_unpick cX8_unpick 2 (some (.int)) (rmk 6 153) [.ref y, .int (iI rw9)] w (some (.int (iI (-3)))) (fun w' => w' (y + 305) = some (aZ X 9 (up ac 3 (ac 3 + 1))) ∧ ∀ q : Nat, q ≠ y + 305 → w' q = w q) := by
  refine CM.of (lv := [(0, .ref y), (1, .int (iI rw9))]) (by decide) (Nat.le_of_ble_eq_true rfl) rfl (fun p e s m below meth c ls F hr hlk hin hW hS hl => ?_)
  have hZ0 := hW.2.2
  have hB9 := hW.1.2
  clear hin
  unfold clO at hY
  have hO := hL.1.o
  have hA := hL.1
  have hwf := hL.2.2
  have hF := hwf.1
  unfold WF0 at hF
  refine lv_iload_n F.1 F.2.1 dX8_unpick_0 rfl (lv_at hl 1 rfl) ?_
  refine h_iflt (tgt := 10) F dX8_unpick_1 (by decide) (by omega) (fun c1 => ?_) (fun c1 => ?_)
  · exfalso; omega
  · refine lv_iload_n F.1 F.2.1 dX8_unpick_4 rfl (lv_at hl 1 rfl) ?_
    refine h_bipush F dX8_unpick_5 rfl ?_
    refine h_icle (tgt := 21) F dX8_unpick_7 (by decide) (by omega) (fun c2 => ?_) (fun c2 => ?_)
    · refine lv_aload_n F.1 F.2.1 dX8_unpick_21 rfl (lv_at hl 0 rfl) ?_
      refine lv_iload_n F.1 F.2.1 dX8_unpick_22 rfl (lv_at hl 1 rfl) ?_
      refine cl_RX8_359 (As := [.int (iI rw9)]) (rest := []) F hl (c_doUnpick_r3 l X w y su ac σ nx sz pas rw9 hY hac hL hH (by omega) (by omega)) hW hS hY rfl rfl ⟨Nat.le_of_ble_eq_true rfl, Nat.le_of_ble_eq_true rfl⟩ (Nat.le_of_ble_eq_true rfl) ⟨Nat.zero_le _, Nat.zero_le _⟩ dX8_unpick_23 (fun w3 H locs hp4 hW hS => ?_)
      obtain ⟨ha5, hn6⟩ := hp4
      have hY := (hn6 _ (by omega)).trans hY
      have hO := (hn6 _ (by omega)).trans hO
      exact h_ireti F hr hlk hW hS ⟨ha5, (fun q h09 => by rw [hn6 q (by omega)])⟩ dX8_unpick_26
    · exfalso; omega
set_option maxHeartbeats 4000000 in
set_option maxRecDepth 100000 in
theorem c_X8_unpick (l : Launch) (X : Cx) (w : Wo) (y : Nat) (su : Int) (ac : Int → Int) (σ : Int → Int) (nx sz : Int) (pas : Int → Int → Int) (rw9 : Int) (hY : clO X w y su) (hac : w (y + 305) = some (aZ X 9 ac)) (hL : loomAt X w (y + 1) σ) (hH : hisAt X w (y + 53) nx sz pas) (hrw : 0 ≤ rw9 ∧ rw9 ≤ 30) (hop : rw9 ≤ σ 4) : CM l X yX8_unpick cX8_unpick 2 (some (.int)) (rmk 6 153) [.ref y, .int (iI rw9)] w (some (.int (iI (sm (wvnS σ (σ 4 - rw9)) 0 7)))) (fun w' => w' (y + 305) = some (aZ X 9 (up ac 0 (ac 0 + 1))) ∧ hisAt X w' (y + 53) ((if nx = 8 then 0 else nx) + 1) (min 8 (sz + 1)) (keepP sz pas σ) ∧ loomAt X w' (y + 1) (clrS (unpS σ (σ 4 - rw9) 7) (σ 4 - rw9)) ∧ ∀ q : Nat, q ≠ y + 305 → q ≠ y + 1 + 2 → q ≠ y + 1 + 5 → (q < y + 53 ∨ y + 255 ≤ q) → q ≠ y + 1 → w' q = w q) := by
  refine CM.of (lv := [(0, .ref y), (1, .int (iI rw9))]) (by decide) (Nat.le_of_ble_eq_true rfl) rfl (fun p e s m below meth c ls F hr hlk hin hW hS hl => ?_)
  have hZ0 := hW.2.2
  have hB9 := hW.1.2
  clear hin
  unfold clO at hY
  have hO := hL.1.o
  have hA := hL.1
  have hwf := hL.2.2
  have hF := hwf.1
  unfold WF0 at hF
  refine lv_iload_n F.1 F.2.1 dX8_unpick_0 rfl (lv_at hl 1 rfl) ?_
  refine h_iflt (tgt := 10) F dX8_unpick_1 (by decide) (by omega) (fun c1 => ?_) (fun c1 => ?_)
  · exfalso; omega
  · refine lv_iload_n F.1 F.2.1 dX8_unpick_4 rfl (lv_at hl 1 rfl) ?_
    refine h_bipush F dX8_unpick_5 rfl ?_
    refine h_icle (tgt := 21) F dX8_unpick_7 (by decide) (by omega) (fun c2 => ?_) (fun c2 => ?_)
    · refine lv_aload_n F.1 F.2.1 dX8_unpick_21 rfl (lv_at hl 0 rfl) ?_
      refine lv_iload_n F.1 F.2.1 dX8_unpick_22 rfl (lv_at hl 1 rfl) ?_
      refine cl_RX8_359 (As := [.int (iI rw9)]) (rest := []) F hl (c_X8_doUnpick l X w y su ac σ nx sz pas rw9 hY hac hL hH (by omega) (by omega)) hW hS hY rfl rfl ⟨Nat.le_of_ble_eq_true rfl, Nat.le_of_ble_eq_true rfl⟩ (Nat.le_of_ble_eq_true rfl) ⟨Nat.zero_le _, Nat.zero_le _⟩ dX8_unpick_23 (fun w3 H locs hp4 hW hS => ?_)
      obtain ⟨ha5, hq09, hq19, hn6⟩ := hp4
      have hY := (hn6 _ (by omega) (by omega) (by omega) (by omega) (by omega)).trans hY
      exact h_ireti F hr hlk hW hS ⟨ha5, hq09, hq19, (fun q h09 h19 h29 h39 h49 => by rw [hn6 q (by omega) (by omega) (by omega) (by omega) (by omega)])⟩ dX8_unpick_26
    · exfalso; omega
set_option maxHeartbeats 4000000 in
set_option maxRecDepth 100000 in
theorem c_X8_look (l : Launch) (X : Cx) (w : Wo) (y : Nat) (su : Int) (ac : Int → Int) (σ : Int → Int) (nx sz : Int) (pas : Int → Int → Int) (hY : clO X w y su) (hac : w (y + 305) = some (aZ X 9 ac)) (hL : loomAt X w (y + 1) σ) (hH : hisAt X w (y + 53) nx sz pas) : CM l X yX8_look cX8_look 1 (some (.int)) (rmk 6 149) [.ref y] w (some (.int (iI (misSeen (up σ 3 (σ 4)) - misSeen σ)))) (fun w' => w' (y + 305) = some (aZ X 9 (up ac 0 (ac 0 + 1))) ∧ hisAt X w' (y + 53) ((if nx = 8 then 0 else nx) + 1) (min 8 (sz + 1)) (keepP sz pas σ) ∧ loomAt X w' (y + 1) (up σ 3 (σ 4)) ∧ ∀ q : Nat, q ≠ y + 305 → q ≠ y + 1 → (q < y + 53 ∨ y + 255 ≤ q) → w' q = w q) := by
  refine CM.of (lv := [(0, .ref y)]) (by decide) (Nat.le_of_ble_eq_true rfl) rfl (fun p e s m below meth c ls F hr hlk hin hW hS hl => ?_)
  have hZ0 := hW.2.2
  have hB9 := hW.1.2
  clear hin
  unfold clO at hY
  have hO := hL.1.o
  have hA := hL.1
  have hwf := hL.2.2
  have hF := hwf.1
  unfold WF0 at hF
  refine lv_aload_n F.1 F.2.1 dX8_look_0 rfl (lv_at hl 0 rfl) ?_
  refine cl_RX8_362 (As := []) (rest := []) F hl (c_X8_doLook l X w y su ac σ nx sz pas hY hac hL hH) hW hS hY rfl rfl ⟨Nat.le_of_ble_eq_true rfl, Nat.le_of_ble_eq_true rfl⟩ (Nat.le_of_ble_eq_true rfl) ⟨Nat.zero_le _, Nat.zero_le _⟩ dX8_look_1 (fun w1 H locs hp2 hW hS => ?_)
  obtain ⟨ha3, hq09, hq19, hn4⟩ := hp2
  have hY := (hn4 _ (by omega) (by omega) (by omega)).trans hY
  exact h_ireti F hr hlk hW hS ⟨ha3, hq09, hq19, (fun q h09 h19 h29 => by rw [hn4 q (by omega) (by omega) (by omega)])⟩ dX8_look_4
