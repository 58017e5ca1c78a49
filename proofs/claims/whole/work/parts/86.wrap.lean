set_option maxHeartbeats 4000000 in
set_option maxRecDepth 100000 in
theorem c_pass_r1 (l : Launch) (X : Cx) (w : Wo) (y : Nat) (su : Int) (ac : Int → Int) (σ : Int → Int) (nx sz : Int) (pas : Int → Int → Int) (co fr to : Int) (hY : clO X w y su) (hac : w (y + 305) = some (aZ X 9 ac)) (hL : loomAt X w (y + 1) σ) (hH : hisAt X w (y + 53) nx sz pas) (hco : 0 ≤ co ∧ co < 7) (hft : 0 ≤ fr ∧ fr ≤ to ∧ to < σ 0) (hop : σ 4 = σ 1) : CM l X yX8_pass cX8_pass 4 (some (.int)) (rmk 6 153) [.ref y, .int (iI co), .int (iI fr), .int (iI to)] w (some (.int (iI (-1)))) (fun w' => w' (y + 305) = some (aZ X 9 (up ac 1 (ac 1 + 1))) ∧ ∀ q : Nat, q ≠ y + 305 → w' q = w q) := by
  refine CM.of (lv := [(0, .ref y), (1, .int (iI co)), (2, .int (iI fr)), (3, .int (iI to))]) (by decide) (Nat.le_of_ble_eq_true rfl) rfl (fun p e s m below meth c ls F hr hlk hin hW hS hl => ?_)
  have hZ0 := hW.2.2
  have hB9 := hW.1.2
  clear hin
  unfold clO at hY
  have hO := hL.1.o
  have hA := hL.1
  have hwf := hL.2.2
  have hF := hwf.1
  unfold WF0 at hF
  have hsr := hwf.2.1 co (by omega) (by omega)
  refine lv_aload_n F.1 F.2.1 dX8_pass_0 rfl (lv_at hl 0 rfl) ?_
  refine lv_iload_n F.1 F.2.1 dX8_pass_1 rfl (lv_at hl 1 rfl) ?_
  refine cl_RX8_245 (As := [.int (iI co)]) (rest := []) F hl (c_X8_checkColour l X w y su σ co hY hL (by omega)) hW hS hY rfl rfl ⟨Nat.le_of_ble_eq_true rfl, Nat.le_of_ble_eq_true rfl⟩ (Nat.le_of_ble_eq_true rfl) ⟨Nat.zero_le _, Nat.zero_le _⟩ dX8_pass_2 (fun w1 H locs hp1 hW hS => ?_)
  rw [hp1] at hW; clear hp1; clear w1
  refine lv_aload_n F.1 F.2.1 dX8_pass_5 rfl (lv_at hl 0 rfl) ?_
  refine gf_RX8_10 F hW hY rfl dX8_pass_6 ?_
  refine lv_iload_n F.1 F.2.1 dX8_pass_9 rfl (lv_at hl 2 rfl) ?_
  refine cl_RX8_342 (As := [.int (iI fr)]) (rest := []) F hl (c_X5_hasColumn l X w (y + 1) σ fr hA hwf (by omega)) hW hS hO rfl rfl ⟨Nat.le_of_ble_eq_true rfl, Nat.le_of_ble_eq_true rfl⟩ (Nat.le_of_ble_eq_true rfl) ⟨Nat.zero_le _, Nat.zero_le _⟩ dX8_pass_10 (fun w1 H locs hp2 hW hS => ?_)
  rw [hp2] at hW; clear hp2; clear w1
  refine h_ifeqb (tgt := 27) F dX8_pass_13 (by decide) (fun c3 => ?_) (fun c3 => ?_)
  · have c3d := of_decide_eq_false c3
    exfalso; omega
  · have c3d := of_decide_eq_true c3
    refine lv_aload_n F.1 F.2.1 dX8_pass_16 rfl (lv_at hl 0 rfl) ?_
    refine gf_RX8_10 F hW hY rfl dX8_pass_17 ?_
    refine lv_iload_n F.1 F.2.1 dX8_pass_20 rfl (lv_at hl 3 rfl) ?_
    refine cl_RX8_342 (As := [.int (iI to)]) (rest := []) F hl (c_X5_hasColumn l X w (y + 1) σ to hA hwf (by omega)) hW hS hO rfl rfl ⟨Nat.le_of_ble_eq_true rfl, Nat.le_of_ble_eq_true rfl⟩ (Nat.le_of_ble_eq_true rfl) ⟨Nat.zero_le _, Nat.zero_le _⟩ dX8_pass_21 (fun w1 H locs hp4 hW hS => ?_)
    rw [hp4] at hW; clear hp4; clear w1
    refine h_ifneb (tgt := 38) F dX8_pass_24 (by decide) (fun c5 => ?_) (fun c5 => ?_)
    · have c5d := of_decide_eq_true c5
      refine lv_iload_n F.1 F.2.1 dX8_pass_38 rfl (lv_at hl 3 rfl) ?_
      refine lv_iload_n F.1 F.2.1 dX8_pass_39 rfl (lv_at hl 2 rfl) ?_
      refine h_icge (tgt := 54) F dX8_pass_40 (by decide) (by omega) (fun c6 => ?_) (fun c6 => ?_)
      · refine lv_aload_n F.1 F.2.1 dX8_pass_54 rfl (lv_at hl 0 rfl) ?_
        refine lv_iload_n F.1 F.2.1 dX8_pass_55 rfl (lv_at hl 1 rfl) ?_
        refine lv_iload_n F.1 F.2.1 dX8_pass_56 rfl (lv_at hl 2 rfl) ?_
        refine lv_iload_n F.1 F.2.1 dX8_pass_57 rfl (lv_at hl 3 rfl) ?_
        refine cl_RX8_349 (As := [.int (iI co), .int (iI fr), .int (iI to)]) (rest := []) F hl (c_doPass_r1 l X w y su ac σ nx sz pas co fr to hY hac hL hH (by omega) (by omega) (by omega)) hW hS hY rfl rfl ⟨Nat.le_of_ble_eq_true rfl, Nat.le_of_ble_eq_true rfl⟩ (Nat.le_of_ble_eq_true rfl) ⟨Nat.zero_le _, Nat.zero_le _⟩ dX8_pass_58 (fun w7 H locs hp8 hW hS => ?_)
        obtain ⟨ha9, hn10⟩ := hp8
        have hY := (hn10 _ (by omega)).trans hY
        have hO := (hn10 _ (by omega)).trans hO
        exact h_ireti F hr hlk hW hS ⟨ha9, (fun q h09 => by rw [hn10 q (by omega)])⟩ dX8_pass_61
      · exfalso; omega
    · have c5d := of_decide_eq_false c5
      exfalso; omega
set_option maxHeartbeats 4000000 in
set_option maxRecDepth 100000 in
theorem c_pass_r2 (l : Launch) (X : Cx) (w : Wo) (y : Nat) (su : Int) (ac : Int → Int) (σ : Int → Int) (nx sz : Int) (pas : Int → Int → Int) (co fr to : Int) (hY : clO X w y su) (hac : w (y + 305) = some (aZ X 9 ac)) (hL : loomAt X w (y + 1) σ) (hH : hisAt X w (y + 53) nx sz pas) (hco : 0 ≤ co ∧ co < 7) (hft : 0 ≤ fr ∧ fr ≤ to ∧ to < σ 0) (hop : σ 4 < σ 1) (hst : σ (6 + co) < to - fr + 1) : CM l X yX8_pass cX8_pass 4 (some (.int)) (rmk 6 153) [.ref y, .int (iI co), .int (iI fr), .int (iI to)] w (some (.int (iI (-2)))) (fun w' => w' (y + 305) = some (aZ X 9 (up ac 2 (ac 2 + 1))) ∧ ∀ q : Nat, q ≠ y + 305 → w' q = w q) := by
  refine CM.of (lv := [(0, .ref y), (1, .int (iI co)), (2, .int (iI fr)), (3, .int (iI to))]) (by decide) (Nat.le_of_ble_eq_true rfl) rfl (fun p e s m below meth c ls F hr hlk hin hW hS hl => ?_)
  have hZ0 := hW.2.2
  have hB9 := hW.1.2
  clear hin
  unfold clO at hY
  have hO := hL.1.o
  have hA := hL.1
  have hwf := hL.2.2
  have hF := hwf.1
  unfold WF0 at hF
  have hsr := hwf.2.1 co (by omega) (by omega)
  refine lv_aload_n F.1 F.2.1 dX8_pass_0 rfl (lv_at hl 0 rfl) ?_
  refine lv_iload_n F.1 F.2.1 dX8_pass_1 rfl (lv_at hl 1 rfl) ?_
  refine cl_RX8_245 (As := [.int (iI co)]) (rest := []) F hl (c_X8_checkColour l X w y su σ co hY hL (by omega)) hW hS hY rfl rfl ⟨Nat.le_of_ble_eq_true rfl, Nat.le_of_ble_eq_true rfl⟩ (Nat.le_of_ble_eq_true rfl) ⟨Nat.zero_le _, Nat.zero_le _⟩ dX8_pass_2 (fun w1 H locs hp1 hW hS => ?_)
  rw [hp1] at hW; clear hp1; clear w1
  refine lv_aload_n F.1 F.2.1 dX8_pass_5 rfl (lv_at hl 0 rfl) ?_
  refine gf_RX8_10 F hW hY rfl dX8_pass_6 ?_
  refine lv_iload_n F.1 F.2.1 dX8_pass_9 rfl (lv_at hl 2 rfl) ?_
  refine cl_RX8_342 (As := [.int (iI fr)]) (rest := []) F hl (c_X5_hasColumn l X w (y + 1) σ fr hA hwf (by omega)) hW hS hO rfl rfl ⟨Nat.le_of_ble_eq_true rfl, Nat.le_of_ble_eq_true rfl⟩ (Nat.le_of_ble_eq_true rfl) ⟨Nat.zero_le _, Nat.zero_le _⟩ dX8_pass_10 (fun w1 H locs hp2 hW hS => ?_)
  rw [hp2] at hW; clear hp2; clear w1
  refine h_ifeqb (tgt := 27) F dX8_pass_13 (by decide) (fun c3 => ?_) (fun c3 => ?_)
  · have c3d := of_decide_eq_false c3
    exfalso; omega
  · have c3d := of_decide_eq_true c3
    refine lv_aload_n F.1 F.2.1 dX8_pass_16 rfl (lv_at hl 0 rfl) ?_
    refine gf_RX8_10 F hW hY rfl dX8_pass_17 ?_
    refine lv_iload_n F.1 F.2.1 dX8_pass_20 rfl (lv_at hl 3 rfl) ?_
    refine cl_RX8_342 (As := [.int (iI to)]) (rest := []) F hl (c_X5_hasColumn l X w (y + 1) σ to hA hwf (by omega)) hW hS hO rfl rfl ⟨Nat.le_of_ble_eq_true rfl, Nat.le_of_ble_eq_true rfl⟩ (Nat.le_of_ble_eq_true rfl) ⟨Nat.zero_le _, Nat.zero_le _⟩ dX8_pass_21 (fun w1 H locs hp4 hW hS => ?_)
    rw [hp4] at hW; clear hp4; clear w1
    refine h_ifneb (tgt := 38) F dX8_pass_24 (by decide) (fun c5 => ?_) (fun c5 => ?_)
    · have c5d := of_decide_eq_true c5
      refine lv_iload_n F.1 F.2.1 dX8_pass_38 rfl (lv_at hl 3 rfl) ?_
      refine lv_iload_n F.1 F.2.1 dX8_pass_39 rfl (lv_at hl 2 rfl) ?_
      refine h_icge (tgt := 54) F dX8_pass_40 (by decide) (by omega) (fun c6 => ?_) (fun c6 => ?_)
      · refine lv_aload_n F.1 F.2.1 dX8_pass_54 rfl (lv_at hl 0 rfl) ?_
        refine lv_iload_n F.1 F.2.1 dX8_pass_55 rfl (lv_at hl 1 rfl) ?_
        refine lv_iload_n F.1 F.2.1 dX8_pass_56 rfl (lv_at hl 2 rfl) ?_
        refine lv_iload_n F.1 F.2.1 dX8_pass_57 rfl (lv_at hl 3 rfl) ?_
        refine cl_RX8_349 (As := [.int (iI co), .int (iI fr), .int (iI to)]) (rest := []) F hl (c_doPass_r2 l X w y su ac σ nx sz pas co fr to hY hac hL hH (by omega) (by omega) (by omega) (by omega)) hW hS hY rfl rfl ⟨Nat.le_of_ble_eq_true rfl, Nat.le_of_ble_eq_true rfl⟩ (Nat.le_of_ble_eq_true rfl) ⟨Nat.zero_le _, Nat.zero_le _⟩ dX8_pass_58 (fun w7 H locs hp8 hW hS => ?_)
        obtain ⟨ha9, hn10⟩ := hp8
        have hY := (hn10 _ (by omega)).trans hY
        have hO := (hn10 _ (by omega)).trans hO
        exact h_ireti F hr hlk hW hS ⟨ha9, (fun q h09 => by rw [hn10 q (by omega)])⟩ dX8_pass_61
      · exfalso; omega
    · have c5d := of_decide_eq_false c5
      exfalso; omega
set_option maxHeartbeats 4000000 in
set_option maxRecDepth 100000 in
theorem c_X8_pass (l : Launch) (X : Cx) (w : Wo) (y : Nat) (su : Int) (ac : Int → Int) (σ : Int → Int) (nx sz : Int) (pas : Int → Int → Int) (co fr to : Int) (hY : clO X w y su) (hac : w (y + 305) = some (aZ X 9 ac)) (hL : loomAt X w (y + 1) σ) (hH : hisAt X w (y + 53) nx sz pas) (hco : 0 ≤ co ∧ co < 7) (hft : 0 ≤ fr ∧ fr ≤ to ∧ to < σ 0) (hop : σ 4 < σ 1) (hst : to - fr + 1 ≤ σ (6 + co)) : CM l X yX8_pass cX8_pass 4 (some (.int)) (rmk 6 153) [.ref y, .int (iI co), .int (iI fr), .int (iI to)] w (some (.int (iI (σ (6 + co) - (to - fr + 1))))) (fun w' => w' (y + 305) = some (aZ X 9 (up ac 0 (ac 0 + 1))) ∧ hisAt X w' (y + 53) ((if nx = 8 then 0 else nx) + 1) (min 8 (sz + 1)) (keepP sz pas σ) ∧ loomAt X w' (y + 1) (passN σ co fr (to - fr + 1).toNat) ∧ ∀ q : Nat, q ≠ y + 305 → q ≠ y + 1 + 2 → q ≠ y + 1 + 5 → (q < y + 53 ∨ y + 255 ≤ q) → w' q = w q) := by
  refine CM.of (lv := [(0, .ref y), (1, .int (iI co)), (2, .int (iI fr)), (3, .int (iI to))]) (by decide) (Nat.le_of_ble_eq_true rfl) rfl (fun p e s m below meth c ls F hr hlk hin hW hS hl => ?_)
  have hZ0 := hW.2.2
  have hB9 := hW.1.2
  clear hin
  unfold clO at hY
  have hO := hL.1.o
  have hA := hL.1
  have hwf := hL.2.2
  have hF := hwf.1
  unfold WF0 at hF
  have hsr := hwf.2.1 co (by omega) (by omega)
  refine lv_aload_n F.1 F.2.1 dX8_pass_0 rfl (lv_at hl 0 rfl) ?_
  refine lv_iload_n F.1 F.2.1 dX8_pass_1 rfl (lv_at hl 1 rfl) ?_
  refine cl_RX8_245 (As := [.int (iI co)]) (rest := []) F hl (c_X8_checkColour l X w y su σ co hY hL (by omega)) hW hS hY rfl rfl ⟨Nat.le_of_ble_eq_true rfl, Nat.le_of_ble_eq_true rfl⟩ (Nat.le_of_ble_eq_true rfl) ⟨Nat.zero_le _, Nat.zero_le _⟩ dX8_pass_2 (fun w1 H locs hp1 hW hS => ?_)
  rw [hp1] at hW; clear hp1; clear w1
  refine lv_aload_n F.1 F.2.1 dX8_pass_5 rfl (lv_at hl 0 rfl) ?_
  refine gf_RX8_10 F hW hY rfl dX8_pass_6 ?_
  refine lv_iload_n F.1 F.2.1 dX8_pass_9 rfl (lv_at hl 2 rfl) ?_
  refine cl_RX8_342 (As := [.int (iI fr)]) (rest := []) F hl (c_X5_hasColumn l X w (y + 1) σ fr hA hwf (by omega)) hW hS hO rfl rfl ⟨Nat.le_of_ble_eq_true rfl, Nat.le_of_ble_eq_true rfl⟩ (Nat.le_of_ble_eq_true rfl) ⟨Nat.zero_le _, Nat.zero_le _⟩ dX8_pass_10 (fun w1 H locs hp2 hW hS => ?_)
  rw [hp2] at hW; clear hp2; clear w1
  refine h_ifeqb (tgt := 27) F dX8_pass_13 (by decide) (fun c3 => ?_) (fun c3 => ?_)
  · have c3d := of_decide_eq_false c3
    exfalso; omega
  · have c3d := of_decide_eq_true c3
    refine lv_aload_n F.1 F.2.1 dX8_pass_16 rfl (lv_at hl 0 rfl) ?_
    refine gf_RX8_10 F hW hY rfl dX8_pass_17 ?_
    refine lv_iload_n F.1 F.2.1 dX8_pass_20 rfl (lv_at hl 3 rfl) ?_
    refine cl_RX8_342 (As := [.int (iI to)]) (rest := []) F hl (c_X5_hasColumn l X w (y + 1) σ to hA hwf (by omega)) hW hS hO rfl rfl ⟨Nat.le_of_ble_eq_true rfl, Nat.le_of_ble_eq_true rfl⟩ (Nat.le_of_ble_eq_true rfl) ⟨Nat.zero_le _, Nat.zero_le _⟩ dX8_pass_21 (fun w1 H locs hp4 hW hS => ?_)
    rw [hp4] at hW; clear hp4; clear w1
    refine h_ifneb (tgt := 38) F dX8_pass_24 (by decide) (fun c5 => ?_) (fun c5 => ?_)
    · have c5d := of_decide_eq_true c5
      refine lv_iload_n F.1 F.2.1 dX8_pass_38 rfl (lv_at hl 3 rfl) ?_
      refine lv_iload_n F.1 F.2.1 dX8_pass_39 rfl (lv_at hl 2 rfl) ?_
      refine h_icge (tgt := 54) F dX8_pass_40 (by decide) (by omega) (fun c6 => ?_) (fun c6 => ?_)
      · refine lv_aload_n F.1 F.2.1 dX8_pass_54 rfl (lv_at hl 0 rfl) ?_
        refine lv_iload_n F.1 F.2.1 dX8_pass_55 rfl (lv_at hl 1 rfl) ?_
        refine lv_iload_n F.1 F.2.1 dX8_pass_56 rfl (lv_at hl 2 rfl) ?_
        refine lv_iload_n F.1 F.2.1 dX8_pass_57 rfl (lv_at hl 3 rfl) ?_
        refine cl_RX8_349 (As := [.int (iI co), .int (iI fr), .int (iI to)]) (rest := []) F hl (c_X8_doPass l X w y su ac σ nx sz pas co fr to hY hac hL hH (by omega) (by omega) (by omega) (by omega)) hW hS hY rfl rfl ⟨Nat.le_of_ble_eq_true rfl, Nat.le_of_ble_eq_true rfl⟩ (Nat.le_of_ble_eq_true rfl) ⟨Nat.zero_le _, Nat.zero_le _⟩ dX8_pass_58 (fun w7 H locs hp8 hW hS => ?_)
        obtain ⟨ha9, hq09, hq19, hn10⟩ := hp8
        have hY := (hn10 _ (by omega) (by omega) (by omega) (by omega)).trans hY
        exact h_ireti F hr hlk hW hS ⟨ha9, hq09, hq19, (fun q h09 h19 h29 h39 => by rw [hn10 q (by omega) (by omega) (by omega) (by omega)])⟩ dX8_pass_61
      · exfalso; omega
    · have c5d := of_decide_eq_false c5
      exfalso; omega
set_option maxHeartbeats 4000000 in
set_option maxRecDepth 100000 in
theorem c_beat_r1 (l : Launch) (X : Cx) (w : Wo) (y : Nat) (su : Int) (ac : Int → Int) (σ : Int → Int) (nx sz : Int) (pas : Int → Int → Int) (hY : clO X w y su) (hac : w (y + 305) = some (aZ X 9 ac)) (hL : loomAt X w (y + 1) σ) (hH : hisAt X w (y + 53) nx sz pas) (hop : σ 4 = σ 1) : CM l X yX8_beat cX8_beat 1 (some (.int)) (rmk 6 150) [.ref y] w (some (.int (iI (-1)))) (fun w' => w' (y + 305) = some (aZ X 9 (up ac 1 (ac 1 + 1))) ∧ ∀ q : Nat, q ≠ y + 305 → w' q = w q) := by
  refine CM.of (lv := [(0, .ref y)]) (by decide) (Nat.le_of_ble_eq_true rfl) rfl (fun p e s m below meth c ls F hr hlk hin hW hS hl => ?_)
  have hZ0 := hW.2.2
  have hB9 := hW.1.2
  clear hin
  unfold clO at hY
  have hO := hL.1.o
  have hA := hL.1
  have hwf := hL.2.2
  have hF := hwf.1
  unfold WF0 at hF
  have hs0 := hwf.2.1 0 (by decide) (by decide)
  have hs6 : σ (6 + 0) = σ 6 := rfl
  have hor : 0 ≤ opnS σ ∧ opnS σ ≤ σ 0 := by have := cnt_r (opnB σ) (lo := 0) (hi := σ 0) (by omega); unfold opnS; omega
  refine lv_aload_n F.1 F.2.1 dX8_beat_0 rfl (lv_at hl 0 rfl) ?_
  refine cl_RX8_352 (As := []) (rest := []) F hl (c_doBeat_r1 l X w y su ac σ nx sz pas hY hac hL hH (by omega)) hW hS hY rfl rfl ⟨Nat.le_of_ble_eq_true rfl, Nat.le_of_ble_eq_true rfl⟩ (Nat.le_of_ble_eq_true rfl) ⟨Nat.zero_le _, Nat.zero_le _⟩ dX8_beat_1 (fun w1 H locs hp2 hW hS => ?_)
  obtain ⟨ha3, hn4⟩ := hp2
  have hY := (hn4 _ (by omega)).trans hY
  have hO := (hn4 _ (by omega)).trans hO
  exact h_ireti F hr hlk hW hS ⟨ha3, (fun q h09 => by rw [hn4 q (by omega)])⟩ dX8_beat_4
set_option maxHeartbeats 4000000 in
set_option maxRecDepth 100000 in
theorem c_beat_r2 (l : Launch) (X : Cx) (w : Wo) (y : Nat) (su : Int) (ac : Int → Int) (σ : Int → Int) (nx sz : Int) (pas : Int → Int → Int) (hY : clO X w y su) (hac : w (y + 305) = some (aZ X 9 ac)) (hL : loomAt X w (y + 1) σ) (hH : hisAt X w (y + 53) nx sz pas) (hop : σ 4 < σ 1) (hst : σ 6 < σ 0 - opnS σ) : CM l X yX8_beat cX8_beat 1 (some (.int)) (rmk 6 150) [.ref y] w (some (.int (iI (-2)))) (fun w' => w' (y + 305) = some (aZ X 9 (up ac 2 (ac 2 + 1))) ∧ ∀ q : Nat, q ≠ y + 305 → w' q = w q) := by
  refine CM.of (lv := [(0, .ref y)]) (by decide) (Nat.le_of_ble_eq_true rfl) rfl (fun p e s m below meth c ls F hr hlk hin hW hS hl => ?_)
  have hZ0 := hW.2.2
  have hB9 := hW.1.2
  clear hin
  unfold clO at hY
  have hO := hL.1.o
  have hA := hL.1
  have hwf := hL.2.2
  have hF := hwf.1
  unfold WF0 at hF
  have hs0 := hwf.2.1 0 (by decide) (by decide)
  have hs6 : σ (6 + 0) = σ 6 := rfl
  have hor : 0 ≤ opnS σ ∧ opnS σ ≤ σ 0 := by have := cnt_r (opnB σ) (lo := 0) (hi := σ 0) (by omega); unfold opnS; omega
  refine lv_aload_n F.1 F.2.1 dX8_beat_0 rfl (lv_at hl 0 rfl) ?_
  refine cl_RX8_352 (As := []) (rest := []) F hl (c_doBeat_r2 l X w y su ac σ nx sz pas hY hac hL hH (by omega) (by omega)) hW hS hY rfl rfl ⟨Nat.le_of_ble_eq_true rfl, Nat.le_of_ble_eq_true rfl⟩ (Nat.le_of_ble_eq_true rfl) ⟨Nat.zero_le _, Nat.zero_le _⟩ dX8_beat_1 (fun w1 H locs hp2 hW hS => ?_)
  obtain ⟨ha3, hn4⟩ := hp2
  have hY := (hn4 _ (by omega)).trans hY
  have hO := (hn4 _ (by omega)).trans hO
  exact h_ireti F hr hlk hW hS ⟨ha3, (fun q h09 => by rw [hn4 q (by omega)])⟩ dX8_beat_4
set_option maxHeartbeats 4000000 in
set_option maxRecDepth 100000 in
theorem c_X8_beat (l : Launch) (X : Cx) (w : Wo) (y : Nat) (su : Int) (ac : Int → Int) (σ : Int → Int) (nx sz : Int) (pas : Int → Int → Int) (hY : clO X w y su) (hac : w (y + 305) = some (aZ X 9 ac)) (hL : loomAt X w (y + 1) σ) (hH : hisAt X w (y + 53) nx sz pas) (hop : σ 4 < σ 1) (hst : σ 0 - opnS σ ≤ σ 6) : CM l X yX8_beat cX8_beat 1 (some (.int)) (rmk 6 150) [.ref y] w (some (.int (iI (misRow (btS σ) (σ 4))))) (fun w' => w' (y + 305) = some (aZ X 9 (up (up ac 0 (ac 0 + 1)) 8 (ac 8 + mnS (beatN σ (σ 0).toNat) (σ 4)))) ∧ hisAt X w' (y + 53) ((if nx = 8 then 0 else nx) + 1) (min 8 (sz + 1)) (keepP sz pas σ) ∧ loomAt X w' (y + 1) (btS σ) ∧ ∀ q : Nat, q ≠ y + 305 → q ≠ y + 1 + 2 → q ≠ y + 1 + 5 → (q < y + 53 ∨ y + 255 ≤ q) → q ≠ y + 1 → w' q = w q) := by
  refine CM.of (lv := [(0, .ref y)]) (by decide) (Nat.le_of_ble_eq_true rfl) rfl (fun p e s m below meth c ls F hr hlk hin hW hS hl => ?_)
  have hZ0 := hW.2.2
  have hB9 := hW.1.2
  clear hin
  unfold clO at hY
  have hO := hL.1.o
  have hA := hL.1
  have hwf := hL.2.2
  have hF := hwf.1
  unfold WF0 at hF
  have hs0 := hwf.2.1 0 (by decide) (by decide)
  have hs6 : σ (6 + 0) = σ 6 := rfl
  have hor : 0 ≤ opnS σ ∧ opnS σ ≤ σ 0 := by have := cnt_r (opnB σ) (lo := 0) (hi := σ 0) (by omega); unfold opnS; omega
  refine lv_aload_n F.1 F.2.1 dX8_beat_0 rfl (lv_at hl 0 rfl) ?_
  refine cl_RX8_352 (As := []) (rest := []) F hl (c_X8_doBeat l X w y su ac σ nx sz pas hY hac hL hH (by omega) (by omega)) hW hS hY rfl rfl ⟨Nat.le_of_ble_eq_true rfl, Nat.le_of_ble_eq_true rfl⟩ (Nat.le_of_ble_eq_true rfl) ⟨Nat.zero_le _, Nat.zero_le _⟩ dX8_beat_1 (fun w1 H locs hp2 hW hS => ?_)
  obtain ⟨ha3, hq09, hq19, hn4⟩ := hp2
  have hY := (hn4 _ (by omega) (by omega) (by omega) (by omega) (by omega)).trans hY
  exact h_ireti F hr hlk hW hS ⟨ha3, hq09, hq19, (fun q h09 h19 h29 h39 h49 => by rw [hn4 q (by omega) (by omega) (by omega) (by omega) (by omega)])⟩ dX8_beat_4
set_option maxHeartbeats 4000000 in
set_option maxRecDepth 100000 in
theorem c_weave_r3 (l : Launch) (X : Cx) (w : Wo) (y : Nat) (su : Int) (ac am : Int → Int) (σ : Int → Int) (nx sz : Int) (pas : Int → Int → Int) (rw9 : Int) (b : Bool) (hY : clO X w y su) (hac : w (y + 305) = some (aZ X 9 ac)) (ham : w (y + 306) = some (aZ X 7 am)) (hL : loomAt X w (y + 1) σ) (hH : hisAt X w (y + 53) nx sz pas) (hrw : 1 ≤ rw9 ∧ rw9 ≤ 30) (hop : σ 1 < σ 4 + rw9) : CM l X yX8_weave cX8_weave 3 (some (.int)) (rmk 6 152) [.ref y, .int (iI rw9), .int (iI (bz b))] w (some (.int (iI (-3)))) (fun w' => w' (y + 305) = some (aZ X 9 (up ac 3 (ac 3 + 1))) ∧ ∀ q : Nat, q ≠ y + 305 → w' q = w q) := by
  refine CM.of (lv := [(0, .ref y), (1, .int (iI rw9)), (2, .int (iI (bz b)))]) (by decide) (Nat.le_of_ble_eq_true rfl) rfl (fun p e s m below meth c ls F hr hlk hin hW hS hl => ?_)
  have hZ0 := hW.2.2
  have hB9 := hW.1.2
  clear hin
  unfold clO at hY
  have hO := hL.1.o
  have hA := hL.1
  have hwf := hL.2.2
  have hF := hwf.1
  unfold WF0 at hF
  refine lv_iload_n F.1 F.2.1 dX8_weave_0 rfl (lv_at hl 1 rfl) ?_
  refine h_iconst F dX8_weave_1 ?_
  refine h_iclt (tgt := 11) F dX8_weave_2 (by decide) (by omega) (fun c1 => ?_) (fun c1 => ?_)
  · exfalso; omega
  · refine lv_iload_n F.1 F.2.1 dX8_weave_5 rfl (lv_at hl 1 rfl) ?_
    refine h_bipush F dX8_weave_6 rfl ?_
    refine h_icle (tgt := 22) F dX8_weave_8 (by decide) (by omega) (fun c2 => ?_) (fun c2 => ?_)
    · refine lv_aload_n F.1 F.2.1 dX8_weave_22 rfl (lv_at hl 0 rfl) ?_
      refine lv_iload_n F.1 F.2.1 dX8_weave_23 rfl (lv_at hl 1 rfl) ?_
      refine lv_iload_n F.1 F.2.1 dX8_weave_24 rfl (lv_at hl 2 rfl) ?_
      refine cl_RX8_355 (As := [.int (iI rw9), .int (iI (bz b))]) (rest := []) F hl (c_doWeave_r3 l X w y su ac am σ nx sz pas rw9 b hY hac ham hL hH (by omega) (by omega)) hW hS hY rfl rfl ⟨Nat.le_of_ble_eq_true rfl, Nat.le_of_ble_eq_true rfl⟩ (Nat.le_of_ble_eq_true rfl) ⟨Nat.zero_le _, Nat.zero_le _⟩ dX8_weave_25 (fun w3 H locs hp4 hW hS => ?_)
      obtain ⟨ha5, hn6⟩ := hp4
      have hY := (hn6 _ (by omega)).trans hY
      have hO := (hn6 _ (by omega)).trans hO
      have ham := (hn6 _ (by omega)).trans ham
      exact h_ireti F hr hlk hW hS ⟨ha5, (fun q h09 => by rw [hn6 q (by omega)])⟩ dX8_weave_28
    · exfalso; omega
set_option maxHeartbeats 4000000 in
set_option maxRecDepth 100000 in
theorem c_weave_r2 (l : Launch) (X : Cx) (w : Wo) (y : Nat) (su : Int) (ac am : Int → Int) (σ : Int → Int) (nx sz : Int) (pas : Int → Int → Int) (rw9 : Int) (b : Bool) (hY : clO X w y su) (hac : w (y + 305) = some (aZ X 9 ac)) (ham : w (y + 306) = some (aZ X 7 am)) (hL : loomAt X w (y + 1) σ) (hH : hisAt X w (y + 53) nx sz pas) (hrw : 1 ≤ rw9 ∧ rw9 ≤ 30) (hop : σ 4 + rw9 ≤ σ 1) (hen : enoS σ b rw9 = false) : CM l X yX8_weave cX8_weave 3 (some (.int)) (rmk 6 152) [.ref y, .int (iI rw9), .int (iI (bz b))] w (some (.int (iI (-2)))) (fun w' => w' (y + 305) = some (aZ X 9 (up ac 2 (ac 2 + 1))) ∧ w' (y + 306) = some (aZ X 7 (ndS am σ b (σ 4 + rw9))) ∧ ∀ q : Nat, q ≠ y + 305 → q ≠ y + 306 → w' q = w q) := by
  refine CM.of (lv := [(0, .ref y), (1, .int (iI rw9)), (2, .int (iI (bz b)))]) (by decide) (Nat.le_of_ble_eq_true rfl) rfl (fun p e s m below meth c ls F hr hlk hin hW hS hl => ?_)
  have hZ0 := hW.2.2
  have hB9 := hW.1.2
  clear hin
  unfold clO at hY
  have hO := hL.1.o
  have hA := hL.1
  have hwf := hL.2.2
  have hF := hwf.1
  unfold WF0 at hF
  refine lv_iload_n F.1 F.2.1 dX8_weave_0 rfl (lv_at hl 1 rfl) ?_
  refine h_iconst F dX8_weave_1 ?_
  refine h_iclt (tgt := 11) F dX8_weave_2 (by decide) (by omega) (fun c1 => ?_) (fun c1 => ?_)
  · exfalso; omega
  · refine lv_iload_n F.1 F.2.1 dX8_weave_5 rfl (lv_at hl 1 rfl) ?_
    refine h_bipush F dX8_weave_6 rfl ?_
    refine h_icle (tgt := 22) F dX8_weave_8 (by decide) (by omega) (fun c2 => ?_) (fun c2 => ?_)
    · refine lv_aload_n F.1 F.2.1 dX8_weave_22 rfl (lv_at hl 0 rfl) ?_
      refine lv_iload_n F.1 F.2.1 dX8_weave_23 rfl (lv_at hl 1 rfl) ?_
      refine lv_iload_n F.1 F.2.1 dX8_weave_24 rfl (lv_at hl 2 rfl) ?_
      refine cl_RX8_355 (As := [.int (iI rw9), .int (iI (bz b))]) (rest := []) F hl (c_doWeave_r2 l X w y su ac am σ nx sz pas rw9 b hY hac ham hL hH (by omega) (by omega) hen) hW hS hY rfl rfl ⟨Nat.le_of_ble_eq_true rfl, Nat.le_of_ble_eq_true rfl⟩ (Nat.le_of_ble_eq_true rfl) ⟨Nat.zero_le _, Nat.zero_le _⟩ dX8_weave_25 (fun w3 H locs hp4 hW hS => ?_)
      obtain ⟨ha5, ha6, hn7⟩ := hp4
      have hY := (hn7 _ (by omega) (by omega)).trans hY
      have hO := (hn7 _ (by omega) (by omega)).trans hO
      exact h_ireti F hr hlk hW hS ⟨ha5, ha6, (fun q h09 h19 => by rw [hn7 q (by omega) (by omega)])⟩ dX8_weave_28
    · exfalso; omega
set_option maxHeartbeats 4000000 in
set_option maxRecDepth 100000 in
theorem c_X8_weave (l : Launch) (X : Cx) (w : Wo) (y : Nat) (su : Int) (ac am : Int → Int) (σ : Int → Int) (nx sz : Int) (pas : Int → Int → Int) (rw9 : Int) (b : Bool) (hY : clO X w y su) (hac : w (y + 305) = some (aZ X 9 ac)) (ham : w (y + 306) = some (aZ X 7 am)) (hL : loomAt X w (y + 1) σ) (hH : hisAt X w (y + 53) nx sz pas) (hrw : 1 ≤ rw9 ∧ rw9 ≤ 30) (hop : σ 4 + rw9 ≤ σ 1) (hen : enoS σ b rw9 = true) : CM l X yX8_weave cX8_weave 3 (some (.int)) (rmk 6 152) [.ref y, .int (iI rw9), .int (iI (bz b))] w (some (.int (iI (misFrom (weaveN σ b rw9.toNat) (σ 4))))) (fun w' => w' (y + 305) = some (aZ X 9 (wac ac σ b rw9.toNat)) ∧ w' (y + 306) = some (aZ X 7 (ndS am σ b (σ 4 + rw9))) ∧ hisAt X w' (y + 53) ((if nx = 8 then 0 else nx) + 1) (min 8 (sz + 1)) (keepP sz pas σ) ∧ loomAt X w' (y + 1) (weaveN σ b rw9.toNat) ∧ ∀ q : Nat, q ≠ y + 305 → q ≠ y + 306 → q ≠ y + 1 → q ≠ y + 1 + 2 → q ≠ y + 1 + 5 → (q < y + 53 ∨ y + 255 ≤ q) → w' q = w q) := by
  refine CM.of (lv := [(0, .ref y), (1, .int (iI rw9)), (2, .int (iI (bz b)))]) (by decide) (Nat.le_of_ble_eq_true rfl) rfl (fun p e s m below meth c ls F hr hlk hin hW hS hl => ?_)
  have hZ0 := hW.2.2
  have hB9 := hW.1.2
  clear hin
  unfold clO at hY
  have hO := hL.1.o
  have hA := hL.1
  have hwf := hL.2.2
  have hF := hwf.1
  unfold WF0 at hF
  refine lv_iload_n F.1 F.2.1 dX8_weave_0 rfl (lv_at hl 1 rfl) ?_
  refine h_iconst F dX8_weave_1 ?_
  refine h_iclt (tgt := 11) F dX8_weave_2 (by decide) (by omega) (fun c1 => ?_) (fun c1 => ?_)
  · exfalso; omega
  · refine lv_iload_n F.1 F.2.1 dX8_weave_5 rfl (lv_at hl 1 rfl) ?_
    refine h_bipush F dX8_weave_6 rfl ?_
    refine h_icle (tgt := 22) F dX8_weave_8 (by decide) (by omega) (fun c2 => ?_) (fun c2 => ?_)
    · refine lv_aload_n F.1 F.2.1 dX8_weave_22 rfl (lv_at hl 0 rfl) ?_
      refine lv_iload_n F.1 F.2.1 dX8_weave_23 rfl (lv_at hl 1 rfl) ?_
      refine lv_iload_n F.1 F.2.1 dX8_weave_24 rfl (lv_at hl 2 rfl) ?_
      refine cl_RX8_355 (As := [.int (iI rw9), .int (iI (bz b))]) (rest := []) F hl (c_X8_doWeave l X w y su ac am σ nx sz pas rw9 b hY hac ham hL hH (by omega) (by omega) hen) hW hS hY rfl rfl ⟨Nat.le_of_ble_eq_true rfl, Nat.le_of_ble_eq_true rfl⟩ (Nat.le_of_ble_eq_true rfl) ⟨Nat.zero_le _, Nat.zero_le _⟩ dX8_weave_25 (fun w3 H locs hp4 hW hS => ?_)
      obtain ⟨ha5, ha6, hq09, hq19, hn7⟩ := hp4
      have hY := (hn7 _ (by omega) (by omega) (by omega) (by omega) (by omega) (by omega)).trans hY
      exact h_ireti F hr hlk hW hS ⟨ha5, ha6, hq09, hq19, (fun q h09 h19 h29 h39 h49 h59 => by rw [hn7 q (by omega) (by omega) (by omega) (by omega) (by omega) (by omega)])⟩ dX8_weave_28
    · exfalso; omega
set_option maxHeartbeats 4000000 in
set_option maxRecDepth 100000 in
theorem c_unpick_r3 (l : Launch) (X : Cx) (w : Wo) (y : Nat) (su : Int) (ac : Int → Int) (σ : Int → Int) (nx sz : Int) (pas : Int → Int → Int) (rw9 : Int) (hY : clO X w y su) (hac : w (y + 305) = some (aZ X 9 ac)) (hL : loomAt X w (y + 1) σ) (hH : hisAt X w (y + 53) nx sz pas) (hrw : 0 ≤ rw9 ∧ rw9 ≤ 30) (hop : σ 4 < rw9) : CM l X yX8_unpick cX8_unpick 2 (some (.int)) (rmk 6 153) [.ref y, .int (iI rw9)] w (some (.int (iI (-3)))) (fun w' => w' (y + 305) = some (aZ X 9 (up ac 3 (ac 3 + 1))) ∧ ∀ q : Nat, q ≠ y + 305 → w' q = w q) := by
  refine CM.of (lv := [(0, .ref y), (1, .int (iI rw9))]) (by decide) (Nat.le_of_ble_eq_true rfl) rfl (fun p e s m below meth c ls F hr hlk hin hW hS hl => ?_)
  have hZ0 := hW.2.2
  have hB9 := hW.1.2
  clear hin
  unfold clO at hY
  have hO := hL.1.o
  have hA := hL.1
  have hwf := hL.2.2
  have hF := hwf.1
  unfold WF0 at hF
  refine lv_iload_n F.1 F.2.1 dX8_unpick_0 rfl (lv_at hl 1 rfl) ?_
  refine h_iflt (tgt := 10) F dX8_unpick_1 (by decide) (by omega) (fun c1 => ?_) (fun c1 => ?_)
  · exfalso; omega
  · refine lv_iload_n F.1 F.2.1 dX8_unpick_4 rfl (lv_at hl 1 rfl) ?_
    refine h_bipush F dX8_unpick_5 rfl ?_
    refine h_icle (tgt := 21) F dX8_unpick_7 (by decide) (by omega) (fun c2 => ?_) (fun c2 => ?_)
    · refine lv_aload_n F.1 F.2.1 dX8_unpick_21 rfl (lv_at hl 0 rfl) ?_
      refine lv_iload_n F.1 F.2.1 dX8_unpick_22 rfl (lv_at hl 1 rfl) ?_
      refine cl_RX8_359 (As := [.int (iI rw9)]) (rest := []) F hl (c_doUnpick_r3 l X w y su ac σ nx sz pas rw9 hY hac hL hH (by omega) (by omega)) hW hS hY rfl rfl ⟨Nat.le_of_ble_eq_true rfl, Nat.le_of_ble_eq_true rfl⟩ (Nat.le_of_ble_eq_true rfl) ⟨Nat.zero_le _, Nat.zero_le _⟩ dX8_unpick_23 (fun w3 H locs hp4 hW hS => ?_)
      obtain ⟨ha5, hn6⟩ := hp4
      have hY := (hn6 _ (by omega)).trans hY
      have hO := (hn6 _ (by omega)).trans hO
      exact h_ireti F hr hlk hW hS ⟨ha5, (fun q h09 => by rw [hn6 q (by omega)])⟩ dX8_unpick_26
    · exfalso; omega
set_option maxHeartbeats 4000000 in
set_option maxRecDepth 100000 in
theorem c_X8_unpick (l : Launch) (X : Cx) (w : Wo) (y : Nat) (su : Int) (ac : Int → Int) (σ : Int → Int) (nx sz : Int) (pas : Int → Int → Int) (rw9 : Int) (hY : clO X w y su) (hac : w (y + 305) = some (aZ X 9 ac)) (hL : loomAt X w (y + 1) σ) (hH : hisAt X w (y + 53) nx sz pas) (hrw : 0 ≤ rw9 ∧ rw9 ≤ 30) (hop : rw9 ≤ σ 4) : CM l X yX8_unpick cX8_unpick 2 (some (.int)) (rmk 6 153) [.ref y, .int (iI rw9)] w (some (.int (iI (sm (wvnS σ (σ 4 - rw9)) 0 7)))) (fun w' => w' (y + 305) = some (aZ X 9 (up ac 0 (ac 0 + 1))) ∧ hisAt X w' (y + 53) ((if nx = 8 then 0 else nx) + 1) (min 8 (sz + 1)) (keepP sz pas σ) ∧ loomAt X w' (y + 1) (clrS (unpS σ (σ 4 - rw9) 7) (σ 4 - rw9)) ∧ ∀ q : Nat, q ≠ y + 305 → q ≠ y + 1 + 2 → q ≠ y + 1 + 5 → (q < y + 53 ∨ y + 255 ≤ q) → q ≠ y + 1 → w' q = w q) := by
  refine CM.of (lv := [(0, .ref y), (1, .int (iI rw9))]) (by decide) (Nat.le_of_ble_eq_true rfl) rfl (fun p e s m below meth c ls F hr hlk hin hW hS hl => ?_)
  have hZ0 := hW.2.2
  have hB9 := hW.1.2
  clear hin
  unfold clO at hY
  have hO := hL.1.o
  have hA := hL.1
  have hwf := hL.2.2
  have hF := hwf.1
  unfold WF0 at hF
  refine lv_iload_n F.1 F.2.1 dX8_unpick_0 rfl (lv_at hl 1 rfl) ?_
  refine h_iflt (tgt := 10) F dX8_unpick_1 (by decide) (by omega) (fun c1 => ?_) (fun c1 => ?_)
  · exfalso; omega
  · refine lv_iload_n F.1 F.2.1 dX8_unpick_4 rfl (lv_at hl 1 rfl) ?_
    refine h_bipush F dX8_unpick_5 rfl ?_
    refine h_icle (tgt := 21) F dX8_unpick_7 (by decide) (by omega) (fun c2 => ?_) (fun c2 => ?_)
    · refine lv_aload_n F.1 F.2.1 dX8_unpick_21 rfl (lv_at hl 0 rfl) ?_
      refine lv_iload_n F.1 F.2.1 dX8_unpick_22 rfl (lv_at hl 1 rfl) ?_
      refine cl_RX8_359 (As := [.int (iI rw9)]) (rest := []) F hl (c_X8_doUnpick l X w y su ac σ nx sz pas rw9 hY hac hL hH (by omega) (by omega)) hW hS hY rfl rfl ⟨Nat.le_of_ble_eq_true rfl, Nat.le_of_ble_eq_true rfl⟩ (Nat.le_of_ble_eq_true rfl) ⟨Nat.zero_le _, Nat.zero_le _⟩ dX8_unpick_23 (fun w3 H locs hp4 hW hS => ?_)
      obtain ⟨ha5, hq09, hq19, hn6⟩ := hp4
      have hY := (hn6 _ (by omega) (by omega) (by omega) (by omega) (by omega)).trans hY
      exact h_ireti F hr hlk hW hS ⟨ha5, hq09, hq19, (fun q h09 h19 h29 h39 h49 => by rw [hn6 q (by omega) (by omega) (by omega) (by omega) (by omega)])⟩ dX8_unpick_26
    · exfalso; omega
set_option maxHeartbeats 4000000 in
set_option maxRecDepth 100000 in
theorem c_X8_look (l : Launch) (X : Cx) (w : Wo) (y : Nat) (su : Int) (ac : Int → Int) (σ : Int → Int) (nx sz : Int) (pas : Int → Int → Int) (hY : clO X w y su) (hac : w (y + 305) = some (aZ X 9 ac)) (hL : loomAt X w (y + 1) σ) (hH : hisAt X w (y + 53) nx sz pas) : CM l X yX8_look cX8_look 1 (some (.int)) (rmk 6 149) [.ref y] w (some (.int (iI (misSeen (up σ 3 (σ 4)) - misSeen σ)))) (fun w' => w' (y + 305) = some (aZ X 9 (up ac 0 (ac 0 + 1))) ∧ hisAt X w' (y + 53) ((if nx = 8 then 0 else nx) + 1) (min 8 (sz + 1)) (keepP sz pas σ) ∧ loomAt X w' (y + 1) (up σ 3 (σ 4)) ∧ ∀ q : Nat, q ≠ y + 305 → q ≠ y + 1 → (q < y + 53 ∨ y + 255 ≤ q) → w' q = w q) := by
  refine CM.of (lv := [(0, .ref y)]) (by decide) (Nat.le_of_ble_eq_true rfl) rfl (fun p e s m below meth c ls F hr hlk hin hW hS hl => ?_)
  have hZ0 := hW.2.2
  have hB9 := hW.1.2
  clear hin
  unfold clO at hY
  have hO := hL.1.o
  have hA := hL.1
  have hwf := hL.2.2
  have hF := hwf.1
  unfold WF0 at hF
  refine lv_aload_n F.1 F.2.1 dX8_look_0 rfl (lv_at hl 0 rfl) ?_
  refine cl_RX8_362 (As := []) (rest := []) F hl (c_X8_doLook l X w y su ac σ nx sz pas hY hac hL hH) hW hS hY rfl rfl ⟨Nat.le_of_ble_eq_true rfl, Nat.le_of_ble_eq_true rfl⟩ (Nat.le_of_ble_eq_true rfl) ⟨Nat.zero_le _, Nat.zero_le _⟩ dX8_look_1 (fun w1 H locs hp2 hW hS => ?_)
  obtain ⟨ha3, hq09, hq19, hn4⟩ := hp2
  have hY := (hn4 _ (by omega) (by omega) (by omega)).trans hY
  exact h_ireti F hr hlk hW hS ⟨ha3, hq09, hq19, (fun q h09 h19 h29 => by rw [hn4 q (by omega) (by omega) (by omega)])⟩ dX8_look_4
set_option maxHeartbeats 4000000 in
set_option maxRecDepth 100000 in
theorem c_X9_pass_r1 (l : Launch) (X : Cx) (w : Wo) (mo : Nat) (v σ : Int → Int) (rf : Int → Int) (co fr to : Int) (hM : w mo = some (.inr (9, mL mo v))) (hs : w (mo + 1) = some (aZ X 1317 σ)) (hwf : WF σ) (hrf : w (mo + 6) = some (aZ X 8 rf)) (hco : 0 ≤ co ∧ co < 7) (hft : 0 ≤ fr ∧ fr ≤ to ∧ to < σ 0) (hop : σ 4 = σ 1) : CM l X yX9_pass cX9_pass 5 (some (.int)) (rmk 3 70) [.ref mo, .int (iI co), .int (iI fr), .int (iI to)] w (some (.int (iI (-1)))) (fun w' => w' mo = some (.inr (9, mL mo (up v 6 0))) ∧ w' (mo + 6) = some (aZ X 8 (up rf 1 (rf 1 + 1))) ∧ ∀ q : Nat, q ≠ mo → q ≠ mo + 6 → w' q = w q) := by
  refine CM.of (lv := [(0, .ref mo), (1, .int (iI co)), (2, .int (iI fr)), (3, .int (iI to))]) (by decide) (Nat.le_of_ble_eq_true rfl) rfl (fun p e s m below meth c ls F hr hlk hin hW hS hl => ?_)
  have hZ0 := hW.2.2
  have hB9 := hW.1.2
  clear hin
  have hF := hwf.1
  unfold WF0 at hF
  have hsr := hwf.2.1 co (by omega) (by omega)
  refine lv_iload_n F.1 F.2.1 dX9_pass_0 rfl (lv_at hl 2 rfl) ?_
  refine h_i2l F dX9_pass_1 (by omega) ?_
  refine h_lconst (n := 0) (z := 0) F dX9_pass_2 rfl ?_
  refine lv_aload_n F.1 F.2.1 dX9_pass_3 rfl (lv_at hl 0 rfl) ?_
  refine gf_RX9_7 F hW hM rfl dX9_pass_4 ?_
  refine h_iconst F dX9_pass_7 ?_
  refine h_iald F hW hs (by omega) (by omega) dX9_pass_8 ?_
  refine h_iconst F dX9_pass_9 ?_
  refine h_isub (a := σ 0) (b := 1) F dX9_pass_10 ?_
  refine h_i2l F dX9_pass_11 (by omega) ?_
  refine cl_RX9_82 (As := [.long (lI fr), .long (lI 0), .long (lI ((σ 0) - 1))]) (rest := []) F hl (c_X9_isIn l X w fr 0 ((σ 0) - 1) (by omega) (by omega) (by omega)) hW hS rfl rfl ⟨Nat.le_of_ble_eq_true rfl, Nat.le_of_ble_eq_true rfl⟩ (Nat.le_of_ble_eq_true rfl) ⟨Nat.zero_le _, Nat.zero_le _⟩ dX9_pass_12 (fun w1 H locs hp1 hW hS => ?_)
  rw [hp1] at hW; clear hp1; clear w1
  refine h_top (show (bz (decide (0 ≤ fr ∧ fr ≤ ((σ 0) - 1))) : Int) = bz true from congrArg bz (decide_eq_true (by omega))) ?_
  refine h_ifeqb (tgt := 40) F dX9_pass_15 (by decide) (fun c9 => absurd c9 (by decide)) (fun _ => ?_)
  refine lv_iload_n F.1 F.2.1 dX9_pass_18 rfl (lv_at hl 3 rfl) ?_
  refine h_i2l F dX9_pass_19 (by omega) ?_
  refine h_lconst (n := 0) (z := 0) F dX9_pass_20 rfl ?_
  refine lv_aload_n F.1 F.2.1 dX9_pass_21 rfl (lv_at hl 0 rfl) ?_
  refine gf_RX9_7 F hW hM rfl dX9_pass_22 ?_
  refine h_iconst F dX9_pass_25 ?_
  refine h_iald F hW hs (by omega) (by omega) dX9_pass_26 ?_
  refine h_iconst F dX9_pass_27 ?_
  refine h_isub (a := σ 0) (b := 1) F dX9_pass_28 ?_
  refine h_i2l F dX9_pass_29 (by omega) ?_
  refine cl_RX9_82 (As := [.long (lI to), .long (lI 0), .long (lI ((σ 0) - 1))]) (rest := []) F hl (c_X9_isIn l X w to 0 ((σ 0) - 1) (by omega) (by omega) (by omega)) hW hS rfl rfl ⟨Nat.le_of_ble_eq_true rfl, Nat.le_of_ble_eq_true rfl⟩ (Nat.le_of_ble_eq_true rfl) ⟨Nat.zero_le _, Nat.zero_le _⟩ dX9_pass_30 (fun w1 H locs hp3 hW hS => ?_)
  rw [hp3] at hW; clear hp3; clear w1
  refine h_top (show (bz (decide (0 ≤ to ∧ to ≤ ((σ 0) - 1))) : Int) = bz true from congrArg bz (decide_eq_true (by omega))) ?_
  refine h_ifeqb (tgt := 40) F dX9_pass_33 (by decide) (fun c9 => absurd c9 (by decide)) (fun _ => ?_)
  refine h_iconst F dX9_pass_36 ?_
  refine h_goto (tgt := 41) F dX9_pass_37 (by decide) ?_
  refine lv_istore (lv' := [(4, .int (iI 1)), (0, .ref mo), (1, .int (iI co)), (2, .int (iI fr)), (3, .int (iI to))]) F.1 F.2.1 dX9_pass_41 hl (by decide) rfl (fun ls hl => ?_)
  refine lv_aload_n F.1 F.2.1 dX9_pass_43 rfl (lv_at hl 1 rfl) ?_
  refine lv_iload_n F.1 F.2.1 dX9_pass_44 rfl (lv_at hl 2 rfl) ?_
  refine cl_RX9_195 (As := [.int (iI co)]) (rest := [.ref mo]) F hl (c_X9_isColour l X w co (by omega)) hW hS rfl rfl ⟨Nat.le_of_ble_eq_true rfl, Nat.le_of_ble_eq_true rfl⟩ (Nat.le_of_ble_eq_true rfl) ⟨Nat.zero_le _, Nat.zero_le _⟩ dX9_pass_45 (fun w1 H locs hp5 hW hS => ?_)
  rw [hp5] at hW; clear hp5; clear w1
  refine h_top (show (bz (decide (0 ≤ co ∧ co ≤ 6)) : Int) = bz true from congrArg bz (decide_eq_true (by omega))) ?_
  refine h_ifeqb (tgt := 60) F dX9_pass_48 (by decide) (fun c9 => absurd c9 (by decide)) (fun _ => ?_)
  refine lv_iload F.1 F.2.1 dX9_pass_51 (lv_at hl 0 rfl) ?_
  refine h_ifeq (tgt := 60) F dX9_pass_53 (by decide) (by decide) (fun c9 => absurd c9 (by decide)) (fun _ => ?_)
  refine h_iconst F dX9_pass_56 ?_
  refine h_goto (tgt := 61) F dX9_pass_57 (by decide) ?_
  refine lv_iload_n F.1 F.2.1 dX9_pass_61 rfl (lv_at hl 3 rfl) ?_
  refine lv_iload_n F.1 F.2.1 dX9_pass_62 rfl (lv_at hl 4 rfl) ?_
  refine h_icgt (tgt := 70) F dX9_pass_63 (by decide) (by omega) (fun c8 => ?_) (fun c8 => ?_)
  · exfalso; omega
  · refine h_iconst F dX9_pass_66 ?_
    refine h_goto (tgt := 71) F dX9_pass_67 (by decide) ?_
    refine cl_RX9_163 (As := [.int (iI 1), .int (iI 1)]) (rest := []) F hl (c_both_tt l X w mo v σ hM hs hwf) hW hS hM rfl rfl ⟨Nat.le_of_ble_eq_true rfl, Nat.le_of_ble_eq_true rfl⟩ (Nat.le_of_ble_eq_true rfl) ⟨Nat.zero_le _, Nat.zero_le _⟩ dX9_pass_71 (fun w9 H locs hp10 hW hS => ?_)
    obtain ⟨ho11, hn12⟩ := hp10
    have hs := (hn12 _ (by omega)).trans hs
    have hrf := (hn12 _ (by omega)).trans hrf
    refine h_ifeqb (tgt := 87) F dX9_pass_74 (by decide) (fun c9 => absurd c9 (by decide)) (fun _ => ?_)
    refine lv_aload_n F.1 F.2.1 dX9_pass_77 rfl (lv_at hl 1 rfl) ?_
    refine lv_iload_n F.1 F.2.1 dX9_pass_78 rfl (lv_at hl 2 rfl) ?_
    refine lv_iload_n F.1 F.2.1 dX9_pass_79 rfl (lv_at hl 3 rfl) ?_
    refine lv_iload_n F.1 F.2.1 dX9_pass_80 rfl (lv_at hl 4 rfl) ?_
    refine cl_RX9_243 (As := [.int (iI co), .int (iI fr), .int (iI to)]) (rest := []) F hl (c_passes0_r1 l X w9 mo (up v 6 0) σ rf co fr to ho11 hs hwf hrf (by omega) (by omega) (by omega)) hW hS ho11 rfl rfl ⟨Nat.le_of_ble_eq_true rfl, Nat.le_of_ble_eq_true rfl⟩ (Nat.le_of_ble_eq_true rfl) ⟨Nat.zero_le _, Nat.zero_le _⟩ dX9_pass_81 (fun w14 H locs hp15 hW hS => ?_)
    obtain ⟨ha16, hn17⟩ := hp15
    have ho11 := (hn17 _ (by omega)).trans ho11
    have hs := (hn17 _ (by omega)).trans hs
    refine h_goto (tgt := 88) F dX9_pass_84 (by decide) ?_
    exact h_ireti F hr hlk hW hS ⟨ho11, ha16, (fun q h09 h19 => by rw [hn17 q (by omega), hn12 q (by omega)])⟩ dX9_pass_88
set_option maxHeartbeats 4000000 in
set_option maxRecDepth 100000 in
theorem c_X9_pass_r2 (l : Launch) (X : Cx) (w : Wo) (mo : Nat) (v σ : Int → Int) (rf : Int → Int) (co fr to : Int) (hM : w mo = some (.inr (9, mL mo v))) (hs : w (mo + 1) = some (aZ X 1317 σ)) (hwf : WF σ) (hrf : w (mo + 6) = some (aZ X 8 rf)) (hco : 0 ≤ co ∧ co < 7) (hft : 0 ≤ fr ∧ fr ≤ to ∧ to < σ 0) (hop : σ 4 < σ 1) (hst : σ (6 + co) < to - fr + 1) : CM l X yX9_pass cX9_pass 5 (some (.int)) (rmk 3 70) [.ref mo, .int (iI co), .int (iI fr), .int (iI to)] w (some (.int (iI (-2)))) (fun w' => w' mo = some (.inr (9, mL mo (up v 6 0))) ∧ w' (mo + 6) = some (aZ X 8 (up rf 2 (rf 2 + 1))) ∧ ∀ q : Nat, q ≠ mo → q ≠ mo + 6 → w' q = w q) := by
  refine CM.of (lv := [(0, .ref mo), (1, .int (iI co)), (2, .int (iI fr)), (3, .int (iI to))]) (by decide) (Nat.le_of_ble_eq_true rfl) rfl (fun p e s m below meth c ls F hr hlk hin hW hS hl => ?_)
  have hZ0 := hW.2.2
  have hB9 := hW.1.2
  clear hin
  have hF := hwf.1
  unfold WF0 at hF
  have hsr := hwf.2.1 co (by omega) (by omega)
  refine lv_iload_n F.1 F.2.1 dX9_pass_0 rfl (lv_at hl 2 rfl) ?_
  refine h_i2l F dX9_pass_1 (by omega) ?_
  refine h_lconst (n := 0) (z := 0) F dX9_pass_2 rfl ?_
  refine lv_aload_n F.1 F.2.1 dX9_pass_3 rfl (lv_at hl 0 rfl) ?_
  refine gf_RX9_7 F hW hM rfl dX9_pass_4 ?_
  refine h_iconst F dX9_pass_7 ?_
  refine h_iald F hW hs (by omega) (by omega) dX9_pass_8 ?_
  refine h_iconst F dX9_pass_9 ?_
  refine h_isub (a := σ 0) (b := 1) F dX9_pass_10 ?_
  refine h_i2l F dX9_pass_11 (by omega) ?_
  refine cl_RX9_82 (As := [.long (lI fr), .long (lI 0), .long (lI ((σ 0) - 1))]) (rest := []) F hl (c_X9_isIn l X w fr 0 ((σ 0) - 1) (by omega) (by omega) (by omega)) hW hS rfl rfl ⟨Nat.le_of_ble_eq_true rfl, Nat.le_of_ble_eq_true rfl⟩ (Nat.le_of_ble_eq_true rfl) ⟨Nat.zero_le _, Nat.zero_le _⟩ dX9_pass_12 (fun w1 H locs hp1 hW hS => ?_)
  rw [hp1] at hW; clear hp1; clear w1
  refine h_top (show (bz (decide (0 ≤ fr ∧ fr ≤ ((σ 0) - 1))) : Int) = bz true from congrArg bz (decide_eq_true (by omega))) ?_
  refine h_ifeqb (tgt := 40) F dX9_pass_15 (by decide) (fun c9 => absurd c9 (by decide)) (fun _ => ?_)
  refine lv_iload_n F.1 F.2.1 dX9_pass_18 rfl (lv_at hl 3 rfl) ?_
  refine h_i2l F dX9_pass_19 (by omega) ?_
  refine h_lconst (n := 0) (z := 0) F dX9_pass_20 rfl ?_
  refine lv_aload_n F.1 F.2.1 dX9_pass_21 rfl (lv_at hl 0 rfl) ?_
  refine gf_RX9_7 F hW hM rfl dX9_pass_22 ?_
  refine h_iconst F dX9_pass_25 ?_
  refine h_iald F hW hs (by omega) (by omega) dX9_pass_26 ?_
  refine h_iconst F dX9_pass_27 ?_
  refine h_isub (a := σ 0) (b := 1) F dX9_pass_28 ?_
  refine h_i2l F dX9_pass_29 (by omega) ?_
  refine cl_RX9_82 (As := [.long (lI to), .long (lI 0), .long (lI ((σ 0) - 1))]) (rest := []) F hl (c_X9_isIn l X w to 0 ((σ 0) - 1) (by omega) (by omega) (by omega)) hW hS rfl rfl ⟨Nat.le_of_ble_eq_true rfl, Nat.le_of_ble_eq_true rfl⟩ (Nat.le_of_ble_eq_true rfl) ⟨Nat.zero_le _, Nat.zero_le _⟩ dX9_pass_30 (fun w1 H locs hp3 hW hS => ?_)
  rw [hp3] at hW; clear hp3; clear w1
  refine h_top (show (bz (decide (0 ≤ to ∧ to ≤ ((σ 0) - 1))) : Int) = bz true from congrArg bz (decide_eq_true (by omega))) ?_
  refine h_ifeqb (tgt := 40) F dX9_pass_33 (by decide) (fun c9 => absurd c9 (by decide)) (fun _ => ?_)
  refine h_iconst F dX9_pass_36 ?_
  refine h_goto (tgt := 41) F dX9_pass_37 (by decide) ?_
  refine lv_istore (lv' := [(4, .int (iI 1)), (0, .ref mo), (1, .int (iI co)), (2, .int (iI fr)), (3, .int (iI to))]) F.1 F.2.1 dX9_pass_41 hl (by decide) rfl (fun ls hl => ?_)
  refine lv_aload_n F.1 F.2.1 dX9_pass_43 rfl (lv_at hl 1 rfl) ?_
  refine lv_iload_n F.1 F.2.1 dX9_pass_44 rfl (lv_at hl 2 rfl) ?_
  refine cl_RX9_195 (As := [.int (iI co)]) (rest := [.ref mo]) F hl (c_X9_isColour l X w co (by omega)) hW hS rfl rfl ⟨Nat.le_of_ble_eq_true rfl, Nat.le_of_ble_eq_true rfl⟩ (Nat.le_of_ble_eq_true rfl) ⟨Nat.zero_le _, Nat.zero_le _⟩ dX9_pass_45 (fun w1 H locs hp5 hW hS => ?_)
  rw [hp5] at hW; clear hp5; clear w1
  refine h_top (show (bz (decide (0 ≤ co ∧ co ≤ 6)) : Int) = bz true from congrArg bz (decide_eq_true (by omega))) ?_
  refine h_ifeqb (tgt := 60) F dX9_pass_48 (by decide) (fun c9 => absurd c9 (by decide)) (fun _ => ?_)
  refine lv_iload F.1 F.2.1 dX9_pass_51 (lv_at hl 0 rfl) ?_
  refine h_ifeq (tgt := 60) F dX9_pass_53 (by decide) (by decide) (fun c9 => absurd c9 (by decide)) (fun _ => ?_)
  refine h_iconst F dX9_pass_56 ?_
  refine h_goto (tgt := 61) F dX9_pass_57 (by decide) ?_
  refine lv_iload_n F.1 F.2.1 dX9_pass_61 rfl (lv_at hl 3 rfl) ?_
  refine lv_iload_n F.1 F.2.1 dX9_pass_62 rfl (lv_at hl 4 rfl) ?_
  refine h_icgt (tgt := 70) F dX9_pass_63 (by decide) (by omega) (fun c8 => ?_) (fun c8 => ?_)
  · exfalso; omega
  · refine h_iconst F dX9_pass_66 ?_
    refine h_goto (tgt := 71) F dX9_pass_67 (by decide) ?_
    refine cl_RX9_163 (As := [.int (iI 1), .int (iI 1)]) (rest := []) F hl (c_both_tt l X w mo v σ hM hs hwf) hW hS hM rfl rfl ⟨Nat.le_of_ble_eq_true rfl, Nat.le_of_ble_eq_true rfl⟩ (Nat.le_of_ble_eq_true rfl) ⟨Nat.zero_le _, Nat.zero_le _⟩ dX9_pass_71 (fun w9 H locs hp10 hW hS => ?_)
    obtain ⟨ho11, hn12⟩ := hp10
    have hs := (hn12 _ (by omega)).trans hs
    have hrf := (hn12 _ (by omega)).trans hrf
    refine h_ifeqb (tgt := 87) F dX9_pass_74 (by decide) (fun c9 => absurd c9 (by decide)) (fun _ => ?_)
    refine lv_aload_n F.1 F.2.1 dX9_pass_77 rfl (lv_at hl 1 rfl) ?_
    refine lv_iload_n F.1 F.2.1 dX9_pass_78 rfl (lv_at hl 2 rfl) ?_
    refine lv_iload_n F.1 F.2.1 dX9_pass_79 rfl (lv_at hl 3 rfl) ?_
    refine lv_iload_n F.1 F.2.1 dX9_pass_80 rfl (lv_at hl 4 rfl) ?_
    refine cl_RX9_243 (As := [.int (iI co), .int (iI fr), .int (iI to)]) (rest := []) F hl (c_passes0_r2 l X w9 mo (up v 6 0) σ rf co fr to ho11 hs hwf hrf (by omega) (by omega) (by omega) (by omega)) hW hS ho11 rfl rfl ⟨Nat.le_of_ble_eq_true rfl, Nat.le_of_ble_eq_true rfl⟩ (Nat.le_of_ble_eq_true rfl) ⟨Nat.zero_le _, Nat.zero_le _⟩ dX9_pass_81 (fun w14 H locs hp15 hW hS => ?_)
    obtain ⟨ha16, hn17⟩ := hp15
    have ho11 := (hn17 _ (by omega)).trans ho11
    have hs := (hn17 _ (by omega)).trans hs
    refine h_goto (tgt := 88) F dX9_pass_84 (by decide) ?_
    exact h_ireti F hr hlk hW hS ⟨ho11, ha16, (fun q h09 h19 => by rw [hn17 q (by omega), hn12 q (by omega)])⟩ dX9_pass_88
set_option maxHeartbeats 4000000 in
set_option maxRecDepth 100000 in
theorem c_X9_pass (l : Launch) (X : Cx) (w : Wo) (mo : Nat) (v σ : Int → Int) (pa : Int → Int) (co fr to : Int) (hM : w mo = some (.inr (9, mL mo v))) (hs : w (mo + 1) = some (aZ X 1317 σ)) (hwf : WF σ) (hpa : w (mo + 3) = some (aZ X 10536 pa)) (hun : 0 ≤ v 5 ∧ v 5 ≤ 8) (hco : 0 ≤ co ∧ co < 7) (hft : 0 ≤ fr ∧ fr ≤ to ∧ to < σ 0) (hop : σ 4 < σ 1) (hst : to - fr + 1 ≤ σ (6 + co)) : CM l X yX9_pass cX9_pass 5 (some (.int)) (rmk 3 70) [.ref mo, .int (iI co), .int (iI fr), .int (iI to)] w (some (.int (iI (σ (6 + co) - (to - fr + 1))))) (fun w' => w' mo = some (.inr (9, mL mo (up (up (up v 6 0) 5 (min 8 (v 5 + 1))) 8 (v 8 + 1)))) ∧ w' (mo + 1) = some (aZ X 1317 (passN σ co fr (to - fr + 1).toNat)) ∧ w' (mo + 3) = some (aZ X 10536 (actP (v 5) pa σ)) ∧ ∀ q : Nat, q ≠ mo → q ≠ mo + 1 → q ≠ mo + 3 → w' q = w q) := by
  refine CM.of (lv := [(0, .ref mo), (1, .int (iI co)), (2, .int (iI fr)), (3, .int (iI to))]) (by decide) (Nat.le_of_ble_eq_true rfl) rfl (fun p e s m below meth c ls F hr hlk hin hW hS hl => ?_)
  have hZ0 := hW.2.2
  have hB9 := hW.1.2
  clear hin
  have hF := hwf.1
  unfold WF0 at hF
  have hsr := hwf.2.1 co (by omega) (by omega)
  refine lv_iload_n F.1 F.2.1 dX9_pass_0 rfl (lv_at hl 2 rfl) ?_
  refine h_i2l F dX9_pass_1 (by omega) ?_
  refine h_lconst (n := 0) (z := 0) F dX9_pass_2 rfl ?_
  refine lv_aload_n F.1 F.2.1 dX9_pass_3 rfl (lv_at hl 0 rfl) ?_
  refine gf_RX9_7 F hW hM rfl dX9_pass_4 ?_
  refine h_iconst F dX9_pass_7 ?_
  refine h_iald F hW hs (by omega) (by omega) dX9_pass_8 ?_
  refine h_iconst F dX9_pass_9 ?_
  refine h_isub (a := σ 0) (b := 1) F dX9_pass_10 ?_
  refine h_i2l F dX9_pass_11 (by omega) ?_
  refine cl_RX9_82 (As := [.long (lI fr), .long (lI 0), .long (lI ((σ 0) - 1))]) (rest := []) F hl (c_X9_isIn l X w fr 0 ((σ 0) - 1) (by omega) (by omega) (by omega)) hW hS rfl rfl ⟨Nat.le_of_ble_eq_true rfl, Nat.le_of_ble_eq_true rfl⟩ (Nat.le_of_ble_eq_true rfl) ⟨Nat.zero_le _, Nat.zero_le _⟩ dX9_pass_12 (fun w1 H locs hp1 hW hS => ?_)
  rw [hp1] at hW; clear hp1; clear w1
  refine h_top (show (bz (decide (0 ≤ fr ∧ fr ≤ ((σ 0) - 1))) : Int) = bz true from congrArg bz (decide_eq_true (by omega))) ?_
  refine h_ifeqb (tgt := 40) F dX9_pass_15 (by decide) (fun c9 => absurd c9 (by decide)) (fun _ => ?_)
  refine lv_iload_n F.1 F.2.1 dX9_pass_18 rfl (lv_at hl 3 rfl) ?_
  refine h_i2l F dX9_pass_19 (by omega) ?_
  refine h_lconst (n := 0) (z := 0) F dX9_pass_20 rfl ?_
  refine lv_aload_n F.1 F.2.1 dX9_pass_21 rfl (lv_at hl 0 rfl) ?_
  refine gf_RX9_7 F hW hM rfl dX9_pass_22 ?_
  refine h_iconst F dX9_pass_25 ?_
  refine h_iald F hW hs (by omega) (by omega) dX9_pass_26 ?_
  refine h_iconst F dX9_pass_27 ?_
  refine h_isub (a := σ 0) (b := 1) F dX9_pass_28 ?_
  refine h_i2l F dX9_pass_29 (by omega) ?_
  refine cl_RX9_82 (As := [.long (lI to), .long (lI 0), .long (lI ((σ 0) - 1))]) (rest := []) F hl (c_X9_isIn l X w to 0 ((σ 0) - 1) (by omega) (by omega) (by omega)) hW hS rfl rfl ⟨Nat.le_of_ble_eq_true rfl, Nat.le_of_ble_eq_true rfl⟩ (Nat.le_of_ble_eq_true rfl) ⟨Nat.zero_le _, Nat.zero_le _⟩ dX9_pass_30 (fun w1 H locs hp3 hW hS => ?_)
  rw [hp3] at hW; clear hp3; clear w1
  refine h_top (show (bz (decide (0 ≤ to ∧ to ≤ ((σ 0) - 1))) : Int) = bz true from congrArg bz (decide_eq_true (by omega))) ?_
  refine h_ifeqb (tgt := 40) F dX9_pass_33 (by decide) (fun c9 => absurd c9 (by decide)) (fun _ => ?_)
  refine h_iconst F dX9_pass_36 ?_
  refine h_goto (tgt := 41) F dX9_pass_37 (by decide) ?_
  refine lv_istore (lv' := [(4, .int (iI 1)), (0, .ref mo), (1, .int (iI co)), (2, .int (iI fr)), (3, .int (iI to))]) F.1 F.2.1 dX9_pass_41 hl (by decide) rfl (fun ls hl => ?_)
  refine lv_aload_n F.1 F.2.1 dX9_pass_43 rfl (lv_at hl 1 rfl) ?_
  refine lv_iload_n F.1 F.2.1 dX9_pass_44 rfl (lv_at hl 2 rfl) ?_
  refine cl_RX9_195 (As := [.int (iI co)]) (rest := [.ref mo]) F hl (c_X9_isColour l X w co (by omega)) hW hS rfl rfl ⟨Nat.le_of_ble_eq_true rfl, Nat.le_of_ble_eq_true rfl⟩ (Nat.le_of_ble_eq_true rfl) ⟨Nat.zero_le _, Nat.zero_le _⟩ dX9_pass_45 (fun w1 H locs hp5 hW hS => ?_)
  rw [hp5] at hW; clear hp5; clear w1
  refine h_top (show (bz (decide (0 ≤ co ∧ co ≤ 6)) : Int) = bz true from congrArg bz (decide_eq_true (by omega))) ?_
  refine h_ifeqb (tgt := 60) F dX9_pass_48 (by decide) (fun c9 => absurd c9 (by decide)) (fun _ => ?_)
  refine lv_iload F.1 F.2.1 dX9_pass_51 (lv_at hl 0 rfl) ?_
  refine h_ifeq (tgt := 60) F dX9_pass_53 (by decide) (by decide) (fun c9 => absurd c9 (by decide)) (fun _ => ?_)
  refine h_iconst F dX9_pass_56 ?_
  refine h_goto (tgt := 61) F dX9_pass_57 (by decide) ?_
  refine lv_iload_n F.1 F.2.1 dX9_pass_61 rfl (lv_at hl 3 rfl) ?_
  refine lv_iload_n F.1 F.2.1 dX9_pass_62 rfl (lv_at hl 4 rfl) ?_
  refine h_icgt (tgt := 70) F dX9_pass_63 (by decide) (by omega) (fun c8 => ?_) (fun c8 => ?_)
  · exfalso; omega
  · refine h_iconst F dX9_pass_66 ?_
    refine h_goto (tgt := 71) F dX9_pass_67 (by decide) ?_
    refine cl_RX9_163 (As := [.int (iI 1), .int (iI 1)]) (rest := []) F hl (c_both_tt l X w mo v σ hM hs hwf) hW hS hM rfl rfl ⟨Nat.le_of_ble_eq_true rfl, Nat.le_of_ble_eq_true rfl⟩ (Nat.le_of_ble_eq_true rfl) ⟨Nat.zero_le _, Nat.zero_le _⟩ dX9_pass_71 (fun w9 H locs hp10 hW hS => ?_)
    obtain ⟨ho11, hn12⟩ := hp10
    have hs := (hn12 _ (by omega)).trans hs
    have hpa := (hn12 _ (by omega)).trans hpa
    refine h_ifeqb (tgt := 87) F dX9_pass_74 (by decide) (fun c9 => absurd c9 (by decide)) (fun _ => ?_)
    refine lv_aload_n F.1 F.2.1 dX9_pass_77 rfl (lv_at hl 1 rfl) ?_
    refine lv_iload_n F.1 F.2.1 dX9_pass_78 rfl (lv_at hl 2 rfl) ?_
    refine lv_iload_n F.1 F.2.1 dX9_pass_79 rfl (lv_at hl 3 rfl) ?_
    refine lv_iload_n F.1 F.2.1 dX9_pass_80 rfl (lv_at hl 4 rfl) ?_
    refine cl_RX9_243 (As := [.int (iI co), .int (iI fr), .int (iI to)]) (rest := []) F hl (c_X9_passes0 l X w9 mo (up v 6 0) σ pa co fr to ho11 hs hwf hpa hun (by omega) (by omega) (by omega) (by omega)) hW hS ho11 rfl rfl ⟨Nat.le_of_ble_eq_true rfl, Nat.le_of_ble_eq_true rfl⟩ (Nat.le_of_ble_eq_true rfl) ⟨Nat.zero_le _, Nat.zero_le _⟩ dX9_pass_81 (fun w14 H locs hp15 hW hS => ?_)
    obtain ⟨ho16, ha17, ha18, hn19⟩ := hp15
    refine h_goto (tgt := 88) F dX9_pass_84 (by decide) ?_
    exact h_ireti F hr hlk hW hS ⟨(by (rw [ho16]) <;> (rfl)), ha17, (by (rw [ha18]) <;> (rfl)), (fun q h09 h19 h29 => by rw [hn19 q (by omega) (by omega) (by omega), hn12 q (by omega)])⟩ dX9_pass_88
set_option maxHeartbeats 4000000 in
set_option maxRecDepth 100000 in
theorem c_X9_pass_x1 (l : Launch) (X : Cx) (w : Wo) (mo : Nat) (v σ : Int → Int) (co fr to : Int) (hM : w mo = some (.inr (9, mL mo v))) (hs : w (mo + 1) = some (aZ X 1317 σ)) (hwf : WF σ) (hco : -2147483648 ≤ co ∧ co < 2147483648) (hfr : -2147483648 ≤ fr ∧ fr < 2147483648) (hto : -2147483648 ≤ to ∧ to < 2147483648) (hb : ¬ ((0 ≤ co ∧ co < 7) ∧ (0 ≤ fr ∧ fr < σ 0) ∧ (0 ≤ to ∧ to < σ 0))) : CM l X yX9_pass cX9_pass 5 (some (.int)) (rmk 3 70) [.ref mo, .int (iI co), .int (iI fr), .int (iI to)] w (some (.int (iI 0))) (fun w' => w' mo = some (.inr (9, mL mo (up v 6 1))) ∧ ∀ q : Nat, q ≠ mo → w' q = w q) := by
  refine CM.of (lv := [(0, .ref mo), (1, .int (iI co)), (2, .int (iI fr)), (3, .int (iI to))]) (by decide) (Nat.le_of_ble_eq_true rfl) rfl (fun p e s m below meth c ls F hr hlk hin hW hS hl => ?_)
  have hZ0 := hW.2.2
  have hB9 := hW.1.2
  clear hin
  have hF := hwf.1
  unfold WF0 at hF
  have join41 : ∀ (H : Heap) (locs : List Loc) (ls : Array Slot), Wd X w s H → va_S (cxA X) s.heap H locs → lv_has ls 5 [(0, .ref mo), (1, .int (iI co)), (2, .int (iI fr)), (3, .int (iI to))] → W p l e (rmk 3 70) s m (List.toArray [.ref mo, .int (iI co), .int (iI fr), .int (iI to)]) below meth c H locs 0 0 (MX X below (List.toArray [.ref mo, .int (iI co), .int (iI fr), .int (iI to)]) s 0 0 (some (.int (iI 0))) (fun w' => w' mo = some (.inr (9, mL mo (up v 6 1))) ∧ ∀ q : Nat, q ≠ mo → w' q = w q)) (F0 m 41 ls [.int (iI (bz (decide (0 ≤ fr ∧ fr ≤ σ 0 - 1) && decide (0 ≤ to ∧ to ≤ σ 0 - 1))))]) := by
    intro  H locs ls  hW hS hl
    refine lv_istore (lv' := [(4, .int (iI (bz (decide (0 ≤ fr ∧ fr ≤ σ 0 - 1) && decide (0 ≤ to ∧ to ≤ σ 0 - 1))))), (0, .ref mo), (1, .int (iI co)), (2, .int (iI fr)), (3, .int (iI to))]) F.1 F.2.1 dX9_pass_41 hl (by decide) rfl (fun ls hl => ?_)
    have join61 : ∀ (H : Heap) (locs : List Loc) (ls : Array Slot), Wd X w s H → va_S (cxA X) s.heap H locs → lv_has ls 5 [(4, .int (iI (bz (decide (0 ≤ fr ∧ fr ≤ σ 0 - 1) && decide (0 ≤ to ∧ to ≤ σ 0 - 1))))), (0, .ref mo), (1, .int (iI co)), (2, .int (iI fr)), (3, .int (iI to))] → W p l e (rmk 3 70) s m (List.toArray [.ref mo, .int (iI co), .int (iI fr), .int (iI to)]) below meth c H locs 0 0 (MX X below (List.toArray [.ref mo, .int (iI co), .int (iI fr), .int (iI to)]) s 0 0 (some (.int (iI 0))) (fun w' => w' mo = some (.inr (9, mL mo (up v 6 1))) ∧ ∀ q : Nat, q ≠ mo → w' q = w q)) (F0 m 61 ls [.int (iI (bz false)), .ref mo]) := by
      intro  H locs ls  hW hS hl
      have join71 : ∀ (H : Heap) (locs : List Loc) (ls : Array Slot), Wd X w s H → va_S (cxA X) s.heap H locs → lv_has ls 5 [(4, .int (iI (bz (decide (0 ≤ fr ∧ fr ≤ σ 0 - 1) && decide (0 ≤ to ∧ to ≤ σ 0 - 1))))), (0, .ref mo), (1, .int (iI co)), (2, .int (iI fr)), (3, .int (iI to))] → W p l e (rmk 3 70) s m (List.toArray [.ref mo, .int (iI co), .int (iI fr), .int (iI to)]) below meth c H locs 0 0 (MX X below (List.toArray [.ref mo, .int (iI co), .int (iI fr), .int (iI to)]) s 0 0 (some (.int (iI 0))) (fun w' => w' mo = some (.inr (9, mL mo (up v 6 1))) ∧ ∀ q : Nat, q ≠ mo → w' q = w q)) (F0 m 71 ls [.int (iI (bz (decide (fr ≤ to)))), .int (iI (bz false)), .ref mo]) := by
        intro  H locs ls  hW hS hl
        refine cl_RX9_163 (As := [.int (iI (bz false)), .int (iI (bz (decide (fr ≤ to))))]) (rest := []) F hl (c_both_f l X w mo v σ (decide (fr ≤ to)) hM hs hwf) hW hS hM rfl rfl ⟨Nat.le_of_ble_eq_true rfl, Nat.le_of_ble_eq_true rfl⟩ (Nat.le_of_ble_eq_true rfl) ⟨Nat.zero_le _, Nat.zero_le _⟩ dX9_pass_71 (fun w1 H locs hp2 hW hS => ?_)
        obtain ⟨ho3, hn4⟩ := hp2
        have hs := (hn4 _ (by omega)).trans hs
        refine h_ifeqb (tgt := 87) F dX9_pass_74 (by decide) (fun _ => ?_) (fun c9 => absurd c9 (by decide))
        refine h_iconst F dX9_pass_87 ?_
        exact h_ireti F hr hlk hW hS ⟨ho3, (fun q h09 => by rw [hn4 q (by omega)])⟩ dX9_pass_88
      refine lv_iload_n F.1 F.2.1 dX9_pass_61 rfl (lv_at hl 3 rfl) ?_
      refine lv_iload_n F.1 F.2.1 dX9_pass_62 rfl (lv_at hl 4 rfl) ?_
      refine h_icgt (tgt := 70) F dX9_pass_63 (by decide) (by omega) (fun c6 => ?_) (fun c6 => ?_)
      · refine h_iconst F dX9_pass_70 ?_
        refine h_top (show (0 : Int) = bz (decide (fr ≤ to)) from by first | exact bzt (decide_eq_true (by omega)) | exact bzf (decide_eq_false (by omega))) ?_
        exact join71  _ _ ls  hW hS (lv_sub hl [0, 1, 2, 3, 4] rfl)
      · refine h_iconst F dX9_pass_66 ?_
        refine h_goto (tgt := 71) F dX9_pass_67 (by decide) ?_
        refine h_top (show (1 : Int) = bz (decide (fr ≤ to)) from by first | exact bzt (decide_eq_true (by omega)) | exact bzf (decide_eq_false (by omega))) ?_
        exact join71  _ _ ls  hW hS (lv_sub hl [0, 1, 2, 3, 4] rfl)
    refine lv_aload_n F.1 F.2.1 dX9_pass_43 rfl (lv_at hl 1 rfl) ?_
    refine lv_iload_n F.1 F.2.1 dX9_pass_44 rfl (lv_at hl 2 rfl) ?_
    refine cl_RX9_195 (As := [.int (iI co)]) (rest := [.ref mo]) F hl (c_X9_isColour l X w co (by omega)) hW hS rfl rfl ⟨Nat.le_of_ble_eq_true rfl, Nat.le_of_ble_eq_true rfl⟩ (Nat.le_of_ble_eq_true rfl) ⟨Nat.zero_le _, Nat.zero_le _⟩ dX9_pass_45 (fun w1 H locs hp7 hW hS => ?_)
    rw [hp7] at hW; clear hp7; clear w1
    refine h_ifeqb (tgt := 60) F dX9_pass_48 (by decide) (fun c8 => ?_) (fun c8 => ?_)
    · have c8d := of_decide_eq_false c8
      refine h_iconst F dX9_pass_60 ?_
      refine h_top (show (0 : Int) = bz false from by first | exact bzf rfl | (exfalso; simp only [Bool.and_eq_true, decide_eq_true_eq] at *; omega)) ?_
      exact join61  _ _ ls  hW hS (lv_sub hl [0, 1, 2, 3, 4] rfl)
    · have c8d := of_decide_eq_true c8
      refine lv_iload F.1 F.2.1 dX9_pass_51 (lv_at hl 0 rfl) ?_
      refine h_ifeqb (tgt := 60) F dX9_pass_53 (by decide) (fun c9 => ?_) (fun c9 => ?_)
      · refine h_iconst F dX9_pass_60 ?_
        refine h_top (show (0 : Int) = bz false from by first | exact bzf rfl | (exfalso; simp only [Bool.and_eq_true, decide_eq_true_eq] at *; omega)) ?_
        exact join61  _ _ ls  hW hS (lv_sub hl [0, 1, 2, 3, 4] rfl)
      · refine h_iconst F dX9_pass_56 ?_
        refine h_goto (tgt := 61) F dX9_pass_57 (by decide) ?_
        refine h_top (show (1 : Int) = bz false from by first | exact bzf rfl | (exfalso; simp only [Bool.and_eq_true, decide_eq_true_eq] at *; omega)) ?_
        exact join61  _ _ ls  hW hS (lv_sub hl [0, 1, 2, 3, 4] rfl)
  refine lv_iload_n F.1 F.2.1 dX9_pass_0 rfl (lv_at hl 2 rfl) ?_
  refine h_i2l F dX9_pass_1 (by omega) ?_
  refine h_lconst (n := 0) (z := 0) F dX9_pass_2 rfl ?_
  refine lv_aload_n F.1 F.2.1 dX9_pass_3 rfl (lv_at hl 0 rfl) ?_
  refine gf_RX9_7 F hW hM rfl dX9_pass_4 ?_
  refine h_iconst F dX9_pass_7 ?_
  refine h_iald F hW hs (by omega) (by omega) dX9_pass_8 ?_
  refine h_iconst F dX9_pass_9 ?_
  refine h_isub (a := σ 0) (b := 1) F dX9_pass_10 ?_
  refine h_i2l F dX9_pass_11 (by omega) ?_
  refine cl_RX9_82 (As := [.long (lI fr), .long (lI 0), .long (lI ((σ 0) - 1))]) (rest := []) F hl (c_X9_isIn l X w fr 0 ((σ 0) - 1) (by omega) (by omega) (by omega)) hW hS rfl rfl ⟨Nat.le_of_ble_eq_true rfl, Nat.le_of_ble_eq_true rfl⟩ (Nat.le_of_ble_eq_true rfl) ⟨Nat.zero_le _, Nat.zero_le _⟩ dX9_pass_12 (fun w1 H locs hp10 hW hS => ?_)
  rw [hp10] at hW; clear hp10; clear w1
  refine h_ifeqb (tgt := 40) F dX9_pass_15 (by decide) (fun c11 => ?_) (fun c11 => ?_)
  · have c11d := of_decide_eq_false c11
    refine h_iconst F dX9_pass_40 ?_
    refine h_top (show (0 : Int) = bz (decide (0 ≤ fr ∧ fr ≤ σ 0 - 1) && decide (0 ≤ to ∧ to ≤ σ 0 - 1)) from by first | exact bzt (by simp only [Bool.and_eq_true, decide_eq_true_eq]; omega) | exact bzf (by simp only [Bool.and_eq_false_iff, decide_eq_false_iff_not]; omega)) ?_
    exact join41  _ _ ls  hW hS (lv_sub hl [0, 1, 2, 3] rfl)
  · have c11d := of_decide_eq_true c11
    refine lv_iload_n F.1 F.2.1 dX9_pass_18 rfl (lv_at hl 3 rfl) ?_
    refine h_i2l F dX9_pass_19 (by omega) ?_
    refine h_lconst (n := 0) (z := 0) F dX9_pass_20 rfl ?_
    refine lv_aload_n F.1 F.2.1 dX9_pass_21 rfl (lv_at hl 0 rfl) ?_
    refine gf_RX9_7 F hW hM rfl dX9_pass_22 ?_
    refine h_iconst F dX9_pass_25 ?_
    refine h_iald F hW hs (by omega) (by omega) dX9_pass_26 ?_
    refine h_iconst F dX9_pass_27 ?_
    refine h_isub (a := σ 0) (b := 1) F dX9_pass_28 ?_
    refine h_i2l F dX9_pass_29 (by omega) ?_
    refine cl_RX9_82 (As := [.long (lI to), .long (lI 0), .long (lI ((σ 0) - 1))]) (rest := []) F hl (c_X9_isIn l X w to 0 ((σ 0) - 1) (by omega) (by omega) (by omega)) hW hS rfl rfl ⟨Nat.le_of_ble_eq_true rfl, Nat.le_of_ble_eq_true rfl⟩ (Nat.le_of_ble_eq_true rfl) ⟨Nat.zero_le _, Nat.zero_le _⟩ dX9_pass_30 (fun w1 H locs hp12 hW hS => ?_)
    rw [hp12] at hW; clear hp12; clear w1
    refine h_ifeqb (tgt := 40) F dX9_pass_33 (by decide) (fun c13 => ?_) (fun c13 => ?_)
    · have c13d := of_decide_eq_false c13
      refine h_iconst F dX9_pass_40 ?_
      refine h_top (show (0 : Int) = bz (decide (0 ≤ fr ∧ fr ≤ σ 0 - 1) && decide (0 ≤ to ∧ to ≤ σ 0 - 1)) from by first | exact bzt (by simp only [Bool.and_eq_true, decide_eq_true_eq]; omega) | exact bzf (by simp only [Bool.and_eq_false_iff, decide_eq_false_iff_not]; omega)) ?_
      exact join41  _ _ ls  hW hS (lv_sub hl [0, 1, 2, 3] rfl)
    · have c13d := of_decide_eq_true c13
      refine h_iconst F dX9_pass_36 ?_
      refine h_goto (tgt := 41) F dX9_pass_37 (by decide) ?_
      refine h_top (show (1 : Int) = bz (decide (0 ≤ fr ∧ fr ≤ σ 0 - 1) && decide (0 ≤ to ∧ to ≤ σ 0 - 1)) from by first | exact bzt (by simp only [Bool.and_eq_true, decide_eq_true_eq]; omega) | exact bzf (by simp only [Bool.and_eq_false_iff, decide_eq_false_iff_not]; omega)) ?_
      exact join41  _ _ ls  hW hS (lv_sub hl [0, 1, 2, 3] rfl)
set_option maxHeartbeats 4000000 in
set_option maxRecDepth 100000 in
theorem c_X9_pass_x2 (l : Launch) (X : Cx) (w : Wo) (mo : Nat) (v σ : Int → Int) (co fr to : Int) (hM : w mo = some (.inr (9, mL mo v))) (hs : w (mo + 1) = some (aZ X 1317 σ)) (hwf : WF σ) (hco : -2147483648 ≤ co ∧ co < 2147483648) (hfr : -2147483648 ≤ fr ∧ fr < 2147483648) (hto : -2147483648 ≤ to ∧ to < 2147483648) (h1 : (0 ≤ co ∧ co < 7) ∧ (0 ≤ fr ∧ fr < σ 0) ∧ (0 ≤ to ∧ to < σ 0)) (hb : to < fr) : CM l X yX9_pass cX9_pass 5 (some (.int)) (rmk 3 70) [.ref mo, .int (iI co), .int (iI fr), .int (iI to)] w (some (.int (iI 0))) (fun w' => w' mo = some (.inr (9, mL mo (up v 6 2))) ∧ ∀ q : Nat, q ≠ mo → w' q = w q) := by
  refine CM.of (lv := [(0, .ref mo), (1, .int (iI co)), (2, .int (iI fr)), (3, .int (iI to))]) (by decide) (Nat.le_of_ble_eq_true rfl) rfl (fun p e s m below meth c ls F hr hlk hin hW hS hl => ?_)
  have hZ0 := hW.2.2
  have hB9 := hW.1.2
  clear hin
  have hF := hwf.1
  unfold WF0 at hF
  refine lv_iload_n F.1 F.2.1 dX9_pass_0 rfl (lv_at hl 2 rfl) ?_
  refine h_i2l F dX9_pass_1 (by omega) ?_
  refine h_lconst (n := 0) (z := 0) F dX9_pass_2 rfl ?_
  refine lv_aload_n F.1 F.2.1 dX9_pass_3 rfl (lv_at hl 0 rfl) ?_
  refine gf_RX9_7 F hW hM rfl dX9_pass_4 ?_
  refine h_iconst F dX9_pass_7 ?_
  refine h_iald F hW hs (by omega) (by omega) dX9_pass_8 ?_
  refine h_iconst F dX9_pass_9 ?_
  refine h_isub (a := σ 0) (b := 1) F dX9_pass_10 ?_
  refine h_i2l F dX9_pass_11 (by omega) ?_
  refine cl_RX9_82 (As := [.long (lI fr), .long (lI 0), .long (lI ((σ 0) - 1))]) (rest := []) F hl (c_X9_isIn l X w fr 0 ((σ 0) - 1) (by omega) (by omega) (by omega)) hW hS rfl rfl ⟨Nat.le_of_ble_eq_true rfl, Nat.le_of_ble_eq_true rfl⟩ (Nat.le_of_ble_eq_true rfl) ⟨Nat.zero_le _, Nat.zero_le _⟩ dX9_pass_12 (fun w1 H locs hp1 hW hS => ?_)
  rw [hp1] at hW; clear hp1; clear w1
  refine h_top (show (bz (decide (0 ≤ fr ∧ fr ≤ ((σ 0) - 1))) : Int) = bz true from congrArg bz (decide_eq_true (by omega))) ?_
  refine h_ifeqb (tgt := 40) F dX9_pass_15 (by decide) (fun c9 => absurd c9 (by decide)) (fun _ => ?_)
  refine lv_iload_n F.1 F.2.1 dX9_pass_18 rfl (lv_at hl 3 rfl) ?_
  refine h_i2l F dX9_pass_19 (by omega) ?_
  refine h_lconst (n := 0) (z := 0) F dX9_pass_20 rfl ?_
  refine lv_aload_n F.1 F.2.1 dX9_pass_21 rfl (lv_at hl 0 rfl) ?_
  refine gf_RX9_7 F hW hM rfl dX9_pass_22 ?_
  refine h_iconst F dX9_pass_25 ?_
  refine h_iald F hW hs (by omega) (by omega) dX9_pass_26 ?_
  refine h_iconst F dX9_pass_27 ?_
  refine h_isub (a := σ 0) (b := 1) F dX9_pass_28 ?_
  refine h_i2l F dX9_pass_29 (by omega) ?_
  refine cl_RX9_82 (As := [.long (lI to), .long (lI 0), .long (lI ((σ 0) - 1))]) (rest := []) F hl (c_X9_isIn l X w to 0 ((σ 0) - 1) (by omega) (by omega) (by omega)) hW hS rfl rfl ⟨Nat.le_of_ble_eq_true rfl, Nat.le_of_ble_eq_true rfl⟩ (Nat.le_of_ble_eq_true rfl) ⟨Nat.zero_le _, Nat.zero_le _⟩ dX9_pass_30 (fun w1 H locs hp3 hW hS => ?_)
  rw [hp3] at hW; clear hp3; clear w1
  refine h_top (show (bz (decide (0 ≤ to ∧ to ≤ ((σ 0) - 1))) : Int) = bz true from congrArg bz (decide_eq_true (by omega))) ?_
  refine h_ifeqb (tgt := 40) F dX9_pass_33 (by decide) (fun c9 => absurd c9 (by decide)) (fun _ => ?_)
  refine h_iconst F dX9_pass_36 ?_
  refine h_goto (tgt := 41) F dX9_pass_37 (by decide) ?_
  refine lv_istore (lv' := [(4, .int (iI 1)), (0, .ref mo), (1, .int (iI co)), (2, .int (iI fr)), (3, .int (iI to))]) F.1 F.2.1 dX9_pass_41 hl (by decide) rfl (fun ls hl => ?_)
  refine lv_aload_n F.1 F.2.1 dX9_pass_43 rfl (lv_at hl 1 rfl) ?_
  refine lv_iload_n F.1 F.2.1 dX9_pass_44 rfl (lv_at hl 2 rfl) ?_
  refine cl_RX9_195 (As := [.int (iI co)]) (rest := [.ref mo]) F hl (c_X9_isColour l X w co (by omega)) hW hS rfl rfl ⟨Nat.le_of_ble_eq_true rfl, Nat.le_of_ble_eq_true rfl⟩ (Nat.le_of_ble_eq_true rfl) ⟨Nat.zero_le _, Nat.zero_le _⟩ dX9_pass_45 (fun w1 H locs hp5 hW hS => ?_)
  rw [hp5] at hW; clear hp5; clear w1
  refine h_top (show (bz (decide (0 ≤ co ∧ co ≤ 6)) : Int) = bz true from congrArg bz (decide_eq_true (by omega))) ?_
  refine h_ifeqb (tgt := 60) F dX9_pass_48 (by decide) (fun c9 => absurd c9 (by decide)) (fun _ => ?_)
  refine lv_iload F.1 F.2.1 dX9_pass_51 (lv_at hl 0 rfl) ?_
  refine h_ifeq (tgt := 60) F dX9_pass_53 (by decide) (by decide) (fun c9 => absurd c9 (by decide)) (fun _ => ?_)
  refine h_iconst F dX9_pass_56 ?_
  refine h_goto (tgt := 61) F dX9_pass_57 (by decide) ?_
  refine lv_iload_n F.1 F.2.1 dX9_pass_61 rfl (lv_at hl 3 rfl) ?_
  refine lv_iload_n F.1 F.2.1 dX9_pass_62 rfl (lv_at hl 4 rfl) ?_
  refine h_icgt (tgt := 70) F dX9_pass_63 (by decide) (by omega) (fun c8 => ?_) (fun c8 => ?_)
  · refine h_iconst F dX9_pass_70 ?_
    refine cl_RX9_163 (As := [.int (iI 1), .int (iI 0)]) (rest := []) F hl (c_both_tf l X w mo v σ hM hs hwf) hW hS hM rfl rfl ⟨Nat.le_of_ble_eq_true rfl, Nat.le_of_ble_eq_true rfl⟩ (Nat.le_of_ble_eq_true rfl) ⟨Nat.zero_le _, Nat.zero_le _⟩ dX9_pass_71 (fun w9 H locs hp10 hW hS => ?_)
    obtain ⟨ho11, hn12⟩ := hp10
    have hs := (hn12 _ (by omega)).trans hs
    refine h_ifeqb (tgt := 87) F dX9_pass_74 (by decide) (fun _ => ?_) (fun c9 => absurd c9 (by decide))
    refine h_iconst F dX9_pass_87 ?_
    exact h_ireti F hr hlk hW hS ⟨ho11, (fun q h09 => by rw [hn12 q (by omega)])⟩ dX9_pass_88
  · exfalso; omega
set_option maxHeartbeats 4000000 in
set_option maxRecDepth 100000 in
theorem c_X9_weave_r3 (l : Launch) (X : Cx) (w : Wo) (mo : Nat) (v σ : Int → Int) (rf : Int → Int) (rw9 : Int) (b : Bool) (hM : w mo = some (.inr (9, mL mo v))) (hs : w (mo + 1) = some (aZ X 1317 σ)) (hwf : WF σ) (hrf : w (mo + 6) = some (aZ X 8 rf)) (hrw : 1 ≤ rw9 ∧ rw9 ≤ 30) (hop : σ 1 < σ 4 + rw9) : CM l X yX9_weave cX9_weave 3 (some (.int)) (rmk 7 171) [.ref mo, .int (iI rw9), .int (iI (bz b))] w (some (.int (iI (-3)))) (fun w' => w' mo = some (.inr (9, mL mo (up v 6 0))) ∧ w' (mo + 6) = some (aZ X 8 (up rf 3 (rf 3 + 1))) ∧ ∀ q : Nat, q ≠ mo → q ≠ mo + 6 → w' q = w q) := by
  refine CM.of (lv := [(0, .ref mo), (1, .int (iI rw9)), (2, .int (iI (bz b)))]) (by decide) (Nat.le_of_ble_eq_true rfl) rfl (fun p e s m below meth c ls F hr hlk hin hW hS hl => ?_)
  have hZ0 := hW.2.2
  have hB9 := hW.1.2
  clear hin
  have hF := hwf.1
  unfold WF0 at hF
  refine lv_aload_n F.1 F.2.1 dX9_weave_0 rfl (lv_at hl 0 rfl) ?_
  refine lv_iload_n F.1 F.2.1 dX9_weave_1 rfl (lv_at hl 1 rfl) ?_
  refine h_i2l F dX9_weave_2 (by omega) ?_
  refine h_lconst (n := 1) (z := 1) F dX9_weave_3 rfl ?_
  refine h_ldc2 (n := 30) F kk_RX9_211 dX9_weave_4 ?_
  refine cl_RX9_82 (As := [.long (lI rw9), .long (lI 1), .long (lI 30)]) (rest := [.ref mo]) F hl (c_X9_isIn l X w rw9 1 30 (by omega) (by omega) (by omega)) hW hS rfl rfl ⟨Nat.le_of_ble_eq_true rfl, Nat.le_of_ble_eq_true rfl⟩ (Nat.le_of_ble_eq_true rfl) ⟨Nat.zero_le _, Nat.zero_le _⟩ dX9_weave_7 (fun w1 H locs hp1 hW hS => ?_)
  rw [hp1] at hW; clear hp1; clear w1
  refine h_top (show (bz (decide (1 ≤ rw9 ∧ rw9 ≤ 30)) : Int) = bz true from congrArg bz (decide_eq_true (by omega))) ?_
  refine cl_RX9_74 (As := [.int (iI (bz true))]) (rest := []) F hl (c_pass_t l X w mo v σ hM hs hwf) hW hS hM rfl rfl ⟨Nat.le_of_ble_eq_true rfl, Nat.le_of_ble_eq_true rfl⟩ (Nat.le_of_ble_eq_true rfl) ⟨Nat.zero_le _, Nat.zero_le _⟩ dX9_weave_10 (fun w2 H locs hp3 hW hS => ?_)
  obtain ⟨ho4, hn5⟩ := hp3
  have hs := (hn5 _ (by omega)).trans hs
  have hrf := (hn5 _ (by omega)).trans hrf
  refine h_ifeqb (tgt := 25) F dX9_weave_13 (by decide) (fun c9 => absurd c9 (by decide)) (fun _ => ?_)
  refine lv_aload_n F.1 F.2.1 dX9_weave_16 rfl (lv_at hl 0 rfl) ?_
  refine lv_iload_n F.1 F.2.1 dX9_weave_17 rfl (lv_at hl 1 rfl) ?_
  refine lv_iload_n F.1 F.2.1 dX9_weave_18 rfl (lv_at hl 2 rfl) ?_
  refine cl_RX9_256 (As := [.int (iI rw9), .int (iI (bz b))]) (rest := []) F hl (c_weaves_r3 l X w2 mo (up v 6 0) σ rf rw9 b ho4 hs hwf hrf (by omega) (by omega)) hW hS ho4 rfl rfl ⟨Nat.le_of_ble_eq_true rfl, Nat.le_of_ble_eq_true rfl⟩ (Nat.le_of_ble_eq_true rfl) ⟨Nat.zero_le _, Nat.zero_le _⟩ dX9_weave_19 (fun w7 H locs hp8 hW hS => ?_)
  obtain ⟨ha9, hn10⟩ := hp8
  have ho4 := (hn10 _ (by omega)).trans ho4
  have hs := (hn10 _ (by omega)).trans hs
  refine h_goto (tgt := 26) F dX9_weave_22 (by decide) ?_
  exact h_ireti F hr hlk hW hS ⟨ho4, ha9, (fun q h09 h19 => by rw [hn10 q (by omega), hn5 q (by omega)])⟩ dX9_weave_26
set_option maxHeartbeats 4000000 in
set_option maxRecDepth 100000 in
theorem c_X9_weave_r2 (l : Launch) (X : Cx) (w : Wo) (mo : Nat) (v σ : Int → Int) (rf : Int → Int) (rw9 : Int) (b : Bool) (hM : w mo = some (.inr (9, mL mo v))) (hs : w (mo + 1) = some (aZ X 1317 σ)) (hwf : WF σ) (hrf : w (mo + 6) = some (aZ X 8 rf)) (hrw : 1 ≤ rw9 ∧ rw9 ≤ 30) (hop : σ 4 + rw9 ≤ σ 1) (hen : enoS σ b rw9 = false) : CM l X yX9_weave cX9_weave 3 (some (.int)) (rmk 7 171) [.ref mo, .int (iI rw9), .int (iI (bz b))] w (some (.int (iI (-2)))) (fun w' => w' mo = some (.inr (9, mL mo (up v 6 0))) ∧ w' (mo + 6) = some (aZ X 8 (up rf 2 (rf 2 + 1))) ∧ ∀ q : Nat, q ≠ mo → q ≠ mo + 6 → w' q = w q) := by
  refine CM.of (lv := [(0, .ref mo), (1, .int (iI rw9)), (2, .int (iI (bz b)))]) (by decide) (Nat.le_of_ble_eq_true rfl) rfl (fun p e s m below meth c ls F hr hlk hin hW hS hl => ?_)
  have hZ0 := hW.2.2
  have hB9 := hW.1.2
  clear hin
  have hF := hwf.1
  unfold WF0 at hF
  refine lv_aload_n F.1 F.2.1 dX9_weave_0 rfl (lv_at hl 0 rfl) ?_
  refine lv_iload_n F.1 F.2.1 dX9_weave_1 rfl (lv_at hl 1 rfl) ?_
  refine h_i2l F dX9_weave_2 (by omega) ?_
  refine h_lconst (n := 1) (z := 1) F dX9_weave_3 rfl ?_
  refine h_ldc2 (n := 30) F kk_RX9_211 dX9_weave_4 ?_
  refine cl_RX9_82 (As := [.long (lI rw9), .long (lI 1), .long (lI 30)]) (rest := [.ref mo]) F hl (c_X9_isIn l X w rw9 1 30 (by omega) (by omega) (by omega)) hW hS rfl rfl ⟨Nat.le_of_ble_eq_true rfl, Nat.le_of_ble_eq_true rfl⟩ (Nat.le_of_ble_eq_true rfl) ⟨Nat.zero_le _, Nat.zero_le _⟩ dX9_weave_7 (fun w1 H locs hp1 hW hS => ?_)
  rw [hp1] at hW; clear hp1; clear w1
  refine h_top (show (bz (decide (1 ≤ rw9 ∧ rw9 ≤ 30)) : Int) = bz true from congrArg bz (decide_eq_true (by omega))) ?_
  refine cl_RX9_74 (As := [.int (iI (bz true))]) (rest := []) F hl (c_pass_t l X w mo v σ hM hs hwf) hW hS hM rfl rfl ⟨Nat.le_of_ble_eq_true rfl, Nat.le_of_ble_eq_true rfl⟩ (Nat.le_of_ble_eq_true rfl) ⟨Nat.zero_le _, Nat.zero_le _⟩ dX9_weave_10 (fun w2 H locs hp3 hW hS => ?_)
  obtain ⟨ho4, hn5⟩ := hp3
  have hs := (hn5 _ (by omega)).trans hs
  have hrf := (hn5 _ (by omega)).trans hrf
  refine h_ifeqb (tgt := 25) F dX9_weave_13 (by decide) (fun c9 => absurd c9 (by decide)) (fun _ => ?_)
  refine lv_aload_n F.1 F.2.1 dX9_weave_16 rfl (lv_at hl 0 rfl) ?_
  refine lv_iload_n F.1 F.2.1 dX9_weave_17 rfl (lv_at hl 1 rfl) ?_
  refine lv_iload_n F.1 F.2.1 dX9_weave_18 rfl (lv_at hl 2 rfl) ?_
  refine cl_RX9_256 (As := [.int (iI rw9), .int (iI (bz b))]) (rest := []) F hl (c_weaves_r2 l X w2 mo (up v 6 0) σ rf rw9 b ho4 hs hwf hrf (by omega) (by omega) hen) hW hS ho4 rfl rfl ⟨Nat.le_of_ble_eq_true rfl, Nat.le_of_ble_eq_true rfl⟩ (Nat.le_of_ble_eq_true rfl) ⟨Nat.zero_le _, Nat.zero_le _⟩ dX9_weave_19 (fun w7 H locs hp8 hW hS => ?_)
  obtain ⟨ha9, hn10⟩ := hp8
  have ho4 := (hn10 _ (by omega)).trans ho4
  have hs := (hn10 _ (by omega)).trans hs
  refine h_goto (tgt := 26) F dX9_weave_22 (by decide) ?_
  exact h_ireti F hr hlk hW hS ⟨ho4, ha9, (fun q h09 h19 => by rw [hn10 q (by omega), hn5 q (by omega)])⟩ dX9_weave_26
set_option maxHeartbeats 4000000 in
set_option maxRecDepth 100000 in
theorem c_X9_weave (l : Launch) (X : Cx) (w : Wo) (mo : Nat) (v σ : Int → Int) (pa : Int → Int) (rw9 : Int) (b : Bool) (hM : w mo = some (.inr (9, mL mo v))) (hs : w (mo + 1) = some (aZ X 1317 σ)) (hwf : WF σ) (hpa : w (mo + 3) = some (aZ X 10536 pa)) (hun : 0 ≤ v 5 ∧ v 5 ≤ 8) (hrw : 1 ≤ rw9 ∧ rw9 ≤ 30) (hop : σ 4 + rw9 ≤ σ 1) (hen : enoS σ b rw9 = true) : CM l X yX9_weave cX9_weave 3 (some (.int)) (rmk 7 171) [.ref mo, .int (iI rw9), .int (iI (bz b))] w (some (.int (iI (misFrom (weaveN σ b rw9.toNat) (σ 4))))) (fun w' => w' mo = some (.inr (9, mL mo (up (up (up (up v 6 0) 5 (min 8 (v 5 + 1))) 8 (v 8 + 1)) 9 (v 9 + macN σ b rw9.toNat)))) ∧ w' (mo + 1) = some (aZ X 1317 (weaveN σ b rw9.toNat)) ∧ w' (mo + 3) = some (aZ X 10536 (actP (v 5) pa σ)) ∧ ∀ q : Nat, q ≠ mo → q ≠ mo + 1 → q ≠ mo + 3 → w' q = w q) := by
  refine CM.of (lv := [(0, .ref mo), (1, .int (iI rw9)), (2, .int (iI (bz b)))]) (by decide) (Nat.le_of_ble_eq_true rfl) rfl (fun p e s m below meth c ls F hr hlk hin hW hS hl => ?_)
  have hZ0 := hW.2.2
  have hB9 := hW.1.2
  clear hin
  have hF := hwf.1
  unfold WF0 at hF
  refine lv_aload_n F.1 F.2.1 dX9_weave_0 rfl (lv_at hl 0 rfl) ?_
  refine lv_iload_n F.1 F.2.1 dX9_weave_1 rfl (lv_at hl 1 rfl) ?_
  refine h_i2l F dX9_weave_2 (by omega) ?_
  refine h_lconst (n := 1) (z := 1) F dX9_weave_3 rfl ?_
  refine h_ldc2 (n := 30) F kk_RX9_211 dX9_weave_4 ?_
  refine cl_RX9_82 (As := [.long (lI rw9), .long (lI 1), .long (lI 30)]) (rest := [.ref mo]) F hl (c_X9_isIn l X w rw9 1 30 (by omega) (by omega) (by omega)) hW hS rfl rfl ⟨Nat.le_of_ble_eq_true rfl, Nat.le_of_ble_eq_true rfl⟩ (Nat.le_of_ble_eq_true rfl) ⟨Nat.zero_le _, Nat.zero_le _⟩ dX9_weave_7 (fun w1 H locs hp1 hW hS => ?_)
  rw [hp1] at hW; clear hp1; clear w1
  refine h_top (show (bz (decide (1 ≤ rw9 ∧ rw9 ≤ 30)) : Int) = bz true from congrArg bz (decide_eq_true (by omega))) ?_
  refine cl_RX9_74 (As := [.int (iI (bz true))]) (rest := []) F hl (c_pass_t l X w mo v σ hM hs hwf) hW hS hM rfl rfl ⟨Nat.le_of_ble_eq_true rfl, Nat.le_of_ble_eq_true rfl⟩ (Nat.le_of_ble_eq_true rfl) ⟨Nat.zero_le _, Nat.zero_le _⟩ dX9_weave_10 (fun w2 H locs hp3 hW hS => ?_)
  obtain ⟨ho4, hn5⟩ := hp3
  have hs := (hn5 _ (by omega)).trans hs
  have hpa := (hn5 _ (by omega)).trans hpa
  refine h_ifeqb (tgt := 25) F dX9_weave_13 (by decide) (fun c9 => absurd c9 (by decide)) (fun _ => ?_)
  refine lv_aload_n F.1 F.2.1 dX9_weave_16 rfl (lv_at hl 0 rfl) ?_
  refine lv_iload_n F.1 F.2.1 dX9_weave_17 rfl (lv_at hl 1 rfl) ?_
  refine lv_iload_n F.1 F.2.1 dX9_weave_18 rfl (lv_at hl 2 rfl) ?_
  refine cl_RX9_256 (As := [.int (iI rw9), .int (iI (bz b))]) (rest := []) F hl (c_X9_weaves l X w2 mo (up v 6 0) σ pa rw9 b ho4 hs hwf hpa hun (by omega) (by omega) hen) hW hS ho4 rfl rfl ⟨Nat.le_of_ble_eq_true rfl, Nat.le_of_ble_eq_true rfl⟩ (Nat.le_of_ble_eq_true rfl) ⟨Nat.zero_le _, Nat.zero_le _⟩ dX9_weave_19 (fun w7 H locs hp8 hW hS => ?_)
  obtain ⟨ho9, ha10, ha11, hn12⟩ := hp8
  refine h_goto (tgt := 26) F dX9_weave_22 (by decide) ?_
  exact h_ireti F hr hlk hW hS ⟨(by (rw [ho9]) <;> (rfl)), ha10, (by (rw [ha11]) <;> (rfl)), (fun q h09 h19 h29 => by rw [hn12 q (by omega) (by omega) (by omega), hn5 q (by omega)])⟩ dX9_weave_26
set_option maxHeartbeats 4000000 in
set_option maxRecDepth 100000 in
theorem c_X9_weave_x (l : Launch) (X : Cx) (w : Wo) (mo : Nat) (v σ : Int → Int) (rw9 : Int) (b : Bool) (hM : w mo = some (.inr (9, mL mo v))) (hs : w (mo + 1) = some (aZ X 1317 σ)) (hwf : WF σ) (hrw : -2147483648 ≤ rw9 ∧ rw9 < 2147483648) (hb : ¬ (1 ≤ rw9 ∧ rw9 ≤ 30)) : CM l X yX9_weave cX9_weave 3 (some (.int)) (rmk 7 171) [.ref mo, .int (iI rw9), .int (iI (bz b))] w (some (.int (iI 0))) (fun w' => w' mo = some (.inr (9, mL mo (up v 6 1))) ∧ ∀ q : Nat, q ≠ mo → w' q = w q) := by
  refine CM.of (lv := [(0, .ref mo), (1, .int (iI rw9)), (2, .int (iI (bz b)))]) (by decide) (Nat.le_of_ble_eq_true rfl) rfl (fun p e s m below meth c ls F hr hlk hin hW hS hl => ?_)
  have hZ0 := hW.2.2
  have hB9 := hW.1.2
  clear hin
  have hF := hwf.1
  unfold WF0 at hF
  refine lv_aload_n F.1 F.2.1 dX9_weave_0 rfl (lv_at hl 0 rfl) ?_
  refine lv_iload_n F.1 F.2.1 dX9_weave_1 rfl (lv_at hl 1 rfl) ?_
  refine h_i2l F dX9_weave_2 (by omega) ?_
  refine h_lconst (n := 1) (z := 1) F dX9_weave_3 rfl ?_
  refine h_ldc2 (n := 30) F kk_RX9_211 dX9_weave_4 ?_
  refine cl_RX9_82 (As := [.long (lI rw9), .long (lI 1), .long (lI 30)]) (rest := [.ref mo]) F hl (c_X9_isIn l X w rw9 1 30 (by omega) (by omega) (by omega)) hW hS rfl rfl ⟨Nat.le_of_ble_eq_true rfl, Nat.le_of_ble_eq_true rfl⟩ (Nat.le_of_ble_eq_true rfl) ⟨Nat.zero_le _, Nat.zero_le _⟩ dX9_weave_7 (fun w1 H locs hp1 hW hS => ?_)
  rw [hp1] at hW; clear hp1; clear w1
  refine h_top (show (bz (decide (1 ≤ rw9 ∧ rw9 ≤ 30)) : Int) = bz false from congrArg bz (decide_eq_false (by omega))) ?_
  refine cl_RX9_74 (As := [.int (iI (bz false))]) (rest := []) F hl (c_pass_f l X w mo v σ hM hs hwf) hW hS hM rfl rfl ⟨Nat.le_of_ble_eq_true rfl, Nat.le_of_ble_eq_true rfl⟩ (Nat.le_of_ble_eq_true rfl) ⟨Nat.zero_le _, Nat.zero_le _⟩ dX9_weave_10 (fun w2 H locs hp3 hW hS => ?_)
  obtain ⟨ho4, hn5⟩ := hp3
  have hs := (hn5 _ (by omega)).trans hs
  refine h_ifeqb (tgt := 25) F dX9_weave_13 (by decide) (fun _ => ?_) (fun c9 => absurd c9 (by decide))
  refine h_iconst F dX9_weave_25 ?_
  exact h_ireti F hr hlk hW hS ⟨ho4, (fun q h09 => by rw [hn5 q (by omega)])⟩ dX9_weave_26
set_option maxHeartbeats 4000000 in
set_option maxRecDepth 100000 in
theorem c_X9_unpick_r3 (l : Launch) (X : Cx) (w : Wo) (mo : Nat) (v σ : Int → Int) (rf : Int → Int) (rw9 : Int) (hM : w mo = some (.inr (9, mL mo v))) (hs : w (mo + 1) = some (aZ X 1317 σ)) (hwf : WF σ) (hrf : w (mo + 6) = some (aZ X 8 rf)) (hrw : 0 ≤ rw9 ∧ rw9 ≤ 30) (hop : σ 4 < rw9) : CM l X yX9_unpick cX9_unpick 2 (some (.int)) (rmk 3 70) [.ref mo, .int (iI rw9)] w (some (.int (iI (-3)))) (fun w' => w' mo = some (.inr (9, mL mo (up v 6 0))) ∧ w' (mo + 6) = some (aZ X 8 (up rf 3 (rf 3 + 1))) ∧ ∀ q : Nat, q ≠ mo → q ≠ mo + 6 → w' q = w q) := by
  refine CM.of (lv := [(0, .ref mo), (1, .int (iI rw9))]) (by decide) (Nat.le_of_ble_eq_true rfl) rfl (fun p e s m below meth c ls F hr hlk hin hW hS hl => ?_)
  have hZ0 := hW.2.2
  have hB9 := hW.1.2
  clear hin
  have hF := hwf.1
  unfold WF0 at hF
  refine lv_aload_n F.1 F.2.1 dX9_unpick_0 rfl (lv_at hl 0 rfl) ?_
  refine lv_iload_n F.1 F.2.1 dX9_unpick_1 rfl (lv_at hl 1 rfl) ?_
  refine h_i2l F dX9_unpick_2 (by omega) ?_
  refine h_lconst (n := 0) (z := 0) F dX9_unpick_3 rfl ?_
  refine h_ldc2 (n := 30) F kk_RX9_211 dX9_unpick_4 ?_
  refine cl_RX9_82 (As := [.long (lI rw9), .long (lI 0), .long (lI 30)]) (rest := [.ref mo]) F hl (c_X9_isIn l X w rw9 0 30 (by omega) (by omega) (by omega)) hW hS rfl rfl ⟨Nat.le_of_ble_eq_true rfl, Nat.le_of_ble_eq_true rfl⟩ (Nat.le_of_ble_eq_true rfl) ⟨Nat.zero_le _, Nat.zero_le _⟩ dX9_unpick_7 (fun w1 H locs hp1 hW hS => ?_)
  rw [hp1] at hW; clear hp1; clear w1
  refine h_top (show (bz (decide (0 ≤ rw9 ∧ rw9 ≤ 30)) : Int) = bz true from congrArg bz (decide_eq_true (by omega))) ?_
  refine cl_RX9_74 (As := [.int (iI (bz true))]) (rest := []) F hl (c_pass_t l X w mo v σ hM hs hwf) hW hS hM rfl rfl ⟨Nat.le_of_ble_eq_true rfl, Nat.le_of_ble_eq_true rfl⟩ (Nat.le_of_ble_eq_true rfl) ⟨Nat.zero_le _, Nat.zero_le _⟩ dX9_unpick_10 (fun w2 H locs hp3 hW hS => ?_)
  obtain ⟨ho4, hn5⟩ := hp3
  have hs := (hn5 _ (by omega)).trans hs
  have hrf := (hn5 _ (by omega)).trans hrf
  refine h_ifeqb (tgt := 24) F dX9_unpick_13 (by decide) (fun c9 => absurd c9 (by decide)) (fun _ => ?_)
  refine lv_aload_n F.1 F.2.1 dX9_unpick_16 rfl (lv_at hl 0 rfl) ?_
  refine lv_iload_n F.1 F.2.1 dX9_unpick_17 rfl (lv_at hl 1 rfl) ?_
  refine cl_RX9_260 (As := [.int (iI rw9)]) (rest := []) F hl (c_unpicks_r3 l X w2 mo (up v 6 0) σ rf rw9 ho4 hs hwf hrf (by omega) (by omega)) hW hS ho4 rfl rfl ⟨Nat.le_of_ble_eq_true rfl, Nat.le_of_ble_eq_true rfl⟩ (Nat.le_of_ble_eq_true rfl) ⟨Nat.zero_le _, Nat.zero_le _⟩ dX9_unpick_18 (fun w7 H locs hp8 hW hS => ?_)
  obtain ⟨ha9, hn10⟩ := hp8
  have ho4 := (hn10 _ (by omega)).trans ho4
  have hs := (hn10 _ (by omega)).trans hs
  refine h_goto (tgt := 25) F dX9_unpick_21 (by decide) ?_
  exact h_ireti F hr hlk hW hS ⟨ho4, ha9, (fun q h09 h19 => by rw [hn10 q (by omega), hn5 q (by omega)])⟩ dX9_unpick_25
set_option maxHeartbeats 4000000 in
set_option maxRecDepth 100000 in
theorem c_X9_unpick (l : Launch) (X : Cx) (w : Wo) (mo : Nat) (v σ : Int → Int) (pa : Int → Int) (tk : Int → Int) (rw9 : Int) (hM : w mo = some (.inr (9, mL mo v))) (hs : w (mo + 1) = some (aZ X 1317 σ)) (hwf : WF σ) (hpa : w (mo + 3) = some (aZ X 10536 pa)) (hun : 0 ≤ v 5 ∧ v 5 ≤ 8) (htk : w (mo + 8) = some (aZ X 7 tk)) (hrw : 0 ≤ rw9 ∧ rw9 ≤ 30) (hop : rw9 ≤ σ 4) : CM l X yX9_unpick cX9_unpick 2 (some (.int)) (rmk 3 70) [.ref mo, .int (iI rw9)] w (some (.int (iI (sm (wvnS σ (σ 4 - rw9)) 0 7)))) (fun w' => w' mo = some (.inr (9, mL mo (up (up (up v 6 0) 5 (min 8 (v 5 + 1))) 8 (v 8 + 1)))) ∧ w' (mo + 1) = some (aZ X 1317 (uqS σ (σ 4 - rw9))) ∧ w' (mo + 3) = some (aZ X 10536 (actP (v 5) pa σ)) ∧ w' (mo + 8) = some (aZ X 7 (tkA tk σ (σ 4 - rw9) (σ 1) 0)) ∧ ∀ q : Nat, q ≠ mo → q ≠ mo + 1 → q ≠ mo + 3 → q ≠ mo + 8 → w' q = w q) := by
  refine CM.of (lv := [(0, .ref mo), (1, .int (iI rw9))]) (by decide) (Nat.le_of_ble_eq_true rfl) rfl (fun p e s m below meth c ls F hr hlk hin hW hS hl => ?_)
  have hZ0 := hW.2.2
  have hB9 := hW.1.2
  clear hin
  have hF := hwf.1
  unfold WF0 at hF
  refine lv_aload_n F.1 F.2.1 dX9_unpick_0 rfl (lv_at hl 0 rfl) ?_
  refine lv_iload_n F.1 F.2.1 dX9_unpick_1 rfl (lv_at hl 1 rfl) ?_
  refine h_i2l F dX9_unpick_2 (by omega) ?_
  refine h_lconst (n := 0) (z := 0) F dX9_unpick_3 rfl ?_
  refine h_ldc2 (n := 30) F kk_RX9_211 dX9_unpick_4 ?_
  refine cl_RX9_82 (As := [.long (lI rw9), .long (lI 0), .long (lI 30)]) (rest := [.ref mo]) F hl (c_X9_isIn l X w rw9 0 30 (by omega) (by omega) (by omega)) hW hS rfl rfl ⟨Nat.le_of_ble_eq_true rfl, Nat.le_of_ble_eq_true rfl⟩ (Nat.le_of_ble_eq_true rfl) ⟨Nat.zero_le _, Nat.zero_le _⟩ dX9_unpick_7 (fun w1 H locs hp1 hW hS => ?_)
  rw [hp1] at hW; clear hp1; clear w1
  refine h_top (show (bz (decide (0 ≤ rw9 ∧ rw9 ≤ 30)) : Int) = bz true from congrArg bz (decide_eq_true (by omega))) ?_
  refine cl_RX9_74 (As := [.int (iI (bz true))]) (rest := []) F hl (c_pass_t l X w mo v σ hM hs hwf) hW hS hM rfl rfl ⟨Nat.le_of_ble_eq_true rfl, Nat.le_of_ble_eq_true rfl⟩ (Nat.le_of_ble_eq_true rfl) ⟨Nat.zero_le _, Nat.zero_le _⟩ dX9_unpick_10 (fun w2 H locs hp3 hW hS => ?_)
  obtain ⟨ho4, hn5⟩ := hp3
  have hs := (hn5 _ (by omega)).trans hs
  have hpa := (hn5 _ (by omega)).trans hpa
  have htk := (hn5 _ (by omega)).trans htk
  refine h_ifeqb (tgt := 24) F dX9_unpick_13 (by decide) (fun c9 => absurd c9 (by decide)) (fun _ => ?_)
  refine lv_aload_n F.1 F.2.1 dX9_unpick_16 rfl (lv_at hl 0 rfl) ?_
  refine lv_iload_n F.1 F.2.1 dX9_unpick_17 rfl (lv_at hl 1 rfl) ?_
  refine cl_RX9_260 (As := [.int (iI rw9)]) (rest := []) F hl (c_X9_unpicks l X w2 mo (up v 6 0) σ pa tk rw9 ho4 hs hwf hpa hun htk (by omega) (by omega)) hW hS ho4 rfl rfl ⟨Nat.le_of_ble_eq_true rfl, Nat.le_of_ble_eq_true rfl⟩ (Nat.le_of_ble_eq_true rfl) ⟨Nat.zero_le _, Nat.zero_le _⟩ dX9_unpick_18 (fun w7 H locs hp8 hW hS => ?_)
  obtain ⟨ho9, ha10, ha11, ha12, hn13⟩ := hp8
  refine h_goto (tgt := 25) F dX9_unpick_21 (by decide) ?_
  exact h_ireti F hr hlk hW hS ⟨(by (rw [ho9]) <;> (rfl)), ha10, (by (rw [ha11]) <;> (rfl)), ha12, (fun q h09 h19 h29 h39 => by rw [hn13 q (by omega) (by omega) (by omega) (by omega), hn5 q (by omega)])⟩ dX9_unpick_25
set_option maxHeartbeats 4000000 in
set_option maxRecDepth 100000 in
theorem c_X9_unpick_x (l : Launch) (X : Cx) (w : Wo) (mo : Nat) (v σ : Int → Int) (rw9 : Int) (hM : w mo = some (.inr (9, mL mo v))) (hs : w (mo + 1) = some (aZ X 1317 σ)) (hwf : WF σ) (hrw : -2147483648 ≤ rw9 ∧ rw9 < 2147483648) (hb : ¬ (0 ≤ rw9 ∧ rw9 ≤ 30)) : CM l X yX9_unpick cX9_unpick 2 (some (.int)) (rmk 3 70) [.ref mo, .int (iI rw9)] w (some (.int (iI 0))) (fun w' => w' mo = some (.inr (9, mL mo (up v 6 1))) ∧ ∀ q : Nat, q ≠ mo → w' q = w q) := by
  refine CM.of (lv := [(0, .ref mo), (1, .int (iI rw9))]) (by decide) (Nat.le_of_ble_eq_true rfl) rfl (fun p e s m below meth c ls F hr hlk hin hW hS hl => ?_)
  have hZ0 := hW.2.2
  have hB9 := hW.1.2
  clear hin
  have hF := hwf.1
  unfold WF0 at hF
  refine lv_aload_n F.1 F.2.1 dX9_unpick_0 rfl (lv_at hl 0 rfl) ?_
  refine lv_iload_n F.1 F.2.1 dX9_unpick_1 rfl (lv_at hl 1 rfl) ?_
  refine h_i2l F dX9_unpick_2 (by omega) ?_
  refine h_lconst (n := 0) (z := 0) F dX9_unpick_3 rfl ?_
  refine h_ldc2 (n := 30) F kk_RX9_211 dX9_unpick_4 ?_
  refine cl_RX9_82 (As := [.long (lI rw9), .long (lI 0), .long (lI 30)]) (rest := [.ref mo]) F hl (c_X9_isIn l X w rw9 0 30 (by omega) (by omega) (by omega)) hW hS rfl rfl ⟨Nat.le_of_ble_eq_true rfl, Nat.le_of_ble_eq_true rfl⟩ (Nat.le_of_ble_eq_true rfl) ⟨Nat.zero_le _, Nat.zero_le _⟩ dX9_unpick_7 (fun w1 H locs hp1 hW hS => ?_)
  rw [hp1] at hW; clear hp1; clear w1
  refine h_top (show (bz (decide (0 ≤ rw9 ∧ rw9 ≤ 30)) : Int) = bz false from congrArg bz (decide_eq_false (by omega))) ?_
  refine cl_RX9_74 (As := [.int (iI (bz false))]) (rest := []) F hl (c_pass_f l X w mo v σ hM hs hwf) hW hS hM rfl rfl ⟨Nat.le_of_ble_eq_true rfl, Nat.le_of_ble_eq_true rfl⟩ (Nat.le_of_ble_eq_true rfl) ⟨Nat.zero_le _, Nat.zero_le _⟩ dX9_unpick_10 (fun w2 H locs hp3 hW hS => ?_)
  obtain ⟨ho4, hn5⟩ := hp3
  have hs := (hn5 _ (by omega)).trans hs
  refine h_ifeqb (tgt := 24) F dX9_unpick_13 (by decide) (fun _ => ?_) (fun c9 => absurd c9 (by decide))
  refine h_iconst F dX9_unpick_24 ?_
  exact h_ireti F hr hlk hW hS ⟨ho4, (fun q h09 => by rw [hn5 q (by omega)])⟩ dX9_unpick_25
set_option maxHeartbeats 4000000 in
set_option maxRecDepth 100000 in
theorem c_X9_look (l : Launch) (X : Cx) (w : Wo) (mo : Nat) (v σ : Int → Int) (pa : Int → Int) (hM : w mo = some (.inr (9, mL mo v))) (hs : w (mo + 1) = some (aZ X 1317 σ)) (hwf : WF σ) (hpa : w (mo + 3) = some (aZ X 10536 pa)) (hun : 0 ≤ v 5 ∧ v 5 ≤ 8) : CM l X yX9_look cX9_look 1 (some (.int)) (rmk 7 159) [.ref mo] w (some (.int (iI (misSeen (up σ 3 (σ 4)) - misSeen σ)))) (fun w' => w' mo = some (.inr (9, mL mo (up (up (up v 6 0) 5 (min 8 (v 5 + 1))) 8 (v 8 + 1)))) ∧ w' (mo + 1) = some (aZ X 1317 (up σ 3 (σ 4))) ∧ w' (mo + 3) = some (aZ X 10536 (actP (v 5) pa σ)) ∧ ∀ q : Nat, q ≠ mo → q ≠ mo + 1 → q ≠ mo + 3 → w' q = w q) := by
  refine CM.of (lv := [(0, .ref mo)]) (by decide) (Nat.le_of_ble_eq_true rfl) rfl (fun p e s m below meth c ls F hr hlk hin hW hS hl => ?_)
  have hZ0 := hW.2.2
  have hB9 := hW.1.2
  clear hin
  have hF := hwf.1
  unfold WF0 at hF
  refine lv_aload_n F.1 F.2.1 dX9_look_0 rfl (lv_at hl 0 rfl) ?_
  refine h_iconst F dX9_look_1 ?_
  refine pf_RX9_58 F hW hS hM (Nat.le_of_ble_eq_true rfl) dX9_look_2 (fun w1 H locs ho3 hn2 hW hS => ?_)
  rw [mL_6] at ho3
  have hs := (hn2 _ (by omega)).trans hs
  have hpa := (hn2 _ (by omega)).trans hpa
  refine lv_aload_n F.1 F.2.1 dX9_look_5 rfl (lv_at hl 0 rfl) ?_
  refine cl_RX9_263 (As := []) (rest := []) F hl (c_X9_looks l X w1 mo (up v 6 0) σ pa ho3 hs hwf hpa hun) hW hS ho3 rfl rfl ⟨Nat.le_of_ble_eq_true rfl, Nat.le_of_ble_eq_true rfl⟩ (Nat.le_of_ble_eq_true rfl) ⟨Nat.zero_le _, Nat.zero_le _⟩ dX9_look_6 (fun w4 H locs hp5 hW hS => ?_)
  obtain ⟨ho6, ha7, ha8, hn9⟩ := hp5
  exact h_ireti F hr hlk hW hS ⟨(by (rw [ho6]) <;> (rfl)), ha7, (by (rw [ha8]) <;> (rfl)), (fun q h09 h19 h29 => by rw [hn9 q (by omega) (by omega) (by omega), hn2 q (by omega)])⟩ dX9_look_9
