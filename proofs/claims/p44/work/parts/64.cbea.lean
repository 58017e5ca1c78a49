theorem emp_eq {σ : Int → Int} (hop : σ 4 < σ 1) : ∀ n : Nat, cnt (emB σ) 0 n + cnt (opnB σ) 0 n = n
  | 0 => by rw [show ((0 : Nat) : Int) = 0 from rfl, cnt_0, cnt_0]; rfl
  | n + 1 => by
    have ih := emp_eq hop n
    have e1 := cnt_s (emB σ) (lo := 0) (i := n) (by omega)
    have e2 := cnt_s (opnB σ) (lo := 0) (i := n) (by omega)
    rw [show ((n + 1 : Nat) : Int) = (n : Int) + 1 by omega, e1, e2]
    have e3 : bz (emB σ n) + bz (opnB σ n) = 1 := by
      unfold emB opnB
      rw [decide_eq_true hop]
      by_cases g : cellS σ n (σ 4) = -1
      · rw [decide_eq_true g, decide_eq_false (fun z => z g)]; rfl
      · rw [decide_eq_false g, decide_eq_true g]; rfl
    omega
theorem emp_eq2 {σ : Int → Int} (hop : σ 4 < σ 1) (h0 : 0 ≤ σ 0) : cnt (emB σ) 0 (σ 0) = σ 0 - opnS σ := by
  have := emp_eq hop (σ 0).toNat
  rw [show ((σ 0).toNat : Int) = σ 0 by omega] at this
  unfold opnS
  omega
set_option maxHeartbeats 4000000 in
set_option maxRecDepth 100000 in
theorem c_doBeat_r1 (l : Launch) (X : Cx) (w : Wo) (y : Nat) (su : Int) (ac : Int → Int) (σ : Int → Int) (nx sz : Int) (pas : Int → Int → Int) (hY : clO X w y su) (hac : w (y + 305) = some (aZ X 9 ac)) (hL : loomAt X w (y + 1) σ) (hH : hisAt X w (y + 53) nx sz pas) (hop : σ 4 = σ 1) : CM l X yX8_doBeat cX8_doBeat 3 (some (.int)) (rmk 5 128) [.ref y] w (some (.int (iI (-1)))) (fun w' => w' (y + 305) = some (aZ X 9 (up ac 1 (ac 1 + 1))) ∧ ∀ q : Nat, q ≠ y + 305 → w' q = w q) := by
  refine CM.of (lv := [(0, .ref y)]) (by decide) (Nat.le_of_ble_eq_true rfl) rfl (fun p e s m below meth c ls F hr hlk hin hW hS hl => ?_)
  have hZ0 := hW.2.2
  have hB9 := hW.1.2
  clear hin
  unfold clO at hY
  have hO := hL.1.o
  have hA := hL.1
  have hwf := hL.2.2
  have hF := hwf.1
  unfold WF0 at hF
  have hs0 := hwf.2.1 0 (by decide) (by decide)
  have hs6 : σ (6 + 0) = σ 6 := rfl
  have hor : 0 ≤ opnS σ ∧ opnS σ ≤ σ 0 := by have := cnt_r (opnB σ) (lo := 0) (hi := σ 0) (by omega); unfold opnS; omega
  refine lv_aload_n F.1 F.2.1 dX8_doBeat_0 rfl (lv_at hl 0 rfl) ?_
  refine gf_RX8_10 F hW hY rfl dX8_doBeat_1 ?_
  refine cl_RX8_277 (As := []) (rest := []) F hl (c_X5_isOpen l X w (y + 1) σ hA hwf) hW hS hO rfl rfl ⟨Nat.le_of_ble_eq_true rfl, Nat.le_of_ble_eq_true rfl⟩ (Nat.le_of_ble_eq_true rfl) ⟨Nat.zero_le _, Nat.zero_le _⟩ dX8_doBeat_4 (fun w1 H locs hp1 hW hS => ?_)
  rw [hp1] at hW; clear hp1; clear w1
  refine h_ifneb (tgt := 16) F dX8_doBeat_7 (by decide) (fun c2 => ?_) (fun c2 => ?_)
  · have c2d := of_decide_eq_true c2
    exfalso; omega
  · have c2d := of_decide_eq_false c2
    refine lv_aload_n F.1 F.2.1 dX8_doBeat_10 rfl (lv_at hl 0 rfl) ?_
    refine h_iconst F dX8_doBeat_11 ?_
    refine cl_RX8_374 (As := [.int (iI 1)]) (rest := []) F hl (c_X8_refuse l X w y su ac 1 hY hac (by omega)) hW hS hY rfl rfl ⟨Nat.le_of_ble_eq_true rfl, Nat.le_of_ble_eq_true rfl⟩ (Nat.le_of_ble_eq_true rfl) ⟨Nat.zero_le _, Nat.zero_le _⟩ dX8_doBeat_12 (fun w3 H locs hp4 hW hS => ?_)
    obtain ⟨ha5, hn6⟩ := hp4
    have hY := (hn6 _ (by omega)).trans hY
    have hO := (hn6 _ (by omega)).trans hO
    exact h_ireti F hr hlk hW hS ⟨ha5, (fun q h09 => by rw [hn6 q (by omega)])⟩ dX8_doBeat_15
set_option maxHeartbeats 4000000 in
set_option maxRecDepth 100000 in
theorem c_doBeat_r2 (l : Launch) (X : Cx) (w : Wo) (y : Nat) (su : Int) (ac : Int → Int) (σ : Int → Int) (nx sz : Int) (pas : Int → Int → Int) (hY : clO X w y su) (hac : w (y + 305) = some (aZ X 9 ac)) (hL : loomAt X w (y + 1) σ) (hH : hisAt X w (y + 53) nx sz pas) (hop : σ 4 < σ 1) (hst : σ 6 < σ 0 - opnS σ) : CM l X yX8_doBeat cX8_doBeat 3 (some (.int)) (rmk 5 128) [.ref y] w (some (.int (iI (-2)))) (fun w' => w' (y + 305) = some (aZ X 9 (up ac 2 (ac 2 + 1))) ∧ ∀ q : Nat, q ≠ y + 305 → w' q = w q) := by
  refine CM.of (lv := [(0, .ref y)]) (by decide) (Nat.le_of_ble_eq_true rfl) rfl (fun p e s m below meth c ls F hr hlk hin hW hS hl => ?_)
  have hZ0 := hW.2.2
  have hB9 := hW.1.2
  clear hin
  unfold clO at hY
  have hO := hL.1.o
  have hA := hL.1
  have hwf := hL.2.2
  have hF := hwf.1
  unfold WF0 at hF
  have hs0 := hwf.2.1 0 (by decide) (by decide)
  have hs6 : σ (6 + 0) = σ 6 := rfl
  have hor : 0 ≤ opnS σ ∧ opnS σ ≤ σ 0 := by have := cnt_r (opnB σ) (lo := 0) (hi := σ 0) (by omega); unfold opnS; omega
  refine lv_aload_n F.1 F.2.1 dX8_doBeat_0 rfl (lv_at hl 0 rfl) ?_
  refine gf_RX8_10 F hW hY rfl dX8_doBeat_1 ?_
  refine cl_RX8_277 (As := []) (rest := []) F hl (c_X5_isOpen l X w (y + 1) σ hA hwf) hW hS hO rfl rfl ⟨Nat.le_of_ble_eq_true rfl, Nat.le_of_ble_eq_true rfl⟩ (Nat.le_of_ble_eq_true rfl) ⟨Nat.zero_le _, Nat.zero_le _⟩ dX8_doBeat_4 (fun w1 H locs hp1 hW hS => ?_)
  rw [hp1] at hW; clear hp1; clear w1
  refine h_ifneb (tgt := 16) F dX8_doBeat_7 (by decide) (fun c2 => ?_) (fun c2 => ?_)
  · have c2d := of_decide_eq_true c2
    refine lv_aload_n F.1 F.2.1 dX8_doBeat_16 rfl (lv_at hl 0 rfl) ?_
    refine gf_RX8_10 F hW hY rfl dX8_doBeat_17 ?_
    refine h_iconst F dX8_doBeat_20 ?_
    refine cl_RX8_248 (As := [.int (iI 0)]) (rest := []) F hl (c_X5_stockOf l X w (y + 1) σ 0 hA hwf (by omega)) hW hS hO rfl rfl ⟨Nat.le_of_ble_eq_true rfl, Nat.le_of_ble_eq_true rfl⟩ (Nat.le_of_ble_eq_true rfl) ⟨Nat.zero_le _, Nat.zero_le _⟩ dX8_doBeat_21 (fun w1 H locs hp3 hW hS => ?_)
    rw [hp3] at hW; clear hp3; clear w1
    refine h_top (show (σ (6 + 0) : Int) = σ 6 from rfl) ?_
    refine lv_aload_n F.1 F.2.1 dX8_doBeat_24 rfl (lv_at hl 0 rfl) ?_
    refine gf_RX8_10 F hW hY rfl dX8_doBeat_25 ?_
    refine gf_RX8_122 F hW hO rfl dX8_doBeat_28 ?_
    refine lv_aload_n F.1 F.2.1 dX8_doBeat_31 rfl (lv_at hl 0 rfl) ?_
    refine gf_RX8_10 F hW hY rfl dX8_doBeat_32 ?_
    refine cl_RX8_151 (As := []) (rest := [.int (iI (σ 0)), .int (iI (σ 6))]) F hl (c_X5_filledCells l X w (y + 1) σ hA hwf) hW hS hO rfl rfl ⟨Nat.le_of_ble_eq_true rfl, Nat.le_of_ble_eq_true rfl⟩ (Nat.le_of_ble_eq_true rfl) ⟨Nat.zero_le _, Nat.zero_le _⟩ dX8_doBeat_35 (fun w1 H locs hp4 hW hS => ?_)
    rw [hp4] at hW; clear hp4; clear w1
    refine h_isub (a := σ 0) (b := opnS σ) F dX8_doBeat_38 ?_
    refine h_icge (tgt := 48) F dX8_doBeat_39 (by decide) (by omega) (fun c5 => ?_) (fun c5 => ?_)
    · exfalso; omega
    · refine lv_aload_n F.1 F.2.1 dX8_doBeat_42 rfl (lv_at hl 0 rfl) ?_
      refine h_iconst F dX8_doBeat_43 ?_
      refine cl_RX8_374 (As := [.int (iI 2)]) (rest := []) F hl (c_X8_refuse l X w y su ac 2 hY hac (by omega)) hW hS hY rfl rfl ⟨Nat.le_of_ble_eq_true rfl, Nat.le_of_ble_eq_true rfl⟩ (Nat.le_of_ble_eq_true rfl) ⟨Nat.zero_le _, Nat.zero_le _⟩ dX8_doBeat_44 (fun w6 H locs hp7 hW hS => ?_)
      obtain ⟨ha8, hn9⟩ := hp7
      have hY := (hn9 _ (by omega)).trans hY
      have hO := (hn9 _ (by omega)).trans hO
      exact h_ireti F hr hlk hW hS ⟨ha8, (fun q h09 => by rw [hn9 q (by omega)])⟩ dX8_doBeat_47
  · have c2d := of_decide_eq_false c2
    exfalso; omega
set_option maxHeartbeats 4000000 in
set_option maxRecDepth 100000 in
theorem c_X8_doBeat (l : Launch) (X : Cx) (w : Wo) (y : Nat) (su : Int) (ac : Int → Int) (σ : Int → Int) (nx sz : Int) (pas : Int → Int → Int) (hY : clO X w y su) (hac : w (y + 305) = some (aZ X 9 ac)) (hL : loomAt X w (y + 1) σ) (hH : hisAt X w (y + 53) nx sz pas) (hop : σ 4 < σ 1) (hst : σ 0 - opnS σ ≤ σ 6) : CM l X yX8_doBeat cX8_doBeat 3 (some (.int)) (rmk 5 128) [.ref y] w (some (.int (iI (misRow (btS σ) (σ 4))))) (fun w' => w' (y + 305) = some (aZ X 9 (up (up ac 0 (ac 0 + 1)) 8 (ac 8 + mnS (beatN σ (σ 0).toNat) (σ 4)))) ∧ hisAt X w' (y + 53) ((if nx = 8 then 0 else nx) + 1) (min 8 (sz + 1)) (keepP sz pas σ) ∧ loomAt X w' (y + 1) (btS σ) ∧ ∀ q : Nat, q ≠ y + 305 → q ≠ y + 1 + 2 → q ≠ y + 1 + 5 → (q < y + 53 ∨ y + 255 ≤ q) → q ≠ y + 1 → w' q = w q) := by
  refine CM.of (lv := [(0, .ref y)]) (by decide) (Nat.le_of_ble_eq_true rfl) rfl (fun p e s m below meth c ls F hr hlk hin hW hS hl => ?_)
  have hZ0 := hW.2.2
  have hB9 := hW.1.2
  clear hin
  unfold clO at hY
  have hO := hL.1.o
  have hA := hL.1
  have hwf := hL.2.2
  have hF := hwf.1
  unfold WF0 at hF
  have hs0 := hwf.2.1 0 (by decide) (by decide)
  have hs6 : σ (6 + 0) = σ 6 := rfl
  have hor : 0 ≤ opnS σ ∧ opnS σ ≤ σ 0 := by have := cnt_r (opnB σ) (lo := 0) (hi := σ 0) (by omega); unfold opnS; omega
  refine lv_aload_n F.1 F.2.1 dX8_doBeat_0 rfl (lv_at hl 0 rfl) ?_
  refine gf_RX8_10 F hW hY rfl dX8_doBeat_1 ?_
  refine cl_RX8_277 (As := []) (rest := []) F hl (c_X5_isOpen l X w (y + 1) σ hA hwf) hW hS hO rfl rfl ⟨Nat.le_of_ble_eq_true rfl, Nat.le_of_ble_eq_true rfl⟩ (Nat.le_of_ble_eq_true rfl) ⟨Nat.zero_le _, Nat.zero_le _⟩ dX8_doBeat_4 (fun w1 H locs hp1 hW hS => ?_)
  rw [hp1] at hW; clear hp1; clear w1
  refine h_ifneb (tgt := 16) F dX8_doBeat_7 (by decide) (fun c2 => ?_) (fun c2 => ?_)
  · have c2d := of_decide_eq_true c2
    refine lv_aload_n F.1 F.2.1 dX8_doBeat_16 rfl (lv_at hl 0 rfl) ?_
    refine gf_RX8_10 F hW hY rfl dX8_doBeat_17 ?_
    refine h_iconst F dX8_doBeat_20 ?_
    refine cl_RX8_248 (As := [.int (iI 0)]) (rest := []) F hl (c_X5_stockOf l X w (y + 1) σ 0 hA hwf (by omega)) hW hS hO rfl rfl ⟨Nat.le_of_ble_eq_true rfl, Nat.le_of_ble_eq_true rfl⟩ (Nat.le_of_ble_eq_true rfl) ⟨Nat.zero_le _, Nat.zero_le _⟩ dX8_doBeat_21 (fun w1 H locs hp3 hW hS => ?_)
    rw [hp3] at hW; clear hp3; clear w1
    refine h_top (show (σ (6 + 0) : Int) = σ 6 from rfl) ?_
    refine lv_aload_n F.1 F.2.1 dX8_doBeat_24 rfl (lv_at hl 0 rfl) ?_
    refine gf_RX8_10 F hW hY rfl dX8_doBeat_25 ?_
    refine gf_RX8_122 F hW hO rfl dX8_doBeat_28 ?_
    refine lv_aload_n F.1 F.2.1 dX8_doBeat_31 rfl (lv_at hl 0 rfl) ?_
    refine gf_RX8_10 F hW hY rfl dX8_doBeat_32 ?_
    refine cl_RX8_151 (As := []) (rest := [.int (iI (σ 0)), .int (iI (σ 6))]) F hl (c_X5_filledCells l X w (y + 1) σ hA hwf) hW hS hO rfl rfl ⟨Nat.le_of_ble_eq_true rfl, Nat.le_of_ble_eq_true rfl⟩ (Nat.le_of_ble_eq_true rfl) ⟨Nat.zero_le _, Nat.zero_le _⟩ dX8_doBeat_35 (fun w1 H locs hp4 hW hS => ?_)
    rw [hp4] at hW; clear hp4; clear w1
    refine h_isub (a := σ 0) (b := opnS σ) F dX8_doBeat_38 ?_
    refine h_icge (tgt := 48) F dX8_doBeat_39 (by decide) (by omega) (fun c5 => ?_) (fun c5 => ?_)
    · refine lv_aload_n F.1 F.2.1 dX8_doBeat_48 rfl (lv_at hl 0 rfl) ?_
      refine cl_RX8_380 (As := []) (rest := []) F hl (c_X8_beginAct l X w y su ac σ nx sz pas hY hac hL hH) hW hS hY rfl rfl ⟨Nat.le_of_ble_eq_true rfl, Nat.le_of_ble_eq_true rfl⟩ (Nat.le_of_ble_eq_true rfl) ⟨Nat.zero_le _, Nat.zero_le _⟩ dX8_doBeat_49 (fun w6 H locs hp7 hW hS => ?_)
      obtain ⟨ha8, hmB, hn9⟩ := hp7
      have hY := (hn9 _ (by omega) (by omega)).trans hY
      have hO := (hn9 _ (by omega) (by omega)).trans hO
      have hLb := hL.mv (w2 := w6) (fun q h1 h2 => hn9 q (by omega) (by omega))
      refine lv_aload_n F.1 F.2.1 dX8_doBeat_52 rfl (lv_at hl 0 rfl) ?_
      refine gf_RX8_10 F hW hY rfl dX8_doBeat_53 ?_
      refine gf_RX8_148 F hW hO rfl dX8_doBeat_56 ?_
      refine lv_istore_n (lv' := [(1, .int (iI (σ 4))), (0, .ref y)]) F.1 F.2.1 dX8_doBeat_59 rfl hl (by decide) rfl (fun ls hl => ?_)
      refine h_iconst F dX8_doBeat_60 ?_
      refine lv_istore_n (lv' := [(2, .int (iI 0)), (1, .int (iI (σ 4))), (0, .ref y)]) F.1 F.2.1 dX8_doBeat_61 rfl hl (by decide) rfl (fun ls hl => ?_)
      have loop62 : ∀ (n9 : Nat) (i : Int), (hrg : 0 ≤ i ∧ i ≤ σ 0) → (hms : σ 0 - i < (n9 : Int)) → (w9 : Wo) → (hF62 : ∀ q : Nat, q ≠ y + 1 + 2 → q ≠ y + 1 + 5 → w9 q = w6 q) → (hL9 : loomAt X w9 (y + 1) (beatN σ i.toNat)) → (H : Heap) → (locs : List Loc) → (ls : Array Slot) → Wd X w9 s H → va_S (cxA X) s.heap H locs → lv_has ls 3 [(2, .int (iI i)), (1, .int (iI (σ 4))), (0, .ref y)] → W p l e (rmk 5 128) s m (List.toArray [.ref y]) below meth c H locs 0 0 (MX X below (List.toArray [.ref y]) s 0 0 (some (.int (iI (misRow (btS σ) (σ 4))))) (fun w' => w' (y + 305) = some (aZ X 9 (up (up ac 0 (ac 0 + 1)) 8 (ac 8 + mnS (beatN σ (σ 0).toNat) (σ 4)))) ∧ hisAt X w' (y + 53) ((if nx = 8 then 0 else nx) + 1) (min 8 (sz + 1)) (keepP sz pas σ) ∧ loomAt X w' (y + 1) (btS σ) ∧ ∀ q : Nat, q ≠ y + 305 → q ≠ y + 1 + 2 → q ≠ y + 1 + 5 → (q < y + 53 ∨ y + 255 ≤ q) → q ≠ y + 1 → w' q = w q)) (F0 m 62 ls []) := by
        intro n9
        induction n9 with
        | zero => intro i  hrg hms; exfalso; omega
        | succ n9 ih62 =>
          intro i  hrg hms w9 hF62 hL9 H locs ls hW hS hl
          have hY := (hF62 _ (by omega) (by omega)).trans hY
          have hO := (hF62 _ (by omega) (by omega)).trans hO
          have ha8 := (hF62 _ (by omega) (by omega)).trans ha8
          have hwt := beat_WF hwf hop (by rw [emp_eq2 hop (by omega)]; omega) i.toNat (by omega)
          obtain ⟨τ, hτ⟩ : ∃ τ, τ = beatN σ i.toNat := ⟨_, rfl⟩
          rw [← hτ] at hL9 hwt
          have hlo := fun p (h1 : p < 117) (h2 : p ≠ 6) => beat_lo (σ := σ) (p := p) (by omega) h1 h2 i.toNat
          rw [← hτ] at hlo
          have ht0 := hlo 0 (by decide) (by decide)
          have ht1 := hlo 1 (by decide) (by decide)
          have ht4 := hlo 4 (by decide) (by decide)
          have hA := hL9.1
          have hOt := hA.o
          refine lv_iload_n F.1 F.2.1 dX8_doBeat_62 rfl (lv_at hl 0 rfl) ?_
          refine lv_aload_n F.1 F.2.1 dX8_doBeat_63 rfl (lv_at hl 2 rfl) ?_
          refine gf_RX8_10 F hW hY rfl dX8_doBeat_64 ?_
          refine gf_RX8_122 F hW hOt rfl dX8_doBeat_67 ?_
          refine h_icge (tgt := 101) F dX8_doBeat_70 (by decide) (by omega) (fun c10 => ?_) (fun c10 => ?_)
          · have hie : i = σ 0 := by omega
            have hfu9 : ∀ c, 0 ≤ c → c < τ 0 → 0 ≤ cellS τ c (τ 4) := by rw [ht4, ht0, hτ, hie]; exact beat_fu hwf hop
            have hbt : btS σ = up τ 4 (τ 4 + 1) := by unfold btS; rw [ht4, hτ, hie]
            refine lv_aload_n F.1 F.2.1 dX8_doBeat_101 rfl (lv_at hl 2 rfl) ?_
            refine cl_RX8_473 (As := []) (rest := []) F hl (c_X8_finishRow l X w9 y su (up ac 0 (ac 0 + 1)) τ hY ha8 hL9 (by omega) hfu9) hW hS hY rfl rfl ⟨Nat.le_of_ble_eq_true rfl, Nat.le_of_ble_eq_true rfl⟩ (Nat.le_of_ble_eq_true rfl) ⟨Nat.zero_le _, Nat.zero_le _⟩ dX8_doBeat_102 (fun w11 H locs hp12 hW hS => ?_)
            obtain ⟨ha13, hfin, hn14⟩ := hp12
            have hY := (hn14 _ (by omega) (by omega)).trans hY
            have hOu := hfin.1.o
            have hu1 : up τ 4 (τ 4 + 1) 1 = τ 1 := rfl
            refine lv_aload_n F.1 F.2.1 dX8_doBeat_105 rfl (lv_at hl 2 rfl) ?_
            refine gf_RX8_10 F hW hY rfl dX8_doBeat_106 ?_
            refine lv_iload_n F.1 F.2.1 dX8_doBeat_109 rfl (lv_at hl 1 rfl) ?_
            refine cl_RX8_476 (As := [.int (iI (σ 4))]) (rest := []) F hl (c_X5_mistakesOf l X w11 (y + 1) (up τ 4 (τ 4 + 1)) (σ 4) hfin (by omega)) hW hS hOu rfl rfl ⟨Nat.le_of_ble_eq_true rfl, Nat.le_of_ble_eq_true rfl⟩ (Nat.le_of_ble_eq_true rfl) ⟨Nat.zero_le _, Nat.zero_le _⟩ dX8_doBeat_110 (fun w1 H locs hp15 hW hS => ?_)
            rw [hp15] at hW; clear hp15; clear w1
            refine h_top (show (misRow (up τ 4 (τ 4 + 1)) (σ 4) : Int) = misRow (btS σ) (σ 4) from by rw [hbt]) ?_
            exact h_ireti F hr hlk hW hS ⟨(by rw [ha13]; rw [ht4, hτ, hie]; rfl), hmB.mv (fun q h1 h2 => (hn14 q (by omega) (by omega)).trans (hF62 q (by omega) (by omega))), (by rw [hbt]; exact hfin), (fun q h09 h19 h29 h39 h49 => by rw [hn14 q (by omega) (by omega), hF62 q (by omega) (by omega), hn9 q (by omega) (by omega)])⟩ dX8_doBeat_113
          · refine lv_aload_n F.1 F.2.1 dX8_doBeat_73 rfl (lv_at hl 2 rfl) ?_
            refine gf_RX8_10 F hW hY rfl dX8_doBeat_74 ?_
            refine lv_iload_n F.1 F.2.1 dX8_doBeat_77 rfl (lv_at hl 0 rfl) ?_
            refine lv_iload_n F.1 F.2.1 dX8_doBeat_78 rfl (lv_at hl 1 rfl) ?_
            refine cl_RX8_470 (As := [.int (iI i), .int (iI (σ 4))]) (rest := []) F hl (c_X5_isEmpty l X w9 (y + 1) τ i (σ 4) hA hwt (by omega)) hW hS hOt rfl rfl ⟨Nat.le_of_ble_eq_true rfl, Nat.le_of_ble_eq_true rfl⟩ (Nat.le_of_ble_eq_true rfl) ⟨Nat.zero_le _, Nat.zero_le _⟩ dX8_doBeat_79 (fun w1 H locs hp16 hW hS => ?_)
            rw [hp16] at hW; clear hp16; clear w1
            refine h_ifeqb (tgt := 95) F dX8_doBeat_82 (by decide) (fun c17 => ?_) (fun c17 => ?_)
            · have c17d := of_decide_eq_false c17
              have hL8 : loomAt X w9 (y + 1) (beatN σ (i + 1).toNat) := by rw [beatN_f (by omega) (by rw [← hτ]; assumption), ← hτ]; exact hL9
              refine h_iinc (k := 0) (a := i) (lv' := [(2, .int (iI (i + 1))), (1, .int (iI (σ 4))), (0, .ref y)]) F dX8_doBeat_95 hl rfl (by decide) rfl (fun ls hl => ?_)
              refine h_goto (tgt := 62) F dX8_doBeat_98 (by decide) ?_
              have eq18 : ((i + 1) : Int) = i + 1 := by first | rfl | omega | simp
              exact ih62 (i + 1)  (by omega) (by omega) w9 (fun q h09 h19 => by rw [hF62 q (by omega) (by omega)]) hL8 _ _ ls hW hS (by rw [eq18]; exact lv_sub hl [0, 1, 2] rfl)
            · have c17d := of_decide_eq_true c17
              refine lv_aload_n F.1 F.2.1 dX8_doBeat_85 rfl (lv_at hl 2 rfl) ?_
              refine gf_RX8_10 F hW hY rfl dX8_doBeat_86 ?_
              refine lv_iload_n F.1 F.2.1 dX8_doBeat_89 rfl (lv_at hl 0 rfl) ?_
              refine lv_iload_n F.1 F.2.1 dX8_doBeat_90 rfl (lv_at hl 1 rfl) ?_
              refine h_iconst F dX8_doBeat_91 ?_
              refine cl_RX8_466 (As := [.int (iI i), .int (iI (σ 4)), .int (iI 0)]) (rest := []) F hl (c_X5_giveCell l X w9 (y + 1) τ i (σ 4) 0 hA hwt.cap8 (by omega) (by omega) (by omega)) hW hS hOt rfl rfl ⟨Nat.le_of_ble_eq_true rfl, Nat.le_of_ble_eq_true rfl⟩ (Nat.le_of_ble_eq_true rfl) ⟨Nat.zero_le _, Nat.zero_le _⟩ dX8_doBeat_92 (fun w19 H locs hp20 hW hS => ?_)
              obtain ⟨hm9, hn21⟩ := hp20
              have hY := (hn21 _ (by omega) (by omega)).trans hY
              have hOt := (hn21 _ (by omega) (by omega)).trans hOt
              have ha8 := (hn21 _ (by omega) (by omega)).trans ha8
              have hpt : beatN σ (i + 1).toNat = giveS τ i (σ 4) 0 := by rw [hτ]; exact beatN_t (by omega) (by rw [← hτ]; assumption)
              have hL8 : loomAt X w19 (y + 1) (beatN σ (i + 1).toNat) := by rw [hpt]; exact give_loom hL9 hm9 (by rw [← hpt]; exact beat_WF hwf hop (by rw [emp_eq2 hop (by omega)]; omega) _ (by omega)) (by omega) (by omega) (hn21 _ (by omega) (by omega)) (hn21 _ (by omega) (by omega))
              refine h_iinc (k := 0) (a := i) (lv' := [(2, .int (iI (i + 1))), (1, .int (iI (σ 4))), (0, .ref y)]) F dX8_doBeat_95 hl rfl (by decide) rfl (fun ls hl => ?_)
              refine h_goto (tgt := 62) F dX8_doBeat_98 (by decide) ?_
              have eq22 : ((i + 1) : Int) = i + 1 := by first | rfl | omega | simp
              exact ih62 (i + 1)  (by omega) (by omega) w19 (fun q h09 h19 => by rw [hn21 q (by omega) (by omega), hF62 q (by omega) (by omega)]) hL8 _ _ ls hW hS (by rw [eq22]; exact lv_sub hl [0, 1, 2] rfl)
      exact loop62 ((σ 0 - 0) + 1 : Int).toNat 0  (by omega) (by omega) w6 (fun q _ _ => rfl) hLb _ _ ls hW hS (lv_sub hl [0, 1, 2] rfl)
    · exfalso; omega
  · have c2d := of_decide_eq_false c2
    exfalso; omega
