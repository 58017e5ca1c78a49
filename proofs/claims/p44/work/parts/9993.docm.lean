set_option maxHeartbeats 4000000 in
set_option maxRecDepth 100000 in
theorem c_docm_p0 (l : Launch) (X : Cx) (w : Wo) (y : Nat) (su : Int) (ac am : Int → Int) (σ : Int → Int) (nx sz : Int) (pas : Int → Int → Int) (st cm acx dp pr : Int) (kd ar tl op ah : Int → Int) (hY : clO X w y su) (hac : w (y + 305) = some (aZ X 9 ac)) (ham : w (y + 306) = some (aZ X 7 am)) (hL : loomAt X w (y + 1) σ) (hH : hisAt X w (y + 53) nx sz pas) (hSO : scO X w y st cm acx dp pr kd ar tl op ah) (hpr : 0 ≤ pr ∧ pr < 60) (hk : kd pr = 0) (hco : 0 ≤ ar (3 * pr + 0) ∧ ar (3 * pr + 0) < 7) (hft : 0 ≤ ar (3 * pr + 1) ∧ ar (3 * pr + 1) ≤ ar (3 * pr + 2) ∧ ar (3 * pr + 2) < σ 0) (hop : σ 4 < σ 1) (hst : ar (3 * pr + 2) - ar (3 * pr + 1) + 1 ≤ σ (6 + ar (3 * pr + 0))) : CM l X yX8_doCommand cX8_doCommand 2 (some (.int)) (rmk 6 153) [.ref y] w (some (.int (iI (σ (6 + ar (3 * pr + 0)) - (ar (3 * pr + 2) - ar (3 * pr + 1) + 1))))) (fun w' => w' (y + 305) = some (aZ X 9 (up ac 0 (ac 0 + 1))) ∧ hisAt X w' (y + 53) ((if nx = 8 then 0 else nx) + 1) (min 8 (sz + 1)) (keepP sz pas σ) ∧ loomAt X w' (y + 1) (passN σ (ar (3 * pr + 0)) (ar (3 * pr + 1)) (ar (3 * pr + 2) - ar (3 * pr + 1) + 1).toNat) ∧ ∀ q : Nat, q ≠ y + 305 → (q < y + 1 ∨ y + 26 ≤ q) → (q < y + 53 ∨ y + 255 ≤ q) → w' q = w q) := by
  refine CM.of (lv := [(0, .ref y)]) (by decide) (Nat.le_of_ble_eq_true rfl) rfl (fun p e s m below meth c ls F hr hlk hin hW hS hl => ?_)
  have hZ0 := hW.2.2
  have hB9 := hW.1.2
  clear hin
  unfold clO at hY
  have hO := hL.1.o
  have hA := hL.1
  have hwf := hL.2.2
  have hF := hwf.1
  unfold WF0 at hF
  obtain ⟨hSc, hkd, har, -, -, -⟩ := hSO
  refine lv_aload_n F.1 F.2.1 dX8_doCommand_0 rfl (lv_at hl 0 rfl) ?_
  refine gf_RX8_77 F hW hY rfl dX8_doCommand_1 ?_
  refine h_iconst F dX8_doCommand_4 ?_
  refine cl_RX8_460 (As := [.int (iI 0)]) (rest := []) F hl (c_X7_argument l X w y st cm acx dp pr ar 0 hSc har (by omega)) hW hS hSc rfl rfl ⟨Nat.le_of_ble_eq_true rfl, Nat.le_of_ble_eq_true rfl⟩ (Nat.le_of_ble_eq_true rfl) ⟨Nat.zero_le _, Nat.zero_le _⟩ dX8_doCommand_5 (fun w1 H locs hp1 hW hS => ?_)
  rw [hp1] at hW; clear hp1; clear w1
  refine lv_istore_n (lv' := [(1, .int (iI (ar (3 * pr + 0)))), (0, .ref y)]) F.1 F.2.1 dX8_doCommand_8 rfl hl (by decide) rfl (fun ls hl => ?_)
  refine lv_aload_n F.1 F.2.1 dX8_doCommand_9 rfl (lv_at hl 1 rfl) ?_
  refine gf_RX8_77 F hW hY rfl dX8_doCommand_10 ?_
  refine cl_RX8_463 (As := []) (rest := []) F hl (c_X7_kind l X w y st cm acx dp pr kd hSc hkd (by omega)) hW hS hSc rfl rfl ⟨Nat.le_of_ble_eq_true rfl, Nat.le_of_ble_eq_true rfl⟩ (Nat.le_of_ble_eq_true rfl) ⟨Nat.zero_le _, Nat.zero_le _⟩ dX8_doCommand_13 (fun w1 H locs hp2 hW hS => ?_)
  rw [hp2] at hW; clear hp2; clear w1
  rcases (show kd pr = 0 by omega) with c3
  · refine lv_tableIn (off := 32) (tgt := 48) F.1 F.2.1 dX8_doCommand_16 (by rw [iI_toInt (by omega)]; omega) (by rw [iI_toInt (by omega)]; omega) (by rw [iI_toInt (by omega), c3]; rfl) (by decide) ?_
    refine lv_aload_n F.1 F.2.1 dX8_doCommand_48 rfl (lv_at hl 1 rfl) ?_
    refine lv_iload_n F.1 F.2.1 dX8_doCommand_49 rfl (lv_at hl 0 rfl) ?_
    refine lv_aload_n F.1 F.2.1 dX8_doCommand_50 rfl (lv_at hl 1 rfl) ?_
    refine gf_RX8_77 F hW hY rfl dX8_doCommand_51 ?_
    refine h_iconst F dX8_doCommand_54 ?_
    refine cl_RX8_460 (As := [.int (iI 1)]) (rest := [.int (iI (ar (3 * pr + 0))), .ref y]) F hl (c_X7_argument l X w y st cm acx dp pr ar 1 hSc har (by omega)) hW hS hSc rfl rfl ⟨Nat.le_of_ble_eq_true rfl, Nat.le_of_ble_eq_true rfl⟩ (Nat.le_of_ble_eq_true rfl) ⟨Nat.zero_le _, Nat.zero_le _⟩ dX8_doCommand_55 (fun w1 H locs hp4 hW hS => ?_)
    rw [hp4] at hW; clear hp4; clear w1
    refine lv_aload_n F.1 F.2.1 dX8_doCommand_58 rfl (lv_at hl 1 rfl) ?_
    refine gf_RX8_77 F hW hY rfl dX8_doCommand_59 ?_
    refine h_iconst F dX8_doCommand_62 ?_
    refine cl_RX8_460 (As := [.int (iI 2)]) (rest := [.int (iI (ar (3 * pr + 1))), .int (iI (ar (3 * pr + 0))), .ref y]) F hl (c_X7_argument l X w y st cm acx dp pr ar 2 hSc har (by omega)) hW hS hSc rfl rfl ⟨Nat.le_of_ble_eq_true rfl, Nat.le_of_ble_eq_true rfl⟩ (Nat.le_of_ble_eq_true rfl) ⟨Nat.zero_le _, Nat.zero_le _⟩ dX8_doCommand_63 (fun w1 H locs hp5 hW hS => ?_)
    rw [hp5] at hW; clear hp5; clear w1
    have hY9 : clO X w y su := hY
    refine cl_RX8_349 (As := [.int (iI (ar (3 * pr + 0))), .int (iI (ar (3 * pr + 1))), .int (iI (ar (3 * pr + 2)))]) (rest := []) F hl (c_X8_doPass l X w y su ac σ nx sz pas (ar (3 * pr + 0)) (ar (3 * pr + 1)) (ar (3 * pr + 2)) hY9 hac hL hH hco hft hop hst) hW hS hY rfl rfl ⟨Nat.le_of_ble_eq_true rfl, Nat.le_of_ble_eq_true rfl⟩ (Nat.le_of_ble_eq_true rfl) ⟨Nat.zero_le _, Nat.zero_le _⟩ dX8_doCommand_66 (fun w6 H locs hp7 hW hS => ?_)
    obtain ⟨ha8, hM1, hM2, hn9⟩ := hp7
    have hY := (hn9 _ (by omega) (by omega) (by omega) (by omega)).trans hY
    have hSc := (hn9 _ (by omega) (by omega) (by omega) (by omega)).trans hSc
    have ham := (hn9 _ (by omega) (by omega) (by omega) (by omega)).trans ham
    have hkd := (hn9 _ (by omega) (by omega) (by omega) (by omega)).trans hkd
    have har := (hn9 _ (by omega) (by omega) (by omega) (by omega)).trans har
    refine h_top (show (σ (6 + (ar (3 * pr + 0))) - ((ar (3 * pr + 2)) - (ar (3 * pr + 1)) + 1) : Int) = σ (6 + ar (3 * pr + 0)) - (ar (3 * pr + 2) - ar (3 * pr + 1) + 1) from by first | rfl | omega | (simp_all; done)) ?_
    exact h_ireti F hr hlk hW hS ⟨ha8, hM1, hM2, (fun q h09 h19 h29 => by rw [hn9 q (by omega) (by omega) (by omega) (by omega)])⟩ dX8_doCommand_69
set_option maxHeartbeats 4000000 in
set_option maxRecDepth 100000 in
theorem c_docm_p1 (l : Launch) (X : Cx) (w : Wo) (y : Nat) (su : Int) (ac am : Int → Int) (σ : Int → Int) (nx sz : Int) (pas : Int → Int → Int) (st cm acx dp pr : Int) (kd ar tl op ah : Int → Int) (hY : clO X w y su) (hac : w (y + 305) = some (aZ X 9 ac)) (ham : w (y + 306) = some (aZ X 7 am)) (hL : loomAt X w (y + 1) σ) (hH : hisAt X w (y + 53) nx sz pas) (hSO : scO X w y st cm acx dp pr kd ar tl op ah) (hpr : 0 ≤ pr ∧ pr < 60) (hk : kd pr = 0) (hco : 0 ≤ ar (3 * pr + 0) ∧ ar (3 * pr + 0) < 7) (hft : 0 ≤ ar (3 * pr + 1) ∧ ar (3 * pr + 1) ≤ ar (3 * pr + 2) ∧ ar (3 * pr + 2) < σ 0) (hop : σ 4 = σ 1) : CM l X yX8_doCommand cX8_doCommand 2 (some (.int)) (rmk 6 153) [.ref y] w (some (.int (iI (-1)))) (fun w' => w' (y + 305) = some (aZ X 9 (up ac 1 (ac 1 + 1))) ∧ ∀ q : Nat, q ≠ y + 305 → w' q = w q) := by
  refine CM.of (lv := [(0, .ref y)]) (by decide) (Nat.le_of_ble_eq_true rfl) rfl (fun p e s m below meth c ls F hr hlk hin hW hS hl => ?_)
  have hZ0 := hW.2.2
  have hB9 := hW.1.2
  clear hin
  unfold clO at hY
  have hO := hL.1.o
  have hA := hL.1
  have hwf := hL.2.2
  have hF := hwf.1
  unfold WF0 at hF
  obtain ⟨hSc, hkd, har, -, -, -⟩ := hSO
  refine lv_aload_n F.1 F.2.1 dX8_doCommand_0 rfl (lv_at hl 0 rfl) ?_
  refine gf_RX8_77 F hW hY rfl dX8_doCommand_1 ?_
  refine h_iconst F dX8_doCommand_4 ?_
  refine cl_RX8_460 (As := [.int (iI 0)]) (rest := []) F hl (c_X7_argument l X w y st cm acx dp pr ar 0 hSc har (by omega)) hW hS hSc rfl rfl ⟨Nat.le_of_ble_eq_true rfl, Nat.le_of_ble_eq_true rfl⟩ (Nat.le_of_ble_eq_true rfl) ⟨Nat.zero_le _, Nat.zero_le _⟩ dX8_doCommand_5 (fun w1 H locs hp1 hW hS => ?_)
  rw [hp1] at hW; clear hp1; clear w1
  refine lv_istore_n (lv' := [(1, .int (iI (ar (3 * pr + 0)))), (0, .ref y)]) F.1 F.2.1 dX8_doCommand_8 rfl hl (by decide) rfl (fun ls hl => ?_)
  refine lv_aload_n F.1 F.2.1 dX8_doCommand_9 rfl (lv_at hl 1 rfl) ?_
  refine gf_RX8_77 F hW hY rfl dX8_doCommand_10 ?_
  refine cl_RX8_463 (As := []) (rest := []) F hl (c_X7_kind l X w y st cm acx dp pr kd hSc hkd (by omega)) hW hS hSc rfl rfl ⟨Nat.le_of_ble_eq_true rfl, Nat.le_of_ble_eq_true rfl⟩ (Nat.le_of_ble_eq_true rfl) ⟨Nat.zero_le _, Nat.zero_le _⟩ dX8_doCommand_13 (fun w1 H locs hp2 hW hS => ?_)
  rw [hp2] at hW; clear hp2; clear w1
  rcases (show kd pr = 0 by omega) with c3
  · refine lv_tableIn (off := 32) (tgt := 48) F.1 F.2.1 dX8_doCommand_16 (by rw [iI_toInt (by omega)]; omega) (by rw [iI_toInt (by omega)]; omega) (by rw [iI_toInt (by omega), c3]; rfl) (by decide) ?_
    refine lv_aload_n F.1 F.2.1 dX8_doCommand_48 rfl (lv_at hl 1 rfl) ?_
    refine lv_iload_n F.1 F.2.1 dX8_doCommand_49 rfl (lv_at hl 0 rfl) ?_
    refine lv_aload_n F.1 F.2.1 dX8_doCommand_50 rfl (lv_at hl 1 rfl) ?_
    refine gf_RX8_77 F hW hY rfl dX8_doCommand_51 ?_
    refine h_iconst F dX8_doCommand_54 ?_
    refine cl_RX8_460 (As := [.int (iI 1)]) (rest := [.int (iI (ar (3 * pr + 0))), .ref y]) F hl (c_X7_argument l X w y st cm acx dp pr ar 1 hSc har (by omega)) hW hS hSc rfl rfl ⟨Nat.le_of_ble_eq_true rfl, Nat.le_of_ble_eq_true rfl⟩ (Nat.le_of_ble_eq_true rfl) ⟨Nat.zero_le _, Nat.zero_le _⟩ dX8_doCommand_55 (fun w1 H locs hp4 hW hS => ?_)
    rw [hp4] at hW; clear hp4; clear w1
    refine lv_aload_n F.1 F.2.1 dX8_doCommand_58 rfl (lv_at hl 1 rfl) ?_
    refine gf_RX8_77 F hW hY rfl dX8_doCommand_59 ?_
    refine h_iconst F dX8_doCommand_62 ?_
    refine cl_RX8_460 (As := [.int (iI 2)]) (rest := [.int (iI (ar (3 * pr + 1))), .int (iI (ar (3 * pr + 0))), .ref y]) F hl (c_X7_argument l X w y st cm acx dp pr ar 2 hSc har (by omega)) hW hS hSc rfl rfl ⟨Nat.le_of_ble_eq_true rfl, Nat.le_of_ble_eq_true rfl⟩ (Nat.le_of_ble_eq_true rfl) ⟨Nat.zero_le _, Nat.zero_le _⟩ dX8_doCommand_63 (fun w1 H locs hp5 hW hS => ?_)
    rw [hp5] at hW; clear hp5; clear w1
    have hY9 : clO X w y su := hY
    refine cl_RX8_349 (As := [.int (iI (ar (3 * pr + 0))), .int (iI (ar (3 * pr + 1))), .int (iI (ar (3 * pr + 2)))]) (rest := []) F hl (c_doPass_r1 l X w y su ac σ nx sz pas (ar (3 * pr + 0)) (ar (3 * pr + 1)) (ar (3 * pr + 2)) hY9 hac hL hH hco hft hop) hW hS hY rfl rfl ⟨Nat.le_of_ble_eq_true rfl, Nat.le_of_ble_eq_true rfl⟩ (Nat.le_of_ble_eq_true rfl) ⟨Nat.zero_le _, Nat.zero_le _⟩ dX8_doCommand_66 (fun w6 H locs hp7 hW hS => ?_)
    obtain ⟨ha8, hn9⟩ := hp7
    have hY := (hn9 _ (by omega)).trans hY
    have hO := (hn9 _ (by omega)).trans hO
    have hSc := (hn9 _ (by omega)).trans hSc
    have ham := (hn9 _ (by omega)).trans ham
    have hkd := (hn9 _ (by omega)).trans hkd
    have har := (hn9 _ (by omega)).trans har
    exact h_ireti F hr hlk hW hS ⟨ha8, (fun q h09 => by rw [hn9 q (by omega)])⟩ dX8_doCommand_69
set_option maxHeartbeats 4000000 in
set_option maxRecDepth 100000 in
theorem c_docm_p2 (l : Launch) (X : Cx) (w : Wo) (y : Nat) (su : Int) (ac am : Int → Int) (σ : Int → Int) (nx sz : Int) (pas : Int → Int → Int) (st cm acx dp pr : Int) (kd ar tl op ah : Int → Int) (hY : clO X w y su) (hac : w (y + 305) = some (aZ X 9 ac)) (ham : w (y + 306) = some (aZ X 7 am)) (hL : loomAt X w (y + 1) σ) (hH : hisAt X w (y + 53) nx sz pas) (hSO : scO X w y st cm acx dp pr kd ar tl op ah) (hpr : 0 ≤ pr ∧ pr < 60) (hk : kd pr = 0) (hco : 0 ≤ ar (3 * pr + 0) ∧ ar (3 * pr + 0) < 7) (hft : 0 ≤ ar (3 * pr + 1) ∧ ar (3 * pr + 1) ≤ ar (3 * pr + 2) ∧ ar (3 * pr + 2) < σ 0) (hop : σ 4 < σ 1) (hst : σ (6 + ar (3 * pr + 0)) < ar (3 * pr + 2) - ar (3 * pr + 1) + 1) : CM l X yX8_doCommand cX8_doCommand 2 (some (.int)) (rmk 6 153) [.ref y] w (some (.int (iI (-2)))) (fun w' => w' (y + 305) = some (aZ X 9 (up ac 2 (ac 2 + 1))) ∧ ∀ q : Nat, q ≠ y + 305 → w' q = w q) := by
  refine CM.of (lv := [(0, .ref y)]) (by decide) (Nat.le_of_ble_eq_true rfl) rfl (fun p e s m below meth c ls F hr hlk hin hW hS hl => ?_)
  have hZ0 := hW.2.2
  have hB9 := hW.1.2
  clear hin
  unfold clO at hY
  have hO := hL.1.o
  have hA := hL.1
  have hwf := hL.2.2
  have hF := hwf.1
  unfold WF0 at hF
  obtain ⟨hSc, hkd, har, -, -, -⟩ := hSO
  refine lv_aload_n F.1 F.2.1 dX8_doCommand_0 rfl (lv_at hl 0 rfl) ?_
  refine gf_RX8_77 F hW hY rfl dX8_doCommand_1 ?_
  refine h_iconst F dX8_doCommand_4 ?_
  refine cl_RX8_460 (As := [.int (iI 0)]) (rest := []) F hl (c_X7_argument l X w y st cm acx dp pr ar 0 hSc har (by omega)) hW hS hSc rfl rfl ⟨Nat.le_of_ble_eq_true rfl, Nat.le_of_ble_eq_true rfl⟩ (Nat.le_of_ble_eq_true rfl) ⟨Nat.zero_le _, Nat.zero_le _⟩ dX8_doCommand_5 (fun w1 H locs hp1 hW hS => ?_)
  rw [hp1] at hW; clear hp1; clear w1
  refine lv_istore_n (lv' := [(1, .int (iI (ar (3 * pr + 0)))), (0, .ref y)]) F.1 F.2.1 dX8_doCommand_8 rfl hl (by decide) rfl (fun ls hl => ?_)
  refine lv_aload_n F.1 F.2.1 dX8_doCommand_9 rfl (lv_at hl 1 rfl) ?_
  refine gf_RX8_77 F hW hY rfl dX8_doCommand_10 ?_
  refine cl_RX8_463 (As := []) (rest := []) F hl (c_X7_kind l X w y st cm acx dp pr kd hSc hkd (by omega)) hW hS hSc rfl rfl ⟨Nat.le_of_ble_eq_true rfl, Nat.le_of_ble_eq_true rfl⟩ (Nat.le_of_ble_eq_true rfl) ⟨Nat.zero_le _, Nat.zero_le _⟩ dX8_doCommand_13 (fun w1 H locs hp2 hW hS => ?_)
  rw [hp2] at hW; clear hp2; clear w1
  rcases (show kd pr = 0 by omega) with c3
  · refine lv_tableIn (off := 32) (tgt := 48) F.1 F.2.1 dX8_doCommand_16 (by rw [iI_toInt (by omega)]; omega) (by rw [iI_toInt (by omega)]; omega) (by rw [iI_toInt (by omega), c3]; rfl) (by decide) ?_
    refine lv_aload_n F.1 F.2.1 dX8_doCommand_48 rfl (lv_at hl 1 rfl) ?_
    refine lv_iload_n F.1 F.2.1 dX8_doCommand_49 rfl (lv_at hl 0 rfl) ?_
    refine lv_aload_n F.1 F.2.1 dX8_doCommand_50 rfl (lv_at hl 1 rfl) ?_
    refine gf_RX8_77 F hW hY rfl dX8_doCommand_51 ?_
    refine h_iconst F dX8_doCommand_54 ?_
    refine cl_RX8_460 (As := [.int (iI 1)]) (rest := [.int (iI (ar (3 * pr + 0))), .ref y]) F hl (c_X7_argument l X w y st cm acx dp pr ar 1 hSc har (by omega)) hW hS hSc rfl rfl ⟨Nat.le_of_ble_eq_true rfl, Nat.le_of_ble_eq_true rfl⟩ (Nat.le_of_ble_eq_true rfl) ⟨Nat.zero_le _, Nat.zero_le _⟩ dX8_doCommand_55 (fun w1 H locs hp4 hW hS => ?_)
    rw [hp4] at hW; clear hp4; clear w1
    refine lv_aload_n F.1 F.2.1 dX8_doCommand_58 rfl (lv_at hl 1 rfl) ?_
    refine gf_RX8_77 F hW hY rfl dX8_doCommand_59 ?_
    refine h_iconst F dX8_doCommand_62 ?_
    refine cl_RX8_460 (As := [.int (iI 2)]) (rest := [.int (iI (ar (3 * pr + 1))), .int (iI (ar (3 * pr + 0))), .ref y]) F hl (c_X7_argument l X w y st cm acx dp pr ar 2 hSc har (by omega)) hW hS hSc rfl rfl ⟨Nat.le_of_ble_eq_true rfl, Nat.le_of_ble_eq_true rfl⟩ (Nat.le_of_ble_eq_true rfl) ⟨Nat.zero_le _, Nat.zero_le _⟩ dX8_doCommand_63 (fun w1 H locs hp5 hW hS => ?_)
    rw [hp5] at hW; clear hp5; clear w1
    have hY9 : clO X w y su := hY
    refine cl_RX8_349 (As := [.int (iI (ar (3 * pr + 0))), .int (iI (ar (3 * pr + 1))), .int (iI (ar (3 * pr + 2)))]) (rest := []) F hl (c_doPass_r2 l X w y su ac σ nx sz pas (ar (3 * pr + 0)) (ar (3 * pr + 1)) (ar (3 * pr + 2)) hY9 hac hL hH hco hft hop hst) hW hS hY rfl rfl ⟨Nat.le_of_ble_eq_true rfl, Nat.le_of_ble_eq_true rfl⟩ (Nat.le_of_ble_eq_true rfl) ⟨Nat.zero_le _, Nat.zero_le _⟩ dX8_doCommand_66 (fun w6 H locs hp7 hW hS => ?_)
    obtain ⟨ha8, hn9⟩ := hp7
    have hY := (hn9 _ (by omega)).trans hY
    have hO := (hn9 _ (by omega)).trans hO
    have hSc := (hn9 _ (by omega)).trans hSc
    have ham := (hn9 _ (by omega)).trans ham
    have hkd := (hn9 _ (by omega)).trans hkd
    have har := (hn9 _ (by omega)).trans har
    exact h_ireti F hr hlk hW hS ⟨ha8, (fun q h09 => by rw [hn9 q (by omega)])⟩ dX8_doCommand_69
set_option maxHeartbeats 4000000 in
set_option maxRecDepth 100000 in
theorem c_docm_b0 (l : Launch) (X : Cx) (w : Wo) (y : Nat) (su : Int) (ac am : Int → Int) (σ : Int → Int) (nx sz : Int) (pas : Int → Int → Int) (st cm acx dp pr : Int) (kd ar tl op ah : Int → Int) (hY : clO X w y su) (hac : w (y + 305) = some (aZ X 9 ac)) (ham : w (y + 306) = some (aZ X 7 am)) (hL : loomAt X w (y + 1) σ) (hH : hisAt X w (y + 53) nx sz pas) (hSO : scO X w y st cm acx dp pr kd ar tl op ah) (hpr : 0 ≤ pr ∧ pr < 60) (hk : kd pr = 1) (hop : σ 4 < σ 1) (hst : σ 0 - opnS σ ≤ σ 6) : CM l X yX8_doCommand cX8_doCommand 2 (some (.int)) (rmk 6 153) [.ref y] w (some (.int (iI (misRow (btS σ) (σ 4))))) (fun w' => w' (y + 305) = some (aZ X 9 (up (up ac 0 (ac 0 + 1)) 8 (ac 8 + mnS (beatN σ (σ 0).toNat) (σ 4)))) ∧ hisAt X w' (y + 53) ((if nx = 8 then 0 else nx) + 1) (min 8 (sz + 1)) (keepP sz pas σ) ∧ loomAt X w' (y + 1) (btS σ) ∧ ∀ q : Nat, q ≠ y + 305 → (q < y + 1 ∨ y + 26 ≤ q) → (q < y + 53 ∨ y + 255 ≤ q) → w' q = w q) := by
  refine CM.of (lv := [(0, .ref y)]) (by decide) (Nat.le_of_ble_eq_true rfl) rfl (fun p e s m below meth c ls F hr hlk hin hW hS hl => ?_)
  have hZ0 := hW.2.2
  have hB9 := hW.1.2
  clear hin
  unfold clO at hY
  have hO := hL.1.o
  have hA := hL.1
  have hwf := hL.2.2
  have hF := hwf.1
  unfold WF0 at hF
  obtain ⟨hSc, hkd, har, -, -, -⟩ := hSO
  refine lv_aload_n F.1 F.2.1 dX8_doCommand_0 rfl (lv_at hl 0 rfl) ?_
  refine gf_RX8_77 F hW hY rfl dX8_doCommand_1 ?_
  refine h_iconst F dX8_doCommand_4 ?_
  refine cl_RX8_460 (As := [.int (iI 0)]) (rest := []) F hl (c_X7_argument l X w y st cm acx dp pr ar 0 hSc har (by omega)) hW hS hSc rfl rfl ⟨Nat.le_of_ble_eq_true rfl, Nat.le_of_ble_eq_true rfl⟩ (Nat.le_of_ble_eq_true rfl) ⟨Nat.zero_le _, Nat.zero_le _⟩ dX8_doCommand_5 (fun w1 H locs hp1 hW hS => ?_)
  rw [hp1] at hW; clear hp1; clear w1
  refine lv_istore_n (lv' := [(1, .int (iI (ar (3 * pr + 0)))), (0, .ref y)]) F.1 F.2.1 dX8_doCommand_8 rfl hl (by decide) rfl (fun ls hl => ?_)
  refine lv_aload_n F.1 F.2.1 dX8_doCommand_9 rfl (lv_at hl 1 rfl) ?_
  refine gf_RX8_77 F hW hY rfl dX8_doCommand_10 ?_
  refine cl_RX8_463 (As := []) (rest := []) F hl (c_X7_kind l X w y st cm acx dp pr kd hSc hkd (by omega)) hW hS hSc rfl rfl ⟨Nat.le_of_ble_eq_true rfl, Nat.le_of_ble_eq_true rfl⟩ (Nat.le_of_ble_eq_true rfl) ⟨Nat.zero_le _, Nat.zero_le _⟩ dX8_doCommand_13 (fun w1 H locs hp2 hW hS => ?_)
  rw [hp2] at hW; clear hp2; clear w1
  rcases (show kd pr = 1 by omega) with c3
  · refine lv_tableIn (off := 54) (tgt := 70) F.1 F.2.1 dX8_doCommand_16 (by rw [iI_toInt (by omega)]; omega) (by rw [iI_toInt (by omega)]; omega) (by rw [iI_toInt (by omega), c3]; rfl) (by decide) ?_
    refine lv_aload_n F.1 F.2.1 dX8_doCommand_70 rfl (lv_at hl 1 rfl) ?_
    have hY9 : clO X w y su := hY
    refine cl_RX8_352 (As := []) (rest := []) F hl (c_X8_doBeat l X w y su ac σ nx sz pas hY9 hac hL hH hop hst) hW hS hY rfl rfl ⟨Nat.le_of_ble_eq_true rfl, Nat.le_of_ble_eq_true rfl⟩ (Nat.le_of_ble_eq_true rfl) ⟨Nat.zero_le _, Nat.zero_le _⟩ dX8_doCommand_71 (fun w4 H locs hp5 hW hS => ?_)
    obtain ⟨ha6, hM1, hM2, hn7⟩ := hp5
    have hY := (hn7 _ (by omega) (by omega) (by omega) (by omega) (by omega)).trans hY
    have hSc := (hn7 _ (by omega) (by omega) (by omega) (by omega) (by omega)).trans hSc
    have ham := (hn7 _ (by omega) (by omega) (by omega) (by omega) (by omega)).trans ham
    have hkd := (hn7 _ (by omega) (by omega) (by omega) (by omega) (by omega)).trans hkd
    have har := (hn7 _ (by omega) (by omega) (by omega) (by omega) (by omega)).trans har
    exact h_ireti F hr hlk hW hS ⟨ha6, hM1, hM2, (fun q h09 h19 h29 => by rw [hn7 q (by omega) (by omega) (by omega) (by omega) (by omega)])⟩ dX8_doCommand_74
set_option maxHeartbeats 4000000 in
set_option maxRecDepth 100000 in
theorem c_docm_b1 (l : Launch) (X : Cx) (w : Wo) (y : Nat) (su : Int) (ac am : Int → Int) (σ : Int → Int) (nx sz : Int) (pas : Int → Int → Int) (st cm acx dp pr : Int) (kd ar tl op ah : Int → Int) (hY : clO X w y su) (hac : w (y + 305) = some (aZ X 9 ac)) (ham : w (y + 306) = some (aZ X 7 am)) (hL : loomAt X w (y + 1) σ) (hH : hisAt X w (y + 53) nx sz pas) (hSO : scO X w y st cm acx dp pr kd ar tl op ah) (hpr : 0 ≤ pr ∧ pr < 60) (hk : kd pr = 1) (hop : σ 4 = σ 1) : CM l X yX8_doCommand cX8_doCommand 2 (some (.int)) (rmk 6 153) [.ref y] w (some (.int (iI (-1)))) (fun w' => w' (y + 305) = some (aZ X 9 (up ac 1 (ac 1 + 1))) ∧ ∀ q : Nat, q ≠ y + 305 → w' q = w q) := by
  refine CM.of (lv := [(0, .ref y)]) (by decide) (Nat.le_of_ble_eq_true rfl) rfl (fun p e s m below meth c ls F hr hlk hin hW hS hl => ?_)
  have hZ0 := hW.2.2
  have hB9 := hW.1.2
  clear hin
  unfold clO at hY
  have hO := hL.1.o
  have hA := hL.1
  have hwf := hL.2.2
  have hF := hwf.1
  unfold WF0 at hF
  obtain ⟨hSc, hkd, har, -, -, -⟩ := hSO
  refine lv_aload_n F.1 F.2.1 dX8_doCommand_0 rfl (lv_at hl 0 rfl) ?_
  refine gf_RX8_77 F hW hY rfl dX8_doCommand_1 ?_
  refine h_iconst F dX8_doCommand_4 ?_
  refine cl_RX8_460 (As := [.int (iI 0)]) (rest := []) F hl (c_X7_argument l X w y st cm acx dp pr ar 0 hSc har (by omega)) hW hS hSc rfl rfl ⟨Nat.le_of_ble_eq_true rfl, Nat.le_of_ble_eq_true rfl⟩ (Nat.le_of_ble_eq_true rfl) ⟨Nat.zero_le _, Nat.zero_le _⟩ dX8_doCommand_5 (fun w1 H locs hp1 hW hS => ?_)
  rw [hp1] at hW; clear hp1; clear w1
  refine lv_istore_n (lv' := [(1, .int (iI (ar (3 * pr + 0)))), (0, .ref y)]) F.1 F.2.1 dX8_doCommand_8 rfl hl (by decide) rfl (fun ls hl => ?_)
  refine lv_aload_n F.1 F.2.1 dX8_doCommand_9 rfl (lv_at hl 1 rfl) ?_
  refine gf_RX8_77 F hW hY rfl dX8_doCommand_10 ?_
  refine cl_RX8_463 (As := []) (rest := []) F hl (c_X7_kind l X w y st cm acx dp pr kd hSc hkd (by omega)) hW hS hSc rfl rfl ⟨Nat.le_of_ble_eq_true rfl, Nat.le_of_ble_eq_true rfl⟩ (Nat.le_of_ble_eq_true rfl) ⟨Nat.zero_le _, Nat.zero_le _⟩ dX8_doCommand_13 (fun w1 H locs hp2 hW hS => ?_)
  rw [hp2] at hW; clear hp2; clear w1
  rcases (show kd pr = 1 by omega) with c3
  · refine lv_tableIn (off := 54) (tgt := 70) F.1 F.2.1 dX8_doCommand_16 (by rw [iI_toInt (by omega)]; omega) (by rw [iI_toInt (by omega)]; omega) (by rw [iI_toInt (by omega), c3]; rfl) (by decide) ?_
    refine lv_aload_n F.1 F.2.1 dX8_doCommand_70 rfl (lv_at hl 1 rfl) ?_
    have hY9 : clO X w y su := hY
    refine cl_RX8_352 (As := []) (rest := []) F hl (c_doBeat_r1 l X w y su ac σ nx sz pas hY9 hac hL hH hop) hW hS hY rfl rfl ⟨Nat.le_of_ble_eq_true rfl, Nat.le_of_ble_eq_true rfl⟩ (Nat.le_of_ble_eq_true rfl) ⟨Nat.zero_le _, Nat.zero_le _⟩ dX8_doCommand_71 (fun w4 H locs hp5 hW hS => ?_)
    obtain ⟨ha6, hn7⟩ := hp5
    have hY := (hn7 _ (by omega)).trans hY
    have hO := (hn7 _ (by omega)).trans hO
    have hSc := (hn7 _ (by omega)).trans hSc
    have ham := (hn7 _ (by omega)).trans ham
    have hkd := (hn7 _ (by omega)).trans hkd
    have har := (hn7 _ (by omega)).trans har
    exact h_ireti F hr hlk hW hS ⟨ha6, (fun q h09 => by rw [hn7 q (by omega)])⟩ dX8_doCommand_74
set_option maxHeartbeats 4000000 in
set_option maxRecDepth 100000 in
theorem c_docm_b2 (l : Launch) (X : Cx) (w : Wo) (y : Nat) (su : Int) (ac am : Int → Int) (σ : Int → Int) (nx sz : Int) (pas : Int → Int → Int) (st cm acx dp pr : Int) (kd ar tl op ah : Int → Int) (hY : clO X w y su) (hac : w (y + 305) = some (aZ X 9 ac)) (ham : w (y + 306) = some (aZ X 7 am)) (hL : loomAt X w (y + 1) σ) (hH : hisAt X w (y + 53) nx sz pas) (hSO : scO X w y st cm acx dp pr kd ar tl op ah) (hpr : 0 ≤ pr ∧ pr < 60) (hk : kd pr = 1) (hop : σ 4 < σ 1) (hst : σ 6 < σ 0 - opnS σ) : CM l X yX8_doCommand cX8_doCommand 2 (some (.int)) (rmk 6 153) [.ref y] w (some (.int (iI (-2)))) (fun w' => w' (y + 305) = some (aZ X 9 (up ac 2 (ac 2 + 1))) ∧ ∀ q : Nat, q ≠ y + 305 → w' q = w q) := by
  refine CM.of (lv := [(0, .ref y)]) (by decide) (Nat.le_of_ble_eq_true rfl) rfl (fun p e s m below meth c ls F hr hlk hin hW hS hl => ?_)
  have hZ0 := hW.2.2
  have hB9 := hW.1.2
  clear hin
  unfold clO at hY
  have hO := hL.1.o
  have hA := hL.1
  have hwf := hL.2.2
  have hF := hwf.1
  unfold WF0 at hF
  obtain ⟨hSc, hkd, har, -, -, -⟩ := hSO
  refine lv_aload_n F.1 F.2.1 dX8_doCommand_0 rfl (lv_at hl 0 rfl) ?_
  refine gf_RX8_77 F hW hY rfl dX8_doCommand_1 ?_
  refine h_iconst F dX8_doCommand_4 ?_
  refine cl_RX8_460 (As := [.int (iI 0)]) (rest := []) F hl (c_X7_argument l X w y st cm acx dp pr ar 0 hSc har (by omega)) hW hS hSc rfl rfl ⟨Nat.le_of_ble_eq_true rfl, Nat.le_of_ble_eq_true rfl⟩ (Nat.le_of_ble_eq_true rfl) ⟨Nat.zero_le _, Nat.zero_le _⟩ dX8_doCommand_5 (fun w1 H locs hp1 hW hS => ?_)
  rw [hp1] at hW; clear hp1; clear w1
  refine lv_istore_n (lv' := [(1, .int (iI (ar (3 * pr + 0)))), (0, .ref y)]) F.1 F.2.1 dX8_doCommand_8 rfl hl (by decide) rfl (fun ls hl => ?_)
  refine lv_aload_n F.1 F.2.1 dX8_doCommand_9 rfl (lv_at hl 1 rfl) ?_
  refine gf_RX8_77 F hW hY rfl dX8_doCommand_10 ?_
  refine cl_RX8_463 (As := []) (rest := []) F hl (c_X7_kind l X w y st cm acx dp pr kd hSc hkd (by omega)) hW hS hSc rfl rfl ⟨Nat.le_of_ble_eq_true rfl, Nat.le_of_ble_eq_true rfl⟩ (Nat.le_of_ble_eq_true rfl) ⟨Nat.zero_le _, Nat.zero_le _⟩ dX8_doCommand_13 (fun w1 H locs hp2 hW hS => ?_)
  rw [hp2] at hW; clear hp2; clear w1
  rcases (show kd pr = 1 by omega) with c3
  · refine lv_tableIn (off := 54) (tgt := 70) F.1 F.2.1 dX8_doCommand_16 (by rw [iI_toInt (by omega)]; omega) (by rw [iI_toInt (by omega)]; omega) (by rw [iI_toInt (by omega), c3]; rfl) (by decide) ?_
    refine lv_aload_n F.1 F.2.1 dX8_doCommand_70 rfl (lv_at hl 1 rfl) ?_
    have hY9 : clO X w y su := hY
    refine cl_RX8_352 (As := []) (rest := []) F hl (c_doBeat_r2 l X w y su ac σ nx sz pas hY9 hac hL hH hop hst) hW hS hY rfl rfl ⟨Nat.le_of_ble_eq_true rfl, Nat.le_of_ble_eq_true rfl⟩ (Nat.le_of_ble_eq_true rfl) ⟨Nat.zero_le _, Nat.zero_le _⟩ dX8_doCommand_71 (fun w4 H locs hp5 hW hS => ?_)
    obtain ⟨ha6, hn7⟩ := hp5
    have hY := (hn7 _ (by omega)).trans hY
    have hO := (hn7 _ (by omega)).trans hO
    have hSc := (hn7 _ (by omega)).trans hSc
    have ham := (hn7 _ (by omega)).trans ham
    have hkd := (hn7 _ (by omega)).trans hkd
    have har := (hn7 _ (by omega)).trans har
    exact h_ireti F hr hlk hW hS ⟨ha6, (fun q h09 => by rw [hn7 q (by omega)])⟩ dX8_doCommand_74
set_option maxHeartbeats 4000000 in
set_option maxRecDepth 100000 in
theorem c_docm_w0 (l : Launch) (X : Cx) (w : Wo) (y : Nat) (su : Int) (ac am : Int → Int) (σ : Int → Int) (nx sz : Int) (pas : Int → Int → Int) (st cm acx dp pr : Int) (kd ar tl op ah : Int → Int) (b9 : Bool) (hY : clO X w y su) (hac : w (y + 305) = some (aZ X 9 ac)) (ham : w (y + 306) = some (aZ X 7 am)) (hL : loomAt X w (y + 1) σ) (hH : hisAt X w (y + 53) nx sz pas) (hSO : scO X w y st cm acx dp pr kd ar tl op ah) (hpr : 0 ≤ pr ∧ pr < 60) (hk : kd pr = 2) (hrw : 1 ≤ ar (3 * pr + 0) ∧ ar (3 * pr + 0) ≤ 30) (hbb : ar (3 * pr + 1) = bz b9) (hop : σ 4 + ar (3 * pr + 0) ≤ σ 1) (hen : enoS σ b9 (ar (3 * pr + 0)) = true) : CM l X yX8_doCommand cX8_doCommand 2 (some (.int)) (rmk 6 153) [.ref y] w (some (.int (iI (misFrom (weaveN σ b9 (ar (3 * pr + 0)).toNat) (σ 4))))) (fun w' => w' (y + 305) = some (aZ X 9 (wac ac σ b9 (ar (3 * pr + 0)).toNat)) ∧ w' (y + 306) = some (aZ X 7 (ndS am σ b9 (σ 4 + ar (3 * pr + 0)))) ∧ hisAt X w' (y + 53) ((if nx = 8 then 0 else nx) + 1) (min 8 (sz + 1)) (keepP sz pas σ) ∧ loomAt X w' (y + 1) (weaveN σ b9 (ar (3 * pr + 0)).toNat) ∧ ∀ q : Nat, q ≠ y + 305 → q ≠ y + 306 → (q < y + 1 ∨ y + 26 ≤ q) → (q < y + 53 ∨ y + 255 ≤ q) → w' q = w q) := by
  refine CM.of (lv := [(0, .ref y)]) (by decide) (Nat.le_of_ble_eq_true rfl) rfl (fun p e s m below meth c ls F hr hlk hin hW hS hl => ?_)
  have hZ0 := hW.2.2
  have hB9 := hW.1.2
  clear hin
  unfold clO at hY
  have hO := hL.1.o
  have hA := hL.1
  have hwf := hL.2.2
  have hF := hwf.1
  unfold WF0 at hF
  obtain ⟨hSc, hkd, har, -, -, -⟩ := hSO
  have hb9r := bz_r b9
  refine lv_aload_n F.1 F.2.1 dX8_doCommand_0 rfl (lv_at hl 0 rfl) ?_
  refine gf_RX8_77 F hW hY rfl dX8_doCommand_1 ?_
  refine h_iconst F dX8_doCommand_4 ?_
  refine cl_RX8_460 (As := [.int (iI 0)]) (rest := []) F hl (c_X7_argument l X w y st cm acx dp pr ar 0 hSc har (by omega)) hW hS hSc rfl rfl ⟨Nat.le_of_ble_eq_true rfl, Nat.le_of_ble_eq_true rfl⟩ (Nat.le_of_ble_eq_true rfl) ⟨Nat.zero_le _, Nat.zero_le _⟩ dX8_doCommand_5 (fun w1 H locs hp1 hW hS => ?_)
  rw [hp1] at hW; clear hp1; clear w1
  refine lv_istore_n (lv' := [(1, .int (iI (ar (3 * pr + 0)))), (0, .ref y)]) F.1 F.2.1 dX8_doCommand_8 rfl hl (by decide) rfl (fun ls hl => ?_)
  refine lv_aload_n F.1 F.2.1 dX8_doCommand_9 rfl (lv_at hl 1 rfl) ?_
  refine gf_RX8_77 F hW hY rfl dX8_doCommand_10 ?_
  refine cl_RX8_463 (As := []) (rest := []) F hl (c_X7_kind l X w y st cm acx dp pr kd hSc hkd (by omega)) hW hS hSc rfl rfl ⟨Nat.le_of_ble_eq_true rfl, Nat.le_of_ble_eq_true rfl⟩ (Nat.le_of_ble_eq_true rfl) ⟨Nat.zero_le _, Nat.zero_le _⟩ dX8_doCommand_13 (fun w1 H locs hp2 hW hS => ?_)
  rw [hp2] at hW; clear hp2; clear w1
  rcases (show kd pr = 2 by omega) with c3
  · refine lv_tableIn (off := 59) (tgt := 75) F.1 F.2.1 dX8_doCommand_16 (by rw [iI_toInt (by omega)]; omega) (by rw [iI_toInt (by omega)]; omega) (by rw [iI_toInt (by omega), c3]; rfl) (by decide) ?_
    refine lv_aload_n F.1 F.2.1 dX8_doCommand_75 rfl (lv_at hl 1 rfl) ?_
    refine lv_iload_n F.1 F.2.1 dX8_doCommand_76 rfl (lv_at hl 0 rfl) ?_
    refine lv_aload_n F.1 F.2.1 dX8_doCommand_77 rfl (lv_at hl 1 rfl) ?_
    refine gf_RX8_77 F hW hY rfl dX8_doCommand_78 ?_
    refine h_iconst F dX8_doCommand_81 ?_
    refine cl_RX8_460 (As := [.int (iI 1)]) (rest := [.int (iI (ar (3 * pr + 0))), .ref y]) F hl (c_X7_argument l X w y st cm acx dp pr ar 1 hSc har (by omega)) hW hS hSc rfl rfl ⟨Nat.le_of_ble_eq_true rfl, Nat.le_of_ble_eq_true rfl⟩ (Nat.le_of_ble_eq_true rfl) ⟨Nat.zero_le _, Nat.zero_le _⟩ dX8_doCommand_82 (fun w1 H locs hp4 hW hS => ?_)
    rw [hp4] at hW; clear hp4; clear w1
    refine h_iconst F dX8_doCommand_85 ?_
    have join94 : ∀ (H : Heap) (locs : List Loc) (ls : Array Slot), Wd X w s H → va_S (cxA X) s.heap H locs → lv_has ls 2 [(1, .int (iI (ar (3 * pr + 0)))), (0, .ref y)] → W p l e (rmk 6 153) s m (List.toArray [.ref y]) below meth c H locs 0 0 (MX X below (List.toArray [.ref y]) s 0 0 (some (.int (iI (misFrom (weaveN σ b9 (ar (3 * pr + 0)).toNat) (σ 4))))) (fun w' => w' (y + 305) = some (aZ X 9 (wac ac σ b9 (ar (3 * pr + 0)).toNat)) ∧ w' (y + 306) = some (aZ X 7 (ndS am σ b9 (σ 4 + ar (3 * pr + 0)))) ∧ hisAt X w' (y + 53) ((if nx = 8 then 0 else nx) + 1) (min 8 (sz + 1)) (keepP sz pas σ) ∧ loomAt X w' (y + 1) (weaveN σ b9 (ar (3 * pr + 0)).toNat) ∧ ∀ q : Nat, q ≠ y + 305 → q ≠ y + 306 → (q < y + 1 ∨ y + 26 ≤ q) → (q < y + 53 ∨ y + 255 ≤ q) → w' q = w q)) (F0 m 94 ls [.int (iI (bz b9)), .int (iI (ar (3 * pr + 0))), .ref y]) := by
      intro  H locs ls  hW hS hl
      have hY9 : clO X w y su := hY
      refine cl_RX8_355 (As := [.int (iI (ar (3 * pr + 0))), .int (iI (bz b9))]) (rest := []) F hl (c_X8_doWeave l X w y su ac am σ nx sz pas (ar (3 * pr + 0)) b9 hY9 hac ham hL hH hrw hop hen) hW hS hY rfl rfl ⟨Nat.le_of_ble_eq_true rfl, Nat.le_of_ble_eq_true rfl⟩ (Nat.le_of_ble_eq_true rfl) ⟨Nat.zero_le _, Nat.zero_le _⟩ dX8_doCommand_94 (fun w5 H locs hp6 hW hS => ?_)
      obtain ⟨ha7, ha8, hM1, hM2, hn9⟩ := hp6
      have hY := (hn9 _ (by omega) (by omega) (by omega) (by omega) (by omega) (by omega)).trans hY
      have hSc := (hn9 _ (by omega) (by omega) (by omega) (by omega) (by omega) (by omega)).trans hSc
      have hkd := (hn9 _ (by omega) (by omega) (by omega) (by omega) (by omega) (by omega)).trans hkd
      have har := (hn9 _ (by omega) (by omega) (by omega) (by omega) (by omega) (by omega)).trans har
      exact h_ireti F hr hlk hW hS ⟨ha7, (by (rw [ha8]) <;> (rfl)), hM1, hM2, (fun q h09 h19 h29 h39 => by rw [hn9 q (by omega) (by omega) (by omega) (by omega) (by omega) (by omega)])⟩ dX8_doCommand_97
    refine h_icne (tgt := 93) F dX8_doCommand_86 (by decide) (by omega) (fun c10 => ?_) (fun c10 => ?_)
    · refine h_iconst F dX8_doCommand_93 ?_
      refine h_top (show (0 : Int) = bz b9 from by first | exact bzt (bz_1 (by omega)) | exact bzf (bz_0 (by have := bz_r b9; omega))) ?_
      exact join94  _ _ ls  hW hS (lv_sub hl [0, 1] rfl)
    · refine h_iconst F dX8_doCommand_89 ?_
      refine h_goto (tgt := 94) F dX8_doCommand_90 (by decide) ?_
      refine h_top (show (1 : Int) = bz b9 from by first | exact bzt (bz_1 (by omega)) | exact bzf (bz_0 (by have := bz_r b9; omega))) ?_
      exact join94  _ _ ls  hW hS (lv_sub hl [0, 1] rfl)
set_option maxHeartbeats 4000000 in
set_option maxRecDepth 100000 in
theorem c_docm_w3 (l : Launch) (X : Cx) (w : Wo) (y : Nat) (su : Int) (ac am : Int → Int) (σ : Int → Int) (nx sz : Int) (pas : Int → Int → Int) (st cm acx dp pr : Int) (kd ar tl op ah : Int → Int) (b9 : Bool) (hY : clO X w y su) (hac : w (y + 305) = some (aZ X 9 ac)) (ham : w (y + 306) = some (aZ X 7 am)) (hL : loomAt X w (y + 1) σ) (hH : hisAt X w (y + 53) nx sz pas) (hSO : scO X w y st cm acx dp pr kd ar tl op ah) (hpr : 0 ≤ pr ∧ pr < 60) (hk : kd pr = 2) (hrw : 1 ≤ ar (3 * pr + 0) ∧ ar (3 * pr + 0) ≤ 30) (hbb : ar (3 * pr + 1) = bz b9) (hop : σ 1 < σ 4 + ar (3 * pr + 0)) : CM l X yX8_doCommand cX8_doCommand 2 (some (.int)) (rmk 6 153) [.ref y] w (some (.int (iI (-3)))) (fun w' => w' (y + 305) = some (aZ X 9 (up ac 3 (ac 3 + 1))) ∧ ∀ q : Nat, q ≠ y + 305 → w' q = w q) := by
  refine CM.of (lv := [(0, .ref y)]) (by decide) (Nat.le_of_ble_eq_true rfl) rfl (fun p e s m below meth c ls F hr hlk hin hW hS hl => ?_)
  have hZ0 := hW.2.2
  have hB9 := hW.1.2
  clear hin
  unfold clO at hY
  have hO := hL.1.o
  have hA := hL.1
  have hwf := hL.2.2
  have hF := hwf.1
  unfold WF0 at hF
  obtain ⟨hSc, hkd, har, -, -, -⟩ := hSO
  have hb9r := bz_r b9
  refine lv_aload_n F.1 F.2.1 dX8_doCommand_0 rfl (lv_at hl 0 rfl) ?_
  refine gf_RX8_77 F hW hY rfl dX8_doCommand_1 ?_
  refine h_iconst F dX8_doCommand_4 ?_
  refine cl_RX8_460 (As := [.int (iI 0)]) (rest := []) F hl (c_X7_argument l X w y st cm acx dp pr ar 0 hSc har (by omega)) hW hS hSc rfl rfl ⟨Nat.le_of_ble_eq_true rfl, Nat.le_of_ble_eq_true rfl⟩ (Nat.le_of_ble_eq_true rfl) ⟨Nat.zero_le _, Nat.zero_le _⟩ dX8_doCommand_5 (fun w1 H locs hp1 hW hS => ?_)
  rw [hp1] at hW; clear hp1; clear w1
  refine lv_istore_n (lv' := [(1, .int (iI (ar (3 * pr + 0)))), (0, .ref y)]) F.1 F.2.1 dX8_doCommand_8 rfl hl (by decide) rfl (fun ls hl => ?_)
  refine lv_aload_n F.1 F.2.1 dX8_doCommand_9 rfl (lv_at hl 1 rfl) ?_
  refine gf_RX8_77 F hW hY rfl dX8_doCommand_10 ?_
  refine cl_RX8_463 (As := []) (rest := []) F hl (c_X7_kind l X w y st cm acx dp pr kd hSc hkd (by omega)) hW hS hSc rfl rfl ⟨Nat.le_of_ble_eq_true rfl, Nat.le_of_ble_eq_true rfl⟩ (Nat.le_of_ble_eq_true rfl) ⟨Nat.zero_le _, Nat.zero_le _⟩ dX8_doCommand_13 (fun w1 H locs hp2 hW hS => ?_)
  rw [hp2] at hW; clear hp2; clear w1
  rcases (show kd pr = 2 by omega) with c3
  · refine lv_tableIn (off := 59) (tgt := 75) F.1 F.2.1 dX8_doCommand_16 (by rw [iI_toInt (by omega)]; omega) (by rw [iI_toInt (by omega)]; omega) (by rw [iI_toInt (by omega), c3]; rfl) (by decide) ?_
    refine lv_aload_n F.1 F.2.1 dX8_doCommand_75 rfl (lv_at hl 1 rfl) ?_
    refine lv_iload_n F.1 F.2.1 dX8_doCommand_76 rfl (lv_at hl 0 rfl) ?_
    refine lv_aload_n F.1 F.2.1 dX8_doCommand_77 rfl (lv_at hl 1 rfl) ?_
    refine gf_RX8_77 F hW hY rfl dX8_doCommand_78 ?_
    refine h_iconst F dX8_doCommand_81 ?_
    refine cl_RX8_460 (As := [.int (iI 1)]) (rest := [.int (iI (ar (3 * pr + 0))), .ref y]) F hl (c_X7_argument l X w y st cm acx dp pr ar 1 hSc har (by omega)) hW hS hSc rfl rfl ⟨Nat.le_of_ble_eq_true rfl, Nat.le_of_ble_eq_true rfl⟩ (Nat.le_of_ble_eq_true rfl) ⟨Nat.zero_le _, Nat.zero_le _⟩ dX8_doCommand_82 (fun w1 H locs hp4 hW hS => ?_)
    rw [hp4] at hW; clear hp4; clear w1
    refine h_iconst F dX8_doCommand_85 ?_
    have join94 : ∀ (H : Heap) (locs : List Loc) (ls : Array Slot), Wd X w s H → va_S (cxA X) s.heap H locs → lv_has ls 2 [(1, .int (iI (ar (3 * pr + 0)))), (0, .ref y)] → W p l e (rmk 6 153) s m (List.toArray [.ref y]) below meth c H locs 0 0 (MX X below (List.toArray [.ref y]) s 0 0 (some (.int (iI (-3)))) (fun w' => w' (y + 305) = some (aZ X 9 (up ac 3 (ac 3 + 1))) ∧ ∀ q : Nat, q ≠ y + 305 → w' q = w q)) (F0 m 94 ls [.int (iI (bz b9)), .int (iI (ar (3 * pr + 0))), .ref y]) := by
      intro  H locs ls  hW hS hl
      have hY9 : clO X w y su := hY
      refine cl_RX8_355 (As := [.int (iI (ar (3 * pr + 0))), .int (iI (bz b9))]) (rest := []) F hl (c_doWeave_r3 l X w y su ac am σ nx sz pas (ar (3 * pr + 0)) b9 hY9 hac ham hL hH hrw hop) hW hS hY rfl rfl ⟨Nat.le_of_ble_eq_true rfl, Nat.le_of_ble_eq_true rfl⟩ (Nat.le_of_ble_eq_true rfl) ⟨Nat.zero_le _, Nat.zero_le _⟩ dX8_doCommand_94 (fun w5 H locs hp6 hW hS => ?_)
      obtain ⟨ha7, hn8⟩ := hp6
      have hY := (hn8 _ (by omega)).trans hY
      have hO := (hn8 _ (by omega)).trans hO
      have hSc := (hn8 _ (by omega)).trans hSc
      have ham := (hn8 _ (by omega)).trans ham
      have hkd := (hn8 _ (by omega)).trans hkd
      have har := (hn8 _ (by omega)).trans har
      exact h_ireti F hr hlk hW hS ⟨ha7, (fun q h09 => by rw [hn8 q (by omega)])⟩ dX8_doCommand_97
    refine h_icne (tgt := 93) F dX8_doCommand_86 (by decide) (by omega) (fun c9 => ?_) (fun c9 => ?_)
    · refine h_iconst F dX8_doCommand_93 ?_
      refine h_top (show (0 : Int) = bz b9 from by first | exact bzt (bz_1 (by omega)) | exact bzf (bz_0 (by have := bz_r b9; omega))) ?_
      exact join94  _ _ ls  hW hS (lv_sub hl [0, 1] rfl)
    · refine h_iconst F dX8_doCommand_89 ?_
      refine h_goto (tgt := 94) F dX8_doCommand_90 (by decide) ?_
      refine h_top (show (1 : Int) = bz b9 from by first | exact bzt (bz_1 (by omega)) | exact bzf (bz_0 (by have := bz_r b9; omega))) ?_
      exact join94  _ _ ls  hW hS (lv_sub hl [0, 1] rfl)
set_option maxHeartbeats 4000000 in
set_option maxRecDepth 100000 in
theorem c_docm_w2 (l : Launch) (X : Cx) (w : Wo) (y : Nat) (su : Int) (ac am : Int → Int) (σ : Int → Int) (nx sz : Int) (pas : Int → Int → Int) (st cm acx dp pr : Int) (kd ar tl op ah : Int → Int) (b9 : Bool) (hY : clO X w y su) (hac : w (y + 305) = some (aZ X 9 ac)) (ham : w (y + 306) = some (aZ X 7 am)) (hL : loomAt X w (y + 1) σ) (hH : hisAt X w (y + 53) nx sz pas) (hSO : scO X w y st cm acx dp pr kd ar tl op ah) (hpr : 0 ≤ pr ∧ pr < 60) (hk : kd pr = 2) (hrw : 1 ≤ ar (3 * pr + 0) ∧ ar (3 * pr + 0) ≤ 30) (hbb : ar (3 * pr + 1) = bz b9) (hop : σ 4 + ar (3 * pr + 0) ≤ σ 1) (hen : enoS σ b9 (ar (3 * pr + 0)) = false) : CM l X yX8_doCommand cX8_doCommand 2 (some (.int)) (rmk 6 153) [.ref y] w (some (.int (iI (-2)))) (fun w' => w' (y + 305) = some (aZ X 9 (up ac 2 (ac 2 + 1))) ∧ w' (y + 306) = some (aZ X 7 (ndS am σ b9 (σ 4 + ar (3 * pr + 0)))) ∧ ∀ q : Nat, q ≠ y + 305 → q ≠ y + 306 → w' q = w q) := by
  refine CM.of (lv := [(0, .ref y)]) (by decide) (Nat.le_of_ble_eq_true rfl) rfl (fun p e s m below meth c ls F hr hlk hin hW hS hl => ?_)
  have hZ0 := hW.2.2
  have hB9 := hW.1.2
  clear hin
  unfold clO at hY
  have hO := hL.1.o
  have hA := hL.1
  have hwf := hL.2.2
  have hF := hwf.1
  unfold WF0 at hF
  obtain ⟨hSc, hkd, har, -, -, -⟩ := hSO
  have hb9r := bz_r b9
  refine lv_aload_n F.1 F.2.1 dX8_doCommand_0 rfl (lv_at hl 0 rfl) ?_
  refine gf_RX8_77 F hW hY rfl dX8_doCommand_1 ?_
  refine h_iconst F dX8_doCommand_4 ?_
  refine cl_RX8_460 (As := [.int (iI 0)]) (rest := []) F hl (c_X7_argument l X w y st cm acx dp pr ar 0 hSc har (by omega)) hW hS hSc rfl rfl ⟨Nat.le_of_ble_eq_true rfl, Nat.le_of_ble_eq_true rfl⟩ (Nat.le_of_ble_eq_true rfl) ⟨Nat.zero_le _, Nat.zero_le _⟩ dX8_doCommand_5 (fun w1 H locs hp1 hW hS => ?_)
  rw [hp1] at hW; clear hp1; clear w1
  refine lv_istore_n (lv' := [(1, .int (iI (ar (3 * pr + 0)))), (0, .ref y)]) F.1 F.2.1 dX8_doCommand_8 rfl hl (by decide) rfl (fun ls hl => ?_)
  refine lv_aload_n F.1 F.2.1 dX8_doCommand_9 rfl (lv_at hl 1 rfl) ?_
  refine gf_RX8_77 F hW hY rfl dX8_doCommand_10 ?_
  refine cl_RX8_463 (As := []) (rest := []) F hl (c_X7_kind l X w y st cm acx dp pr kd hSc hkd (by omega)) hW hS hSc rfl rfl ⟨Nat.le_of_ble_eq_true rfl, Nat.le_of_ble_eq_true rfl⟩ (Nat.le_of_ble_eq_true rfl) ⟨Nat.zero_le _, Nat.zero_le _⟩ dX8_doCommand_13 (fun w1 H locs hp2 hW hS => ?_)
  rw [hp2] at hW; clear hp2; clear w1
  rcases (show kd pr = 2 by omega) with c3
  · refine lv_tableIn (off := 59) (tgt := 75) F.1 F.2.1 dX8_doCommand_16 (by rw [iI_toInt (by omega)]; omega) (by rw [iI_toInt (by omega)]; omega) (by rw [iI_toInt (by omega), c3]; rfl) (by decide) ?_
    refine lv_aload_n F.1 F.2.1 dX8_doCommand_75 rfl (lv_at hl 1 rfl) ?_
    refine lv_iload_n F.1 F.2.1 dX8_doCommand_76 rfl (lv_at hl 0 rfl) ?_
    refine lv_aload_n F.1 F.2.1 dX8_doCommand_77 rfl (lv_at hl 1 rfl) ?_
    refine gf_RX8_77 F hW hY rfl dX8_doCommand_78 ?_
    refine h_iconst F dX8_doCommand_81 ?_
    refine cl_RX8_460 (As := [.int (iI 1)]) (rest := [.int (iI (ar (3 * pr + 0))), .ref y]) F hl (c_X7_argument l X w y st cm acx dp pr ar 1 hSc har (by omega)) hW hS hSc rfl rfl ⟨Nat.le_of_ble_eq_true rfl, Nat.le_of_ble_eq_true rfl⟩ (Nat.le_of_ble_eq_true rfl) ⟨Nat.zero_le _, Nat.zero_le _⟩ dX8_doCommand_82 (fun w1 H locs hp4 hW hS => ?_)
    rw [hp4] at hW; clear hp4; clear w1
    refine h_iconst F dX8_doCommand_85 ?_
    have join94 : ∀ (H : Heap) (locs : List Loc) (ls : Array Slot), Wd X w s H → va_S (cxA X) s.heap H locs → lv_has ls 2 [(1, .int (iI (ar (3 * pr + 0)))), (0, .ref y)] → W p l e (rmk 6 153) s m (List.toArray [.ref y]) below meth c H locs 0 0 (MX X below (List.toArray [.ref y]) s 0 0 (some (.int (iI (-2)))) (fun w' => w' (y + 305) = some (aZ X 9 (up ac 2 (ac 2 + 1))) ∧ w' (y + 306) = some (aZ X 7 (ndS am σ b9 (σ 4 + ar (3 * pr + 0)))) ∧ ∀ q : Nat, q ≠ y + 305 → q ≠ y + 306 → w' q = w q)) (F0 m 94 ls [.int (iI (bz b9)), .int (iI (ar (3 * pr + 0))), .ref y]) := by
      intro  H locs ls  hW hS hl
      have hY9 : clO X w y su := hY
      refine cl_RX8_355 (As := [.int (iI (ar (3 * pr + 0))), .int (iI (bz b9))]) (rest := []) F hl (c_doWeave_r2 l X w y su ac am σ nx sz pas (ar (3 * pr + 0)) b9 hY9 hac ham hL hH hrw hop hen) hW hS hY rfl rfl ⟨Nat.le_of_ble_eq_true rfl, Nat.le_of_ble_eq_true rfl⟩ (Nat.le_of_ble_eq_true rfl) ⟨Nat.zero_le _, Nat.zero_le _⟩ dX8_doCommand_94 (fun w5 H locs hp6 hW hS => ?_)
      obtain ⟨ha7, ha8, hn9⟩ := hp6
      have hY := (hn9 _ (by omega) (by omega)).trans hY
      have hO := (hn9 _ (by omega) (by omega)).trans hO
      have hSc := (hn9 _ (by omega) (by omega)).trans hSc
      have hkd := (hn9 _ (by omega) (by omega)).trans hkd
      have har := (hn9 _ (by omega) (by omega)).trans har
      exact h_ireti F hr hlk hW hS ⟨ha7, (by (rw [ha8]) <;> (rfl)), (fun q h09 h19 => by rw [hn9 q (by omega) (by omega)])⟩ dX8_doCommand_97
    refine h_icne (tgt := 93) F dX8_doCommand_86 (by decide) (by omega) (fun c10 => ?_) (fun c10 => ?_)
    · refine h_iconst F dX8_doCommand_93 ?_
      refine h_top (show (0 : Int) = bz b9 from by first | exact bzt (bz_1 (by omega)) | exact bzf (bz_0 (by have := bz_r b9; omega))) ?_
      exact join94  _ _ ls  hW hS (lv_sub hl [0, 1] rfl)
    · refine h_iconst F dX8_doCommand_89 ?_
      refine h_goto (tgt := 94) F dX8_doCommand_90 (by decide) ?_
      refine h_top (show (1 : Int) = bz b9 from by first | exact bzt (bz_1 (by omega)) | exact bzf (bz_0 (by have := bz_r b9; omega))) ?_
      exact join94  _ _ ls  hW hS (lv_sub hl [0, 1] rfl)
set_option maxHeartbeats 4000000 in
set_option maxRecDepth 100000 in
theorem c_docm_u0 (l : Launch) (X : Cx) (w : Wo) (y : Nat) (su : Int) (ac am : Int → Int) (σ : Int → Int) (nx sz : Int) (pas : Int → Int → Int) (st cm acx dp pr : Int) (kd ar tl op ah : Int → Int) (hY : clO X w y su) (hac : w (y + 305) = some (aZ X 9 ac)) (ham : w (y + 306) = some (aZ X 7 am)) (hL : loomAt X w (y + 1) σ) (hH : hisAt X w (y + 53) nx sz pas) (hSO : scO X w y st cm acx dp pr kd ar tl op ah) (hpr : 0 ≤ pr ∧ pr < 60) (hk : kd pr = 3) (hrw : 0 ≤ ar (3 * pr + 0) ∧ ar (3 * pr + 0) ≤ 30) (hop : ar (3 * pr + 0) ≤ σ 4) : CM l X yX8_doCommand cX8_doCommand 2 (some (.int)) (rmk 6 153) [.ref y] w (some (.int (iI (sm (wvnS σ (σ 4 - ar (3 * pr + 0))) 0 7)))) (fun w' => w' (y + 305) = some (aZ X 9 (up ac 0 (ac 0 + 1))) ∧ hisAt X w' (y + 53) ((if nx = 8 then 0 else nx) + 1) (min 8 (sz + 1)) (keepP sz pas σ) ∧ loomAt X w' (y + 1) (clrS (unpS σ (σ 4 - ar (3 * pr + 0)) 7) (σ 4 - ar (3 * pr + 0))) ∧ ∀ q : Nat, q ≠ y + 305 → (q < y + 1 ∨ y + 26 ≤ q) → (q < y + 53 ∨ y + 255 ≤ q) → w' q = w q) := by
  refine CM.of (lv := [(0, .ref y)]) (by decide) (Nat.le_of_ble_eq_true rfl) rfl (fun p e s m below meth c ls F hr hlk hin hW hS hl => ?_)
  have hZ0 := hW.2.2
  have hB9 := hW.1.2
  clear hin
  unfold clO at hY
  have hO := hL.1.o
  have hA := hL.1
  have hwf := hL.2.2
  have hF := hwf.1
  unfold WF0 at hF
  obtain ⟨hSc, hkd, har, -, -, -⟩ := hSO
  refine lv_aload_n F.1 F.2.1 dX8_doCommand_0 rfl (lv_at hl 0 rfl) ?_
  refine gf_RX8_77 F hW hY rfl dX8_doCommand_1 ?_
  refine h_iconst F dX8_doCommand_4 ?_
  refine cl_RX8_460 (As := [.int (iI 0)]) (rest := []) F hl (c_X7_argument l X w y st cm acx dp pr ar 0 hSc har (by omega)) hW hS hSc rfl rfl ⟨Nat.le_of_ble_eq_true rfl, Nat.le_of_ble_eq_true rfl⟩ (Nat.le_of_ble_eq_true rfl) ⟨Nat.zero_le _, Nat.zero_le _⟩ dX8_doCommand_5 (fun w1 H locs hp1 hW hS => ?_)
  rw [hp1] at hW; clear hp1; clear w1
  refine lv_istore_n (lv' := [(1, .int (iI (ar (3 * pr + 0)))), (0, .ref y)]) F.1 F.2.1 dX8_doCommand_8 rfl hl (by decide) rfl (fun ls hl => ?_)
  refine lv_aload_n F.1 F.2.1 dX8_doCommand_9 rfl (lv_at hl 1 rfl) ?_
  refine gf_RX8_77 F hW hY rfl dX8_doCommand_10 ?_
  refine cl_RX8_463 (As := []) (rest := []) F hl (c_X7_kind l X w y st cm acx dp pr kd hSc hkd (by omega)) hW hS hSc rfl rfl ⟨Nat.le_of_ble_eq_true rfl, Nat.le_of_ble_eq_true rfl⟩ (Nat.le_of_ble_eq_true rfl) ⟨Nat.zero_le _, Nat.zero_le _⟩ dX8_doCommand_13 (fun w1 H locs hp2 hW hS => ?_)
  rw [hp2] at hW; clear hp2; clear w1
  rcases (show kd pr = 3 by omega) with c3
  · refine lv_tableIn (off := 82) (tgt := 98) F.1 F.2.1 dX8_doCommand_16 (by rw [iI_toInt (by omega)]; omega) (by rw [iI_toInt (by omega)]; omega) (by rw [iI_toInt (by omega), c3]; rfl) (by decide) ?_
    refine lv_aload_n F.1 F.2.1 dX8_doCommand_98 rfl (lv_at hl 1 rfl) ?_
    refine lv_iload_n F.1 F.2.1 dX8_doCommand_99 rfl (lv_at hl 0 rfl) ?_
    have hY9 : clO X w y su := hY
    refine cl_RX8_359 (As := [.int (iI (ar (3 * pr + 0)))]) (rest := []) F hl (c_X8_doUnpick l X w y su ac σ nx sz pas (ar (3 * pr + 0)) hY9 hac hL hH hrw hop) hW hS hY rfl rfl ⟨Nat.le_of_ble_eq_true rfl, Nat.le_of_ble_eq_true rfl⟩ (Nat.le_of_ble_eq_true rfl) ⟨Nat.zero_le _, Nat.zero_le _⟩ dX8_doCommand_100 (fun w4 H locs hp5 hW hS => ?_)
    obtain ⟨ha6, hM1, hM2, hn7⟩ := hp5
    have hY := (hn7 _ (by omega) (by omega) (by omega) (by omega) (by omega)).trans hY
    have hSc := (hn7 _ (by omega) (by omega) (by omega) (by omega) (by omega)).trans hSc
    have ham := (hn7 _ (by omega) (by omega) (by omega) (by omega) (by omega)).trans ham
    have hkd := (hn7 _ (by omega) (by omega) (by omega) (by omega) (by omega)).trans hkd
    have har := (hn7 _ (by omega) (by omega) (by omega) (by omega) (by omega)).trans har
    refine h_top (show (sm (wvnS σ (σ 4 - (ar (3 * pr + 0)))) 0 7 : Int) = sm (wvnS σ (σ 4 - ar (3 * pr + 0))) 0 7 from by first | rfl | omega | (simp_all; done)) ?_
    exact h_ireti F hr hlk hW hS ⟨ha6, hM1, hM2, (fun q h09 h19 h29 => by rw [hn7 q (by omega) (by omega) (by omega) (by omega) (by omega)])⟩ dX8_doCommand_103
set_option maxHeartbeats 4000000 in
set_option maxRecDepth 100000 in
theorem c_docm_u3 (l : Launch) (X : Cx) (w : Wo) (y : Nat) (su : Int) (ac am : Int → Int) (σ : Int → Int) (nx sz : Int) (pas : Int → Int → Int) (st cm acx dp pr : Int) (kd ar tl op ah : Int → Int) (hY : clO X w y su) (hac : w (y + 305) = some (aZ X 9 ac)) (ham : w (y + 306) = some (aZ X 7 am)) (hL : loomAt X w (y + 1) σ) (hH : hisAt X w (y + 53) nx sz pas) (hSO : scO X w y st cm acx dp pr kd ar tl op ah) (hpr : 0 ≤ pr ∧ pr < 60) (hk : kd pr = 3) (hrw : 0 ≤ ar (3 * pr + 0) ∧ ar (3 * pr + 0) ≤ 30) (hop : σ 4 < ar (3 * pr + 0)) : CM l X yX8_doCommand cX8_doCommand 2 (some (.int)) (rmk 6 153) [.ref y] w (some (.int (iI (-3)))) (fun w' => w' (y + 305) = some (aZ X 9 (up ac 3 (ac 3 + 1))) ∧ ∀ q : Nat, q ≠ y + 305 → w' q = w q) := by
  refine CM.of (lv := [(0, .ref y)]) (by decide) (Nat.le_of_ble_eq_true rfl) rfl (fun p e s m below meth c ls F hr hlk hin hW hS hl => ?_)
  have hZ0 := hW.2.2
  have hB9 := hW.1.2
  clear hin
  unfold clO at hY
  have hO := hL.1.o
  have hA := hL.1
  have hwf := hL.2.2
  have hF := hwf.1
  unfold WF0 at hF
  obtain ⟨hSc, hkd, har, -, -, -⟩ := hSO
  refine lv_aload_n F.1 F.2.1 dX8_doCommand_0 rfl (lv_at hl 0 rfl) ?_
  refine gf_RX8_77 F hW hY rfl dX8_doCommand_1 ?_
  refine h_iconst F dX8_doCommand_4 ?_
  refine cl_RX8_460 (As := [.int (iI 0)]) (rest := []) F hl (c_X7_argument l X w y st cm acx dp pr ar 0 hSc har (by omega)) hW hS hSc rfl rfl ⟨Nat.le_of_ble_eq_true rfl, Nat.le_of_ble_eq_true rfl⟩ (Nat.le_of_ble_eq_true rfl) ⟨Nat.zero_le _, Nat.zero_le _⟩ dX8_doCommand_5 (fun w1 H locs hp1 hW hS => ?_)
  rw [hp1] at hW; clear hp1; clear w1
  refine lv_istore_n (lv' := [(1, .int (iI (ar (3 * pr + 0)))), (0, .ref y)]) F.1 F.2.1 dX8_doCommand_8 rfl hl (by decide) rfl (fun ls hl => ?_)
  refine lv_aload_n F.1 F.2.1 dX8_doCommand_9 rfl (lv_at hl 1 rfl) ?_
  refine gf_RX8_77 F hW hY rfl dX8_doCommand_10 ?_
  refine cl_RX8_463 (As := []) (rest := []) F hl (c_X7_kind l X w y st cm acx dp pr kd hSc hkd (by omega)) hW hS hSc rfl rfl ⟨Nat.le_of_ble_eq_true rfl, Nat.le_of_ble_eq_true rfl⟩ (Nat.le_of_ble_eq_true rfl) ⟨Nat.zero_le _, Nat.zero_le _⟩ dX8_doCommand_13 (fun w1 H locs hp2 hW hS => ?_)
  rw [hp2] at hW; clear hp2; clear w1
  rcases (show kd pr = 3 by omega) with c3
  · refine lv_tableIn (off := 82) (tgt := 98) F.1 F.2.1 dX8_doCommand_16 (by rw [iI_toInt (by omega)]; omega) (by rw [iI_toInt (by omega)]; omega) (by rw [iI_toInt (by omega), c3]; rfl) (by decide) ?_
    refine lv_aload_n F.1 F.2.1 dX8_doCommand_98 rfl (lv_at hl 1 rfl) ?_
    refine lv_iload_n F.1 F.2.1 dX8_doCommand_99 rfl (lv_at hl 0 rfl) ?_
    have hY9 : clO X w y su := hY
    refine cl_RX8_359 (As := [.int (iI (ar (3 * pr + 0)))]) (rest := []) F hl (c_doUnpick_r3 l X w y su ac σ nx sz pas (ar (3 * pr + 0)) hY9 hac hL hH hrw hop) hW hS hY rfl rfl ⟨Nat.le_of_ble_eq_true rfl, Nat.le_of_ble_eq_true rfl⟩ (Nat.le_of_ble_eq_true rfl) ⟨Nat.zero_le _, Nat.zero_le _⟩ dX8_doCommand_100 (fun w4 H locs hp5 hW hS => ?_)
    obtain ⟨ha6, hn7⟩ := hp5
    have hY := (hn7 _ (by omega)).trans hY
    have hO := (hn7 _ (by omega)).trans hO
    have hSc := (hn7 _ (by omega)).trans hSc
    have ham := (hn7 _ (by omega)).trans ham
    have hkd := (hn7 _ (by omega)).trans hkd
    have har := (hn7 _ (by omega)).trans har
    exact h_ireti F hr hlk hW hS ⟨ha6, (fun q h09 => by rw [hn7 q (by omega)])⟩ dX8_doCommand_103
set_option maxHeartbeats 4000000 in
set_option maxRecDepth 100000 in
theorem c_docm_l0 (l : Launch) (X : Cx) (w : Wo) (y : Nat) (su : Int) (ac am : Int → Int) (σ : Int → Int) (nx sz : Int) (pas : Int → Int → Int) (st cm acx dp pr : Int) (kd ar tl op ah : Int → Int) (hY : clO X w y su) (hac : w (y + 305) = some (aZ X 9 ac)) (ham : w (y + 306) = some (aZ X 7 am)) (hL : loomAt X w (y + 1) σ) (hH : hisAt X w (y + 53) nx sz pas) (hSO : scO X w y st cm acx dp pr kd ar tl op ah) (hpr : 0 ≤ pr ∧ pr < 60) (hk : kd pr = 4) : CM l X yX8_doCommand cX8_doCommand 2 (some (.int)) (rmk 6 153) [.ref y] w (some (.int (iI (misSeen (up σ 3 (σ 4)) - misSeen σ)))) (fun w' => w' (y + 305) = some (aZ X 9 (up ac 0 (ac 0 + 1))) ∧ hisAt X w' (y + 53) ((if nx = 8 then 0 else nx) + 1) (min 8 (sz + 1)) (keepP sz pas σ) ∧ loomAt X w' (y + 1) (up σ 3 (σ 4)) ∧ ∀ q : Nat, q ≠ y + 305 → (q < y + 1 ∨ y + 26 ≤ q) → (q < y + 53 ∨ y + 255 ≤ q) → w' q = w q) := by
  refine CM.of (lv := [(0, .ref y)]) (by decide) (Nat.le_of_ble_eq_true rfl) rfl (fun p e s m below meth c ls F hr hlk hin hW hS hl => ?_)
  have hZ0 := hW.2.2
  have hB9 := hW.1.2
  clear hin
  unfold clO at hY
  have hO := hL.1.o
  have hA := hL.1
  have hwf := hL.2.2
  have hF := hwf.1
  unfold WF0 at hF
  obtain ⟨hSc, hkd, har, -, -, -⟩ := hSO
  refine lv_aload_n F.1 F.2.1 dX8_doCommand_0 rfl (lv_at hl 0 rfl) ?_
  refine gf_RX8_77 F hW hY rfl dX8_doCommand_1 ?_
  refine h_iconst F dX8_doCommand_4 ?_
  refine cl_RX8_460 (As := [.int (iI 0)]) (rest := []) F hl (c_X7_argument l X w y st cm acx dp pr ar 0 hSc har (by omega)) hW hS hSc rfl rfl ⟨Nat.le_of_ble_eq_true rfl, Nat.le_of_ble_eq_true rfl⟩ (Nat.le_of_ble_eq_true rfl) ⟨Nat.zero_le _, Nat.zero_le _⟩ dX8_doCommand_5 (fun w1 H locs hp1 hW hS => ?_)
  rw [hp1] at hW; clear hp1; clear w1
  refine lv_istore_n (lv' := [(1, .int (iI (ar (3 * pr + 0)))), (0, .ref y)]) F.1 F.2.1 dX8_doCommand_8 rfl hl (by decide) rfl (fun ls hl => ?_)
  refine lv_aload_n F.1 F.2.1 dX8_doCommand_9 rfl (lv_at hl 1 rfl) ?_
  refine gf_RX8_77 F hW hY rfl dX8_doCommand_10 ?_
  refine cl_RX8_463 (As := []) (rest := []) F hl (c_X7_kind l X w y st cm acx dp pr kd hSc hkd (by omega)) hW hS hSc rfl rfl ⟨Nat.le_of_ble_eq_true rfl, Nat.le_of_ble_eq_true rfl⟩ (Nat.le_of_ble_eq_true rfl) ⟨Nat.zero_le _, Nat.zero_le _⟩ dX8_doCommand_13 (fun w1 H locs hp2 hW hS => ?_)
  rw [hp2] at hW; clear hp2; clear w1
  rcases (show (kd pr < 0 ∨ 3 < kd pr) by omega) with c3
  · refine lv_tableOut (tgt := 104) F.1 F.2.1 dX8_doCommand_16 (by rw [iI_toInt (by omega)]; exact c3) (by decide) ?_
    refine lv_aload_n F.1 F.2.1 dX8_doCommand_104 rfl (lv_at hl 1 rfl) ?_
    have hY9 : clO X w y su := hY
    refine cl_RX8_362 (As := []) (rest := []) F hl (c_X8_doLook l X w y su ac σ nx sz pas hY9 hac hL hH) hW hS hY rfl rfl ⟨Nat.le_of_ble_eq_true rfl, Nat.le_of_ble_eq_true rfl⟩ (Nat.le_of_ble_eq_true rfl) ⟨Nat.zero_le _, Nat.zero_le _⟩ dX8_doCommand_105 (fun w4 H locs hp5 hW hS => ?_)
    obtain ⟨ha6, hM1, hM2, hn7⟩ := hp5
    have hY := (hn7 _ (by omega) (by omega) (by omega)).trans hY
    have hSc := (hn7 _ (by omega) (by omega) (by omega)).trans hSc
    have ham := (hn7 _ (by omega) (by omega) (by omega)).trans ham
    have hkd := (hn7 _ (by omega) (by omega) (by omega)).trans hkd
    have har := (hn7 _ (by omega) (by omega) (by omega)).trans har
    exact h_ireti F hr hlk hW hS ⟨ha6, hM1, hM2, (fun q h09 h19 h29 => by rw [hn7 q (by omega) (by omega) (by omega)])⟩ dX8_doCommand_108
