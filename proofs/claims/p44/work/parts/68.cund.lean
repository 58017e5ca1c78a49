set_option maxHeartbeats 4000000 in
set_option maxRecDepth 100000 in
theorem c_undo_0 (l : Launch) (X : Cx) (w : Wo) (y : Nat) (su : Int) (σ : Int → Int) (nx sz : Int) (pas : Int → Int → Int) (hY : clO X w y su) (hL : loomAt X w (y + 1) σ) (hH : hisAt X w (y + 53) nx sz pas) (hs : sz = 0) : CM l X yX8_undo cX8_undo 1 (some (.int)) (rmk 3 87) [.ref y] w (some (.int (iI (-1)))) (fun w' => w' = w) := by
  refine CM.of (lv := [(0, .ref y)]) (by decide) (Nat.le_of_ble_eq_true rfl) rfl (fun p e s m below meth c ls F hr hlk hin hW hS hl => ?_)
  have hZ0 := hW.2.2
  have hB9 := hW.1.2
  clear hin
  unfold clO at hY
  have hO := hL.1.o
  have hA := hL.1
  have hwf := hL.2.2
  have hF := hwf.1
  unfold WF0 at hF
  have hHo := hH.1
  have hHr := hH.2.2.1
  refine lv_aload_n F.1 F.2.1 dX8_undo_0 rfl (lv_at hl 0 rfl) ?_
  refine gf_RX8_29 F hW hY rfl dX8_undo_1 ?_
  refine gf_RX8_163 F hW hHo rfl dX8_undo_4 ?_
  refine h_ifne (tgt := 12) F dX8_undo_7 (by decide) (by omega) (fun c1 => ?_) (fun c1 => ?_)
  · exfalso; omega
  · refine h_iconst F dX8_undo_10 ?_
    refine h_top (show ((-1) : Int) = -1 from by first | rfl | omega | (simp_all; done)) ?_
    exact h_ireti F hr hlk hW hS rfl dX8_undo_11
set_option maxHeartbeats 4000000 in
set_option maxRecDepth 100000 in
theorem c_X8_undo (l : Launch) (X : Cx) (w : Wo) (y : Nat) (su : Int) (σ : Int → Int) (nx sz : Int) (pas : Int → Int → Int) (hY : clO X w y su) (hL : loomAt X w (y + 1) σ) (hH : hisAt X w (y + 53) nx sz pas) (hs : 0 < sz) : CM l X yX8_undo cX8_undo 1 (some (.int)) (rmk 3 87) [.ref y] w (some (.int (iI (sz - 1)))) (fun w' => hisAt X w' (y + 53) ((nx - 1) % 8) (sz - 1) pas ∧ loomAt X w' (y + 1) (pas (sz - 1)) ∧ ∀ q : Nat, q ≠ y + 53 → (q < y + 1 ∨ y + 1 + 25 ≤ q) → w' q = w q) := by
  refine CM.of (lv := [(0, .ref y)]) (by decide) (Nat.le_of_ble_eq_true rfl) rfl (fun p e s m below meth c ls F hr hlk hin hW hS hl => ?_)
  have hZ0 := hW.2.2
  have hB9 := hW.1.2
  clear hin
  unfold clO at hY
  have hO := hL.1.o
  have hA := hL.1
  have hwf := hL.2.2
  have hF := hwf.1
  unfold WF0 at hF
  have hHo := hH.1
  have hHr := hH.2.2.1
  refine lv_aload_n F.1 F.2.1 dX8_undo_0 rfl (lv_at hl 0 rfl) ?_
  refine gf_RX8_29 F hW hY rfl dX8_undo_1 ?_
  refine gf_RX8_163 F hW hHo rfl dX8_undo_4 ?_
  refine h_ifne (tgt := 12) F dX8_undo_7 (by decide) (by omega) (fun c1 => ?_) (fun c1 => ?_)
  · refine lv_aload_n F.1 F.2.1 dX8_undo_12 rfl (lv_at hl 0 rfl) ?_
    refine gf_RX8_10 F hW hY rfl dX8_undo_13 ?_
    refine lv_aload_n F.1 F.2.1 dX8_undo_16 rfl (lv_at hl 0 rfl) ?_
    refine gf_RX8_29 F hW hY rfl dX8_undo_17 ?_
    refine cl_RX8_422 (As := []) (rest := [.ref (y + 1)]) F hl (c_X4_takeLatest l X w (y + 53) nx sz pas hH (by omega)) hW hS hHo rfl rfl ⟨Nat.le_of_ble_eq_true rfl, Nat.le_of_ble_eq_true rfl⟩ (Nat.le_of_ble_eq_true rfl) ⟨Nat.zero_le _, Nat.zero_le _⟩ dX8_undo_20 (fun w2 H locs hp3 hW hS => ?_)
    obtain ⟨hq1, hq2, hn4⟩ := hp3
    have hY := (hn4 _ (by omega)).trans hY
    have hO := (hn4 _ (by omega)).trans hO
    have hPo := hq1.1
    have hA2 := hL.1.mv (w2 := w2) hwf.cap8 (fun q h1 h2 => hn4 q (by omega))
    refine cl_RX8_111 (As := [.ref ((y + 53) + 2 + 25 * ((nx - 1) % 8).toNat)]) (rest := []) F hl (c_X5_copyFrom l X w2 (y + 1) σ (pas (sz - 1)) ((y + 53) + 2 + 25 * ((nx - 1) % 8).toNat) hA2 hq2 (by omega)) hW hS hO rfl rfl ⟨Nat.le_of_ble_eq_true rfl, Nat.le_of_ble_eq_true rfl⟩ (Nat.le_of_ble_eq_true rfl) ⟨Nat.zero_le _, Nat.zero_le _⟩ dX8_undo_23 (fun w5 H locs hp6 hW hS => ?_)
    obtain ⟨hcp, hn7⟩ := hp6
    have hY := (hn7 _ (by omega)).trans hY
    have hPo := (hn7 _ (by omega)).trans hPo
    refine lv_aload_n F.1 F.2.1 dX8_undo_26 rfl (lv_at hl 0 rfl) ?_
    refine gf_RX8_29 F hW hY rfl dX8_undo_27 ?_
    refine gf_RX8_163 F hW hPo rfl dX8_undo_30 ?_
    exact h_ireti F hr hlk hW hS ⟨hq1.mv (fun q h1 h2 => hn7 q (by omega)), hcp, (fun q h09 h19 => by rw [hn7 q (by omega), hn4 q (by omega)])⟩ dX8_undo_33
  · exfalso; omega
