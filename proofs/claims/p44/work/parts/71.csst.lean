theorem sto_loom {X : Cx} {w w2 : Wo} {a : Nat} {σ t : Int → Int} {c x : Int} (h : loomAt X w a σ) (hc : 0 ≤ c ∧ c < 7) (hx : 0 ≤ x ∧ x ≤ 9999) (hte : ∀ c, 0 ≤ c → c < 7 → t c = σ (6 + c)) (ht : w2 (a + 5) = some (aZ X 7 (up t c x))) (hf : ∀ q : Nat, q ≠ a + 5 → w2 q = w q) : loomAt X w2 a (up σ (6 + c) x) := by
  have hA := h.1
  obtain ⟨gr, h2, h3⟩ := hA.2.1
  obtain ⟨gp, h4⟩ := hA.2.2.1
  have hu : ∀ p, p ≠ 6 + c → up σ (6 + c) x p = σ p := fun p hp => up_n hp
  have h8 := h.2.2.cap8
  have h81 := h8.1
  have w0 := h.2.2.1
  unfold WF0 at w0
  have hW : WF (up σ (6 + c) x) := by
    refine h.2.2.up (fun p p0 p1 p2 => hu p (by omega)) (by rw [hu 2 (by omega)]; omega) (by rw [hu 3 (by omega)]; omega) (by rw [hu 4 (by omega)]; omega) (fun k k0 k1 => ?_) (fun z r c0 c1 r0 r1 => ?_) (fun z r c0 c1 r0 r1 => ?_)
    · by_cases g : k = c
      · rw [g, up_s]; exact hx
      · rw [hu _ (by omega)]; exact h.2.2.2.1 k k0 k1
    · have e : cellS (up σ (6 + c) x) z r = cellS σ z r := hu _ (by omega)
      rw [e]; exact h.2.2.2.2.2.1 z r c0 c1 r0 r1
    · have e : cellS (up σ (6 + c) x) z r = cellS σ z r := hu _ (by omega)
      rw [hu 4 (by omega)] at r1
      rw [e]; exact h.2.2.2.2.2.2.1 z r c0 c1 r0 r1
  refine ⟨hA.up h8 ?_ ⟨gr, h2.mv (hf _ (by omega)) (hf _ (by omega)), fun i r c1 c2 c3 c4 => ?_⟩ ⟨gp, h4.mv (hf _ (by omega)) (hf _ (by omega))⟩ ⟨_, ht, fun k k0 k1 => ?_⟩ (fun q q0 q1 => hf q (by omega)) (fun k k0 k1 => ?_), h.2.1.up h8 (fun p p0 p1 p2 => hu p (by omega)) (hf _ (by omega)) (hf _ (by omega)), hW⟩
  · rw [hf a (by omega), hA.1]
    unfold lmF
    rw [hu 5 (by omega), hu 0 (by omega), hu 1 (by omega), hu 4 (by omega), hu 3 (by omega), hu 2 (by omega)]
  · rw [hu 0 (by omega)] at c2
    rw [hu 1 (by omega)] at c4
    exact (h3 i r c1 c2 c3 c4).trans (hu _ (by omega)).symm
  · by_cases g : k = c
    · rw [g, up_s, up_s]
    · rw [up_n g, hte k k0 k1, hu _ (by omega)]
  · rw [hu 5 (by omega)] at k1
    exact ⟨k1, fun j j0 j1 => hu _ (by omega)⟩
set_option maxHeartbeats 4000000 in
set_option maxRecDepth 100000 in
theorem c_X8_setStock (l : Launch) (X : Cx) (w : Wo) (y : Nat) (su : Int) (ac : Int → Int) (σ : Int → Int) (nx sz : Int) (pas : Int → Int → Int) (k x : Int) (hY : clO X w y su) (hac : w (y + 305) = some (aZ X 9 ac)) (hL : loomAt X w (y + 1) σ) (hH : hisAt X w (y + 53) nx sz pas) (hk : 0 ≤ k ∧ k < 7) (hx : 0 ≤ x ∧ x ≤ 9999) : CM l X yX8_setStock cX8_setStock 4 (some (.int)) (rmk 5 128) [.ref y, .int (iI k), .int (iI x)] w (some (.int (iI (σ (6 + k))))) (fun w' => w' (y + 305) = some (aZ X 9 (up ac 0 (ac 0 + 1))) ∧ hisAt X w' (y + 53) ((if nx = 8 then 0 else nx) + 1) (min 8 (sz + 1)) (keepP sz pas σ) ∧ loomAt X w' (y + 1) (up σ (6 + k) x) ∧ ∀ q : Nat, q ≠ y + 305 → q ≠ y + 1 + 5 → (q < y + 53 ∨ y + 255 ≤ q) → w' q = w q) := by
  refine CM.of (lv := [(0, .ref y), (1, .int (iI k)), (2, .int (iI x))]) (by decide) (Nat.le_of_ble_eq_true rfl) rfl (fun p e s m below meth c ls F hr hlk hin hW hS hl => ?_)
  have hZ0 := hW.2.2
  have hB9 := hW.1.2
  clear hin
  unfold clO at hY
  have hO := hL.1.o
  have hA := hL.1
  have hwf := hL.2.2
  have hF := hwf.1
  unfold WF0 at hF
  obtain ⟨t, htt, hte⟩ := hL.1.2.2.2.1
  refine lv_aload_n F.1 F.2.1 dX8_setStock_0 rfl (lv_at hl 0 rfl) ?_
  refine lv_iload_n F.1 F.2.1 dX8_setStock_1 rfl (lv_at hl 1 rfl) ?_
  refine cl_RX8_245 (As := [.int (iI k)]) (rest := []) F hl (c_X8_checkColour l X w y su σ k hY hL (by omega)) hW hS hY rfl rfl ⟨Nat.le_of_ble_eq_true rfl, Nat.le_of_ble_eq_true rfl⟩ (Nat.le_of_ble_eq_true rfl) ⟨Nat.zero_le _, Nat.zero_le _⟩ dX8_setStock_2 (fun w1 H locs hp1 hW hS => ?_)
  rw [hp1] at hW; clear hp1; clear w1
  refine lv_iload_n F.1 F.2.1 dX8_setStock_5 rfl (lv_at hl 2 rfl) ?_
  refine h_iflt (tgt := 16) F dX8_setStock_6 (by decide) (by omega) (fun c2 => ?_) (fun c2 => ?_)
  · exfalso; omega
  · refine lv_iload_n F.1 F.2.1 dX8_setStock_9 rfl (lv_at hl 2 rfl) ?_
    refine h_sipush F dX8_setStock_10 rfl ?_
    refine h_icle (tgt := 27) F dX8_setStock_13 (by decide) (by omega) (fun c3 => ?_) (fun c3 => ?_)
    · refine lv_aload_n F.1 F.2.1 dX8_setStock_27 rfl (lv_at hl 0 rfl) ?_
      refine gf_RX8_10 F hW hY rfl dX8_setStock_28 ?_
      refine lv_iload_n F.1 F.2.1 dX8_setStock_31 rfl (lv_at hl 1 rfl) ?_
      refine cl_RX8_248 (As := [.int (iI k)]) (rest := []) F hl (c_stock0 l X w (y + 1) (σ 5) (σ 0) (σ 1) (σ 4) (σ 3) (σ 2) t k hO htt (by omega)) hW hS hO rfl rfl ⟨Nat.le_of_ble_eq_true rfl, Nat.le_of_ble_eq_true rfl⟩ (Nat.le_of_ble_eq_true rfl) ⟨Nat.zero_le _, Nat.zero_le _⟩ dX8_setStock_32 (fun w1 H locs hp4 hW hS => ?_)
      rw [hp4] at hW; clear hp4; clear w1
      refine h_top (show (t k : Int) = σ (6 + k) from hte k (by omega) (by omega)) ?_
      refine lv_istore_n (lv' := [(3, .int (iI (σ (6 + k)))), (0, .ref y), (1, .int (iI k)), (2, .int (iI x))]) F.1 F.2.1 dX8_setStock_35 rfl hl (by decide) rfl (fun ls hl => ?_)
      refine lv_aload_n F.1 F.2.1 dX8_setStock_36 rfl (lv_at hl 1 rfl) ?_
      refine cl_RX8_380 (As := []) (rest := []) F hl (c_X8_beginAct l X w y su ac σ nx sz pas hY hac hL hH) hW hS hY rfl rfl ⟨Nat.le_of_ble_eq_true rfl, Nat.le_of_ble_eq_true rfl⟩ (Nat.le_of_ble_eq_true rfl) ⟨Nat.zero_le _, Nat.zero_le _⟩ dX8_setStock_37 (fun w5 H locs hp6 hW hS => ?_)
      obtain ⟨ha7, hm9, hn8⟩ := hp6
      have hY := (hn8 _ (by omega) (by omega)).trans hY
      have hO := (hn8 _ (by omega) (by omega)).trans hO
      have htt := (hn8 _ (by omega) (by omega)).trans htt
      refine lv_aload_n F.1 F.2.1 dX8_setStock_40 rfl (lv_at hl 1 rfl) ?_
      refine gf_RX8_10 F hW hY rfl dX8_setStock_41 ?_
      refine gf_RX8_394 F hW hO rfl dX8_setStock_44 ?_
      refine lv_iload_n F.1 F.2.1 dX8_setStock_47 rfl (lv_at hl 2 rfl) ?_
      refine lv_iload_n F.1 F.2.1 dX8_setStock_48 rfl (lv_at hl 3 rfl) ?_
      refine cl_RX8_397 (As := [.ref (y + 1 + 5), .int (iI k), .int (iI x)]) (rest := []) F hl (c_X8_put l X w5 (y + 1 + 5) 7 t k x htt (by omega) (by omega)) hW hS rfl rfl ⟨Nat.le_of_ble_eq_true rfl, Nat.le_of_ble_eq_true rfl⟩ (Nat.le_of_ble_eq_true rfl) ⟨Nat.zero_le _, Nat.zero_le _⟩ dX8_setStock_49 (fun w9 H locs hp10 hW hS => ?_)
      obtain ⟨ha11, hn12⟩ := hp10
      have hY := (hn12 _ (by omega)).trans hY
      have hO := (hn12 _ (by omega)).trans hO
      have ha7 := (hn12 _ (by omega)).trans ha7
      refine lv_iload_n F.1 F.2.1 dX8_setStock_52 rfl (lv_at hl 0 rfl) ?_
      exact h_ireti F hr hlk hW hS ⟨ha7, hm9.mv (fun q h1 h2 => hn12 q (by omega)), sto_loom (hL.mv (fun q h1 h2 => hn8 q (by omega) (by omega))) (by omega) (by omega) hte ha11 (fun q h1 => hn12 q (by omega)), (fun q h09 h19 h29 => by rw [hn12 q (by omega), hn8 q (by omega) (by omega)])⟩ dX8_setStock_53
    · exfalso; omega
