/-! ===== the history: a ring of eight looms ===== -/
def hisAt (X : Cx) (w : Wo) (y : Nat) (nx sz : Int) (pas : Int → Int → Int) : Prop := w y = some (.inr (4, [.ref (y + 1), .int (iI nx), .int (iI sz)])) ∧ w (y + 1) = some (aR X 4 8 (fun i => if i < 8 then some (y + 2 + 25 * i) else none)) ∧ ((0 ≤ nx ∧ nx ≤ 8) ∧ (0 ≤ sz ∧ sz ≤ 8)) ∧ (∀ i : Nat, i < 8 → ∃ τ, lmA X w (y + 2 + 25 * i) τ ∧ cap8 τ) ∧ (∀ i : Int, 0 ≤ i → i < sz → loomAt X w (y + 2 + 25 * ((nx - sz + i) % 8).toNat) (pas i))
def keepP (sz : Int) (pas : Int → Int → Int) (σ : Int → Int) : Int → Int → Int := fun i => if sz = 8 then (if i < 7 then pas (i + 1) else σ) else (if i < sz then pas i else σ)
theorem hisAt.mv {X : Cx} {w w2 : Wo} {y : Nat} {nx sz : Int} {pas : Int → Int → Int} (h : hisAt X w y nx sz pas) (hf : ∀ q : Nat, y ≤ q → q < y + 202 → w2 q = w q) : hisAt X w2 y nx sz pas := by
  obtain ⟨h1, h2, h3, h4, h5⟩ := h
  refine ⟨(hf _ (by omega) (by omega)).trans h1, (hf _ (by omega) (by omega)).trans h2, h3, fun i hi => ?_, fun i i0 i1 => ?_⟩
  · obtain ⟨τ, e1, e2⟩ := h4 i hi
    exact ⟨τ, e1.mv e2 (fun q q0 q1 => hf q (by omega) (by omega)), e2⟩
  · exact (h5 i i0 i1).mv (fun q q0 q1 => hf q (by omega) (by omega))
theorem his_keep {X : Cx} {w w2 : Wo} {y : Nat} {nx sz n0 : Int} {pas : Int → Int → Int} {σ : Int → Int} (h : hisAt X w y nx sz pas) (hn : n0 = if nx = 8 then 0 else nx) (ho : w2 y = some (.inr (4, [.ref (y + 1), .int (iI (n0 + 1)), .int (iI (min 8 (sz + 1)))]))) (hl : loomAt X w2 (y + 2 + 25 * n0.toNat) σ) (hf : ∀ q : Nat, q ≠ y → (q < y + 2 + 25 * n0.toNat ∨ y + 2 + 25 * n0.toNat + 25 ≤ q) → w2 q = w q) : hisAt X w2 y ((if nx = 8 then 0 else nx) + 1) (min 8 (sz + 1)) (keepP sz pas σ) := by
  obtain ⟨h1, h2, ⟨⟨h3, h3b⟩, h3c, h3d⟩, h4, h5⟩ := h
  rw [← hn]
  have hn8 : 0 ≤ n0 ∧ n0 ≤ 7 := by rw [hn]; split <;> omega
  have hnm : n0 = nx % 8 := by rw [hn]; split <;> omega
  refine ⟨ho, (hf _ (by omega) (by omega)).trans h2, by omega, fun i hi => ?_, fun i i0 i1 => ?_⟩
  · by_cases g : (i : Int) = n0
    · rw [show n0.toNat = i by omega] at hl
      exact ⟨σ, hl.1, hl.2.2.cap8⟩
    · obtain ⟨τ, e1, e2⟩ := h4 i hi
      exact ⟨τ, e1.mv e2 (fun q q0 q1 => hf q (by omega) (by omega)), e2⟩
  · unfold keepP
    by_cases g8 : sz = 8
    · rw [if_pos g8]
      by_cases g : i < 7
      · rw [if_pos g]
        have e := h5 (i + 1) (by omega) (by omega)
        rw [show (nx - sz + (i + 1)) % 8 = (n0 + 1 - min 8 (sz + 1) + i) % 8 by omega] at e
        exact e.mv (fun q q0 q1 => hf q (by omega) (by omega))
      · rw [if_neg g, show (n0 + 1 - min 8 (sz + 1) + i) % 8 = n0 by omega]
        exact hl
    · rw [if_neg g8]
      by_cases g : i < sz
      · rw [if_pos g]
        have e := h5 i (by omega) (by omega)
        rw [show (nx - sz + i) % 8 = (n0 + 1 - min 8 (sz + 1) + i) % 8 by omega] at e
        exact e.mv (fun q q0 q1 => hf q (by omega) (by omega))
      · rw [if_neg g, show (n0 + 1 - min 8 (sz + 1) + i) % 8 = n0 by omega]
        exact hl
theorem his_pop {X : Cx} {w w2 : Wo} {y : Nat} {nx sz : Int} {pas : Int → Int → Int} (h : hisAt X w y nx sz pas) (hs : 0 < sz) (ho : w2 y = some (.inr (4, [.ref (y + 1), .int (iI ((nx - 1) % 8)), .int (iI (sz - 1))]))) (hf : ∀ q : Nat, q ≠ y → w2 q = w q) : hisAt X w2 y ((nx - 1) % 8) (sz - 1) pas ∧ loomAt X w2 (y + 2 + 25 * ((nx - 1) % 8).toNat) (pas (sz - 1)) := by
  obtain ⟨h1, h2, ⟨⟨h3, h3b⟩, h3c, h3d⟩, h4, h5⟩ := h
  refine ⟨⟨ho, (hf _ (by omega)).trans h2, by omega, fun i hi => ?_, fun i i0 i1 => ?_⟩, ?_⟩
  · obtain ⟨τ, e1, e2⟩ := h4 i hi
    exact ⟨τ, e1.mv e2 (fun q q0 q1 => hf q (by omega)), e2⟩
  · have e := h5 i i0 (by omega)
    rw [show (nx - sz + i) % 8 = ((nx - 1) % 8 - (sz - 1) + i) % 8 by omega] at e
    exact e.mv (fun q q0 q1 => hf q (by omega))
  · have e := h5 (sz - 1) (by omega) (by omega)
    rw [show (nx - sz + (sz - 1)) % 8 = (nx - 1) % 8 by omega] at e
    exact e.mv (fun q q0 q1 => hf q (by omega))
theorem his_clear {X : Cx} {w w2 : Wo} {y : Nat} {nx sz : Int} {pas pas2 : Int → Int → Int} (h : hisAt X w y nx sz pas) (ho : w2 y = some (.inr (4, [.ref (y + 1), .int (iI nx), .int (iI 0)]))) (hf : ∀ q : Nat, q ≠ y → w2 q = w q) : hisAt X w2 y nx 0 pas2 := by
  obtain ⟨h1, h2, ⟨⟨h3, h3b⟩, h3c, h3d⟩, h4, h5⟩ := h
  refine ⟨ho, (hf _ (by omega)).trans h2, by omega, fun i hi => ?_, fun i i0 i1 => absurd i1 (by omega)⟩
  obtain ⟨τ, e1, e2⟩ := h4 i hi
  exact ⟨τ, e1.mv e2 (fun q q0 q1 => hf q (by omega)), e2⟩
set_option maxHeartbeats 4000000 in
set_option maxRecDepth 100000 in
theorem c_X4_clear (l : Launch) (X : Cx) (w : Wo) (y : Nat) (nx sz : Int) (pas : Int → Int → Int) (pas2 : Int → Int → Int) (hH : hisAt X w y nx sz pas) : CM l X yX4_clear cX4_clear 1 none (rmk 0 0) [.ref y] w none (fun w' => hisAt X w' y nx 0 pas2 ∧ ∀ q : Nat, q ≠ y → w' q = w q) := by
  refine CM.of (lv := [(0, .ref y)]) (by decide) (Nat.le_of_ble_eq_true rfl) rfl (fun p e s m below meth c ls F hr hlk hin hW hS hl => ?_)
  have hZ0 := hW.2.2
  have hB9 := hW.1.2
  clear hin
  have hHo := hH.1
  have hHl := hH.2.1
  have hHr := hH.2.2.1
  refine lv_aload_n F.1 F.2.1 dX4_clear_0 rfl (lv_at hl 0 rfl) ?_
  refine h_iconst F dX4_clear_1 ?_
  refine pf_RX4_18 F hW hS hHo (Nat.le_of_ble_eq_true rfl) dX4_clear_2 (fun w1 H locs ho3 hn2 hW hS => ?_)
  have ho3 : w1 y = some (.inr (4, [.ref (y + 1), .int (iI nx), .int (iI 0)])) := ho3
  have hHl := (hn2 _ (by omega)).trans hHl
  exact h_vret F hr hlk hW hS ⟨his_clear hH ho3 hn2, (fun q h09 => by rw [hn2 q (by omega)])⟩ dX4_clear_5
set_option maxHeartbeats 4000000 in
set_option maxRecDepth 100000 in
theorem c_X4_keep (l : Launch) (X : Cx) (w : Wo) (y : Nat) (nx sz : Int) (pas : Int → Int → Int) (b : Nat) (σ : Int → Int) (hH : hisAt X w y nx sz pas) (hB : loomAt X w b σ) (hne : b + 25 ≤ y ∨ y + 202 ≤ b) : CM l X yX4_keep cX4_keep 2 none (rmk 3 87) [.ref y, .ref b] w none (fun w' => hisAt X w' y ((if nx = 8 then 0 else nx) + 1) (min 8 (sz + 1)) (keepP sz pas σ) ∧ ∀ q : Nat, (q < y ∨ y + 202 ≤ q) → w' q = w q) := by
  refine CM.of (lv := [(0, .ref y), (1, .ref b)]) (by decide) (Nat.le_of_ble_eq_true rfl) rfl (fun p e s m below meth c ls F hr hlk hin hW hS hl => ?_)
  have hZ0 := hW.2.2
  have hB9 := hW.1.2
  clear hin
  have hHo := hH.1
  have hHl := hH.2.1
  have hHr := hH.2.2.1
  refine lv_aload_n F.1 F.2.1 dX4_keep_0 rfl (lv_at hl 0 rfl) ?_
  refine gf_RX4_22 F hW hHo rfl dX4_keep_1 ?_
  refine h_iflt (tgt := 19) F dX4_keep_4 (by decide) (by omega) (fun c1 => ?_) (fun c1 => ?_)
  · exfalso; omega
  · refine lv_aload_n F.1 F.2.1 dX4_keep_7 rfl (lv_at hl 0 rfl) ?_
    refine gf_RX4_22 F hW hHo rfl dX4_keep_8 ?_
    refine lv_aload_n F.1 F.2.1 dX4_keep_11 rfl (lv_at hl 0 rfl) ?_
    refine gf_RX4_11 F hW hHo rfl dX4_keep_12 ?_
    refine h_alen (k := 4) (n := 8) F hW rfl hHl dX4_keep_15 ?_
    refine h_iclt (tgt := 24) F dX4_keep_16 (by decide) (by omega) (fun c2 => ?_) (fun c2 => ?_)
    · refine lv_aload_n F.1 F.2.1 dX4_keep_24 rfl (lv_at hl 0 rfl) ?_
      refine gf_RX4_11 F hW hHo rfl dX4_keep_25 ?_
      refine lv_aload_n F.1 F.2.1 dX4_keep_28 rfl (lv_at hl 0 rfl) ?_
      refine gf_RX4_22 F hW hHo rfl dX4_keep_29 ?_
      refine h_aald (k := 4) F hW rfl hHl (by omega) (by omega) (if_pos (by omega)) dX4_keep_32 ?_
      refine lv_aload_n F.1 F.2.1 dX4_keep_33 rfl (lv_at hl 1 rfl) ?_
      obtain ⟨σ9, hA9, hc9⟩ := hH.2.2.2.1 nx.toNat (by omega)
      have hA9 := hA9.mv (w2 := w) hc9 (fun q h1 h2 => by first | rfl | rw [hHo])
      have hB9 := hB.mv (w2 := w) (fun q h1 h2 => by first | rfl | rw [hHo])
      refine cl_RX4_25 (As := [.ref b]) (rest := []) F hl (c_X5_copyFrom l X w (y + 2 + 25 * nx.toNat) σ9 σ b hA9 hB9 (by omega)) hW hS hA9.o rfl rfl ⟨Nat.le_of_ble_eq_true rfl, Nat.le_of_ble_eq_true rfl⟩ (Nat.le_of_ble_eq_true rfl) ⟨Nat.zero_le _, Nat.zero_le _⟩ dX4_keep_34 (fun w3 H locs hp4 hW hS => ?_)
      obtain ⟨hm9, hn5⟩ := hp4
      have hHo := (hn5 _ (by omega)).trans hHo
      have hHl := (hn5 _ (by omega)).trans hHl
      refine lv_aload_n F.1 F.2.1 dX4_keep_37 rfl (lv_at hl 0 rfl) ?_
      refine lv_dup F.1 F.2.1 dX4_keep_38 rfl ?_
      refine gf_RX4_22 F hW hHo rfl dX4_keep_39 ?_
      refine h_iconst F dX4_keep_42 ?_
      refine h_iadd (a := nx) (b := 1) F dX4_keep_43 ?_
      refine pf_RX4_22 F hW hS hHo (Nat.le_of_ble_eq_true rfl) dX4_keep_44 (fun w6 H locs ho8 hn7 hW hS => ?_)
      have ho8 : w6 y = some (.inr (4, [.ref (y + 1), .int (iI (nx + 1)), .int (iI sz)])) := ho8
      have hHl := (hn7 _ (by omega)).trans hHl
      refine lv_aload_n F.1 F.2.1 dX4_keep_47 rfl (lv_at hl 0 rfl) ?_
      refine h_bipush F dX4_keep_48 rfl ?_
      refine lv_aload_n F.1 F.2.1 dX4_keep_50 rfl (lv_at hl 0 rfl) ?_
      refine gf_RX4_18 F hW ho8 rfl dX4_keep_51 ?_
      refine h_iconst F dX4_keep_54 ?_
      refine h_iadd (a := sz) (b := 1) F dX4_keep_55 ?_
      refine h_mmin (index := 29) (a := 8) (b := sz + 1) F hl km_RX4_29 (Nat.le_of_ble_eq_true rfl) (Nat.le_of_ble_eq_true rfl) (Nat.zero_le _) (Nat.zero_le _) (by omega) dX4_keep_56 ?_
      refine pf_RX4_18 F hW hS ho8 (Nat.le_of_ble_eq_true rfl) dX4_keep_59 (fun w9 H locs ho11 hn10 hW hS => ?_)
      have ho11 : w9 y = some (.inr (4, [.ref (y + 1), .int (iI (nx + 1)), .int (iI (min 8 (sz + 1)))])) := ho11
      have hHl := (hn10 _ (by omega)).trans hHl
      exact h_vret F hr hlk hW hS ⟨his_keep hH (n0 := nx) (by split <;> omega) ho11 (hm9.mv (fun q h1 h2 => (hn10 q (by omega)).trans (hn7 q (by omega)))) (fun q h1 h2 => by rw [hn10 q (by omega), hn7 q (by omega), hn5 q (by omega)]), (fun q h09 => by rw [hn10 q (by omega), hn7 q (by omega), hn5 q (by omega)])⟩ dX4_keep_62
    · refine lv_aload_n F.1 F.2.1 dX4_keep_19 rfl (lv_at hl 0 rfl) ?_
      refine h_iconst F dX4_keep_20 ?_
      refine pf_RX4_22 F hW hS hHo (Nat.le_of_ble_eq_true rfl) dX4_keep_21 (fun w12 H locs ho14 hn13 hW hS => ?_)
      have ho14 : w12 y = some (.inr (4, [.ref (y + 1), .int (iI 0), .int (iI sz)])) := ho14
      have hHl := (hn13 _ (by omega)).trans hHl
      refine lv_aload_n F.1 F.2.1 dX4_keep_24 rfl (lv_at hl 0 rfl) ?_
      refine gf_RX4_11 F hW ho14 rfl dX4_keep_25 ?_
      refine lv_aload_n F.1 F.2.1 dX4_keep_28 rfl (lv_at hl 0 rfl) ?_
      refine gf_RX4_22 F hW ho14 rfl dX4_keep_29 ?_
      refine h_aald (k := 4) F hW rfl hHl (by omega) (by omega) (if_pos (by omega)) dX4_keep_32 ?_
      refine lv_aload_n F.1 F.2.1 dX4_keep_33 rfl (lv_at hl 1 rfl) ?_
      obtain ⟨σ9, hA9, hc9⟩ := hH.2.2.2.1 (0 : Int).toNat (by omega)
      have hA9 := hA9.mv (w2 := w12) hc9 (fun q h1 h2 => by first | rfl | rw [hn13 q (by omega)])
      have hB9 := hB.mv (w2 := w12) (fun q h1 h2 => by first | rfl | rw [hn13 q (by omega)])
      refine cl_RX4_25 (As := [.ref b]) (rest := []) F hl (c_X5_copyFrom l X w12 (y + 2 + 25 * (0 : Int).toNat) σ9 σ b hA9 hB9 (by omega)) hW hS hA9.o rfl rfl ⟨Nat.le_of_ble_eq_true rfl, Nat.le_of_ble_eq_true rfl⟩ (Nat.le_of_ble_eq_true rfl) ⟨Nat.zero_le _, Nat.zero_le _⟩ dX4_keep_34 (fun w15 H locs hp16 hW hS => ?_)
      obtain ⟨hm9, hn17⟩ := hp16
      have ho14 := (hn17 _ (by omega)).trans ho14
      have hHl := (hn17 _ (by omega)).trans hHl
      refine lv_aload_n F.1 F.2.1 dX4_keep_37 rfl (lv_at hl 0 rfl) ?_
      refine lv_dup F.1 F.2.1 dX4_keep_38 rfl ?_
      refine gf_RX4_22 F hW ho14 rfl dX4_keep_39 ?_
      refine h_iconst F dX4_keep_42 ?_
      refine h_iadd (a := 0) (b := 1) F dX4_keep_43 ?_
      refine pf_RX4_22 F hW hS ho14 (Nat.le_of_ble_eq_true rfl) dX4_keep_44 (fun w18 H locs ho20 hn19 hW hS => ?_)
      have ho20 : w18 y = some (.inr (4, [.ref (y + 1), .int (iI (0 + 1)), .int (iI sz)])) := ho20
      have hHl := (hn19 _ (by omega)).trans hHl
      refine lv_aload_n F.1 F.2.1 dX4_keep_47 rfl (lv_at hl 0 rfl) ?_
      refine h_bipush F dX4_keep_48 rfl ?_
      refine lv_aload_n F.1 F.2.1 dX4_keep_50 rfl (lv_at hl 0 rfl) ?_
      refine gf_RX4_18 F hW ho20 rfl dX4_keep_51 ?_
      refine h_iconst F dX4_keep_54 ?_
      refine h_iadd (a := sz) (b := 1) F dX4_keep_55 ?_
      refine h_mmin (index := 29) (a := 8) (b := sz + 1) F hl km_RX4_29 (Nat.le_of_ble_eq_true rfl) (Nat.le_of_ble_eq_true rfl) (Nat.zero_le _) (Nat.zero_le _) (by omega) dX4_keep_56 ?_
      refine pf_RX4_18 F hW hS ho20 (Nat.le_of_ble_eq_true rfl) dX4_keep_59 (fun w21 H locs ho23 hn22 hW hS => ?_)
      have ho23 : w21 y = some (.inr (4, [.ref (y + 1), .int (iI (0 + 1)), .int (iI (min 8 (sz + 1)))])) := ho23
      have hHl := (hn22 _ (by omega)).trans hHl
      exact h_vret F hr hlk hW hS ⟨his_keep hH (n0 := 0) (by split <;> omega) ho23 (hm9.mv (fun q h1 h2 => (hn22 q (by omega)).trans (hn19 q (by omega)))) (fun q h1 h2 => by rw [hn22 q (by omega), hn19 q (by omega), hn17 q (by omega), hn13 q (by omega)]), (fun q h09 => by rw [hn22 q (by omega), hn19 q (by omega), hn17 q (by omega), hn13 q (by omega)])⟩ dX4_keep_62
set_option maxHeartbeats 4000000 in
set_option maxRecDepth 100000 in
theorem c_X4_takeLatest (l : Launch) (X : Cx) (w : Wo) (y : Nat) (nx sz : Int) (pas : Int → Int → Int) (hH : hisAt X w y nx sz pas) (hs : 0 < sz) : CM l X yX4_takeLatest cX4_takeLatest 1 (some (.object "CaptionLoom$Loom")) (rmk 0 0) [.ref y] w (some (.ref (y + 2 + 25 * ((nx - 1) % 8).toNat))) (fun w' => hisAt X w' y ((nx - 1) % 8) (sz - 1) pas ∧ loomAt X w' (y + 2 + 25 * ((nx - 1) % 8).toNat) (pas (sz - 1)) ∧ ∀ q : Nat, q ≠ y → w' q = w q) := by
  refine CM.of (lv := [(0, .ref y)]) (by decide) (Nat.le_of_ble_eq_true rfl) rfl (fun p e s m below meth c ls F hr hlk hin hW hS hl => ?_)
  have hZ0 := hW.2.2
  have hB9 := hW.1.2
  clear hin
  have hHo := hH.1
  have hHl := hH.2.1
  have hHr := hH.2.2.1
  refine lv_aload_n F.1 F.2.1 dX4_takeLatest_0 rfl (lv_at hl 0 rfl) ?_
  refine lv_dup F.1 F.2.1 dX4_takeLatest_1 rfl ?_
  refine gf_RX4_22 F hW hHo rfl dX4_takeLatest_2 ?_
  refine h_iconst F dX4_takeLatest_5 ?_
  refine h_isub (a := nx) (b := 1) F dX4_takeLatest_6 ?_
  refine pf_RX4_22 F hW hS hHo (Nat.le_of_ble_eq_true rfl) dX4_takeLatest_7 (fun w1 H locs ho3 hn2 hW hS => ?_)
  have ho3 : w1 y = some (.inr (4, [.ref (y + 1), .int (iI (nx - 1)), .int (iI sz)])) := ho3
  have hHl := (hn2 _ (by omega)).trans hHl
  refine lv_aload_n F.1 F.2.1 dX4_takeLatest_10 rfl (lv_at hl 0 rfl) ?_
  refine gf_RX4_22 F hW ho3 rfl dX4_takeLatest_11 ?_
  refine h_iflt (tgt := 29) F dX4_takeLatest_14 (by decide) (by omega) (fun c4 => ?_) (fun c4 => ?_)
  · refine lv_aload_n F.1 F.2.1 dX4_takeLatest_29 rfl (lv_at hl 0 rfl) ?_
    refine lv_aload_n F.1 F.2.1 dX4_takeLatest_30 rfl (lv_at hl 0 rfl) ?_
    refine gf_RX4_11 F hW ho3 rfl dX4_takeLatest_31 ?_
    refine h_alen (k := 4) (n := 8) F hW rfl hHl dX4_takeLatest_34 ?_
    refine h_iconst F dX4_takeLatest_35 ?_
    refine h_isub (a := 8) (b := 1) F dX4_takeLatest_36 ?_
    refine pf_RX4_22 F hW hS ho3 (Nat.le_of_ble_eq_true rfl) dX4_takeLatest_37 (fun w5 H locs ho7 hn6 hW hS => ?_)
    have ho7 : w5 y = some (.inr (4, [.ref (y + 1), .int (iI (8 - 1)), .int (iI sz)])) := ho7
    have hHl := (hn6 _ (by omega)).trans hHl
    refine lv_aload_n F.1 F.2.1 dX4_takeLatest_40 rfl (lv_at hl 0 rfl) ?_
    refine lv_dup F.1 F.2.1 dX4_takeLatest_41 rfl ?_
    refine gf_RX4_18 F hW ho7 rfl dX4_takeLatest_42 ?_
    refine h_iconst F dX4_takeLatest_45 ?_
    refine h_isub (a := sz) (b := 1) F dX4_takeLatest_46 ?_
    refine pf_RX4_18 F hW hS ho7 (Nat.le_of_ble_eq_true rfl) dX4_takeLatest_47 (fun w8 H locs ho10 hn9 hW hS => ?_)
    have ho10 : w8 y = some (.inr (4, [.ref (y + 1), .int (iI (8 - 1)), .int (iI (sz - 1))])) := ho10
    have hHl := (hn9 _ (by omega)).trans hHl
    refine lv_aload_n F.1 F.2.1 dX4_takeLatest_50 rfl (lv_at hl 0 rfl) ?_
    refine gf_RX4_11 F hW ho10 rfl dX4_takeLatest_51 ?_
    refine lv_aload_n F.1 F.2.1 dX4_takeLatest_54 rfl (lv_at hl 0 rfl) ?_
    refine gf_RX4_22 F hW ho10 rfl dX4_takeLatest_55 ?_
    refine h_aald (k := 4) F hW rfl hHl (by omega) (by omega) (if_pos (by omega)) dX4_takeLatest_58 ?_
    have e9 : (8 - 1 : Int) = (nx - 1) % 8 := by omega
    have ho9 := ho10
    rw [e9] at ho9
    have hpop := his_pop (w2 := w8) hH (by omega) ho9 (fun q h1 => by rw [hn9 q (by omega), hn6 q (by omega), hn2 q (by omega)])
    refine h_topv (show (.ref (y + 2 + 25 * (8 - 1 : Int).toNat) : Value) = .ref (y + 2 + 25 * ((nx - 1) % 8).toNat) from congrArg (fun z : Int => Value.ref (y + 2 + 25 * z.toNat)) e9) ?_
    exact h_aret F hr hlk hW hS ⟨hpop.1, hpop.2, (fun q h09 => by rw [hn9 q (by omega), hn6 q (by omega), hn2 q (by omega)])⟩ dX4_takeLatest_59
  · refine lv_aload_n F.1 F.2.1 dX4_takeLatest_17 rfl (lv_at hl 0 rfl) ?_
    refine gf_RX4_22 F hW ho3 rfl dX4_takeLatest_18 ?_
    refine lv_aload_n F.1 F.2.1 dX4_takeLatest_21 rfl (lv_at hl 0 rfl) ?_
    refine gf_RX4_11 F hW ho3 rfl dX4_takeLatest_22 ?_
    refine h_alen (k := 4) (n := 8) F hW rfl hHl dX4_takeLatest_25 ?_
    refine h_iclt (tgt := 40) F dX4_takeLatest_26 (by decide) (by omega) (fun c11 => ?_) (fun c11 => ?_)
    · refine lv_aload_n F.1 F.2.1 dX4_takeLatest_40 rfl (lv_at hl 0 rfl) ?_
      refine lv_dup F.1 F.2.1 dX4_takeLatest_41 rfl ?_
      refine gf_RX4_18 F hW ho3 rfl dX4_takeLatest_42 ?_
      refine h_iconst F dX4_takeLatest_45 ?_
      refine h_isub (a := sz) (b := 1) F dX4_takeLatest_46 ?_
      refine pf_RX4_18 F hW hS ho3 (Nat.le_of_ble_eq_true rfl) dX4_takeLatest_47 (fun w12 H locs ho14 hn13 hW hS => ?_)
      have ho14 : w12 y = some (.inr (4, [.ref (y + 1), .int (iI (nx - 1)), .int (iI (sz - 1))])) := ho14
      have hHl := (hn13 _ (by omega)).trans hHl
      refine lv_aload_n F.1 F.2.1 dX4_takeLatest_50 rfl (lv_at hl 0 rfl) ?_
      refine gf_RX4_11 F hW ho14 rfl dX4_takeLatest_51 ?_
      refine lv_aload_n F.1 F.2.1 dX4_takeLatest_54 rfl (lv_at hl 0 rfl) ?_
      refine gf_RX4_22 F hW ho14 rfl dX4_takeLatest_55 ?_
      refine h_aald (k := 4) F hW rfl hHl (by omega) (by omega) (if_pos (by omega)) dX4_takeLatest_58 ?_
      have e9 : (nx - 1 : Int) = (nx - 1) % 8 := by omega
      have ho9 := ho14
      rw [e9] at ho9
      have hpop := his_pop (w2 := w12) hH (by omega) ho9 (fun q h1 => by rw [hn13 q (by omega), hn2 q (by omega)])
      refine h_topv (show (.ref (y + 2 + 25 * (nx - 1).toNat) : Value) = .ref (y + 2 + 25 * ((nx - 1) % 8).toNat) from congrArg (fun z : Int => Value.ref (y + 2 + 25 * z.toNat)) e9) ?_
      exact h_aret F hr hlk hW hS ⟨hpop.1, hpop.2, (fun q h09 => by rw [hn13 q (by omega), hn2 q (by omega)])⟩ dX4_takeLatest_59
    · refine lv_aload_n F.1 F.2.1 dX4_takeLatest_29 rfl (lv_at hl 0 rfl) ?_
      refine lv_aload_n F.1 F.2.1 dX4_takeLatest_30 rfl (lv_at hl 0 rfl) ?_
      refine gf_RX4_11 F hW ho3 rfl dX4_takeLatest_31 ?_
      refine h_alen (k := 4) (n := 8) F hW rfl hHl dX4_takeLatest_34 ?_
      refine h_iconst F dX4_takeLatest_35 ?_
      refine h_isub (a := 8) (b := 1) F dX4_takeLatest_36 ?_
      refine pf_RX4_22 F hW hS ho3 (Nat.le_of_ble_eq_true rfl) dX4_takeLatest_37 (fun w15 H locs ho17 hn16 hW hS => ?_)
      have ho17 : w15 y = some (.inr (4, [.ref (y + 1), .int (iI (8 - 1)), .int (iI sz)])) := ho17
      have hHl := (hn16 _ (by omega)).trans hHl
      refine lv_aload_n F.1 F.2.1 dX4_takeLatest_40 rfl (lv_at hl 0 rfl) ?_
      refine lv_dup F.1 F.2.1 dX4_takeLatest_41 rfl ?_
      refine gf_RX4_18 F hW ho17 rfl dX4_takeLatest_42 ?_
      refine h_iconst F dX4_takeLatest_45 ?_
      refine h_isub (a := sz) (b := 1) F dX4_takeLatest_46 ?_
      refine pf_RX4_18 F hW hS ho17 (Nat.le_of_ble_eq_true rfl) dX4_takeLatest_47 (fun w18 H locs ho20 hn19 hW hS => ?_)
      have ho20 : w18 y = some (.inr (4, [.ref (y + 1), .int (iI (8 - 1)), .int (iI (sz - 1))])) := ho20
      have hHl := (hn19 _ (by omega)).trans hHl
      refine lv_aload_n F.1 F.2.1 dX4_takeLatest_50 rfl (lv_at hl 0 rfl) ?_
      refine gf_RX4_11 F hW ho20 rfl dX4_takeLatest_51 ?_
      refine lv_aload_n F.1 F.2.1 dX4_takeLatest_54 rfl (lv_at hl 0 rfl) ?_
      refine gf_RX4_22 F hW ho20 rfl dX4_takeLatest_55 ?_
      refine h_aald (k := 4) F hW rfl hHl (by omega) (by omega) (if_pos (by omega)) dX4_takeLatest_58 ?_
      have e9 : (8 - 1 : Int) = (nx - 1) % 8 := by omega
      have ho9 := ho20
      rw [e9] at ho9
      have hpop := his_pop (w2 := w18) hH (by omega) ho9 (fun q h1 => by rw [hn19 q (by omega), hn16 q (by omega), hn2 q (by omega)])
      refine h_topv (show (.ref (y + 2 + 25 * (8 - 1 : Int).toNat) : Value) = .ref (y + 2 + 25 * ((nx - 1) % 8).toNat) from congrArg (fun z : Int => Value.ref (y + 2 + 25 * z.toNat)) e9) ?_
      exact h_aret F hr hlk hW hS ⟨hpop.1, hpop.2, (fun q h09 => by rw [hn19 q (by omega), hn16 q (by omega), hn2 q (by omega)])⟩ dX4_takeLatest_59
