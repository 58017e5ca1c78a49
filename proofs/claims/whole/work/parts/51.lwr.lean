/-! ===== the loom's cells in another world ===== -/
def cap8 (σ : Int → Int) : Prop := (0 ≤ σ 5 ∧ σ 5 ≤ 8) ∧ ∀ k, 0 ≤ k → k < σ 5 → cp σ k 0 ≤ 8
theorem WF.cap8 {σ : Int → Int} (h : WF σ) : cap8 σ := ⟨h.1.2.2.2.2.2, fun k h0 h1 => (h.2.2.1 k h0 h1).1.2⟩
def giveS (σ : Int → Int) (c r co : Int) : Int → Int := up (up σ (117 + 40 * r + c) co) (6 + co) (σ (6 + co) - 1)
theorem give_cell {σ : Int → Int} {cn rn co c r : Int} (h : 0 ≤ c ∧ c < 40 ∧ 0 ≤ r ∧ 0 ≤ cn ∧ cn < 40 ∧ 0 ≤ rn) (hco : 0 ≤ co ∧ co < 7) : cellS (giveS σ cn rn co) c r = if c = cn ∧ r = rn then co else cellS σ c r := by
  unfold cellS giveS up
  rw [if_neg (by omega)]
  by_cases g : c = cn ∧ r = rn
  · rw [if_pos g, if_pos (by rw [g.1, g.2])]
  · rw [if_neg g, if_neg (by omega)]
theorem give_lo {σ : Int → Int} {cn rn co p : Int} (h : p < 117) (h1 : 0 ≤ cn ∧ 0 ≤ rn) (hp : p ≠ 6 + co) : giveS σ cn rn co p = σ p := by
  unfold giveS up
  rw [if_neg hp, if_neg (by omega)]
theorem give_st {σ : Int → Int} {cn rn co : Int} : giveS σ cn rn co (6 + co) = σ (6 + co) - 1 := by
  unfold giveS up
  exact if_pos rfl
theorem gridAt.mv {X : Cx} {w w2 : Wo} {b : Nat} {gr : Int → Int → Int} (h : gridAt X w b gr) (h1 : w2 b = w b) (h2 : w2 (b + 1) = w (b + 1)) : gridAt X w2 b gr := by
  obtain ⟨e0, g, e1, e2⟩ := h
  exact ⟨h1.trans e0, g, h2.trans e1, e2⟩
theorem capV.mv {X : Cx} {w w2 : Wo} {q : Nat} {n sd x y co : Int} {f : Int → Int} (h : capV X w q n sd x y co f) (h1 : w2 q = w q) (h2 : w2 (q + 1) = w (q + 1)) : capV X w2 q n sd x y co f := ⟨h1.trans h.1, h2.trans h.2⟩
theorem capAt.mv {X : Cx} {w w2 : Wo} {q : Nat} {σ : Int → Int} {k : Int} (h : capAt X w q σ k) (h1 : w2 q = w q) (h2 : w2 (q + 1) = w (q + 1)) : capAt X w2 q σ k := by
  obtain ⟨f, e1, e2⟩ := h
  exact ⟨f, e1.mv h1 h2, e2⟩
theorem capAt.to {X : Cx} {w : Wo} {q : Nat} {σ τ : Int → Int} {k k2 : Int} (h : capAt X w q σ k) (h8 : cp σ k 0 ≤ 8) (hk : ∀ j, 0 ≤ j → j < 13 → cp τ k2 j = cp σ k j) : capAt X w q τ k2 := by
  obtain ⟨f, e1, e2⟩ := h
  refine ⟨f, ?_, fun j h1 h2 => ?_⟩
  · rw [hk 0 (by decide) (by decide), hk 1 (by decide) (by decide), hk 2 (by decide) (by decide), hk 3 (by decide) (by decide), hk 4 (by decide) (by decide)]
    exact e1
  · rw [hk 0 (by decide) (by decide)] at h2
    rw [hk (5 + j) (by omega) (by omega)]
    exact e2 j h1 h2
theorem lmA.up {X : Cx} {w w2 : Wo} {a : Nat} {σ τ : Int → Int} (h : lmA X w a σ) (h8 : cap8 σ) (ho : w2 a = some (.inr (5, lmF τ a))) (hg : ∃ gr, gridAt X w2 (a + 1) gr ∧ ∀ c r, 0 ≤ c → c < τ 0 → 0 ≤ r → r < τ 1 → gr c r = cellS τ c r) (hp : ∃ gr, gridAt X w2 (a + 3) gr) (ht : ∃ t, w2 (a + 5) = some (aZ X 7 t) ∧ ∀ c, 0 ≤ c → c < 7 → t c = τ (6 + c)) (hf : ∀ q : Nat, a + 6 ≤ q → q < a + 25 → w2 q = w q) (hc : ∀ k, 0 ≤ k → k < τ 5 → k < σ 5 ∧ ∀ j, 0 ≤ j → j < 13 → cp τ k j = cp σ k j) : lmA X w2 a τ := by
  obtain ⟨-, -, -, -, h7, h9, h10⟩ := h
  refine ⟨ho, hg, hp, ht, (hf _ (by omega) (by omega)).trans h7, fun i hi => ?_, fun k k0 k1 => ?_⟩
  · obtain ⟨n, sd, x, y, co, f, e⟩ := h9 i hi
    exact ⟨n, sd, x, y, co, f, e.mv (hf _ (by omega) (by omega)) (hf _ (by omega) (by omega))⟩
  · obtain ⟨k2, k3⟩ := hc k k0 k1
    have k4 := h8.1
    have k5 : k.toNat < 8 := by omega
    exact ((h10 k k0 k2).mv (hf _ (by omega) (by omega)) (hf _ (by omega) (by omega))).to (h8.2 k k0 k2) k3
theorem lmA.mv {X : Cx} {w w2 : Wo} {a : Nat} {σ : Int → Int} (h : lmA X w a σ) (h8 : cap8 σ) (hf : ∀ q : Nat, a ≤ q → q < a + 25 → w2 q = w q) : lmA X w2 a σ := by
  obtain ⟨gr, h2, h3⟩ := h.2.1
  obtain ⟨gp, h4⟩ := h.2.2.1
  obtain ⟨t, h5, h6⟩ := h.2.2.2.1
  exact h.up h8 ((hf a (by omega) (by omega)).trans h.1) ⟨gr, h2.mv (hf _ (by omega) (by omega)) (hf _ (by omega) (by omega)), h3⟩ ⟨gp, h4.mv (hf _ (by omega) (by omega)) (hf _ (by omega) (by omega))⟩ ⟨t, (hf _ (by omega) (by omega)).trans h5, h6⟩ (fun q h0 h1 => hf q (by omega) h1) (fun k _ k1 => ⟨k1, fun _ _ _ => rfl⟩)
set_option maxHeartbeats 4000000 in
set_option maxRecDepth 100000 in
theorem c_stock0 (l : Launch) (X : Cx) (w : Wo) (a : Nat) (x5 x6 x7 x8 x9 x10 : Int) (t : Int → Int) (co : Int) (hO : w a = some (.inr (5, [.ref (a + 1), .ref (a + 3), .ref (a + 5), .ref (a + 6), .ref (a + 7), .int (iI x5), .int (iI x6), .int (iI x7), .int (iI x8), .int (iI x9), .int (iI x10)]))) (ht : w (a + 5) = some (aZ X 7 t)) (hco : 0 ≤ co ∧ co < 7) : CM l X yX5_stockOf cX5_stockOf 2 (some (.int)) (rmk 1 21) [.ref a, .int (iI co)] w (some (.int (iI (t co)))) (fun w' => w' = w) := by
  refine CM.of (lv := [(0, .ref a), (1, .int (iI co))]) (by decide) (Nat.le_of_ble_eq_true rfl) rfl (fun p e s m below meth c ls F hr hlk hin hW hS hl => ?_)
  have hZ0 := hW.2.2
  have hB9 := hW.1.2
  clear hin
  refine lv_aload_n F.1 F.2.1 dX5_stockOf_0 rfl (lv_at hl 0 rfl) ?_
  refine gf_RX5_21 F hW hO rfl dX5_stockOf_1 ?_
  refine lv_iload_n F.1 F.2.1 dX5_stockOf_4 rfl (lv_at hl 1 rfl) ?_
  refine cl_RX5_89 (As := [.ref (a + 5), .int (iI co)]) (rest := []) F hl (c_X8_at l X w (a + 5) 7 t co ht (by omega) (by omega)) hW hS rfl rfl ⟨Nat.le_of_ble_eq_true rfl, Nat.le_of_ble_eq_true rfl⟩ (Nat.le_of_ble_eq_true rfl) ⟨Nat.zero_le _, Nat.zero_le _⟩ dX5_stockOf_5 (fun w1 H locs hp1 hW hS => ?_)
  rw [hp1] at hW; clear hp1; clear w1
  exact h_ireti F hr hlk hW hS rfl dX5_stockOf_8
set_option maxHeartbeats 4000000 in
set_option maxRecDepth 100000 in
theorem c_capAt0 (l : Launch) (X : Cx) (w : Wo) (a : Nat) (x5 x6 x7 x8 x9 x10 : Int) (i : Int) (hO : w a = some (.inr (5, [.ref (a + 1), .ref (a + 3), .ref (a + 5), .ref (a + 6), .ref (a + 7), .int (iI x5), .int (iI x6), .int (iI x7), .int (iI x8), .int (iI x9), .int (iI x10)]))) (hC : w (a + 6) = some (aR X 3 8 (fun i => if i < 8 then some (a + 9 + 2 * i) else none))) (hi : 0 ≤ i ∧ i < 8) : CM l X yX5_captionAt cX5_captionAt 2 (some (.object "CaptionLoom$Caption")) (rmk 0 0) [.ref a, .int (iI i)] w (some (.ref (a + 9 + 2 * i.toNat))) (fun w' => w' = w) := by
  refine CM.of (lv := [(0, .ref a), (1, .int (iI i))]) (by decide) (Nat.le_of_ble_eq_true rfl) rfl (fun p e s m below meth c ls F hr hlk hin hW hS hl => ?_)
  have hZ0 := hW.2.2
  have hB9 := hW.1.2
  clear hin
  refine lv_iload_n F.1 F.2.1 dX5_captionAt_0 rfl (lv_at hl 1 rfl) ?_
  refine h_iflt (tgt := 22) F dX5_captionAt_1 (by decide) (by omega) (fun c1 => ?_) (fun c1 => ?_)
  · exfalso; omega
  · refine lv_iload_n F.1 F.2.1 dX5_captionAt_4 rfl (lv_at hl 1 rfl) ?_
    refine lv_aload_n F.1 F.2.1 dX5_captionAt_5 rfl (lv_at hl 0 rfl) ?_
    refine gf_RX5_27 F hW hO rfl dX5_captionAt_6 ?_
    refine h_alen (k := 3) (n := 8) F hW rfl hC dX5_captionAt_9 ?_
    refine h_icge (tgt := 22) F dX5_captionAt_10 (by decide) (by omega) (fun c2 => ?_) (fun c2 => ?_)
    · exfalso; omega
    · refine lv_aload_n F.1 F.2.1 dX5_captionAt_13 rfl (lv_at hl 0 rfl) ?_
      refine gf_RX5_27 F hW hO rfl dX5_captionAt_14 ?_
      refine lv_iload_n F.1 F.2.1 dX5_captionAt_17 rfl (lv_at hl 1 rfl) ?_
      refine h_aald (k := 3) F hW rfl hC (by omega) (by omega) (if_pos (by omega)) dX5_captionAt_18 ?_
      refine h_goto (tgt := 26) F dX5_captionAt_19 (by decide) ?_
      exact h_aret F hr hlk hW hS rfl dX5_captionAt_26
set_option maxHeartbeats 4000000 in
set_option maxRecDepth 100000 in
theorem c_X5_giveCell (l : Launch) (X : Cx) (w : Wo) (a : Nat) (σ : Int → Int) (cn rn co : Int) (hA : lmA X w a σ) (h8 : cap8 σ) (hr : (8 ≤ σ 0 ∧ σ 0 ≤ 40) ∧ (6 ≤ σ 1 ∧ σ 1 ≤ 30)) (hc : 0 ≤ cn ∧ cn < σ 0 ∧ 0 ≤ rn ∧ rn < σ 1) (hco : 0 ≤ co ∧ co < 7) : CM l X yX5_giveCell cX5_giveCell 4 none (rmk 2 46) [.ref a, .int (iI cn), .int (iI rn), .int (iI co)] w none (fun w' => lmA X w' a (giveS σ cn rn co) ∧ ∀ q : Nat, q ≠ a + 2 → q ≠ a + 5 → w' q = w q) := by
  refine CM.of (lv := [(0, .ref a), (1, .int (iI cn)), (2, .int (iI rn)), (3, .int (iI co))]) (by decide) (Nat.le_of_ble_eq_true rfl) rfl (fun p e s m below meth c ls F hr hlk hin hW hS hl => ?_)
  have hZ0 := hW.2.2
  have hB9 := hW.1.2
  clear hin
  have hO := hA.o
  have hg1 := hA.g1
  have hg3 := hA.g3
  obtain ⟨gr, hgr, hge⟩ := hA.2.1
  obtain ⟨gp, hgp⟩ := hA.2.2.1
  obtain ⟨t, ht, hte⟩ := hA.2.2.2.1
  refine lv_aload_n F.1 F.2.1 dX5_giveCell_0 rfl (lv_at hl 0 rfl) ?_
  refine gf_RX5_12 F hW hO rfl dX5_giveCell_1 ?_
  refine lv_iload_n F.1 F.2.1 dX5_giveCell_4 rfl (lv_at hl 1 rfl) ?_
  refine lv_iload_n F.1 F.2.1 dX5_giveCell_5 rfl (lv_at hl 2 rfl) ?_
  refine lv_iload_n F.1 F.2.1 dX5_giveCell_6 rfl (lv_at hl 3 rfl) ?_
  refine cl_RX5_129 (As := [.int (iI cn), .int (iI rn), .int (iI co)]) (rest := []) F hl (c_X3_set l X w (a + 1) gr cn rn co hgr (by omega) (by omega)) hW hS hg1 rfl rfl ⟨Nat.le_of_ble_eq_true rfl, Nat.le_of_ble_eq_true rfl⟩ (Nat.le_of_ble_eq_true rfl) ⟨Nat.zero_le _, Nat.zero_le _⟩ dX5_giveCell_7 (fun w1 H locs hp2 hW hS => ?_)
  obtain ⟨hgs, hn3⟩ := hp2
  have hO := (hn3 _ (by omega)).trans hO
  have hg1 := (hn3 _ (by omega)).trans hg1
  have hg3 := (hn3 _ (by omega)).trans hg3
  have ht := (hn3 _ (by omega)).trans ht
  refine lv_aload_n F.1 F.2.1 dX5_giveCell_10 rfl (lv_at hl 0 rfl) ?_
  refine gf_RX5_21 F hW hO rfl dX5_giveCell_11 ?_
  refine lv_iload_n F.1 F.2.1 dX5_giveCell_14 rfl (lv_at hl 3 rfl) ?_
  refine lv_aload_n F.1 F.2.1 dX5_giveCell_15 rfl (lv_at hl 0 rfl) ?_
  refine lv_iload_n F.1 F.2.1 dX5_giveCell_16 rfl (lv_at hl 3 rfl) ?_
  refine cl_RX5_202 (As := [.int (iI co)]) (rest := [.int (iI co), .ref (a + 5)]) F hl (c_stock0 l X w1 a (σ 5) (σ 0) (σ 1) (σ 4) (σ 3) (σ 2) t co hO ht (by omega)) hW hS hO rfl rfl ⟨Nat.le_of_ble_eq_true rfl, Nat.le_of_ble_eq_true rfl⟩ (Nat.le_of_ble_eq_true rfl) ⟨Nat.zero_le _, Nat.zero_le _⟩ dX5_giveCell_17 (fun w1 H locs hp4 hW hS => ?_)
  rw [hp4] at hW; clear hp4; clear w1
  refine h_iconst F dX5_giveCell_20 ?_
  refine h_isub (a := t co) (b := 1) F dX5_giveCell_21 ?_
  refine cl_RX5_198 (As := [.ref (a + 5), .int (iI co), .int (iI ((t co) - 1))]) (rest := []) F hl (c_X8_put l X w1 (a + 5) 7 t co ((t co) - 1) ht (by omega) (by omega)) hW hS rfl rfl ⟨Nat.le_of_ble_eq_true rfl, Nat.le_of_ble_eq_true rfl⟩ (Nat.le_of_ble_eq_true rfl) ⟨Nat.zero_le _, Nat.zero_le _⟩ dX5_giveCell_22 (fun w5 H locs hp6 hW hS => ?_)
  obtain ⟨ha7, hn8⟩ := hp6
  have hO := (hn8 _ (by omega)).trans hO
  have hg1 := (hn8 _ (by omega)).trans hg1
  have hg3 := (hn8 _ (by omega)).trans hg3
  exact h_vret F hr hlk hW hS ⟨lmA.up hA h8 (by rw [hO]; unfold lmF; rw [give_lo (p := 5) (by decide) (by omega) (by omega), give_lo (p := 0) (by decide) (by omega) (by omega), give_lo (p := 1) (by decide) (by omega) (by omega), give_lo (p := 4) (by decide) (by omega) (by omega), give_lo (p := 3) (by decide) (by omega) (by omega), give_lo (p := 2) (by decide) (by omega) (by omega)]) ⟨_, hgs.mv (hn8 _ (by omega)) (hn8 _ (by omega)), fun c r h1 h2 h3 h4 => (by rw [give_lo (p := 0) (by decide) (by omega) (by omega)] at h2; rw [give_lo (p := 1) (by decide) (by omega) (by omega)] at h4; rw [give_cell (by omega) (by omega)]; unfold gup; split; rfl; exact hge c r h1 h2 h3 h4)⟩ ⟨gp, hgp.mv ((hn8 _ (by omega)).trans (hn3 _ (by omega))) ((hn8 _ (by omega)).trans (hn3 _ (by omega)))⟩ ⟨_, ha7, fun c h1 h2 => (by unfold up; by_cases g : c = co; (rw [if_pos g, g, give_st, hte co (by omega) (by omega)]); (rw [if_neg g, give_lo (by omega) (by omega) (by omega)]; exact hte c h1 h2))⟩ (fun q h1 h2 => (hn8 q (by omega)).trans (hn3 q (by omega))) (fun k h1 h2 => (by have h9 := h8.1; rw [give_lo (p := 5) (by decide) (by omega) (by omega)] at h2; exact ⟨h2, fun j h3 h4 => give_lo (by omega) (by omega) (by omega)⟩)), (fun q h09 h19 => by rw [hn8 q (by omega), hn3 q (by omega)])⟩ dX5_giveCell_25
