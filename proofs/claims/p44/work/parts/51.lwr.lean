/-! ===== the loom's cells in another world ===== -/
def cap8 (σ : Int → Int) : Prop := (0 ≤ σ 5 ∧ σ 5 ≤ 8) ∧ ∀ k, 0 ≤ k → k < σ 5 → cp σ k 0 ≤ 8
theorem WF.cap8 {σ : Int → Int} (h : WF σ) : cap8 σ := ⟨h.1.2.2.2.2.2, fun k h0 h1 => (h.2.2.1 k h0 h1).1.2⟩
def giveS (σ : Int → Int) (c r co : Int) : Int → Int := up (up σ (117 + 40 * r + c) co) (6 + co) (σ (6 + co) - 1)
theorem give_cell {σ : Int → Int} {cn rn co c r : Int} (h : 0 ≤ c ∧ c < 40 ∧ 0 ≤ r ∧ 0 ≤ cn ∧ cn < 40 ∧ 0 ≤ rn) (hco : 0 ≤ co ∧ co < 7) : cellS (giveS σ cn rn co) c r = if c = cn ∧ r = rn then co else cellS σ c r := by
  unfold cellS giveS up
  rw [if_neg (by omega)]
  by_cases g : c = cn ∧ r = rn
  · rw [if_pos g, if_pos (by rw [g.1, g.2])]
  · rw [if_neg g, if_neg (by omega)]
theorem give_lo {σ : Int → Int} {cn rn co p : Int} (h : p < 117) (h1 : 0 ≤ cn ∧ 0 ≤ rn) (hp : p ≠ 6 + co) : giveS σ cn rn co p = σ p := by
  unfold giveS up
  rw [if_neg hp, if_neg (by omega)]
theorem give_st {σ : Int → Int} {cn rn co : Int} : giveS σ cn rn co (6 + co) = σ (6 + co) - 1 := by
  unfold giveS up
  exact if_pos rfl
theorem gridAt.mv {X : Cx} {w w2 : Wo} {b : Nat} {gr : Int → Int → Int} (h : gridAt X w b gr) (h1 : w2 b = w b) (h2 : w2 (b + 1) = w (b + 1)) : gridAt X w2 b gr := by
  obtain ⟨e0, g, e1, e2⟩ := h
  exact ⟨h1.trans e0, g, h2.trans e1, e2⟩
theorem capV.mv {X : Cx} {w w2 : Wo} {q : Nat} {n sd x y co : Int} {f : Int → Int} (h : capV X w q n sd x y co f) (h1 : w2 q = w q) (h2 : w2 (q + 1) = w (q + 1)) : capV X w2 q n sd x y co f := ⟨h1.trans h.1, h2.trans h.2⟩
theorem capAt.mv {X : Cx} {w w2 : Wo} {q : Nat} {σ : Int → Int} {k : Int} (h : capAt X w q σ k) (h1 : w2 q = w q) (h2 : w2 (q + 1) = w (q + 1)) : capAt X w2 q σ k := by
  obtain ⟨f, e1, e2⟩ := h
  exact ⟨f, e1.mv h1 h2, e2⟩
theorem capAt.to {X : Cx} {w : Wo} {q : Nat} {σ τ : Int → Int} {k k2 : Int} (h : capAt X w q σ k) (h8 : cp σ k 0 ≤ 8) (hk : ∀ j, 0 ≤ j → j < 13 → cp τ k2 j = cp σ k j) : capAt X w q τ k2 := by
  obtain ⟨f, e1, e2⟩ := h
  refine ⟨f, ?_, fun j h1 h2 => ?_⟩
  · rw [hk 0 (by decide) (by decide), hk 1 (by decide) (by decide), hk 2 (by decide) (by decide), hk 3 (by decide) (by decide), hk 4 (by decide) (by decide)]
    exact e1
  · rw [hk 0 (by decide) (by decide)] at h2
    rw [hk (5 + j) (by omega) (by omega)]
    exact e2 j h1 h2
theorem lmA.up {X : Cx} {w w2 : Wo} {a : Nat} {σ τ : Int → Int} (h : lmA X w a σ) (h8 : cap8 σ) (ho : w2 a = some (.inr (5, lmF τ a))) (hg : ∃ gr, gridAt X w2 (a + 1) gr ∧ ∀ c r, 0 ≤ c → c < τ 0 → 0 ≤ r → r < τ 1 → gr c r = cellS τ c r) (hp : ∃ gr, gridAt X w2 (a + 3) gr) (ht : ∃ t, w2 (a + 5) = some (aZ X 7 t) ∧ ∀ c, 0 ≤ c → c < 7 → t c = τ (6 + c)) (hf : ∀ q : Nat, a + 6 ≤ q → q < a + 25 → w2 q = w q) (hc : ∀ k, 0 ≤ k → k < τ 5 → k < σ 5 ∧ ∀ j, 0 ≤ j → j < 13 → cp τ k j = cp σ k j) : lmA X w2 a τ := by
  obtain ⟨-, -, -, -, h7, h9, h10⟩ := h
  refine ⟨ho, hg, hp, ht, (hf _ (by omega) (by omega)).trans h7, fun i hi => ?_, fun k k0 k1 => ?_⟩
  · obtain ⟨n, sd, x, y, co, f, e⟩ := h9 i hi
    exact ⟨n, sd, x, y, co, f, e.mv (hf _ (by omega) (by omega)) (hf _ (by omega) (by omega))⟩
  · obtain ⟨k2, k3⟩ := hc k k0 k1
    have k4 := h8.1
    have k5 : k.toNat < 8 := by omega
    exact ((h10 k k0 k2).mv (hf _ (by omega) (by omega)) (hf _ (by omega) (by omega))).to (h8.2 k k0 k2) k3
theorem lmA.mv {X : Cx} {w w2 : Wo} {a : Nat} {σ : Int → Int} (h : lmA X w a σ) (h8 : cap8 σ) (hf : ∀ q : Nat, a ≤ q → q < a + 25 → w2 q = w q) : lmA X w2 a σ := by
  obtain ⟨gr, h2, h3⟩ := h.2.1
  obtain ⟨gp, h4⟩ := h.2.2.1
  obtain ⟨t, h5, h6⟩ := h.2.2.2.1
  exact h.up h8 ((hf a (by omega) (by omega)).trans h.1) ⟨gr, h2.mv (hf _ (by omega) (by omega)) (hf _ (by omega) (by omega)), h3⟩ ⟨gp, h4.mv (hf _ (by omega) (by omega)) (hf _ (by omega) (by omega))⟩ ⟨t, (hf _ (by omega) (by omega)).trans h5, h6⟩ (fun q h0 h1 => hf q (by omega) h1) (fun k _ k1 => ⟨k1, fun _ _ _ => rfl⟩)
/-- the two rows say the same of the loom -/
def eqS (σ τ : Int → Int) : Prop := (∀ p, 0 ≤ p → p < 13 → τ p = σ p) ∧ (∀ k, 0 ≤ k → k < σ 5 → ∀ j, 0 ≤ j → j < 13 → cp τ k j = cp σ k j) ∧ (∀ c r, 0 ≤ c → c < σ 0 → 0 ≤ r → r < σ 1 → cellS τ c r = cellS σ c r)
theorem lmA.to {X : Cx} {w : Wo} {a : Nat} {σ τ : Int → Int} (h : lmA X w a σ) (h8 : cap8 σ) (he : eqS σ τ) : lmA X w a τ := by
  obtain ⟨e1, e2, e3⟩ := he
  obtain ⟨gr, h2, h3⟩ := h.2.1
  obtain ⟨t, h5, h6⟩ := h.2.2.2.1
  have e5 := e1 5 (by decide) (by decide)
  refine h.up h8 ?_ ⟨gr, h2, fun c r c1 c2 c3 c4 => ?_⟩ h.2.2.1 ⟨t, h5, fun c c1 c2 => (h6 c c1 c2).trans (e1 _ (by omega) (by omega)).symm⟩ (fun _ _ _ => rfl) (fun k k0 k1 => ⟨by omega, e2 k k0 (by omega)⟩)
  · unfold lmF
    rw [e5, e1 0 (by decide) (by decide), e1 1 (by decide) (by decide), e1 4 (by decide) (by decide), e1 3 (by decide) (by decide), e1 2 (by decide) (by decide)]
    exact h.1
  · rw [e1 0 (by decide) (by decide)] at c2
    rw [e1 1 (by decide) (by decide)] at c4
    exact (h3 c r c1 c2 c3 c4).trans (e3 c r c1 c2 c3 c4).symm
def clrS (σ : Int → Int) (rn : Int) : Int → Int := fun p => if p = 4 then rn else if p = 3 then min (σ 3) rn else if 117 + 40 * rn ≤ p ∧ p < 1317 then -1 else σ p
theorem clr_lo {σ : Int → Int} {rn p : Int} (h : p < 117) (h1 : 0 ≤ rn) (h3 : p ≠ 3) (h4 : p ≠ 4) : clrS σ rn p = σ p := by
  unfold clrS
  rw [if_neg h4, if_neg h3, if_neg (by omega)]
theorem clr_3 {σ : Int → Int} {rn : Int} : clrS σ rn 3 = min (σ 3) rn := rfl
theorem clr_4 {σ : Int → Int} {rn : Int} : clrS σ rn 4 = rn := rfl
theorem clr_cell {σ : Int → Int} {rn c r : Int} (h : 0 ≤ c ∧ c < 40 ∧ 0 ≤ r ∧ r < 30 ∧ 0 ≤ rn) : cellS (clrS σ rn) c r = if rn ≤ r then -1 else cellS σ c r := by
  unfold cellS clrS
  rw [if_neg (by omega), if_neg (by omega)]
  by_cases g : rn ≤ r
  · rw [if_pos g, if_pos (by omega)]
  · rw [if_neg g, if_neg (by omega)]
def resS (wd ht : Int) : Int → Int := fun p => if p = 0 then wd else if p = 1 then ht else if p = 2 then 4 else if p < 6 then 0 else if p < 13 then 500 else if p < 117 then 0 else -1
theorem res_cell {wd ht c r : Int} (h : 0 ≤ c ∧ 0 ≤ r) : cellS (resS wd ht) c r = -1 := by
  unfold cellS resS
  rw [if_neg (by omega), if_neg (by omega), if_neg (by omega), if_neg (by omega), if_neg (by omega), if_neg (by omega)]
theorem res_st {wd ht c : Int} (h : 0 ≤ c ∧ c < 7) : resS wd ht (6 + c) = 500 := by
  unfold resS
  rw [if_neg (by omega), if_neg (by omega), if_neg (by omega), if_neg (by omega), if_pos (by omega)]
theorem res_des {wd ht c r : Int} : desS (resS wd ht) c r = 0 := by
  unfold desS
  have := fi_spec (hitS (resS wd ht) c r) (lo := 0) (hi := resS wd ht 5) (by show (0 : Int) ≤ 0; decide)
  rw [if_neg (by have e : resS wd ht 5 = 0 := rfl; omega)]
def hangR (σ τ : Int → Int) (n sd x y co : Int) (f : Int → Int) : Prop := τ 5 = σ 5 + 1 ∧ (∀ p, 0 ≤ p → p < 13 → p ≠ 5 → τ p = σ p) ∧ (∀ k, 0 ≤ k → k < σ 5 → ∀ j, 0 ≤ j → j < 13 → cp τ k j = cp σ k j) ∧ (cp τ (σ 5) 0 = n ∧ cp τ (σ 5) 1 = sd ∧ cp τ (σ 5) 2 = x ∧ cp τ (σ 5) 3 = y ∧ cp τ (σ 5) 4 = co) ∧ (∀ j, 0 ≤ j → j < n → f j = cp τ (σ 5) (5 + j) + 1) ∧ (∀ c r, 0 ≤ c → c < 40 → 0 ≤ r → r < 30 → cellS τ c r = cellS σ c r)
def dropR (σ τ : Int → Int) (ix : Int) : Prop := τ 5 = σ 5 - 1 ∧ (∀ p, 0 ≤ p → p < 13 → p ≠ 5 → τ p = σ p) ∧ (∀ k, 0 ≤ k → k < ix → ∀ j, 0 ≤ j → j < 13 → cp τ k j = cp σ k j) ∧ (∀ k, ix ≤ k → k < σ 5 - 1 → ∀ j, 0 ≤ j → j < 13 → cp τ k j = cp σ (k + 1) j) ∧ (∀ c r, 0 ≤ c → c < 40 → 0 ≤ r → r < 30 → cellS τ c r = cellS σ c r)
set_option maxHeartbeats 4000000 in
set_option maxRecDepth 100000 in
theorem c_stock0 (l : Launch) (X : Cx) (w : Wo) (a : Nat) (x5 x6 x7 x8 x9 x10 : Int) (t : Int → Int) (co : Int) (hO : w a = some (.inr (5, [.ref (a + 1), .ref (a + 3), .ref (a + 5), .ref (a + 6), .ref (a + 7), .int (iI x5), .int (iI x6), .int (iI x7), .int (iI x8), .int (iI x9), .int (iI x10)]))) (ht : w (a + 5) = some (aZ X 7 t)) (hco : 0 ≤ co ∧ co < 7) : CM l X yX5_stockOf cX5_stockOf 2 (some (.int)) (rmk 1 21) [.ref a, .int (iI co)] w (some (.int (iI (t co)))) (fun w' => w' = w) := by
  refine CM.of (lv := [(0, .ref a), (1, .int (iI co))]) (by decide) (Nat.le_of_ble_eq_true rfl) rfl (fun p e s m below meth c ls F hr hlk hin hW hS hl => ?_)
  have hZ0 := hW.2.2
  have hB9 := hW.1.2
  clear hin
  refine lv_aload_n F.1 F.2.1 dX5_stockOf_0 rfl (lv_at hl 0 rfl) ?_
  refine gf_RX5_21 F hW hO rfl dX5_stockOf_1 ?_
  refine lv_iload_n F.1 F.2.1 dX5_stockOf_4 rfl (lv_at hl 1 rfl) ?_
  refine cl_RX5_89 (As := [.ref (a + 5), .int (iI co)]) (rest := []) F hl (c_X8_at l X w (a + 5) 7 t co ht (by omega) (by omega)) hW hS rfl rfl ⟨Nat.le_of_ble_eq_true rfl, Nat.le_of_ble_eq_true rfl⟩ (Nat.le_of_ble_eq_true rfl) ⟨Nat.zero_le _, Nat.zero_le _⟩ dX5_stockOf_5 (fun w1 H locs hp1 hW hS => ?_)
  rw [hp1] at hW; clear hp1; clear w1
  exact h_ireti F hr hlk hW hS rfl dX5_stockOf_8
set_option maxHeartbeats 4000000 in
set_option maxRecDepth 100000 in
theorem c_capAt0 (l : Launch) (X : Cx) (w : Wo) (a : Nat) (x5 x6 x7 x8 x9 x10 : Int) (i : Int) (hO : w a = some (.inr (5, [.ref (a + 1), .ref (a + 3), .ref (a + 5), .ref (a + 6), .ref (a + 7), .int (iI x5), .int (iI x6), .int (iI x7), .int (iI x8), .int (iI x9), .int (iI x10)]))) (hC : w (a + 6) = some (aR X 3 8 (fun i => if i < 8 then some (a + 9 + 2 * i) else none))) (hi : 0 ≤ i ∧ i < 8) : CM l X yX5_captionAt cX5_captionAt 2 (some (.object "CaptionLoom$Caption")) (rmk 0 0) [.ref a, .int (iI i)] w (some (.ref (a + 9 + 2 * i.toNat))) (fun w' => w' = w) := by
  refine CM.of (lv := [(0, .ref a), (1, .int (iI i))]) (by decide) (Nat.le_of_ble_eq_true rfl) rfl (fun p e s m below meth c ls F hr hlk hin hW hS hl => ?_)
  have hZ0 := hW.2.2
  have hB9 := hW.1.2
  clear hin
  refine lv_iload_n F.1 F.2.1 dX5_captionAt_0 rfl (lv_at hl 1 rfl) ?_
  refine h_iflt (tgt := 22) F dX5_captionAt_1 (by decide) (by omega) (fun c1 => ?_) (fun c1 => ?_)
  · exfalso; omega
  · refine lv_iload_n F.1 F.2.1 dX5_captionAt_4 rfl (lv_at hl 1 rfl) ?_
    refine lv_aload_n F.1 F.2.1 dX5_captionAt_5 rfl (lv_at hl 0 rfl) ?_
    refine gf_RX5_27 F hW hO rfl dX5_captionAt_6 ?_
    refine h_alen (k := 3) (n := 8) F hW rfl hC dX5_captionAt_9 ?_
    refine h_icge (tgt := 22) F dX5_captionAt_10 (by decide) (by omega) (fun c2 => ?_) (fun c2 => ?_)
    · exfalso; omega
    · refine lv_aload_n F.1 F.2.1 dX5_captionAt_13 rfl (lv_at hl 0 rfl) ?_
      refine gf_RX5_27 F hW hO rfl dX5_captionAt_14 ?_
      refine lv_iload_n F.1 F.2.1 dX5_captionAt_17 rfl (lv_at hl 1 rfl) ?_
      refine h_aald (k := 3) F hW rfl hC (by omega) (by omega) (if_pos (by omega)) dX5_captionAt_18 ?_
      refine h_goto (tgt := 26) F dX5_captionAt_19 (by decide) ?_
      exact h_aret F hr hlk hW hS rfl dX5_captionAt_26
set_option maxHeartbeats 4000000 in
set_option maxRecDepth 100000 in
theorem c_X5_giveCell (l : Launch) (X : Cx) (w : Wo) (a : Nat) (σ : Int → Int) (cn rn co : Int) (hA : lmA X w a σ) (h8 : cap8 σ) (hr : (8 ≤ σ 0 ∧ σ 0 ≤ 40) ∧ (6 ≤ σ 1 ∧ σ 1 ≤ 30)) (hc : 0 ≤ cn ∧ cn < σ 0 ∧ 0 ≤ rn ∧ rn < σ 1) (hco : 0 ≤ co ∧ co < 7) : CM l X yX5_giveCell cX5_giveCell 4 none (rmk 2 46) [.ref a, .int (iI cn), .int (iI rn), .int (iI co)] w none (fun w' => lmA X w' a (giveS σ cn rn co) ∧ ∀ q : Nat, q ≠ a + 2 → q ≠ a + 5 → w' q = w q) := by
  refine CM.of (lv := [(0, .ref a), (1, .int (iI cn)), (2, .int (iI rn)), (3, .int (iI co))]) (by decide) (Nat.le_of_ble_eq_true rfl) rfl (fun p e s m below meth c ls F hr hlk hin hW hS hl => ?_)
  have hZ0 := hW.2.2
  have hB9 := hW.1.2
  clear hin
  have hO := hA.o
  have hg1 := hA.g1
  have hg3 := hA.g3
  obtain ⟨gr, hgr, hge⟩ := hA.2.1
  obtain ⟨gp, hgp⟩ := hA.2.2.1
  obtain ⟨t, ht, hte⟩ := hA.2.2.2.1
  refine lv_aload_n F.1 F.2.1 dX5_giveCell_0 rfl (lv_at hl 0 rfl) ?_
  refine gf_RX5_12 F hW hO rfl dX5_giveCell_1 ?_
  refine lv_iload_n F.1 F.2.1 dX5_giveCell_4 rfl (lv_at hl 1 rfl) ?_
  refine lv_iload_n F.1 F.2.1 dX5_giveCell_5 rfl (lv_at hl 2 rfl) ?_
  refine lv_iload_n F.1 F.2.1 dX5_giveCell_6 rfl (lv_at hl 3 rfl) ?_
  refine cl_RX5_129 (As := [.int (iI cn), .int (iI rn), .int (iI co)]) (rest := []) F hl (c_X3_set l X w (a + 1) gr cn rn co hgr (by omega) (by omega)) hW hS hg1 rfl rfl ⟨Nat.le_of_ble_eq_true rfl, Nat.le_of_ble_eq_true rfl⟩ (Nat.le_of_ble_eq_true rfl) ⟨Nat.zero_le _, Nat.zero_le _⟩ dX5_giveCell_7 (fun w1 H locs hp2 hW hS => ?_)
  obtain ⟨hgs, hn3⟩ := hp2
  have hO := (hn3 _ (by omega)).trans hO
  have hg1 := (hn3 _ (by omega)).trans hg1
  have hg3 := (hn3 _ (by omega)).trans hg3
  have ht := (hn3 _ (by omega)).trans ht
  refine lv_aload_n F.1 F.2.1 dX5_giveCell_10 rfl (lv_at hl 0 rfl) ?_
  refine gf_RX5_21 F hW hO rfl dX5_giveCell_11 ?_
  refine lv_iload_n F.1 F.2.1 dX5_giveCell_14 rfl (lv_at hl 3 rfl) ?_
  refine lv_aload_n F.1 F.2.1 dX5_giveCell_15 rfl (lv_at hl 0 rfl) ?_
  refine lv_iload_n F.1 F.2.1 dX5_giveCell_16 rfl (lv_at hl 3 rfl) ?_
  refine cl_RX5_202 (As := [.int (iI co)]) (rest := [.int (iI co), .ref (a + 5)]) F hl (c_stock0 l X w1 a (σ 5) (σ 0) (σ 1) (σ 4) (σ 3) (σ 2) t co hO ht (by omega)) hW hS hO rfl rfl ⟨Nat.le_of_ble_eq_true rfl, Nat.le_of_ble_eq_true rfl⟩ (Nat.le_of_ble_eq_true rfl) ⟨Nat.zero_le _, Nat.zero_le _⟩ dX5_giveCell_17 (fun w1 H locs hp4 hW hS => ?_)
  rw [hp4] at hW; clear hp4; clear w1
  refine h_iconst F dX5_giveCell_20 ?_
  refine h_isub (a := t co) (b := 1) F dX5_giveCell_21 ?_
  refine cl_RX5_198 (As := [.ref (a + 5), .int (iI co), .int (iI ((t co) - 1))]) (rest := []) F hl (c_X8_put l X w1 (a + 5) 7 t co ((t co) - 1) ht (by omega) (by omega)) hW hS rfl rfl ⟨Nat.le_of_ble_eq_true rfl, Nat.le_of_ble_eq_true rfl⟩ (Nat.le_of_ble_eq_true rfl) ⟨Nat.zero_le _, Nat.zero_le _⟩ dX5_giveCell_22 (fun w5 H locs hp6 hW hS => ?_)
  obtain ⟨ha7, hn8⟩ := hp6
  have hO := (hn8 _ (by omega)).trans hO
  have hg1 := (hn8 _ (by omega)).trans hg1
  have hg3 := (hn8 _ (by omega)).trans hg3
  exact h_vret F hr hlk hW hS ⟨lmA.up hA h8 (by rw [hO]; unfold lmF; rw [give_lo (p := 5) (by decide) (by omega) (by omega), give_lo (p := 0) (by decide) (by omega) (by omega), give_lo (p := 1) (by decide) (by omega) (by omega), give_lo (p := 4) (by decide) (by omega) (by omega), give_lo (p := 3) (by decide) (by omega) (by omega), give_lo (p := 2) (by decide) (by omega) (by omega)]) ⟨_, hgs.mv (hn8 _ (by omega)) (hn8 _ (by omega)), fun c r h1 h2 h3 h4 => (by rw [give_lo (p := 0) (by decide) (by omega) (by omega)] at h2; rw [give_lo (p := 1) (by decide) (by omega) (by omega)] at h4; rw [give_cell (by omega) (by omega)]; unfold gup; split; rfl; exact hge c r h1 h2 h3 h4)⟩ ⟨gp, hgp.mv ((hn8 _ (by omega)).trans (hn3 _ (by omega))) ((hn8 _ (by omega)).trans (hn3 _ (by omega)))⟩ ⟨_, ha7, fun c h1 h2 => (by unfold up; by_cases g : c = co; (rw [if_pos g, g, give_st, hte co (by omega) (by omega)]); (rw [if_neg g, give_lo (by omega) (by omega) (by omega)]; exact hte c h1 h2))⟩ (fun q h1 h2 => (hn8 q (by omega)).trans (hn3 q (by omega))) (fun k h1 h2 => (by have h9 := h8.1; rw [give_lo (p := 5) (by decide) (by omega) (by omega)] at h2; exact ⟨h2, fun j h3 h4 => give_lo (by omega) (by omega) (by omega)⟩)), (fun q h09 h19 => by rw [hn8 q (by omega), hn3 q (by omega)])⟩ dX5_giveCell_25
set_option maxHeartbeats 4000000 in
set_option maxRecDepth 100000 in
theorem c_X5_clearFrom (l : Launch) (X : Cx) (w : Wo) (a : Nat) (σ : Int → Int) (rn : Int) (hA : lmA X w a σ) (h8 : cap8 σ) (hr : (8 ≤ σ 0 ∧ σ 0 ≤ 40) ∧ (6 ≤ σ 1 ∧ σ 1 ≤ 30) ∧ (0 ≤ σ 3 ∧ σ 3 ≤ 30)) (hc : 0 ≤ rn ∧ rn ≤ 30) : CM l X yX5_clearFrom cX5_clearFrom 2 none (rmk 2 46) [.ref a, .int (iI rn)] w none (fun w' => lmA X w' a (clrS σ rn) ∧ ∀ q : Nat, q ≠ a → q ≠ a + 2 → w' q = w q) := by
  refine CM.of (lv := [(0, .ref a), (1, .int (iI rn))]) (by decide) (Nat.le_of_ble_eq_true rfl) rfl (fun p e s m below meth c ls F hr hlk hin hW hS hl => ?_)
  have hZ0 := hW.2.2
  have hB9 := hW.1.2
  clear hin
  have hO := hA.o
  have hg1 := hA.g1
  have hg3 := hA.g3
  obtain ⟨gr, hgr, hge⟩ := hA.2.1
  obtain ⟨gp, hgp⟩ := hA.2.2.1
  obtain ⟨t, ht, hte⟩ := hA.2.2.2.1
  refine lv_aload_n F.1 F.2.1 dX5_clearFrom_0 rfl (lv_at hl 0 rfl) ?_
  refine gf_RX5_12 F hW hO rfl dX5_clearFrom_1 ?_
  refine lv_iload_n F.1 F.2.1 dX5_clearFrom_4 rfl (lv_at hl 1 rfl) ?_
  refine cl_RX5_65 (As := [.int (iI rn)]) (rest := []) F hl (c_X3_clearFrom l X w (a + 1) gr rn hgr (by omega)) hW hS hg1 rfl rfl ⟨Nat.le_of_ble_eq_true rfl, Nat.le_of_ble_eq_true rfl⟩ (Nat.le_of_ble_eq_true rfl) ⟨Nat.zero_le _, Nat.zero_le _⟩ dX5_clearFrom_5 (fun w1 H locs hp2 hW hS => ?_)
  obtain ⟨hgs, hn3⟩ := hp2
  have hO := (hn3 _ (by omega)).trans hO
  have hg1 := (hn3 _ (by omega)).trans hg1
  have hg3 := (hn3 _ (by omega)).trans hg3
  have ht := (hn3 _ (by omega)).trans ht
  refine lv_aload_n F.1 F.2.1 dX5_clearFrom_8 rfl (lv_at hl 0 rfl) ?_
  refine lv_iload_n F.1 F.2.1 dX5_clearFrom_9 rfl (lv_at hl 1 rfl) ?_
  refine pf_RX5_47 F hW hS hO (Nat.le_of_ble_eq_true rfl) dX5_clearFrom_10 (fun w4 H locs ho6 hn5 hW hS => ?_)
  have ho6 : w4 a = some (.inr (5, [.ref (a + 1), .ref (a + 3), .ref (a + 5), .ref (a + 6), .ref (a + 7), .int (iI (σ 5)), .int (iI (σ 0)), .int (iI (σ 1)), .int (iI rn), .int (iI (σ 3)), .int (iI (σ 2))])) := ho6
  have hg1 := (hn5 _ (by omega)).trans hg1
  have hg3 := (hn5 _ (by omega)).trans hg3
  have ht := (hn5 _ (by omega)).trans ht
  refine lv_aload_n F.1 F.2.1 dX5_clearFrom_13 rfl (lv_at hl 0 rfl) ?_
  refine lv_aload_n F.1 F.2.1 dX5_clearFrom_14 rfl (lv_at hl 0 rfl) ?_
  refine gf_RX5_50 F hW ho6 rfl dX5_clearFrom_15 ?_
  refine lv_iload_n F.1 F.2.1 dX5_clearFrom_18 rfl (lv_at hl 1 rfl) ?_
  refine h_mmin (index := 143) (a := σ 3) (b := rn) F hl km_RX5_143 (Nat.le_of_ble_eq_true rfl) (Nat.le_of_ble_eq_true rfl) (Nat.zero_le _) (Nat.zero_le _) (by omega) dX5_clearFrom_19 ?_
  refine pf_RX5_50 F hW hS ho6 (Nat.le_of_ble_eq_true rfl) dX5_clearFrom_22 (fun w7 H locs ho9 hn8 hW hS => ?_)
  have ho9 : w7 a = some (.inr (5, [.ref (a + 1), .ref (a + 3), .ref (a + 5), .ref (a + 6), .ref (a + 7), .int (iI (σ 5)), .int (iI (σ 0)), .int (iI (σ 1)), .int (iI rn), .int (iI (min (σ 3) rn)), .int (iI (σ 2))])) := ho9
  have hg1 := (hn8 _ (by omega)).trans hg1
  have hg3 := (hn8 _ (by omega)).trans hg3
  have ht := (hn8 _ (by omega)).trans ht
  exact h_vret F hr hlk hW hS ⟨lmA.up hA h8 (by rw [ho9]; unfold lmF; rw [clr_lo (p := 5) (by decide) (by omega) (by decide) (by decide), clr_lo (p := 0) (by decide) (by omega) (by decide) (by decide), clr_lo (p := 1) (by decide) (by omega) (by decide) (by decide), clr_lo (p := 2) (by decide) (by omega) (by decide) (by decide), clr_3, clr_4]) ⟨_, hgs.mv ((hn8 _ (by omega)).trans (hn5 _ (by omega))) ((hn8 _ (by omega)).trans (hn5 _ (by omega))), fun c r h1 h2 h3 h4 => (by rw [clr_lo (p := 0) (by decide) (by omega) (by decide) (by decide)] at h2; rw [clr_lo (p := 1) (by decide) (by omega) (by decide) (by decide)] at h4; rw [clr_cell (by omega)]; show (if _ then _ else _) = _; split; rfl; exact hge c r h1 h2 h3 h4)⟩ ⟨gp, hgp.mv ((hn8 _ (by omega)).trans ((hn5 _ (by omega)).trans (hn3 _ (by omega)))) ((hn8 _ (by omega)).trans ((hn5 _ (by omega)).trans (hn3 _ (by omega))))⟩ ⟨_, ht, fun c h1 h2 => (by rw [clr_lo (by omega) (by omega) (by omega) (by omega)]; exact hte c h1 h2)⟩ (fun q h1 h2 => (hn8 q (by omega)).trans ((hn5 q (by omega)).trans (hn3 q (by omega)))) (fun k h1 h2 => (by have h9 := h8.1; rw [clr_lo (p := 5) (by decide) (by omega) (by decide) (by decide)] at h2; exact ⟨h2, fun j h3 h4 => clr_lo (by omega) (by omega) (by omega) (by omega)⟩)), (fun q h09 h19 => by rw [hn8 q (by omega), hn5 q (by omega), hn3 q (by omega)])⟩ dX5_clearFrom_25
set_option maxHeartbeats 4000000 in
set_option maxRecDepth 100000 in
theorem c_X5_reset (l : Launch) (X : Cx) (w : Wo) (a : Nat) (σ : Int → Int) (wd ht9 : Int) (hA : lmA X w a σ) (h8 : cap8 σ) (hr : (8 ≤ wd ∧ wd ≤ 40) ∧ (6 ≤ ht9 ∧ ht9 ≤ 30)) : CM l X yX5_reset cX5_reset 3 none (rmk 2 46) [.ref a, .int (iI wd), .int (iI ht9)] w none (fun w' => lmA X w' a (resS wd ht9) ∧ lmP X w' a (resS wd ht9) ∧ ∀ q : Nat, q ≠ a → q ≠ a + 2 → q ≠ a + 4 → q ≠ a + 5 → w' q = w q) := by
  refine CM.of (lv := [(0, .ref a), (1, .int (iI wd)), (2, .int (iI ht9))]) (by decide) (Nat.le_of_ble_eq_true rfl) rfl (fun p e s m below meth c ls F hr hlk hin hW hS hl => ?_)
  have hZ0 := hW.2.2
  have hB9 := hW.1.2
  clear hin
  have hO := hA.o
  have hg1 := hA.g1
  have hg3 := hA.g3
  obtain ⟨gr, hgr, hge⟩ := hA.2.1
  obtain ⟨gp, hgp⟩ := hA.2.2.1
  obtain ⟨t, ht, hte⟩ := hA.2.2.2.1
  refine lv_aload_n F.1 F.2.1 dX5_reset_0 rfl (lv_at hl 0 rfl) ?_
  refine lv_iload_n F.1 F.2.1 dX5_reset_1 rfl (lv_at hl 1 rfl) ?_
  refine pf_RX5_40 F hW hS hO (Nat.le_of_ble_eq_true rfl) dX5_reset_2 (fun w1 H locs ho3 hn2 hW hS => ?_)
  have ho3 : w1 a = some (.inr (5, [.ref (a + 1), .ref (a + 3), .ref (a + 5), .ref (a + 6), .ref (a + 7), .int (iI (σ 5)), .int (iI wd), .int (iI (σ 1)), .int (iI (σ 4)), .int (iI (σ 3)), .int (iI (σ 2))])) := ho3
  have hg1 := (hn2 _ (by omega)).trans hg1
  have hg3 := (hn2 _ (by omega)).trans hg3
  have ht := (hn2 _ (by omega)).trans ht
  refine lv_aload_n F.1 F.2.1 dX5_reset_5 rfl (lv_at hl 0 rfl) ?_
  refine lv_iload_n F.1 F.2.1 dX5_reset_6 rfl (lv_at hl 2 rfl) ?_
  refine pf_RX5_44 F hW hS ho3 (Nat.le_of_ble_eq_true rfl) dX5_reset_7 (fun w4 H locs ho6 hn5 hW hS => ?_)
  have ho6 : w4 a = some (.inr (5, [.ref (a + 1), .ref (a + 3), .ref (a + 5), .ref (a + 6), .ref (a + 7), .int (iI (σ 5)), .int (iI wd), .int (iI ht9), .int (iI (σ 4)), .int (iI (σ 3)), .int (iI (σ 2))])) := ho6
  have hg1 := (hn5 _ (by omega)).trans hg1
  have hg3 := (hn5 _ (by omega)).trans hg3
  have ht := (hn5 _ (by omega)).trans ht
  refine lv_aload_n F.1 F.2.1 dX5_reset_10 rfl (lv_at hl 0 rfl) ?_
  refine h_iconst F dX5_reset_11 ?_
  refine pf_RX5_47 F hW hS ho6 (Nat.le_of_ble_eq_true rfl) dX5_reset_12 (fun w7 H locs ho9 hn8 hW hS => ?_)
  have ho9 : w7 a = some (.inr (5, [.ref (a + 1), .ref (a + 3), .ref (a + 5), .ref (a + 6), .ref (a + 7), .int (iI (σ 5)), .int (iI wd), .int (iI ht9), .int (iI 0), .int (iI (σ 3)), .int (iI (σ 2))])) := ho9
  have hg1 := (hn8 _ (by omega)).trans hg1
  have hg3 := (hn8 _ (by omega)).trans hg3
  have ht := (hn8 _ (by omega)).trans ht
  refine lv_aload_n F.1 F.2.1 dX5_reset_15 rfl (lv_at hl 0 rfl) ?_
  refine h_iconst F dX5_reset_16 ?_
  refine pf_RX5_50 F hW hS ho9 (Nat.le_of_ble_eq_true rfl) dX5_reset_17 (fun w10 H locs ho12 hn11 hW hS => ?_)
  have ho12 : w10 a = some (.inr (5, [.ref (a + 1), .ref (a + 3), .ref (a + 5), .ref (a + 6), .ref (a + 7), .int (iI (σ 5)), .int (iI wd), .int (iI ht9), .int (iI 0), .int (iI 0), .int (iI (σ 2))])) := ho12
  have hg1 := (hn11 _ (by omega)).trans hg1
  have hg3 := (hn11 _ (by omega)).trans hg3
  have ht := (hn11 _ (by omega)).trans ht
  refine lv_aload_n F.1 F.2.1 dX5_reset_20 rfl (lv_at hl 0 rfl) ?_
  refine h_iconst F dX5_reset_21 ?_
  refine pf_RX5_53 F hW hS ho12 (Nat.le_of_ble_eq_true rfl) dX5_reset_22 (fun w13 H locs ho15 hn14 hW hS => ?_)
  have ho15 : w13 a = some (.inr (5, [.ref (a + 1), .ref (a + 3), .ref (a + 5), .ref (a + 6), .ref (a + 7), .int (iI (σ 5)), .int (iI wd), .int (iI ht9), .int (iI 0), .int (iI 0), .int (iI 4)])) := ho15
  have hg1 := (hn14 _ (by omega)).trans hg1
  have hg3 := (hn14 _ (by omega)).trans hg3
  have ht := (hn14 _ (by omega)).trans ht
  refine lv_aload_n F.1 F.2.1 dX5_reset_25 rfl (lv_at hl 0 rfl) ?_
  refine h_iconst F dX5_reset_26 ?_
  refine pf_RX5_56 F hW hS ho15 (Nat.le_of_ble_eq_true rfl) dX5_reset_27 (fun w16 H locs ho18 hn17 hW hS => ?_)
  have ho18 : w16 a = some (.inr (5, [.ref (a + 1), .ref (a + 3), .ref (a + 5), .ref (a + 6), .ref (a + 7), .int (iI 0), .int (iI wd), .int (iI ht9), .int (iI 0), .int (iI 0), .int (iI 4)])) := ho18
  have hg1 := (hn17 _ (by omega)).trans hg1
  have hg3 := (hn17 _ (by omega)).trans hg3
  have ht := (hn17 _ (by omega)).trans ht
  refine lv_aload_n F.1 F.2.1 dX5_reset_30 rfl (lv_at hl 0 rfl) ?_
  refine gf_RX5_21 F hW ho18 rfl dX5_reset_31 ?_
  refine h_sipush F dX5_reset_34 rfl ?_
  refine cl_RX5_59 (As := [.ref (a + 5), .int (iI 500)]) (rest := []) F hl (c_J7_fill_53178 l X w16 (a + 5) 7 t 500 ht (by omega)) hW hS rfl rfl ⟨Nat.le_of_ble_eq_true rfl, Nat.le_of_ble_eq_true rfl⟩ (Nat.le_of_ble_eq_true rfl) ⟨Nat.zero_le _, Nat.zero_le _⟩ dX5_reset_37 (fun w19 H locs hp20 hW hS => ?_)
  obtain ⟨ha21, hn22⟩ := hp20
  have ho18 := (hn22 _ (by omega)).trans ho18
  have hg1 := (hn22 _ (by omega)).trans hg1
  have hg3 := (hn22 _ (by omega)).trans hg3
  refine lv_aload_n F.1 F.2.1 dX5_reset_40 rfl (lv_at hl 0 rfl) ?_
  refine gf_RX5_12 F hW ho18 rfl dX5_reset_41 ?_
  refine h_iconst F dX5_reset_44 ?_
  have hgr := hgr.mv (w2 := w19) (by rw [hn22 _ (by omega), hn17 _ (by omega), hn14 _ (by omega), hn11 _ (by omega), hn8 _ (by omega), hn5 _ (by omega), hn2 _ (by omega)]) (by rw [hn22 _ (by omega), hn17 _ (by omega), hn14 _ (by omega), hn11 _ (by omega), hn8 _ (by omega), hn5 _ (by omega), hn2 _ (by omega)])
  refine cl_RX5_65 (As := [.int (iI 0)]) (rest := []) F hl (c_X3_clearFrom l X w19 (a + 1) gr 0 hgr (by omega)) hW hS hg1 rfl rfl ⟨Nat.le_of_ble_eq_true rfl, Nat.le_of_ble_eq_true rfl⟩ (Nat.le_of_ble_eq_true rfl) ⟨Nat.zero_le _, Nat.zero_le _⟩ dX5_reset_45 (fun w23 H locs hp24 hW hS => ?_)
  obtain ⟨hgs, hn25⟩ := hp24
  have ho18 := (hn25 _ (by omega)).trans ho18
  have hg1 := (hn25 _ (by omega)).trans hg1
  have hg3 := (hn25 _ (by omega)).trans hg3
  have ha21 := (hn25 _ (by omega)).trans ha21
  refine lv_aload_n F.1 F.2.1 dX5_reset_48 rfl (lv_at hl 0 rfl) ?_
  refine gf_RX5_18 F hW ho18 rfl dX5_reset_49 ?_
  have hgp := hgp.mv (w2 := w23) (by rw [hn25 _ (by omega), hn22 _ (by omega), hn17 _ (by omega), hn14 _ (by omega), hn11 _ (by omega), hn8 _ (by omega), hn5 _ (by omega), hn2 _ (by omega)]) (by rw [hn25 _ (by omega), hn22 _ (by omega), hn17 _ (by omega), hn14 _ (by omega), hn11 _ (by omega), hn8 _ (by omega), hn5 _ (by omega), hn2 _ (by omega)])
  refine cl_RX5_69 (As := []) (rest := []) F hl (c_X3_clearToGround l X w23 (a + 3) gp hgp) hW hS hg3 rfl rfl ⟨Nat.le_of_ble_eq_true rfl, Nat.le_of_ble_eq_true rfl⟩ (Nat.le_of_ble_eq_true rfl) ⟨Nat.zero_le _, Nat.zero_le _⟩ dX5_reset_52 (fun w26 H locs hp27 hW hS => ?_)
  obtain ⟨hgq, hn28⟩ := hp27
  have ho18 := (hn28 _ (by omega)).trans ho18
  have hg1 := (hn28 _ (by omega)).trans hg1
  have hg3 := (hn28 _ (by omega)).trans hg3
  have ha21 := (hn28 _ (by omega)).trans ha21
  exact h_vret F hr hlk hW hS ⟨lmA.up hA h8 ho18 ⟨_, hgs.mv (hn28 _ (by omega)) (hn28 _ (by omega)), fun c r h1 h2 h3 h4 => (by rw [res_cell (by omega)]; exact if_pos h3)⟩ ⟨_, hgq⟩ ⟨_, ha21, fun c h1 h2 => (by rw [res_st (by omega)]; exact if_pos ⟨h1, h2⟩)⟩ (fun q h1 h2 => (by rw [hn28 q (by omega), hn25 q (by omega), hn22 q (by omega), hn17 q (by omega), hn14 q (by omega), hn11 q (by omega), hn8 q (by omega), hn5 q (by omega), hn2 q (by omega)])) (fun k h1 h2 => absurd (show k < 0 from h2) (by omega)), ⟨_, hgq, fun c r h1 h2 h3 h4 => res_des.symm⟩, (fun q h09 h19 h29 h39 => by rw [hn28 q (by omega), hn25 q (by omega), hn22 q (by omega), hn17 q (by omega), hn14 q (by omega), hn11 q (by omega), hn8 q (by omega), hn5 q (by omega), hn2 q (by omega)])⟩ dX5_reset_55
