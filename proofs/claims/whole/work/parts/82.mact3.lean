/-! ===== captions changed by the reference ===== -/
def drN (σ : Int → Int) (lo i : Int) : Int → Int := fun p => if lo ≤ p ∧ p < i then σ (p + 13) else σ p
theorem drN_0 (σ : Int → Int) (lo : Int) : drN σ lo lo = σ := by
  funext p
  unfold drN
  exact if_neg (by omega)
theorem drN_s {σ : Int → Int} {lo i : Int} (h : lo ≤ i) : drN σ lo (i + 1) = up (drN σ lo i) i (drN σ lo i (i + 13)) := by
  funext p
  unfold up drN
  by_cases h1 : p = i
  · rw [if_pos h1, if_pos (by omega), if_neg (by omega), h1]
  · rw [if_neg h1]
    by_cases h2 : lo ≤ p ∧ p < i
    · rw [if_pos h2, if_pos (by omega)]
    · rw [if_neg h2, if_neg (by omega)]
theorem drN_lo {σ : Int → Int} {lo i p : Int} (h : p < lo) : drN σ lo i p = σ p := if_neg (by omega)
def drpS (σ : Int → Int) (k : Int) : Int → Int := up (drN σ (13 + 13 * k) 104) 5 (σ 5 - 1)
theorem drp_R {σ : Int → Int} {k : Int} (h8 : cap8 σ) (hk : 0 ≤ k ∧ k < σ 5) : dropR σ (drpS σ k) k := by
  have h5 := h8.1
  refine ⟨up_s _ _ _, fun p p0 p1 p2 => ?_, fun i i0 i1 j j0 j1 => ?_, fun i i0 i1 j j0 j1 => ?_, fun c r c0 c1 r0 r1 => ?_⟩
  · unfold drpS
    rw [up_n p2, drN_lo (by omega)]
  · unfold cp drpS
    rw [up_n (by omega), drN_lo (by omega)]
  · unfold cp drpS
    rw [up_n (by omega)]
    unfold drN
    rw [if_pos (by omega)]
    congr 1; omega
  · unfold cellS drpS
    rw [up_n (by omega)]
    unfold drN
    exact if_neg (by omega)
theorem mt_cg {σ τ : Int → Int} {n sd x y i k : Int} (h0 : τ 0 = σ 0) (hk : ∀ j, 0 ≤ j → j < 13 → cp τ k j = cp σ i j) : mtS τ n sd x y k = mtS σ n sd x y i := by
  unfold mtS lowC
  rw [h0, hk 0 (by decide) (by decide), hk 1 (by decide) (by decide), hk 2 (by decide) (by decide), hk 3 (by decide) (by decide)]
theorem drp_WF {σ τ : Int → Int} {k : Int} (h : WF σ) (hk : 0 ≤ k ∧ k < σ 5) (hd : dropR σ τ k) : WF τ := by
  obtain ⟨d1, d2, d3, d4, d5⟩ := hd
  obtain ⟨w0, w1, w2, w3, w4, w5⟩ := h
  unfold WF0 at w0
  have f0 := d2 0 (by decide) (by decide) (by decide)
  have f1 := d2 1 (by decide) (by decide) (by decide)
  have f2 := d2 2 (by decide) (by decide) (by decide)
  have f3 := d2 3 (by decide) (by decide) (by decide)
  have f4 := d2 4 (by decide) (by decide) (by decide)
  have hm : ∀ i, 0 ≤ i → i < τ 5 → ∃ i2, (0 ≤ i2 ∧ i2 < σ 5) ∧ (i2 = if i < k then i else i + 1) ∧ ∀ j, 0 ≤ j → j < 13 → cp τ i j = cp σ i2 j := by
    intro i i0 i1
    by_cases g : i < k
    · exact ⟨i, by omega, by rw [if_pos g], d3 i i0 g⟩
    · exact ⟨i + 1, by omega, by rw [if_neg g], d4 i (by omega) (by omega)⟩
  refine ⟨by unfold WF0; omega, fun c c0 c1 => by rw [d2 _ (by omega) (by omega) (by omega)]; exact w1 c c0 c1, fun i i0 i1 => ?_, fun c r c0 c1 r0 r1 => by rw [d5 c r c0 (by omega) r0 (by omega)]; exact w3 c r c0 (by omega) r0 (by omega), fun c r c0 c1 r0 r1 => by rw [d5 c r c0 (by omega) r0 (by omega)]; exact w4 c r c0 (by omega) r0 (by omega), fun i z i0 i1 z0 z1 hne => ?_⟩
  · obtain ⟨i2, a, -, b⟩ := hm i i0 i1
    obtain ⟨c1, c2, c3, c4, c5, c6⟩ := w2 i2 a.1 a.2
    have b0 := b 0 (by decide) (by decide)
    have b1 := b 1 (by decide) (by decide)
    have b2 := b 2 (by decide) (by decide)
    have b3 := b 3 (by decide) (by decide)
    have b4 := b 4 (by decide) (by decide)
    refine ⟨by omega, by omega, by omega, by omega, by omega, fun j j0 j1 => ?_⟩
    rw [b (5 + j) (by omega) (by omega)]
    exact c6 j j0 (by omega)
  · obtain ⟨i2, a, e, b⟩ := hm i i0 i1
    obtain ⟨z2, a2, e2, b2⟩ := hm z z0 z1
    rw [b 0 (by decide) (by decide), b 1 (by decide) (by decide), b 2 (by decide) (by decide), b 3 (by decide) (by decide), mt_cg f0 b2]
    refine w5 i2 z2 a.1 a.2 a2.1 a2.2 ?_
    split at e <;> split at e2 <;> omega
theorem mt_sy {σ : Int → Int} {i k : Int} : mtS σ (cp σ i 0) (cp σ i 1) (cp σ i 2) (cp σ i 3) k = mtS σ (cp σ k 0) (cp σ k 1) (cp σ k 2) (cp σ k 3) i := by
  unfold mtS
  rw [Bool.and_comm (decide (lowC σ (cp σ i 0) (cp σ i 1) (cp σ i 2) ≤ _)), Bool.and_comm (decide (cp σ i 3 ≤ cp σ k 3 + 4))]
/-- one caption is changed, or a further one hung -/
theorem WF.cap {σ τ : Int → Int} (h : WF σ) {k0 : Int} (hn : τ 5 = σ 5 ∧ (0 ≤ k0 ∧ k0 < σ 5) ∨ τ 5 = σ 5 + 1 ∧ k0 = σ 5 ∧ σ 5 < 8) (hlo : ∀ p, 0 ≤ p → p < 13 → p ≠ 5 → τ p = σ p) (hcp : ∀ k, 0 ≤ k → k < σ 5 → k ≠ k0 → ∀ j, 0 ≤ j → j < 13 → cp τ k j = cp σ k j) (hok : capOK τ k0) (hmt : ∀ k, 0 ≤ k → k < σ 5 → k ≠ k0 → mtS σ (cp τ k0 0) (cp τ k0 1) (cp τ k0 2) (cp τ k0 3) k = false) (hce : ∀ c r, 0 ≤ c → c < 40 → 0 ≤ r → r < 30 → cellS τ c r = cellS σ c r) : WF τ := by
  obtain ⟨w0, w1, w2, w3, w4, w5⟩ := h
  unfold WF0 at w0
  have f0 := hlo 0 (by decide) (by decide) (by decide)
  have f1 := hlo 1 (by decide) (by decide) (by decide)
  have f2 := hlo 2 (by decide) (by decide) (by decide)
  have f3 := hlo 3 (by decide) (by decide) (by decide)
  have f4 := hlo 4 (by decide) (by decide) (by decide)
  have hm : ∀ k, 0 ≤ k → k < σ 5 → k ≠ k0 → mtS τ (cp τ k0 0) (cp τ k0 1) (cp τ k0 2) (cp τ k0 3) k = false := fun k a b c => by rw [mt_cg f0 (hcp k a b c)]; exact hmt k a b c
  refine ⟨by unfold WF0; omega, fun c c0 c1 => by rw [hlo _ (by omega) (by omega) (by omega)]; exact w1 c c0 c1, fun i i0 i1 => ?_, fun c r c0 c1 r0 r1 => by rw [hce c r c0 (by omega) r0 (by omega)]; exact w3 c r c0 (by omega) r0 (by omega), fun c r c0 c1 r0 r1 => by rw [hce c r c0 (by omega) r0 (by omega)]; exact w4 c r c0 (by omega) r0 (by omega), fun i z i0 i1 z0 z1 hne => ?_⟩
  · by_cases g : i = k0
    · rw [g]; exact hok
    · exact capOK_congr f0 f1 (hcp i i0 (by omega) g) (w2 i i0 (by omega))
  · by_cases g : i = k0
    · rw [g]; exact hm z z0 (by omega) (by omega)
    · by_cases g2 : z = k0
      · rw [g2, mt_sy]; exact hm i i0 (by omega) g
      · have b := hcp i i0 (by omega) g
        rw [b 0 (by decide) (by decide), b 1 (by decide) (by decide), b 2 (by decide) (by decide), b 3 (by decide) (by decide), mt_cg f0 (hcp z z0 (by omega) g2)]
        exact w5 i z i0 (by omega) z0 (by omega) hne
theorem why_0 {σ : Int → Int} {n sd x y bu : Int} (h : whyS σ n sd x y bu = 0) : (0 ≤ x ∧ 0 ≤ y ∧ x + 4 * n - 2 < σ 0 ∧ y + 4 < σ 1) ∧ ∀ k, 0 ≤ k → k < σ 5 → k ≠ bu → mtS σ n sd x y k = false := by
  unfold whyS at h
  by_cases g : liesS σ n x y = false
  · rw [if_pos g] at h; omega
  · rw [if_neg g] at h
    by_cases g2 : meetS σ n sd x y bu = true
    · rw [if_pos g2] at h; omega
    · refine ⟨of_decide_eq_true (by unfold liesS at g; exact Bool.not_eq_false _ ▸ g), fun k k0 k1 k2 => ?_⟩
      have g3 := ex_f.mp (Bool.eq_false_iff.mpr g2) k k0 k1
      rw [decide_eq_true k2, Bool.true_and] at g3
      exact g3
def movS (σ : Int → Int) (k x y : Int) : Int → Int := up (up σ (13 + 13 * k + 2) x) (13 + 13 * k + 3) y
theorem mov_lo {σ : Int → Int} {k x y p : Int} (h : p ≠ 13 + 13 * k + 2 ∧ p ≠ 13 + 13 * k + 3) : movS σ k x y p = σ p := by
  unfold movS
  rw [up_n (by omega), up_n (by omega)]
theorem mov_WF {σ : Int → Int} {k x y : Int} (h : WF σ) (hk : 0 ≤ k ∧ k < σ 5) (hw : whyS σ (cp σ k 0) (cp σ k 1) x y k = 0) : WF (movS σ k x y) := by
  obtain ⟨c1, c2, c3, c4, c5, c6⟩ := h.2.2.1 k hk.1 hk.2
  obtain ⟨g1, g2⟩ := why_0 hw
  have w0 := h.1
  unfold WF0 at w0
  have e : ∀ j, j ≠ 2 → j ≠ 3 → cp (movS σ k x y) k j = cp σ k j := fun j j2 j3 => mov_lo (by omega)
  have e2 : cp (movS σ k x y) k 2 = x := by
    unfold cp movS
    rw [up_n (by omega), up_s]
  have e3 : cp (movS σ k x y) k 3 = y := up_s _ _ _
  have e0 : movS σ k x y 0 = σ 0 := mov_lo (by omega)
  have e1 : movS σ k x y 1 = σ 1 := mov_lo (by omega)
  have e5 : movS σ k x y 5 = σ 5 := mov_lo (by omega)
  refine h.cap (k0 := k) (Or.inl ⟨e5, hk⟩) (fun p p0 p1 p2 => mov_lo (by omega)) (fun i i0 i1 i2 j j0 j1 => mov_lo (by omega)) ?_ (fun i i0 i1 i2 => ?_) (fun c r c0 c1 r0 r1 => mov_lo (by omega))
  · unfold capOK
    rw [e 0 (by decide) (by decide), e 1 (by decide) (by decide), e2, e3, e 4 (by decide) (by decide), e0, e1]
    exact ⟨c1, c2, by omega, by omega, c5, fun j j0 j1 => by rw [e _ (by omega) (by omega)]; exact c6 j j0 j1⟩
  · rw [e 0 (by decide) (by decide), e 1 (by decide) (by decide), e2, e3]
    exact g2 i i0 i1 i2
def adB (σ : Int → Int) (n sd x y co : Int) : Int → Int := up (up (up (up (up σ (13 + 13 * σ 5 + 0) n) (13 + 13 * σ 5 + 1) sd) (13 + 13 * σ 5 + 2) x) (13 + 13 * σ 5 + 3) y) (13 + 13 * σ 5 + 4) co
def adW (g : Int → Int) (a n : Int) (tx : Int → Int) (j : Int) : Int → Int := fun p => if a + 5 ≤ p ∧ p < a + 5 + j then (if p - (a + 5) < n then tx (p - (a + 5)) - 97 else 0) else g p
theorem adW_0 (g : Int → Int) (a n : Int) (tx : Int → Int) : adW g a n tx 0 = g := by
  funext p
  unfold adW
  exact if_neg (by omega)
theorem adW_s (g : Int → Int) (a n : Int) (tx : Int → Int) {j : Int} (h : 0 ≤ j) : up (adW g a n tx j) (a + 5 + j) (if j < n then tx j - 97 else 0) = adW g a n tx (j + 1) := by
  funext p
  unfold up adW
  by_cases h1 : p = a + 5 + j
  · rw [if_pos h1, if_pos (show a + 5 ≤ p ∧ p < a + 5 + (j + 1) by omega), show p - (a + 5) = j by omega]
  · rw [if_neg h1]
    by_cases h2 : a + 5 ≤ p ∧ p < a + 5 + j
    · rw [if_pos h2, if_pos (show a + 5 ≤ p ∧ p < a + 5 + (j + 1) by omega)]
    · rw [if_neg h2, if_neg (show ¬ (a + 5 ≤ p ∧ p < a + 5 + (j + 1)) by omega)]
theorem adB_lo {σ : Int → Int} {n sd x y co p : Int} (h : p < 13 + 13 * σ 5 ∨ 13 + 13 * σ 5 + 5 ≤ p) : adB σ n sd x y co p = σ p := by
  unfold adB
  rw [up_n (by omega), up_n (by omega), up_n (by omega), up_n (by omega), up_n (by omega)]
theorem adW_5 {σ : Int → Int} {n sd x y co j : Int} {tx : Int → Int} (h : 0 ≤ σ 5) : adW (adB σ n sd x y co) (13 + 13 * σ 5) n tx j 5 = σ 5 := by
  unfold adW
  rw [if_neg (by omega), adB_lo (by omega)]
def adS (σ : Int → Int) (n sd x y co : Int) (tx : Int → Int) : Int → Int := up (adW (adB σ n sd x y co) (13 + 13 * σ 5) n tx 8) 5 (σ 5 + 1)
theorem ad_lo {σ : Int → Int} {n sd x y co p : Int} {tx : Int → Int} (h : p < 13 + 13 * σ 5 ∨ 26 + 13 * σ 5 ≤ p) (h5 : p ≠ 5) : adS σ n sd x y co tx p = σ p := by
  unfold adS
  rw [up_n h5]
  unfold adW
  rw [if_neg (by omega), adB_lo (by omega)]
/-- the row with a caption more -/
theorem ad_R {σ : Int → Int} {n sd x y co : Int} {tx f : Int → Int} (h8 : cap8 σ) (h58 : σ 5 < 8) (hn : 1 ≤ n ∧ n ≤ 8) (hf : ∀ j, 0 ≤ j → j < n → f j = tx j - 97 + 1) : hangR σ (adS σ n sd x y co tx) n sd x y co f := by
  have h5 := h8.1
  have hb : ∀ j, 0 ≤ j → j < 5 → cp (adS σ n sd x y co tx) (σ 5) j = adB σ n sd x y co (13 + 13 * σ 5 + j) := by
    intro j j0 j1
    unfold cp adS
    rw [up_n (by omega)]
    unfold adW
    rw [if_neg (by omega)]
  refine ⟨up_s _ _ _, fun p p0 p1 p2 => ad_lo (by omega) p2, fun k k0 k1 j j0 j1 => ad_lo (by omega) (by omega), ?_, fun j j0 j1 => ?_, fun c r c0 c1 r0 r1 => ad_lo (by omega) (by omega)⟩
  · refine ⟨?_, ?_, ?_, ?_, ?_⟩
    · rw [hb 0 (by decide) (by decide)]; unfold adB
      rw [up_n (by omega), up_n (by omega), up_n (by omega), up_n (by omega), up_s]
    · rw [hb 1 (by decide) (by decide)]; unfold adB
      rw [up_n (by omega), up_n (by omega), up_n (by omega), up_s]
    · rw [hb 2 (by decide) (by decide)]; unfold adB
      rw [up_n (by omega), up_n (by omega), up_s]
    · rw [hb 3 (by decide) (by decide)]; unfold adB
      rw [up_n (by omega), up_s]
    · rw [hb 4 (by decide) (by decide)]; unfold adB
      rw [up_s]
  · rw [hf j j0 j1]
    unfold cp adS
    rw [up_n (by omega)]
    unfold adW
    rw [if_pos (by omega), if_pos (by omega), show 13 + 13 * σ 5 + (5 + j) - (13 + 13 * σ 5 + 5) = j by omega]
theorem hang_WF {σ τ : Int → Int} {n sd x y co : Int} {f : Int → Int} (h : WF σ) (h58 : σ 5 < 8) (hd : hangR σ τ n sd x y co f) (hn : 1 ≤ n ∧ n ≤ 8) (hs : sd = 0 ∨ sd = 1) (hco : 1 ≤ co ∧ co ≤ 6) (hf : ∀ j, 0 ≤ j → j < n → 1 ≤ f j ∧ f j ≤ 26) (hw : whyS σ n sd x y (-1) = 0) : WF τ := by
  obtain ⟨d1, d2, d3, ⟨b0, b1, b2, b3, b4⟩, d5, d6⟩ := hd
  obtain ⟨g1, g2⟩ := why_0 hw
  have w0 := h.1
  unfold WF0 at w0
  have f0 := d2 0 (by decide) (by decide) (by decide)
  have f1 := d2 1 (by decide) (by decide) (by decide)
  refine h.cap (k0 := σ 5) (Or.inr ⟨d1, rfl, h58⟩) d2 (fun k k0 k1 _ => d3 k k0 k1) ?_ (fun k k0 k1 _ => ?_) d6
  · unfold capOK
    rw [b0, b1, b2, b3, b4, f0, f1]
    refine ⟨hn, hs, by omega, by omega, hco, fun j j0 j1 => ?_⟩
    have := d5 j j0 j1
    have := hf j j0 j1
    omega
  · rw [b0, b1, b2, b3]
    exact g2 k k0 k1 (by omega)
set_option maxHeartbeats 4000000 in
set_option maxRecDepth 100000 in
theorem c_X9_setStock (l : Launch) (X : Cx) (w : Wo) (mo : Nat) (v σ : Int → Int) (pa : Int → Int) (k x : Int) (hM : w mo = some (.inr (9, mL mo v))) (hs : w (mo + 1) = some (aZ X 1317 σ)) (hwf : WF σ) (hpa : w (mo + 3) = some (aZ X 10536 pa)) (hun : 0 ≤ v 5 ∧ v 5 ≤ 8) (h1 : 0 ≤ k ∧ k ≤ 6) (h2 : 0 ≤ x ∧ x ≤ 9999) : CM l X yX9_setStock cX9_setStock 4 (some (.int)) (rmk 2 45) [.ref mo, .int (iI k), .int (iI x)] w (some (.int (iI (σ (6 + k))))) (fun w' => w' mo = some (.inr (9, mL mo (up (up (up v 6 0) 5 (min 8 (v 5 + 1))) 8 (v 8 + 1)))) ∧ w' (mo + 1) = some (aZ X 1317 (up σ (6 + k) x)) ∧ w' (mo + 3) = some (aZ X 10536 (actP (v 5) pa σ)) ∧ ∀ q : Nat, q ≠ mo → q ≠ mo + 1 → q ≠ mo + 3 → w' q = w q) := by
  refine CM.of (lv := [(0, .ref mo), (1, .int (iI k)), (2, .int (iI x))]) (by decide) (Nat.le_of_ble_eq_true rfl) rfl (fun p e s m below meth c ls F hr hlk hin hW hS hl => ?_)
  have hZ0 := hW.2.2
  have hB9 := hW.1.2
  clear hin
  have hF := hwf.1
  unfold WF0 at hF
  refine lv_aload_n F.1 F.2.1 dX9_setStock_0 rfl (lv_at hl 0 rfl) ?_
  refine lv_iload_n F.1 F.2.1 dX9_setStock_1 rfl (lv_at hl 1 rfl) ?_
  refine cl_RX9_195 (As := [.int (iI k)]) (rest := [.ref mo]) F hl (c_X9_isColour l X w k (by omega)) hW hS rfl rfl ⟨Nat.le_of_ble_eq_true rfl, Nat.le_of_ble_eq_true rfl⟩ (Nat.le_of_ble_eq_true rfl) ⟨Nat.zero_le _, Nat.zero_le _⟩ dX9_setStock_2 (fun w1 H locs hp1 hW hS => ?_)
  rw [hp1] at hW; clear hp1; clear w1
  refine h_top (show (bz (decide (0 ≤ k ∧ k ≤ 6)) : Int) = bz true from congrArg bz (decide_eq_true (by omega))) ?_
  refine lv_iload_n F.1 F.2.1 dX9_setStock_5 rfl (lv_at hl 2 rfl) ?_
  refine h_i2l F dX9_setStock_6 (by omega) ?_
  refine h_lconst (n := 0) (z := 0) F dX9_setStock_7 rfl ?_
  refine h_ldc2 (n := 9999) F kk_RX9_274 dX9_setStock_8 ?_
  refine cl_RX9_82 (As := [.long (lI x), .long (lI 0), .long (lI 9999)]) (rest := [.int (iI (bz true)), .ref mo]) F hl (c_X9_isIn l X w x 0 9999 (by omega) (by omega) (by omega)) hW hS rfl rfl ⟨Nat.le_of_ble_eq_true rfl, Nat.le_of_ble_eq_true rfl⟩ (Nat.le_of_ble_eq_true rfl) ⟨Nat.zero_le _, Nat.zero_le _⟩ dX9_setStock_11 (fun w1 H locs hp2 hW hS => ?_)
  rw [hp2] at hW; clear hp2; clear w1
  refine h_top (show (bz (decide (0 ≤ x ∧ x ≤ 9999)) : Int) = bz true from congrArg bz (decide_eq_true (by omega))) ?_
  refine cl_RX9_163 (As := [.int (iI (bz true)), .int (iI (bz true))]) (rest := []) F hl (c_both_tt l X w mo v σ hM hs hwf) hW hS hM rfl rfl ⟨Nat.le_of_ble_eq_true rfl, Nat.le_of_ble_eq_true rfl⟩ (Nat.le_of_ble_eq_true rfl) ⟨Nat.zero_le _, Nat.zero_le _⟩ dX9_setStock_14 (fun w3 H locs hp4 hW hS => ?_)
  obtain ⟨ho5, hn6⟩ := hp4
  have hs := (hn6 _ (by omega)).trans hs
  have hpa := (hn6 _ (by omega)).trans hpa
  refine h_ifneb (tgt := 22) F dX9_setStock_17 (by decide) (fun _ => ?_) (fun c9 => absurd c9 (by decide))
  refine lv_aload_n F.1 F.2.1 dX9_setStock_22 rfl (lv_at hl 0 rfl) ?_
  refine gf_RX9_7 F hW ho5 rfl dX9_setStock_23 ?_
  refine h_bipush F dX9_setStock_26 rfl ?_
  refine lv_iload_n F.1 F.2.1 dX9_setStock_28 rfl (lv_at hl 1 rfl) ?_
  refine h_iadd (a := 6) (b := k) F dX9_setStock_29 ?_
  refine h_iald F hW hs (by omega) (by omega) dX9_setStock_30 ?_
  refine lv_istore_n (lv' := [(3, .int (iI (σ (6 + k)))), (0, .ref mo), (1, .int (iI k)), (2, .int (iI x))]) F.1 F.2.1 dX9_setStock_31 rfl hl (by decide) rfl (fun ls hl => ?_)
  refine lv_aload_n F.1 F.2.1 dX9_setStock_32 rfl (lv_at hl 1 rfl) ?_
  refine cl_RX9_250 (As := []) (rest := []) F hl (c_X9_acts l X w3 mo (up v 6 0) σ pa ho5 hs hpa hun) hW hS ho5 rfl rfl ⟨Nat.le_of_ble_eq_true rfl, Nat.le_of_ble_eq_true rfl⟩ (Nat.le_of_ble_eq_true rfl) ⟨Nat.zero_le _, Nat.zero_le _⟩ dX9_setStock_33 (fun w8 H locs hp9 hW hS => ?_)
  obtain ⟨ho10, ha11, hn12⟩ := hp9
  have hs := (hn12 _ (by omega) (by omega)).trans hs
  refine lv_aload_n F.1 F.2.1 dX9_setStock_36 rfl (lv_at hl 1 rfl) ?_
  refine gf_RX9_7 F hW ho10 rfl dX9_setStock_37 ?_
  refine h_bipush F dX9_setStock_40 rfl ?_
  refine lv_iload_n F.1 F.2.1 dX9_setStock_42 rfl (lv_at hl 2 rfl) ?_
  refine h_iadd (a := 6) (b := k) F dX9_setStock_43 ?_
  refine lv_iload_n F.1 F.2.1 dX9_setStock_44 rfl (lv_at hl 3 rfl) ?_
  refine h_iast F hW hS hs (by omega) (by omega) dX9_setStock_45 (fun w13 H locs ho15 hn14 hW hS => ?_)
  have ho10 := (hn14 _ (by omega)).trans ho10
  have ha11 := (hn14 _ (by omega)).trans ha11
  refine lv_iload_n F.1 F.2.1 dX9_setStock_46 rfl (lv_at hl 0 rfl) ?_
  exact h_ireti F hr hlk hW hS ⟨(by (rw [ho10]) <;> (rfl)), ho15, (by (rw [ha11]) <;> (rfl)), (fun q h09 h19 h29 => by rw [hn14 q (by omega), hn12 q (by omega) (by omega), hn6 q (by omega)])⟩ dX9_setStock_47
set_option maxHeartbeats 4000000 in
set_option maxRecDepth 100000 in
theorem c_X9_setStock_x2 (l : Launch) (X : Cx) (w : Wo) (mo : Nat) (v σ : Int → Int) (k x : Int) (hM : w mo = some (.inr (9, mL mo v))) (hs : w (mo + 1) = some (aZ X 1317 σ)) (hwf : WF σ) (hk : -2147483648 ≤ k ∧ k < 2147483648) (hx : -2147483648 ≤ x ∧ x < 2147483648) (h1 : 0 ≤ k ∧ k ≤ 6) (h2 : ¬ (0 ≤ x ∧ x ≤ 9999)) : CM l X yX9_setStock cX9_setStock 4 (some (.int)) (rmk 2 45) [.ref mo, .int (iI k), .int (iI x)] w (some (.int (iI 0))) (fun w' => w' mo = some (.inr (9, mL mo (up v 6 2))) ∧ ∀ q : Nat, q ≠ mo → w' q = w q) := by
  refine CM.of (lv := [(0, .ref mo), (1, .int (iI k)), (2, .int (iI x))]) (by decide) (Nat.le_of_ble_eq_true rfl) rfl (fun p e s m below meth c ls F hr hlk hin hW hS hl => ?_)
  have hZ0 := hW.2.2
  have hB9 := hW.1.2
  clear hin
  have hF := hwf.1
  unfold WF0 at hF
  refine lv_aload_n F.1 F.2.1 dX9_setStock_0 rfl (lv_at hl 0 rfl) ?_
  refine lv_iload_n F.1 F.2.1 dX9_setStock_1 rfl (lv_at hl 1 rfl) ?_
  refine cl_RX9_195 (As := [.int (iI k)]) (rest := [.ref mo]) F hl (c_X9_isColour l X w k (by omega)) hW hS rfl rfl ⟨Nat.le_of_ble_eq_true rfl, Nat.le_of_ble_eq_true rfl⟩ (Nat.le_of_ble_eq_true rfl) ⟨Nat.zero_le _, Nat.zero_le _⟩ dX9_setStock_2 (fun w1 H locs hp1 hW hS => ?_)
  rw [hp1] at hW; clear hp1; clear w1
  refine h_top (show (bz (decide (0 ≤ k ∧ k ≤ 6)) : Int) = bz true from congrArg bz (decide_eq_true (by omega))) ?_
  refine lv_iload_n F.1 F.2.1 dX9_setStock_5 rfl (lv_at hl 2 rfl) ?_
  refine h_i2l F dX9_setStock_6 (by omega) ?_
  refine h_lconst (n := 0) (z := 0) F dX9_setStock_7 rfl ?_
  refine h_ldc2 (n := 9999) F kk_RX9_274 dX9_setStock_8 ?_
  refine cl_RX9_82 (As := [.long (lI x), .long (lI 0), .long (lI 9999)]) (rest := [.int (iI (bz true)), .ref mo]) F hl (c_X9_isIn l X w x 0 9999 (by omega) (by omega) (by omega)) hW hS rfl rfl ⟨Nat.le_of_ble_eq_true rfl, Nat.le_of_ble_eq_true rfl⟩ (Nat.le_of_ble_eq_true rfl) ⟨Nat.zero_le _, Nat.zero_le _⟩ dX9_setStock_11 (fun w1 H locs hp2 hW hS => ?_)
  rw [hp2] at hW; clear hp2; clear w1
  refine h_top (show (bz (decide (0 ≤ x ∧ x ≤ 9999)) : Int) = bz false from congrArg bz (decide_eq_false (by omega))) ?_
  refine cl_RX9_163 (As := [.int (iI (bz true)), .int (iI (bz false))]) (rest := []) F hl (c_both_tf l X w mo v σ hM hs hwf) hW hS hM rfl rfl ⟨Nat.le_of_ble_eq_true rfl, Nat.le_of_ble_eq_true rfl⟩ (Nat.le_of_ble_eq_true rfl) ⟨Nat.zero_le _, Nat.zero_le _⟩ dX9_setStock_14 (fun w3 H locs hp4 hW hS => ?_)
  obtain ⟨ho5, hn6⟩ := hp4
  have hs := (hn6 _ (by omega)).trans hs
  refine h_ifneb (tgt := 22) F dX9_setStock_17 (by decide) (fun c9 => absurd c9 (by decide)) (fun _ => ?_)
  refine h_iconst F dX9_setStock_20 ?_
  exact h_ireti F hr hlk hW hS ⟨ho5, (fun q h09 => by rw [hn6 q (by omega)])⟩ dX9_setStock_21
set_option maxHeartbeats 4000000 in
set_option maxRecDepth 100000 in
theorem c_X9_setStock_x1 (l : Launch) (X : Cx) (w : Wo) (mo : Nat) (v σ : Int → Int) (k x : Int) (hM : w mo = some (.inr (9, mL mo v))) (hs : w (mo + 1) = some (aZ X 1317 σ)) (hwf : WF σ) (hk : -2147483648 ≤ k ∧ k < 2147483648) (hx : -2147483648 ≤ x ∧ x < 2147483648) (h1 : ¬ (0 ≤ k ∧ k ≤ 6)) : CM l X yX9_setStock cX9_setStock 4 (some (.int)) (rmk 2 45) [.ref mo, .int (iI k), .int (iI x)] w (some (.int (iI 0))) (fun w' => w' mo = some (.inr (9, mL mo (up v 6 1))) ∧ ∀ q : Nat, q ≠ mo → w' q = w q) := by
  refine CM.of (lv := [(0, .ref mo), (1, .int (iI k)), (2, .int (iI x))]) (by decide) (Nat.le_of_ble_eq_true rfl) rfl (fun p e s m below meth c ls F hr hlk hin hW hS hl => ?_)
  have hZ0 := hW.2.2
  have hB9 := hW.1.2
  clear hin
  have hF := hwf.1
  unfold WF0 at hF
  refine lv_aload_n F.1 F.2.1 dX9_setStock_0 rfl (lv_at hl 0 rfl) ?_
  refine lv_iload_n F.1 F.2.1 dX9_setStock_1 rfl (lv_at hl 1 rfl) ?_
  refine cl_RX9_195 (As := [.int (iI k)]) (rest := [.ref mo]) F hl (c_X9_isColour l X w k (by omega)) hW hS rfl rfl ⟨Nat.le_of_ble_eq_true rfl, Nat.le_of_ble_eq_true rfl⟩ (Nat.le_of_ble_eq_true rfl) ⟨Nat.zero_le _, Nat.zero_le _⟩ dX9_setStock_2 (fun w1 H locs hp1 hW hS => ?_)
  rw [hp1] at hW; clear hp1; clear w1
  refine h_top (show (bz (decide (0 ≤ k ∧ k ≤ 6)) : Int) = bz false from congrArg bz (decide_eq_false (by omega))) ?_
  refine lv_iload_n F.1 F.2.1 dX9_setStock_5 rfl (lv_at hl 2 rfl) ?_
  refine h_i2l F dX9_setStock_6 (by omega) ?_
  refine h_lconst (n := 0) (z := 0) F dX9_setStock_7 rfl ?_
  refine h_ldc2 (n := 9999) F kk_RX9_274 dX9_setStock_8 ?_
  refine cl_RX9_82 (As := [.long (lI x), .long (lI 0), .long (lI 9999)]) (rest := [.int (iI (bz false)), .ref mo]) F hl (c_X9_isIn l X w x 0 9999 (by omega) (by omega) (by omega)) hW hS rfl rfl ⟨Nat.le_of_ble_eq_true rfl, Nat.le_of_ble_eq_true rfl⟩ (Nat.le_of_ble_eq_true rfl) ⟨Nat.zero_le _, Nat.zero_le _⟩ dX9_setStock_11 (fun w1 H locs hp2 hW hS => ?_)
  rw [hp2] at hW; clear hp2; clear w1
  refine cl_RX9_163 (As := [.int (iI (bz false)), .int (iI (bz (decide (0 ≤ x ∧ x ≤ 9999))))]) (rest := []) F hl (c_both_f l X w mo v σ (decide (0 ≤ x ∧ x ≤ 9999)) hM hs hwf) hW hS hM rfl rfl ⟨Nat.le_of_ble_eq_true rfl, Nat.le_of_ble_eq_true rfl⟩ (Nat.le_of_ble_eq_true rfl) ⟨Nat.zero_le _, Nat.zero_le _⟩ dX9_setStock_14 (fun w3 H locs hp4 hW hS => ?_)
  obtain ⟨ho5, hn6⟩ := hp4
  have hs := (hn6 _ (by omega)).trans hs
  refine h_ifneb (tgt := 22) F dX9_setStock_17 (by decide) (fun c9 => absurd c9 (by decide)) (fun _ => ?_)
  refine h_iconst F dX9_setStock_20 ?_
  exact h_ireti F hr hlk hW hS ⟨ho5, (fun q h09 => by rw [hn6 q (by omega)])⟩ dX9_setStock_21
set_option maxHeartbeats 4000000 in
set_option maxRecDepth 100000 in
theorem c_X9_setDelay (l : Launch) (X : Cx) (w : Wo) (mo : Nat) (v σ : Int → Int) (pa : Int → Int) (d : Int) (hM : w mo = some (.inr (9, mL mo v))) (hs : w (mo + 1) = some (aZ X 1317 σ)) (hwf : WF σ) (hpa : w (mo + 3) = some (aZ X 10536 pa)) (hun : 0 ≤ v 5 ∧ v 5 ≤ 8) (hd : 0 ≤ d ∧ d ≤ 30) (he : d ≠ σ 2) : CM l X yX9_setDelay cX9_setDelay 3 (some (.int)) (rmk 2 45) [.ref mo, .int (iI d)] w (some (.int (iI (σ 2)))) (fun w' => w' mo = some (.inr (9, mL mo (up (up (up v 6 0) 5 (min 8 (v 5 + 1))) 8 (v 8 + 1)))) ∧ w' (mo + 1) = some (aZ X 1317 (up σ 2 d)) ∧ w' (mo + 3) = some (aZ X 10536 (actP (v 5) pa σ)) ∧ ∀ q : Nat, q ≠ mo → q ≠ mo + 1 → q ≠ mo + 3 → w' q = w q) := by
  refine CM.of (lv := [(0, .ref mo), (1, .int (iI d))]) (by decide) (Nat.le_of_ble_eq_true rfl) rfl (fun p e s m below meth c ls F hr hlk hin hW hS hl => ?_)
  have hZ0 := hW.2.2
  have hB9 := hW.1.2
  clear hin
  have hF := hwf.1
  unfold WF0 at hF
  refine lv_aload_n F.1 F.2.1 dX9_setDelay_0 rfl (lv_at hl 0 rfl) ?_
  refine lv_iload_n F.1 F.2.1 dX9_setDelay_1 rfl (lv_at hl 1 rfl) ?_
  refine h_i2l F dX9_setDelay_2 (by omega) ?_
  refine h_lconst (n := 0) (z := 0) F dX9_setDelay_3 rfl ?_
  refine h_ldc2 (n := 30) F kk_RX9_211 dX9_setDelay_4 ?_
  refine cl_RX9_82 (As := [.long (lI d), .long (lI 0), .long (lI 30)]) (rest := [.ref mo]) F hl (c_X9_isIn l X w d 0 30 (by omega) (by omega) (by omega)) hW hS rfl rfl ⟨Nat.le_of_ble_eq_true rfl, Nat.le_of_ble_eq_true rfl⟩ (Nat.le_of_ble_eq_true rfl) ⟨Nat.zero_le _, Nat.zero_le _⟩ dX9_setDelay_7 (fun w1 H locs hp1 hW hS => ?_)
  rw [hp1] at hW; clear hp1; clear w1
  refine h_top (show (bz (decide (0 ≤ d ∧ d ≤ 30)) : Int) = bz true from congrArg bz (decide_eq_true (by omega))) ?_
  refine cl_RX9_74 (As := [.int (iI (bz true))]) (rest := []) F hl (c_pass_t l X w mo v σ hM hs hwf) hW hS hM rfl rfl ⟨Nat.le_of_ble_eq_true rfl, Nat.le_of_ble_eq_true rfl⟩ (Nat.le_of_ble_eq_true rfl) ⟨Nat.zero_le _, Nat.zero_le _⟩ dX9_setDelay_10 (fun w2 H locs hp3 hW hS => ?_)
  obtain ⟨ho4, hn5⟩ := hp3
  have hs := (hn5 _ (by omega)).trans hs
  have hpa := (hn5 _ (by omega)).trans hpa
  refine h_ifneb (tgt := 18) F dX9_setDelay_13 (by decide) (fun _ => ?_) (fun c9 => absurd c9 (by decide))
  refine lv_aload_n F.1 F.2.1 dX9_setDelay_18 rfl (lv_at hl 0 rfl) ?_
  refine gf_RX9_7 F hW ho4 rfl dX9_setDelay_19 ?_
  refine h_iconst F dX9_setDelay_22 ?_
  refine h_iald F hW hs (by omega) (by omega) dX9_setDelay_23 ?_
  refine lv_istore_n (lv' := [(2, .int (iI (σ 2))), (0, .ref mo), (1, .int (iI d))]) F.1 F.2.1 dX9_setDelay_24 rfl hl (by decide) rfl (fun ls hl => ?_)
  refine lv_iload_n F.1 F.2.1 dX9_setDelay_25 rfl (lv_at hl 0 rfl) ?_
  refine lv_iload_n F.1 F.2.1 dX9_setDelay_26 rfl (lv_at hl 2 rfl) ?_
  refine h_icne (tgt := 37) F dX9_setDelay_27 (by decide) (by omega) (fun c7 => ?_) (fun c7 => ?_)
  · refine lv_aload_n F.1 F.2.1 dX9_setDelay_37 rfl (lv_at hl 1 rfl) ?_
    refine cl_RX9_250 (As := []) (rest := []) F hl (c_X9_acts l X w2 mo (up v 6 0) σ pa ho4 hs hpa hun) hW hS ho4 rfl rfl ⟨Nat.le_of_ble_eq_true rfl, Nat.le_of_ble_eq_true rfl⟩ (Nat.le_of_ble_eq_true rfl) ⟨Nat.zero_le _, Nat.zero_le _⟩ dX9_setDelay_38 (fun w8 H locs hp9 hW hS => ?_)
    obtain ⟨ho10, ha11, hn12⟩ := hp9
    have hs := (hn12 _ (by omega) (by omega)).trans hs
    refine lv_aload_n F.1 F.2.1 dX9_setDelay_41 rfl (lv_at hl 1 rfl) ?_
    refine gf_RX9_7 F hW ho10 rfl dX9_setDelay_42 ?_
    refine h_iconst F dX9_setDelay_45 ?_
    refine lv_iload_n F.1 F.2.1 dX9_setDelay_46 rfl (lv_at hl 2 rfl) ?_
    refine h_iast F hW hS hs (by omega) (by omega) dX9_setDelay_47 (fun w13 H locs ho15 hn14 hW hS => ?_)
    have ho10 := (hn14 _ (by omega)).trans ho10
    have ha11 := (hn14 _ (by omega)).trans ha11
    refine lv_iload_n F.1 F.2.1 dX9_setDelay_48 rfl (lv_at hl 0 rfl) ?_
    exact h_ireti F hr hlk hW hS ⟨(by (rw [ho10]) <;> (rfl)), ho15, (by (rw [ha11]) <;> (rfl)), (fun q h09 h19 h29 => by rw [hn14 q (by omega), hn12 q (by omega) (by omega), hn5 q (by omega)])⟩ dX9_setDelay_49
  · exfalso; omega
set_option maxHeartbeats 4000000 in
set_option maxRecDepth 100000 in
theorem c_X9_setDelay_r7 (l : Launch) (X : Cx) (w : Wo) (mo : Nat) (v σ : Int → Int) (rf : Int → Int) (d : Int) (hM : w mo = some (.inr (9, mL mo v))) (hs : w (mo + 1) = some (aZ X 1317 σ)) (hwf : WF σ) (hrf : w (mo + 6) = some (aZ X 8 rf)) (hd : 0 ≤ d ∧ d ≤ 30) (he : d = σ 2) : CM l X yX9_setDelay cX9_setDelay 3 (some (.int)) (rmk 2 45) [.ref mo, .int (iI d)] w (some (.int (iI (-7)))) (fun w' => w' mo = some (.inr (9, mL mo (up v 6 0))) ∧ w' (mo + 6) = some (aZ X 8 (up rf 7 (rf 7 + 1))) ∧ ∀ q : Nat, q ≠ mo → q ≠ mo + 6 → w' q = w q) := by
  refine CM.of (lv := [(0, .ref mo), (1, .int (iI d))]) (by decide) (Nat.le_of_ble_eq_true rfl) rfl (fun p e s m below meth c ls F hr hlk hin hW hS hl => ?_)
  have hZ0 := hW.2.2
  have hB9 := hW.1.2
  clear hin
  have hF := hwf.1
  unfold WF0 at hF
  refine lv_aload_n F.1 F.2.1 dX9_setDelay_0 rfl (lv_at hl 0 rfl) ?_
  refine lv_iload_n F.1 F.2.1 dX9_setDelay_1 rfl (lv_at hl 1 rfl) ?_
  refine h_i2l F dX9_setDelay_2 (by omega) ?_
  refine h_lconst (n := 0) (z := 0) F dX9_setDelay_3 rfl ?_
  refine h_ldc2 (n := 30) F kk_RX9_211 dX9_setDelay_4 ?_
  refine cl_RX9_82 (As := [.long (lI d), .long (lI 0), .long (lI 30)]) (rest := [.ref mo]) F hl (c_X9_isIn l X w d 0 30 (by omega) (by omega) (by omega)) hW hS rfl rfl ⟨Nat.le_of_ble_eq_true rfl, Nat.le_of_ble_eq_true rfl⟩ (Nat.le_of_ble_eq_true rfl) ⟨Nat.zero_le _, Nat.zero_le _⟩ dX9_setDelay_7 (fun w1 H locs hp1 hW hS => ?_)
  rw [hp1] at hW; clear hp1; clear w1
  refine h_top (show (bz (decide (0 ≤ d ∧ d ≤ 30)) : Int) = bz true from congrArg bz (decide_eq_true (by omega))) ?_
  refine cl_RX9_74 (As := [.int (iI (bz true))]) (rest := []) F hl (c_pass_t l X w mo v σ hM hs hwf) hW hS hM rfl rfl ⟨Nat.le_of_ble_eq_true rfl, Nat.le_of_ble_eq_true rfl⟩ (Nat.le_of_ble_eq_true rfl) ⟨Nat.zero_le _, Nat.zero_le _⟩ dX9_setDelay_10 (fun w2 H locs hp3 hW hS => ?_)
  obtain ⟨ho4, hn5⟩ := hp3
  have hs := (hn5 _ (by omega)).trans hs
  have hrf := (hn5 _ (by omega)).trans hrf
  refine h_ifneb (tgt := 18) F dX9_setDelay_13 (by decide) (fun _ => ?_) (fun c9 => absurd c9 (by decide))
  refine lv_aload_n F.1 F.2.1 dX9_setDelay_18 rfl (lv_at hl 0 rfl) ?_
  refine gf_RX9_7 F hW ho4 rfl dX9_setDelay_19 ?_
  refine h_iconst F dX9_setDelay_22 ?_
  refine h_iald F hW hs (by omega) (by omega) dX9_setDelay_23 ?_
  refine lv_istore_n (lv' := [(2, .int (iI (σ 2))), (0, .ref mo), (1, .int (iI d))]) F.1 F.2.1 dX9_setDelay_24 rfl hl (by decide) rfl (fun ls hl => ?_)
  refine lv_iload_n F.1 F.2.1 dX9_setDelay_25 rfl (lv_at hl 0 rfl) ?_
  refine lv_iload_n F.1 F.2.1 dX9_setDelay_26 rfl (lv_at hl 2 rfl) ?_
  refine h_icne (tgt := 37) F dX9_setDelay_27 (by decide) (by omega) (fun c7 => ?_) (fun c7 => ?_)
  · exfalso; omega
  · refine lv_aload_n F.1 F.2.1 dX9_setDelay_30 rfl (lv_at hl 1 rfl) ?_
    refine h_bipush F dX9_setDelay_31 rfl ?_
    refine cl_RX9_247 (As := [.int (iI 7)]) (rest := []) F hl (c_X9_refuses l X w2 mo (up v 6 0) σ rf 7 ho4 hrf (by omega)) hW hS ho4 rfl rfl ⟨Nat.le_of_ble_eq_true rfl, Nat.le_of_ble_eq_true rfl⟩ (Nat.le_of_ble_eq_true rfl) ⟨Nat.zero_le _, Nat.zero_le _⟩ dX9_setDelay_33 (fun w8 H locs hp9 hW hS => ?_)
    obtain ⟨ha10, hn11⟩ := hp9
    have ho4 := (hn11 _ (by omega)).trans ho4
    have hs := (hn11 _ (by omega)).trans hs
    exact h_ireti F hr hlk hW hS ⟨ho4, ha10, (fun q h09 h19 => by rw [hn11 q (by omega), hn5 q (by omega)])⟩ dX9_setDelay_36
set_option maxHeartbeats 4000000 in
set_option maxRecDepth 100000 in
theorem c_X9_setDelay_x (l : Launch) (X : Cx) (w : Wo) (mo : Nat) (v σ : Int → Int) (d : Int) (hM : w mo = some (.inr (9, mL mo v))) (hs : w (mo + 1) = some (aZ X 1317 σ)) (hwf : WF σ) (hd : -2147483648 ≤ d ∧ d < 2147483648) (hb : ¬ (0 ≤ d ∧ d ≤ 30)) : CM l X yX9_setDelay cX9_setDelay 3 (some (.int)) (rmk 2 45) [.ref mo, .int (iI d)] w (some (.int (iI 0))) (fun w' => w' mo = some (.inr (9, mL mo (up v 6 1))) ∧ ∀ q : Nat, q ≠ mo → w' q = w q) := by
  refine CM.of (lv := [(0, .ref mo), (1, .int (iI d))]) (by decide) (Nat.le_of_ble_eq_true rfl) rfl (fun p e s m below meth c ls F hr hlk hin hW hS hl => ?_)
  have hZ0 := hW.2.2
  have hB9 := hW.1.2
  clear hin
  have hF := hwf.1
  unfold WF0 at hF
  refine lv_aload_n F.1 F.2.1 dX9_setDelay_0 rfl (lv_at hl 0 rfl) ?_
  refine lv_iload_n F.1 F.2.1 dX9_setDelay_1 rfl (lv_at hl 1 rfl) ?_
  refine h_i2l F dX9_setDelay_2 (by omega) ?_
  refine h_lconst (n := 0) (z := 0) F dX9_setDelay_3 rfl ?_
  refine h_ldc2 (n := 30) F kk_RX9_211 dX9_setDelay_4 ?_
  refine cl_RX9_82 (As := [.long (lI d), .long (lI 0), .long (lI 30)]) (rest := [.ref mo]) F hl (c_X9_isIn l X w d 0 30 (by omega) (by omega) (by omega)) hW hS rfl rfl ⟨Nat.le_of_ble_eq_true rfl, Nat.le_of_ble_eq_true rfl⟩ (Nat.le_of_ble_eq_true rfl) ⟨Nat.zero_le _, Nat.zero_le _⟩ dX9_setDelay_7 (fun w1 H locs hp1 hW hS => ?_)
  rw [hp1] at hW; clear hp1; clear w1
  refine h_top (show (bz (decide (0 ≤ d ∧ d ≤ 30)) : Int) = bz false from congrArg bz (decide_eq_false (by omega))) ?_
  refine cl_RX9_74 (As := [.int (iI (bz false))]) (rest := []) F hl (c_pass_f l X w mo v σ hM hs hwf) hW hS hM rfl rfl ⟨Nat.le_of_ble_eq_true rfl, Nat.le_of_ble_eq_true rfl⟩ (Nat.le_of_ble_eq_true rfl) ⟨Nat.zero_le _, Nat.zero_le _⟩ dX9_setDelay_10 (fun w2 H locs hp3 hW hS => ?_)
  obtain ⟨ho4, hn5⟩ := hp3
  have hs := (hn5 _ (by omega)).trans hs
  refine h_ifneb (tgt := 18) F dX9_setDelay_13 (by decide) (fun c9 => absurd c9 (by decide)) (fun _ => ?_)
  refine h_iconst F dX9_setDelay_16 ?_
  exact h_ireti F hr hlk hW hS ⟨ho4, (fun q h09 => by rw [hn5 q (by omega)])⟩ dX9_setDelay_17
set_option maxHeartbeats 4000000 in
set_option maxRecDepth 100000 in
theorem c_X9_drop (l : Launch) (X : Cx) (w : Wo) (mo : Nat) (v σ : Int → Int) (pa : Int → Int) (k : Int) (hM : w mo = some (.inr (9, mL mo v))) (hs : w (mo + 1) = some (aZ X 1317 σ)) (hwf : WF σ) (hpa : w (mo + 3) = some (aZ X 10536 pa)) (hun : 0 ≤ v 5 ∧ v 5 ≤ 8) (hk : 0 ≤ k ∧ k < σ 5) : CM l X yX9_drop cX9_drop 3 (some (.int)) (rmk 2 46) [.ref mo, .int (iI k)] w (some (.int (iI (σ 5 - 1)))) (fun w' => w' mo = some (.inr (9, mL mo (up (up (up v 6 0) 5 (min 8 (v 5 + 1))) 8 (v 8 + 1)))) ∧ w' (mo + 1) = some (aZ X 1317 (drpS σ k)) ∧ w' (mo + 3) = some (aZ X 10536 (actP (v 5) pa σ)) ∧ ∀ q : Nat, q ≠ mo → q ≠ mo + 1 → q ≠ mo + 3 → w' q = w q) := by
  refine CM.of (lv := [(0, .ref mo), (1, .int (iI k))]) (by decide) (Nat.le_of_ble_eq_true rfl) rfl (fun p e s m below meth c ls F hr hlk hin hW hS hl => ?_)
  have hZ0 := hW.2.2
  have hB9 := hW.1.2
  clear hin
  have hF := hwf.1
  unfold WF0 at hF
  refine lv_aload_n F.1 F.2.1 dX9_drop_0 rfl (lv_at hl 0 rfl) ?_
  refine lv_aload_n F.1 F.2.1 dX9_drop_1 rfl (lv_at hl 0 rfl) ?_
  refine lv_iload_n F.1 F.2.1 dX9_drop_2 rfl (lv_at hl 1 rfl) ?_
  refine cl_RX9_158 (As := [.int (iI k)]) (rest := [.ref mo]) F hl (c_X9_isCaption l X w mo v σ k hM hs hwf (by omega)) hW hS hM rfl rfl ⟨Nat.le_of_ble_eq_true rfl, Nat.le_of_ble_eq_true rfl⟩ (Nat.le_of_ble_eq_true rfl) ⟨Nat.zero_le _, Nat.zero_le _⟩ dX9_drop_3 (fun w1 H locs hp1 hW hS => ?_)
  rw [hp1] at hW; clear hp1; clear w1
  refine h_top (show (bz (decide (0 ≤ k ∧ k ≤ σ 5 - 1)) : Int) = bz true from congrArg bz (decide_eq_true (by omega))) ?_
  refine cl_RX9_74 (As := [.int (iI (bz true))]) (rest := []) F hl (c_pass_t l X w mo v σ hM hs hwf) hW hS hM rfl rfl ⟨Nat.le_of_ble_eq_true rfl, Nat.le_of_ble_eq_true rfl⟩ (Nat.le_of_ble_eq_true rfl) ⟨Nat.zero_le _, Nat.zero_le _⟩ dX9_drop_6 (fun w2 H locs hp3 hW hS => ?_)
  obtain ⟨ho4, hn5⟩ := hp3
  have hs := (hn5 _ (by omega)).trans hs
  have hpa := (hn5 _ (by omega)).trans hpa
  refine h_ifneb (tgt := 14) F dX9_drop_9 (by decide) (fun _ => ?_) (fun c9 => absurd c9 (by decide))
  refine lv_aload_n F.1 F.2.1 dX9_drop_14 rfl (lv_at hl 0 rfl) ?_
  refine cl_RX9_250 (As := []) (rest := []) F hl (c_X9_acts l X w2 mo (up v 6 0) σ pa ho4 hs hpa hun) hW hS ho4 rfl rfl ⟨Nat.le_of_ble_eq_true rfl, Nat.le_of_ble_eq_true rfl⟩ (Nat.le_of_ble_eq_true rfl) ⟨Nat.zero_le _, Nat.zero_le _⟩ dX9_drop_15 (fun w7 H locs hp8 hW hS => ?_)
  obtain ⟨ho9, ha10, hn11⟩ := hp8
  have hs := (hn11 _ (by omega) (by omega)).trans hs
  refine h_bipush F dX9_drop_18 rfl ?_
  refine h_bipush F dX9_drop_20 rfl ?_
  refine lv_iload_n F.1 F.2.1 dX9_drop_22 rfl (lv_at hl 1 rfl) ?_
  refine h_imul (a := 13) (b := k) F dX9_drop_23 ?_
  refine h_iadd (a := 13) (b := 13 * k) F dX9_drop_24 ?_
  refine lv_istore_n (lv' := [(2, .int (iI (13 + (13 * k)))), (0, .ref mo), (1, .int (iI k))]) F.1 F.2.1 dX9_drop_25 rfl hl (by decide) rfl (fun ls hl => ?_)
  have loop26 : ∀ (n9 : Nat) (i : Int), (hrg : 13 + 13 * k ≤ i ∧ i ≤ 104) → (hms : 104 - i < (n9 : Int)) → (wz9 : Wo) → (hA26_0 : wz9 (mo + 1) = some (aZ X 1317 (drN σ (13 + 13 * k) i))) → (hF26 : ∀ q : Nat, q ≠ mo + 1 → wz9 q = w7 q) → (H : Heap) → (locs : List Loc) → (ls : Array Slot) → Wd X wz9 s H → va_S (cxA X) s.heap H locs → lv_has ls 3 [(2, .int (iI i)), (0, .ref mo), (1, .int (iI k))] → W p l e (rmk 2 46) s m (List.toArray [.ref mo, .int (iI k)]) below meth c H locs 0 0 (MX X below (List.toArray [.ref mo, .int (iI k)]) s 0 0 (some (.int (iI (σ 5 - 1)))) (fun w' => w' mo = some (.inr (9, mL mo (up (up (up v 6 0) 5 (min 8 (v 5 + 1))) 8 (v 8 + 1)))) ∧ w' (mo + 1) = some (aZ X 1317 (drpS σ k)) ∧ w' (mo + 3) = some (aZ X 10536 (actP (v 5) pa σ)) ∧ ∀ q : Nat, q ≠ mo → q ≠ mo + 1 → q ≠ mo + 3 → w' q = w q)) (F0 m 26 ls []) := by
    intro n9
    induction n9 with
    | zero => intro i  hrg hms; exfalso; omega
    | succ n9 ih26 =>
      intro i  hrg hms wz9 hA26_0 hF26  H locs ls hW hS hl
      have ho9 := (hF26 _ (by omega)).trans ho9
      have ha10 := (hF26 _ (by omega)).trans ha10
      refine lv_iload_n F.1 F.2.1 dX9_drop_26 rfl (lv_at hl 0 rfl) ?_
      refine h_bipush F dX9_drop_27 rfl ?_
      refine h_icge (tgt := 53) F dX9_drop_29 (by decide) (by omega) (fun c12 => ?_) (fun c12 => ?_)
      · refine lv_aload_n F.1 F.2.1 dX9_drop_53 rfl (lv_at hl 1 rfl) ?_
        refine gf_RX9_7 F hW ho9 rfl dX9_drop_54 ?_
        refine h_iconst F dX9_drop_57 ?_
        refine lv_dup2_11 F.1 F.2.1 dX9_drop_58 rfl rfl ?_
        refine h_iald F hW hA26_0 (by omega) (by omega) dX9_drop_59 ?_
        refine h_top (show ((drN σ (13 + 13 * k) i) 5 : Int) = σ 5 from drN_lo (by omega)) ?_
        refine h_iconst F dX9_drop_60 ?_
        refine h_isub (a := σ 5) (b := 1) F dX9_drop_61 ?_
        refine h_iast F hW hS hA26_0 (by omega) (by omega) dX9_drop_62 (fun w13 H locs ho15 hn14 hW hS => ?_)
        have ho9 := (hn14 _ (by omega)).trans ho9
        have ha10 := (hn14 _ (by omega)).trans ha10
        refine lv_aload_n F.1 F.2.1 dX9_drop_63 rfl (lv_at hl 1 rfl) ?_
        refine gf_RX9_7 F hW ho9 rfl dX9_drop_64 ?_
        refine h_iconst F dX9_drop_67 ?_
        refine h_iald F hW ho15 (by omega) (by omega) dX9_drop_68 ?_
        refine h_top (show ((up (drN σ (13 + 13 * k) i) 5 ((σ 5) - 1)) 5 : Int) = σ 5 - 1 from up_s _ _ _) ?_
        exact h_ireti F hr hlk hW hS ⟨(by (rw [ho9]) <;> (rfl)), (by (rw [ho15]) <;> (first | rfl | (rw [show i = 104 by omega]; rfl))), (by (rw [ha10]) <;> (first | rfl | (rw [show i = 104 by omega]; rfl))), (fun q h09 h19 h29 => by rw [hn14 q (by omega), hF26 q (by omega), hn11 q (by omega) (by omega), hn5 q (by omega)])⟩ dX9_drop_69
      · refine lv_aload_n F.1 F.2.1 dX9_drop_32 rfl (lv_at hl 1 rfl) ?_
        refine gf_RX9_7 F hW ho9 rfl dX9_drop_33 ?_
        refine lv_iload_n F.1 F.2.1 dX9_drop_36 rfl (lv_at hl 0 rfl) ?_
        refine lv_aload_n F.1 F.2.1 dX9_drop_37 rfl (lv_at hl 1 rfl) ?_
        refine gf_RX9_7 F hW ho9 rfl dX9_drop_38 ?_
        refine lv_iload_n F.1 F.2.1 dX9_drop_41 rfl (lv_at hl 0 rfl) ?_
        refine h_bipush F dX9_drop_42 rfl ?_
        refine h_iadd (a := i) (b := 13) F dX9_drop_44 ?_
        refine h_iald F hW hA26_0 (by omega) (by omega) dX9_drop_45 ?_
        refine h_iast F hW hS hA26_0 (by omega) (by omega) dX9_drop_46 (fun w16 H locs ho18 hn17 hW hS => ?_)
        have ho9 := (hn17 _ (by omega)).trans ho9
        have ha10 := (hn17 _ (by omega)).trans ha10
        refine h_iinc (k := 0) (a := i) (lv' := [(2, .int (iI (i + 1))), (0, .ref mo), (1, .int (iI k))]) F dX9_drop_47 hl rfl (by decide) rfl (fun ls hl => ?_)
        refine h_goto (tgt := 26) F dX9_drop_50 (by decide) ?_
        have eq19 : ((i + 1) : Int) = i + 1 := by first | rfl | omega | simp
        exact ih26 (i + 1)  (by omega) (by omega) w16 (by rw [show (drN σ (13 + 13 * k) (i + 1) : Int → Int) = up (drN σ (13 + 13 * k) i) i ((drN σ (13 + 13 * k) i) (i + 13)) from drN_s (by omega)]; exact ho18) (fun q h09 => by rw [hn17 q (by omega), hF26 q (by omega)])  _ _ ls hW hS (by rw [eq19]; exact lv_sub hl [0, 1, 2] rfl)
  have eq20 : ((13 + 13 * k) : Int) = 13 + (13 * k) := by first | rfl | omega | simp
  exact loop26 ((104 - (13 + 13 * k)) + 1 : Int).toNat (13 + 13 * k)  (by omega) (by omega) w7 (by rw [show (drN σ (13 + 13 * k) (13 + 13 * k) : Int → Int) = σ from drN_0 _ _]; exact hs) (fun q _ => rfl)  _ _ ls hW hS (by rw [eq20]; exact lv_sub hl [0, 1, 2] rfl)
set_option maxHeartbeats 4000000 in
set_option maxRecDepth 100000 in
theorem c_X9_drop_x (l : Launch) (X : Cx) (w : Wo) (mo : Nat) (v σ : Int → Int) (k : Int) (hM : w mo = some (.inr (9, mL mo v))) (hs : w (mo + 1) = some (aZ X 1317 σ)) (hwf : WF σ) (hk : -2147483648 ≤ k ∧ k < 2147483648) (hb : ¬ (0 ≤ k ∧ k < σ 5)) : CM l X yX9_drop cX9_drop 3 (some (.int)) (rmk 2 46) [.ref mo, .int (iI k)] w (some (.int (iI 0))) (fun w' => w' mo = some (.inr (9, mL mo (up v 6 1))) ∧ ∀ q : Nat, q ≠ mo → w' q = w q) := by
  refine CM.of (lv := [(0, .ref mo), (1, .int (iI k))]) (by decide) (Nat.le_of_ble_eq_true rfl) rfl (fun p e s m below meth c ls F hr hlk hin hW hS hl => ?_)
  have hZ0 := hW.2.2
  have hB9 := hW.1.2
  clear hin
  have hF := hwf.1
  unfold WF0 at hF
  refine lv_aload_n F.1 F.2.1 dX9_drop_0 rfl (lv_at hl 0 rfl) ?_
  refine lv_aload_n F.1 F.2.1 dX9_drop_1 rfl (lv_at hl 0 rfl) ?_
  refine lv_iload_n F.1 F.2.1 dX9_drop_2 rfl (lv_at hl 1 rfl) ?_
  refine cl_RX9_158 (As := [.int (iI k)]) (rest := [.ref mo]) F hl (c_X9_isCaption l X w mo v σ k hM hs hwf (by omega)) hW hS hM rfl rfl ⟨Nat.le_of_ble_eq_true rfl, Nat.le_of_ble_eq_true rfl⟩ (Nat.le_of_ble_eq_true rfl) ⟨Nat.zero_le _, Nat.zero_le _⟩ dX9_drop_3 (fun w1 H locs hp1 hW hS => ?_)
  rw [hp1] at hW; clear hp1; clear w1
  refine h_top (show (bz (decide (0 ≤ k ∧ k ≤ σ 5 - 1)) : Int) = bz false from congrArg bz (decide_eq_false (by omega))) ?_
  refine cl_RX9_74 (As := [.int (iI (bz false))]) (rest := []) F hl (c_pass_f l X w mo v σ hM hs hwf) hW hS hM rfl rfl ⟨Nat.le_of_ble_eq_true rfl, Nat.le_of_ble_eq_true rfl⟩ (Nat.le_of_ble_eq_true rfl) ⟨Nat.zero_le _, Nat.zero_le _⟩ dX9_drop_6 (fun w2 H locs hp3 hW hS => ?_)
  obtain ⟨ho4, hn5⟩ := hp3
  have hs := (hn5 _ (by omega)).trans hs
  refine h_ifneb (tgt := 14) F dX9_drop_9 (by decide) (fun c9 => absurd c9 (by decide)) (fun _ => ?_)
  refine h_iconst F dX9_drop_12 ?_
  exact h_ireti F hr hlk hW hS ⟨ho4, (fun q h09 => by rw [hn5 q (by omega)])⟩ dX9_drop_13
set_option maxHeartbeats 4000000 in
set_option maxRecDepth 100000 in
theorem c_X9_move (l : Launch) (X : Cx) (w : Wo) (mo : Nat) (v σ : Int → Int) (pa : Int → Int) (k x y : Int) (hM : w mo = some (.inr (9, mL mo v))) (hs : w (mo + 1) = some (aZ X 1317 σ)) (hwf : WF σ) (hpa : w (mo + 3) = some (aZ X 10536 pa)) (hun : 0 ≤ v 5 ∧ v 5 ≤ 8) (hk : 0 ≤ k ∧ k < σ 5) (hx : -2147483648 ≤ x ∧ x < 2147483648) (hy : -2147483648 ≤ y ∧ y < 2147483648) (hwy : whyS σ (cp σ k 0) (cp σ k 1) x y k = 0) : CM l X yX9_move cX9_move 5 (some (.int)) (rmk 6 138) [.ref mo, .int (iI k), .int (iI x), .int (iI y)] w (some (.int (iI (misFrom (movS σ k x y) 0)))) (fun w' => w' mo = some (.inr (9, mL mo (up (up (up v 6 0) 5 (min 8 (v 5 + 1))) 8 (v 8 + 1)))) ∧ w' (mo + 1) = some (aZ X 1317 (movS σ k x y)) ∧ w' (mo + 3) = some (aZ X 10536 (actP (v 5) pa σ)) ∧ ∀ q : Nat, q ≠ mo → q ≠ mo + 1 → q ≠ mo + 3 → w' q = w q) := by
  refine CM.of (lv := [(0, .ref mo), (1, .int (iI k)), (2, .int (iI x)), (3, .int (iI y))]) (by decide) (Nat.le_of_ble_eq_true rfl) rfl (fun p e s m below meth c ls F hr hlk hin hW hS hl => ?_)
  have hZ0 := hW.2.2
  have hB9 := hW.1.2
  clear hin
  have hF := hwf.1
  unfold WF0 at hF
  obtain ⟨m1, m2, m3, m4, m5, m6⟩ := hwf.2.2.1 k (by omega) (by omega)
  have hwm := mov_WF hwf hk hwy
  refine lv_aload_n F.1 F.2.1 dX9_move_0 rfl (lv_at hl 0 rfl) ?_
  refine lv_aload_n F.1 F.2.1 dX9_move_1 rfl (lv_at hl 0 rfl) ?_
  refine lv_iload_n F.1 F.2.1 dX9_move_2 rfl (lv_at hl 1 rfl) ?_
  refine cl_RX9_158 (As := [.int (iI k)]) (rest := [.ref mo]) F hl (c_X9_isCaption l X w mo v σ k hM hs hwf (by omega)) hW hS hM rfl rfl ⟨Nat.le_of_ble_eq_true rfl, Nat.le_of_ble_eq_true rfl⟩ (Nat.le_of_ble_eq_true rfl) ⟨Nat.zero_le _, Nat.zero_le _⟩ dX9_move_3 (fun w1 H locs hp1 hW hS => ?_)
  rw [hp1] at hW; clear hp1; clear w1
  refine h_top (show (bz (decide (0 ≤ k ∧ k ≤ σ 5 - 1)) : Int) = bz true from congrArg bz (decide_eq_true (by omega))) ?_
  refine cl_RX9_74 (As := [.int (iI (bz true))]) (rest := []) F hl (c_pass_t l X w mo v σ hM hs hwf) hW hS hM rfl rfl ⟨Nat.le_of_ble_eq_true rfl, Nat.le_of_ble_eq_true rfl⟩ (Nat.le_of_ble_eq_true rfl) ⟨Nat.zero_le _, Nat.zero_le _⟩ dX9_move_6 (fun w2 H locs hp3 hW hS => ?_)
  obtain ⟨ho4, hn5⟩ := hp3
  have hs := (hn5 _ (by omega)).trans hs
  have hpa := (hn5 _ (by omega)).trans hpa
  refine h_ifneb (tgt := 14) F dX9_move_9 (by decide) (fun _ => ?_) (fun c9 => absurd c9 (by decide))
  refine lv_aload_n F.1 F.2.1 dX9_move_14 rfl (lv_at hl 0 rfl) ?_
  refine lv_aload_n F.1 F.2.1 dX9_move_15 rfl (lv_at hl 0 rfl) ?_
  refine lv_iload_n F.1 F.2.1 dX9_move_16 rfl (lv_at hl 1 rfl) ?_
  refine h_iconst F dX9_move_17 ?_
  refine cl_RX9_95 (As := [.int (iI k), .int (iI 0)]) (rest := [.ref mo]) F hl (c_X9_cap l X w2 mo (up v 6 0) σ k 0 ho4 hs hwf (by omega)) hW hS ho4 rfl rfl ⟨Nat.le_of_ble_eq_true rfl, Nat.le_of_ble_eq_true rfl⟩ (Nat.le_of_ble_eq_true rfl) ⟨Nat.zero_le _, Nat.zero_le _⟩ dX9_move_18 (fun w1 H locs hp7 hW hS => ?_)
  rw [hp7] at hW; clear hp7; clear w1
  refine lv_aload_n F.1 F.2.1 dX9_move_21 rfl (lv_at hl 0 rfl) ?_
  refine lv_iload_n F.1 F.2.1 dX9_move_22 rfl (lv_at hl 1 rfl) ?_
  refine h_iconst F dX9_move_23 ?_
  refine cl_RX9_95 (As := [.int (iI k), .int (iI 1)]) (rest := [.int (iI (cp σ k 0)), .ref mo]) F hl (c_X9_cap l X w2 mo (up v 6 0) σ k 1 ho4 hs hwf (by omega)) hW hS ho4 rfl rfl ⟨Nat.le_of_ble_eq_true rfl, Nat.le_of_ble_eq_true rfl⟩ (Nat.le_of_ble_eq_true rfl) ⟨Nat.zero_le _, Nat.zero_le _⟩ dX9_move_24 (fun w1 H locs hp8 hW hS => ?_)
  rw [hp8] at hW; clear hp8; clear w1
  refine lv_iload_n F.1 F.2.1 dX9_move_27 rfl (lv_at hl 2 rfl) ?_
  refine lv_iload_n F.1 F.2.1 dX9_move_28 rfl (lv_at hl 3 rfl) ?_
  refine lv_iload_n F.1 F.2.1 dX9_move_29 rfl (lv_at hl 1 rfl) ?_
  refine cl_RX9_270 (As := [.int (iI (cp σ k 0)), .int (iI (cp σ k 1)), .int (iI x), .int (iI y), .int (iI k)]) (rest := []) F hl (c_X9_whyNot l X w2 mo (up v 6 0) σ (cp σ k 0) (cp σ k 1) x y k ho4 hs hwf (by omega) (by omega) (by omega) (by omega) (by omega)) hW hS ho4 rfl rfl ⟨Nat.le_of_ble_eq_true rfl, Nat.le_of_ble_eq_true rfl⟩ (Nat.le_of_ble_eq_true rfl) ⟨Nat.zero_le _, Nat.zero_le _⟩ dX9_move_30 (fun w1 H locs hp9 hW hS => ?_)
  rw [hp9] at hW; clear hp9; clear w1
  refine h_top (show (whyS σ (cp σ k 0) (cp σ k 1) x y k : Int) = 0 from hwy) ?_
  refine lv_istore (lv' := [(4, .int (iI 0)), (0, .ref mo), (1, .int (iI k)), (2, .int (iI x)), (3, .int (iI y))]) F.1 F.2.1 dX9_move_33 hl (by decide) rfl (fun ls hl => ?_)
  refine lv_iload F.1 F.2.1 dX9_move_35 (lv_at hl 0 rfl) ?_
  refine h_ifle (tgt := 47) F dX9_move_37 (by decide) (by decide) (fun _ => ?_) (fun c9 => absurd c9 (by decide))
  refine lv_aload_n F.1 F.2.1 dX9_move_47 rfl (lv_at hl 1 rfl) ?_
  refine cl_RX9_250 (As := []) (rest := []) F hl (c_X9_acts l X w2 mo (up v 6 0) σ pa ho4 hs hpa hun) hW hS ho4 rfl rfl ⟨Nat.le_of_ble_eq_true rfl, Nat.le_of_ble_eq_true rfl⟩ (Nat.le_of_ble_eq_true rfl) ⟨Nat.zero_le _, Nat.zero_le _⟩ dX9_move_48 (fun w11 H locs hp12 hW hS => ?_)
  obtain ⟨ho13, ha14, hn15⟩ := hp12
  have hs := (hn15 _ (by omega) (by omega)).trans hs
  refine lv_aload_n F.1 F.2.1 dX9_move_51 rfl (lv_at hl 1 rfl) ?_
  refine gf_RX9_7 F hW ho13 rfl dX9_move_52 ?_
  refine h_bipush F dX9_move_55 rfl ?_
  refine h_bipush F dX9_move_57 rfl ?_
  refine lv_iload_n F.1 F.2.1 dX9_move_59 rfl (lv_at hl 2 rfl) ?_
  refine h_imul (a := 13) (b := k) F dX9_move_60 ?_
  refine h_iadd (a := 13) (b := 13 * k) F dX9_move_61 ?_
  refine h_iconst F dX9_move_62 ?_
  refine h_iadd (a := 13 + (13 * k)) (b := 2) F dX9_move_63 ?_
  refine lv_iload_n F.1 F.2.1 dX9_move_64 rfl (lv_at hl 3 rfl) ?_
  refine h_iast F hW hS hs (by omega) (by omega) dX9_move_65 (fun w16 H locs ho18 hn17 hW hS => ?_)
  have ho13 := (hn17 _ (by omega)).trans ho13
  have ha14 := (hn17 _ (by omega)).trans ha14
  refine lv_aload_n F.1 F.2.1 dX9_move_66 rfl (lv_at hl 1 rfl) ?_
  refine gf_RX9_7 F hW ho13 rfl dX9_move_67 ?_
  refine h_bipush F dX9_move_70 rfl ?_
  refine h_bipush F dX9_move_72 rfl ?_
  refine lv_iload_n F.1 F.2.1 dX9_move_74 rfl (lv_at hl 2 rfl) ?_
  refine h_imul (a := 13) (b := k) F dX9_move_75 ?_
  refine h_iadd (a := 13) (b := 13 * k) F dX9_move_76 ?_
  refine h_iconst F dX9_move_77 ?_
  refine h_iadd (a := 13 + (13 * k)) (b := 3) F dX9_move_78 ?_
  refine lv_iload_n F.1 F.2.1 dX9_move_79 rfl (lv_at hl 4 rfl) ?_
  refine h_iast F hW hS ho18 (by omega) (by omega) dX9_move_80 (fun w19 H locs ho21 hn20 hW hS => ?_)
  have ho13 := (hn20 _ (by omega)).trans ho13
  have ha14 := (hn20 _ (by omega)).trans ha14
  have hA9 := ho21
  refine lv_aload_n F.1 F.2.1 dX9_move_81 rfl (lv_at hl 1 rfl) ?_
  refine h_iconst F dX9_move_82 ?_
  refine cl_RX9_136 (As := [.int (iI 0)]) (rest := []) F hl (c_mall_f l X w19 mo (up (up (up v 6 0) 5 (min 8 ((up v 6 0) 5 + 1))) 8 ((up v 6 0) 8 + 1)) (movS σ k x y) ho13 hA9 hwm) hW hS ho13 rfl rfl ⟨Nat.le_of_ble_eq_true rfl, Nat.le_of_ble_eq_true rfl⟩ (Nat.le_of_ble_eq_true rfl) ⟨Nat.zero_le _, Nat.zero_le _⟩ dX9_move_83 (fun w1 H locs hp22 hW hS => ?_)
  rw [hp22] at hW; clear hp22; clear w1
  exact h_ireti F hr hlk hW hS ⟨(by (rw [ho13]) <;> (rfl)), hA9, (by (rw [ha14]) <;> (rfl)), (fun q h09 h19 h29 => by rw [hn20 q (by omega), hn17 q (by omega), hn15 q (by omega) (by omega), hn5 q (by omega)])⟩ dX9_move_86
set_option maxHeartbeats 4000000 in
set_option maxRecDepth 100000 in
theorem c_X9_move_r (l : Launch) (X : Cx) (w : Wo) (mo : Nat) (v σ : Int → Int) (rf : Int → Int) (k x y r9 : Int) (hM : w mo = some (.inr (9, mL mo v))) (hs : w (mo + 1) = some (aZ X 1317 σ)) (hwf : WF σ) (hrf : w (mo + 6) = some (aZ X 8 rf)) (hk : 0 ≤ k ∧ k < σ 5) (hx : -2147483648 ≤ x ∧ x < 2147483648) (hy : -2147483648 ≤ y ∧ y < 2147483648) (hwy : whyS σ (cp σ k 0) (cp σ k 1) x y k = r9) (hr9 : r9 = 5 ∨ r9 = 6) : CM l X yX9_move cX9_move 5 (some (.int)) (rmk 6 138) [.ref mo, .int (iI k), .int (iI x), .int (iI y)] w (some (.int (iI (-r9)))) (fun w' => w' mo = some (.inr (9, mL mo (up v 6 0))) ∧ w' (mo + 6) = some (aZ X 8 (up rf r9 (rf r9 + 1))) ∧ ∀ q : Nat, q ≠ mo → q ≠ mo + 6 → w' q = w q) := by
  refine CM.of (lv := [(0, .ref mo), (1, .int (iI k)), (2, .int (iI x)), (3, .int (iI y))]) (by decide) (Nat.le_of_ble_eq_true rfl) rfl (fun p e s m below meth c ls F hr hlk hin hW hS hl => ?_)
  have hZ0 := hW.2.2
  have hB9 := hW.1.2
  clear hin
  have hF := hwf.1
  unfold WF0 at hF
  obtain ⟨m1, m2, m3, m4, m5, m6⟩ := hwf.2.2.1 k (by omega) (by omega)
  refine lv_aload_n F.1 F.2.1 dX9_move_0 rfl (lv_at hl 0 rfl) ?_
  refine lv_aload_n F.1 F.2.1 dX9_move_1 rfl (lv_at hl 0 rfl) ?_
  refine lv_iload_n F.1 F.2.1 dX9_move_2 rfl (lv_at hl 1 rfl) ?_
  refine cl_RX9_158 (As := [.int (iI k)]) (rest := [.ref mo]) F hl (c_X9_isCaption l X w mo v σ k hM hs hwf (by omega)) hW hS hM rfl rfl ⟨Nat.le_of_ble_eq_true rfl, Nat.le_of_ble_eq_true rfl⟩ (Nat.le_of_ble_eq_true rfl) ⟨Nat.zero_le _, Nat.zero_le _⟩ dX9_move_3 (fun w1 H locs hp1 hW hS => ?_)
  rw [hp1] at hW; clear hp1; clear w1
  refine h_top (show (bz (decide (0 ≤ k ∧ k ≤ σ 5 - 1)) : Int) = bz true from congrArg bz (decide_eq_true (by omega))) ?_
  refine cl_RX9_74 (As := [.int (iI (bz true))]) (rest := []) F hl (c_pass_t l X w mo v σ hM hs hwf) hW hS hM rfl rfl ⟨Nat.le_of_ble_eq_true rfl, Nat.le_of_ble_eq_true rfl⟩ (Nat.le_of_ble_eq_true rfl) ⟨Nat.zero_le _, Nat.zero_le _⟩ dX9_move_6 (fun w2 H locs hp3 hW hS => ?_)
  obtain ⟨ho4, hn5⟩ := hp3
  have hs := (hn5 _ (by omega)).trans hs
  have hrf := (hn5 _ (by omega)).trans hrf
  refine h_ifneb (tgt := 14) F dX9_move_9 (by decide) (fun _ => ?_) (fun c9 => absurd c9 (by decide))
  refine lv_aload_n F.1 F.2.1 dX9_move_14 rfl (lv_at hl 0 rfl) ?_
  refine lv_aload_n F.1 F.2.1 dX9_move_15 rfl (lv_at hl 0 rfl) ?_
  refine lv_iload_n F.1 F.2.1 dX9_move_16 rfl (lv_at hl 1 rfl) ?_
  refine h_iconst F dX9_move_17 ?_
  refine cl_RX9_95 (As := [.int (iI k), .int (iI 0)]) (rest := [.ref mo]) F hl (c_X9_cap l X w2 mo (up v 6 0) σ k 0 ho4 hs hwf (by omega)) hW hS ho4 rfl rfl ⟨Nat.le_of_ble_eq_true rfl, Nat.le_of_ble_eq_true rfl⟩ (Nat.le_of_ble_eq_true rfl) ⟨Nat.zero_le _, Nat.zero_le _⟩ dX9_move_18 (fun w1 H locs hp7 hW hS => ?_)
  rw [hp7] at hW; clear hp7; clear w1
  refine lv_aload_n F.1 F.2.1 dX9_move_21 rfl (lv_at hl 0 rfl) ?_
  refine lv_iload_n F.1 F.2.1 dX9_move_22 rfl (lv_at hl 1 rfl) ?_
  refine h_iconst F dX9_move_23 ?_
  refine cl_RX9_95 (As := [.int (iI k), .int (iI 1)]) (rest := [.int (iI (cp σ k 0)), .ref mo]) F hl (c_X9_cap l X w2 mo (up v 6 0) σ k 1 ho4 hs hwf (by omega)) hW hS ho4 rfl rfl ⟨Nat.le_of_ble_eq_true rfl, Nat.le_of_ble_eq_true rfl⟩ (Nat.le_of_ble_eq_true rfl) ⟨Nat.zero_le _, Nat.zero_le _⟩ dX9_move_24 (fun w1 H locs hp8 hW hS => ?_)
  rw [hp8] at hW; clear hp8; clear w1
  refine lv_iload_n F.1 F.2.1 dX9_move_27 rfl (lv_at hl 2 rfl) ?_
  refine lv_iload_n F.1 F.2.1 dX9_move_28 rfl (lv_at hl 3 rfl) ?_
  refine lv_iload_n F.1 F.2.1 dX9_move_29 rfl (lv_at hl 1 rfl) ?_
  refine cl_RX9_270 (As := [.int (iI (cp σ k 0)), .int (iI (cp σ k 1)), .int (iI x), .int (iI y), .int (iI k)]) (rest := []) F hl (c_X9_whyNot l X w2 mo (up v 6 0) σ (cp σ k 0) (cp σ k 1) x y k ho4 hs hwf (by omega) (by omega) (by omega) (by omega) (by omega)) hW hS ho4 rfl rfl ⟨Nat.le_of_ble_eq_true rfl, Nat.le_of_ble_eq_true rfl⟩ (Nat.le_of_ble_eq_true rfl) ⟨Nat.zero_le _, Nat.zero_le _⟩ dX9_move_30 (fun w1 H locs hp9 hW hS => ?_)
  rw [hp9] at hW; clear hp9; clear w1
  refine h_top (show (whyS σ (cp σ k 0) (cp σ k 1) x y k : Int) = r9 from hwy) ?_
  refine lv_istore (lv' := [(4, .int (iI r9)), (0, .ref mo), (1, .int (iI k)), (2, .int (iI x)), (3, .int (iI y))]) F.1 F.2.1 dX9_move_33 hl (by decide) rfl (fun ls hl => ?_)
  refine lv_iload F.1 F.2.1 dX9_move_35 (lv_at hl 0 rfl) ?_
  refine h_ifle (tgt := 47) F dX9_move_37 (by decide) (by omega) (fun c10 => ?_) (fun c10 => ?_)
  · exfalso; omega
  · refine lv_aload_n F.1 F.2.1 dX9_move_40 rfl (lv_at hl 1 rfl) ?_
    refine lv_iload F.1 F.2.1 dX9_move_41 (lv_at hl 0 rfl) ?_
    refine cl_RX9_247 (As := [.int (iI r9)]) (rest := []) F hl (c_X9_refuses l X w2 mo (up v 6 0) σ rf r9 ho4 hrf (by omega)) hW hS ho4 rfl rfl ⟨Nat.le_of_ble_eq_true rfl, Nat.le_of_ble_eq_true rfl⟩ (Nat.le_of_ble_eq_true rfl) ⟨Nat.zero_le _, Nat.zero_le _⟩ dX9_move_43 (fun w11 H locs hp12 hW hS => ?_)
    obtain ⟨ha13, hn14⟩ := hp12
    have ho4 := (hn14 _ (by omega)).trans ho4
    have hs := (hn14 _ (by omega)).trans hs
    exact h_ireti F hr hlk hW hS ⟨ho4, ha13, (fun q h09 h19 => by rw [hn14 q (by omega), hn5 q (by omega)])⟩ dX9_move_46
set_option maxHeartbeats 4000000 in
set_option maxRecDepth 100000 in
theorem c_X9_move_x (l : Launch) (X : Cx) (w : Wo) (mo : Nat) (v σ : Int → Int) (k x y : Int) (hM : w mo = some (.inr (9, mL mo v))) (hs : w (mo + 1) = some (aZ X 1317 σ)) (hwf : WF σ) (hk : -2147483648 ≤ k ∧ k < 2147483648) (hb : ¬ (0 ≤ k ∧ k < σ 5)) : CM l X yX9_move cX9_move 5 (some (.int)) (rmk 6 138) [.ref mo, .int (iI k), .int (iI x), .int (iI y)] w (some (.int (iI 0))) (fun w' => w' mo = some (.inr (9, mL mo (up v 6 1))) ∧ ∀ q : Nat, q ≠ mo → w' q = w q) := by
  refine CM.of (lv := [(0, .ref mo), (1, .int (iI k)), (2, .int (iI x)), (3, .int (iI y))]) (by decide) (Nat.le_of_ble_eq_true rfl) rfl (fun p e s m below meth c ls F hr hlk hin hW hS hl => ?_)
  have hZ0 := hW.2.2
  have hB9 := hW.1.2
  clear hin
  have hF := hwf.1
  unfold WF0 at hF
  refine lv_aload_n F.1 F.2.1 dX9_move_0 rfl (lv_at hl 0 rfl) ?_
  refine lv_aload_n F.1 F.2.1 dX9_move_1 rfl (lv_at hl 0 rfl) ?_
  refine lv_iload_n F.1 F.2.1 dX9_move_2 rfl (lv_at hl 1 rfl) ?_
  refine cl_RX9_158 (As := [.int (iI k)]) (rest := [.ref mo]) F hl (c_X9_isCaption l X w mo v σ k hM hs hwf (by omega)) hW hS hM rfl rfl ⟨Nat.le_of_ble_eq_true rfl, Nat.le_of_ble_eq_true rfl⟩ (Nat.le_of_ble_eq_true rfl) ⟨Nat.zero_le _, Nat.zero_le _⟩ dX9_move_3 (fun w1 H locs hp1 hW hS => ?_)
  rw [hp1] at hW; clear hp1; clear w1
  refine h_top (show (bz (decide (0 ≤ k ∧ k ≤ σ 5 - 1)) : Int) = bz false from congrArg bz (decide_eq_false (by omega))) ?_
  refine cl_RX9_74 (As := [.int (iI (bz false))]) (rest := []) F hl (c_pass_f l X w mo v σ hM hs hwf) hW hS hM rfl rfl ⟨Nat.le_of_ble_eq_true rfl, Nat.le_of_ble_eq_true rfl⟩ (Nat.le_of_ble_eq_true rfl) ⟨Nat.zero_le _, Nat.zero_le _⟩ dX9_move_6 (fun w2 H locs hp3 hW hS => ?_)
  obtain ⟨ho4, hn5⟩ := hp3
  have hs := (hn5 _ (by omega)).trans hs
  refine h_ifneb (tgt := 14) F dX9_move_9 (by decide) (fun c9 => absurd c9 (by decide)) (fun _ => ?_)
  refine h_iconst F dX9_move_12 ?_
  exact h_ireti F hr hlk hW hS ⟨ho4, (fun q h09 => by rw [hn5 q (by omega)])⟩ dX9_move_13
set_option maxHeartbeats 4000000 in
set_option maxRecDepth 100000 in
theorem c_X9_add_x (l : Launch) (X : Cx) (w : Wo) (mo : Nat) (v σ : Int → Int) (tx : Int → Int) (sd x y co : Int) (hM : w mo = some (.inr (9, mL mo v))) (hs : w (mo + 1) = some (aZ X 1317 σ)) (hwf : WF σ) (htx : w (mo + 7) = some (aZ X 400 tx)) (hN : 0 ≤ v 11 ∧ v 11 ≤ 400) (hby : ∀ i, 0 ≤ i → i < v 11 → 0 ≤ tx i ∧ tx i ≤ 255) (hsd : -2147483648 ≤ sd ∧ sd < 2147483648) (hcr : -2147483648 ≤ co ∧ co < 2147483648) (hb : ¬ ((0 ≤ sd ∧ sd ≤ 1) ∧ (1 ≤ co ∧ co ≤ 6) ∧ (decide (1 ≤ v 11 ∧ v 11 ≤ 8) && al (fun z => decide (97 ≤ tx z ∧ tx z ≤ 122)) 0 (v 11)) = true)) : CM l X yX9_add cX9_add 10 (some (.int)) (rmk 2 57) [.ref mo, .int (iI sd), .int (iI x), .int (iI y), .int (iI co)] w (some (.int (iI 0))) (fun w' => w' mo = some (.inr (9, mL mo (up (up v 11 0) 6 1))) ∧ ∀ q : Nat, q ≠ mo → w' q = w q) := by
  refine CM.of (lv := [(0, .ref mo), (1, .int (iI sd)), (2, .int (iI x)), (3, .int (iI y)), (4, .int (iI co))]) (by decide) (Nat.le_of_ble_eq_true rfl) rfl (fun p e s m below meth c ls F hr hlk hin hW hS hl => ?_)
  have hZ0 := hW.2.2
  have hB9 := hW.1.2
  clear hin
  have hF := hwf.1
  unfold WF0 at hF
  refine lv_aload_n F.1 F.2.1 dX9_add_0 rfl (lv_at hl 0 rfl) ?_
  refine gf_RX9_71 F hW hM rfl dX9_add_1 ?_
  refine lv_istore (lv' := [(5, .int (iI (v 11))), (0, .ref mo), (1, .int (iI sd)), (2, .int (iI x)), (3, .int (iI y)), (4, .int (iI co))]) F.1 F.2.1 dX9_add_4 hl (by decide) rfl (fun ls hl => ?_)
  refine lv_aload_n F.1 F.2.1 dX9_add_6 rfl (lv_at hl 1 rfl) ?_
  refine h_iconst F dX9_add_7 ?_
  refine pf_RX9_71 F hW hS hM (Nat.le_of_ble_eq_true rfl) dX9_add_8 (fun w1 H locs ho3 hn2 hW hS => ?_)
  rw [mL_11] at ho3
  have hs := (hn2 _ (by omega)).trans hs
  have htx := (hn2 _ (by omega)).trans htx
  refine lv_iload F.1 F.2.1 dX9_add_11 (lv_at hl 0 rfl) ?_
  refine h_i2l F dX9_add_13 (by omega) ?_
  refine h_lconst (n := 1) (z := 1) F dX9_add_14 rfl ?_
  refine h_ldc2 (n := 8) F kk_RX9_183 dX9_add_15 ?_
  refine cl_RX9_82 (As := [.long (lI (v 11)), .long (lI 1), .long (lI 8)]) (rest := []) F hl (c_X9_isIn l X w1 (v 11) 1 8 (by omega) (by omega) (by omega)) hW hS rfl rfl ⟨Nat.le_of_ble_eq_true rfl, Nat.le_of_ble_eq_true rfl⟩ (Nat.le_of_ble_eq_true rfl) ⟨Nat.zero_le _, Nat.zero_le _⟩ dX9_add_18 (fun w1 H locs hp4 hW hS => ?_)
  rw [hp4] at hW; clear hp4; clear w1
  refine lv_istore (lv' := [(6, .int (iI (bz (decide (1 ≤ (v 11) ∧ (v 11) ≤ 8))))), (5, .int (iI (v 11))), (0, .ref mo), (1, .int (iI sd)), (2, .int (iI x)), (3, .int (iI y)), (4, .int (iI co))]) F.1 F.2.1 dX9_add_21 hl (by decide) rfl (fun ls hl => ?_)
  refine h_iconst F dX9_add_23 ?_
  refine lv_istore (lv' := [(7, .int (iI 0)), (6, .int (iI (bz (decide (1 ≤ (v 11) ∧ (v 11) ≤ 8))))), (5, .int (iI (v 11))), (0, .ref mo), (1, .int (iI sd)), (2, .int (iI x)), (3, .int (iI y)), (4, .int (iI co))]) F.1 F.2.1 dX9_add_24 hl (by decide) rfl (fun ls hl => ?_)
  have loop26 : ∀ (n9 : Nat) (k : Int), (hrg : 0 ≤ k ∧ k ≤ v 11) → (hms : v 11 - k < (n9 : Int)) → (H : Heap) → (locs : List Loc) → (ls : Array Slot) → Wd X w1 s H → va_S (cxA X) s.heap H locs → lv_has ls 10 [(6, .int (iI (bz (decide (1 ≤ v 11 ∧ v 11 ≤ 8) && al (fun z => decide (97 ≤ tx z ∧ tx z ≤ 122)) 0 k)))), (7, .int (iI k)), (5, .int (iI (v 11))), (0, .ref mo), (1, .int (iI sd)), (2, .int (iI x)), (3, .int (iI y)), (4, .int (iI co))] → W p l e (rmk 2 57) s m (List.toArray [.ref mo, .int (iI sd), .int (iI x), .int (iI y), .int (iI co)]) below meth c H locs 0 0 (MX X below (List.toArray [.ref mo, .int (iI sd), .int (iI x), .int (iI y), .int (iI co)]) s 0 0 (some (.int (iI 0))) (fun w' => w' mo = some (.inr (9, mL mo (up (up v 11 0) 6 1))) ∧ ∀ q : Nat, q ≠ mo → w' q = w q)) (F0 m 26 ls []) := by
    intro n9
    induction n9 with
    | zero => intro k  hrg hms; exfalso; omega
    | succ n9 ih26 =>
      intro k  hrg hms   H locs ls hW hS hl
      refine lv_iload F.1 F.2.1 dX9_add_26 (lv_at hl 1 rfl) ?_
      refine lv_iload F.1 F.2.1 dX9_add_28 (lv_at hl 2 rfl) ?_
      refine h_icge (tgt := 71) F dX9_add_30 (by decide) (by omega) (fun c5 => ?_) (fun c5 => ?_)
      · have join102 : ∀ (H : Heap) (locs : List Loc) (ls : Array Slot), Wd X w1 s H → va_S (cxA X) s.heap H locs → lv_has ls 10 [(6, .int (iI (bz (decide (1 ≤ v 11 ∧ v 11 ≤ 8) && al (fun z => decide (97 ≤ tx z ∧ tx z ≤ 122)) 0 k)))), (7, .int (iI k)), (5, .int (iI (v 11))), (0, .ref mo), (1, .int (iI sd)), (2, .int (iI x)), (3, .int (iI y)), (4, .int (iI co))] → W p l e (rmk 2 57) s m (List.toArray [.ref mo, .int (iI sd), .int (iI x), .int (iI y), .int (iI co)]) below meth c H locs 0 0 (MX X below (List.toArray [.ref mo, .int (iI sd), .int (iI x), .int (iI y), .int (iI co)]) s 0 0 (some (.int (iI 0))) (fun w' => w' mo = some (.inr (9, mL mo (up (up v 11 0) 6 1))) ∧ ∀ q : Nat, q ≠ mo → w' q = w q)) (F0 m 102 ls [.int (iI (bz false)), .ref mo]) := by
          intro  H locs ls  hW hS hl
          refine cl_RX9_74 (As := [.int (iI (bz false))]) (rest := []) F hl (c_pass_f l X w1 mo (up v 11 0) σ ho3 hs hwf) hW hS ho3 rfl rfl ⟨Nat.le_of_ble_eq_true rfl, Nat.le_of_ble_eq_true rfl⟩ (Nat.le_of_ble_eq_true rfl) ⟨Nat.zero_le _, Nat.zero_le _⟩ dX9_add_102 (fun w6 H locs hp7 hW hS => ?_)
          obtain ⟨ho8, hn9⟩ := hp7
          have hs := (hn9 _ (by omega)).trans hs
          have htx := (hn9 _ (by omega)).trans htx
          refine h_ifneb (tgt := 110) F dX9_add_105 (by decide) (fun c9 => absurd c9 (by decide)) (fun _ => ?_)
          refine h_iconst F dX9_add_108 ?_
          exact h_ireti F hr hlk hW hS ⟨ho8, (fun q h09 => by rw [hn9 q (by omega), hn2 q (by omega)])⟩ dX9_add_109
        refine lv_aload_n F.1 F.2.1 dX9_add_71 rfl (lv_at hl 3 rfl) ?_
        refine lv_iload_n F.1 F.2.1 dX9_add_72 rfl (lv_at hl 4 rfl) ?_
        refine cl_RX9_232 (As := [.int (iI sd)]) (rest := [.ref mo]) F hl (c_X9_isSide l X w1 sd (by omega)) hW hS rfl rfl ⟨Nat.le_of_ble_eq_true rfl, Nat.le_of_ble_eq_true rfl⟩ (Nat.le_of_ble_eq_true rfl) ⟨Nat.zero_le _, Nat.zero_le _⟩ dX9_add_73 (fun w1 H locs hp11 hW hS => ?_)
        rw [hp11] at hW; clear hp11; clear w1
        refine h_ifeqb (tgt := 101) F dX9_add_76 (by decide) (fun c12 => ?_) (fun c12 => ?_)
        · have c12d := of_decide_eq_false c12
          refine h_iconst F dX9_add_101 ?_
          refine h_top (show (0 : Int) = bz false from by first | exact bzf rfl | exact absurd ⟨by omega, by omega, by have h9 := ‹(decide (1 ≤ v 11 ∧ v 11 ≤ 8) && al (fun z => decide (97 ≤ tx z ∧ tx z ≤ 122)) 0 k) = true›; rw [show k = v 11 by omega] at h9; exact h9⟩ hb) ?_
          exact join102  _ _ ls  hW hS (lv_sub hl [0, 1, 2, 3, 4, 5, 6, 7] rfl)
        · have c12d := of_decide_eq_true c12
          refine lv_iload F.1 F.2.1 dX9_add_79 (lv_at hl 7 rfl) ?_
          refine h_i2l F dX9_add_81 (by omega) ?_
          refine h_lconst (n := 1) (z := 1) F dX9_add_82 rfl ?_
          refine h_ldc2 (n := 6) F kk_RX9_90 dX9_add_83 ?_
          refine cl_RX9_82 (As := [.long (lI co), .long (lI 1), .long (lI 6)]) (rest := [.ref mo]) F hl (c_X9_isIn l X w1 co 1 6 (by omega) (by omega) (by omega)) hW hS rfl rfl ⟨Nat.le_of_ble_eq_true rfl, Nat.le_of_ble_eq_true rfl⟩ (Nat.le_of_ble_eq_true rfl) ⟨Nat.zero_le _, Nat.zero_le _⟩ dX9_add_86 (fun w1 H locs hp13 hW hS => ?_)
          rw [hp13] at hW; clear hp13; clear w1
          refine h_ifeqb (tgt := 101) F dX9_add_89 (by decide) (fun c14 => ?_) (fun c14 => ?_)
          · have c14d := of_decide_eq_false c14
            refine h_iconst F dX9_add_101 ?_
            refine h_top (show (0 : Int) = bz false from by first | exact bzf rfl | exact absurd ⟨by omega, by omega, by have h9 := ‹(decide (1 ≤ v 11 ∧ v 11 ≤ 8) && al (fun z => decide (97 ≤ tx z ∧ tx z ≤ 122)) 0 k) = true›; rw [show k = v 11 by omega] at h9; exact h9⟩ hb) ?_
            exact join102  _ _ ls  hW hS (lv_sub hl [0, 1, 2, 3, 4, 5, 6, 7] rfl)
          · have c14d := of_decide_eq_true c14
            refine lv_iload F.1 F.2.1 dX9_add_92 (lv_at hl 0 rfl) ?_
            refine h_ifeqb (tgt := 101) F dX9_add_94 (by decide) (fun c15 => ?_) (fun c15 => ?_)
            · refine h_iconst F dX9_add_101 ?_
              refine h_top (show (0 : Int) = bz false from by first | exact bzf rfl | exact absurd ⟨by omega, by omega, by have h9 := ‹(decide (1 ≤ v 11 ∧ v 11 ≤ 8) && al (fun z => decide (97 ≤ tx z ∧ tx z ≤ 122)) 0 k) = true›; rw [show k = v 11 by omega] at h9; exact h9⟩ hb) ?_
              exact join102  _ _ ls  hW hS (lv_sub hl [0, 1, 2, 3, 4, 5, 6, 7] rfl)
            · refine h_iconst F dX9_add_97 ?_
              refine h_goto (tgt := 102) F dX9_add_98 (by decide) ?_
              refine h_top (show (1 : Int) = bz false from by first | exact bzf rfl | exact absurd ⟨by omega, by omega, by have h9 := ‹(decide (1 ≤ v 11 ∧ v 11 ≤ 8) && al (fun z => decide (97 ≤ tx z ∧ tx z ≤ 122)) 0 k) = true›; rw [show k = v 11 by omega] at h9; exact h9⟩ hb) ?_
              exact join102  _ _ ls  hW hS (lv_sub hl [0, 1, 2, 3, 4, 5, 6, 7] rfl)
      · have join63 : ∀ (H : Heap) (locs : List Loc) (ls : Array Slot), Wd X w1 s H → va_S (cxA X) s.heap H locs → lv_has ls 10 [(6, .int (iI (bz (decide (1 ≤ v 11 ∧ v 11 ≤ 8) && al (fun z => decide (97 ≤ tx z ∧ tx z ≤ 122)) 0 k)))), (7, .int (iI k)), (5, .int (iI (v 11))), (0, .ref mo), (1, .int (iI sd)), (2, .int (iI x)), (3, .int (iI y)), (4, .int (iI co))] → W p l e (rmk 2 57) s m (List.toArray [.ref mo, .int (iI sd), .int (iI x), .int (iI y), .int (iI co)]) below meth c H locs 0 0 (MX X below (List.toArray [.ref mo, .int (iI sd), .int (iI x), .int (iI y), .int (iI co)]) s 0 0 (some (.int (iI 0))) (fun w' => w' mo = some (.inr (9, mL mo (up (up v 11 0) 6 1))) ∧ ∀ q : Nat, q ≠ mo → w' q = w q)) (F0 m 63 ls [.int (iI (bz ((decide (1 ≤ v 11 ∧ v 11 ≤ 8) && al (fun z => decide (97 ≤ tx z ∧ tx z ≤ 122)) 0 k) && decide (97 ≤ tx k ∧ tx k ≤ 122))))]) := by
          intro  H locs ls  hW hS hl
          refine lv_istore (lv' := [(6, .int (iI (bz ((decide (1 ≤ v 11 ∧ v 11 ≤ 8) && al (fun z => decide (97 ≤ tx z ∧ tx z ≤ 122)) 0 k) && decide (97 ≤ tx k ∧ tx k ≤ 122))))), (7, .int (iI k)), (5, .int (iI (v 11))), (0, .ref mo), (1, .int (iI sd)), (2, .int (iI x)), (3, .int (iI y)), (4, .int (iI co))]) F.1 F.2.1 dX9_add_63 hl (by decide) rfl (fun ls hl => ?_)
          refine h_iinc (k := 1) (a := k) (lv' := [(7, .int (iI (k + 1))), (6, .int (iI (bz ((decide (1 ≤ v 11 ∧ v 11 ≤ 8) && al (fun z => decide (97 ≤ tx z ∧ tx z ≤ 122)) 0 k) && decide (97 ≤ tx k ∧ tx k ≤ 122))))), (5, .int (iI (v 11))), (0, .ref mo), (1, .int (iI sd)), (2, .int (iI x)), (3, .int (iI y)), (4, .int (iI co))]) F dX9_add_65 hl rfl (by decide) rfl (fun ls hl => ?_)
          refine h_goto (tgt := 26) F dX9_add_68 (by decide) ?_
          have eq16 : (bz (decide (1 ≤ v 11 ∧ v 11 ≤ 8) && al (fun z => decide (97 ≤ tx z ∧ tx z ≤ 122)) 0 (k + 1)) : Int) = bz ((decide (1 ≤ v 11 ∧ v 11 ≤ 8) && al (fun z => decide (97 ≤ tx z ∧ tx z ≤ 122)) 0 k) && decide (97 ≤ tx k ∧ tx k ≤ 122)) := by rw [al_s _ (by omega), ← Bool.and_assoc]
          have eq17 : ((k + 1) : Int) = k + 1 := by first | rfl | omega | simp
          exact ih26 (k + 1)  (by omega) (by omega)   _ _ ls hW hS (by rw [eq16, eq17]; exact lv_sub hl [1, 0, 2, 3, 4, 5, 6, 7] rfl)
        refine lv_iload F.1 F.2.1 dX9_add_33 (lv_at hl 0 rfl) ?_
        refine h_ifeqb (tgt := 62) F dX9_add_35 (by decide) (fun c18 => ?_) (fun c18 => ?_)
        · refine h_iconst F dX9_add_62 ?_
          refine h_top (show (0 : Int) = bz ((decide (1 ≤ v 11 ∧ v 11 ≤ 8) && al (fun z => decide (97 ≤ tx z ∧ tx z ≤ 122)) 0 k) && decide (97 ≤ tx k ∧ tx k ≤ 122)) from by first | exact bzt (by rw [‹(decide (1 ≤ v 11 ∧ v 11 ≤ 8) && al (fun z => decide (97 ≤ tx z ∧ tx z ≤ 122)) 0 k) = true›, ‹decide (97 ≤ tx k ∧ tx k ≤ 122) = true›]; rfl) | exact bzf (by rw [‹(decide (1 ≤ v 11 ∧ v 11 ≤ 8) && al (fun z => decide (97 ≤ tx z ∧ tx z ≤ 122)) 0 k) = false›]; rfl) | exact bzf (by rw [‹decide (97 ≤ tx k ∧ tx k ≤ 122) = false›, Bool.and_false])) ?_
          exact join63  _ _ ls  hW hS (lv_sub hl [0, 1, 2, 3, 4, 5, 6, 7] rfl)
        · have hbk := hby k (by omega) (by omega)
          refine lv_aload_n F.1 F.2.1 dX9_add_38 rfl (lv_at hl 3 rfl) ?_
          refine gf_RX9_29 F hW ho3 rfl dX9_add_39 ?_
          refine lv_iload F.1 F.2.1 dX9_add_42 (lv_at hl 1 rfl) ?_
          refine h_iald F hW htx (by omega) (by omega) dX9_add_44 ?_
          refine h_i2l F dX9_add_45 (by omega) ?_
          refine h_ldc2 (n := 97) F kk_RX9_266 dX9_add_46 ?_
          refine h_ldc2 (n := 122) F kk_RX9_268 dX9_add_49 ?_
          refine cl_RX9_82 (As := [.long (lI (tx k)), .long (lI 97), .long (lI 122)]) (rest := []) F hl (c_X9_isIn l X w1 (tx k) 97 122 (by omega) (by omega) (by omega)) hW hS rfl rfl ⟨Nat.le_of_ble_eq_true rfl, Nat.le_of_ble_eq_true rfl⟩ (Nat.le_of_ble_eq_true rfl) ⟨Nat.zero_le _, Nat.zero_le _⟩ dX9_add_52 (fun w1 H locs hp19 hW hS => ?_)
          rw [hp19] at hW; clear hp19; clear w1
          refine h_ifeqb (tgt := 62) F dX9_add_55 (by decide) (fun c20 => ?_) (fun c20 => ?_)
          · have c20d := of_decide_eq_false c20
            refine h_iconst F dX9_add_62 ?_
            refine h_top (show (0 : Int) = bz ((decide (1 ≤ v 11 ∧ v 11 ≤ 8) && al (fun z => decide (97 ≤ tx z ∧ tx z ≤ 122)) 0 k) && decide (97 ≤ tx k ∧ tx k ≤ 122)) from by first | exact bzt (by rw [‹(decide (1 ≤ v 11 ∧ v 11 ≤ 8) && al (fun z => decide (97 ≤ tx z ∧ tx z ≤ 122)) 0 k) = true›, ‹decide (97 ≤ tx k ∧ tx k ≤ 122) = true›]; rfl) | exact bzf (by rw [‹(decide (1 ≤ v 11 ∧ v 11 ≤ 8) && al (fun z => decide (97 ≤ tx z ∧ tx z ≤ 122)) 0 k) = false›]; rfl) | exact bzf (by rw [‹decide (97 ≤ tx k ∧ tx k ≤ 122) = false›, Bool.and_false])) ?_
            exact join63  _ _ ls  hW hS (lv_sub hl [0, 1, 2, 3, 4, 5, 6, 7] rfl)
          · have c20d := of_decide_eq_true c20
            refine h_iconst F dX9_add_58 ?_
            refine h_goto (tgt := 63) F dX9_add_59 (by decide) ?_
            refine h_top (show (1 : Int) = bz ((decide (1 ≤ v 11 ∧ v 11 ≤ 8) && al (fun z => decide (97 ≤ tx z ∧ tx z ≤ 122)) 0 k) && decide (97 ≤ tx k ∧ tx k ≤ 122)) from by first | exact bzt (by rw [‹(decide (1 ≤ v 11 ∧ v 11 ≤ 8) && al (fun z => decide (97 ≤ tx z ∧ tx z ≤ 122)) 0 k) = true›, ‹decide (97 ≤ tx k ∧ tx k ≤ 122) = true›]; rfl) | exact bzf (by rw [‹(decide (1 ≤ v 11 ∧ v 11 ≤ 8) && al (fun z => decide (97 ≤ tx z ∧ tx z ≤ 122)) 0 k) = false›]; rfl) | exact bzf (by rw [‹decide (97 ≤ tx k ∧ tx k ≤ 122) = false›, Bool.and_false])) ?_
            exact join63  _ _ ls  hW hS (lv_sub hl [0, 1, 2, 3, 4, 5, 6, 7] rfl)
  have eq21 : (bz (decide (1 ≤ v 11 ∧ v 11 ≤ 8) && al (fun z => decide (97 ≤ tx z ∧ tx z ≤ 122)) 0 0) : Int) = bz (decide (1 ≤ (v 11) ∧ (v 11) ≤ 8)) := by rw [al_0, Bool.and_true]
  exact loop26 ((v 11 - 0) + 1 : Int).toNat 0  (by omega) (by omega)   _ _ ls hW hS (by rw [eq21]; exact lv_sub hl [1, 0, 2, 3, 4, 5, 6, 7] rfl)
set_option maxHeartbeats 4000000 in
set_option maxRecDepth 100000 in
theorem c_X9_add_r4 (l : Launch) (X : Cx) (w : Wo) (mo : Nat) (v σ : Int → Int) (rf : Int → Int) (tx : Int → Int) (sd x y co : Int) (hM : w mo = some (.inr (9, mL mo v))) (hs : w (mo + 1) = some (aZ X 1317 σ)) (hwf : WF σ) (hrf : w (mo + 6) = some (aZ X 8 rf)) (htx : w (mo + 7) = some (aZ X 400 tx)) (hN : 0 ≤ v 11 ∧ v 11 ≤ 400) (hby : ∀ i, 0 ≤ i → i < v 11 → 0 ≤ tx i ∧ tx i ≤ 255) (hsd : sd = 0 ∨ sd = 1) (hco : 1 ≤ co ∧ co ≤ 6) (hw1 : (decide (1 ≤ v 11 ∧ v 11 ≤ 8) && al (fun z => decide (97 ≤ tx z ∧ tx z ≤ 122)) 0 (v 11)) = true) (hop : σ 5 = 8) : CM l X yX9_add cX9_add 10 (some (.int)) (rmk 2 57) [.ref mo, .int (iI sd), .int (iI x), .int (iI y), .int (iI co)] w (some (.int (iI (-4)))) (fun w' => w' mo = some (.inr (9, mL mo (up (up v 11 0) 6 0))) ∧ w' (mo + 6) = some (aZ X 8 (up rf 4 (rf 4 + 1))) ∧ ∀ q : Nat, q ≠ mo → q ≠ mo + 6 → w' q = w q) := by
  refine CM.of (lv := [(0, .ref mo), (1, .int (iI sd)), (2, .int (iI x)), (3, .int (iI y)), (4, .int (iI co))]) (by decide) (Nat.le_of_ble_eq_true rfl) rfl (fun p e s m below meth c ls F hr hlk hin hW hS hl => ?_)
  have hZ0 := hW.2.2
  have hB9 := hW.1.2
  clear hin
  have hF := hwf.1
  unfold WF0 at hF
  have hw2 := hw1
  rw [Bool.and_eq_true] at hw2
  have hw3 := of_decide_eq_true hw2.1
  refine lv_aload_n F.1 F.2.1 dX9_add_0 rfl (lv_at hl 0 rfl) ?_
  refine gf_RX9_71 F hW hM rfl dX9_add_1 ?_
  refine lv_istore (lv' := [(5, .int (iI (v 11))), (0, .ref mo), (1, .int (iI sd)), (2, .int (iI x)), (3, .int (iI y)), (4, .int (iI co))]) F.1 F.2.1 dX9_add_4 hl (by decide) rfl (fun ls hl => ?_)
  refine lv_aload_n F.1 F.2.1 dX9_add_6 rfl (lv_at hl 1 rfl) ?_
  refine h_iconst F dX9_add_7 ?_
  refine pf_RX9_71 F hW hS hM (Nat.le_of_ble_eq_true rfl) dX9_add_8 (fun w1 H locs ho3 hn2 hW hS => ?_)
  rw [mL_11] at ho3
  have hs := (hn2 _ (by omega)).trans hs
  have hrf := (hn2 _ (by omega)).trans hrf
  have htx := (hn2 _ (by omega)).trans htx
  refine lv_iload F.1 F.2.1 dX9_add_11 (lv_at hl 0 rfl) ?_
  refine h_i2l F dX9_add_13 (by omega) ?_
  refine h_lconst (n := 1) (z := 1) F dX9_add_14 rfl ?_
  refine h_ldc2 (n := 8) F kk_RX9_183 dX9_add_15 ?_
  refine cl_RX9_82 (As := [.long (lI (v 11)), .long (lI 1), .long (lI 8)]) (rest := []) F hl (c_X9_isIn l X w1 (v 11) 1 8 (by omega) (by omega) (by omega)) hW hS rfl rfl ⟨Nat.le_of_ble_eq_true rfl, Nat.le_of_ble_eq_true rfl⟩ (Nat.le_of_ble_eq_true rfl) ⟨Nat.zero_le _, Nat.zero_le _⟩ dX9_add_18 (fun w1 H locs hp4 hW hS => ?_)
  rw [hp4] at hW; clear hp4; clear w1
  refine lv_istore (lv' := [(6, .int (iI (bz (decide (1 ≤ (v 11) ∧ (v 11) ≤ 8))))), (5, .int (iI (v 11))), (0, .ref mo), (1, .int (iI sd)), (2, .int (iI x)), (3, .int (iI y)), (4, .int (iI co))]) F.1 F.2.1 dX9_add_21 hl (by decide) rfl (fun ls hl => ?_)
  refine h_iconst F dX9_add_23 ?_
  refine lv_istore (lv' := [(7, .int (iI 0)), (6, .int (iI (bz (decide (1 ≤ (v 11) ∧ (v 11) ≤ 8))))), (5, .int (iI (v 11))), (0, .ref mo), (1, .int (iI sd)), (2, .int (iI x)), (3, .int (iI y)), (4, .int (iI co))]) F.1 F.2.1 dX9_add_24 hl (by decide) rfl (fun ls hl => ?_)
  have loop26 : ∀ (n9 : Nat) (k : Int), (hrg : 0 ≤ k ∧ k ≤ v 11) → (hms : v 11 - k < (n9 : Int)) → (H : Heap) → (locs : List Loc) → (ls : Array Slot) → Wd X w1 s H → va_S (cxA X) s.heap H locs → lv_has ls 10 [(6, .int (iI (bz (decide (1 ≤ v 11 ∧ v 11 ≤ 8) && al (fun z => decide (97 ≤ tx z ∧ tx z ≤ 122)) 0 k)))), (7, .int (iI k)), (5, .int (iI (v 11))), (0, .ref mo), (1, .int (iI sd)), (2, .int (iI x)), (3, .int (iI y)), (4, .int (iI co))] → W p l e (rmk 2 57) s m (List.toArray [.ref mo, .int (iI sd), .int (iI x), .int (iI y), .int (iI co)]) below meth c H locs 0 0 (MX X below (List.toArray [.ref mo, .int (iI sd), .int (iI x), .int (iI y), .int (iI co)]) s 0 0 (some (.int (iI (-4)))) (fun w' => w' mo = some (.inr (9, mL mo (up (up v 11 0) 6 0))) ∧ w' (mo + 6) = some (aZ X 8 (up rf 4 (rf 4 + 1))) ∧ ∀ q : Nat, q ≠ mo → q ≠ mo + 6 → w' q = w q)) (F0 m 26 ls []) := by
    intro n9
    induction n9 with
    | zero => intro k  hrg hms; exfalso; omega
    | succ n9 ih26 =>
      intro k  hrg hms   H locs ls hW hS hl
      refine lv_iload F.1 F.2.1 dX9_add_26 (lv_at hl 1 rfl) ?_
      refine lv_iload F.1 F.2.1 dX9_add_28 (lv_at hl 2 rfl) ?_
      refine h_icge (tgt := 71) F dX9_add_30 (by decide) (by omega) (fun c5 => ?_) (fun c5 => ?_)
      · have join102 : ∀ (H : Heap) (locs : List Loc) (ls : Array Slot), Wd X w1 s H → va_S (cxA X) s.heap H locs → lv_has ls 10 [(6, .int (iI (bz (decide (1 ≤ v 11 ∧ v 11 ≤ 8) && al (fun z => decide (97 ≤ tx z ∧ tx z ≤ 122)) 0 k)))), (7, .int (iI k)), (5, .int (iI (v 11))), (0, .ref mo), (1, .int (iI sd)), (2, .int (iI x)), (3, .int (iI y)), (4, .int (iI co))] → W p l e (rmk 2 57) s m (List.toArray [.ref mo, .int (iI sd), .int (iI x), .int (iI y), .int (iI co)]) below meth c H locs 0 0 (MX X below (List.toArray [.ref mo, .int (iI sd), .int (iI x), .int (iI y), .int (iI co)]) s 0 0 (some (.int (iI (-4)))) (fun w' => w' mo = some (.inr (9, mL mo (up (up v 11 0) 6 0))) ∧ w' (mo + 6) = some (aZ X 8 (up rf 4 (rf 4 + 1))) ∧ ∀ q : Nat, q ≠ mo → q ≠ mo + 6 → w' q = w q)) (F0 m 102 ls [.int (iI (bz true)), .ref mo]) := by
          intro  H locs ls  hW hS hl
          refine cl_RX9_74 (As := [.int (iI (bz true))]) (rest := []) F hl (c_pass_t l X w1 mo (up v 11 0) σ ho3 hs hwf) hW hS ho3 rfl rfl ⟨Nat.le_of_ble_eq_true rfl, Nat.le_of_ble_eq_true rfl⟩ (Nat.le_of_ble_eq_true rfl) ⟨Nat.zero_le _, Nat.zero_le _⟩ dX9_add_102 (fun w6 H locs hp7 hW hS => ?_)
          obtain ⟨ho8, hn9⟩ := hp7
          have hs := (hn9 _ (by omega)).trans hs
          have hrf := (hn9 _ (by omega)).trans hrf
          have htx := (hn9 _ (by omega)).trans htx
          refine h_ifneb (tgt := 110) F dX9_add_105 (by decide) (fun _ => ?_) (fun c9 => absurd c9 (by decide))
          refine lv_aload_n F.1 F.2.1 dX9_add_110 rfl (lv_at hl 3 rfl) ?_
          refine gf_RX9_7 F hW ho8 rfl dX9_add_111 ?_
          refine h_iconst F dX9_add_114 ?_
          refine h_iald F hW hs (by omega) (by omega) dX9_add_115 ?_
          refine h_bipush F dX9_add_116 rfl ?_
          refine h_icne (tgt := 125) F dX9_add_118 (by decide) (by omega) (fun c11 => ?_) (fun c11 => ?_)
          · exfalso; omega
          · refine h_iconst F dX9_add_121 ?_
            refine h_goto (tgt := 135) F dX9_add_122 (by decide) ?_
            refine lv_istore (lv' := [(7, .int (iI 4)), (6, .int (iI (bz (decide (1 ≤ v 11 ∧ v 11 ≤ 8) && al (fun z => decide (97 ≤ tx z ∧ tx z ≤ 122)) 0 k)))), (5, .int (iI (v 11))), (0, .ref mo), (1, .int (iI sd)), (2, .int (iI x)), (3, .int (iI y)), (4, .int (iI co))]) F.1 F.2.1 dX9_add_135 hl (by decide) rfl (fun ls hl => ?_)
            refine lv_iload F.1 F.2.1 dX9_add_137 (lv_at hl 0 rfl) ?_
            refine h_ifle (tgt := 149) F dX9_add_139 (by decide) (by decide) (fun c9 => absurd c9 (by decide)) (fun _ => ?_)
            refine lv_aload_n F.1 F.2.1 dX9_add_142 rfl (lv_at hl 3 rfl) ?_
            refine lv_iload F.1 F.2.1 dX9_add_143 (lv_at hl 0 rfl) ?_
            refine cl_RX9_247 (As := [.int (iI 4)]) (rest := []) F hl (c_X9_refuses l X w6 mo (up (up v 11 0) 6 0) σ rf 4 ho8 hrf (by omega)) hW hS ho8 rfl rfl ⟨Nat.le_of_ble_eq_true rfl, Nat.le_of_ble_eq_true rfl⟩ (Nat.le_of_ble_eq_true rfl) ⟨Nat.zero_le _, Nat.zero_le _⟩ dX9_add_145 (fun w13 H locs hp14 hW hS => ?_)
            obtain ⟨ha15, hn16⟩ := hp14
            have ho8 := (hn16 _ (by omega)).trans ho8
            have hs := (hn16 _ (by omega)).trans hs
            have htx := (hn16 _ (by omega)).trans htx
            exact h_ireti F hr hlk hW hS ⟨ho8, ha15, (fun q h09 h19 => by rw [hn16 q (by omega), hn9 q (by omega), hn2 q (by omega)])⟩ dX9_add_148
        refine lv_aload_n F.1 F.2.1 dX9_add_71 rfl (lv_at hl 3 rfl) ?_
        refine lv_iload_n F.1 F.2.1 dX9_add_72 rfl (lv_at hl 4 rfl) ?_
        refine cl_RX9_232 (As := [.int (iI sd)]) (rest := [.ref mo]) F hl (c_X9_isSide l X w1 sd (by omega)) hW hS rfl rfl ⟨Nat.le_of_ble_eq_true rfl, Nat.le_of_ble_eq_true rfl⟩ (Nat.le_of_ble_eq_true rfl) ⟨Nat.zero_le _, Nat.zero_le _⟩ dX9_add_73 (fun w1 H locs hp17 hW hS => ?_)
        rw [hp17] at hW; clear hp17; clear w1
        refine h_ifeqb (tgt := 101) F dX9_add_76 (by decide) (fun c18 => ?_) (fun c18 => ?_)
        · have c18d := of_decide_eq_false c18
          exfalso; omega
        · have c18d := of_decide_eq_true c18
          refine lv_iload F.1 F.2.1 dX9_add_79 (lv_at hl 7 rfl) ?_
          refine h_i2l F dX9_add_81 (by omega) ?_
          refine h_lconst (n := 1) (z := 1) F dX9_add_82 rfl ?_
          refine h_ldc2 (n := 6) F kk_RX9_90 dX9_add_83 ?_
          refine cl_RX9_82 (As := [.long (lI co), .long (lI 1), .long (lI 6)]) (rest := [.ref mo]) F hl (c_X9_isIn l X w1 co 1 6 (by omega) (by omega) (by omega)) hW hS rfl rfl ⟨Nat.le_of_ble_eq_true rfl, Nat.le_of_ble_eq_true rfl⟩ (Nat.le_of_ble_eq_true rfl) ⟨Nat.zero_le _, Nat.zero_le _⟩ dX9_add_86 (fun w1 H locs hp19 hW hS => ?_)
          rw [hp19] at hW; clear hp19; clear w1
          refine h_ifeqb (tgt := 101) F dX9_add_89 (by decide) (fun c20 => ?_) (fun c20 => ?_)
          · have c20d := of_decide_eq_false c20
            exfalso; omega
          · have c20d := of_decide_eq_true c20
            refine lv_iload F.1 F.2.1 dX9_add_92 (lv_at hl 0 rfl) ?_
            refine h_ifeqb (tgt := 101) F dX9_add_94 (by decide) (fun c21 => ?_) (fun c21 => ?_)
            · exfalso; rw [show k = v 11 by omega, hw1] at c21; cases c21
            · refine h_iconst F dX9_add_97 ?_
              refine h_goto (tgt := 102) F dX9_add_98 (by decide) ?_
              refine h_top (show (1 : Int) = bz true from by first | exact bzt rfl | (exfalso; omega)) ?_
              exact join102  _ _ ls  hW hS (lv_sub hl [0, 1, 2, 3, 4, 5, 6, 7] rfl)
      · have join63 : ∀ (H : Heap) (locs : List Loc) (ls : Array Slot), Wd X w1 s H → va_S (cxA X) s.heap H locs → lv_has ls 10 [(6, .int (iI (bz (decide (1 ≤ v 11 ∧ v 11 ≤ 8) && al (fun z => decide (97 ≤ tx z ∧ tx z ≤ 122)) 0 k)))), (7, .int (iI k)), (5, .int (iI (v 11))), (0, .ref mo), (1, .int (iI sd)), (2, .int (iI x)), (3, .int (iI y)), (4, .int (iI co))] → W p l e (rmk 2 57) s m (List.toArray [.ref mo, .int (iI sd), .int (iI x), .int (iI y), .int (iI co)]) below meth c H locs 0 0 (MX X below (List.toArray [.ref mo, .int (iI sd), .int (iI x), .int (iI y), .int (iI co)]) s 0 0 (some (.int (iI (-4)))) (fun w' => w' mo = some (.inr (9, mL mo (up (up v 11 0) 6 0))) ∧ w' (mo + 6) = some (aZ X 8 (up rf 4 (rf 4 + 1))) ∧ ∀ q : Nat, q ≠ mo → q ≠ mo + 6 → w' q = w q)) (F0 m 63 ls [.int (iI (bz ((decide (1 ≤ v 11 ∧ v 11 ≤ 8) && al (fun z => decide (97 ≤ tx z ∧ tx z ≤ 122)) 0 k) && decide (97 ≤ tx k ∧ tx k ≤ 122))))]) := by
          intro  H locs ls  hW hS hl
          refine lv_istore (lv' := [(6, .int (iI (bz ((decide (1 ≤ v 11 ∧ v 11 ≤ 8) && al (fun z => decide (97 ≤ tx z ∧ tx z ≤ 122)) 0 k) && decide (97 ≤ tx k ∧ tx k ≤ 122))))), (7, .int (iI k)), (5, .int (iI (v 11))), (0, .ref mo), (1, .int (iI sd)), (2, .int (iI x)), (3, .int (iI y)), (4, .int (iI co))]) F.1 F.2.1 dX9_add_63 hl (by decide) rfl (fun ls hl => ?_)
          refine h_iinc (k := 1) (a := k) (lv' := [(7, .int (iI (k + 1))), (6, .int (iI (bz ((decide (1 ≤ v 11 ∧ v 11 ≤ 8) && al (fun z => decide (97 ≤ tx z ∧ tx z ≤ 122)) 0 k) && decide (97 ≤ tx k ∧ tx k ≤ 122))))), (5, .int (iI (v 11))), (0, .ref mo), (1, .int (iI sd)), (2, .int (iI x)), (3, .int (iI y)), (4, .int (iI co))]) F dX9_add_65 hl rfl (by decide) rfl (fun ls hl => ?_)
          refine h_goto (tgt := 26) F dX9_add_68 (by decide) ?_
          have eq22 : (bz (decide (1 ≤ v 11 ∧ v 11 ≤ 8) && al (fun z => decide (97 ≤ tx z ∧ tx z ≤ 122)) 0 (k + 1)) : Int) = bz ((decide (1 ≤ v 11 ∧ v 11 ≤ 8) && al (fun z => decide (97 ≤ tx z ∧ tx z ≤ 122)) 0 k) && decide (97 ≤ tx k ∧ tx k ≤ 122)) := by rw [al_s _ (by omega), ← Bool.and_assoc]
          have eq23 : ((k + 1) : Int) = k + 1 := by first | rfl | omega | simp
          exact ih26 (k + 1)  (by omega) (by omega)   _ _ ls hW hS (by rw [eq22, eq23]; exact lv_sub hl [1, 0, 2, 3, 4, 5, 6, 7] rfl)
        refine lv_iload F.1 F.2.1 dX9_add_33 (lv_at hl 0 rfl) ?_
        refine h_ifeqb (tgt := 62) F dX9_add_35 (by decide) (fun c24 => ?_) (fun c24 => ?_)
        · refine h_iconst F dX9_add_62 ?_
          refine h_top (show (0 : Int) = bz ((decide (1 ≤ v 11 ∧ v 11 ≤ 8) && al (fun z => decide (97 ≤ tx z ∧ tx z ≤ 122)) 0 k) && decide (97 ≤ tx k ∧ tx k ≤ 122)) from by first | exact bzt (by rw [‹(decide (1 ≤ v 11 ∧ v 11 ≤ 8) && al (fun z => decide (97 ≤ tx z ∧ tx z ≤ 122)) 0 k) = true›, ‹decide (97 ≤ tx k ∧ tx k ≤ 122) = true›]; rfl) | exact bzf (by rw [‹(decide (1 ≤ v 11 ∧ v 11 ≤ 8) && al (fun z => decide (97 ≤ tx z ∧ tx z ≤ 122)) 0 k) = false›]; rfl) | exact bzf (by rw [‹decide (97 ≤ tx k ∧ tx k ≤ 122) = false›, Bool.and_false])) ?_
          exact join63  _ _ ls  hW hS (lv_sub hl [0, 1, 2, 3, 4, 5, 6, 7] rfl)
        · have hbk := hby k (by omega) (by omega)
          refine lv_aload_n F.1 F.2.1 dX9_add_38 rfl (lv_at hl 3 rfl) ?_
          refine gf_RX9_29 F hW ho3 rfl dX9_add_39 ?_
          refine lv_iload F.1 F.2.1 dX9_add_42 (lv_at hl 1 rfl) ?_
          refine h_iald F hW htx (by omega) (by omega) dX9_add_44 ?_
          refine h_i2l F dX9_add_45 (by omega) ?_
          refine h_ldc2 (n := 97) F kk_RX9_266 dX9_add_46 ?_
          refine h_ldc2 (n := 122) F kk_RX9_268 dX9_add_49 ?_
          refine cl_RX9_82 (As := [.long (lI (tx k)), .long (lI 97), .long (lI 122)]) (rest := []) F hl (c_X9_isIn l X w1 (tx k) 97 122 (by omega) (by omega) (by omega)) hW hS rfl rfl ⟨Nat.le_of_ble_eq_true rfl, Nat.le_of_ble_eq_true rfl⟩ (Nat.le_of_ble_eq_true rfl) ⟨Nat.zero_le _, Nat.zero_le _⟩ dX9_add_52 (fun w1 H locs hp25 hW hS => ?_)
          rw [hp25] at hW; clear hp25; clear w1
          refine h_ifeqb (tgt := 62) F dX9_add_55 (by decide) (fun c26 => ?_) (fun c26 => ?_)
          · have c26d := of_decide_eq_false c26
            refine h_iconst F dX9_add_62 ?_
            refine h_top (show (0 : Int) = bz ((decide (1 ≤ v 11 ∧ v 11 ≤ 8) && al (fun z => decide (97 ≤ tx z ∧ tx z ≤ 122)) 0 k) && decide (97 ≤ tx k ∧ tx k ≤ 122)) from by first | exact bzt (by rw [‹(decide (1 ≤ v 11 ∧ v 11 ≤ 8) && al (fun z => decide (97 ≤ tx z ∧ tx z ≤ 122)) 0 k) = true›, ‹decide (97 ≤ tx k ∧ tx k ≤ 122) = true›]; rfl) | exact bzf (by rw [‹(decide (1 ≤ v 11 ∧ v 11 ≤ 8) && al (fun z => decide (97 ≤ tx z ∧ tx z ≤ 122)) 0 k) = false›]; rfl) | exact bzf (by rw [‹decide (97 ≤ tx k ∧ tx k ≤ 122) = false›, Bool.and_false])) ?_
            exact join63  _ _ ls  hW hS (lv_sub hl [0, 1, 2, 3, 4, 5, 6, 7] rfl)
          · have c26d := of_decide_eq_true c26
            refine h_iconst F dX9_add_58 ?_
            refine h_goto (tgt := 63) F dX9_add_59 (by decide) ?_
            refine h_top (show (1 : Int) = bz ((decide (1 ≤ v 11 ∧ v 11 ≤ 8) && al (fun z => decide (97 ≤ tx z ∧ tx z ≤ 122)) 0 k) && decide (97 ≤ tx k ∧ tx k ≤ 122)) from by first | exact bzt (by rw [‹(decide (1 ≤ v 11 ∧ v 11 ≤ 8) && al (fun z => decide (97 ≤ tx z ∧ tx z ≤ 122)) 0 k) = true›, ‹decide (97 ≤ tx k ∧ tx k ≤ 122) = true›]; rfl) | exact bzf (by rw [‹(decide (1 ≤ v 11 ∧ v 11 ≤ 8) && al (fun z => decide (97 ≤ tx z ∧ tx z ≤ 122)) 0 k) = false›]; rfl) | exact bzf (by rw [‹decide (97 ≤ tx k ∧ tx k ≤ 122) = false›, Bool.and_false])) ?_
            exact join63  _ _ ls  hW hS (lv_sub hl [0, 1, 2, 3, 4, 5, 6, 7] rfl)
  have eq27 : (bz (decide (1 ≤ v 11 ∧ v 11 ≤ 8) && al (fun z => decide (97 ≤ tx z ∧ tx z ≤ 122)) 0 0) : Int) = bz (decide (1 ≤ (v 11) ∧ (v 11) ≤ 8)) := by rw [al_0, Bool.and_true]
  exact loop26 ((v 11 - 0) + 1 : Int).toNat 0  (by omega) (by omega)   _ _ ls hW hS (by rw [eq27]; exact lv_sub hl [1, 0, 2, 3, 4, 5, 6, 7] rfl)
set_option maxHeartbeats 4000000 in
set_option maxRecDepth 100000 in
theorem c_X9_add_r (l : Launch) (X : Cx) (w : Wo) (mo : Nat) (v σ : Int → Int) (rf : Int → Int) (tx : Int → Int) (sd x y co : Int) (r9 : Int) (hM : w mo = some (.inr (9, mL mo v))) (hs : w (mo + 1) = some (aZ X 1317 σ)) (hwf : WF σ) (hrf : w (mo + 6) = some (aZ X 8 rf)) (htx : w (mo + 7) = some (aZ X 400 tx)) (hN : 0 ≤ v 11 ∧ v 11 ≤ 400) (hby : ∀ i, 0 ≤ i → i < v 11 → 0 ≤ tx i ∧ tx i ≤ 255) (hsd : sd = 0 ∨ sd = 1) (hco : 1 ≤ co ∧ co ≤ 6) (hw1 : (decide (1 ≤ v 11 ∧ v 11 ≤ 8) && al (fun z => decide (97 ≤ tx z ∧ tx z ≤ 122)) 0 (v 11)) = true) (hx : -2147483648 ≤ x ∧ x < 2147483648) (hy : -2147483648 ≤ y ∧ y < 2147483648) (hop : σ 5 < 8) (hwy : whyS σ (v 11) sd x y (-1) = r9) (hr9 : r9 = 5 ∨ r9 = 6) : CM l X yX9_add cX9_add 10 (some (.int)) (rmk 2 57) [.ref mo, .int (iI sd), .int (iI x), .int (iI y), .int (iI co)] w (some (.int (iI (-r9)))) (fun w' => w' mo = some (.inr (9, mL mo (up (up v 11 0) 6 0))) ∧ w' (mo + 6) = some (aZ X 8 (up rf r9 (rf r9 + 1))) ∧ ∀ q : Nat, q ≠ mo → q ≠ mo + 6 → w' q = w q) := by
  refine CM.of (lv := [(0, .ref mo), (1, .int (iI sd)), (2, .int (iI x)), (3, .int (iI y)), (4, .int (iI co))]) (by decide) (Nat.le_of_ble_eq_true rfl) rfl (fun p e s m below meth c ls F hr hlk hin hW hS hl => ?_)
  have hZ0 := hW.2.2
  have hB9 := hW.1.2
  clear hin
  have hF := hwf.1
  unfold WF0 at hF
  have hw2 := hw1
  rw [Bool.and_eq_true] at hw2
  have hw3 := of_decide_eq_true hw2.1
  refine lv_aload_n F.1 F.2.1 dX9_add_0 rfl (lv_at hl 0 rfl) ?_
  refine gf_RX9_71 F hW hM rfl dX9_add_1 ?_
  refine lv_istore (lv' := [(5, .int (iI (v 11))), (0, .ref mo), (1, .int (iI sd)), (2, .int (iI x)), (3, .int (iI y)), (4, .int (iI co))]) F.1 F.2.1 dX9_add_4 hl (by decide) rfl (fun ls hl => ?_)
  refine lv_aload_n F.1 F.2.1 dX9_add_6 rfl (lv_at hl 1 rfl) ?_
  refine h_iconst F dX9_add_7 ?_
  refine pf_RX9_71 F hW hS hM (Nat.le_of_ble_eq_true rfl) dX9_add_8 (fun w1 H locs ho3 hn2 hW hS => ?_)
  rw [mL_11] at ho3
  have hs := (hn2 _ (by omega)).trans hs
  have hrf := (hn2 _ (by omega)).trans hrf
  have htx := (hn2 _ (by omega)).trans htx
  refine lv_iload F.1 F.2.1 dX9_add_11 (lv_at hl 0 rfl) ?_
  refine h_i2l F dX9_add_13 (by omega) ?_
  refine h_lconst (n := 1) (z := 1) F dX9_add_14 rfl ?_
  refine h_ldc2 (n := 8) F kk_RX9_183 dX9_add_15 ?_
  refine cl_RX9_82 (As := [.long (lI (v 11)), .long (lI 1), .long (lI 8)]) (rest := []) F hl (c_X9_isIn l X w1 (v 11) 1 8 (by omega) (by omega) (by omega)) hW hS rfl rfl ⟨Nat.le_of_ble_eq_true rfl, Nat.le_of_ble_eq_true rfl⟩ (Nat.le_of_ble_eq_true rfl) ⟨Nat.zero_le _, Nat.zero_le _⟩ dX9_add_18 (fun w1 H locs hp4 hW hS => ?_)
  rw [hp4] at hW; clear hp4; clear w1
  refine lv_istore (lv' := [(6, .int (iI (bz (decide (1 ≤ (v 11) ∧ (v 11) ≤ 8))))), (5, .int (iI (v 11))), (0, .ref mo), (1, .int (iI sd)), (2, .int (iI x)), (3, .int (iI y)), (4, .int (iI co))]) F.1 F.2.1 dX9_add_21 hl (by decide) rfl (fun ls hl => ?_)
  refine h_iconst F dX9_add_23 ?_
  refine lv_istore (lv' := [(7, .int (iI 0)), (6, .int (iI (bz (decide (1 ≤ (v 11) ∧ (v 11) ≤ 8))))), (5, .int (iI (v 11))), (0, .ref mo), (1, .int (iI sd)), (2, .int (iI x)), (3, .int (iI y)), (4, .int (iI co))]) F.1 F.2.1 dX9_add_24 hl (by decide) rfl (fun ls hl => ?_)
  have loop26 : ∀ (n9 : Nat) (k : Int), (hrg : 0 ≤ k ∧ k ≤ v 11) → (hms : v 11 - k < (n9 : Int)) → (H : Heap) → (locs : List Loc) → (ls : Array Slot) → Wd X w1 s H → va_S (cxA X) s.heap H locs → lv_has ls 10 [(6, .int (iI (bz (decide (1 ≤ v 11 ∧ v 11 ≤ 8) && al (fun z => decide (97 ≤ tx z ∧ tx z ≤ 122)) 0 k)))), (7, .int (iI k)), (5, .int (iI (v 11))), (0, .ref mo), (1, .int (iI sd)), (2, .int (iI x)), (3, .int (iI y)), (4, .int (iI co))] → W p l e (rmk 2 57) s m (List.toArray [.ref mo, .int (iI sd), .int (iI x), .int (iI y), .int (iI co)]) below meth c H locs 0 0 (MX X below (List.toArray [.ref mo, .int (iI sd), .int (iI x), .int (iI y), .int (iI co)]) s 0 0 (some (.int (iI (-r9)))) (fun w' => w' mo = some (.inr (9, mL mo (up (up v 11 0) 6 0))) ∧ w' (mo + 6) = some (aZ X 8 (up rf r9 (rf r9 + 1))) ∧ ∀ q : Nat, q ≠ mo → q ≠ mo + 6 → w' q = w q)) (F0 m 26 ls []) := by
    intro n9
    induction n9 with
    | zero => intro k  hrg hms; exfalso; omega
    | succ n9 ih26 =>
      intro k  hrg hms   H locs ls hW hS hl
      refine lv_iload F.1 F.2.1 dX9_add_26 (lv_at hl 1 rfl) ?_
      refine lv_iload F.1 F.2.1 dX9_add_28 (lv_at hl 2 rfl) ?_
      refine h_icge (tgt := 71) F dX9_add_30 (by decide) (by omega) (fun c5 => ?_) (fun c5 => ?_)
      · have join102 : ∀ (H : Heap) (locs : List Loc) (ls : Array Slot), Wd X w1 s H → va_S (cxA X) s.heap H locs → lv_has ls 10 [(6, .int (iI (bz (decide (1 ≤ v 11 ∧ v 11 ≤ 8) && al (fun z => decide (97 ≤ tx z ∧ tx z ≤ 122)) 0 k)))), (7, .int (iI k)), (5, .int (iI (v 11))), (0, .ref mo), (1, .int (iI sd)), (2, .int (iI x)), (3, .int (iI y)), (4, .int (iI co))] → W p l e (rmk 2 57) s m (List.toArray [.ref mo, .int (iI sd), .int (iI x), .int (iI y), .int (iI co)]) below meth c H locs 0 0 (MX X below (List.toArray [.ref mo, .int (iI sd), .int (iI x), .int (iI y), .int (iI co)]) s 0 0 (some (.int (iI (-r9)))) (fun w' => w' mo = some (.inr (9, mL mo (up (up v 11 0) 6 0))) ∧ w' (mo + 6) = some (aZ X 8 (up rf r9 (rf r9 + 1))) ∧ ∀ q : Nat, q ≠ mo → q ≠ mo + 6 → w' q = w q)) (F0 m 102 ls [.int (iI (bz true)), .ref mo]) := by
          intro  H locs ls  hW hS hl
          refine cl_RX9_74 (As := [.int (iI (bz true))]) (rest := []) F hl (c_pass_t l X w1 mo (up v 11 0) σ ho3 hs hwf) hW hS ho3 rfl rfl ⟨Nat.le_of_ble_eq_true rfl, Nat.le_of_ble_eq_true rfl⟩ (Nat.le_of_ble_eq_true rfl) ⟨Nat.zero_le _, Nat.zero_le _⟩ dX9_add_102 (fun w6 H locs hp7 hW hS => ?_)
          obtain ⟨ho8, hn9⟩ := hp7
          have hs := (hn9 _ (by omega)).trans hs
          have hrf := (hn9 _ (by omega)).trans hrf
          have htx := (hn9 _ (by omega)).trans htx
          refine h_ifneb (tgt := 110) F dX9_add_105 (by decide) (fun _ => ?_) (fun c9 => absurd c9 (by decide))
          refine lv_aload_n F.1 F.2.1 dX9_add_110 rfl (lv_at hl 3 rfl) ?_
          refine gf_RX9_7 F hW ho8 rfl dX9_add_111 ?_
          refine h_iconst F dX9_add_114 ?_
          refine h_iald F hW hs (by omega) (by omega) dX9_add_115 ?_
          refine h_bipush F dX9_add_116 rfl ?_
          refine h_icne (tgt := 125) F dX9_add_118 (by decide) (by omega) (fun c11 => ?_) (fun c11 => ?_)
          · refine lv_aload_n F.1 F.2.1 dX9_add_125 rfl (lv_at hl 3 rfl) ?_
            refine lv_iload F.1 F.2.1 dX9_add_126 (lv_at hl 2 rfl) ?_
            refine lv_iload_n F.1 F.2.1 dX9_add_128 rfl (lv_at hl 4 rfl) ?_
            refine lv_iload_n F.1 F.2.1 dX9_add_129 rfl (lv_at hl 5 rfl) ?_
            refine lv_iload_n F.1 F.2.1 dX9_add_130 rfl (lv_at hl 6 rfl) ?_
            refine h_iconst F dX9_add_131 ?_
            refine cl_RX9_270 (As := [.int (iI (v 11)), .int (iI sd), .int (iI x), .int (iI y), .int (iI (-1))]) (rest := []) F hl (c_X9_whyNot l X w6 mo (up (up v 11 0) 6 0) σ (v 11) sd x y (-1) ho8 hs hwf (by omega) (by omega) (by omega) (by omega) (by omega)) hW hS ho8 rfl rfl ⟨Nat.le_of_ble_eq_true rfl, Nat.le_of_ble_eq_true rfl⟩ (Nat.le_of_ble_eq_true rfl) ⟨Nat.zero_le _, Nat.zero_le _⟩ dX9_add_132 (fun w1 H locs hp12 hW hS => ?_)
            rw [hp12] at hW; clear hp12; clear w1
            refine h_top (show (whyS σ (v 11) sd x y (-1) : Int) = r9 from hwy) ?_
            refine lv_istore (lv' := [(7, .int (iI r9)), (6, .int (iI (bz (decide (1 ≤ v 11 ∧ v 11 ≤ 8) && al (fun z => decide (97 ≤ tx z ∧ tx z ≤ 122)) 0 k)))), (5, .int (iI (v 11))), (0, .ref mo), (1, .int (iI sd)), (2, .int (iI x)), (3, .int (iI y)), (4, .int (iI co))]) F.1 F.2.1 dX9_add_135 hl (by decide) rfl (fun ls hl => ?_)
            refine lv_iload F.1 F.2.1 dX9_add_137 (lv_at hl 0 rfl) ?_
            refine h_ifle (tgt := 149) F dX9_add_139 (by decide) (by omega) (fun c13 => ?_) (fun c13 => ?_)
            · exfalso; omega
            · refine lv_aload_n F.1 F.2.1 dX9_add_142 rfl (lv_at hl 3 rfl) ?_
              refine lv_iload F.1 F.2.1 dX9_add_143 (lv_at hl 0 rfl) ?_
              refine cl_RX9_247 (As := [.int (iI r9)]) (rest := []) F hl (c_X9_refuses l X w6 mo (up (up v 11 0) 6 0) σ rf r9 ho8 hrf (by omega)) hW hS ho8 rfl rfl ⟨Nat.le_of_ble_eq_true rfl, Nat.le_of_ble_eq_true rfl⟩ (Nat.le_of_ble_eq_true rfl) ⟨Nat.zero_le _, Nat.zero_le _⟩ dX9_add_145 (fun w14 H locs hp15 hW hS => ?_)
              obtain ⟨ha16, hn17⟩ := hp15
              have ho8 := (hn17 _ (by omega)).trans ho8
              have hs := (hn17 _ (by omega)).trans hs
              have htx := (hn17 _ (by omega)).trans htx
              exact h_ireti F hr hlk hW hS ⟨ho8, ha16, (fun q h09 h19 => by rw [hn17 q (by omega), hn9 q (by omega), hn2 q (by omega)])⟩ dX9_add_148
          · exfalso; omega
        refine lv_aload_n F.1 F.2.1 dX9_add_71 rfl (lv_at hl 3 rfl) ?_
        refine lv_iload_n F.1 F.2.1 dX9_add_72 rfl (lv_at hl 4 rfl) ?_
        refine cl_RX9_232 (As := [.int (iI sd)]) (rest := [.ref mo]) F hl (c_X9_isSide l X w1 sd (by omega)) hW hS rfl rfl ⟨Nat.le_of_ble_eq_true rfl, Nat.le_of_ble_eq_true rfl⟩ (Nat.le_of_ble_eq_true rfl) ⟨Nat.zero_le _, Nat.zero_le _⟩ dX9_add_73 (fun w1 H locs hp18 hW hS => ?_)
        rw [hp18] at hW; clear hp18; clear w1
        refine h_ifeqb (tgt := 101) F dX9_add_76 (by decide) (fun c19 => ?_) (fun c19 => ?_)
        · have c19d := of_decide_eq_false c19
          exfalso; omega
        · have c19d := of_decide_eq_true c19
          refine lv_iload F.1 F.2.1 dX9_add_79 (lv_at hl 7 rfl) ?_
          refine h_i2l F dX9_add_81 (by omega) ?_
          refine h_lconst (n := 1) (z := 1) F dX9_add_82 rfl ?_
          refine h_ldc2 (n := 6) F kk_RX9_90 dX9_add_83 ?_
          refine cl_RX9_82 (As := [.long (lI co), .long (lI 1), .long (lI 6)]) (rest := [.ref mo]) F hl (c_X9_isIn l X w1 co 1 6 (by omega) (by omega) (by omega)) hW hS rfl rfl ⟨Nat.le_of_ble_eq_true rfl, Nat.le_of_ble_eq_true rfl⟩ (Nat.le_of_ble_eq_true rfl) ⟨Nat.zero_le _, Nat.zero_le _⟩ dX9_add_86 (fun w1 H locs hp20 hW hS => ?_)
          rw [hp20] at hW; clear hp20; clear w1
          refine h_ifeqb (tgt := 101) F dX9_add_89 (by decide) (fun c21 => ?_) (fun c21 => ?_)
          · have c21d := of_decide_eq_false c21
            exfalso; omega
          · have c21d := of_decide_eq_true c21
            refine lv_iload F.1 F.2.1 dX9_add_92 (lv_at hl 0 rfl) ?_
            refine h_ifeqb (tgt := 101) F dX9_add_94 (by decide) (fun c22 => ?_) (fun c22 => ?_)
            · exfalso; rw [show k = v 11 by omega, hw1] at c22; cases c22
            · refine h_iconst F dX9_add_97 ?_
              refine h_goto (tgt := 102) F dX9_add_98 (by decide) ?_
              refine h_top (show (1 : Int) = bz true from by first | exact bzt rfl | (exfalso; omega)) ?_
              exact join102  _ _ ls  hW hS (lv_sub hl [0, 1, 2, 3, 4, 5, 6, 7] rfl)
      · have join63 : ∀ (H : Heap) (locs : List Loc) (ls : Array Slot), Wd X w1 s H → va_S (cxA X) s.heap H locs → lv_has ls 10 [(6, .int (iI (bz (decide (1 ≤ v 11 ∧ v 11 ≤ 8) && al (fun z => decide (97 ≤ tx z ∧ tx z ≤ 122)) 0 k)))), (7, .int (iI k)), (5, .int (iI (v 11))), (0, .ref mo), (1, .int (iI sd)), (2, .int (iI x)), (3, .int (iI y)), (4, .int (iI co))] → W p l e (rmk 2 57) s m (List.toArray [.ref mo, .int (iI sd), .int (iI x), .int (iI y), .int (iI co)]) below meth c H locs 0 0 (MX X below (List.toArray [.ref mo, .int (iI sd), .int (iI x), .int (iI y), .int (iI co)]) s 0 0 (some (.int (iI (-r9)))) (fun w' => w' mo = some (.inr (9, mL mo (up (up v 11 0) 6 0))) ∧ w' (mo + 6) = some (aZ X 8 (up rf r9 (rf r9 + 1))) ∧ ∀ q : Nat, q ≠ mo → q ≠ mo + 6 → w' q = w q)) (F0 m 63 ls [.int (iI (bz ((decide (1 ≤ v 11 ∧ v 11 ≤ 8) && al (fun z => decide (97 ≤ tx z ∧ tx z ≤ 122)) 0 k) && decide (97 ≤ tx k ∧ tx k ≤ 122))))]) := by
          intro  H locs ls  hW hS hl
          refine lv_istore (lv' := [(6, .int (iI (bz ((decide (1 ≤ v 11 ∧ v 11 ≤ 8) && al (fun z => decide (97 ≤ tx z ∧ tx z ≤ 122)) 0 k) && decide (97 ≤ tx k ∧ tx k ≤ 122))))), (7, .int (iI k)), (5, .int (iI (v 11))), (0, .ref mo), (1, .int (iI sd)), (2, .int (iI x)), (3, .int (iI y)), (4, .int (iI co))]) F.1 F.2.1 dX9_add_63 hl (by decide) rfl (fun ls hl => ?_)
          refine h_iinc (k := 1) (a := k) (lv' := [(7, .int (iI (k + 1))), (6, .int (iI (bz ((decide (1 ≤ v 11 ∧ v 11 ≤ 8) && al (fun z => decide (97 ≤ tx z ∧ tx z ≤ 122)) 0 k) && decide (97 ≤ tx k ∧ tx k ≤ 122))))), (5, .int (iI (v 11))), (0, .ref mo), (1, .int (iI sd)), (2, .int (iI x)), (3, .int (iI y)), (4, .int (iI co))]) F dX9_add_65 hl rfl (by decide) rfl (fun ls hl => ?_)
          refine h_goto (tgt := 26) F dX9_add_68 (by decide) ?_
          have eq23 : (bz (decide (1 ≤ v 11 ∧ v 11 ≤ 8) && al (fun z => decide (97 ≤ tx z ∧ tx z ≤ 122)) 0 (k + 1)) : Int) = bz ((decide (1 ≤ v 11 ∧ v 11 ≤ 8) && al (fun z => decide (97 ≤ tx z ∧ tx z ≤ 122)) 0 k) && decide (97 ≤ tx k ∧ tx k ≤ 122)) := by rw [al_s _ (by omega), ← Bool.and_assoc]
          have eq24 : ((k + 1) : Int) = k + 1 := by first | rfl | omega | simp
          exact ih26 (k + 1)  (by omega) (by omega)   _ _ ls hW hS (by rw [eq23, eq24]; exact lv_sub hl [1, 0, 2, 3, 4, 5, 6, 7] rfl)
        refine lv_iload F.1 F.2.1 dX9_add_33 (lv_at hl 0 rfl) ?_
        refine h_ifeqb (tgt := 62) F dX9_add_35 (by decide) (fun c25 => ?_) (fun c25 => ?_)
        · refine h_iconst F dX9_add_62 ?_
          refine h_top (show (0 : Int) = bz ((decide (1 ≤ v 11 ∧ v 11 ≤ 8) && al (fun z => decide (97 ≤ tx z ∧ tx z ≤ 122)) 0 k) && decide (97 ≤ tx k ∧ tx k ≤ 122)) from by first | exact bzt (by rw [‹(decide (1 ≤ v 11 ∧ v 11 ≤ 8) && al (fun z => decide (97 ≤ tx z ∧ tx z ≤ 122)) 0 k) = true›, ‹decide (97 ≤ tx k ∧ tx k ≤ 122) = true›]; rfl) | exact bzf (by rw [‹(decide (1 ≤ v 11 ∧ v 11 ≤ 8) && al (fun z => decide (97 ≤ tx z ∧ tx z ≤ 122)) 0 k) = false›]; rfl) | exact bzf (by rw [‹decide (97 ≤ tx k ∧ tx k ≤ 122) = false›, Bool.and_false])) ?_
          exact join63  _ _ ls  hW hS (lv_sub hl [0, 1, 2, 3, 4, 5, 6, 7] rfl)
        · have hbk := hby k (by omega) (by omega)
          refine lv_aload_n F.1 F.2.1 dX9_add_38 rfl (lv_at hl 3 rfl) ?_
          refine gf_RX9_29 F hW ho3 rfl dX9_add_39 ?_
          refine lv_iload F.1 F.2.1 dX9_add_42 (lv_at hl 1 rfl) ?_
          refine h_iald F hW htx (by omega) (by omega) dX9_add_44 ?_
          refine h_i2l F dX9_add_45 (by omega) ?_
          refine h_ldc2 (n := 97) F kk_RX9_266 dX9_add_46 ?_
          refine h_ldc2 (n := 122) F kk_RX9_268 dX9_add_49 ?_
          refine cl_RX9_82 (As := [.long (lI (tx k)), .long (lI 97), .long (lI 122)]) (rest := []) F hl (c_X9_isIn l X w1 (tx k) 97 122 (by omega) (by omega) (by omega)) hW hS rfl rfl ⟨Nat.le_of_ble_eq_true rfl, Nat.le_of_ble_eq_true rfl⟩ (Nat.le_of_ble_eq_true rfl) ⟨Nat.zero_le _, Nat.zero_le _⟩ dX9_add_52 (fun w1 H locs hp26 hW hS => ?_)
          rw [hp26] at hW; clear hp26; clear w1
          refine h_ifeqb (tgt := 62) F dX9_add_55 (by decide) (fun c27 => ?_) (fun c27 => ?_)
          · have c27d := of_decide_eq_false c27
            refine h_iconst F dX9_add_62 ?_
            refine h_top (show (0 : Int) = bz ((decide (1 ≤ v 11 ∧ v 11 ≤ 8) && al (fun z => decide (97 ≤ tx z ∧ tx z ≤ 122)) 0 k) && decide (97 ≤ tx k ∧ tx k ≤ 122)) from by first | exact bzt (by rw [‹(decide (1 ≤ v 11 ∧ v 11 ≤ 8) && al (fun z => decide (97 ≤ tx z ∧ tx z ≤ 122)) 0 k) = true›, ‹decide (97 ≤ tx k ∧ tx k ≤ 122) = true›]; rfl) | exact bzf (by rw [‹(decide (1 ≤ v 11 ∧ v 11 ≤ 8) && al (fun z => decide (97 ≤ tx z ∧ tx z ≤ 122)) 0 k) = false›]; rfl) | exact bzf (by rw [‹decide (97 ≤ tx k ∧ tx k ≤ 122) = false›, Bool.and_false])) ?_
            exact join63  _ _ ls  hW hS (lv_sub hl [0, 1, 2, 3, 4, 5, 6, 7] rfl)
          · have c27d := of_decide_eq_true c27
            refine h_iconst F dX9_add_58 ?_
            refine h_goto (tgt := 63) F dX9_add_59 (by decide) ?_
            refine h_top (show (1 : Int) = bz ((decide (1 ≤ v 11 ∧ v 11 ≤ 8) && al (fun z => decide (97 ≤ tx z ∧ tx z ≤ 122)) 0 k) && decide (97 ≤ tx k ∧ tx k ≤ 122)) from by first | exact bzt (by rw [‹(decide (1 ≤ v 11 ∧ v 11 ≤ 8) && al (fun z => decide (97 ≤ tx z ∧ tx z ≤ 122)) 0 k) = true›, ‹decide (97 ≤ tx k ∧ tx k ≤ 122) = true›]; rfl) | exact bzf (by rw [‹(decide (1 ≤ v 11 ∧ v 11 ≤ 8) && al (fun z => decide (97 ≤ tx z ∧ tx z ≤ 122)) 0 k) = false›]; rfl) | exact bzf (by rw [‹decide (97 ≤ tx k ∧ tx k ≤ 122) = false›, Bool.and_false])) ?_
            exact join63  _ _ ls  hW hS (lv_sub hl [0, 1, 2, 3, 4, 5, 6, 7] rfl)
  have eq28 : (bz (decide (1 ≤ v 11 ∧ v 11 ≤ 8) && al (fun z => decide (97 ≤ tx z ∧ tx z ≤ 122)) 0 0) : Int) = bz (decide (1 ≤ (v 11) ∧ (v 11) ≤ 8)) := by rw [al_0, Bool.and_true]
  exact loop26 ((v 11 - 0) + 1 : Int).toNat 0  (by omega) (by omega)   _ _ ls hW hS (by rw [eq28]; exact lv_sub hl [1, 0, 2, 3, 4, 5, 6, 7] rfl)
set_option maxHeartbeats 4000000 in
set_option maxRecDepth 100000 in
theorem c_X9_add (l : Launch) (X : Cx) (w : Wo) (mo : Nat) (v σ : Int → Int) (pa : Int → Int) (tx : Int → Int) (sd x y co : Int) (hM : w mo = some (.inr (9, mL mo v))) (hs : w (mo + 1) = some (aZ X 1317 σ)) (hwf : WF σ) (hpa : w (mo + 3) = some (aZ X 10536 pa)) (hun : 0 ≤ v 5 ∧ v 5 ≤ 8) (htx : w (mo + 7) = some (aZ X 400 tx)) (hN : 0 ≤ v 11 ∧ v 11 ≤ 400) (hby : ∀ i, 0 ≤ i → i < v 11 → 0 ≤ tx i ∧ tx i ≤ 255) (hsd : sd = 0 ∨ sd = 1) (hco : 1 ≤ co ∧ co ≤ 6) (hw1 : (decide (1 ≤ v 11 ∧ v 11 ≤ 8) && al (fun z => decide (97 ≤ tx z ∧ tx z ≤ 122)) 0 (v 11)) = true) (hx : -2147483648 ≤ x ∧ x < 2147483648) (hy : -2147483648 ≤ y ∧ y < 2147483648) (hop : σ 5 < 8) (hwy : whyS σ (v 11) sd x y (-1) = 0) : CM l X yX9_add cX9_add 10 (some (.int)) (rmk 2 57) [.ref mo, .int (iI sd), .int (iI x), .int (iI y), .int (iI co)] w (some (.int (iI (σ 5)))) (fun w' => w' mo = some (.inr (9, mL mo (up (up (up (up v 11 0) 6 0) 5 (min 8 (v 5 + 1))) 8 (v 8 + 1)))) ∧ w' (mo + 1) = some (aZ X 1317 (adS σ (v 11) sd x y co tx)) ∧ w' (mo + 3) = some (aZ X 10536 (actP (v 5) pa σ)) ∧ ∀ q : Nat, q ≠ mo → q ≠ mo + 1 → q ≠ mo + 3 → w' q = w q) := by
  refine CM.of (lv := [(0, .ref mo), (1, .int (iI sd)), (2, .int (iI x)), (3, .int (iI y)), (4, .int (iI co))]) (by decide) (Nat.le_of_ble_eq_true rfl) rfl (fun p e s m below meth c ls F hr hlk hin hW hS hl => ?_)
  have hZ0 := hW.2.2
  have hB9 := hW.1.2
  clear hin
  have hF := hwf.1
  unfold WF0 at hF
  have hw2 := hw1
  rw [Bool.and_eq_true] at hw2
  have hw3 := of_decide_eq_true hw2.1
  refine lv_aload_n F.1 F.2.1 dX9_add_0 rfl (lv_at hl 0 rfl) ?_
  refine gf_RX9_71 F hW hM rfl dX9_add_1 ?_
  refine lv_istore (lv' := [(5, .int (iI (v 11))), (0, .ref mo), (1, .int (iI sd)), (2, .int (iI x)), (3, .int (iI y)), (4, .int (iI co))]) F.1 F.2.1 dX9_add_4 hl (by decide) rfl (fun ls hl => ?_)
  refine lv_aload_n F.1 F.2.1 dX9_add_6 rfl (lv_at hl 1 rfl) ?_
  refine h_iconst F dX9_add_7 ?_
  refine pf_RX9_71 F hW hS hM (Nat.le_of_ble_eq_true rfl) dX9_add_8 (fun w1 H locs ho3 hn2 hW hS => ?_)
  rw [mL_11] at ho3
  have hs := (hn2 _ (by omega)).trans hs
  have hpa := (hn2 _ (by omega)).trans hpa
  have htx := (hn2 _ (by omega)).trans htx
  refine lv_iload F.1 F.2.1 dX9_add_11 (lv_at hl 0 rfl) ?_
  refine h_i2l F dX9_add_13 (by omega) ?_
  refine h_lconst (n := 1) (z := 1) F dX9_add_14 rfl ?_
  refine h_ldc2 (n := 8) F kk_RX9_183 dX9_add_15 ?_
  refine cl_RX9_82 (As := [.long (lI (v 11)), .long (lI 1), .long (lI 8)]) (rest := []) F hl (c_X9_isIn l X w1 (v 11) 1 8 (by omega) (by omega) (by omega)) hW hS rfl rfl ⟨Nat.le_of_ble_eq_true rfl, Nat.le_of_ble_eq_true rfl⟩ (Nat.le_of_ble_eq_true rfl) ⟨Nat.zero_le _, Nat.zero_le _⟩ dX9_add_18 (fun w1 H locs hp4 hW hS => ?_)
  rw [hp4] at hW; clear hp4; clear w1
  refine lv_istore (lv' := [(6, .int (iI (bz (decide (1 ≤ (v 11) ∧ (v 11) ≤ 8))))), (5, .int (iI (v 11))), (0, .ref mo), (1, .int (iI sd)), (2, .int (iI x)), (3, .int (iI y)), (4, .int (iI co))]) F.1 F.2.1 dX9_add_21 hl (by decide) rfl (fun ls hl => ?_)
  refine h_iconst F dX9_add_23 ?_
  refine lv_istore (lv' := [(7, .int (iI 0)), (6, .int (iI (bz (decide (1 ≤ (v 11) ∧ (v 11) ≤ 8))))), (5, .int (iI (v 11))), (0, .ref mo), (1, .int (iI sd)), (2, .int (iI x)), (3, .int (iI y)), (4, .int (iI co))]) F.1 F.2.1 dX9_add_24 hl (by decide) rfl (fun ls hl => ?_)
  have loop26 : ∀ (n9 : Nat) (k : Int), (hrg : 0 ≤ k ∧ k ≤ v 11) → (hms : v 11 - k < (n9 : Int)) → (H : Heap) → (locs : List Loc) → (ls : Array Slot) → Wd X w1 s H → va_S (cxA X) s.heap H locs → lv_has ls 10 [(6, .int (iI (bz (decide (1 ≤ v 11 ∧ v 11 ≤ 8) && al (fun z => decide (97 ≤ tx z ∧ tx z ≤ 122)) 0 k)))), (7, .int (iI k)), (5, .int (iI (v 11))), (0, .ref mo), (1, .int (iI sd)), (2, .int (iI x)), (3, .int (iI y)), (4, .int (iI co))] → W p l e (rmk 2 57) s m (List.toArray [.ref mo, .int (iI sd), .int (iI x), .int (iI y), .int (iI co)]) below meth c H locs 0 0 (MX X below (List.toArray [.ref mo, .int (iI sd), .int (iI x), .int (iI y), .int (iI co)]) s 0 0 (some (.int (iI (σ 5)))) (fun w' => w' mo = some (.inr (9, mL mo (up (up (up (up v 11 0) 6 0) 5 (min 8 (v 5 + 1))) 8 (v 8 + 1)))) ∧ w' (mo + 1) = some (aZ X 1317 (adS σ (v 11) sd x y co tx)) ∧ w' (mo + 3) = some (aZ X 10536 (actP (v 5) pa σ)) ∧ ∀ q : Nat, q ≠ mo → q ≠ mo + 1 → q ≠ mo + 3 → w' q = w q)) (F0 m 26 ls []) := by
    intro n9
    induction n9 with
    | zero => intro k  hrg hms; exfalso; omega
    | succ n9 ih26 =>
      intro k  hrg hms   H locs ls hW hS hl
      refine lv_iload F.1 F.2.1 dX9_add_26 (lv_at hl 1 rfl) ?_
      refine lv_iload F.1 F.2.1 dX9_add_28 (lv_at hl 2 rfl) ?_
      refine h_icge (tgt := 71) F dX9_add_30 (by decide) (by omega) (fun c5 => ?_) (fun c5 => ?_)
      · have join102 : ∀ (H : Heap) (locs : List Loc) (ls : Array Slot), Wd X w1 s H → va_S (cxA X) s.heap H locs → lv_has ls 10 [(6, .int (iI (bz (decide (1 ≤ v 11 ∧ v 11 ≤ 8) && al (fun z => decide (97 ≤ tx z ∧ tx z ≤ 122)) 0 k)))), (7, .int (iI k)), (5, .int (iI (v 11))), (0, .ref mo), (1, .int (iI sd)), (2, .int (iI x)), (3, .int (iI y)), (4, .int (iI co))] → W p l e (rmk 2 57) s m (List.toArray [.ref mo, .int (iI sd), .int (iI x), .int (iI y), .int (iI co)]) below meth c H locs 0 0 (MX X below (List.toArray [.ref mo, .int (iI sd), .int (iI x), .int (iI y), .int (iI co)]) s 0 0 (some (.int (iI (σ 5)))) (fun w' => w' mo = some (.inr (9, mL mo (up (up (up (up v 11 0) 6 0) 5 (min 8 (v 5 + 1))) 8 (v 8 + 1)))) ∧ w' (mo + 1) = some (aZ X 1317 (adS σ (v 11) sd x y co tx)) ∧ w' (mo + 3) = some (aZ X 10536 (actP (v 5) pa σ)) ∧ ∀ q : Nat, q ≠ mo → q ≠ mo + 1 → q ≠ mo + 3 → w' q = w q)) (F0 m 102 ls [.int (iI (bz true)), .ref mo]) := by
          intro  H locs ls  hW hS hl
          refine cl_RX9_74 (As := [.int (iI (bz true))]) (rest := []) F hl (c_pass_t l X w1 mo (up v 11 0) σ ho3 hs hwf) hW hS ho3 rfl rfl ⟨Nat.le_of_ble_eq_true rfl, Nat.le_of_ble_eq_true rfl⟩ (Nat.le_of_ble_eq_true rfl) ⟨Nat.zero_le _, Nat.zero_le _⟩ dX9_add_102 (fun w6 H locs hp7 hW hS => ?_)
          obtain ⟨ho8, hn9⟩ := hp7
          have hs := (hn9 _ (by omega)).trans hs
          have hpa := (hn9 _ (by omega)).trans hpa
          have htx := (hn9 _ (by omega)).trans htx
          refine h_ifneb (tgt := 110) F dX9_add_105 (by decide) (fun _ => ?_) (fun c9 => absurd c9 (by decide))
          refine lv_aload_n F.1 F.2.1 dX9_add_110 rfl (lv_at hl 3 rfl) ?_
          refine gf_RX9_7 F hW ho8 rfl dX9_add_111 ?_
          refine h_iconst F dX9_add_114 ?_
          refine h_iald F hW hs (by omega) (by omega) dX9_add_115 ?_
          refine h_bipush F dX9_add_116 rfl ?_
          refine h_icne (tgt := 125) F dX9_add_118 (by decide) (by omega) (fun c11 => ?_) (fun c11 => ?_)
          · refine lv_aload_n F.1 F.2.1 dX9_add_125 rfl (lv_at hl 3 rfl) ?_
            refine lv_iload F.1 F.2.1 dX9_add_126 (lv_at hl 2 rfl) ?_
            refine lv_iload_n F.1 F.2.1 dX9_add_128 rfl (lv_at hl 4 rfl) ?_
            refine lv_iload_n F.1 F.2.1 dX9_add_129 rfl (lv_at hl 5 rfl) ?_
            refine lv_iload_n F.1 F.2.1 dX9_add_130 rfl (lv_at hl 6 rfl) ?_
            refine h_iconst F dX9_add_131 ?_
            refine cl_RX9_270 (As := [.int (iI (v 11)), .int (iI sd), .int (iI x), .int (iI y), .int (iI (-1))]) (rest := []) F hl (c_X9_whyNot l X w6 mo (up (up v 11 0) 6 0) σ (v 11) sd x y (-1) ho8 hs hwf (by omega) (by omega) (by omega) (by omega) (by omega)) hW hS ho8 rfl rfl ⟨Nat.le_of_ble_eq_true rfl, Nat.le_of_ble_eq_true rfl⟩ (Nat.le_of_ble_eq_true rfl) ⟨Nat.zero_le _, Nat.zero_le _⟩ dX9_add_132 (fun w1 H locs hp12 hW hS => ?_)
            rw [hp12] at hW; clear hp12; clear w1
            refine h_top (show (whyS σ (v 11) sd x y (-1) : Int) = 0 from hwy) ?_
            refine lv_istore (lv' := [(7, .int (iI 0)), (6, .int (iI (bz (decide (1 ≤ v 11 ∧ v 11 ≤ 8) && al (fun z => decide (97 ≤ tx z ∧ tx z ≤ 122)) 0 k)))), (5, .int (iI (v 11))), (0, .ref mo), (1, .int (iI sd)), (2, .int (iI x)), (3, .int (iI y)), (4, .int (iI co))]) F.1 F.2.1 dX9_add_135 hl (by decide) rfl (fun ls hl => ?_)
            refine lv_iload F.1 F.2.1 dX9_add_137 (lv_at hl 0 rfl) ?_
            refine h_ifle (tgt := 149) F dX9_add_139 (by decide) (by decide) (fun _ => ?_) (fun c9 => absurd c9 (by decide))
            refine lv_aload_n F.1 F.2.1 dX9_add_149 rfl (lv_at hl 3 rfl) ?_
            refine cl_RX9_250 (As := []) (rest := []) F hl (c_X9_acts l X w6 mo (up (up v 11 0) 6 0) σ pa ho8 hs hpa hun) hW hS ho8 rfl rfl ⟨Nat.le_of_ble_eq_true rfl, Nat.le_of_ble_eq_true rfl⟩ (Nat.le_of_ble_eq_true rfl) ⟨Nat.zero_le _, Nat.zero_le _⟩ dX9_add_150 (fun w14 H locs hp15 hW hS => ?_)
            obtain ⟨ho16, ha17, hn18⟩ := hp15
            have hs := (hn18 _ (by omega) (by omega)).trans hs
            have htx := (hn18 _ (by omega) (by omega)).trans htx
            refine h_bipush F dX9_add_153 rfl ?_
            refine h_bipush F dX9_add_155 rfl ?_
            refine lv_aload_n F.1 F.2.1 dX9_add_157 rfl (lv_at hl 3 rfl) ?_
            refine gf_RX9_7 F hW ho16 rfl dX9_add_158 ?_
            refine h_iconst F dX9_add_161 ?_
            refine h_iald F hW hs (by omega) (by omega) dX9_add_162 ?_
            refine h_imul (a := 13) (b := σ 5) F dX9_add_163 ?_
            refine h_iadd (a := 13) (b := 13 * (σ 5)) F dX9_add_164 ?_
            refine lv_istore (lv' := [(8, .int (iI (13 + (13 * (σ 5))))), (7, .int (iI 0)), (6, .int (iI (bz (decide (1 ≤ v 11 ∧ v 11 ≤ 8) && al (fun z => decide (97 ≤ tx z ∧ tx z ≤ 122)) 0 k)))), (5, .int (iI (v 11))), (0, .ref mo), (1, .int (iI sd)), (2, .int (iI x)), (3, .int (iI y)), (4, .int (iI co))]) F.1 F.2.1 dX9_add_165 hl (by decide) rfl (fun ls hl => ?_)
            refine lv_aload_n F.1 F.2.1 dX9_add_167 rfl (lv_at hl 4 rfl) ?_
            refine gf_RX9_7 F hW ho16 rfl dX9_add_168 ?_
            refine lv_iload F.1 F.2.1 dX9_add_171 (lv_at hl 0 rfl) ?_
            refine h_iconst F dX9_add_173 ?_
            refine h_iadd (a := 13 + (13 * (σ 5))) (b := 0) F dX9_add_174 ?_
            refine lv_iload F.1 F.2.1 dX9_add_175 (lv_at hl 3 rfl) ?_
            refine h_iast F hW hS hs (by omega) (by omega) dX9_add_177 (fun w19 H locs ho21 hn20 hW hS => ?_)
            have ho16 := (hn20 _ (by omega)).trans ho16
            have ha17 := (hn20 _ (by omega)).trans ha17
            have htx := (hn20 _ (by omega)).trans htx
            refine lv_aload_n F.1 F.2.1 dX9_add_178 rfl (lv_at hl 4 rfl) ?_
            refine gf_RX9_7 F hW ho16 rfl dX9_add_179 ?_
            refine lv_iload F.1 F.2.1 dX9_add_182 (lv_at hl 0 rfl) ?_
            refine h_iconst F dX9_add_184 ?_
            refine h_iadd (a := 13 + (13 * (σ 5))) (b := 1) F dX9_add_185 ?_
            refine lv_iload_n F.1 F.2.1 dX9_add_186 rfl (lv_at hl 5 rfl) ?_
            refine h_iast F hW hS ho21 (by omega) (by omega) dX9_add_187 (fun w22 H locs ho24 hn23 hW hS => ?_)
            have ho16 := (hn23 _ (by omega)).trans ho16
            have ha17 := (hn23 _ (by omega)).trans ha17
            have htx := (hn23 _ (by omega)).trans htx
            refine lv_aload_n F.1 F.2.1 dX9_add_188 rfl (lv_at hl 4 rfl) ?_
            refine gf_RX9_7 F hW ho16 rfl dX9_add_189 ?_
            refine lv_iload F.1 F.2.1 dX9_add_192 (lv_at hl 0 rfl) ?_
            refine h_iconst F dX9_add_194 ?_
            refine h_iadd (a := 13 + (13 * (σ 5))) (b := 2) F dX9_add_195 ?_
            refine lv_iload_n F.1 F.2.1 dX9_add_196 rfl (lv_at hl 6 rfl) ?_
            refine h_iast F hW hS ho24 (by omega) (by omega) dX9_add_197 (fun w25 H locs ho27 hn26 hW hS => ?_)
            have ho16 := (hn26 _ (by omega)).trans ho16
            have ha17 := (hn26 _ (by omega)).trans ha17
            have htx := (hn26 _ (by omega)).trans htx
            refine lv_aload_n F.1 F.2.1 dX9_add_198 rfl (lv_at hl 4 rfl) ?_
            refine gf_RX9_7 F hW ho16 rfl dX9_add_199 ?_
            refine lv_iload F.1 F.2.1 dX9_add_202 (lv_at hl 0 rfl) ?_
            refine h_iconst F dX9_add_204 ?_
            refine h_iadd (a := 13 + (13 * (σ 5))) (b := 3) F dX9_add_205 ?_
            refine lv_iload_n F.1 F.2.1 dX9_add_206 rfl (lv_at hl 7 rfl) ?_
            refine h_iast F hW hS ho27 (by omega) (by omega) dX9_add_207 (fun w28 H locs ho30 hn29 hW hS => ?_)
            have ho16 := (hn29 _ (by omega)).trans ho16
            have ha17 := (hn29 _ (by omega)).trans ha17
            have htx := (hn29 _ (by omega)).trans htx
            refine lv_aload_n F.1 F.2.1 dX9_add_208 rfl (lv_at hl 4 rfl) ?_
            refine gf_RX9_7 F hW ho16 rfl dX9_add_209 ?_
            refine lv_iload F.1 F.2.1 dX9_add_212 (lv_at hl 0 rfl) ?_
            refine h_iconst F dX9_add_214 ?_
            refine h_iadd (a := 13 + (13 * (σ 5))) (b := 4) F dX9_add_215 ?_
            refine lv_iload F.1 F.2.1 dX9_add_216 (lv_at hl 8 rfl) ?_
            refine h_iast F hW hS ho30 (by omega) (by omega) dX9_add_218 (fun w31 H locs ho33 hn32 hW hS => ?_)
            have ho16 := (hn32 _ (by omega)).trans ho16
            have ha17 := (hn32 _ (by omega)).trans ha17
            have htx := (hn32 _ (by omega)).trans htx
            refine h_iconst F dX9_add_219 ?_
            refine lv_istore (lv' := [(9, .int (iI 0)), (8, .int (iI (13 + (13 * (σ 5))))), (7, .int (iI 0)), (6, .int (iI (bz (decide (1 ≤ v 11 ∧ v 11 ≤ 8) && al (fun z => decide (97 ≤ tx z ∧ tx z ≤ 122)) 0 k)))), (5, .int (iI (v 11))), (0, .ref mo), (1, .int (iI sd)), (2, .int (iI x)), (3, .int (iI y)), (4, .int (iI co))]) F.1 F.2.1 dX9_add_220 hl (by decide) rfl (fun ls hl => ?_)
            have loop222 : ∀ (n9 : Nat) (j : Int), (hrg : 0 ≤ j ∧ j ≤ 8) → (hms : 8 - j < (n9 : Int)) → (wz9 : Wo) → (hA222_0 : wz9 (mo + 1) = some (aZ X 1317 (adW (adB σ (v 11) sd x y co) (13 + 13 * σ 5) (v 11) tx j))) → (hF222 : ∀ q : Nat, q ≠ mo + 1 → wz9 q = w31 q) → (H : Heap) → (locs : List Loc) → (ls : Array Slot) → Wd X wz9 s H → va_S (cxA X) s.heap H locs → lv_has ls 10 [(9, .int (iI j)), (8, .int (iI (13 + (13 * (σ 5))))), (7, .int (iI 0)), (6, .int (iI (bz (decide (1 ≤ v 11 ∧ v 11 ≤ 8) && al (fun z => decide (97 ≤ tx z ∧ tx z ≤ 122)) 0 k)))), (5, .int (iI (v 11))), (0, .ref mo), (1, .int (iI sd)), (2, .int (iI x)), (3, .int (iI y)), (4, .int (iI co))] → W p l e (rmk 2 57) s m (List.toArray [.ref mo, .int (iI sd), .int (iI x), .int (iI y), .int (iI co)]) below meth c H locs 0 0 (MX X below (List.toArray [.ref mo, .int (iI sd), .int (iI x), .int (iI y), .int (iI co)]) s 0 0 (some (.int (iI (σ 5)))) (fun w' => w' mo = some (.inr (9, mL mo (up (up (up (up v 11 0) 6 0) 5 (min 8 (v 5 + 1))) 8 (v 8 + 1)))) ∧ w' (mo + 1) = some (aZ X 1317 (adS σ (v 11) sd x y co tx)) ∧ w' (mo + 3) = some (aZ X 10536 (actP (v 5) pa σ)) ∧ ∀ q : Nat, q ≠ mo → q ≠ mo + 1 → q ≠ mo + 3 → w' q = w q)) (F0 m 222 ls []) := by
              intro n9
              induction n9 with
              | zero => intro j  hrg hms; exfalso; omega
              | succ n9 ih222 =>
                intro j  hrg hms wz9 hA222_0 hF222  H locs ls hW hS hl
                have ho16 := (hF222 _ (by omega)).trans ho16
                have ha17 := (hF222 _ (by omega)).trans ha17
                have htx := (hF222 _ (by omega)).trans htx
                refine lv_iload F.1 F.2.1 dX9_add_222 (lv_at hl 0 rfl) ?_
                refine h_bipush F dX9_add_224 rfl ?_
                refine h_icge (tgt := 268) F dX9_add_226 (by decide) (by omega) (fun c34 => ?_) (fun c34 => ?_)
                · refine lv_aload_n F.1 F.2.1 dX9_add_268 rfl (lv_at hl 5 rfl) ?_
                  refine gf_RX9_7 F hW ho16 rfl dX9_add_269 ?_
                  refine h_iconst F dX9_add_272 ?_
                  refine lv_dup2_11 F.1 F.2.1 dX9_add_273 rfl rfl ?_
                  refine h_iald F hW hA222_0 (by omega) (by omega) dX9_add_274 ?_
                  refine h_top (show ((adW (adB σ (v 11) sd x y co) (13 + 13 * σ 5) (v 11) tx j) 5 : Int) = σ 5 from adW_5 (by omega)) ?_
                  refine h_iconst F dX9_add_275 ?_
                  refine h_iadd (a := σ 5) (b := 1) F dX9_add_276 ?_
                  refine h_iast F hW hS hA222_0 (by omega) (by omega) dX9_add_277 (fun w35 H locs ho37 hn36 hW hS => ?_)
                  have ho16 := (hn36 _ (by omega)).trans ho16
                  have ha17 := (hn36 _ (by omega)).trans ha17
                  have htx := (hn36 _ (by omega)).trans htx
                  refine lv_aload_n F.1 F.2.1 dX9_add_278 rfl (lv_at hl 5 rfl) ?_
                  refine gf_RX9_7 F hW ho16 rfl dX9_add_279 ?_
                  refine h_iconst F dX9_add_282 ?_
                  refine h_iald F hW ho37 (by omega) (by omega) dX9_add_283 ?_
                  refine h_top (show ((up (adW (adB σ (v 11) sd x y co) (13 + 13 * σ 5) (v 11) tx j) 5 ((σ 5) + 1)) 5 : Int) = σ 5 + 1 from up_s _ _ _) ?_
                  refine h_iconst F dX9_add_284 ?_
                  refine h_isub (a := σ 5 + 1) (b := 1) F dX9_add_285 ?_
                  refine h_top (show ((σ 5 + 1) - 1 : Int) = σ 5 from by first | rfl | omega | (simp_all; done)) ?_
                  exact h_ireti F hr hlk hW hS ⟨(by (rw [ho16]) <;> (rfl)), (by (rw [ho37]) <;> (first | rfl | (rw [show j = 8 by omega]; rfl))), (by (rw [ha17]) <;> (first | rfl | (rw [show j = 8 by omega]; rfl))), (fun q h09 h19 h29 => by rw [hn36 q (by omega), hF222 q (by omega), hn32 q (by omega), hn29 q (by omega), hn26 q (by omega), hn23 q (by omega), hn20 q (by omega), hn18 q (by omega) (by omega), hn9 q (by omega), hn2 q (by omega)])⟩ dX9_add_286
                · refine lv_aload_n F.1 F.2.1 dX9_add_229 rfl (lv_at hl 5 rfl) ?_
                  refine gf_RX9_7 F hW ho16 rfl dX9_add_230 ?_
                  refine lv_iload F.1 F.2.1 dX9_add_233 (lv_at hl 1 rfl) ?_
                  refine h_iconst F dX9_add_235 ?_
                  refine h_iadd (a := 13 + (13 * (σ 5))) (b := 5) F dX9_add_236 ?_
                  refine lv_iload F.1 F.2.1 dX9_add_237 (lv_at hl 0 rfl) ?_
                  refine h_iadd (a := (13 + (13 * (σ 5))) + 5) (b := j) F dX9_add_239 ?_
                  have join261 : ∀ (H : Heap) (locs : List Loc) (ls : Array Slot), Wd X wz9 s H → va_S (cxA X) s.heap H locs → lv_has ls 10 [(9, .int (iI j)), (8, .int (iI (13 + (13 * (σ 5))))), (7, .int (iI 0)), (6, .int (iI (bz (decide (1 ≤ v 11 ∧ v 11 ≤ 8) && al (fun z => decide (97 ≤ tx z ∧ tx z ≤ 122)) 0 k)))), (5, .int (iI (v 11))), (0, .ref mo), (1, .int (iI sd)), (2, .int (iI x)), (3, .int (iI y)), (4, .int (iI co))] → W p l e (rmk 2 57) s m (List.toArray [.ref mo, .int (iI sd), .int (iI x), .int (iI y), .int (iI co)]) below meth c H locs 0 0 (MX X below (List.toArray [.ref mo, .int (iI sd), .int (iI x), .int (iI y), .int (iI co)]) s 0 0 (some (.int (iI (σ 5)))) (fun w' => w' mo = some (.inr (9, mL mo (up (up (up (up v 11 0) 6 0) 5 (min 8 (v 5 + 1))) 8 (v 8 + 1)))) ∧ w' (mo + 1) = some (aZ X 1317 (adS σ (v 11) sd x y co tx)) ∧ w' (mo + 3) = some (aZ X 10536 (actP (v 5) pa σ)) ∧ ∀ q : Nat, q ≠ mo → q ≠ mo + 1 → q ≠ mo + 3 → w' q = w q)) (F0 m 261 ls [.int (iI (if j < v 11 then tx j - 97 else 0)), .int (iI (((13 + (13 * (σ 5))) + 5) + j)), .ref (mo + 1)]) := by
                    intro  H locs ls  hW hS hl
                    refine h_iast F hW hS hA222_0 (by omega) (by omega) dX9_add_261 (fun w38 H locs ho40 hn39 hW hS => ?_)
                    have ho16 := (hn39 _ (by omega)).trans ho16
                    have ha17 := (hn39 _ (by omega)).trans ha17
                    have htx := (hn39 _ (by omega)).trans htx
                    refine h_iinc (k := 0) (a := j) (lv' := [(9, .int (iI (j + 1))), (8, .int (iI (13 + (13 * (σ 5))))), (7, .int (iI 0)), (6, .int (iI (bz (decide (1 ≤ v 11 ∧ v 11 ≤ 8) && al (fun z => decide (97 ≤ tx z ∧ tx z ≤ 122)) 0 k)))), (5, .int (iI (v 11))), (0, .ref mo), (1, .int (iI sd)), (2, .int (iI x)), (3, .int (iI y)), (4, .int (iI co))]) F dX9_add_262 hl rfl (by decide) rfl (fun ls hl => ?_)
                    refine h_goto (tgt := 222) F dX9_add_265 (by decide) ?_
                    have eq41 : ((j + 1) : Int) = j + 1 := by first | rfl | omega | simp
                    exact ih222 (j + 1)  (by omega) (by omega) w38 (by rw [show (adW (adB σ (v 11) sd x y co) (13 + 13 * σ 5) (v 11) tx (j + 1) : Int → Int) = up (adW (adB σ (v 11) sd x y co) (13 + 13 * σ 5) (v 11) tx j) (((13 + (13 * (σ 5))) + 5) + j) (if j < v 11 then tx j - 97 else 0) from (adW_s _ _ _ _ (by omega)).symm]; exact ho40) (fun q h09 => by rw [hn39 q (by omega), hF222 q (by omega)])  _ _ ls hW hS (by rw [eq41]; exact lv_sub hl [0, 1, 2, 3, 4, 5, 6, 7, 8, 9] rfl)
                  refine lv_iload F.1 F.2.1 dX9_add_240 (lv_at hl 0 rfl) ?_
                  refine lv_iload F.1 F.2.1 dX9_add_242 (lv_at hl 4 rfl) ?_
                  refine h_icge (tgt := 260) F dX9_add_244 (by decide) (by omega) (fun c42 => ?_) (fun c42 => ?_)
                  · refine h_iconst F dX9_add_260 ?_
                    refine h_top (show (0 : Int) = (if j < v 11 then tx j - 97 else 0) from by first | rw [if_pos (by omega)] | rw [if_neg (by omega)]) ?_
                    exact join261  _ _ ls  hW hS (lv_sub hl [0, 1, 2, 3, 4, 5, 6, 7, 8, 9] rfl)
                  · refine lv_aload_n F.1 F.2.1 dX9_add_247 rfl (lv_at hl 5 rfl) ?_
                    refine gf_RX9_29 F hW ho16 rfl dX9_add_248 ?_
                    refine lv_iload F.1 F.2.1 dX9_add_251 (lv_at hl 0 rfl) ?_
                    refine h_iald F hW htx (by omega) (by omega) dX9_add_253 ?_
                    refine h_bipush F dX9_add_254 rfl ?_
                    refine h_isub (a := tx j) (b := 97) F dX9_add_256 ?_
                    refine h_goto (tgt := 261) F dX9_add_257 (by decide) ?_
                    refine h_top (show ((tx j) - 97 : Int) = (if j < v 11 then tx j - 97 else 0) from by first | rw [if_pos (by omega)] | rw [if_neg (by omega)]) ?_
                    exact join261  _ _ ls  hW hS (lv_sub hl [0, 1, 2, 3, 4, 5, 6, 7, 8, 9] rfl)
            exact loop222 ((8 - 0) + 1 : Int).toNat 0  (by omega) (by omega) w31 (by rw [show (adW (adB σ (v 11) sd x y co) (13 + 13 * σ 5) (v 11) tx 0 : Int → Int) = up (up (up (up (up σ ((13 + (13 * (σ 5))) + 0) (v 11)) ((13 + (13 * (σ 5))) + 1) sd) ((13 + (13 * (σ 5))) + 2) x) ((13 + (13 * (σ 5))) + 3) y) ((13 + (13 * (σ 5))) + 4) co from by rw [adW_0]; rfl]; exact ho33) (fun q _ => rfl)  _ _ ls hW hS (lv_sub hl [0, 1, 2, 3, 4, 5, 6, 7, 8, 9] rfl)
          · exfalso; omega
        refine lv_aload_n F.1 F.2.1 dX9_add_71 rfl (lv_at hl 3 rfl) ?_
        refine lv_iload_n F.1 F.2.1 dX9_add_72 rfl (lv_at hl 4 rfl) ?_
        refine cl_RX9_232 (As := [.int (iI sd)]) (rest := [.ref mo]) F hl (c_X9_isSide l X w1 sd (by omega)) hW hS rfl rfl ⟨Nat.le_of_ble_eq_true rfl, Nat.le_of_ble_eq_true rfl⟩ (Nat.le_of_ble_eq_true rfl) ⟨Nat.zero_le _, Nat.zero_le _⟩ dX9_add_73 (fun w1 H locs hp43 hW hS => ?_)
        rw [hp43] at hW; clear hp43; clear w1
        refine h_ifeqb (tgt := 101) F dX9_add_76 (by decide) (fun c44 => ?_) (fun c44 => ?_)
        · have c44d := of_decide_eq_false c44
          exfalso; omega
        · have c44d := of_decide_eq_true c44
          refine lv_iload F.1 F.2.1 dX9_add_79 (lv_at hl 7 rfl) ?_
          refine h_i2l F dX9_add_81 (by omega) ?_
          refine h_lconst (n := 1) (z := 1) F dX9_add_82 rfl ?_
          refine h_ldc2 (n := 6) F kk_RX9_90 dX9_add_83 ?_
          refine cl_RX9_82 (As := [.long (lI co), .long (lI 1), .long (lI 6)]) (rest := [.ref mo]) F hl (c_X9_isIn l X w1 co 1 6 (by omega) (by omega) (by omega)) hW hS rfl rfl ⟨Nat.le_of_ble_eq_true rfl, Nat.le_of_ble_eq_true rfl⟩ (Nat.le_of_ble_eq_true rfl) ⟨Nat.zero_le _, Nat.zero_le _⟩ dX9_add_86 (fun w1 H locs hp45 hW hS => ?_)
          rw [hp45] at hW; clear hp45; clear w1
          refine h_ifeqb (tgt := 101) F dX9_add_89 (by decide) (fun c46 => ?_) (fun c46 => ?_)
          · have c46d := of_decide_eq_false c46
            exfalso; omega
          · have c46d := of_decide_eq_true c46
            refine lv_iload F.1 F.2.1 dX9_add_92 (lv_at hl 0 rfl) ?_
            refine h_ifeqb (tgt := 101) F dX9_add_94 (by decide) (fun c47 => ?_) (fun c47 => ?_)
            · exfalso; rw [show k = v 11 by omega, hw1] at c47; cases c47
            · refine h_iconst F dX9_add_97 ?_
              refine h_goto (tgt := 102) F dX9_add_98 (by decide) ?_
              refine h_top (show (1 : Int) = bz true from by first | exact bzt rfl | (exfalso; omega)) ?_
              exact join102  _ _ ls  hW hS (lv_sub hl [0, 1, 2, 3, 4, 5, 6, 7] rfl)
      · have join63 : ∀ (H : Heap) (locs : List Loc) (ls : Array Slot), Wd X w1 s H → va_S (cxA X) s.heap H locs → lv_has ls 10 [(6, .int (iI (bz (decide (1 ≤ v 11 ∧ v 11 ≤ 8) && al (fun z => decide (97 ≤ tx z ∧ tx z ≤ 122)) 0 k)))), (7, .int (iI k)), (5, .int (iI (v 11))), (0, .ref mo), (1, .int (iI sd)), (2, .int (iI x)), (3, .int (iI y)), (4, .int (iI co))] → W p l e (rmk 2 57) s m (List.toArray [.ref mo, .int (iI sd), .int (iI x), .int (iI y), .int (iI co)]) below meth c H locs 0 0 (MX X below (List.toArray [.ref mo, .int (iI sd), .int (iI x), .int (iI y), .int (iI co)]) s 0 0 (some (.int (iI (σ 5)))) (fun w' => w' mo = some (.inr (9, mL mo (up (up (up (up v 11 0) 6 0) 5 (min 8 (v 5 + 1))) 8 (v 8 + 1)))) ∧ w' (mo + 1) = some (aZ X 1317 (adS σ (v 11) sd x y co tx)) ∧ w' (mo + 3) = some (aZ X 10536 (actP (v 5) pa σ)) ∧ ∀ q : Nat, q ≠ mo → q ≠ mo + 1 → q ≠ mo + 3 → w' q = w q)) (F0 m 63 ls [.int (iI (bz ((decide (1 ≤ v 11 ∧ v 11 ≤ 8) && al (fun z => decide (97 ≤ tx z ∧ tx z ≤ 122)) 0 k) && decide (97 ≤ tx k ∧ tx k ≤ 122))))]) := by
          intro  H locs ls  hW hS hl
          refine lv_istore (lv' := [(6, .int (iI (bz ((decide (1 ≤ v 11 ∧ v 11 ≤ 8) && al (fun z => decide (97 ≤ tx z ∧ tx z ≤ 122)) 0 k) && decide (97 ≤ tx k ∧ tx k ≤ 122))))), (7, .int (iI k)), (5, .int (iI (v 11))), (0, .ref mo), (1, .int (iI sd)), (2, .int (iI x)), (3, .int (iI y)), (4, .int (iI co))]) F.1 F.2.1 dX9_add_63 hl (by decide) rfl (fun ls hl => ?_)
          refine h_iinc (k := 1) (a := k) (lv' := [(7, .int (iI (k + 1))), (6, .int (iI (bz ((decide (1 ≤ v 11 ∧ v 11 ≤ 8) && al (fun z => decide (97 ≤ tx z ∧ tx z ≤ 122)) 0 k) && decide (97 ≤ tx k ∧ tx k ≤ 122))))), (5, .int (iI (v 11))), (0, .ref mo), (1, .int (iI sd)), (2, .int (iI x)), (3, .int (iI y)), (4, .int (iI co))]) F dX9_add_65 hl rfl (by decide) rfl (fun ls hl => ?_)
          refine h_goto (tgt := 26) F dX9_add_68 (by decide) ?_
          have eq48 : (bz (decide (1 ≤ v 11 ∧ v 11 ≤ 8) && al (fun z => decide (97 ≤ tx z ∧ tx z ≤ 122)) 0 (k + 1)) : Int) = bz ((decide (1 ≤ v 11 ∧ v 11 ≤ 8) && al (fun z => decide (97 ≤ tx z ∧ tx z ≤ 122)) 0 k) && decide (97 ≤ tx k ∧ tx k ≤ 122)) := by rw [al_s _ (by omega), ← Bool.and_assoc]
          have eq49 : ((k + 1) : Int) = k + 1 := by first | rfl | omega | simp
          exact ih26 (k + 1)  (by omega) (by omega)   _ _ ls hW hS (by rw [eq48, eq49]; exact lv_sub hl [1, 0, 2, 3, 4, 5, 6, 7] rfl)
        refine lv_iload F.1 F.2.1 dX9_add_33 (lv_at hl 0 rfl) ?_
        refine h_ifeqb (tgt := 62) F dX9_add_35 (by decide) (fun c50 => ?_) (fun c50 => ?_)
        · refine h_iconst F dX9_add_62 ?_
          refine h_top (show (0 : Int) = bz ((decide (1 ≤ v 11 ∧ v 11 ≤ 8) && al (fun z => decide (97 ≤ tx z ∧ tx z ≤ 122)) 0 k) && decide (97 ≤ tx k ∧ tx k ≤ 122)) from by first | exact bzt (by rw [‹(decide (1 ≤ v 11 ∧ v 11 ≤ 8) && al (fun z => decide (97 ≤ tx z ∧ tx z ≤ 122)) 0 k) = true›, ‹decide (97 ≤ tx k ∧ tx k ≤ 122) = true›]; rfl) | exact bzf (by rw [‹(decide (1 ≤ v 11 ∧ v 11 ≤ 8) && al (fun z => decide (97 ≤ tx z ∧ tx z ≤ 122)) 0 k) = false›]; rfl) | exact bzf (by rw [‹decide (97 ≤ tx k ∧ tx k ≤ 122) = false›, Bool.and_false])) ?_
          exact join63  _ _ ls  hW hS (lv_sub hl [0, 1, 2, 3, 4, 5, 6, 7] rfl)
        · have hbk := hby k (by omega) (by omega)
          refine lv_aload_n F.1 F.2.1 dX9_add_38 rfl (lv_at hl 3 rfl) ?_
          refine gf_RX9_29 F hW ho3 rfl dX9_add_39 ?_
          refine lv_iload F.1 F.2.1 dX9_add_42 (lv_at hl 1 rfl) ?_
          refine h_iald F hW htx (by omega) (by omega) dX9_add_44 ?_
          refine h_i2l F dX9_add_45 (by omega) ?_
          refine h_ldc2 (n := 97) F kk_RX9_266 dX9_add_46 ?_
          refine h_ldc2 (n := 122) F kk_RX9_268 dX9_add_49 ?_
          refine cl_RX9_82 (As := [.long (lI (tx k)), .long (lI 97), .long (lI 122)]) (rest := []) F hl (c_X9_isIn l X w1 (tx k) 97 122 (by omega) (by omega) (by omega)) hW hS rfl rfl ⟨Nat.le_of_ble_eq_true rfl, Nat.le_of_ble_eq_true rfl⟩ (Nat.le_of_ble_eq_true rfl) ⟨Nat.zero_le _, Nat.zero_le _⟩ dX9_add_52 (fun w1 H locs hp51 hW hS => ?_)
          rw [hp51] at hW; clear hp51; clear w1
          refine h_ifeqb (tgt := 62) F dX9_add_55 (by decide) (fun c52 => ?_) (fun c52 => ?_)
          · have c52d := of_decide_eq_false c52
            refine h_iconst F dX9_add_62 ?_
            refine h_top (show (0 : Int) = bz ((decide (1 ≤ v 11 ∧ v 11 ≤ 8) && al (fun z => decide (97 ≤ tx z ∧ tx z ≤ 122)) 0 k) && decide (97 ≤ tx k ∧ tx k ≤ 122)) from by first | exact bzt (by rw [‹(decide (1 ≤ v 11 ∧ v 11 ≤ 8) && al (fun z => decide (97 ≤ tx z ∧ tx z ≤ 122)) 0 k) = true›, ‹decide (97 ≤ tx k ∧ tx k ≤ 122) = true›]; rfl) | exact bzf (by rw [‹(decide (1 ≤ v 11 ∧ v 11 ≤ 8) && al (fun z => decide (97 ≤ tx z ∧ tx z ≤ 122)) 0 k) = false›]; rfl) | exact bzf (by rw [‹decide (97 ≤ tx k ∧ tx k ≤ 122) = false›, Bool.and_false])) ?_
            exact join63  _ _ ls  hW hS (lv_sub hl [0, 1, 2, 3, 4, 5, 6, 7] rfl)
          · have c52d := of_decide_eq_true c52
            refine h_iconst F dX9_add_58 ?_
            refine h_goto (tgt := 63) F dX9_add_59 (by decide) ?_
            refine h_top (show (1 : Int) = bz ((decide (1 ≤ v 11 ∧ v 11 ≤ 8) && al (fun z => decide (97 ≤ tx z ∧ tx z ≤ 122)) 0 k) && decide (97 ≤ tx k ∧ tx k ≤ 122)) from by first | exact bzt (by rw [‹(decide (1 ≤ v 11 ∧ v 11 ≤ 8) && al (fun z => decide (97 ≤ tx z ∧ tx z ≤ 122)) 0 k) = true›, ‹decide (97 ≤ tx k ∧ tx k ≤ 122) = true›]; rfl) | exact bzf (by rw [‹(decide (1 ≤ v 11 ∧ v 11 ≤ 8) && al (fun z => decide (97 ≤ tx z ∧ tx z ≤ 122)) 0 k) = false›]; rfl) | exact bzf (by rw [‹decide (97 ≤ tx k ∧ tx k ≤ 122) = false›, Bool.and_false])) ?_
            exact join63  _ _ ls  hW hS (lv_sub hl [0, 1, 2, 3, 4, 5, 6, 7] rfl)
  have eq53 : (bz (decide (1 ≤ v 11 ∧ v 11 ≤ 8) && al (fun z => decide (97 ≤ tx z ∧ tx z ≤ 122)) 0 0) : Int) = bz (decide (1 ≤ (v 11) ∧ (v 11) ≤ 8)) := by rw [al_0, Bool.and_true]
  exact loop26 ((v 11 - 0) + 1 : Int).toNat 0  (by omega) (by omega)   _ _ ls hW hS (by rw [eq53]; exact lv_sub hl [1, 0, 2, 3, 4, 5, 6, 7] rfl)
