/-! ===== captions changed by the reference ===== -/
def drN (σ : Int → Int) (lo i : Int) : Int → Int := fun p => if lo ≤ p ∧ p < i then σ (p + 13) else σ p
theorem drN_0 (σ : Int → Int) (lo : Int) : drN σ lo lo = σ := by
  funext p
  unfold drN
  exact if_neg (by omega)
theorem drN_s {σ : Int → Int} {lo i : Int} (h : lo ≤ i) : drN σ lo (i + 1) = up (drN σ lo i) i (drN σ lo i (i + 13)) := by
  funext p
  unfold up drN
  by_cases h1 : p = i
  · rw [if_pos h1, if_pos (by omega), if_neg (by omega), h1]
  · rw [if_neg h1]
    by_cases h2 : lo ≤ p ∧ p < i
    · rw [if_pos h2, if_pos (by omega)]
    · rw [if_neg h2, if_neg (by omega)]
theorem drN_lo {σ : Int → Int} {lo i p : Int} (h : p < lo) : drN σ lo i p = σ p := if_neg (by omega)
def drpS (σ : Int → Int) (k : Int) : Int → Int := up (drN σ (13 + 13 * k) 104) 5 (σ 5 - 1)
theorem drp_R {σ : Int → Int} {k : Int} (h8 : cap8 σ) (hk : 0 ≤ k ∧ k < σ 5) : dropR σ (drpS σ k) k := by
  have h5 := h8.1
  refine ⟨up_s _ _ _, fun p p0 p1 p2 => ?_, fun i i0 i1 j j0 j1 => ?_, fun i i0 i1 j j0 j1 => ?_, fun c r c0 c1 r0 r1 => ?_⟩
  · unfold drpS
    rw [up_n p2, drN_lo (by omega)]
  · unfold cp drpS
    rw [up_n (by omega), drN_lo (by omega)]
  · unfold cp drpS
    rw [up_n (by omega)]
    unfold drN
    rw [if_pos (by omega)]
    congr 1; omega
  · unfold cellS drpS
    rw [up_n (by omega)]
    unfold drN
    exact if_neg (by omega)
theorem mt_cg {σ τ : Int → Int} {n sd x y i k : Int} (h0 : τ 0 = σ 0) (hk : ∀ j, 0 ≤ j → j < 13 → cp τ k j = cp σ i j) : mtS τ n sd x y k = mtS σ n sd x y i := by
  unfold mtS lowC
  rw [h0, hk 0 (by decide) (by decide), hk 1 (by decide) (by decide), hk 2 (by decide) (by decide), hk 3 (by decide) (by decide)]
theorem drp_WF {σ τ : Int → Int} {k : Int} (h : WF σ) (hk : 0 ≤ k ∧ k < σ 5) (hd : dropR σ τ k) : WF τ := by
  obtain ⟨d1, d2, d3, d4, d5⟩ := hd
  obtain ⟨w0, w1, w2, w3, w4, w5⟩ := h
  unfold WF0 at w0
  have f0 := d2 0 (by decide) (by decide) (by decide)
  have f1 := d2 1 (by decide) (by decide) (by decide)
  have f2 := d2 2 (by decide) (by decide) (by decide)
  have f3 := d2 3 (by decide) (by decide) (by decide)
  have f4 := d2 4 (by decide) (by decide) (by decide)
  have hm : ∀ i, 0 ≤ i → i < τ 5 → ∃ i2, (0 ≤ i2 ∧ i2 < σ 5) ∧ (i2 = if i < k then i else i + 1) ∧ ∀ j, 0 ≤ j → j < 13 → cp τ i j = cp σ i2 j := by
    intro i i0 i1
    by_cases g : i < k
    · exact ⟨i, by omega, by rw [if_pos g], d3 i i0 g⟩
    · exact ⟨i + 1, by omega, by rw [if_neg g], d4 i (by omega) (by omega)⟩
  refine ⟨by unfold WF0; omega, fun c c0 c1 => by rw [d2 _ (by omega) (by omega) (by omega)]; exact w1 c c0 c1, fun i i0 i1 => ?_, fun c r c0 c1 r0 r1 => by rw [d5 c r c0 (by omega) r0 (by omega)]; exact w3 c r c0 (by omega) r0 (by omega), fun c r c0 c1 r0 r1 => by rw [d5 c r c0 (by omega) r0 (by omega)]; exact w4 c r c0 (by omega) r0 (by omega), fun i z i0 i1 z0 z1 hne => ?_⟩
  · obtain ⟨i2, a, -, b⟩ := hm i i0 i1
    obtain ⟨c1, c2, c3, c4, c5, c6⟩ := w2 i2 a.1 a.2
    have b0 := b 0 (by decide) (by decide)
    have b1 := b 1 (by decide) (by decide)
    have b2 := b 2 (by decide) (by decide)
    have b3 := b 3 (by decide) (by decide)
    have b4 := b 4 (by decide) (by decide)
    refine ⟨by omega, by omega, by omega, by omega, by omega, fun j j0 j1 => ?_⟩
    rw [b (5 + j) (by omega) (by omega)]
    exact c6 j j0 (by omega)
  · obtain ⟨i2, a, e, b⟩ := hm i i0 i1
    obtain ⟨z2, a2, e2, b2⟩ := hm z z0 z1
    rw [b 0 (by decide) (by decide), b 1 (by decide) (by decide), b 2 (by decide) (by decide), b 3 (by decide) (by decide), mt_cg f0 b2]
    refine w5 i2 z2 a.1 a.2 a2.1 a2.2 ?_
    split at e <;> split at e2 <;> omega
theorem mt_sy {σ : Int → Int} {i k : Int} : mtS σ (cp σ i 0) (cp σ i 1) (cp σ i 2) (cp σ i 3) k = mtS σ (cp σ k 0) (cp σ k 1) (cp σ k 2) (cp σ k 3) i := by
  unfold mtS
  rw [Bool.and_comm (decide (lowC σ (cp σ i 0) (cp σ i 1) (cp σ i 2) ≤ _)), Bool.and_comm (decide (cp σ i 3 ≤ cp σ k 3 + 4))]
/-- one caption is changed, or a further one hung -/
theorem WF.cap {σ τ : Int → Int} (h : WF σ) {k0 : Int} (hn : τ 5 = σ 5 ∧ (0 ≤ k0 ∧ k0 < σ 5) ∨ τ 5 = σ 5 + 1 ∧ k0 = σ 5 ∧ σ 5 < 8) (hlo : ∀ p, 0 ≤ p → p < 13 → p ≠ 5 → τ p = σ p) (hcp : ∀ k, 0 ≤ k → k < σ 5 → k ≠ k0 → ∀ j, 0 ≤ j → j < 13 → cp τ k j = cp σ k j) (hok : capOK τ k0) (hmt : ∀ k, 0 ≤ k → k < σ 5 → k ≠ k0 → mtS σ (cp τ k0 0) (cp τ k0 1) (cp τ k0 2) (cp τ k0 3) k = false) (hce : ∀ c r, 0 ≤ c → c < 40 → 0 ≤ r → r < 30 → cellS τ c r = cellS σ c r) : WF τ := by
  obtain ⟨w0, w1, w2, w3, w4, w5⟩ := h
  unfold WF0 at w0
  have f0 := hlo 0 (by decide) (by decide) (by decide)
  have f1 := hlo 1 (by decide) (by decide) (by decide)
  have f2 := hlo 2 (by decide) (by decide) (by decide)
  have f3 := hlo 3 (by decide) (by decide) (by decide)
  have f4 := hlo 4 (by decide) (by decide) (by decide)
  have hm : ∀ k, 0 ≤ k → k < σ 5 → k ≠ k0 → mtS τ (cp τ k0 0) (cp τ k0 1) (cp τ k0 2) (cp τ k0 3) k = false := fun k a b c => by rw [mt_cg f0 (hcp k a b c)]; exact hmt k a b c
  refine ⟨by unfold WF0; omega, fun c c0 c1 => by rw [hlo _ (by omega) (by omega) (by omega)]; exact w1 c c0 c1, fun i i0 i1 => ?_, fun c r c0 c1 r0 r1 => by rw [hce c r c0 (by omega) r0 (by omega)]; exact w3 c r c0 (by omega) r0 (by omega), fun c r c0 c1 r0 r1 => by rw [hce c r c0 (by omega) r0 (by omega)]; exact w4 c r c0 (by omega) r0 (by omega), fun i z i0 i1 z0 z1 hne => ?_⟩
  · by_cases g : i = k0
    · rw [g]; exact hok
    · exact capOK_congr f0 f1 (hcp i i0 (by omega) g) (w2 i i0 (by omega))
  · by_cases g : i = k0
    · rw [g]; exact hm z z0 (by omega) (by omega)
    · by_cases g2 : z = k0
      · rw [g2, mt_sy]; exact hm i i0 (by omega) g
      · have b := hcp i i0 (by omega) g
        rw [b 0 (by decide) (by decide), b 1 (by decide) (by decide), b 2 (by decide) (by decide), b 3 (by decide) (by decide), mt_cg f0 (hcp z z0 (by omega) g2)]
        exact w5 i z i0 (by omega) z0 (by omega) hne
theorem why_0 {σ : Int → Int} {n sd x y bu : Int} (h : whyS σ n sd x y bu = 0) : (0 ≤ x ∧ 0 ≤ y ∧ x + 4 * n - 2 < σ 0 ∧ y + 4 < σ 1) ∧ ∀ k, 0 ≤ k → k < σ 5 → k ≠ bu → mtS σ n sd x y k = false := by
  unfold whyS at h
  by_cases g : liesS σ n x y = false
  · rw [if_pos g] at h; omega
  · rw [if_neg g] at h
    by_cases g2 : meetS σ n sd x y bu = true
    · rw [if_pos g2] at h; omega
    · refine ⟨of_decide_eq_true (by unfold liesS at g; exact Bool.not_eq_false _ ▸ g), fun k k0 k1 k2 => ?_⟩
      have g3 := ex_f.mp (Bool.eq_false_iff.mpr g2) k k0 k1
      rw [decide_eq_true k2, Bool.true_and] at g3
      exact g3
def movS (σ : Int → Int) (k x y : Int) : Int → Int := up (up σ (13 + 13 * k + 2) x) (13 + 13 * k + 3) y
theorem mov_lo {σ : Int → Int} {k x y p : Int} (h : p ≠ 13 + 13 * k + 2 ∧ p ≠ 13 + 13 * k + 3) : movS σ k x y p = σ p := by
  unfold movS
  rw [up_n (by omega), up_n (by omega)]
theorem mov_WF {σ : Int → Int} {k x y : Int} (h : WF σ) (hk : 0 ≤ k ∧ k < σ 5) (hw : whyS σ (cp σ k 0) (cp σ k 1) x y k = 0) : WF (movS σ k x y) := by
  obtain ⟨c1, c2, c3, c4, c5, c6⟩ := h.2.2.1 k hk.1 hk.2
  obtain ⟨g1, g2⟩ := why_0 hw
  have w0 := h.1
  unfold WF0 at w0
  have e : ∀ j, j ≠ 2 → j ≠ 3 → cp (movS σ k x y) k j = cp σ k j := fun j j2 j3 => mov_lo (by omega)
  have e2 : cp (movS σ k x y) k 2 = x := by
    unfold cp movS
    rw [up_n (by omega), up_s]
  have e3 : cp (movS σ k x y) k 3 = y := up_s _ _ _
  have e0 : movS σ k x y 0 = σ 0 := mov_lo (by omega)
  have e1 : movS σ k x y 1 = σ 1 := mov_lo (by omega)
  have e5 : movS σ k x y 5 = σ 5 := mov_lo (by omega)
  refine h.cap (k0 := k) (Or.inl ⟨e5, hk⟩) (fun p p0 p1 p2 => mov_lo (by omega)) (fun i i0 i1 i2 j j0 j1 => mov_lo (by omega)) ?_ (fun i i0 i1 i2 => ?_) (fun c r c0 c1 r0 r1 => mov_lo (by omega))
  · unfold capOK
    rw [e 0 (by decide) (by decide), e 1 (by decide) (by decide), e2, e3, e 4 (by decide) (by decide), e0, e1]
    exact ⟨c1, c2, by omega, by omega, c5, fun j j0 j1 => by rw [e _ (by omega) (by omega)]; exact c6 j j0 j1⟩
  · rw [e 0 (by decide) (by decide), e 1 (by decide) (by decide), e2, e3]
    exact g2 i i0 i1 i2
def adB (σ : Int → Int) (n sd x y co : Int) : Int → Int := up (up (up (up (up σ (13 + 13 * σ 5 + 0) n) (13 + 13 * σ 5 + 1) sd) (13 + 13 * σ 5 + 2) x) (13 + 13 * σ 5 + 3) y) (13 + 13 * σ 5 + 4) co
def adW (g : Int → Int) (a n : Int) (tx : Int → Int) (j : Int) : Int → Int := fun p => if a + 5 ≤ p ∧ p < a + 5 + j then (if p - (a + 5) < n then tx (p - (a + 5)) - 97 else 0) else g p
theorem adW_0 (g : Int → Int) (a n : Int) (tx : Int → Int) : adW g a n tx 0 = g := by
  funext p
  unfold adW
  exact if_neg (by omega)
theorem adW_s (g : Int → Int) (a n : Int) (tx : Int → Int) {j : Int} (h : 0 ≤ j) : up (adW g a n tx j) (a + 5 + j) (if j < n then tx j - 97 else 0) = adW g a n tx (j + 1) := by
  funext p
  unfold up adW
  by_cases h1 : p = a + 5 + j
  · rw [if_pos h1, if_pos (show a + 5 ≤ p ∧ p < a + 5 + (j + 1) by omega), show p - (a + 5) = j by omega]
  · rw [if_neg h1]
    by_cases h2 : a + 5 ≤ p ∧ p < a + 5 + j
    · rw [if_pos h2, if_pos (show a + 5 ≤ p ∧ p < a + 5 + (j + 1) by omega)]
    · rw [if_neg h2, if_neg (show ¬ (a + 5 ≤ p ∧ p < a + 5 + (j + 1)) by omega)]
theorem adB_lo {σ : Int → Int} {n sd x y co p : Int} (h : p < 13 + 13 * σ 5 ∨ 13 + 13 * σ 5 + 5 ≤ p) : adB σ n sd x y co p = σ p := by
  unfold adB
  rw [up_n (by omega), up_n (by omega), up_n (by omega), up_n (by omega), up_n (by omega)]
theorem adW_5 {σ : Int → Int} {n sd x y co j : Int} {tx : Int → Int} (h : 0 ≤ σ 5) : adW (adB σ n sd x y co) (13 + 13 * σ 5) n tx j 5 = σ 5 := by
  unfold adW
  rw [if_neg (by omega), adB_lo (by omega)]
def adS (σ : Int → Int) (n sd x y co : Int) (tx : Int → Int) : Int → Int := up (adW (adB σ n sd x y co) (13 + 13 * σ 5) n tx 8) 5 (σ 5 + 1)
theorem ad_lo {σ : Int → Int} {n sd x y co p : Int} {tx : Int → Int} (h : p < 13 + 13 * σ 5 ∨ 26 + 13 * σ 5 ≤ p) (h5 : p ≠ 5) : adS σ n sd x y co tx p = σ p := by
  unfold adS
  rw [up_n h5]
  unfold adW
  rw [if_neg (by omega), adB_lo (by omega)]
/-- the row with a caption more -/
theorem ad_R {σ : Int → Int} {n sd x y co : Int} {tx f : Int → Int} (h8 : cap8 σ) (h58 : σ 5 < 8) (hn : 1 ≤ n ∧ n ≤ 8) (hf : ∀ j, 0 ≤ j → j < n → f j = tx j - 97 + 1) : hangR σ (adS σ n sd x y co tx) n sd x y co f := by
  have h5 := h8.1
  have hb : ∀ j, 0 ≤ j → j < 5 → cp (adS σ n sd x y co tx) (σ 5) j = adB σ n sd x y co (13 + 13 * σ 5 + j) := by
    intro j j0 j1
    unfold cp adS
    rw [up_n (by omega)]
    unfold adW
    rw [if_neg (by omega)]
  refine ⟨up_s _ _ _, fun p p0 p1 p2 => ad_lo (by omega) p2, fun k k0 k1 j j0 j1 => ad_lo (by omega) (by omega), ?_, fun j j0 j1 => ?_, fun c r c0 c1 r0 r1 => ad_lo (by omega) (by omega)⟩
  · refine ⟨?_, ?_, ?_, ?_, ?_⟩
    · rw [hb 0 (by decide) (by decide)]; unfold adB
      rw [up_n (by omega), up_n (by omega), up_n (by omega), up_n (by omega), up_s]
    · rw [hb 1 (by decide) (by decide)]; unfold adB
      rw [up_n (by omega), up_n (by omega), up_n (by omega), up_s]
    · rw [hb 2 (by decide) (by decide)]; unfold adB
      rw [up_n (by omega), up_n (by omega), up_s]
    · rw [hb 3 (by decide) (by decide)]; unfold adB
      rw [up_n (by omega), up_s]
    · rw [hb 4 (by decide) (by decide)]; unfold adB
      rw [up_s]
  · rw [hf j j0 j1]
    unfold cp adS
    rw [up_n (by omega)]
    unfold adW
    rw [if_pos (by omega), if_pos (by omega), show 13 + 13 * σ 5 + (5 + j) - (13 + 13 * σ 5 + 5) = j by omega]
theorem hang_WF {σ τ : Int → Int} {n sd x y co : Int} {f : Int → Int} (h : WF σ) (h58 : σ 5 < 8) (hd : hangR σ τ n sd x y co f) (hn : 1 ≤ n ∧ n ≤ 8) (hs : sd = 0 ∨ sd = 1) (hco : 1 ≤ co ∧ co ≤ 6) (hf : ∀ j, 0 ≤ j → j < n → 1 ≤ f j ∧ f j ≤ 26) (hw : whyS σ n sd x y (-1) = 0) : WF τ := by
  obtain ⟨d1, d2, d3, ⟨b0, b1, b2, b3, b4⟩, d5, d6⟩ := hd
  obtain ⟨g1, g2⟩ := why_0 hw
  have w0 := h.1
  unfold WF0 at w0
  have f0 := d2 0 (by decide) (by decide) (by decide)
  have f1 := d2 1 (by decide) (by decide) (by decide)
  refine h.cap (k0 := σ 5) (Or.inr ⟨d1, rfl, h58⟩) d2 (fun k k0 k1 _ => d3 k k0 k1) ?_ (fun k k0 k1 _ => ?_) d6
  · unfold capOK
    rw [b0, b1, b2, b3, b4, f0, f1]
    refine ⟨hn, hs, by omega, by omega, hco, fun j j0 j1 => ?_⟩
    have := d5 j j0 j1
    have := hf j j0 j1
    omega
  · rw [b0, b1, b2, b3]
    exact g2 k k0 k1 (by omega)
