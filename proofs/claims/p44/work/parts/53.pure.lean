/-! ===== states that acts make; the design painted ===== -/
theorem cp_lo {σ τ : Int → Int} (hlo : ∀ p, 0 ≤ p → p < 117 → (p = 0 ∨ p = 1 ∨ p = 5 ∨ 13 ≤ p) → τ p = σ p) {k j : Int} (hk : 0 ≤ k ∧ k < 8) (hj : 0 ≤ j ∧ j < 13) : cp τ k j = cp σ k j := hlo _ (by omega) (by omega) (by omega)
theorem ov_congr {σ τ : Int → Int} {c k : Int} (h0 : τ 0 = σ 0) (hk : ∀ j, 0 ≤ j → j < 13 → cp τ k j = cp σ k j) : ovS τ c k = ovS σ c k := by
  unfold ovS turnS
  rw [h0, hk 1 (by decide) (by decide), hk 2 (by decide) (by decide)]
theorem hit_congr {σ τ : Int → Int} {c r k : Int} (h0 : τ 0 = σ 0) (hk : ∀ j, 0 ≤ j → j < 13 → cp τ k j = cp σ k j) (h8 : cp σ k 0 ≤ 8) : hitS τ c r k = hitS σ c r k := by
  unfold hitS
  rw [ov_congr h0 hk, hk 0 (by decide) (by decide), hk 3 (by decide) (by decide)]
  by_cases g : 0 ≤ ovS σ c k ∧ ovS σ c k ≤ 4 * cp σ k 0 - 2
  · unfold inkS
    rw [hk (5 + ovS σ c k / 4) (by omega) (by omega)]
  · rw [decide_eq_false g]; rfl
theorem des_congr {σ τ : Int → Int} {c r : Int} (h0 : τ 0 = σ 0) (h5 : τ 5 = σ 5) (h8 : cap8 σ) (hk : ∀ k, 0 ≤ k → k < σ 5 → ∀ j, 0 ≤ j → j < 13 → cp τ k j = cp σ k j) : desS τ c r = desS σ c r := by
  unfold desS
  have e : fi (hitS τ c r) 0 (σ 5) = fi (hitS σ c r) 0 (σ 5) := fi_c h8.1.1 (fun i h1 h2 => hit_congr h0 (hk i h1 h2) (h8.2 i h1 h2))
  rw [h5, e]
  have := fi_spec (hitS σ c r) h8.1.1
  split
  · rename_i g
    exact hk _ this.1 g 4 (by decide) (by decide)
  · rfl
theorem capOK_congr {σ τ : Int → Int} {k : Int} (h0 : τ 0 = σ 0) (h1 : τ 1 = σ 1) (hk : ∀ j, 0 ≤ j → j < 13 → cp τ k j = cp σ k j) (h : capOK σ k) : capOK τ k := by
  unfold capOK at h ⊢
  rw [h0, h1, hk 0 (by decide) (by decide), hk 1 (by decide) (by decide), hk 2 (by decide) (by decide), hk 3 (by decide) (by decide), hk 4 (by decide) (by decide)]
  obtain ⟨e1, e2, e3, e4, e5, e6⟩ := h
  exact ⟨e1, e2, e3, e4, e5, fun j j1 j2 => by rw [hk (5 + j) (by omega) (by omega)]; exact e6 j j1 j2⟩
/-- an act that leaves size and captions -/
theorem WF.up {σ τ : Int → Int} (h : WF σ) (hlo : ∀ p, 0 ≤ p → p < 117 → (p = 0 ∨ p = 1 ∨ p = 5 ∨ 13 ≤ p) → τ p = σ p) (h2 : 0 ≤ τ 2 ∧ τ 2 ≤ 30) (h3 : 0 ≤ τ 3 ∧ τ 3 ≤ 30) (h4 : 0 ≤ τ 4 ∧ τ 4 ≤ σ 1) (hst : ∀ c, 0 ≤ c → c < 7 → 0 ≤ τ (6 + c) ∧ τ (6 + c) ≤ 9999) (hce : ∀ c r, 0 ≤ c → c < σ 0 → 0 ≤ r → r < σ 1 → -1 ≤ cellS τ c r ∧ cellS τ c r ≤ 6) (hfi : ∀ c r, 0 ≤ c → c < σ 0 → 0 ≤ r → r < τ 4 → 0 ≤ cellS τ c r) : WF τ := by
  obtain ⟨w0, w1, w2, w3, w4, w5⟩ := h
  have w00 := w0
  unfold WF0 at w00
  have e0 := hlo 0 (by decide) (by decide) (by decide)
  have e1 := hlo 1 (by decide) (by decide) (by decide)
  have e5 := hlo 5 (by decide) (by decide) (by decide)
  refine ⟨by unfold WF0; omega, hst, fun k k0 k1 => ?_, fun c r c0 c1 r0 r1 => hce c r c0 (by omega) r0 (by omega), fun c r c0 c1 r0 r1 => hfi c r c0 (by omega) r0 r1, fun i k i0 i1 k0 k1 hne => ?_⟩
  · exact capOK_congr e0 e1 (fun j j0 j1 => cp_lo hlo ⟨k0, by omega⟩ ⟨j0, j1⟩) (w2 k k0 (by omega))
  · have hi := fun j j0 j1 => cp_lo hlo (k := i) (j := j) ⟨i0, by omega⟩ ⟨j0, j1⟩
    have hk := fun j j0 j1 => cp_lo hlo (k := k) (j := j) ⟨k0, by omega⟩ ⟨j0, j1⟩
    have e := w5 i k i0 (by omega) k0 (by omega) hne
    unfold mtS lowC at e ⊢
    rw [e0, hi 0 (by decide) (by decide), hi 1 (by decide) (by decide), hi 2 (by decide) (by decide), hi 3 (by decide) (by decide), hk 0 (by decide) (by decide), hk 1 (by decide) (by decide), hk 2 (by decide) (by decide), hk 3 (by decide) (by decide)]
    exact e
theorem loomAt.mv {X : Cx} {w w2 : Wo} {a : Nat} {σ : Int → Int} (h : loomAt X w a σ) (hf : ∀ q : Nat, a ≤ q → q < a + 25 → w2 q = w q) : loomAt X w2 a σ := by
  obtain ⟨gp, h1, h2⟩ := h.2.1
  exact ⟨h.1.mv h.2.2.cap8 hf, ⟨gp, h1.mv (hf _ (by omega) (by omega)) (hf _ (by omega) (by omega)), h2⟩, h.2.2⟩
theorem lmP.up {X : Cx} {w w2 : Wo} {a : Nat} {σ τ : Int → Int} (h : lmP X w a σ) (h8 : cap8 σ) (hlo : ∀ p, 0 ≤ p → p < 117 → (p = 0 ∨ p = 1 ∨ p = 5 ∨ 13 ≤ p) → τ p = σ p) (h1 : w2 (a + 3) = w (a + 3)) (h2 : w2 (a + 4) = w (a + 4)) : lmP X w2 a τ := by
  obtain ⟨gp, g1, g2⟩ := h
  have h80 := h8.1
  refine ⟨gp, g1.mv h1 h2, fun c r c0 c1 r0 r1 => ?_⟩
  rw [hlo 0 (by decide) (by decide) (by decide)] at c1
  rw [hlo 1 (by decide) (by decide) (by decide)] at r1
  rw [g2 c r c0 c1 r0 r1]
  exact (des_congr (hlo 0 (by decide) (by decide) (by decide)) (hlo 5 (by decide) (by decide) (by decide)) h8 (fun k k0 k1 j j0 j1 => cp_lo hlo ⟨k0, by omega⟩ ⟨j0, j1⟩)).symm
/-! a row woven -/
def wanB (σ : Int → Int) (b : Bool) (rn co z : Int) : Bool := decide (cellS σ z rn = -1) && decide (desS σ (if b then turnS σ z else z) rn = co)
def fillN (σ : Int → Int) (b : Bool) (rn : Int) : Nat → Int → Int
  | 0 => σ
  | n + 1 => if cellS (fillN σ b rn n) n rn = -1 then giveS (fillN σ b rn n) n rn (desS σ (if b then turnS σ n else n) rn) else fillN σ b rn n
theorem fill_lo {σ : Int → Int} {b : Bool} {rn p : Int} (h : WF σ) (hr : 0 ≤ rn) (hp : p < 117) (h1 : p < 6 ∨ 13 ≤ p) : ∀ n : Nat, fillN σ b rn n p = σ p
  | 0 => rfl
  | n + 1 => by
    have hd := desS_r h (if b then turnS σ n else n) rn
    unfold fillN
    split
    · rw [give_lo hp (by omega) (by omega), fill_lo h hr hp h1 n]
    · exact fill_lo h hr hp h1 n
theorem fill_cell {σ : Int → Int} {b : Bool} {rn c r : Int} (h : WF σ) (hr : 0 ≤ rn ∧ 0 ≤ r ∧ 0 ≤ c ∧ c < 40) : ∀ n : Nat, n ≤ 40 → cellS (fillN σ b rn n) c r = if r = rn ∧ c < n ∧ cellS σ c r = -1 then desS σ (if b then turnS σ c else c) r else cellS σ c r
  | 0, _ => by rw [if_neg (by omega)]; rfl
  | n + 1, hn => by
    have hd := desS_r h (if b then turnS σ n else n) rn
    have ih := fill_cell (b := b) h hr n (by omega)
    have ihn := fill_cell (b := b) (rn := rn) (c := n) (r := rn) h (by omega) n (by omega)
    rw [if_neg (by omega)] at ihn
    unfold fillN
    rw [ihn]
    by_cases g : cellS σ n rn = -1
    · rw [if_pos g, give_cell (by omega) (by omega), ih]
      by_cases g2 : c = n ∧ r = rn
      · obtain ⟨g3, g4⟩ := g2
        subst g3; subst g4
        rw [if_pos ⟨rfl, rfl⟩, if_pos (show r = r ∧ (n : Int) < ((n + 1 : Nat) : Int) ∧ cellS σ n r = -1 from ⟨rfl, by omega, g⟩)]
      · rw [if_neg g2]
        by_cases g5 : r = rn ∧ c < n ∧ cellS σ c r = -1
        · rw [if_pos g5, if_pos (show r = rn ∧ c < ((n + 1 : Nat) : Int) ∧ cellS σ c r = -1 from ⟨g5.1, by omega, g5.2.2⟩)]
        · rw [if_neg g5, if_neg (by intro z; apply g5; exact ⟨z.1, by omega, z.2.2⟩)]
    · rw [if_neg g, ih]
      by_cases g5 : r = rn ∧ c < n ∧ cellS σ c r = -1
      · rw [if_pos g5, if_pos (show r = rn ∧ c < ((n + 1 : Nat) : Int) ∧ cellS σ c r = -1 from ⟨g5.1, by omega, g5.2.2⟩)]
      · rw [if_neg g5, if_neg (by
          intro z; apply g5
          refine ⟨z.1, ?_, z.2.2⟩
          by_cases e : c = n
          · rw [e, z.1] at z; exact absurd z.2.2 g
          · omega)]
theorem fill_st {σ : Int → Int} {b : Bool} {rn co : Int} (h : WF σ) (hr : 0 ≤ rn) (hco : 0 ≤ co ∧ co < 7) : ∀ n : Nat, n ≤ 40 → fillN σ b rn n (6 + co) = σ (6 + co) - cnt (wanB σ b rn co) 0 n
  | 0, _ => by rw [show ((0 : Nat) : Int) = 0 from rfl, cnt_0]; show σ _ = _; omega
  | n + 1, hn => by
    have hd := desS_r h (if b then turnS σ n else n) rn
    have ih := fill_st (b := b) h hr hco n (by omega)
    have ihn := fill_cell (b := b) (rn := rn) (c := n) (r := rn) h (by omega) n (by omega)
    rw [if_neg (by omega)] at ihn
    have e : cnt (wanB σ b rn co) 0 ((n + 1 : Nat) : Int) = cnt (wanB σ b rn co) 0 n + bz (wanB σ b rn co n) := by
      rw [show ((n + 1 : Nat) : Int) = (n : Int) + 1 by omega]
      exact cnt_s _ (by omega)
    rw [e]
    unfold fillN
    rw [ihn]
    by_cases g : cellS σ n rn = -1
    · rw [if_pos g]
      by_cases g2 : desS σ (if b then turnS σ n else n) rn = co
      · rw [g2, give_st, ih]
        have : wanB σ b rn co n = true := by unfold wanB; rw [decide_eq_true g, decide_eq_true g2]; rfl
        rw [this]; show _ = _ - (_ + 1); omega
      · rw [give_lo (by omega) (by omega) (by omega), ih]
        have : wanB σ b rn co n = false := by unfold wanB; rw [decide_eq_false g2]; simp
        rw [this]; show _ = _ - (_ + 0); omega
    · rw [if_neg g, ih]
      have : wanB σ b rn co n = false := by unfold wanB; rw [decide_eq_false g]; rfl
      rw [this]; show _ = _ - (_ + 0); omega
theorem cnt_mono (p : Int → Bool) {lo i hi : Int} (h : lo ≤ i ∧ i ≤ hi) : cnt p lo i ≤ cnt p lo hi := by
  obtain ⟨d, hd⟩ : ∃ d : Nat, hi = i + d := ⟨(hi - i).toNat, by omega⟩
  subst hd
  induction d with
  | zero => simp
  | succ d ih =>
    have e := cnt_s p (lo := lo) (i := i + d) (by omega)
    have := bz_r (p (i + d))
    have := ih (by omega)
    rw [show i + ((d + 1 : Nat) : Int) = i + d + 1 by omega]
    omega
theorem fill_WF {σ : Int → Int} {b : Bool} {rn : Int} (h : WF σ) (hr : 0 ≤ rn ∧ rn < σ 1) (he : ∀ co, 0 ≤ co → co < 7 → cnt (wanB σ b rn co) 0 (σ 0) ≤ σ (6 + co)) (n : Nat) (hn : (n : Int) ≤ σ 0) : WF (fillN σ b rn n) := by
  have w0 := h.1
  unfold WF0 at w0
  have e2 := fill_lo (b := b) (p := 2) h hr.1 (by decide) (by decide) n
  have e3 := fill_lo (b := b) (p := 3) h hr.1 (by decide) (by decide) n
  have e4 := fill_lo (b := b) (p := 4) h hr.1 (by decide) (by decide) n
  refine h.up (fun p p0 p1 p2 => fill_lo h hr.1 p1 (by omega) n) (by omega) (by omega) (by omega) (fun c c0 c1 => ?_) (fun c r c0 c1 r0 r1 => ?_) (fun c r c0 c1 r0 r1 => ?_)
  · have := fill_st (b := b) h hr.1 ⟨c0, c1⟩ n (by omega)
    have := he c c0 c1
    have := cnt_mono (wanB σ b rn c) (lo := 0) (i := n) (hi := σ 0) (by omega)
    have := cnt_r (wanB σ b rn c) (lo := 0) (hi := n) (by omega)
    have := h.2.1 c c0 c1
    omega
  · rw [fill_cell h (by omega) n (by omega)]
    have := desS_r h (if b then turnS σ c else c) r
    have := h.2.2.2.1 c r c0 c1 r0 r1
    split <;> omega
  · rw [fill_cell h (by omega) n (by omega)]
    have := desS_r h (if b then turnS σ c else c) r
    have := h.2.2.2.2.1 c r c0 c1 r0 (by omega)
    split <;> omega
