/-! ===== a pass, cell by cell ===== -/
def passN (σ : Int → Int) (co fr : Int) : Nat → Int → Int
  | 0 => σ
  | n + 1 => giveS (passN σ co fr n) (turnS σ (fr + n)) (σ 4) co
theorem pass_lo {σ : Int → Int} {co fr p : Int} (hr : 0 ≤ σ 4) (hp : p < 117) (h1 : p ≠ 6 + co) : ∀ n : Nat, 0 ≤ fr → fr + n ≤ σ 0 → passN σ co fr n p = σ p
  | 0, _, _ => rfl
  | n + 1, h, h2 => by
    unfold passN
    rw [give_lo hp ⟨by unfold turnS; omega, hr⟩ h1]
    exact pass_lo hr hp h1 n h (by omega)
theorem pass_st {σ : Int → Int} {co fr : Int} : ∀ n : Nat, passN σ co fr n (6 + co) = σ (6 + co) - n
  | 0 => by show σ _ = _; simp
  | n + 1 => by
    unfold passN
    rw [give_st, pass_st n]; omega
theorem pass_cell {σ : Int → Int} {co fr c r : Int} (h4 : 0 ≤ σ 4) (hc : 0 ≤ co ∧ co < 7) (hr : 0 ≤ r ∧ 0 ≤ c ∧ c < 40) (h40 : σ 0 ≤ 40) : ∀ n : Nat, 0 ≤ fr → fr + n ≤ σ 0 → cellS (passN σ co fr n) c r = if r = σ 4 ∧ fr ≤ turnS σ c ∧ turnS σ c < fr + n then co else cellS σ c r
  | 0, _, _ => by rw [if_neg (by omega)]; rfl
  | n + 1, h, h2 => by
    have ih := pass_cell h4 hc hr h40 n h (by omega)
    unfold passN
    rw [give_cell ⟨hr.2.1, hr.2.2, hr.1, by unfold turnS; omega, by unfold turnS; omega, h4⟩ hc, ih]
    by_cases g : c = turnS σ (fr + n) ∧ r = σ 4
    · rw [if_pos g, if_pos ⟨g.2, by rw [g.1]; unfold turnS; omega, by rw [g.1]; unfold turnS; omega⟩]
    · rw [if_neg g]
      by_cases g2 : r = σ 4 ∧ fr ≤ turnS σ c ∧ turnS σ c < fr + n
      · rw [if_pos g2, if_pos ⟨g2.1, g2.2.1, by omega⟩]
      · rw [if_neg g2, if_neg (fun z => by
          by_cases e : turnS σ c = fr + n
          · exact g ⟨by rw [← e]; unfold turnS; omega, z.1⟩
          · exact g2 ⟨z.1, z.2.1, by omega⟩)]
theorem pass_WF {σ : Int → Int} {co fr : Int} (h : WF σ) (hc : 0 ≤ co ∧ co < 7) (hf : 0 ≤ fr) (n : Nat) (hn : fr + n ≤ σ 0) (hst : (n : Int) ≤ σ (6 + co)) : WF (passN σ co fr n) := by
  have w0 := h.1
  unfold WF0 at w0
  have hl := fun p (h1 : p < 117) (h2 : p ≠ 6 + co) => pass_lo (σ := σ) (co := co) (fr := fr) (p := p) (by omega) h1 h2 n hf hn
  have e2 := hl 2 (by decide) (by omega)
  have e3 := hl 3 (by decide) (by omega)
  have e4 := hl 4 (by decide) (by omega)
  refine h.up (fun p p0 p1 p2 => hl p p1 (by omega)) (by omega) (by omega) (by omega) (fun c c0 c1 => ?_) (fun c r c0 c1 r0 r1 => ?_) (fun c r c0 c1 r0 r1 => ?_)
  · have := h.2.1 c c0 c1
    by_cases g : c = co
    · rw [g, pass_st]; subst g; omega
    · rw [hl _ (by omega) (by omega)]; exact this
  · rw [pass_cell (by omega) hc (by omega) (by omega) n hf hn]
    have := h.2.2.2.1 c r c0 c1 r0 r1
    split <;> omega
  · rw [pass_cell (by omega) hc (by omega) (by omega) n hf hn]
    have := h.2.2.2.2.1 c r c0 c1 r0 (by omega)
    split <;> omega
/-! the open row filled with ground -/
def beatN (σ : Int → Int) : Nat → Int → Int
  | 0 => σ
  | n + 1 => if cellS (beatN σ n) n (σ 4) = -1 then giveS (beatN σ n) n (σ 4) 0 else beatN σ n
def emB (σ : Int → Int) (z : Int) : Bool := decide (cellS σ z (σ 4) = -1)
theorem beat_lo {σ : Int → Int} {p : Int} (hr : 0 ≤ σ 4) (hp : p < 117) (h1 : p ≠ 6) : ∀ n : Nat, beatN σ n p = σ p
  | 0 => rfl
  | n + 1 => by
    unfold beatN
    split
    · rw [give_lo hp (by omega) (by omega)]; exact beat_lo hr hp h1 n
    · exact beat_lo hr hp h1 n
theorem beat_cell {σ : Int → Int} {c r : Int} (h4 : 0 ≤ σ 4) (hr : 0 ≤ r ∧ 0 ≤ c ∧ c < 40) : ∀ n : Nat, n ≤ 40 → cellS (beatN σ n) c r = if r = σ 4 ∧ c < n ∧ cellS σ c r = -1 then 0 else cellS σ c r
  | 0, _ => by rw [if_neg (by omega)]; rfl
  | n + 1, hn => by
    have ih := beat_cell h4 hr n (by omega)
    have ihn := beat_cell (c := n) (r := σ 4) h4 (by omega) n (by omega)
    rw [if_neg (by omega)] at ihn
    unfold beatN
    rw [ihn]
    by_cases g : cellS σ n (σ 4) = -1
    · rw [if_pos g, give_cell (by omega) (by omega), ih]
      by_cases g2 : c = n ∧ r = σ 4
      · rw [if_pos g2, if_pos (show r = σ 4 ∧ c < ((n + 1 : Nat) : Int) ∧ cellS σ c r = -1 from ⟨g2.2, by omega, by rw [g2.1, g2.2]; exact g⟩)]
      · rw [if_neg g2]
        by_cases g5 : r = σ 4 ∧ c < n ∧ cellS σ c r = -1
        · rw [if_pos g5, if_pos (show r = σ 4 ∧ c < ((n + 1 : Nat) : Int) ∧ cellS σ c r = -1 from ⟨g5.1, by omega, g5.2.2⟩)]
        · rw [if_neg g5, if_neg (by intro z; apply g5; exact ⟨z.1, by omega, z.2.2⟩)]
    · rw [if_neg g, ih]
      by_cases g5 : r = σ 4 ∧ c < n ∧ cellS σ c r = -1
      · rw [if_pos g5, if_pos (show r = σ 4 ∧ c < ((n + 1 : Nat) : Int) ∧ cellS σ c r = -1 from ⟨g5.1, by omega, g5.2.2⟩)]
      · rw [if_neg g5, if_neg (by
          intro z; apply g5
          refine ⟨z.1, ?_, z.2.2⟩
          by_cases e : c = n
          · rw [e, z.1] at z; exact absurd z.2.2 g
          · omega)]
theorem beat_st {σ : Int → Int} (h4 : 0 ≤ σ 4) : ∀ n : Nat, n ≤ 40 → beatN σ n 6 = σ 6 - cnt (emB σ) 0 n
  | 0, _ => by rw [show ((0 : Nat) : Int) = 0 from rfl, cnt_0]; show σ _ = _; omega
  | n + 1, hn => by
    have ih := beat_st h4 n (by omega)
    have ihn := beat_cell (c := n) (r := σ 4) h4 (by omega) n (by omega)
    rw [if_neg (by omega)] at ihn
    have e : cnt (emB σ) 0 ((n + 1 : Nat) : Int) = cnt (emB σ) 0 n + bz (emB σ n) := by
      rw [show ((n + 1 : Nat) : Int) = (n : Int) + 1 by omega]
      exact cnt_s _ (by omega)
    rw [e]
    unfold beatN
    rw [ihn]
    by_cases g : cellS σ n (σ 4) = -1
    · have e2 : giveS (beatN σ n) n (σ 4) 0 6 = beatN σ n 6 - 1 := give_st (co := 0)
      have e3 : emB σ n = true := decide_eq_true g
      rw [if_pos g, e2, ih, e3]; show _ = _ - (_ + 1); omega
    · have e3 : emB σ n = false := decide_eq_false g
      rw [if_neg g, ih, e3]; show _ = _ - (_ + 0); omega
theorem beat_WF {σ : Int → Int} (h : WF σ) (hop : σ 4 < σ 1) (he : cnt (emB σ) 0 (σ 0) ≤ σ 6) (n : Nat) (hn : (n : Int) ≤ σ 0) : WF (beatN σ n) := by
  have w0 := h.1
  unfold WF0 at w0
  have hl := fun p (h1 : p < 117) (h2 : p ≠ 6) => beat_lo (σ := σ) (p := p) (by omega) h1 h2 n
  have e2 := hl 2 (by decide) (by omega)
  have e3 := hl 3 (by decide) (by omega)
  have e4 := hl 4 (by decide) (by omega)
  refine h.up (fun p p0 p1 p2 => hl p p1 (by omega)) (by omega) (by omega) (by omega) (fun c c0 c1 => ?_) (fun c r c0 c1 r0 r1 => ?_) (fun c r c0 c1 r0 r1 => ?_)
  · have := h.2.1 c c0 c1
    by_cases g : c = 0
    · subst g
      have e := beat_st (σ := σ) (by omega) n (by omega)
      have := cnt_mono (emB σ) (lo := 0) (i := n) (hi := σ 0) (by omega)
      have := cnt_r (emB σ) (lo := 0) (hi := n) (by omega)
      rw [show (6 : Int) + 0 = 6 from rfl] at *
      omega
    · rw [hl _ (by omega) (by omega)]; exact this
  · rw [beat_cell (by omega) (by omega) n (by omega)]
    have := h.2.2.2.1 c r c0 c1 r0 r1
    split <;> omega
  · rw [beat_cell (by omega) (by omega) n (by omega)]
    have := h.2.2.2.2.1 c r c0 c1 r0 (by omega)
    split <;> omega
