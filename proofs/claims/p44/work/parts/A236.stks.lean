/-! ===== stocks alone are others ===== -/
def stkS (σ f : Int → Int) : Int → Int := fun p => if 6 ≤ p ∧ p < 13 then f (p - 6) else σ p
theorem stk_lo {σ f : Int → Int} {p : Int} (h : p < 6 ∨ 13 ≤ p) : stkS σ f p = σ p := by
  unfold stkS
  rw [if_neg (by omega)]
theorem stk_st {σ f : Int → Int} {c : Int} (h : 0 ≤ c ∧ c < 7) : stkS σ f (6 + c) = f c := by
  unfold stkS
  rw [if_pos (by omega)]
  congr 1
  omega
theorem stk_ce {σ f : Int → Int} {c r : Int} (hc : 0 ≤ c) (hr : 0 ≤ r) : cellS (stkS σ f) c r = cellS σ c r := stk_lo (by omega)
theorem stk_des {σ f : Int → Int} (h : WF σ) {c r : Int} : desS (stkS σ f) c r = desS σ c r := by
  have wf := h.1
  unfold WF0 at wf
  exact des_congr (stk_lo (by decide)) (stk_lo (by decide)) h.cap8 (fun k k0 k1 j j0 j1 => stk_lo (by omega))
theorem stk_WF {σ f : Int → Int} (h : WF σ) (hf : ∀ c, 0 ≤ c → c < 7 → 0 ≤ f c ∧ f c ≤ 9999) : WF (stkS σ f) := by
  have wf := h.1
  unfold WF0 at wf
  refine h.up (fun p p0 p1 p2 => stk_lo (by omega)) ?_ ?_ ?_ (fun c c0 c1 => by rw [stk_st ⟨c0, c1⟩]; exact hf c c0 c1) (fun c r c0 c1 r0 r1 => by rw [stk_ce c0 r0]; exact h.2.2.2.1 c r c0 c1 r0 r1) (fun c r c0 c1 r0 r1 => by rw [stk_ce c0 r0]; rw [stk_lo (by decide)] at r1; exact h.2.2.2.2.1 c r c0 c1 r0 r1)
  · rw [stk_lo (by decide)]; exact wf.2.2.1
  · rw [stk_lo (by decide)]; exact wf.2.2.2.1
  · rw [stk_lo (by decide)]; exact wf.2.2.2.2.1
theorem stk_due {σ f : Int → Int} (h : WF σ) {b : Bool} {c r : Int} (hc : 0 ≤ c) (hr : 0 ≤ r) : dueS (stkS σ f) b c r = dueS σ b c r := by
  unfold dueS turnS
  rw [stk_ce hc hr, stk_des h, stk_lo (p := 0) (by decide)]
theorem fil_due {σ : Int → Int} (h : WF σ) {b : Bool} {c : Int} (hc : 0 ≤ c ∧ c < σ 0) (h4 : σ 4 < σ 1) : cellS (fillN σ b (σ 4) (σ 0).toNat) c (σ 4) = dueS σ b c (σ 4) := by
  have wf := h.1
  unfold WF0 at wf
  have hce := h.2.2.2.1 c (σ 4) hc.1 hc.2 (by omega) h4
  rw [fill_cell h (by omega) _ (by omega)]
  unfold dueS
  by_cases g : cellS σ c (σ 4) = -1
  · rw [if_pos ⟨rfl, by omega, g⟩, if_neg (show ¬ 0 ≤ cellS σ c (σ 4) by omega)]
  · rw [if_neg (fun z => g z.2.2), if_pos (show 0 ≤ cellS σ c (σ 4) by omega)]
theorem due_r {σ : Int → Int} (h : WF σ) {b : Bool} {c r : Int} (hc : 0 ≤ c ∧ c < σ 0) (hr : 0 ≤ r ∧ r < σ 1) : 0 ≤ dueS σ b c r ∧ dueS σ b c r ≤ 6 := by
  have h1 := h.2.2.2.1 c r hc.1 hc.2 hr.1 hr.2
  have h2 := desS_r h (if b then turnS σ c else c) r
  unfold dueS
  split <;> omega
theorem wan_due {σ : Int → Int} {b : Bool} {c r co : Int} (h : cellS σ c r = -1) : wanB σ b r co c = decide (dueS σ b c r = co) := by
  unfold wanB dueS
  rw [decide_eq_true h, Bool.true_and, if_neg (show ¬ 0 ≤ cellS σ c r by omega)]
theorem wan_no {σ : Int → Int} {b : Bool} {c r co : Int} (h : ¬ cellS σ c r = -1) : wanB σ b r co c = false := by
  unfold wanB
  rw [decide_eq_false h]
  rfl
theorem ownN.of {X : Cx} {w w2 : Wo} {N : Nat → Prop} {h ac : Nat} {σ τ : Int → Int} (hO : ownN X w N h σ) (hA : ownA X (wr w2 N) h τ) (hm : ∀ (q : Nat) (e : va_E), w q = some e → N q → q ≠ ac → w2 q = some e) (hac : w2 ac ≠ none) : ownN X w2 N h τ :=
  ⟨hA, fun q hq => (by
    by_cases hqa : q = ac
    · rw [hqa]; exact hac
    · have h1 := hO.2.1 q hq
      cases h2 : w q with
      | none => exact absurd h2 h1
      | some e => rw [hm q e h2 hq hqa]; simp), hO.2.2⟩
theorem ownN.rc {X : Cx} {w : Wo} {N : Nat → Prop} {h : Nat} {σ : Int → Int} (hO : ownN X w N h σ) : ∃ fs, w h = some (.inr (10, fs)) := by
  obtain ⟨st, lc, ec, kc, lr, er, kr, cd, rwa, hP, -⟩ := hO.1.P
  exact ⟨_, (wr_some.mp hP.1).2⟩
theorem jc_up4 {σ : Int → Int} {x r : Int} (hr : 0 ≤ r) : jcS (up σ 4 x) r = jcS σ r := by
  unfold jcS
  rw [up4 (p := 0) (by decide)]
  exact cnt_c (fun z z0 z1 => by rw [cell_up4 z0 hr, cell_up4 (by omega) hr])
theorem fil_ag {σ f : Int → Int} (h : WF σ) {b : Bool} (h4 : σ 4 < σ 1) (hf : ∀ co, 0 ≤ co → co < 7 → f co = σ (6 + co) - cnt (wanB σ b (σ 4) co) 0 (σ 0)) (p : Int) (hp : p < 117) : fillN σ b (σ 4) (σ 0).toNat p = stkS σ f p := by
  have wf := h.1
  unfold WF0 at wf
  by_cases h6 : p < 6 ∨ 13 ≤ p
  · rw [fill_lo h (by omega) hp h6, stk_lo h6]
  · obtain ⟨co, rfl⟩ : ∃ co, p = 6 + co := ⟨p - 6, by omega⟩
    rw [fill_st h (by omega) (by omega) _ (by omega), stk_st (by omega), hf co (by omega) (by omega), show (((σ 0).toNat : Nat) : Int) = σ 0 by omega]
theorem fil_oth {σ f : Int → Int} (h : WF σ) {b : Bool} (h4 : σ 4 < σ 1) {c r : Int} (c0 : 0 ≤ c) (c1 : c < σ 0) (r0 : 0 ≤ r) (hr : r ≠ σ 4) : cellS (fillN σ b (σ 4) (σ 0).toNat) c r = cellS (stkS σ f) c r := by
  have wf := h.1
  unfold WF0 at wf
  rw [fill_cell h (by omega) _ (by omega), if_neg (fun z => hr z.1), stk_ce c0 r0]
