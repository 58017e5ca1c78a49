/-! ===== what the law counts of a cloth ===== -/
def sWv (σ : Int → Int) (r c co : Int) : Int := sm (wovR σ co) 0 r + cnt (fun z => decide (cellS σ z r = co)) 0 c
def sFn (σ : Int → Int) (r c co : Int) : Int := sm (fun y => if y < σ 4 then wovR σ co y else 0) 0 r + if r < σ 4 then cnt (fun z => decide (cellS σ z r = co)) 0 c else 0
def sDs (σ : Int → Int) (r c co : Int) : Int := sm (plnR σ co) 0 r + cnt (fun z => decide (desS σ z r = co)) 0 c
def sLf (σ : Int → Int) (r c co : Int) : Int := sm (towR σ co) 0 r + cnt (fun z => decide (cellS σ z r = -1) && decide (desS σ z r = co)) 0 c
def opF (σ : Int → Int) (r c : Int) : Int := (if σ 4 < r then opnS σ else 0) + if r = σ 4 then cnt (fun z => decide (cellS σ z r ≠ -1)) 0 c else 0
theorem up_cnt {f g : Int → Int} {k co : Int} (h : ∀ co, 0 ≤ co → co < 7 → f co = g co) (hk : 0 ≤ k ∧ k < 7) (h0 : 0 ≤ co) (h7 : co < 7) : up f k (f k + 1) co = g co + bz (decide (k = co)) := by
  by_cases e : co = k
  · rw [e, up_s, h k hk.1 hk.2, decide_eq_true rfl]
    rfl
  · rw [up_n e, h co h0 h7, decide_eq_false (fun z => e z.symm)]
    show _ = _ + (0 : Int)
    omega
theorem sWv_s {σ : Int → Int} {r c co : Int} (hc : 0 ≤ c) : sWv σ r (c + 1) co = sWv σ r c co + bz (decide (cellS σ c r = co)) := by
  unfold sWv
  rw [cnt_s _ hc]
  omega
theorem sDs_s {σ : Int → Int} {r c co : Int} (hc : 0 ≤ c) : sDs σ r (c + 1) co = sDs σ r c co + bz (decide (desS σ c r = co)) := by
  unfold sDs
  rw [cnt_s _ hc]
  omega
theorem sFn_s {σ : Int → Int} {r c co : Int} (hc : 0 ≤ c) (hr : r < σ 4) : sFn σ r (c + 1) co = sFn σ r c co + bz (decide (cellS σ c r = co)) := by
  unfold sFn
  rw [if_pos hr, if_pos hr, cnt_s _ hc]
  omega
theorem sLf_s {σ : Int → Int} {r c co : Int} (hc : 0 ≤ c) (hn : cellS σ c r = -1) : sLf σ r (c + 1) co = sLf σ r c co + bz (decide (desS σ c r = co)) := by
  unfold sLf
  rw [cnt_s _ hc, decide_eq_true hn, Bool.true_and]
  omega
theorem sWv_n {σ : Int → Int} {r c co : Int} (hc : 0 ≤ c) (hn : cellS σ c r = -1) (h0 : 0 ≤ co) : sWv σ r (c + 1) co = sWv σ r c co := by
  rw [sWv_s hc, decide_eq_false (by omega)]
  show _ + (0 : Int) = _
  omega
theorem sFn_n {σ : Int → Int} {r c co : Int} (hc : 0 ≤ c) (hn : cellS σ c r = -1 ∨ σ 4 ≤ r) (h0 : 0 ≤ co) : sFn σ r (c + 1) co = sFn σ r c co := by
  by_cases hr : r < σ 4
  · rw [sFn_s hc hr, decide_eq_false (by omega)]
    show _ + (0 : Int) = _
    omega
  · unfold sFn
    rw [if_neg hr, if_neg hr]
theorem sLf_n {σ : Int → Int} {r c co : Int} (hc : 0 ≤ c) (hn : cellS σ c r ≠ -1) : sLf σ r (c + 1) co = sLf σ r c co := by
  unfold sLf
  rw [cnt_s _ hc, decide_eq_false hn, Bool.false_and]
  show _ + (_ + (0 : Int)) = _
  omega
theorem sWv_r (σ : Int → Int) {r : Int} (co : Int) (hr : 0 ≤ r) : sWv σ r (σ 0) co = sWv σ (r + 1) 0 co := by
  unfold sWv
  rw [sm_s _ hr, cnt_0]
  show _ = _ + wovR σ co r + 0
  rw [Int.add_zero]
  rfl
theorem sDs_r (σ : Int → Int) {r : Int} (co : Int) (hr : 0 ≤ r) : sDs σ r (σ 0) co = sDs σ (r + 1) 0 co := by
  unfold sDs
  rw [sm_s _ hr, cnt_0, Int.add_zero]
  rfl
theorem sLf_r (σ : Int → Int) {r : Int} (co : Int) (hr : 0 ≤ r) : sLf σ r (σ 0) co = sLf σ (r + 1) 0 co := by
  unfold sLf
  rw [sm_s _ hr, cnt_0, Int.add_zero]
  rfl
theorem sFn_r (σ : Int → Int) {r : Int} (co : Int) (hr : 0 ≤ r) : sFn σ r (σ 0) co = sFn σ (r + 1) 0 co := by
  unfold sFn
  rw [sm_s _ hr, cnt_0]
  show _ = _ + (if r < σ 4 then wovR σ co r else 0) + (if r + 1 < σ 4 then 0 else 0)
  have e : (if r + 1 < σ 4 then (0 : Int) else 0) = 0 := by split <;> rfl
  rw [e, Int.add_zero]
  rfl
theorem sWv_0 (σ : Int → Int) (co : Int) : sWv σ 0 0 co = 0 := by unfold sWv; rw [sm_0, cnt_0]; rfl
theorem sDs_0 (σ : Int → Int) (co : Int) : sDs σ 0 0 co = 0 := by unfold sDs; rw [sm_0, cnt_0]; rfl
theorem sLf_0 (σ : Int → Int) (co : Int) : sLf σ 0 0 co = 0 := by unfold sLf; rw [sm_0, cnt_0]; rfl
theorem sFn_0 (σ : Int → Int) (co : Int) : sFn σ 0 0 co = 0 := by unfold sFn; rw [sm_0, cnt_0]; split <;> rfl
theorem opF_0 {σ : Int → Int} (h : 0 ≤ σ 4) : opF σ 0 0 = 0 := by unfold opF; rw [cnt_0, if_neg (by omega)]; split <;> rfl
theorem opF_n {σ : Int → Int} {r c : Int} (hc : 0 ≤ c) (h : cellS σ c r = -1 ∨ r ≠ σ 4) : opF σ r (c + 1) = opF σ r c := by
  unfold opF
  by_cases hr : r = σ 4
  · rw [if_pos hr, if_pos hr, cnt_f hc (decide_eq_false (fun z => by omega))]
  · rw [if_neg hr, if_neg hr]
theorem opF_s {σ : Int → Int} {r c : Int} (hc : 0 ≤ c) (h : cellS σ c r ≠ -1) (hr : r = σ 4) : opF σ r (c + 1) = opF σ r c + 1 := by
  unfold opF
  rw [if_pos hr, if_pos hr, cnt_t hc (decide_eq_true h)]
  omega
theorem opF_r {σ : Int → Int} {r : Int} (hr : r < σ 1) : opF σ r (σ 0) = opF σ (r + 1) 0 := by
  unfold opF
  rw [cnt_0]
  have e : (if r + 1 = σ 4 then (0 : Int) else 0) = 0 := by split <;> rfl
  rw [e]
  by_cases h : r = σ 4
  · rw [if_neg (by omega), if_pos h, if_pos (by omega)]
    have e2 : opnS σ = cnt (fun z => decide (cellS σ z r ≠ -1)) 0 (σ 0) := cnt_c (fun i _ _ => by unfold opnB; rw [decide_eq_true (p := σ 4 < σ 1) (by omega), Bool.true_and, h])
    omega
  · rw [if_neg h]
    by_cases h2 : σ 4 < r
    · rw [if_pos h2, if_pos (by omega)]
    · rw [if_neg h2, if_neg (by omega)]
theorem opF_e {σ : Int → Int} (h : σ 4 ≤ σ 1) : opF σ (σ 1) 0 = opnS σ := by
  unfold opF
  rw [cnt_0]
  have e : (if σ 1 = σ 4 then (0 : Int) else 0) = 0 := by split <;> rfl
  rw [e]
  by_cases h2 : σ 4 < σ 1
  · rw [if_pos h2]; omega
  · rw [if_neg h2]
    have e2 : opnS σ = 0 := by
      unfold opnS
      have h3 := sm_r (f := fun i => bz (opnB σ i)) (lo := 0) (hi := max 0 (σ 0)) (M := 0) (by decide) (fun i _ _ => by
        simp only [opnB]
        rw [decide_eq_false h2, Bool.false_and]
        exact ⟨Int.le_refl 0, Int.le_refl 0⟩) (by omega)
      by_cases h0 : 0 ≤ σ 0
      · rw [show max 0 (σ 0) = σ 0 by omega] at h3
        have e4 : cnt (opnB σ) 0 (σ 0) = sm (fun i => bz (opnB σ i)) 0 (σ 0) := rfl
        omega
      · exact cnt_e _ (by omega)
    omega
theorem sm_ne {f : Int → Int} {r : Int} : sm f 0 r + 0 = sm f 0 r := Int.add_zero _
theorem sWv_q {σ : Int → Int} (co : Int) : sWv σ (σ 1) 0 co / 2 = colQ σ co 4 := by
  unfold sWv colQ
  rw [cnt_0, Int.add_zero, if_neg (by decide), if_pos rfl]
theorem sFn_q {σ : Int → Int} (co : Int) : sFn σ (σ 1) 0 co = colQ σ co 1 := by
  unfold sFn colQ
  rw [cnt_0, if_neg (by decide : ¬ (1 : Int) = 0), if_neg (by decide : ¬ (1 : Int) = 4), if_pos rfl]
  split <;> exact Int.add_zero _
theorem sDs_q {σ : Int → Int} (co : Int) : sDs σ (σ 1) 0 co = colQ σ co 2 := by
  unfold sDs colQ
  rw [cnt_0, Int.add_zero, if_neg (by decide), if_neg (by decide), if_neg (by decide), if_pos rfl]
theorem sLf_q {σ : Int → Int} (co : Int) : sLf σ (σ 1) 0 co = colQ σ co 3 := by
  unfold sLf colQ
  rw [cnt_0, Int.add_zero, if_neg (by decide), if_neg (by decide), if_neg (by decide), if_neg (by decide)]
/-- mistakes, from the top row down -/
def lwS (σ : Int → Int) (b : Bool) (lo : Int) : Int := if fi (lowP σ b) lo (σ 4) < σ 4 then fi (lowP σ b) lo (σ 4) else -1
theorem lwS_e (σ : Int → Int) (b : Bool) : lwS σ b (σ 4) = -1 := by
  unfold lwS
  rw [fi_nil, if_neg (by omega)]
theorem lwS_t {σ : Int → Int} {b : Bool} {r : Int} (h : r < σ 4) (hp : lowP σ b r = true) : lwS σ b r = r := by
  unfold lwS
  rw [fi_dn h, hp]
  simp only [if_true]
  rw [if_pos h]
theorem lwS_f {σ : Int → Int} {b : Bool} {r : Int} (h : r < σ 4) (hp : lowP σ b r = false) : lwS σ b r = lwS σ b (r + 1) := by
  unfold lwS
  rw [fi_dn h, hp]
  simp only [Bool.false_eq_true, if_false]
theorem lwS_0 (σ : Int → Int) (b : Bool) : lwS σ b 0 = lowS σ b := rfl
theorem lwS_r {σ : Int → Int} (b : Bool) {lo : Int} (h : 0 ≤ lo ∧ lo ≤ σ 4) : -1 ≤ lwS σ b lo ∧ lwS σ b lo < max 1 (σ 4) := by
  have h1 := fi_spec (lowP σ b) (lo := lo) (hi := σ 4) (by omega)
  unfold lwS
  split <;> omega
theorem cnt_dnN {p : Int → Bool} {lo : Int} : ∀ n : Nat, cnt p lo (lo + (n + 1 : Nat)) = bz (p lo) + cnt p (lo + 1) (lo + (n + 1 : Nat))
  | 0 => by
    rw [show lo + ((0 + 1 : Nat) : Int) = lo + 1 by omega, cnt_s p (Int.le_refl lo), cnt_0, cnt_0]
    omega
  | n + 1 => by
    have ih := cnt_dnN (p := p) (lo := lo) n
    rw [show lo + ((n + 1 + 1 : Nat) : Int) = (lo + ((n + 1 : Nat) : Int)) + 1 by omega, cnt_s p (by omega), cnt_s p (by omega), ih]
    omega
theorem cnt_dn {p : Int → Bool} {lo hi : Int} (h : lo < hi) : cnt p lo hi = bz (p lo) + cnt p (lo + 1) hi := by
  have := cnt_dnN (p := p) (lo := lo) (hi - lo - 1).toNat
  rw [show lo + (((hi - lo - 1).toNat + 1 : Nat) : Int) = hi by omega] at this
  exact this
def mnP (σ : Int → Int) (lo : Int) : Int := cnt (fun z => decide (0 < misRow σ z)) lo (σ 4)
theorem mnP_e (σ : Int → Int) : mnP σ (σ 4) = 0 := cnt_0 _ _
theorem mnP_t {σ : Int → Int} {r : Int} (h : r < σ 4) (hp : 0 < misRow σ r) : mnP σ r = mnP σ (r + 1) + 1 := by
  unfold mnP
  rw [cnt_dn h, decide_eq_true hp]
  show (1 : Int) + _ = _
  omega
theorem mnP_f {σ : Int → Int} {r : Int} (h : r < σ 4) (hp : ¬ 0 < misRow σ r) : mnP σ r = mnP σ (r + 1) := by
  unfold mnP
  rw [cnt_dn h, decide_eq_false hp]
  show (0 : Int) + _ = _
  omega
theorem lowP_f {σ : Int → Int} {b : Bool} {r : Int} (hp : ¬ 0 < misRow σ r) : lowP σ b r = false := by
  unfold lowP
  rw [decide_eq_false hp, Bool.and_false]
theorem lowP_t {σ : Int → Int} {r : Int} (hp : 0 < misRow σ r) : lowP σ false r = true := by
  unfold lowP
  rw [decide_eq_true hp]
  rfl
theorem lowP_s {σ : Int → Int} {r : Int} (hp : 0 < misRow σ r) : lowP σ true r = seenS σ r := by
  unfold lowP
  rw [decide_eq_true hp, Bool.and_true]
  rfl
theorem dnS_v {σ : Int → Int} {x : Int} (h : -1 ≤ x) : (if x < 0 then 0 else σ 4 - x) = dnS σ x := by
  unfold dnS
  by_cases h1 : x = -1
  · rw [if_pos (by omega), if_pos h1]
  · rw [if_neg (by omega), if_neg h1]
theorem smR {f : Int → Int} {hi M : Int} (hM : 0 ≤ M) (h : ∀ i, 0 ≤ f i ∧ f i ≤ M) (hl : 0 ≤ hi) : 0 ≤ sm f 0 hi ∧ sm f 0 hi ≤ M * hi := by
  have := sm_r (f := f) (lo := 0) (hi := hi) hM (fun i _ _ => h i) hl
  rw [Int.sub_zero] at this
  exact this
theorem colQ_r {σ : Int → Int} (h : WF σ) {co wh : Int} (hc : 0 ≤ co ∧ co < 7) : 0 ≤ colQ σ co wh ∧ colQ σ co wh ≤ 100000 := by
  have hF := h.1
  unfold WF0 at hF
  have h1 := h.2.1 co hc.1 hc.2
  have hb : ∀ p : Int → Bool, 0 ≤ cnt p 0 (σ 0) ∧ cnt p 0 (σ 0) ≤ 40 := fun p => by
    have := cnt_r p (lo := 0) (hi := σ 0) (by omega)
    omega
  have a1 := smR (f := wovR σ co) (hi := σ 1) (M := 40) (by decide) (fun i => hb _) (by omega)
  have a2 := smR (f := fun y => if y < σ 4 then wovR σ co y else 0) (hi := σ 1) (M := 40) (by decide) (fun i => by
    have := hb (fun c => decide (cellS σ c i = co))
    have e : wovR σ co i = cnt (fun c => decide (cellS σ c i = co)) 0 (σ 0) := rfl
    show 0 ≤ (if i < σ 4 then wovR σ co i else 0) ∧ (if i < σ 4 then wovR σ co i else 0) ≤ 40
    split <;> omega) (by omega)
  have a3 := smR (f := plnR σ co) (hi := σ 1) (M := 40) (by decide) (fun i => hb _) (by omega)
  have a4 := smR (f := towR σ co) (hi := σ 1) (M := 40) (by decide) (fun i => hb _) (by omega)
  unfold colQ
  split
  · omega
  · split
    · omega
    · split
      · omega
      · split <;> omega
theorem opnS_r {σ : Int → Int} (h : WF σ) : 0 ≤ opnS σ ∧ opnS σ ≤ 40 := by
  have hF := h.1
  unfold WF0 at hF
  have := cnt_r (opnB σ) (lo := 0) (hi := σ 0) (by omega)
  unfold opnS
  omega
theorem ltt_r {σ : Int → Int} (h : WF σ) : 0 ≤ sm (fun z => cp σ z 0) 0 (σ 5) ∧ sm (fun z => cp σ z 0) 0 (σ 5) ≤ 100 := by
  have hF := h.1
  unfold WF0 at hF
  have := sm_r (f := fun z => cp σ z 0) (lo := 0) (hi := σ 5) (M := 8) (by decide) (fun i h1 h2 => by have := (h.2.2.1 i h1 h2).1; omega) (by omega)
  omega
theorem cntQ_r {σ : Int → Int} (h : WF σ) {un wh : Int} (hu : 0 ≤ un ∧ un ≤ 8) : 0 ≤ cntQ σ un wh ∧ cntQ σ un wh ≤ 1000 := by
  have hF := h.1
  unfold WF0 at hF
  have h1 := opnS_r h
  have h2 := ltt_r h
  unfold cntQ
  split
  · omega
  · split
    · omega
    · split
      · omega
      · split
        · omega
        · split
          · omega
          · split
            · omega
            · split
              · omega
              · split <;> omega
theorem mnP_r {σ : Int → Int} (h : WF σ) {lo : Int} (hl : 0 ≤ lo ∧ lo ≤ σ 4) : 0 ≤ mnP σ lo ∧ mnP σ lo ≤ 40 := by
  have hF := h.1
  unfold WF0 at hF
  have := cnt_r (fun z => decide (0 < misRow σ z)) (lo := lo) (hi := σ 4) (by omega)
  unfold mnP
  omega
theorem dnS_r {σ : Int → Int} (h : WF σ) (b : Bool) : 0 ≤ dnS σ (lowS σ b) ∧ dnS σ (lowS σ b) ≤ 40 := by
  have hF := h.1
  unfold WF0 at hF
  have h1 := lwS_r (σ := σ) b (lo := 0) (by omega)
  rw [lwS_0] at h1
  unfold dnS
  split <;> omega
theorem misQ_r {σ : Int → Int} (h : WF σ) {wh : Int} : -1 ≤ misQ σ wh ∧ misQ σ wh ≤ 2000 := by
  have hF := h.1
  unfold WF0 at hF
  have h1 := misFrom_r h (lo := 0) (by omega) (by omega)
  have h2 := misSeen_rr h
  have h3 := mnP_r h (lo := 0) (by omega)
  have e3 : mnP σ 0 = cnt (fun z => decide (0 < misRow σ z)) 0 (σ 4) := rfl
  have h4 := dnS_r h (decide (wh = 3 ∨ wh = 5))
  have h5 := lwS_r (σ := σ) true (lo := 0) (by omega)
  rw [lwS_0] at h5
  unfold misQ
  split
  · omega
  · split
    · omega
    · split
      · omega
      · split <;> omega
theorem sWv_rg {σ : Int → Int} (h : WF σ) {r co : Int} (hr : 0 ≤ r ∧ r ≤ σ 1) : 0 ≤ sWv σ r 0 co ∧ sWv σ r 0 co ≤ 2000 := by
  have hF := h.1
  unfold WF0 at hF
  have a1 := smR (f := wovR σ co) (hi := r) (M := 40) (by decide) (fun i => by
    have := cnt_r (fun c => decide (cellS σ c i = co)) (lo := 0) (hi := σ 0) (by omega)
    unfold wovR
    omega) hr.1
  unfold sWv
  rw [cnt_0]
  omega
