/-! ===== mistakes that are seen, once looked for ===== -/
theorem smN_le {f g : Int → Int} {lo : Int} : ∀ n : Nat, (∀ i, lo ≤ i → i < lo + n → f i ≤ g i) → smN f lo n ≤ smN g lo n
  | 0, _ => Int.le_refl 0
  | n + 1, h => by
    have h1 := smN_le n (fun i h1 h2 => h i h1 (by omega))
    have h2 := h (lo + n) (by omega) (by omega)
    show smN f lo n + f (lo + n) ≤ smN g lo n + g (lo + n)
    omega
theorem sm_le {f g : Int → Int} {lo hi : Int} (h : ∀ i, lo ≤ i → i < hi → f i ≤ g i) : sm f lo hi ≤ sm g lo hi := smN_le _ (fun i h1 h2 => h i h1 (by omega))
theorem misRow_up3 {σ : Int → Int} (h : WF σ) {x r : Int} (hr : 0 ≤ r) : misRow (up σ 3 x) r = misRow σ r := by
  have wf := h.1
  unfold WF0 at wf
  unfold misRow
  rw [up_n (by decide : (0 : Int) ≠ 3)]
  refine cnt_c (fun c c0 c1 => ?_)
  unfold misS
  rw [up_n (by decide : (4 : Int) ≠ 3), show cellS (up σ 3 x) c r = cellS σ c r from up_n (by omega), des_congr (σ := σ) (τ := up σ 3 x) (up_n (by decide)) (up_n (by decide)) h.cap8 (fun k k0 k1 j j0 j1 => up_n (by omega))]
theorem misSeen_le {σ : Int → Int} (h : WF σ) : misSeen σ ≤ misSeen (up σ 3 (σ 4)) := by
  unfold misSeen
  rw [up_n (by decide : (4 : Int) ≠ 3)]
  refine sm_le (fun r r0 r1 => ?_)
  have h1 := misRow_r h r
  have hs : seenS (up σ 3 (σ 4)) r = true := by
    unfold seenS
    rw [up_s, decide_eq_true r1]
    rfl
  show (if seenS σ r then misRow σ r else 0) ≤ (if seenS (up σ 3 (σ 4)) r then misRow (up σ 3 (σ 4)) r else 0)
  rw [hs, if_pos rfl, misRow_up3 h r0]
  split <;> omega
theorem drop_inj {cd : Int → Nat} {i n : Int} (h : ∀ k k2, 0 ≤ k → k < n → 0 ≤ k2 → k2 < n → cd k = cd k2 → k = k2) (h0 : 0 ≤ i) (hi : i < n) {k k2 : Int} (a0 : 0 ≤ k) (a1 : k < n - 1) (b0 : 0 ≤ k2) (b1 : k2 < n - 1) (e : (fun k => if k < i then cd k else cd (k + 1)) k = (fun k => if k < i then cd k else cd (k + 1)) k2) : k = k2 := by
  dsimp only at e
  by_cases h1 : k < i
  · rw [if_pos h1] at e
    by_cases h2 : k2 < i
    · rw [if_pos h2] at e
      exact h k k2 a0 (by omega) b0 (by omega) e
    · rw [if_neg h2] at e
      have := h k (k2 + 1) a0 (by omega) (by omega) (by omega) e
      omega
  · rw [if_neg h1] at e
    by_cases h2 : k2 < i
    · rw [if_pos h2] at e
      have := h (k + 1) k2 (by omega) (by omega) b0 (by omega) e
      omega
    · rw [if_neg h2] at e
      have := h (k + 1) (k2 + 1) (by omega) (by omega) (by omega) (by omega) e
      omega
theorem mov_cp {σ : Int → Int} {k k0 j x y : Int} (hj : 0 ≤ j ∧ j < 13) (h : k0 ≠ k ∨ (j ≠ 2 ∧ j ≠ 3)) : cp (movS σ k x y) k0 j = cp σ k0 j := mov_lo (by omega)
theorem mov_2 (σ : Int → Int) (k x y : Int) : cp (movS σ k x y) k 2 = x := by
  unfold cp movS
  rw [up_n (by omega), up_s]
theorem mov_3 (σ : Int → Int) (k x y : Int) : cp (movS σ k x y) k 3 = y := by
  unfold cp movS
  rw [up_s]
theorem set_inj {cd : Int → Nat} {i n : Int} {c9 : Nat} (h : ∀ k k2, 0 ≤ k → k < n → 0 ≤ k2 → k2 < n → cd k = cd k2 → k = k2) (hc : ∀ k, 0 ≤ k → k < n → cd k ≠ c9) {k k2 : Int} (a0 : 0 ≤ k) (a1 : k < n ∨ k = i) (b0 : 0 ≤ k2) (b1 : k2 < n ∨ k2 = i) (e : (fun k => if k = i then c9 else cd k) k = (fun k => if k = i then c9 else cd k) k2) : k = k2 := by
  dsimp only at e
  by_cases h1 : k = i
  · rw [if_pos h1] at e
    by_cases h2 : k2 = i
    · omega
    · rw [if_neg h2] at e
      exact absurd e.symm (hc k2 b0 (by omega))
  · rw [if_neg h1] at e
    by_cases h2 : k2 = i
    · rw [if_pos h2] at e
      exact absurd e (hc k a0 (by omega))
    · rw [if_neg h2] at e
      exact h k k2 a0 (by omega) b0 (by omega) e
theorem why_5 {σ : Int → Int} {n sd x y bu : Int} (h : liesS σ n x y = false) : whyS σ n sd x y bu = 5 := by unfold whyS; rw [if_pos h]
theorem why_6 {σ : Int → Int} {n sd x y bu : Int} (h : liesS σ n x y = true) (h2 : meetS σ n sd x y bu = true) : whyS σ n sd x y bu = 6 := by unfold whyS; rw [if_neg (by rw [h]; decide), if_pos h2]
theorem why_00 {σ : Int → Int} {n sd x y bu : Int} (h : liesS σ n x y = true) (h2 : meetS σ n sd x y bu = false) : whyS σ n sd x y bu = 0 := by unfold whyS; rw [if_neg (by rw [h]; decide), if_neg (by rw [h2]; decide)]
theorem ad_cg {σ : Int → Int} {n sd x y co : Int} {f g : Int → Int} (h : ∀ j, 0 ≤ j → j < n → f j = g j) : adS σ n sd x y co f = adS σ n sd x y co g := by
  unfold adS
  congr 1
  funext p
  unfold adW
  by_cases h1 : 13 + 13 * σ 5 + 5 ≤ p ∧ p < 13 + 13 * σ 5 + 5 + 8
  · rw [if_pos h1, if_pos h1]
    by_cases h2 : p - (13 + 13 * σ 5 + 5) < n
    · rw [if_pos h2, if_pos h2, h _ (by omega) h2]
    · rw [if_neg h2, if_neg h2]
  · rw [if_neg h1, if_neg h1]
