/-! ===== mistakes that are seen, once looked for ===== -/
theorem smN_le {f g : Int → Int} {lo : Int} : ∀ n : Nat, (∀ i, lo ≤ i → i < lo + n → f i ≤ g i) → smN f lo n ≤ smN g lo n
  | 0, _ => Int.le_refl 0
  | n + 1, h => by
    have h1 := smN_le n (fun i h1 h2 => h i h1 (by omega))
    have h2 := h (lo + n) (by omega) (by omega)
    show smN f lo n + f (lo + n) ≤ smN g lo n + g (lo + n)
    omega
theorem sm_le {f g : Int → Int} {lo hi : Int} (h : ∀ i, lo ≤ i → i < hi → f i ≤ g i) : sm f lo hi ≤ sm g lo hi := smN_le _ (fun i h1 h2 => h i h1 (by omega))
theorem misRow_up3 {σ : Int → Int} (h : WF σ) {x r : Int} (hr : 0 ≤ r) : misRow (up σ 3 x) r = misRow σ r := by
  have wf := h.1
  unfold WF0 at wf
  unfold misRow
  rw [up_n (by decide : (0 : Int) ≠ 3)]
  refine cnt_c (fun c c0 c1 => ?_)
  unfold misS
  rw [up_n (by decide : (4 : Int) ≠ 3), show cellS (up σ 3 x) c r = cellS σ c r from up_n (by omega), des_congr (σ := σ) (τ := up σ 3 x) (up_n (by decide)) (up_n (by decide)) h.cap8 (fun k k0 k1 j j0 j1 => up_n (by omega))]
theorem misSeen_le {σ : Int → Int} (h : WF σ) : misSeen σ ≤ misSeen (up σ 3 (σ 4)) := by
  unfold misSeen
  rw [up_n (by decide : (4 : Int) ≠ 3)]
  refine sm_le (fun r r0 r1 => ?_)
  have h1 := misRow_r h r
  have hs : seenS (up σ 3 (σ 4)) r = true := by
    unfold seenS
    rw [up_s, decide_eq_true r1]
    rfl
  show (if seenS σ r then misRow σ r else 0) ≤ (if seenS (up σ 3 (σ 4)) r then misRow (up σ 3 (σ 4)) r else 0)
  rw [hs, if_pos rfl, misRow_up3 h r0]
  split <;> omega
theorem drop_inj {cd : Int → Nat} {i n : Int} (h : ∀ k k2, 0 ≤ k → k < n → 0 ≤ k2 → k2 < n → cd k = cd k2 → k = k2) (h0 : 0 ≤ i) (hi : i < n) {k k2 : Int} (a0 : 0 ≤ k) (a1 : k < n - 1) (b0 : 0 ≤ k2) (b1 : k2 < n - 1) (e : (fun k => if k < i then cd k else cd (k + 1)) k = (fun k => if k < i then cd k else cd (k + 1)) k2) : k = k2 := by
  dsimp only at e
  by_cases h1 : k < i
  · rw [if_pos h1] at e
    by_cases h2 : k2 < i
    · rw [if_pos h2] at e
      exact h k k2 a0 (by omega) b0 (by omega) e
    · rw [if_neg h2] at e
      have := h k (k2 + 1) a0 (by omega) (by omega) (by omega) e
      omega
  · rw [if_neg h1] at e
    by_cases h2 : k2 < i
    · rw [if_pos h2] at e
      have := h (k + 1) k2 (by omega) (by omega) b0 (by omega) e
      omega
    · rw [if_neg h2] at e
      have := h (k + 1) (k2 + 1) (by omega) (by omega) (by omega) (by omega) e
      omega
