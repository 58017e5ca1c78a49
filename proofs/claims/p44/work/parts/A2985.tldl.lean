/-! ===== a caption is told: its letters' squares, alike or not ===== -/
theorem ik_in {σ : Int → Int} {k ov d : Int} {f : Int → Int} (hc : capOK σ k) (hf : ∀ j, 0 ≤ j → j < cp σ k 0 → f j = cp σ k (5 + j) + 97) (ho : 0 ≤ ov ∧ ov < 4 * cp σ k 0 - 1) (hd : 0 ≤ d ∧ d < 5) : ikB (cp σ k 0).toNat f ov d = inkS σ k ov (4 - d) := by
  have h0 := hc.1
  have hn : (((cp σ k 0).toNat : Nat) : Int) = cp σ k 0 := by omega
  unfold ikB inkS
  rw [decide_eq_true (p := 0 ≤ ov ∧ ov < 4 * (((cp σ k 0).toNat : Nat) : Int) - 1) (by omega), decide_eq_true (p := 0 ≤ d ∧ d ≤ 4) (by omega), hf (ov / 4) (by omega) (by omega), show cp σ k (5 + ov / 4) + 97 - 97 = cp σ k (5 + ov / 4) by omega, show 4 - (4 - d) = d by omega]
  by_cases h3 : ov % 4 = 3
  · rw [if_pos h3, decide_eq_false (fun z => z h3)]
    rfl
  · rw [if_neg h3, decide_eq_true h3]
    rfl
theorem alk_e {σ : Int → Int} {k : Int} {f : Int → Int} (hc : capOK σ k) (hf : ∀ j, 0 ≤ j → j < cp σ k 0 → f j = cp σ k (5 + j) + 97) :
    al (fun z => al (fun d9 => ikB (cp σ k 0).toNat f z d9 == ikB (cp σ k 0).toNat f (4 * cp σ k 0 - 2 - z) d9) 0 5) 0 (4 * cp σ k 0 - 1) = alkQ σ k :=
  al_c (fun z z0 z1 => al_rev (fun d d0 d1 => by rw [ik_in hc hf ⟨z0, z1⟩ ⟨d0, d1⟩, ik_in hc hf (by omega) ⟨d0, d1⟩]))
theorem capC_r {σ : Int → Int} {k ov : Int} (hc : capOK σ k) (ho : 0 ≤ ov ∧ ov < 4 * cp σ k 0 - 1) : 0 ≤ capCol σ k (cp σ k 2 + ov) ∧ capCol σ k (cp σ k 2 + ov) < σ 0 := by
  have h0 := hc.1
  have h2 := hc.2.2.1
  unfold capCol turnS
  split <;> omega
theorem told_10 {fe σ : Int → Int} {k : Int} (h : ∀ z : Int, 0 ≤ z → z < 9 → fe z = capQ σ k z) (h9 : fe 9 = capQ σ k 9) : ∀ z : Int, 0 ≤ z → z < 10 → fe z = capQ σ k z := fun z z0 z1 => by
  by_cases e : z = 9
  · rw [e]; exact h9
  · exact h z z0 (by omega)
theorem told_9 {fe σ : Int → Int} {k : Int} (h : ∀ z : Int, 0 ≤ z → z < 6 → fe z = capQ σ k z) (h6 : fe 6 = capQ σ k 6) (h7 : fe 7 = capQ σ k 7) (h8 : fe 8 = capQ σ k 8) : ∀ z : Int, 0 ≤ z → z < 9 → fe z = capQ σ k z := fun z z0 z1 => by
  by_cases e6 : z = 6
  · rw [e6]; exact h6
  by_cases e7 : z = 7
  · rw [e7]; exact h7
  by_cases e8 : z = 8
  · rw [e8]; exact h8
  exact h z z0 (by omega)
theorem up10_i {g : Int → Int} {x0 x1 x2 x3 x4 x5 : Int} {f : Int → Int} (h0 : x0 = g 0) (h1 : x1 = g 1) (h2 : x2 = g 2) (h3 : x3 = g 3) (h4 : x4 = g 4) (h5 : x5 = g 5) : ∀ z : Int, 0 ≤ z → z < 6 → (up (up (up (up (up (up (up (up (up (up f 0 x0) 1 x1) 2 x2) 3 x3) 4 x4) 5 x5) 6 0) 7 0) 8 0) 9 0) z = g z := fun z z0 z1 => by
  rw [up_n (by omega), up_n (by omega), up_n (by omega), up_n (by omega)]
  rcases (show z = 0 ∨ z = 1 ∨ z = 2 ∨ z = 3 ∨ z = 4 ∨ z = 5 by omega) with rfl | rfl | rfl | rfl | rfl | rfl
  · rw [up_n (by decide), up_n (by decide), up_n (by decide), up_n (by decide), up_n (by decide), up_s]; exact h0
  · rw [up_n (by decide), up_n (by decide), up_n (by decide), up_n (by decide), up_s]; exact h1
  · rw [up_n (by decide), up_n (by decide), up_n (by decide), up_s]; exact h2
  · rw [up_n (by decide), up_n (by decide), up_s]; exact h3
  · rw [up_n (by decide), up_s]; exact h4
  · rw [up_s]; exact h5
theorem beq_ne {a b : Bool} (h : ¬ a = b) : (a == b) = false := by cases a <;> cases b <;> first | rfl | exact absurd rfl h
theorem beq_bz {a b : Bool} (h : bz a = bz b) : (a == b) = true := by cases a <;> cases b <;> first | rfl | (exact absurd h (by decide))
theorem ups_4 {f g : Int → Int} {x0 x1 x2 x3 : Int} (h09 : x0 = g 0) (h19 : x1 = g 1) (h29 : x2 = g 2) (h39 : x3 = g 3) : ∀ z : Int, 0 ≤ z → z < 4 → (up (up (up (up f 0 x0) 1 x1) 2 x2) 3 x3) z = g z := fun z h1 h2 => by
  rcases (show z = 0 ∨ z = 1 ∨ z = 2 ∨ z = 3 by omega) with rfl | rfl | rfl | rfl
  · rw [up_n (by decide), up_n (by decide), up_n (by decide), up_s]; exact h09
  · rw [up_n (by decide), up_n (by decide), up_s]; exact h19
  · rw [up_n (by decide), up_s]; exact h29
  · rw [up_s]; exact h39
theorem ups_5 {f g : Int → Int} {x0 x1 x2 x3 x4 : Int} (h09 : x0 = g 0) (h19 : x1 = g 1) (h29 : x2 = g 2) (h39 : x3 = g 3) (h49 : x4 = g 4) : ∀ z : Int, 0 ≤ z → z < 5 → (up (up (up (up (up f 0 x0) 1 x1) 2 x2) 3 x3) 4 x4) z = g z := fun z h1 h2 => by
  rcases (show z = 0 ∨ z = 1 ∨ z = 2 ∨ z = 3 ∨ z = 4 by omega) with rfl | rfl | rfl | rfl | rfl
  · rw [up_n (by decide), up_n (by decide), up_n (by decide), up_n (by decide), up_s]; exact h09
  · rw [up_n (by decide), up_n (by decide), up_n (by decide), up_s]; exact h19
  · rw [up_n (by decide), up_n (by decide), up_s]; exact h29
  · rw [up_n (by decide), up_s]; exact h39
  · rw [up_s]; exact h49
theorem ups_6 {f g : Int → Int} {x0 x1 x2 x3 x4 x5 : Int} (h09 : x0 = g 0) (h19 : x1 = g 1) (h29 : x2 = g 2) (h39 : x3 = g 3) (h49 : x4 = g 4) (h59 : x5 = g 5) : ∀ z : Int, 0 ≤ z → z < 6 → (up (up (up (up (up (up f 0 x0) 1 x1) 2 x2) 3 x3) 4 x4) 5 x5) z = g z := fun z h1 h2 => by
  rcases (show z = 0 ∨ z = 1 ∨ z = 2 ∨ z = 3 ∨ z = 4 ∨ z = 5 by omega) with rfl | rfl | rfl | rfl | rfl | rfl
  · rw [up_n (by decide), up_n (by decide), up_n (by decide), up_n (by decide), up_n (by decide), up_s]; exact h09
  · rw [up_n (by decide), up_n (by decide), up_n (by decide), up_n (by decide), up_s]; exact h19
  · rw [up_n (by decide), up_n (by decide), up_n (by decide), up_s]; exact h29
  · rw [up_n (by decide), up_n (by decide), up_s]; exact h39
  · rw [up_n (by decide), up_s]; exact h49
  · rw [up_s]; exact h59
theorem ups_8 {f g : Int → Int} {x0 x1 x2 x3 x4 x5 x6 x7 : Int} (h09 : x0 = g 0) (h19 : x1 = g 1) (h29 : x2 = g 2) (h39 : x3 = g 3) (h49 : x4 = g 4) (h59 : x5 = g 5) (h69 : x6 = g 6) (h79 : x7 = g 7) : ∀ z : Int, 0 ≤ z → z < 8 → (up (up (up (up (up (up (up (up f 0 x0) 1 x1) 2 x2) 3 x3) 4 x4) 5 x5) 6 x6) 7 x7) z = g z := fun z h1 h2 => by
  rcases (show z = 0 ∨ z = 1 ∨ z = 2 ∨ z = 3 ∨ z = 4 ∨ z = 5 ∨ z = 6 ∨ z = 7 by omega) with rfl | rfl | rfl | rfl | rfl | rfl | rfl | rfl
  · rw [up_n (by decide), up_n (by decide), up_n (by decide), up_n (by decide), up_n (by decide), up_n (by decide), up_n (by decide), up_s]; exact h09
  · rw [up_n (by decide), up_n (by decide), up_n (by decide), up_n (by decide), up_n (by decide), up_n (by decide), up_s]; exact h19
  · rw [up_n (by decide), up_n (by decide), up_n (by decide), up_n (by decide), up_n (by decide), up_s]; exact h29
  · rw [up_n (by decide), up_n (by decide), up_n (by decide), up_n (by decide), up_s]; exact h39
  · rw [up_n (by decide), up_n (by decide), up_n (by decide), up_s]; exact h49
  · rw [up_n (by decide), up_n (by decide), up_s]; exact h59
  · rw [up_n (by decide), up_s]; exact h69
  · rw [up_s]; exact h79
theorem lq_3t {σ : Int → Int} {k j : Int} (h : legS σ k = true) : picS σ k j false = letQ σ k j 3 := by rw [lq_3, h, if_neg (by decide)]
theorem lq_2t {σ : Int → Int} {k j : Int} (h : legS σ k = true) : ltrS (revS (letQ σ k j 3)) = letQ σ k j 2 := by
  rw [← lq_3t h, lq_2, h, if_neg (by decide)]
  unfold rdS
  rw [if_pos rfl]
theorem lq_1t {σ : Int → Int} {k j : Int} (h : legS σ k = true) : ltrS (letQ σ k j 3) = letQ σ k j 1 := by
  rw [← lq_3t h, lq_1, h, if_neg (by decide)]
  unfold rdS
  rw [if_neg (by decide)]
theorem lq_1f {σ : Int → Int} {k j : Int} (h : legS σ k = false) : (-1 : Int) = letQ σ k j 1 := by rw [lq_1, h, if_pos rfl]
theorem lq_2f {σ : Int → Int} {k j : Int} (h : legS σ k = false) : (-1 : Int) = letQ σ k j 2 := by rw [lq_2, h, if_pos rfl]
theorem lq_3f {σ : Int → Int} {k j : Int} (h : legS σ k = false) : (-1 : Int) = letQ σ k j 3 := by rw [lq_3, h, if_pos rfl]
