/-! ===== the design painted, bit by bit ===== -/
def gbit (σ : Int → Int) (k j : Int) (t : Nat) : Bool := decide (gl (cp σ k (5 + j)) / 2 ^ t % 2 = 1)
def pbN (gr : Int → Int → Int) (σ : Int → Int) (k j : Int) : Nat → Int → Int → Int
  | 0 => gr
  | t + 1 => if gbit σ k j t then gup (pbN gr σ k j t) (capCol σ k (cp σ k 2 + 4 * j + (14 - (t : Int)) % 3)) (cp σ k 3 + (t : Int) / 3) (cp σ k 4) else pbN gr σ k j t
def plN (gr : Int → Int → Int) (σ : Int → Int) (k : Int) : Nat → Int → Int → Int
  | 0 => gr
  | j + 1 => pbN (plN gr σ k j) σ k j 15
def pcN (σ : Int → Int) : Nat → Int → Int → Int
  | 0 => fun _ _ => 0
  | k + 1 => plN (pcN σ k) σ k (cp σ k 0).toNat
/-- the bit of the letter under a cell -/
def bitC (σ : Int → Int) (k c r : Int) : Nat := (2 + 3 * (r - cp σ k 3) - ovS σ c k % 4).toNat
theorem pb_pos {σ : Int → Int} {k j c r : Int} {t : Nat} (hs : cp σ k 1 = 0 ∨ cp σ k 1 = 1) (ht : t < 15) : (c = capCol σ k (cp σ k 2 + 4 * j + (14 - (t : Int)) % 3) ∧ r = cp σ k 3 + (t : Int) / 3) ↔ ((4 * j ≤ ovS σ c k ∧ ovS σ c k ≤ 4 * j + 2) ∧ (0 ≤ r - cp σ k 3 ∧ r - cp σ k 3 ≤ 4) ∧ bitC σ k c r = t) := by
  unfold capCol bitC ovS turnS
  rcases hs with g | g
  · rw [if_pos g, if_pos g]; omega
  · rw [if_neg (by omega), if_neg (by omega)]; omega
theorem pb_val {gr : Int → Int → Int} {σ : Int → Int} {k j c r : Int} (hs : cp σ k 1 = 0 ∨ cp σ k 1 = 1) : ∀ t : Nat, t ≤ 15 → pbN gr σ k j t c r = if (4 * j ≤ ovS σ c k ∧ ovS σ c k ≤ 4 * j + 2) ∧ (0 ≤ r - cp σ k 3 ∧ r - cp σ k 3 ≤ 4) ∧ bitC σ k c r < t ∧ gbit σ k j (bitC σ k c r) = true then cp σ k 4 else gr c r
  | 0, _ => by rw [if_neg (fun z => absurd z.2.2.1 (Nat.not_lt_zero _))]; rfl
  | t + 1, h => by
    have ih := pb_val (gr := gr) (j := j) (c := c) (r := r) hs t (by omega)
    have hp := pb_pos (j := j) (c := c) (r := r) hs (t := t) (by omega)
    unfold pbN
    by_cases gb : gbit σ k j t = true
    · rw [if_pos gb]
      unfold gup
      by_cases g : c = capCol σ k (cp σ k 2 + 4 * j + (14 - (t : Int)) % 3) ∧ r = cp σ k 3 + (t : Int) / 3
      · rw [if_pos g]
        obtain ⟨g1, g2, g3⟩ := hp.mp g
        rw [if_pos ⟨g1, g2, by omega, by rw [g3]; exact gb⟩]
      · rw [if_neg g, ih]
        by_cases g5 : (4 * j ≤ ovS σ c k ∧ ovS σ c k ≤ 4 * j + 2) ∧ (0 ≤ r - cp σ k 3 ∧ r - cp σ k 3 ≤ 4) ∧ bitC σ k c r < t ∧ gbit σ k j (bitC σ k c r) = true
        · rw [if_pos g5, if_pos ⟨g5.1, g5.2.1, by omega, g5.2.2.2⟩]
        · rw [if_neg g5, if_neg (fun z => by
            by_cases e : bitC σ k c r = t
            · exact g (hp.mpr ⟨z.1, z.2.1, e⟩)
            · exact g5 ⟨z.1, z.2.1, by omega, z.2.2.2⟩)]
    · rw [if_neg gb, ih]
      by_cases g5 : (4 * j ≤ ovS σ c k ∧ ovS σ c k ≤ 4 * j + 2) ∧ (0 ≤ r - cp σ k 3 ∧ r - cp σ k 3 ≤ 4) ∧ bitC σ k c r < t ∧ gbit σ k j (bitC σ k c r) = true
      · rw [if_pos g5, if_pos ⟨g5.1, g5.2.1, by omega, g5.2.2.2⟩]
      · rw [if_neg g5, if_neg (fun z => by
          by_cases e : bitC σ k c r = t
          · rw [e] at z; exact gb z.2.2.2
          · exact g5 ⟨z.1, z.2.1, by omega, z.2.2.2⟩)]
theorem pl_val {gr : Int → Int → Int} {σ : Int → Int} {k c r : Int} (hs : cp σ k 1 = 0 ∨ cp σ k 1 = 1) : ∀ n : Nat, plN gr σ k n c r = if (0 ≤ ovS σ c k ∧ ovS σ c k ≤ 4 * (n : Int) - 2 ∧ ovS σ c k % 4 ≠ 3) ∧ (0 ≤ r - cp σ k 3 ∧ r - cp σ k 3 ≤ 4) ∧ gbit σ k (ovS σ c k / 4) (bitC σ k c r) = true then cp σ k 4 else gr c r
  | 0 => by rw [if_neg (fun z => by omega)]; rfl
  | n + 1 => by
    have ih := pl_val (gr := gr) (c := c) (r := r) hs n
    unfold plN
    rw [pb_val hs 15 (by omega), ih]
    by_cases g : 4 * (n : Int) ≤ ovS σ c k ∧ ovS σ c k ≤ 4 * (n : Int) + 2
    · have e : ovS σ c k / 4 = (n : Int) := by omega
      rw [e]
      by_cases g2 : 0 ≤ r - cp σ k 3 ∧ r - cp σ k 3 ≤ 4
      · by_cases g3 : gbit σ k n (bitC σ k c r) = true
        · rw [if_pos ⟨g, g2, by unfold bitC; omega, g3⟩, if_pos ⟨by omega, g2, g3⟩]
        · rw [if_neg (fun z => g3 z.2.2.2), if_neg (fun z => g3 z.2.2), if_neg (fun z => g3 z.2.2)]
      · rw [if_neg (fun z => g2 z.2.1), if_neg (fun z => g2 z.2.1), if_neg (fun z => g2 z.2.1)]
    · rw [if_neg (fun z => g z.1)]
      by_cases g3 : (0 ≤ ovS σ c k ∧ ovS σ c k ≤ 4 * (n : Int) - 2 ∧ ovS σ c k % 4 ≠ 3) ∧ (0 ≤ r - cp σ k 3 ∧ r - cp σ k 3 ≤ 4) ∧ gbit σ k (ovS σ c k / 4) (bitC σ k c r) = true
      · rw [if_pos g3, if_pos ⟨by omega, g3.2⟩]
      · rw [if_neg g3, if_neg (fun z => g3 ⟨by omega, z.2⟩)]
theorem hit_iff {σ : Int → Int} {c r k : Int} : hitS σ c r k = true ↔ (0 ≤ ovS σ c k ∧ ovS σ c k ≤ 4 * cp σ k 0 - 2 ∧ ovS σ c k % 4 ≠ 3) ∧ (0 ≤ r - cp σ k 3 ∧ r - cp σ k 3 ≤ 4) ∧ gbit σ k (ovS σ c k / 4) (bitC σ k c r) = true := by
  unfold hitS inkS
  simp only [Bool.and_eq_true, decide_eq_true_eq]
  by_cases g : ovS σ c k % 4 = 3
  · rw [if_pos g]
    constructor
    · intro z; cases z.2
    · intro z; exact absurd g z.1.2.2
  · rw [if_neg g]
    by_cases g2 : 0 ≤ r - cp σ k 3 ∧ r - cp σ k 3 ≤ 4
    · have e : hasBitS (gl (cp σ k (5 + ovS σ c k / 4))) (4 - (r - cp σ k 3)) (ovS σ c k % 4) = gbit σ k (ovS σ c k / 4) (bitC σ k c r) := by
        unfold hasBitS gbit bitC
        rw [show 14 - 3 * (4 - (r - cp σ k 3)) - ovS σ c k % 4 = 2 + 3 * (r - cp σ k 3) - ovS σ c k % 4 by omega]
      rw [e]
      constructor
      · intro z; exact ⟨⟨z.1.1.1, z.1.1.2, g⟩, g2, z.2⟩
      · intro z; exact ⟨⟨⟨z.1.1, z.1.2.1⟩, g2⟩, z.2.2⟩
    · constructor
      · intro z; exact absurd z.1.2 g2
      · intro z; exact absurd z.2.1 g2
theorem hit_mt {σ : Int → Int} {c r i k : Int} (hi : cp σ i 1 = 0 ∨ cp σ i 1 = 1) (hk : cp σ k 1 = 0 ∨ cp σ k 1 = 1) (h1 : hitS σ c r i = true) (h2 : hitS σ c r k = true) : mtS σ (cp σ i 0) (cp σ i 1) (cp σ i 2) (cp σ i 3) k = true := by
  obtain ⟨a1, a2, -⟩ := hit_iff.mp h1
  obtain ⟨b1, b2, -⟩ := hit_iff.mp h2
  unfold mtS lowC
  unfold ovS turnS at a1 b1
  simp only [Bool.and_eq_true, decide_eq_true_eq]
  rcases hi with g | g <;> rcases hk with g2 | g2 <;> simp only [g, g2, if_true, if_false, show ¬ ((1 : Int) = 0) by decide] at a1 b1 ⊢ <;> omega
theorem pc_val {σ : Int → Int} (h : WF σ) (c r : Int) : ∀ m : Nat, (m : Int) ≤ σ 5 → pcN σ m c r = if fi (hitS σ c r) 0 m < m then cp σ (fi (hitS σ c r) 0 m) 4 else 0
  | 0, _ => by
    have := fi_spec (hitS σ c r) (lo := 0) (hi := ((0 : Nat) : Int)) (by omega)
    rw [if_neg (by omega)]; rfl
  | m + 1, hm => by
    have ih := pc_val h c r m (by omega)
    have hok := h.2.2.1 m (by omega) (by omega)
    have f1 := fi_spec (hitS σ c r) (lo := 0) (hi := (m : Int)) (by omega)
    unfold pcN
    rw [pl_val hok.2.1, ih, show (((cp σ m 0).toNat : Nat) : Int) = cp σ m 0 by have := hok.1; omega]
    by_cases g : hitS σ c r m = true
    · rw [if_pos (hit_iff.mp g)]
      have hno : ∀ j, 0 ≤ j → j < (m : Int) → hitS σ c r j = false := by
        intro j j0 j1
        rcases hb : hitS σ c r j with _ | _
        · rfl
        · have e := hit_mt (h.2.2.1 j j0 (by omega)).2.1 hok.2.1 hb g
          rw [h.2.2.2.2.2 j m j0 (by omega) (by omega) (by omega) (by omega)] at e
          cases e
      rw [fi_hit (i := (m : Int)) (by omega) (by omega) hno g, if_pos (by omega)]
    · rw [if_neg (fun z => g (hit_iff.mpr z))]
      by_cases g2 : fi (hitS σ c r) 0 m < m
      · rw [if_pos g2]
        have e : fi (hitS σ c r) 0 ((m + 1 : Nat) : Int) = fi (hitS σ c r) 0 m := fi_hit f1.1 (by omega) f1.2.2.1 (f1.2.2.2 g2)
        rw [e, if_pos (by omega)]
      · rw [if_neg g2]
        have e : fi (hitS σ c r) 0 ((m + 1 : Nat) : Int) = ((m + 1 : Nat) : Int) := fi_none (by omega) (fun j j0 j1 => by
          by_cases g3 : j = (m : Int)
          · rw [g3]; exact Bool.eq_false_iff.mpr g
          · exact f1.2.2.1 j j0 (by omega))
        rw [e, if_neg (by omega)]
theorem pc_des {σ : Int → Int} (h : WF σ) (c r : Int) : pcN σ (σ 5).toNat c r = desS σ c r := by
  have h5 := h.1.2.2.2.2.2
  rw [pc_val h c r _ (by omega), show (((σ 5).toNat : Nat) : Int) = σ 5 by omega]
  rfl
