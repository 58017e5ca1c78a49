/-! ===== the reference's tokens ===== -/
def vP (f v : Int → Int) : Prop := vTok f v ∧ (0 ≤ v 18 ∧ v 18 ≤ 7)
theorem vP.go {f v : Int → Int} (h : vP f v) : vP f (goV f v) := ⟨h.1.step, by rw [go_n (by decide)]; exact h.2⟩
theorem fa_18 {c : Int} {v : Int → Int} (h : 0 ≤ c ∧ c ≤ 7) (h2 : 0 ≤ v 18 ∧ v 18 ≤ 7) : 0 ≤ faV c v 18 ∧ faV c v 18 ≤ 7 := by
  unfold faV
  split
  · show 0 ≤ c ∧ c ≤ 7
    exact h
  · exact h2
theorem vP.fa {f v : Int → Int} {c : Int} (h : vP f v) (hc : 0 ≤ c ∧ c ≤ 7) : vP f (faV c v) := ⟨h.1.fa, fa_18 hc h.2⟩
theorem vP.gf {f v : Int → Int} (h : vP f v) : vP f (gfV f v) := ⟨h.1.gf, by rw [gf_n (by decide)]; exact h.2⟩
theorem vP.mu {f v : Int → Int} {b : Bool} (h : vP f v) : vP f (muV f b v) := by
  unfold muV
  refine vP.gf ?_
  split
  · exact h
  · exact h.fa (by decide)
theorem vP.s1 {f v : Int → Int} (h : vP f v) : vP f (se1 v) := by
  unfold se1
  (repeat' split)
  · exact h
  · exact h.fa (by decide)
  · exact h
theorem vP.s2 {f v : Int → Int} {lo hi : Int} (h : vP f v) : vP f (se2 lo hi v) := by
  unfold se2
  (repeat' split)
  · exact h
  · exact h.fa (by decide)
  · exact h
theorem vP.se {f v : Int → Int} {lo hi : Int} (h : vP f v) : vP f (seV lo hi v) := h.s1.s2
theorem vP.tk {f v : Int → Int} {lo hi : Int} (h : vP f v) : vP f (tkV f lo hi v) := h.se.gf
theorem fa_ne {c : Int} {v : Int → Int} (h : c ≠ 0) : faV c v 18 ≠ 0 := by
  unfold faV
  split
  · exact h
  · assumption
theorem seR_r {lo hi : Int} {v : Int → Int} (h : lo ≤ hi) : lo ≤ seR lo hi v ∧ seR lo hi v ≤ hi := by
  unfold seR
  split
  · rename_i g
    unfold seV se2 at g ⊢
    split at g
    · rename_i g1
      rw [if_pos g1]
      split at g
      · rename_i g2
        rw [if_pos g2]
        exact g2
      · exact absurd g (fa_ne (by decide))
    · exact absurd g (by assumption)
  · omega
theorem go_sk {f : Int → Int} {N p i : Int} (h : p ≤ i ∧ i ≤ N ∧ 0 ≤ p) (hN : N ≤ 400) (hno : ∀ z, p ≤ z → z < i → blB (f z) = true) (h1 : byS f N i ≠ 32) (h2 : byS f N i ≠ 10) : skT f N p = i := by
  unfold skT
  by_cases hi : i < N
  · rw [byS_i (by omega) hN] at h1 h2
    exact fi_hit (by omega) (by omega) (fun z z0 z1 => by rw [hno z z0 z1]; rfl) (by rw [show blB (f i) = false from decide_eq_false (by omega)]; rfl)
  · rw [fi_none (by omega) (fun z z0 z1 => by rw [hno z z0 (by omega)]; rfl)]
    omega
theorem go_wd {f : Int → Int} {N p i : Int} (h : p ≤ i ∧ i ≤ N ∧ 0 ≤ p) (hN : N ≤ 400) (hno : ∀ z, p ≤ z → z < i → ltB (f z) = true) (h1 : ¬(97 ≤ byS f N i ∧ byS f N i ≤ 122)) (_ : 0 ≤ p) : wdE f N p = i := by
  unfold wdE
  by_cases hi : i < N
  · rw [byS_i (by omega) hN] at h1
    exact fi_hit (by omega) (by omega) (fun z z0 z1 => by rw [hno z z0 z1]; rfl) (by rw [show ltB (f i) = false from decide_eq_false h1]; rfl)
  · rw [fi_none (by omega) (fun z z0 z1 => by rw [hno z z0 (by omega)]; rfl)]
    omega
theorem go_dg {f : Int → Int} {N p i : Int} (h : p ≤ i ∧ i ≤ N ∧ 0 ≤ p) (hN : N ≤ 400) (hno : ∀ z, p ≤ z → z < i → dgB (f z) = true) (h1 : ¬(48 ≤ byS f N i ∧ byS f N i ≤ 57)) (_ : 0 ≤ p) : dgE f N p = i := by
  unfold dgE
  by_cases hi : i < N
  · rw [byS_i (by omega) hN] at h1
    exact fi_hit (by omega) (by omega) (fun z z0 z1 => by rw [hno z z0 z1]; rfl) (by rw [show dgB (f i) = false from decide_eq_false h1]; rfl)
  · rw [fi_none (by omega) (fun z z0 z1 => by rw [hno z z0 (by omega)]; rfl)]
    omega
theorem rwd_s {f v : Int → Int} {k : Nat} {i : Int} {c : Bool} (hi : 0 ≤ i) (h : (c && al (fun j => decide (f (v 15 + j) = wc k j)) 0 i) = true) : (c && al (fun j => decide (f (v 15 + j) = wc k j)) 0 (i + 1)) = decide (f (v 15 + i) = wc k i) := by
  obtain ⟨h1, h2⟩ := (Bool.and_eq_true _ _).mp h
  rw [h1, Bool.true_and, Bool.eq_iff_iff, al_iff]
  constructor
  · intro g
    exact g i hi (by omega)
  · intro g z z0 z1
    by_cases hz : z = i
    · rw [hz]; exact g
    · exact al_iff.mp h2 z z0 (by omega)
theorem wd_e {f v : Int → Int} {k : Nat} {i : Int} (h : i = wl k) : (((decide (v 18 = 0) && decide (v 16 = 1)) && decide (v 14 - v 15 = wl k)) && al (fun j => decide (f (v 15 + j) = wc k j)) 0 i) = isWR f v k := by
  unfold isWR wdB9
  rw [h, Bool.and_assoc (decide (v 18 = 0) && decide (v 16 = 1))]
theorem wd_f {f v : Int → Int} {k : Nat} {i : Int} (h : i ≤ wl k) (h2 : (((decide (v 18 = 0) && decide (v 16 = 1)) && decide (v 14 - v 15 = wl k)) && al (fun j => decide (f (v 15 + j) = wc k j)) 0 i) = false) : (((decide (v 18 = 0) && decide (v 16 = 1)) && decide (v 14 - v 15 = wl k)) && al (fun j => decide (f (v 15 + j) = wc k j)) 0 i) = isWR f v k := by
  rw [h2, ← wd_e rfl]
  rw [Bool.and_eq_false_iff] at h2
  symm
  rw [Bool.and_eq_false_iff]
  rcases h2 with h2 | h2
  · exact .inl h2
  · refine .inr ?_
    rw [← Bool.not_eq_true, al_iff]
    intro g
    rw [← Bool.not_eq_true] at h2
    exact h2 (al_iff.mpr (fun z z0 z1 => g z z0 (by omega)))
