/-! ===== what is read of a text that is made: token by token ===== -/
theorem go_f (f v : Int → Int) : goV f v 14 = enT f (v 11) (skT f (v 11) (v 14)) ∧ goV f v 15 = skT f (v 11) (v 14) ∧ goV f v 16 = rfK (kdT f (v 11) (skT f (v 11) (v 14))) ∧ goV f v 17 = vaT 1000000 f (v 11) (skT f (v 11) (v 14)) := by
  unfold goV T4
  refine ⟨?_, ?_, ?_, ?_⟩
  · rw [up_n (by decide), up_n (by decide), up_n (by decide), up_s]
  · rw [up_n (by decide), up_n (by decide), up_s]
  · rw [up_s]
  · rw [up_n (by decide), up_s]
theorem sk_at {f : Int → Int} {N p s : Int} (h1 : p ≤ s) (h2 : s ≤ N) (hb : ∀ i, p ≤ i → i < s → f i = 32) (hn : s < N → blB (f s) = false) : skT f N p = s := by
  have h9 : ∀ j, p ≤ j → j < s → (fun i => !blB (f i)) j = false := fun j j0 j1 => by
    show (!blB (f j)) = false
    rw [hb j j0 j1]
    rfl
  unfold skT
  by_cases e : s < N
  · exact fi_hit h1 e h9 (by show (!blB (f s)) = true; rw [hn e]; rfl)
  · rw [show N = s by omega]
    exact fi_none h1 h9
theorem go_w {f v : Int → Int} {s n : Int} (hs : skT f (v 11) (v 14) = s) (hn : 1 ≤ n) (hN : s + n ≤ v 11) (hl : ∀ j, 0 ≤ j → j < n → ltB (f (s + j)) = true) (he : s + n < v 11 → ltB (f (s + n)) = false) : goV f v 14 = s + n ∧ goV f v 15 = s ∧ goV f v 16 = 1 := by
  obtain ⟨h1, h2, h3, -⟩ := go_f f v
  have h0 := hl 0 (by decide) (by omega)
  rw [show s + 0 = s by omega] at h0
  have h9 : ∀ j, s ≤ j → j < s + n → (fun i => !ltB (f i)) j = false := fun j j0 j1 => by
    show (!ltB (f j)) = false
    have := hl (j - s) (by omega) (by omega)
    rw [show s + (j - s) = j by omega] at this
    rw [this]
    rfl
  have hw : wdE f (v 11) s = s + n := by
    unfold wdE
    by_cases e : s + n < v 11
    · exact fi_hit (by omega) e h9 (by show (!ltB (f (s + n))) = true; rw [he e]; rfl)
    · rw [show v 11 = s + n by omega]
      exact fi_none (by omega) h9
  rw [h1, h2, h3, hs]
  refine ⟨?_, rfl, ?_⟩
  · unfold enT
    rw [if_pos (by omega), if_pos h0, hw]
  · unfold kdT
    rw [if_pos (by omega), if_pos h0]
    rfl
theorem lt_dg {x : Int} (h : 48 ≤ x ∧ x ≤ 57) : ltB x = false ∧ dgB x = true ∧ blB x = false := by
  unfold ltB dgB blB
  exact ⟨decide_eq_false (by omega), decide_eq_true h, decide_eq_false (by omega)⟩
theorem go_d {f v : Int → Int} {s n : Int} (hs : skT f (v 11) (v 14) = s) (hn : 1 ≤ n) (hN : s + n ≤ v 11) (hl : ∀ j, 0 ≤ j → j < n → 48 ≤ f (s + j) ∧ f (s + j) ≤ 57) (he : s + n < v 11 → dgB (f (s + n)) = false) : goV f v 14 = s + n ∧ goV f v 15 = s ∧ goV f v 16 = 2 ∧ goV f v 17 = nvN 1000000 f s n.toNat := by
  obtain ⟨h1, h2, h3, h4⟩ := go_f f v
  have h0 := hl 0 (by decide) (by omega)
  rw [show s + 0 = s by omega] at h0
  have hd := lt_dg h0
  have h9 : ∀ j, s ≤ j → j < s + n → (fun i => !dgB (f i)) j = false := fun j j0 j1 => by
    show (!dgB (f j)) = false
    have := hl (j - s) (by omega) (by omega)
    rw [show s + (j - s) = j by omega] at this
    rw [(lt_dg this).2.1]
    rfl
  have hw : dgE f (v 11) s = s + n := by
    unfold dgE
    by_cases e : s + n < v 11
    · exact fi_hit (by omega) e h9 (by show (!dgB (f (s + n))) = true; rw [he e]; rfl)
    · rw [show v 11 = s + n by omega]
      exact fi_none (by omega) h9
  rw [h1, h2, h3, h4, hs]
  refine ⟨?_, rfl, ?_, ?_⟩
  · unfold enT
    rw [if_pos (by omega), if_neg (by rw [hd.1]; decide), if_pos hd.2.1, hw]
  · unfold kdT
    rw [if_pos (by omega), if_neg (by rw [hd.1]; decide), if_pos hd.2.1]
    rfl
  · unfold vaT
    rw [if_pos ⟨by omega, hd.1, hd.2.1⟩, hw, show s + n - s = n by omega]
theorem go_c {f v : Int → Int} {s : Int} (hs : skT f (v 11) (v 14) = s) (hN : s < v 11) (hf : f s = 59) : goV f v 14 = s + 1 ∧ goV f v 15 = s ∧ goV f v 16 = 3 := by
  obtain ⟨h1, h2, h3, -⟩ := go_f f v
  have e1 : ltB (f s) = false := by rw [hf]; rfl
  have e2 : dgB (f s) = false := by rw [hf]; rfl
  rw [h1, h2, h3, hs]
  refine ⟨?_, rfl, ?_⟩
  · unfold enT
    rw [if_pos hN, if_neg (by rw [e1]; decide), if_neg (by rw [e2]; decide)]
  · unfold kdT
    rw [if_pos hN, if_neg (by rw [e1]; decide), if_neg (by rw [e2]; decide), if_pos (Or.inl hf), hf]
    rfl
theorem go_z {f v : Int → Int} (hs : skT f (v 11) (v 14) = v 11) : goV f v 16 = 0 := by
  obtain ⟨-, -, h3, -⟩ := go_f f v
  rw [h3, hs]
  unfold kdT
  rw [if_neg (by omega)]
  rfl
/-- what is read of the digits of x is x -/
theorem nv_d {f : Int → Int} {s x : Int} (h : 0 ≤ x ∧ x < 1000) (hf : ∀ j, 0 ≤ j → j < dlN x → f (s + j) = dgC x j) : nvN 1000000 f s (dlN x).toNat = x := by
  unfold dlN at hf ⊢
  by_cases h1 : x < 10
  · rw [if_pos h1] at hf ⊢
    have a0 := hf 0 (by decide) (by decide)
    show min 1000000 (10 * 0 + f (s + ((0 : Nat) : Int)) - 48) = x
    rw [show s + ((0 : Nat) : Int) = s + 0 from rfl, a0]
    unfold dgC
    rw [if_pos h1]
    omega
  · rw [if_neg h1] at hf ⊢
    by_cases h2 : x < 100
    · rw [if_pos h2] at hf ⊢
      have a0 := hf 0 (by decide) (by decide)
      have a1 := hf 1 (by decide) (by decide)
      show min 1000000 (10 * min 1000000 (10 * 0 + f (s + ((0 : Nat) : Int)) - 48) + f (s + ((1 : Nat) : Int)) - 48) = x
      rw [show s + ((0 : Nat) : Int) = s + 0 from rfl, show s + ((1 : Nat) : Int) = s + 1 from rfl, a0, a1]
      simp only [dgC, if_neg h1, if_pos h2, if_pos rfl, show ¬ (1 : Int) = 0 by decide, if_false, if_true]
      omega
    · rw [if_neg h2] at hf ⊢
      have a0 := hf 0 (by decide) (by decide)
      have a1 := hf 1 (by decide) (by decide)
      have a2 := hf 2 (by decide) (by decide)
      show min 1000000 (10 * min 1000000 (10 * min 1000000 (10 * 0 + f (s + ((0 : Nat) : Int)) - 48) + f (s + ((1 : Nat) : Int)) - 48) + f (s + ((2 : Nat) : Int)) - 48) = x
      rw [show s + ((0 : Nat) : Int) = s + 0 from rfl, show s + ((1 : Nat) : Int) = s + 1 from rfl, show s + ((2 : Nat) : Int) = s + 2 from rfl, a0, a1, a2]
      simp only [dgC, if_neg h1, if_neg h2, if_pos rfl, show ¬ (1 : Int) = 0 by decide, show ¬ (2 : Int) = 0 by decide, show ¬ (2 : Int) = 1 by decide, if_false, if_true]
      omega
theorem dgC_r {x j : Int} (h : 0 ≤ x ∧ x < 1000) : 48 ≤ dgC x j ∧ dgC x j ≤ 57 := by
  unfold dgC
  (repeat' split) <;> omega
theorem dlN_p (x : Int) : 1 ≤ dlN x ∧ dlN x ≤ 3 := by
  unfold dlN
  (repeat' split) <;> omega
theorem goN4 {f v : Int → Int} {s x : Int} (hs : skT f (v 11) (v 14) = s) (hx : 0 ≤ x ∧ x < 1000) (hN : s + dlN x ≤ v 11) (hf : ∀ j, 0 ≤ j → j < dlN x → f (s + j) = dgC x j) (he : s + dlN x < v 11 → dgB (f (s + dlN x)) = false) : goV f v 14 = s + dlN x ∧ goV f v 15 = s ∧ goV f v 16 = 2 ∧ goV f v 17 = x := by
  have hp := dlN_p x
  have h := go_d hs (n := dlN x) hp.1 hN (fun j j0 j1 => by rw [hf j j0 j1]; exact dgC_r hx) he
  exact ⟨h.1, h.2.1, h.2.2.1, h.2.2.2.trans (nv_d hx hf)⟩
theorem isW_t {f v : Int → Int} {k : Nat} (h18 : v 18 = 0) (h16 : v 16 = 1) (hl : v 14 - v 15 = wl k) (hf : ∀ j, 0 ≤ j → j < wl k → f (v 15 + j) = wc k j) : isWR f v k = true := by
  unfold isWR wdB9
  rw [decide_eq_true h18, decide_eq_true h16, decide_eq_true hl, al_iff.mpr (fun j j0 j1 => decide_eq_true (hf j j0 j1))]
  rfl
theorem isW_l {f v : Int → Int} {k : Nat} (hl : v 14 - v 15 ≠ wl k) : isWR f v k = false := by
  unfold isWR wdB9
  rw [decide_eq_false hl]
  simp
theorem isW_k {f v : Int → Int} {k : Nat} (h16 : v 16 ≠ 1) : isWR f v k = false := by
  unfold isWR
  rw [decide_eq_false h16]
  simp
theorem isS_t {f v : Int → Int} {mk : Int} (h18 : v 18 = 0) (h16 : v 16 = 3) (hf : f (v 15) = mk) : isSR f v mk = true := by
  unfold isSR
  rw [decide_eq_true h18, decide_eq_true h16, decide_eq_true hf]
  rfl
theorem isS_k {f v : Int → Int} {mk : Int} (h16 : v 16 ≠ 3) : isSR f v mk = false := by
  unfold isSR
  rw [decide_eq_false h16]
  simp
theorem se_t {v : Int → Int} {lo hi : Int} (h18 : v 18 = 0) (h16 : v 16 = 2) (h : lo ≤ v 17 ∧ v 17 ≤ hi) : seV lo hi v = v ∧ seR lo hi v = v 17 := by
  have e1 : se1 v = v := by unfold se1; rw [if_pos h18, if_pos h16]
  have e2 : seV lo hi v = v := by unfold seV; rw [e1]; unfold se2; rw [if_pos h18, if_pos h]
  refine ⟨e2, ?_⟩
  unfold seR
  rw [e2, if_pos h18]
theorem tkt4 {f v : Int → Int} {lo hi : Int} (h18 : v 18 = 0) (h16 : v 16 = 2) (h : lo ≤ v 17 ∧ v 17 ≤ hi) : tkV f lo hi v = goV f v := by
  unfold tkV
  rw [(se_t h18 h16 h).1]
  unfold gfV
  rw [if_pos h18]
theorem mut4 {f v : Int → Int} (h18 : v 18 = 0) : muV f true v = goV f v := by
  unfold muV
  rw [if_pos rfl]
  unfold gfV
  rw [if_pos h18]
