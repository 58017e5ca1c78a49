/-! ===== scripts of one act: what is read of them ===== -/
theorem nb_32 : blB 32 = true ∧ ltB 32 = false ∧ dgB 32 = false := ⟨rfl, rfl, rfl⟩
theorem nb_59 : blB 59 = false ∧ ltB 59 = false ∧ dgB 59 = false := ⟨rfl, rfl, rfl⟩
theorem lw9_w : ∀ j : Nat, j < 4 → lw 9 (j : Int) = wc 7 (j : Int) ∧ ltB (lw 9 (j : Int)) = true := by decide +kernel
theorem lw12_w : ∀ j : Nat, j < 5 → lw 12 (j : Int) = wc 9 (j : Int) ∧ ltB (lw 12 (j : Int)) = true := by decide +kernel
theorem lw13_w : ∀ j : Nat, j < 5 → lw 13 (1 + (j : Int)) = wc 10 (j : Int) ∧ ltB (lw 13 (1 + (j : Int))) = true := by decide +kernel
/-- the beginning: the first word of the text -/
theorem ld_w {f v : Int → Int} {n : Int} {k : Nat} (hn : 1 ≤ n ∧ n = wl k) (hN : n < v 11) (hl : ∀ j, 0 ≤ j → j < n → f j = wc k j ∧ ltB (f j) = true) (he : f n = 32) : ld0 f v 11 = v 11 ∧ ld0 f v 14 = n ∧ ld0 f v 15 = 0 ∧ ld0 f v 16 = 1 ∧ ld0 f v 18 = 0 := by
  unfold ld0
  have e11 : up (up (up v 14 0) 18 0) 19 (-1) 11 = v 11 := by rw [up_n (by decide), up_n (by decide), up_n (by decide)]
  have e14 : up (up (up v 14 0) 18 0) 19 (-1) 14 = 0 := by rw [up_n (by decide), up_n (by decide), up_s]
  have e18 : up (up (up v 14 0) 18 0) 19 (-1) 18 = 0 := by rw [up_n (by decide), up_s]
  have hb0 : blB (f 0) = false := by
    have := (hl 0 (by decide) (by omega)).2
    unfold ltB at this
    have := of_decide_eq_true this
    unfold blB
    exact decide_eq_false (by omega)
  have hsk : skT f (up (up (up v 14 0) 18 0) 19 (-1) 11) (up (up (up v 14 0) 18 0) 19 (-1) 14) = 0 := by
    rw [e11, e14]
    exact sk_at (Int.le_refl 0) (by omega) (fun i i0 i1 => absurd i1 (by omega)) (fun _ => hb0)
  have h := go_w hsk (n := n) hn.1 (by rw [e11]; omega) (fun j j0 j1 => by rw [Int.zero_add]; exact (hl j j0 j1).2) (fun _ => by rw [Int.zero_add, he]; rfl)
  refine ⟨?_, ?_, h.2.1, h.2.2, ?_⟩
  · rw [go_n (by decide), e11]
  · rw [h.1]; omega
  · rw [go_n (by decide), e18]
/-- a number behind a blank -/
theorem nx_n {f v : Int → Int} {p x : Int} (hp : v 14 = p) (h18 : v 18 = 0) (hx : 0 ≤ x ∧ x < 1000) (hb : f p = 32) (hN : p + 1 + dlN x < v 11) (hf : ∀ j, 0 ≤ j → j < dlN x → f (p + 1 + j) = dgC x j) (he : f (p + 1 + dlN x) = 32 ∨ f (p + 1 + dlN x) = 59) : goV f v 14 = p + 1 + dlN x ∧ goV f v 15 = p + 1 ∧ goV f v 16 = 2 ∧ goV f v 17 = x ∧ goV f v 18 = 0 ∧ goV f v 11 = v 11 := by
  have hd := dlN_p x
  have h0 := hf 0 (by decide) (by omega)
  have hr := dgC_r (j := 0) hx
  rw [Int.add_zero] at h0
  have hsk : skT f (v 11) (v 14) = p + 1 := by
    rw [hp]
    exact sk_at (by omega) (by omega) (fun i i0 i1 => by rw [show i = p by omega]; exact hb) (fun _ => (lt_dg (by rw [h0]; exact hr)).2.2)
  have h := goN4 hsk hx (by omega) hf (fun _ => by rcases he with e | e <;> rw [e] <;> rfl)
  exact ⟨h.1, h.2.1, h.2.2.1, h.2.2.2, by rw [go_n (by decide)]; exact h18, go_n (by decide)⟩
/-- the sign at the end of an act, and the end of the text behind it -/
theorem nx_c {f v : Int → Int} {p : Int} (hp : v 14 = p) (h18 : v 18 = 0) (hN : p < v 11) (hf : f p = 59) : goV f v 14 = p + 1 ∧ goV f v 15 = p ∧ goV f v 16 = 3 ∧ goV f v 18 = 0 ∧ goV f v 11 = v 11 := by
  have hsk : skT f (v 11) (v 14) = p := by
    rw [hp]
    exact sk_at (Int.le_refl p) (by omega) (fun i i0 i1 => absurd i1 (by omega)) (fun _ => by rw [hf]; rfl)
  have h := go_c hsk hN hf
  exact ⟨h.1, h.2.1, h.2.2, by rw [go_n (by decide)]; exact h18, go_n (by decide)⟩
theorem nx_z {f v : Int → Int} (hp : v 14 = v 11) : goV f v 16 = 0 := by
  refine go_z ?_
  rw [hp]
  exact sk_at (Int.le_refl _) (Int.le_refl _) (fun i i0 i1 => absurd i1 (by omega)) (fun h => absurd h (by omega))
theorem laS_v (sc : Int → Int) (a b x y : Int) : laS sc 0 a b x y 0 = a ∧ laS sc 0 a b x y 1 = b ∧ laS sc 0 a b x y 2 = x ∧ laS sc 0 a b x y 3 = y := by
  unfold laS
  refine ⟨?_, ?_, ?_, ?_⟩
  · rw [up_n (by decide), up_n (by decide), up_n (by decide)]; exact up_s _ _ _
  · rw [up_n (by decide), up_n (by decide)]; exact up_s _ _ _
  · rw [up_n (by decide)]; exact up_s _ _ _
  · exact up_s _ _ _
/-- one act alone, told by its stages -/
theorem sg_one {f v sc : Int → Int} {wd : Int} (h18 : ld0 f v 18 = 0) (h16 : ld0 f v 16 = 1) (hm2 : rm2 f (sc0 (ld0 f v)) 18 = 0) (hm8 : rm8 f (sc0 (ld0 f v)) wd 18 = 0) (h27 : rm8 f (sc0 (ld0 f v)) wd 27 = 0) (h29 : rm8 f (sc0 (ld0 f v)) wd 29 = 0) (hc5 : cmR f (sc0 (ld0 f v)) ≠ 5) (h83 : rm8 f (sc0 (ld0 f v)) wd 16 = 3) (h8c : f (rm8 f (sc0 (ld0 f v)) wd 15) = 59) (h8e : rm8 f (sc0 (ld0 f v)) wd 14 = rm8 f (sc0 (ld0 f v)) wd 11) :
    sgV f (ld0 f v) sc wd 18 = 0 ∧ sgV f (ld0 f v) sc wd 27 = 1 ∧ (sgF f (ld0 f v) sc wd).2 = laS sc 0 (cmR f (sc0 (ld0 f v))) (rmA f (sc0 (ld0 f v))) (rmB f (sc0 (ld0 f v)) wd) (rmC f (sc0 (ld0 f v)) wd) := by
  obtain ⟨u, hu⟩ : ∃ u, u = sc0 (ld0 f v) := ⟨_, rfl⟩
  have s18 : u 18 = 0 := by rw [hu]; exact h18
  have s16 : u 16 = 1 := by rw [hu]; exact h16
  have s29 : u 29 = 0 := by rw [hu]; unfold sc0; rw [up_s]
  rw [← hu] at hm2 hm8 h27 h29 hc5 h83 h8c h8e ⊢
  have hcl : clB f u = false := by unfold clB; rw [decide_eq_false (by omega)]; rfl
  have e9 : ∀ k, k ≠ 27 → rm9 f u wd k = rm8 f u wd k := fun k hk => up_n hk
  have hX : rmX f u wd = goV f (rm9 f u wd) := by
    unfold rmX
    rw [if_neg hc5, isS_t (by rw [e9 18 (by decide)]; exact hm8) (by rw [e9 16 (by decide)]; exact h83) (by rw [e9 15 (by decide)]; exact h8c)]
    exact mut4 (by rw [e9 18 (by decide)]; exact hm8)
  have hV : csV f u wd = goV f (rm9 f u wd) := by
    unfold csV
    rw [hcl, if_neg (by decide)]
    unfold rmV
    rw [if_pos hm2, if_pos hm8, hX]
  have hS : csS f u sc wd = laS sc 0 (cmR f u) (rmA f u) (rmB f u wd) (rmC f u wd) := by
    unfold csS
    rw [hcl, if_neg (by decide)]
    unfold rmS
    rw [if_pos ⟨hm2, hm8⟩, h27]
  have z16 : goV f (rm9 f u wd) 16 = 0 := nx_z (by rw [e9 14 (by decide), e9 11 (by decide)]; exact h8e)
  have hF : sgF f (ld0 f v) sc wd = (goV f (rm9 f u wd), laS sc 0 (cmR f u) (rmA f u) (rmB f u wd) (rmC f u wd)) := by
    unfold sgF
    rw [← hu]
    show (if u 18 = 0 ∧ u 16 ≠ 0 then sgG f wd 401 (csV f u wd) (csS f u sc wd) else (u, sc)) = _
    rw [if_pos ⟨s18, by omega⟩, hV, hS]
    exact sgG_e (fun z => z.2 z16) 401
  have hG : sgV f (ld0 f v) sc wd = goV f (rm9 f u wd) := by
    unfold sgV
    rw [hF]
    show (if 0 < goV f (rm9 f u wd) 29 then _ else goV f (rm9 f u wd)) = _
    rw [go_n (by decide), e9 29 (by decide), h29, if_neg (by decide)]
  rw [hG, hF]
  refine ⟨?_, ?_, rfl⟩
  · rw [go_n (by decide), e9 18 (by decide)]; exact hm8
  · rw [go_n (by decide)]
    show up (rm8 f u wd) 27 (rm8 f u wd 27 + 1) 27 = 1
    rw [up_s, h27]
    rfl
/-- the text of a pass -/
theorem sg_pas {f v sc : Int → Int} {wd c a b : Int} (hc : 0 ≤ c ∧ c ≤ 6) (hab : 0 ≤ a ∧ a ≤ b ∧ b < wd ∧ wd ≤ 40) (hN : v 11 = 5 + dlN c + 1 + dlN a + 1 + dlN b + 1)
    (f0 : ∀ j, 0 ≤ j → j < 5 → f j = lw 9 j) (f1 : ∀ j, 0 ≤ j → j < dlN c → f (5 + j) = dgC c j) (f2 : f (5 + dlN c) = 32) (f3 : ∀ j, 0 ≤ j → j < dlN a → f (5 + dlN c + 1 + j) = dgC a j) (f4 : f (5 + dlN c + 1 + dlN a) = 32) (f5 : ∀ j, 0 ≤ j → j < dlN b → f (5 + dlN c + 1 + dlN a + 1 + j) = dgC b j) (f6 : f (5 + dlN c + 1 + dlN a + 1 + dlN b) = 59) :
    sgV f (ld0 f v) sc wd 18 = 0 ∧ sgV f (ld0 f v) sc wd 27 = 1 ∧ (sgF f (ld0 f v) sc wd).2 = laS sc 0 0 c a b := by
  have d1 := dlN_p c
  have d2 := dlN_p a
  have d3 := dlN_p b
  have hl : ∀ j, 0 ≤ j → j < 4 → f j = wc 7 j ∧ ltB (f j) = true := fun j j0 j1 => by
    have h := lw9_w j.toNat (by omega)
    rw [show ((j.toNat : Nat) : Int) = j by omega] at h
    rw [f0 j j0 (by omega)]
    exact h
  obtain ⟨l11, l14, l15, l16, l18⟩ := ld_w (v := v) (n := 4) (k := 7) ⟨by decide, rfl⟩ (by omega) hl (f0 4 (by decide) (by decide))
  obtain ⟨u, hu⟩ : ∃ u, u = sc0 (ld0 f v) := ⟨_, rfl⟩
  have hsu : ∀ k, k < 27 → u k = ld0 f v k := fun k hk => by rw [hu]; unfold sc0; rw [up_n (by omega), up_n (by omega), up_n (by omega)]
  have u11 : u 11 = v 11 := (hsu 11 (by decide)).trans l11
  have u14 : u 14 = 4 := (hsu 14 (by decide)).trans l14
  have u15 : u 15 = 0 := (hsu 15 (by decide)).trans l15
  have u16 : u 16 = 1 := (hsu 16 (by decide)).trans l16
  have u18 : u 18 = 0 := (hsu 18 (by decide)).trans l18
  have u27 : u 27 = 0 := by rw [hu]; unfold sc0; rw [up_n (by decide), up_n (by decide), up_s]
  have u28 : u 28 = 0 := by rw [hu]; unfold sc0; rw [up_n (by decide), up_s]
  have u29 : u 29 = 0 := by rw [hu]; unfold sc0; rw [up_s]
  have hcm : cmR f u = 0 := by
    unfold cmR
    rw [isW_t u18 u16 (by rw [u14, u15]; rfl) (fun j j0 j1 => by rw [u15, Int.zero_add]; exact (hl j j0 j1).1), if_pos rfl]
  have m2 : rm2 f u = u := by
    unfold rm2 rm1
    rw [if_neg (by rw [hcm]; omega), if_neg (by rw [hcm]; decide)]
  obtain ⟨u1, hu1⟩ : ∃ u1, u1 = up u 28 1 := ⟨_, rfl⟩
  have m3 : rm3 f u = goV f u1 := by unfold rm3; rw [m2, u28, hu1]; rfl
  have q3 := nx_n (f := f) (v := u1) (p := 4) (x := c) (by rw [hu1, up_n (by decide)]; exact u14) (by rw [hu1, up_n (by decide)]; exact u18) (by omega) (f0 4 (by decide) (by decide)) (by rw [hu1, up_n (by decide), u11]; omega) f1 (Or.inl f2)
  obtain ⟨v3, hv3⟩ : ∃ v3, v3 = goV f u1 := ⟨_, rfl⟩
  rw [← hv3] at q3 m3
  obtain ⟨a14, a15, a16, a17, a18, a11⟩ := q3
  have b11 : v3 11 = v 11 := by rw [a11, hu1, up_n (by decide)]; exact u11
  have hA : rmA f u = c := by unfold rmA; rw [if_pos hcm, m3, (se_t a18 a16 (by omega)).2, a17]
  obtain ⟨v4, hv4⟩ : ∃ v4, v4 = goV f v3 := ⟨_, rfl⟩
  have m4 : rm4 f u = v4 := by unfold rm4; rw [if_pos hcm, m3, tkt4 a18 a16 (by omega), hv4]
  have q4 := nx_n (f := f) (v := v3) (p := 5 + dlN c) (x := a) (by rw [a14]; omega) a18 (by omega) f2 (by omega) f3 (Or.inl f4)
  rw [← hv4] at q4
  obtain ⟨c14, c15, c16, c17, c18, c11⟩ := q4
  have hB : rmB f u wd = a := by unfold rmB; rw [if_pos hcm, m4, (se_t c18 c16 (by omega)).2, c17]
  obtain ⟨v5, hv5⟩ : ∃ v5, v5 = goV f v4 := ⟨_, rfl⟩
  have m5 : rm5 f u wd = v5 := by unfold rm5; rw [if_pos hcm, m4, tkt4 c18 c16 (by omega), hv5]
  have m6 : rm6 f u wd = v5 := by unfold rm6; rw [if_neg (by rw [hcm]; omega), m5]
  have q5 := nx_n (f := f) (v := v4) (p := 5 + dlN c + 1 + dlN a) (x := b) c14 c18 (by omega) f4 (by omega) f5 (Or.inr f6)
  rw [← hv5] at q5
  obtain ⟨e14, e15, e16, e17, e18, e11⟩ := q5
  have hC : rmC f u wd = b := by unfold rmC; rw [if_pos hcm, m6, hB, (se_t e18 e16 (by omega)).2, e17]
  obtain ⟨v7, hv7⟩ : ∃ v7, v7 = goV f v5 := ⟨_, rfl⟩
  have m7 : rm7 f u wd = v7 := by unfold rm7; rw [if_pos hcm, m6, hB, tkt4 e18 e16 (by omega), hv7]
  have q7 := nx_c (f := f) (v := v5) (p := 5 + dlN c + 1 + dlN a + 1 + dlN b) e14 e18 (by omega) f6
  rw [← hv7] at q7
  obtain ⟨g14, g15, g16, g18, g11⟩ := q7
  have m8 : rm8 f u wd = v7 := by unfold rm8; rw [if_neg (by rw [hcm]; decide), m7]
  have k7 : ∀ k, 19 < k → k ≠ 28 → v7 k = u k := fun k h1 h2 => by rw [hv7, go_n (by omega), hv5, go_n (by omega), hv4, go_n (by omega), hv3, go_n (by omega), hu1, up_n h2]
  have := sg_one (f := f) (v := v) (sc := sc) (wd := wd) l18 l16 (by rw [← hu, m2]; exact u18) (by rw [← hu, m8]; exact g18) (by rw [← hu, m8, k7 27 (by decide) (by decide)]; exact u27) (by rw [← hu, m8, k7 29 (by decide) (by decide)]; exact u29) (by rw [← hu, hcm]; decide) (by rw [← hu, m8]; exact g16) (by rw [← hu, m8, g15]; exact f6) (by rw [← hu, m8]; omega)
  rw [← hu, hcm, hA, hB, hC] at this
  exact this
