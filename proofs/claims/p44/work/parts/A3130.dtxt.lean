/-! ===== the text of a design: how far it is read, and as what ===== -/
def vN (N : Int) : Int → Int := up (fun _ => 0) 11 N
/-- the text F up to M, whatever follows: it is read as the state σ; i statements, stocks mk, delay dl -/
def rdI (F : Int → Int) (M : Int) (σ : Int → Int) (mk dl i : Int) : Prop := 0 ≤ M ∧ ∀ (f : Int → Int) (N : Int), (∀ j, 0 ≤ j → j < M → f j = F j) → M ≤ N → ∃ u : Int → Int, rdF f (ld0 f (vN N)) (fun _ => 0) = rdG f (402 - i).toNat (goV f u) σ ∧ u 14 = M ∧ u 18 = 0 ∧ u 11 = N ∧ u 22 = mk ∧ u 23 = dl
theorem lw0_w : ∀ j : Nat, j < 4 → lw 0 (j : Int) = wc 0 (j : Int) ∧ ltB (lw 0 (j : Int)) = true := by decide +kernel
theorem lw1_w : ∀ j : Nat, j < 7 → lw 1 (j : Int) = wc 1 (j : Int) ∧ ltB (lw 1 (j : Int)) = true := by decide +kernel
theorem lw2_w : ∀ j : Nat, j < 4 → lw 2 (1 + (j : Int)) = wc 2 (j : Int) ∧ ltB (lw 2 (1 + (j : Int))) = true := by decide +kernel
theorem lw4_w : ∀ j : Nat, j < 2 → lw 4 (1 + (j : Int)) = wc 3 (j : Int) ∧ ltB (lw 4 (1 + (j : Int))) = true := by decide +kernel
theorem lw5_w : ∀ j : Nat, j < 2 → lw 5 (1 + (j : Int)) = wc 4 (j : Int) ∧ ltB (lw 5 (1 + (j : Int))) = true := by decide +kernel
theorem lw6_w : ∀ j : Nat, j < 5 → lw 6 (j : Int) = wc 6 (j : Int) ∧ ltB (lw 6 (j : Int)) = true := by decide +kernel
theorem lw7_w : ∀ j : Nat, j < 5 → lw 7 (j : Int) = wc 5 (j : Int) ∧ ltB (lw 7 (j : Int)) = true := by decide +kernel
theorem isW_c {f v : Int → Int} {k : Nat} {j : Int} (j0 : 0 ≤ j) (j1 : j < wl k) (h : f (v 15 + j) ≠ wc k j) : isWR f v k = false := by
  cases hb : isWR f v k
  · rfl
  · exfalso
    unfold isWR wdB9 at hb
    simp only [Bool.and_eq_true] at hb
    exact h (of_decide_eq_true (al_iff.mp hb.2.2 j j0 j1))
/-- a statement's first word, where the text goes on at M -/
theorem st_w {f u : Int → Int} {M N n : Int} {k : Nat} (h14 : u 14 = M) (h18 : u 18 = 0) (h11 : u 11 = N) (hn : 1 ≤ n ∧ n = wl k) (hN : M + n < N) (hl : ∀ j, 0 ≤ j → j < n → f (M + j) = wc k j ∧ ltB (f (M + j)) = true) (he : f (M + n) = 32) : goV f u 14 = M + n ∧ goV f u 15 = M ∧ goV f u 16 = 1 ∧ goV f u 18 = 0 ∧ goV f u 11 = N ∧ goV f u 22 = u 22 ∧ goV f u 23 = u 23 := by
  have h0 := (hl 0 (by decide) (by omega)).2
  rw [Int.add_zero] at h0
  have hb0 : blB (f M) = false := by
    unfold ltB at h0
    have := of_decide_eq_true h0
    unfold blB
    exact decide_eq_false (by omega)
  have hsk : skT f (u 11) (u 14) = M := by
    rw [h14, h11]
    exact sk_at (Int.le_refl M) (by omega) (fun i i0 i1 => absurd i1 (by omega)) (fun _ => hb0)
  have h := go_w hsk (n := n) hn.1 (by rw [h11]; omega) (fun j j0 j1 => (hl j j0 j1).2) (fun _ => by rw [he]; rfl)
  exact ⟨h.1, h.2.1, h.2.2, by rw [go_n (by decide)]; exact h18, by rw [go_n (by decide)]; exact h11, go_n (by decide), go_n (by decide)⟩
/-- the head -/
theorem rdI_0 {F : Int → Int} {W Hh : Int} (hW : 8 ≤ W ∧ W ≤ 40) (hH : 6 ≤ Hh ∧ Hh ≤ 30) (f0 : ∀ j, 0 ≤ j → j < 5 → F j = lw 0 j) (f1 : ∀ j, 0 ≤ j → j < dlN W → F (5 + j) = dgC W j) (f2 : F (5 + dlN W) = 32) (f3 : ∀ j, 0 ≤ j → j < dlN Hh → F (5 + dlN W + 1 + j) = dgC Hh j) (f4 : F (5 + dlN W + 1 + dlN Hh) = 59) :
    rdI F (5 + dlN W + 1 + dlN Hh + 1) (bgS (fun _ => 0) W Hh) 0 0 0 := by
  have d1 := dlN_p W
  have d2 := dlN_p Hh
  refine ⟨by omega, fun f N hf hN => ?_⟩
  have v11 : vN N 11 = N := up_s _ _ _
  have hl : ∀ j, 0 ≤ j → j < 4 → f j = wc 0 j ∧ ltB (f j) = true := fun j j0 j1 => by
    have h := lw0_w j.toNat (by omega)
    rw [show ((j.toNat : Nat) : Int) = j by omega] at h
    rw [hf j j0 (by omega), f0 j j0 (by omega)]
    exact h
  obtain ⟨l11, l14, l15, l16, l18⟩ := ld_w (v := vN N) (n := 4) (k := 0) ⟨by decide, rfl⟩ (by omega) hl (by rw [hf 4 (by decide) (by omega)]; exact f0 4 (by decide) (by decide))
  obtain ⟨v, hv⟩ : ∃ v, v = ld0 f (vN N) := ⟨_, rfl⟩
  have v22 : v 22 = 0 := by rw [hv]; unfold ld0; rw [go_n (by decide)]; rfl
  have v23 : v 23 = 0 := by rw [hv]; unfold ld0; rw [go_n (by decide)]; rfl
  rw [← hv] at l11 l14 l15 l16 l18 ⊢
  rw [v11] at l11
  have r1 : rd1 f v = goV f v := by
    unfold rd1
    rw [isW_t l18 l16 (by rw [l14, l15]; rfl) (fun j j0 j1 => by rw [l15, Int.zero_add]; exact (hl j j0 j1).1)]
    exact mut4 l18
  have q1 := nx_n (f := f) (v := v) (p := 4) (x := W) l14 l18 (by omega) (by rw [hf 4 (by decide) (by omega)]; exact f0 4 (by decide) (by decide)) (by omega) (fun j j0 j1 => by rw [show (4 : Int) + 1 + j = 5 + j by omega, hf _ (by omega) (by omega)]; exact f1 j j0 j1) (Or.inl (by rw [show (4 : Int) + 1 + dlN W = 5 + dlN W by omega, hf _ (by omega) (by omega)]; exact f2))
  obtain ⟨v1, hv1⟩ : ∃ v1, v1 = goV f v := ⟨_, rfl⟩
  rw [← hv1] at q1 r1
  obtain ⟨a14, a15, a16, a17, a18, a11⟩ := q1
  have rW : rdW f v = W := by unfold rdW; rw [r1, (se_t a18 a16 (by omega)).2, a17]
  have r2 : rd2 f v = goV f v1 := by unfold rd2; rw [r1, tkt4 a18 a16 (by omega)]
  have q2 := nx_n (f := f) (v := v1) (p := 5 + dlN W) (x := Hh) (by rw [a14]; omega) a18 (by omega) (by rw [hf _ (by omega) (by omega)]; exact f2) (by omega) (fun j j0 j1 => by rw [hf _ (by omega) (by omega)]; exact f3 j j0 j1) (Or.inr (by rw [hf _ (by omega) (by omega)]; exact f4))
  obtain ⟨v2, hv2⟩ : ∃ v2, v2 = goV f v1 := ⟨_, rfl⟩
  rw [← hv2] at q2 r2
  obtain ⟨b14, b15, b16, b17, b18, b11⟩ := q2
  have rH : rdH f v = Hh := by unfold rdH; rw [r2, (se_t b18 b16 (by omega)).2, b17]
  have r3 : rd3 f v = goV f v2 := by unfold rd3; rw [r2, tkt4 b18 b16 (by omega)]
  have q3 := nx_c (f := f) (v := v2) (p := 5 + dlN W + 1 + dlN Hh) b14 b18 (by omega) (by rw [hf _ (by omega) (by omega)]; exact f4)
  obtain ⟨v3, hv3⟩ : ∃ v3, v3 = goV f v2 := ⟨_, rfl⟩
  rw [← hv3] at q3 r3
  obtain ⟨c14, c15, c16, c18, c11⟩ := q3
  have r4 : rd4 f v = goV f v3 := by
    unfold rd4
    rw [r3, isS_t c18 c16 (by rw [c15, hf _ (by omega) (by omega)]; exact f4)]
    exact mut4 c18
  refine ⟨v3, ?_, by rw [c14], c18, by omega, ?_, ?_⟩
  · unfold rdF rdD
    rw [r4, rW, rH]
    rfl
  · rw [hv3, go_n (by decide), hv2, go_n (by decide), hv1, go_n (by decide)]; exact v22
  · rw [hv3, go_n (by decide), hv2, go_n (by decide), hv1, go_n (by decide)]; exact v23
/-- the end of the text -/
theorem rdI.end {F : Int → Int} {M : Int} {σ : Int → Int} {mk dl i : Int} (h : rdI F M σ mk dl i) {f : Int → Int} (hf : ∀ j, 0 ≤ j → j < M → f j = F j) : (rdF f (ld0 f (vN M)) (fun _ => 0)).1 18 = 0 ∧ (rdF f (ld0 f (vN M)) (fun _ => 0)).2 = σ := by
  obtain ⟨u, h1, h2, h3, h4, -, -⟩ := h.2 f M hf (Int.le_refl M)
  rw [h1, rdG_e (fun z => z.2 (nx_z (by rw [h2, h4])))]
  have e18 : goV f u 18 = 0 := (go_n (by decide)).trans h3
  exact ⟨e18, rfl⟩
/-- one statement more: what its words do -/
theorem rdI.go {F G : Int → Int} {M M2 : Int} {σ τ : Int → Int} {mk dl mk2 dl2 i : Int} (h : rdI F M σ mk dl i) (hi : i < 402) (hM : M ≤ M2) (hG : ∀ j, 0 ≤ j → j < M → G j = F j)
    (hs : ∀ (f : Int → Int) (N : Int) (u : Int → Int), (∀ j, 0 ≤ j → j < M2 → f j = G j) → M2 ≤ N → u 14 = M → u 18 = 0 → u 11 = N → u 22 = mk → u 23 = dl → goV f u 16 ≠ 0 ∧ bdD f (goV f u) σ = τ ∧ ∃ t : Int → Int, bdV f (goV f u) σ = goV f t ∧ t 14 = M2 ∧ t 18 = 0 ∧ t 11 = N ∧ t 22 = mk2 ∧ t 23 = dl2) : rdI G M2 τ mk2 dl2 (i + 1) := by
  refine ⟨by have := h.1; omega, fun f N hf hN => ?_⟩
  obtain ⟨u, h1, h2, h3, h4, h5, h6⟩ := h.2 f N (fun j j0 j1 => (hf j j0 (by omega)).trans (hG j j0 j1)) (by omega)
  obtain ⟨g1, g2, t, g3, g4⟩ := hs f N u hf hN h2 h3 h4 h5 h6
  refine ⟨t, ?_, g4⟩
  rw [h1, rdG_s hi ⟨(go_n (by decide)).trans h3, g1⟩, g2, g3]
/-- a delay -/
theorem rdI.dly {F G : Int → Int} {M D : Int} {σ : Int → Int} {mk i : Int} (h : rdI F M σ mk 0 i) (hi : i < 402) (hD : 0 ≤ D ∧ D ≤ 30) (hG : ∀ j, 0 ≤ j → j < M → G j = F j) (g0 : ∀ j, 0 ≤ j → j < 6 → G (M + j) = lw 6 j) (g1 : ∀ j, 0 ≤ j → j < dlN D → G (M + 6 + j) = dgC D j) (g2 : G (M + 6 + dlN D) = 59) : rdI G (M + 6 + dlN D + 1) (up σ 2 D) mk 1 (i + 1) := by
  have d1 := dlN_p D
  have hM := h.1
  refine h.go hi (by omega) hG (fun f N u hf hN h14 h18 h11 h22 h23 => ?_)
  have hl : ∀ j, 0 ≤ j → j < 5 → f (M + j) = wc 6 j ∧ ltB (f (M + j)) = true := fun j j0 j1 => by
    have h := lw6_w j.toNat (by omega)
    rw [show ((j.toNat : Nat) : Int) = j by omega] at h
    rw [hf _ (by omega) (by omega), g0 j j0 (by omega)]
    exact h
  have f5 : f (M + 5) = 32 := by rw [hf _ (by omega) (by omega)]; exact g0 5 (by decide) (by decide)
  obtain ⟨v, hv⟩ : ∃ v, v = goV f u := ⟨_, rfl⟩
  have q0 := st_w (n := 5) (k := 6) h14 h18 h11 ⟨by decide, rfl⟩ (by omega) hl f5
  rw [← hv] at q0 ⊢
  obtain ⟨a14, a15, a16, a18, a11, a22, a23⟩ := q0
  have w1 : isWR f v 1 = false := isW_l (by rw [a14, a15, show M + 5 - M = 5 by omega]; decide)
  have w5 : isWR f v 5 = false := isW_c (j := 0) (by decide) (by decide) (by rw [a15, (hl 0 (by decide) (by decide)).1]; decide)
  have w6 : isWR f v 6 = true := isW_t a18 a16 (by rw [a14, a15, show M + 5 - M = 5 by omega]; rfl) (fun j j0 j1 => by rw [a15]; exact (hl j j0 j1).1)
  obtain ⟨v1, hv1⟩ : ∃ v1, v1 = up v 23 1 := ⟨_, rfl⟩
  have e5 : re5 f v = goV f v1 := by
    unfold re5 re3
    rw [if_pos (by omega : v 23 = 0), ← hv1]
    exact mut4 (by rw [hv1, up_n (by decide)]; exact a18)
  have q1 := nx_n (f := f) (v := v1) (p := M + 5) (x := D) (by rw [hv1, up_n (by decide)]; exact a14) (by rw [hv1, up_n (by decide)]; exact a18) (by omega) f5 (by rw [hv1, up_n (by decide)]; omega) (fun j j0 j1 => by rw [show M + 5 + 1 + j = M + 6 + j by omega, hf _ (by omega) (by omega)]; exact g1 j j0 j1) (Or.inr (by rw [show M + 5 + 1 + dlN D = M + 6 + dlN D by omega, hf _ (by omega) (by omega)]; exact g2))
  obtain ⟨v2, hv2⟩ : ∃ v2, v2 = goV f v1 := ⟨_, rfl⟩
  rw [← hv2] at q1 e5
  obtain ⟨b14, b15, b16, b17, b18, b11⟩ := q1
  have eD : reD f v σ = up σ 2 D := by unfold reD; rw [e5, (se_t b18 b16 (by omega)).2, b17]
  have eV : reV f v = goV f v2 := by unfold reV; rw [e5, tkt4 b18 b16 (by omega)]
  have b11' : v2 11 = N := by rw [b11, hv1, up_n (by decide)]; exact a11
  have q2 := nx_c (f := f) (v := v2) (p := M + 6 + dlN D) (by rw [b14]; omega) b18 (by omega) (by rw [hf _ (by omega) (by omega)]; exact g2)
  obtain ⟨t, ht⟩ : ∃ t, t = goV f v2 := ⟨_, rfl⟩
  rw [← ht] at q2 eV
  obtain ⟨c14, c15, c16, c18, c11⟩ := q2
  refine ⟨by omega, ?_, t, ?_, c14, c18, by omega, ?_, ?_⟩
  · unfold bdD; rw [w1, w5, w6]; exact eD
  · unfold bdV bd1
    rw [w1, w5, w6]
    simp only [Bool.false_eq_true, if_false, if_true]
    rw [eV, isS_t c18 c16 (by rw [c15, hf _ (by omega) (by omega)]; exact g2)]
    exact mut4 c18
  · rw [ht, go_n (by decide), hv2, go_n (by decide), hv1, up_n (by decide), a22]; exact h22
  · rw [ht, go_n (by decide), hv2, go_n (by decide), hv1, up_s]
theorem orm_all : ∀ k : Nat, k < 7 → ∀ m : Nat, m < 2 ^ k → (m ||| 2 ^ k) < 2 ^ (k + 1) ∧ m / 2 ^ k % 2 = 0 := by decide +kernel
/-- a stock -/
theorem rdI.stk {F G : Int → Int} {M k x : Int} {σ : Int → Int} {mk dl i : Int} (h : rdI F M σ mk dl i) (hi : i < 402) (hk : 0 ≤ k ∧ k < 7) (hm : 0 ≤ mk ∧ mk < (((2 ^ k.toNat : Nat) : Nat) : Int)) (hx : 0 ≤ x ∧ x < 1000) (hG : ∀ j, 0 ≤ j → j < M → G j = F j) (g0 : ∀ j, 0 ≤ j → j < 6 → G (M + j) = lw 7 j) (g1 : ∀ j, 0 ≤ j → j < dlN k → G (M + 6 + j) = dgC k j) (g2 : G (M + 6 + dlN k) = 32) (g3 : ∀ j, 0 ≤ j → j < dlN x → G (M + 6 + dlN k + 1 + j) = dgC x j) (g4 : G (M + 6 + dlN k + 1 + dlN x) = 59) : rdI G (M + 6 + dlN k + 1 + dlN x + 1) (up σ (6 + k) x) (orS mk k) dl (i + 1) ∧ 0 ≤ orS mk k ∧ orS mk k < (((2 ^ (k + 1).toNat : Nat) : Nat) : Int) := by
  have d1 := dlN_p k
  have d2 := dlN_p x
  have hM := h.1
  have hor := orm_all k.toNat (by omega) mk.toNat (by omega)
  refine ⟨h.go hi (by omega) hG (fun f N u hf hN h14 h18 h11 h22 h23 => ?_), ?_⟩
  · have hl : ∀ j, 0 ≤ j → j < 5 → f (M + j) = wc 5 j ∧ ltB (f (M + j)) = true := fun j j0 j1 => by
      have h := lw7_w j.toNat (by omega)
      rw [show ((j.toNat : Nat) : Int) = j by omega] at h
      rw [hf _ (by omega) (by omega), g0 j j0 (by omega)]
      exact h
    have f5 : f (M + 5) = 32 := by rw [hf _ (by omega) (by omega)]; exact g0 5 (by decide) (by decide)
    obtain ⟨v, hv⟩ : ∃ v, v = goV f u := ⟨_, rfl⟩
    have q0 := st_w (n := 5) (k := 5) h14 h18 h11 ⟨by decide, rfl⟩ (by omega) hl f5
    rw [← hv] at q0 ⊢
    obtain ⟨a14, a15, a16, a18, a11, a22, a23⟩ := q0
    have w1 : isWR f v 1 = false := isW_l (by rw [a14, a15, show M + 5 - M = 5 by omega]; decide)
    have w5 : isWR f v 5 = true := isW_t a18 a16 (by rw [a14, a15, show M + 5 - M = 5 by omega]; rfl) (fun j j0 j1 => by rw [a15]; exact (hl j j0 j1).1)
    have q1 := nx_n (f := f) (v := v) (p := M + 5) (x := k) a14 a18 (by omega) f5 (by omega) (fun j j0 j1 => by rw [show M + 5 + 1 + j = M + 6 + j by omega, hf _ (by omega) (by omega)]; exact g1 j j0 j1) (Or.inl (by rw [show M + 5 + 1 + dlN k = M + 6 + dlN k by omega, hf _ (by omega) (by omega)]; exact g2))
    obtain ⟨v1, hv1⟩ : ∃ v1, v1 = goV f v := ⟨_, rfl⟩
    rw [← hv1] at q1
    obtain ⟨b14, b15, b16, b17, b18, b11⟩ := q1
    have b22 : v1 22 = mk := by rw [hv1, go_n (by decide), a22]; exact h22
    have b23 : v1 23 = dl := by rw [hv1, go_n (by decide), a23]; exact h23
    have eK : rsK f v = k := by unfold rsK; rw [← hv1, (se_t b18 b16 (by omega)).2, b17]
    have e2 : rs2 f v = v1 := by unfold rs2; rw [← hv1, (se_t b18 b16 (by omega)).1]
    have hbit : ¬ v1 22 / 2 ^ k.toNat % 2 = 1 := by
      rw [b22]
      have e9 : mk / 2 ^ k.toNat % 2 = ((mk.toNat / 2 ^ k.toNat % 2 : Nat) : Int) := by
        rw [Int.natCast_emod, Int.natCast_ediv, Int.natCast_pow, show ((mk.toNat : Nat) : Int) = mk by omega]
        rfl
      rw [e9, hor.2]
      decide
    have e3 : rs3 f v = v1 := by unfold rs3; rw [e2, eK, if_neg hbit]
    obtain ⟨v2, hv2⟩ : ∃ v2, v2 = up v1 22 (orS mk k) := ⟨_, rfl⟩
    have e4 : rs4 f v = v2 := by unfold rs4; rw [e3, eK, b22, hv2]
    have e5 : rs5 f v = goV f v2 := by unfold rs5; rw [e4]; exact mut4 (by rw [hv2, up_n (by decide)]; exact b18)
    have q2 := nx_n (f := f) (v := v2) (p := M + 6 + dlN k) (x := x) (by rw [hv2, up_n (by decide), b14]; omega) (by rw [hv2, up_n (by decide)]; exact b18) (by omega) (by rw [hf _ (by omega) (by omega)]; exact g2) (by rw [hv2, up_n (by decide)]; omega) (fun j j0 j1 => by rw [hf _ (by omega) (by omega)]; exact g3 j j0 j1) (Or.inr (by rw [hf _ (by omega) (by omega)]; exact g4))
    obtain ⟨v3, hv3⟩ : ∃ v3, v3 = goV f v2 := ⟨_, rfl⟩
    rw [← hv3] at q2 e5
    obtain ⟨c14, c15, c16, c17, c18, c11⟩ := q2
    have c11' : v3 11 = N := by rw [c11, hv2, up_n (by decide)]; omega
    have eD : rsD f v σ = up σ (6 + k) x := by unfold rsD; rw [eK, e5, (se_t c18 c16 (by omega)).2, c17]
    have eV : rsV f v = goV f v3 := by unfold rsV; rw [e5, tkt4 c18 c16 (by omega)]
    have q3 := nx_c (f := f) (v := v3) (p := M + 6 + dlN k + 1 + dlN x) c14 c18 (by omega) (by rw [hf _ (by omega) (by omega)]; exact g4)
    obtain ⟨t, ht⟩ : ∃ t, t = goV f v3 := ⟨_, rfl⟩
    rw [← ht] at q3 eV
    obtain ⟨m14, m15, m16, m18, m11⟩ := q3
    refine ⟨by omega, ?_, t, ?_, m14, m18, by omega, ?_, ?_⟩
    · unfold bdD; rw [w1, w5]; exact eD
    · unfold bdV bd1
      rw [w1, w5]
      simp only [Bool.false_eq_true, if_false, if_true]
      rw [eV, isS_t m18 m16 (by rw [m15, hf _ (by omega) (by omega)]; exact g4)]
      exact mut4 m18
    · rw [ht, go_n (by decide), hv3, go_n (by decide), hv2, up_s]
    · rw [ht, go_n (by decide), hv3, go_n (by decide), hv2, up_n (by decide)]; exact b23
  · have h9 := hor.1
    unfold orS
    rw [show (k + 1).toNat = k.toNat + 1 by omega]
    exact ⟨Int.natCast_nonneg _, by exact_mod_cast h9⟩
theorem rcS_cg {σ : Int → Int} {n sd x y co s s2 : Int} {f g : Int → Int} (h : ∀ j, 0 ≤ j → j < n → f (s + j) = g (s2 + j)) : rcS σ n sd x y co f s = rcS σ n sd x y co g s2 := by
  have e : letS σ (13 + 13 * σ 5 + 5) f s n = letS σ (13 + 13 * σ 5 + 5) g s2 n := by
    funext p
    unfold letS
    by_cases hp : 13 + 13 * σ 5 + 5 ≤ p ∧ p < 13 + 13 * σ 5 + 5 + n
    · rw [if_pos hp, if_pos hp, h _ (by omega) (by omega)]
    · rw [if_neg hp, if_neg hp]
  unfold rcS
  rw [e]
/-- a word behind a blank -/
theorem nx_l {f v : Int → Int} {p n : Int} (hp : v 14 = p) (h18 : v 18 = 0) (hn : 1 ≤ n) (hb : f p = 32) (hN : p + 1 + n < v 11) (hf : ∀ j, 0 ≤ j → j < n → ltB (f (p + 1 + j)) = true) (he : ltB (f (p + 1 + n)) = false) : goV f v 14 = p + 1 + n ∧ goV f v 15 = p + 1 ∧ goV f v 16 = 1 ∧ goV f v 18 = 0 ∧ goV f v 11 = v 11 := by
  have h0 := hf 0 (by decide) (by omega)
  rw [Int.add_zero] at h0
  have hb0 : blB (f (p + 1)) = false := by
    unfold ltB at h0
    have := of_decide_eq_true h0
    unfold blB
    exact decide_eq_false (by omega)
  have hsk : skT f (v 11) (v 14) = p + 1 := by
    rw [hp]
    exact sk_at (by omega) (by omega) (fun i i0 i1 => by rw [show i = p by omega]; exact hb) (fun _ => hb0)
  have h := go_w hsk hn (by omega) hf (fun _ => he)
  exact ⟨h.1, h.2.1, h.2.2, by rw [go_n (by decide)]; exact h18, go_n (by decide)⟩
/-- a caption -/
theorem rdI.cap {F G fw : Int → Int} {M n x y co R : Int} {b : Bool} {σ : Int → Int} {mk dl i : Int} (h : rdI F M σ mk dl i) (hi : i < 402) (h5 : 0 ≤ σ 5 ∧ σ 5 < 8) (hn : 1 ≤ n ∧ n ≤ 8) (hco : 1 ≤ co ∧ co ≤ 6) (hx : 0 ≤ x ∧ x < σ 0) (hy : 0 ≤ y ∧ y < σ 1) (hw : σ 0 ≤ 40 ∧ σ 1 ≤ 30) (hfw : ∀ j, 0 ≤ j → j < n → 97 ≤ fw j ∧ fw j ≤ 122) (hli : liesS σ n x y = true) (hme : meetS σ n (bz b) x y (-1) = false)
    (hG : ∀ j, 0 ≤ j → j < M → G j = F j) (g0 : ∀ j, 0 ≤ j → j < 8 → G (M + j) = lw 1 j) (g1 : ∀ j, 0 ≤ j → j < n → G (M + 8 + j) = fw j) (hR : (b = false ∧ R = 0) ∨ (b = true ∧ R = 5 ∧ ∀ j, 0 ≤ j → j < 5 → G (M + 8 + n + j) = lw 2 j)) (g2 : ∀ j, 0 ≤ j → j < 4 → G (M + 8 + n + R + j) = lw 4 j) (g3 : ∀ j, 0 ≤ j → j < dlN x → G (M + 8 + n + R + 4 + j) = dgC x j) (g4 : G (M + 8 + n + R + 4 + dlN x) = 32) (g5 : ∀ j, 0 ≤ j → j < dlN y → G (M + 8 + n + R + 4 + dlN x + 1 + j) = dgC y j) (g6 : ∀ j, 0 ≤ j → j < 4 → G (M + 8 + n + R + 4 + dlN x + 1 + dlN y + j) = lw 5 j) (g7 : ∀ j, 0 ≤ j → j < dlN co → G (M + 8 + n + R + 4 + dlN x + 1 + dlN y + 4 + j) = dgC co j) (g8 : G (M + 8 + n + R + 4 + dlN x + 1 + dlN y + 4 + dlN co) = 59) :
    rdI G (M + 8 + n + R + 4 + dlN x + 1 + dlN y + 4 + dlN co + 1) (rcS σ n (bz b) x y co fw 0) mk dl (i + 1) := by
  have d1 := dlN_p x
  have d2 := dlN_p y
  have d3 := dlN_p co
  have hM := h.1
  have hR0 : R = 0 ∨ R = 5 := hR.elim (fun z => Or.inl z.2) (fun z => Or.inr z.2.1)
  refine h.go hi (by omega) hG (fun f N u hf hN h14 h18 h11 h22 h23 => ?_)
  obtain ⟨P, hP⟩ : ∃ P, P = M + 8 + n + R := ⟨_, rfl⟩
  rw [← hP] at hf hN g2 g3 g4 g5 g6 g7 g8 ⊢
  obtain ⟨Q, hQ⟩ : ∃ Q, Q = P + 4 + dlN x + 1 + dlN y := ⟨_, rfl⟩
  rw [← hQ] at hf hN g6 g7 g8 ⊢
  have t0 : ∀ j, 0 ≤ j → j < 8 → f (M + j) = lw 1 j := fun j j0 j1 => by rw [hf _ (by omega) (by omega)]; exact g0 j j0 j1
  have t1 : ∀ j, 0 ≤ j → j < n → f (M + 8 + j) = fw j := fun j j0 j1 => by rw [hf _ (by omega) (by omega)]; exact g1 j j0 j1
  have t2 : ∀ j, 0 ≤ j → j < 4 → f (P + j) = lw 4 j := fun j j0 j1 => by rw [hf _ (by omega) (by omega)]; exact g2 j j0 j1
  have t3 : ∀ j, 0 ≤ j → j < dlN x → f (P + 4 + j) = dgC x j := fun j j0 j1 => by rw [hf _ (by omega) (by omega)]; exact g3 j j0 j1
  have t4 : f (P + 4 + dlN x) = 32 := by rw [hf _ (by omega) (by omega)]; exact g4
  have t5 : ∀ j, 0 ≤ j → j < dlN y → f (P + 4 + dlN x + 1 + j) = dgC y j := fun j j0 j1 => by rw [hf _ (by omega) (by omega)]; exact g5 j j0 j1
  have t6 : ∀ j, 0 ≤ j → j < 4 → f (Q + j) = lw 5 j := fun j j0 j1 => by rw [hf _ (by omega) (by omega)]; exact g6 j j0 j1
  have t7 : ∀ j, 0 ≤ j → j < dlN co → f (Q + 4 + j) = dgC co j := fun j j0 j1 => by rw [hf _ (by omega) (by omega)]; exact g7 j j0 j1
  have t8 : f (Q + 4 + dlN co) = 59 := by rw [hf _ (by omega) (by omega)]; exact g8
  have hl : ∀ j, 0 ≤ j → j < 7 → f (M + j) = wc 1 j ∧ ltB (f (M + j)) = true := fun j j0 j1 => by
    have h := lw1_w j.toNat (by omega)
    rw [show ((j.toNat : Nat) : Int) = j by omega] at h
    rw [t0 j j0 (by omega)]
    exact h
  obtain ⟨v, hv⟩ : ∃ v, v = goV f u := ⟨_, rfl⟩
  have q0 := st_w (n := 7) (k := 1) h14 h18 h11 ⟨by decide, rfl⟩ (by omega) hl (by rw [t0 7 (by decide) (by decide)]; decide)
  rw [← hv] at q0 ⊢
  obtain ⟨a14, a15, a16, a18, a11, a22, a23⟩ := q0
  have w1 : isWR f v 1 = true := isW_t a18 a16 (by rw [a14, a15, show M + 7 - M = 7 by omega]; rfl) (fun j j0 j1 => by rw [a15]; exact (hl j j0 j1).1)
  have e1 : rc1 v σ = v := by unfold rc1; rw [if_neg (by omega)]
  obtain ⟨v2, hv2⟩ : ∃ v2, v2 = goV f v := ⟨_, rfl⟩
  have e2 : rc2 f v σ = v2 := by unfold rc2; rw [e1, hv2]; exact mut4 a18
  have hend : ltB (f (M + 7 + 1 + n)) = false := by
    rcases hR with ⟨-, hR⟩ | ⟨-, hR, hg⟩
    · have := t2 0 (by decide) (by decide)
      rw [show M + 7 + 1 + n = P + 0 by omega, this]
      decide
    · have := hg 0 (by decide) (by decide)
      rw [hf _ (by omega) (by omega), show M + 7 + 1 + n = M + 8 + n + 0 by omega, this]
      decide
  have q2 := nx_l (f := f) (v := v) (p := M + 7) (n := n) a14 a18 hn.1 (by rw [t0 7 (by decide) (by decide)]; decide) (by omega) (fun j j0 j1 => by
    rw [show M + 7 + 1 + j = M + 8 + j by omega, t1 j j0 j1]
    have := hfw j j0 j1
    unfold ltB
    exact decide_eq_true (by omega)) hend
  rw [← hv2] at q2
  obtain ⟨b14, b15, b16, b18, b11⟩ := q2
  have eL : rcL f v σ = n := by unfold rcL; rw [e2, b14, b15]; omega
  have e3 : rc3 f v σ = v2 := by unfold rc3; rw [e2, eL, if_neg (by omega)]
  have eB : rcB σ = 13 + 13 * σ 5 := by unfold rcB; omega
  have eDD : rcD f v σ = letS σ (13 + 13 * σ 5 + 5) f (M + 8) n := by
    unfold rcD
    rw [e3, if_pos ⟨b18, b16⟩, eB, eL, b15, show M + 7 + 1 = M + 8 by omega]
  have heq := let_eq (σ := σ) (f := f) (s := M + 8) (n := n) h5 (by omega)
  rw [← eDD] at heq
  obtain ⟨v4, hv4⟩ : ∃ v4, v4 = goV f v2 := ⟨_, rfl⟩
  have e4 : rc4 f v σ = v4 := by
    unfold rc4
    rw [e3, decide_eq_true b16, hv4]
    exact mut4 b18
  have hat : ∀ j, 0 ≤ j → j < 2 → f (P + 1 + j) = wc 3 j ∧ ltB (f (P + 1 + j)) = true := fun j j0 j1 => by
    have h := lw4_w j.toNat (by omega)
    rw [show ((j.toNat : Nat) : Int) = j by omega] at h
    rw [show P + 1 + j = P + (1 + j) by omega, t2 _ (by omega) (by omega)]
    exact h
  have hP0 : f P = 32 := by have := t2 0 (by decide) (by decide); rw [Int.add_zero] at this; rw [this]; decide
  have hP3 : f (P + 3) = 32 := by rw [t2 3 (by decide) (by decide)]; decide
  have hat9 : ∀ z : Int → Int, z 14 = P → z 18 = 0 → z 11 = N → goV f z 14 = P + 3 ∧ goV f z 15 = P + 1 ∧ goV f z 16 = 1 ∧ goV f z 18 = 0 ∧ goV f z 11 = N := fun z z14 z18 z11 => by
    have q := nx_w (f := f) (v := z) (p := P) (n := 2) (k := 3) z14 z18 ⟨by decide, rfl⟩ hP0 (by omega) hat (by rw [show P + 1 + 2 = P + 3 by omega, hP3]; rfl)
    exact ⟨by rw [q.1]; omega, q.2.1, q.2.2.1, q.2.2.2.1, q.2.2.2.2.trans z11⟩
  have key : rcR f v σ = b ∧ rc5 f v σ 14 = P + 3 ∧ rc5 f v σ 15 = P + 1 ∧ rc5 f v σ 16 = 1 ∧ rc5 f v σ 18 = 0 ∧ rc5 f v σ 11 = N ∧ rc5 f v σ 22 = mk ∧ rc5 f v σ 23 = dl := by
    have b22 : v4 22 = mk := by rw [hv4, go_n (by decide), hv2, go_n (by decide), a22]; exact h22
    have b23 : v4 23 = dl := by rw [hv4, go_n (by decide), hv2, go_n (by decide), a23]; exact h23
    rcases hR with ⟨hb, hR⟩ | ⟨hb, hR, hg⟩
    · have q := hat9 v2 (by rw [b14]; omega) b18 (by omega)
      rw [← hv4] at q
      have eR : rcR f v σ = false := by unfold rcR; rw [e4]; exact isW_l (by rw [q.1, q.2.1, show P + 3 - (P + 1) = 2 by omega]; decide)
      have e5 : rc5 f v σ = v4 := by unfold rc5; rw [eR, if_neg (by decide), e4]
      rw [e5]
      exact ⟨eR.trans hb.symm, q.1, q.2.1, q.2.2.1, q.2.2.2.1, q.2.2.2.2, b22, b23⟩
    · have hre : ∀ j, 0 ≤ j → j < 4 → f (M + 8 + n + 1 + j) = wc 2 j ∧ ltB (f (M + 8 + n + 1 + j)) = true := fun j j0 j1 => by
        have h := lw2_w j.toNat (by omega)
        rw [show ((j.toNat : Nat) : Int) = j by omega] at h
        rw [show M + 8 + n + 1 + j = M + 8 + n + (1 + j) by omega, hf _ (by omega) (by omega), hg _ (by omega) (by omega)]
        exact h
      have hr0 : f (M + 8 + n) = 32 := by have := hg 0 (by decide) (by decide); rw [Int.add_zero] at this; rw [hf _ (by omega) (by omega), this]; decide
      have q := nx_w (f := f) (v := v2) (p := M + 8 + n) (n := 4) (k := 2) (by rw [b14]; omega) b18 ⟨by decide, rfl⟩ hr0 (by omega) hre (by rw [show M + 8 + n + 1 + 4 = P by omega, hP0]; rfl)
      rw [← hv4] at q
      have eR : rcR f v σ = true := by unfold rcR; rw [e4]; exact isW_t q.2.2.2.1 q.2.2.1 (by rw [q.1, q.2.1]; show _ = (4 : Int); omega) (fun j j0 j1 => by rw [q.2.1]; exact (hre j j0 j1).1)
      have e5 : rc5 f v σ = goV f v4 := by unfold rc5; rw [eR, if_pos rfl, e4]
      have q9 := hat9 v4 (by rw [q.1]; omega) q.2.2.2.1 (by rw [q.2.2.2.2]; omega)
      rw [e5]
      exact ⟨eR.trans hb.symm, q9.1, q9.2.1, q9.2.2.1, q9.2.2.2.1, q9.2.2.2.2, (go_n (by decide)).trans b22, (go_n (by decide)).trans b23⟩
  obtain ⟨eR, c14, c15, c16, c18, c11, c22, c23⟩ := key
  obtain ⟨v5, hv5⟩ : ∃ v5, v5 = rc5 f v σ := ⟨_, rfl⟩
  rw [← hv5] at c14 c15 c16 c18 c11 c22 c23
  obtain ⟨v6, hv6⟩ : ∃ v6, v6 = goV f v5 := ⟨_, rfl⟩
  have e6 : rc6 f v σ = v6 := by
    unfold rc6
    rw [← hv5, isW_t c18 c16 (by rw [c14, c15]; show _ = (2 : Int); omega) (fun j j0 j1 => by rw [c15]; exact (hat j j0 j1).1), hv6]
    exact mut4 c18
  have q6 := nx_n (f := f) (v := v5) (p := P + 3) (x := x) c14 c18 (by omega) hP3 (by omega) (fun j j0 j1 => by rw [show P + 3 + 1 + j = P + 4 + j by omega]; exact t3 j j0 j1) (Or.inl (by rw [show P + 3 + 1 + dlN x = P + 4 + dlN x by omega]; exact t4))
  rw [← hv6] at q6
  obtain ⟨k14, k15, k16, k17, k18, k11⟩ := q6
  have eX : rcX f v σ = x := by unfold rcX; rw [e6, (se_t k18 k16 (by omega)).2, k17]
  obtain ⟨v7, hv7⟩ : ∃ v7, v7 = goV f v6 := ⟨_, rfl⟩
  have e7 : rc7 f v σ = v7 := by unfold rc7; rw [e6, tkt4 k18 k16 (by omega), hv7]
  have hQ0 : f Q = 32 := by have := t6 0 (by decide) (by decide); rw [Int.add_zero] at this; rw [this]; decide
  have q7 := nx_n (f := f) (v := v6) (p := P + 4 + dlN x) (x := y) (by rw [k14]; omega) k18 (by omega) t4 (by omega) t5 (Or.inl (by rw [show P + 4 + dlN x + 1 + dlN y = Q by omega]; exact hQ0))
  rw [← hv7] at q7
  obtain ⟨l14, l15, l16, l17, l18, l11⟩ := q7
  have eY : rcY f v σ = y := by unfold rcY; rw [e7, (se_t l18 l16 (by omega)).2, l17]
  have e8 : rc8 f v σ = v7 := by unfold rc8; rw [e7, (se_t l18 l16 (by omega)).1]
  have hli2 : liesS (rcD f v σ) n x y = true := by
    unfold liesS at hli ⊢
    rw [heq.1 0 (by decide) (by decide), heq.1 1 (by decide) (by decide)]
    exact hli
  have hme2 : meetS (rcD f v σ) n (bz b) x y (-1) = false := by rw [meet_c h5.1 heq]; exact hme
  have e9 : rc9 f v σ = v7 := by unfold rc9; rw [e8, eL, eX, eY, hli2, if_neg (fun z => by cases z.2)]
  have e10 : rc10 f v σ = v7 := by unfold rc10; rw [e9, eL, eX, eY, eR, hme2, if_neg (fun z => by cases z.2)]
  obtain ⟨v8, hv8⟩ : ∃ v8, v8 = goV f v7 := ⟨_, rfl⟩
  have e11 : rc11 f v σ = v8 := by unfold rc11; rw [e10, hv8]; exact mut4 l18
  have hin : ∀ j, 0 ≤ j → j < 2 → f (Q + 1 + j) = wc 4 j ∧ ltB (f (Q + 1 + j)) = true := fun j j0 j1 => by
    have h := lw5_w j.toNat (by omega)
    rw [show ((j.toNat : Nat) : Int) = j by omega] at h
    rw [show Q + 1 + j = Q + (1 + j) by omega, t6 _ (by omega) (by omega)]
    exact h
  have hQ3 : f (Q + 3) = 32 := by rw [t6 3 (by decide) (by decide)]; decide
  have q8 := nx_w (f := f) (v := v7) (p := Q) (n := 2) (k := 4) (by rw [l14]; omega) l18 ⟨by decide, rfl⟩ hQ0 (by omega) hin (by rw [show Q + 1 + 2 = Q + 3 by omega, hQ3]; rfl)
  rw [← hv8] at q8
  obtain ⟨m14, m15, m16, m18, m11⟩ := q8
  obtain ⟨v9, hv9⟩ : ∃ v9, v9 = goV f v8 := ⟨_, rfl⟩
  have e12 : rc12 f v σ = v9 := by
    unfold rc12
    rw [e11, isW_t m18 m16 (by rw [m14, m15]; show _ = (2 : Int); omega) (fun j j0 j1 => by rw [m15]; exact (hin j j0 j1).1), hv9]
    exact mut4 m18
  have q9 := nx_n (f := f) (v := v8) (p := Q + 3) (x := co) (by rw [m14]; omega) m18 (by omega) hQ3 (by omega) (fun j j0 j1 => by rw [show Q + 3 + 1 + j = Q + 4 + j by omega]; exact t7 j j0 j1) (Or.inr (by rw [show Q + 3 + 1 + dlN co = Q + 4 + dlN co by omega]; exact t8))
  rw [← hv9] at q9
  obtain ⟨o14, o15, o16, o17, o18, o11⟩ := q9
  have eC : rcC f v σ = co := by unfold rcC; rw [e12, (se_t o18 o16 (by omega)).2, o17]
  obtain ⟨t, ht⟩ : ∃ t, t = goV f v9 := ⟨_, rfl⟩
  have e13 : rc13 f v σ = t := by unfold rc13; rw [e12, tkt4 o18 o16 (by omega), ht]
  have q10 := nx_c (f := f) (v := v9) (p := Q + 4 + dlN co) (by rw [o14]; omega) o18 (by omega) t8
  rw [← ht] at q10
  obtain ⟨s14, s15, s16, s18, s11⟩ := q10
  have eE : rcE f v σ = rcS σ n (bz b) x y co fw 0 := by
    unfold rcE
    rw [e13, if_pos s18, eL, eR, eX, eY, eC, eB, eDD]
    exact rcS_cg (fun j j0 j1 => by rw [Int.zero_add]; exact t1 j j0 j1)
  refine ⟨by omega, ?_, t, ?_, s14, s18, by omega, ?_, ?_⟩
  · unfold bdD; rw [w1]; exact eE
  · unfold bdV bd1
    rw [w1]
    simp only [if_true]
    rw [e13, isS_t s18 s16 (by rw [s15]; exact t8)]
    exact mut4 s18
  · rw [ht, go_n (by decide), hv9, go_n (by decide), hv8, go_n (by decide), hv7, go_n (by decide), hv6, go_n (by decide)]; exact c22
  · rw [ht, go_n (by decide), hv9, go_n (by decide), hv8, go_n (by decide), hv7, go_n (by decide), hv6, go_n (by decide)]; exact c23
