/-! ===== the text of a row that is woven ===== -/
theorem nx_w {f v : Int → Int} {p n : Int} {k : Nat} (hp : v 14 = p) (h18 : v 18 = 0) (hn : 1 ≤ n ∧ n = wl k) (hb : f p = 32) (hN : p + 1 + n < v 11) (hf : ∀ j, 0 ≤ j → j < n → f (p + 1 + j) = wc k j ∧ ltB (f (p + 1 + j)) = true) (he : ltB (f (p + 1 + n)) = false) : goV f v 14 = p + 1 + n ∧ goV f v 15 = p + 1 ∧ goV f v 16 = 1 ∧ goV f v 18 = 0 ∧ goV f v 11 = v 11 := by
  have h0 := (hf 0 (by decide) (by omega)).2
  rw [Int.add_zero] at h0
  have hb0 : blB (f (p + 1)) = false := by
    unfold ltB at h0
    have := of_decide_eq_true h0
    unfold blB
    exact decide_eq_false (by omega)
  have hsk : skT f (v 11) (v 14) = p + 1 := by
    rw [hp]
    exact sk_at (by omega) (by omega) (fun i i0 i1 => by rw [show i = p by omega]; exact hb) (fun _ => hb0)
  have h := go_w hsk hn.1 (by omega) (fun j j0 j1 => (hf j j0 j1).2) (fun _ => he)
  exact ⟨h.1, h.2.1, h.2.2, by rw [go_n (by decide)]; exact h18, go_n (by decide)⟩
theorem sg_wea {f v sc : Int → Int} {wd m : Int} {b : Bool} (hm : 1 ≤ m ∧ m ≤ 30) (hw : wd ≤ 40) (hN : v 11 = 6 + dlN m + (if b then 7 else 1))
    (f0 : ∀ j, 0 ≤ j → j < 6 → f j = lw 12 j) (f1 : ∀ j, 0 ≤ j → j < dlN m → f (6 + j) = dgC m j) (f2 : b = false → f (6 + dlN m) = 59) (f3 : b = true → ∀ j, 0 ≤ j → j < 7 → f (6 + dlN m + j) = lw 13 j) :
    sgV f (ld0 f v) sc wd 18 = 0 ∧ sgV f (ld0 f v) sc wd 27 = 1 ∧ (sgF f (ld0 f v) sc wd).2 = laS sc 0 2 m (bz b) 0 := by
  have d1 := dlN_p m
  have hN1 : 6 + dlN m + 1 ≤ v 11 := by rw [hN]; split <;> omega
  have hl : ∀ j, 0 ≤ j → j < 5 → f j = wc 9 j ∧ ltB (f j) = true := fun j j0 j1 => by
    have h := lw12_w j.toNat (by omega)
    rw [show ((j.toNat : Nat) : Int) = j by omega] at h
    rw [f0 j j0 (by omega)]
    exact h
  obtain ⟨l11, l14, l15, l16, l18⟩ := ld_w (v := v) (n := 5) (k := 9) ⟨by decide, rfl⟩ (by omega) hl (f0 5 (by decide) (by decide))
  obtain ⟨u, hu⟩ : ∃ u, u = sc0 (ld0 f v) := ⟨_, rfl⟩
  have hsu : ∀ k, k < 27 → u k = ld0 f v k := fun k hk => by rw [hu]; unfold sc0; rw [up_n (by omega), up_n (by omega), up_n (by omega)]
  have u11 : u 11 = v 11 := (hsu 11 (by decide)).trans l11
  have u14 : u 14 = 5 := (hsu 14 (by decide)).trans l14
  have u15 : u 15 = 0 := (hsu 15 (by decide)).trans l15
  have u16 : u 16 = 1 := (hsu 16 (by decide)).trans l16
  have u18 : u 18 = 0 := (hsu 18 (by decide)).trans l18
  have u27 : u 27 = 0 := by rw [hu]; unfold sc0; rw [up_n (by decide), up_n (by decide), up_s]
  have u28 : u 28 = 0 := by rw [hu]; unfold sc0; rw [up_n (by decide), up_s]
  have u29 : u 29 = 0 := by rw [hu]; unfold sc0; rw [up_s]
  have hcm : cmR f u = 2 := by
    unfold cmR
    rw [isW_l (k := 7) (by rw [u14, u15]; decide), isW_l (k := 8) (by rw [u14, u15]; decide), isW_t (k := 9) u18 u16 (by rw [u14, u15]; rfl) (fun j j0 j1 => by rw [u15, Int.zero_add]; exact (hl j j0 j1).1), if_neg (by decide), if_neg (by decide), if_pos rfl]
  have m2 : rm2 f u = u := by
    unfold rm2 rm1
    rw [if_neg (by rw [hcm]; omega), if_neg (by rw [hcm]; decide)]
  obtain ⟨u1, hu1⟩ : ∃ u1, u1 = up u 28 1 := ⟨_, rfl⟩
  have m3 : rm3 f u = goV f u1 := by unfold rm3; rw [m2, u28, hu1]; rfl
  have q3 := nx_n (f := f) (v := u1) (p := 5) (x := m) (by rw [hu1, up_n (by decide)]; exact u14) (by rw [hu1, up_n (by decide)]; exact u18) (by omega) (f0 5 (by decide) (by decide)) (by rw [hu1, up_n (by decide), u11]; omega) f1 (by
    cases hb : b
    · exact Or.inr (f2 hb)
    · refine Or.inl ?_
      have := f3 hb 0 (by decide) (by decide)
      rw [Int.add_zero] at this
      exact this)
  obtain ⟨v3, hv3⟩ : ∃ v3, v3 = goV f u1 := ⟨_, rfl⟩
  rw [← hv3] at q3 m3
  obtain ⟨a14, a15, a16, a17, a18, a11⟩ := q3
  have b11 : v3 11 = v 11 := by rw [a11, hu1, up_n (by decide)]; exact u11
  have hA : rmA f u = m := by unfold rmA; rw [if_neg (by rw [hcm]; decide), if_pos hcm, m3, (se_t a18 a16 (by omega)).2, a17]
  obtain ⟨v4, hv4⟩ : ∃ v4, v4 = goV f v3 := ⟨_, rfl⟩
  have m4 : rm4 f u = v4 := by unfold rm4; rw [if_neg (by rw [hcm]; decide), if_pos hcm, m3, tkt4 a18 a16 (by omega), hv4]
  have m5 : rm5 f u wd = v4 := by unfold rm5; rw [if_neg (by rw [hcm]; decide), m4]
  have hC : rmC f u wd = 0 := by unfold rmC; rw [if_neg (by rw [hcm]; decide)]
  have k4 : ∀ k, 19 < k → k ≠ 28 → v4 k = u k := fun k h1 h2 => by rw [hv4, go_n (by omega), hv3, go_n (by omega), hu1, up_n h2]
  -- the token behind the number, and what comes of it
  have key : ∃ v6, rm6 f u wd = v6 ∧ rmB f u wd = bz b ∧ v6 14 = v 11 ∧ f (v6 15) = 59 ∧ v6 16 = 3 ∧ v6 18 = 0 ∧ v6 11 = v 11 ∧ ∀ k, 19 < k → v6 k = v4 k := by
    cases hb : b
    · have q4 := nx_c (f := f) (v := v3) (p := 6 + dlN m) (by rw [a14]; omega) a18 (by omega) (f2 hb)
      rw [← hv4] at q4
      obtain ⟨c14, c15, c16, c18, c11⟩ := q4
      have hB : rmB f u wd = 0 := by unfold rmB; rw [if_neg (by rw [hcm]; decide), if_pos hcm, m4, isW_k (by rw [c16]; decide)]; rfl
      refine ⟨v4, ?_, hB, ?_, by rw [c15]; exact f2 hb, c16, c18, by omega, fun _ _ => rfl⟩
      · unfold rm6; rw [if_neg (by rw [hB]; omega), m5]
      · rw [c14, hN, hb]; rfl
    · have g := f3 hb
      rw [hb] at hN
      simp only [if_true] at hN
      have hw9 : ∀ j, 0 ≤ j → j < 5 → f (6 + dlN m + 1 + j) = wc 10 j ∧ ltB (f (6 + dlN m + 1 + j)) = true := fun j j0 j1 => by
        have h := lw13_w j.toNat (by omega)
        rw [show ((j.toNat : Nat) : Int) = j by omega] at h
        rw [show 6 + dlN m + 1 + j = 6 + dlN m + (1 + j) by omega, g (1 + j) (by omega) (by omega)]
        exact h
      have g0 := g 0 (by decide) (by decide)
      rw [Int.add_zero] at g0
      have g6 : f (6 + dlN m + 1 + 5) = 59 := by rw [show 6 + dlN m + 1 + 5 = 6 + dlN m + 6 by omega]; exact g 6 (by decide) (by decide)
      have q4 := nx_w (f := f) (v := v3) (p := 6 + dlN m) (n := 5) (k := 10) (by rw [a14]; omega) a18 ⟨by decide, rfl⟩ g0 (by omega) hw9 (by rw [g6]; rfl)
      rw [← hv4] at q4
      obtain ⟨c14, c15, c16, c18, c11⟩ := q4
      have hB : rmB f u wd = 1 := by unfold rmB; rw [if_neg (by rw [hcm]; decide), if_pos hcm, m4, isW_t c18 c16 (by rw [c14, c15]; show _ = (5 : Int); omega) (fun j j0 j1 => by rw [c15]; exact (hw9 j j0 j1).1)]; rfl
      have q6 := nx_c (f := f) (v := v4) (p := 6 + dlN m + 1 + 5) c14 c18 (by omega) g6
      obtain ⟨e14, e15, e16, e18, e11⟩ := q6
      refine ⟨goV f v4, ?_, hB, by rw [e14]; omega, by rw [e15]; exact g6, e16, e18, by omega, fun k hk => go_n (by omega)⟩
      unfold rm6; rw [if_pos ⟨hcm, hB⟩, m5]
  obtain ⟨v6, m6, hB, g14, g15, g16, g18, g11, k6⟩ := key
  have m7 : rm7 f u wd = v6 := by unfold rm7; rw [if_neg (by rw [hcm]; decide), m6]
  have m8 : rm8 f u wd = v6 := by unfold rm8; rw [if_neg (by rw [hcm]; decide), m7]
  have := sg_one (f := f) (v := v) (sc := sc) (wd := wd) l18 l16 (by rw [← hu, m2]; exact u18) (by rw [← hu, m8]; exact g18) (by rw [← hu, m8, k6 27 (by decide), k4 27 (by decide) (by decide)]; exact u27) (by rw [← hu, m8, k6 29 (by decide), k4 29 (by decide) (by decide)]; exact u29) (by rw [← hu, hcm]; decide) (by rw [← hu, m8]; exact g16) (by rw [← hu, m8]; exact g15) (by rw [← hu, m8]; omega)
  rw [← hu, hcm, hA, hB, hC] at this
  exact this
/-- a script of one act, played -/
theorem k_play1 (l : Launch) (X : Cx) (w : Wo) (y : Nat) (σ : Int → Int) (nx sz : Int) (pas : Int → Int → Int) (ac : Int → Int) (N : Int) (fb : Int → Int) (kk a b c : Int) (hK : KT X w y σ nx sz pas ac N fb) (hfb : ∀ i, 0 ≤ i → i < N → 0 ≤ fb i ∧ fb i ≤ 255) (hkk : kk ≠ 5)
    (hsg : ∀ v sc : Int → Int, v 11 = N → sgV fb (ld0 fb v) sc (σ 0) 18 = 0 ∧ sgV fb (ld0 fb v) sc (σ 0) 27 = 1 ∧ (sgF fb (ld0 fb v) sc (σ 0)).2 = laS sc 0 kk a b c) :
    CM l X yX8_play cX8_play 3 (some (.int)) (rmk 9 195) [.ref y] w (some (.int (iI (bz (decide (0 ≤ atO σ kk a b c)))))) (fun w' => (∃ rv : Int → Int, w' (y + 311) = some (.inr (6, rL (y + 307) rv)) ∧ rv 6 = 0) ∧ KS X w' y (dS σ kk a b c) (dN nx σ kk a b c) (dZ sz σ kk a b c) (dH sz pas σ kk a b c) (dA ac σ kk a b c) ∧ ∀ (q : Nat) (e : va_E), w q = some e → outY y q → w' q = some e) := by
  obtain ⟨su, M, oo, rv, hN4, hY, hL, hH, hac, hB, hT, hWB, hWT, hR, hds, hsc, ⟨am, ham⟩, ⟨n0, sd0, x0, y0, co0, f0, hv⟩, hM, hsv⟩ := hK
  obtain ⟨v, hv11⟩ : ∃ v : Int → Int, v 11 = N := ⟨fun _ => N, rfl⟩
  obtain ⟨g1, g2, g3⟩ := hsg v (fun _ => 0) hv11
  have hs := laS_v (fun _ => 0) kk a b c
  have hRC : ∀ (kd ar : Int → Int) (n : Int) (L : List Int), Sg kd ar (sgF fb (ld0 fb v) (fun _ => 0) (σ 0)).2 (σ 0) 0 1 n L → L = [0] ∧ ∀ tl, RC kd ar (sgF fb (ld0 fb v) (fun _ => 0) (σ 0)).2 1 (σ 0) L (-1) tl := fun kd ar n L hS => by
    refine ⟨?_, fun tl => hS.RC (by decide) tl⟩
    rcases hS.inv with ⟨e, -⟩ | ⟨-, n1, L1, h1, e⟩ | ⟨e, -⟩
    · exact absurd e (by decide)
    · rw [e]
      rcases h1.inv with ⟨-, e2⟩ | ⟨-, n2, L2, h2, -⟩ | ⟨-, m, n2, n3, L2, L3, h2, -, h3, -⟩
      · rw [e2]
      · exact absurd h2.le.1 (by decide)
      · have := h2.le.1
        have := h3.le.1
        omega
    · rw [g3] at e
      exact absurd (hs.1.symm.trans e) hkk
  have hp := c_X8_play l X w y su ac am σ nx sz pas N fb v (fun _ => 0) rv _ 1 [0] hY hac ham hL hH hR hB hT hv11 hN4 hfb hsc g1 rfl g2.symm (by decide) hRC
  rw [g3] at hp
  have hrun : runL (okC (laS (fun _ => 0) 0 kk a b c)) (stC (laS (fun _ => 0) 0 kk a b c)) [0] 0 ((σ, ac, nx, sz, pas) : SC) = (bz (decide (0 ≤ atO σ kk a b c)), (dS σ kk a b c, dA ac σ kk a b c, dN nx σ kk a b c, dZ sz σ kk a b c, dH sz pas σ kk a b c)) := by
    have hst : stC (laS (fun _ => 0) 0 kk a b c) ((σ, ac, nx, sz, pas) : SC) 0 = (dS σ kk a b c, dA ac σ kk a b c, dN nx σ kk a b c, dZ sz σ kk a b c, dH sz pas σ kk a b c) := by
      unfold stC
      show (dS σ (laS (fun _ => 0) 0 kk a b c 0) (laS (fun _ => 0) 0 kk a b c 1) (laS (fun _ => 0) 0 kk a b c 2) (laS (fun _ => 0) 0 kk a b c 3), _) = _
      rw [show (4 * (0 : Int)) = 0 from rfl, show (0 : Int) + 1 = 1 from rfl, show (0 : Int) + 2 = 2 from rfl, show (0 : Int) + 3 = 3 from rfl, hs.1, hs.2.1, hs.2.2.1, hs.2.2.2]
    have hok : okC (laS (fun _ => 0) 0 kk a b c) ((σ, ac, nx, sz, pas) : SC) 0 = decide (0 ≤ atO σ kk a b c) := by
      unfold okC
      show decide (0 ≤ atO σ (laS (fun _ => 0) 0 kk a b c 0) (laS (fun _ => 0) 0 kk a b c 1) (laS (fun _ => 0) 0 kk a b c 2) (laS (fun _ => 0) 0 kk a b c 3)) = _
      rw [hs.1, hs.2.1, hs.2.2.1, hs.2.2.2]
    cases ho : decide (0 ≤ atO σ kk a b c)
    · exact (runL_f (S := SC) (n := 0) (by decide) (hok.trans ho)).trans (congrArg (fun z => ((0 : Int), z)) hst)
    · exact (runL_s (S := SC) (n := 0) (by decide) (hok.trans ho)).trans (congrArg (fun z => ((1 : Int), z)) hst)
  rw [hrun] at hp
  refine CM.mono hp (fun w' h => ?_)
  obtain ⟨h1, h2, ⟨mm, h3⟩, h4, h5, h6, ⟨am9, h7⟩, hf⟩ := h
  have g : ∀ q : Nat, (y = q ∨ y + 26 ≤ q ∧ q < y + 53 ∨ y + 255 ≤ q ∧ q < y + 305 ∨ y + 308 ≤ q ∧ q < y + 311 ∨ y + 312 ≤ q ∧ q < y + 315) → w' q = w q := fun q q0 => hf q (by omega) (by omega) (by omega) (by omega) (by omega) (by omega) (by omega)
  exact ⟨⟨_, h3, g1⟩, ⟨su, fb, M, oo, _, (g _ (by omega)).trans hY, h6, h5, h2, h1, (g _ (by omega)).trans hT, (g _ (by omega)).trans hWB, (g _ (by omega)).trans hWT, h3, hds.mv (fun q q0 q1 q2 => g q (by omega)), h4, ⟨am9, h7⟩, ⟨_, _, _, _, _, _, hv.mv (g _ (by omega)) (g _ (by omega))⟩, hM, fun q q0 q1 => by rw [g q (by omega)]; exact hsv q q0 q1⟩, fun q e h9 ho => by unfold outY at ho; exact (hf q (by omega) (by omega) (by omega) (by omega) (by omega) (by omega) (by omega)).trans h9⟩
