/-! ===== the pair goes through add, place, the output ===== -/
set_option maxHeartbeats 2000000 in
theorem pr_add (l : Launch) (X : Cx) (w : Wo) (y mo ao ad : Nat) (hst : l.stackTraces = false) (hST : ST X w y mo ao ad) (p0 p1 p2 p3 : Int) (hp0 : -2147483648 ≤ p0 ∧ p0 < 2147483648) (hp1 : -2147483648 ≤ p1 ∧ p1 < 2147483648) (hp2 : -2147483648 ≤ p2 ∧ p2 < 2147483648) (hp3 : -2147483648 ≤ p3 ∧ p3 < 2147483648) : CA X y mo ao ad (fun k P => CL l X yL_add cL_add 7 (some (.int)) [(0, 14, 17, 19)] (rmx 8 154) [.ref y, .int (iI p0), .int (iI p1), .int (iI p2), .int (iI p3), .ref ao] w (some (.int (iI k))) P) (fun w1 b Q => (∃ fs, w1 mo = some (.inr (9, fs))) ∧ CM l X yX9_add cX9_add 10 (some (.int)) (rmk 2 57) [.ref mo, .int (iI p0), .int (iI p1), .int (iI p2), .int (iI p3)] w1 (some (.int (iI b))) Q) := by
  obtain ⟨su, σ, nx, pas, ac, tx, oo, rv, d, pa, sv, bv, rf, sc, v, hX⟩ := hST
  have hX0 := hX
  obtain ⟨⟨a1, a2, a3⟩, ⟨c0, c1, c2, c3, c4, c5, c6, c7, c8, c9, c10, ⟨am, c11⟩, ⟨n0, sd0, x0, y0, co0, f0, c12⟩, c13⟩, ⟨m0, m1, m2, m3, m4, m5, m6, m7, ⟨tk, m8⟩, m9, ⟨be, m10⟩, ⟨la, m11⟩, m12⟩, ⟨r1, r2, ⟨r3, r4, r5⟩, r6, r7, r8, r9, r10, r11, r12⟩, ⟨g0, o1⟩, g1, o2⟩ := hX0
  have hwf := c1.2.2
  have hR := hX.2.2.2.1
  cases hw : (decide (1 ≤ v 11 ∧ v 11 ≤ 8) && al (fun z => decide (97 ≤ tx z ∧ tx z ≤ 122)) 0 (v 11))
  · refine ⟨1, 0, _, .inr (.inl rfl), ht_add_1 l X w y ao p0 p1 p2 p3 _ _ c0 (x1_add l X w y su σ n0 sd0 x0 y0 co0 f0 (v 11) tx p0 p1 p2 p3 hst c0 c1 c12 c4 c5 r6 r7 hw), fun w1 hP => ?_⟩
    obtain ⟨e4, hn0⟩ := hP
    have hC0 : PC X w1 y su σ nx (v 5) pas ac 0 tx (v 31) oo rv sv bv := ⟨(hn0 _ (by omega)).trans c0, c1.mv (fun q q0 q1 => hn0 q (by omega)), c2.mv (fun q q0 q1 => hn0 q (by omega)), (hn0 _ (by omega)).trans c3, e4, (hn0 _ (by omega)).trans c5, (hn0 _ (by omega)).trans c6, (hn0 _ (by omega)).trans c7, (hn0 _ (by omega)).trans c8, c9.mv (fun q q0 q1 q2 => hn0 q (by omega)), c10.mv (fun q q0 q1 => hn0 q (by omega)), ⟨am, (hn0 _ (by omega)).trans c11⟩, ⟨n0, sd0, x0, y0, co0, f0, c12.mv (hn0 _ (by omega)) (hn0 _ (by omega))⟩, c13.mv (fun q q0 q1 => hn0 q (by omega))⟩
    have hM1 : PM X w1 mo v σ d pa sv bv rf tx oo sc := hX.2.2.1.mv (fun q q0 q1 => hn0 q (by omega))
    obtain ⟨k0, k1, k2, k3, k4, k5, k6, k7, ⟨tk, k8⟩, k9, ⟨be, k10⟩, ⟨la, k11⟩, k12⟩ := hM1
    refine ⟨⟨_, k0⟩, (c_X9_add_x l X w1 mo v σ tx p0 p1 p2 p3 k0 k1 hwf k7 r6 r7 hp0 hp3 (fun z => by rw [hw] at z; exact absurd z.2.2 (by decide))).imp (fun w2 h2 => ?_)⟩
    obtain ⟨e0, hf⟩ := h2
    have hC2 := hC0.mv (w2 := w2) (fun q q0 q1 => hf q (by omega))
    have og := (hf ao (by omega)).trans ((hn0 ao (by omega)).trans o1)
    have od := (hf ad (by omega)).trans ((hn0 ad (by omega)).trans o2)
    exact ⟨⟨su, σ, nx, pas, ac, tx, oo, rv, d, pa, sv, bv, rf, sc, (up (up v 11 0) 6 1), ⟨a1, a2, a3⟩, hC2, ⟨e0, (hf _ (by omega)).trans k1, (hf _ (by omega)).trans k2, (hf _ (by omega)).trans k3, (hf _ (by omega)).trans k4, (hf _ (by omega)).trans k5, (hf _ (by omega)).trans k6, (hf _ (by omega)).trans k7, ⟨tk, (hf _ (by omega)).trans k8⟩, (hf _ (by omega)).trans k9, ⟨be, (hf _ (by omega)).trans k10⟩, ⟨la, (hf _ (by omega)).trans k11⟩, (hf _ (by omega)).trans k12⟩, (RR.txt (N := 0) (hR) (by omega) (fun i i0 i1 => absurd i0 (by omega))).cg ⟨rfl, rfl, rfl, rfl, rfl, rfl, rfl⟩, ⟨⟨_, og⟩, g1, od⟩⟩, ⟨_, e0, rfl⟩, fun z => absurd z (by decide)⟩
  · by_cases hb : (p0 = 0 ∨ p0 = 1) ∧ 1 ≤ p3 ∧ p3 ≤ 6
    · have hsd := hb.1
      have hco := hb.2
      have hwf5 := hwf.1.2.2.2.2.2
      have hwy := why_r (σ := σ) (n := v 11) (sd := p0) (x := p1) (y := p2) (bu := -1)
      by_cases h8 : σ 5 = 8
      · refine ⟨0, (-4), _, .inl rfl, hk_add l X w y ao p0 p1 p2 p3 _ _ c0 _ (c_add_r4 l X w y su ac σ nx (v 5) pas n0 sd0 x0 y0 co0 f0 (v 11) tx p0 p1 p2 p3 c0 c3 c1 c2 c12 c4 c5 r6 r7 hw hsd hco h8) (fun w' h => by obtain ⟨e12, e4, e13, e3, hn0⟩ := h; exact ⟨g0, (hn0 _ (by omega) (by omega) (by omega) (by omega)).trans o1⟩), fun w1 hP => ?_⟩
        obtain ⟨w0, ⟨e12, e4, e13, e3, hn0⟩, ⟨g, hg, hgv⟩, hn⟩ := hP
        have hC0 : PC X w0 y su σ nx (v 5) pas (up ac 4 (ac 4 + 1)) 0 tx (v 31) oo rv sv bv := ⟨(hn0 _ (by omega) (by omega) (by omega) (by omega)).trans c0, c1.mv (fun q q0 q1 => hn0 q (by omega) (by omega) (by omega) (by omega)), c2.mv (fun q q0 q1 => hn0 q (by omega) (by omega) (by omega) (by omega)), e3, e4, (hn0 _ (by omega) (by omega) (by omega) (by omega)).trans c5, (hn0 _ (by omega) (by omega) (by omega) (by omega)).trans c6, (hn0 _ (by omega) (by omega) (by omega) (by omega)).trans c7, (hn0 _ (by omega) (by omega) (by omega) (by omega)).trans c8, c9.mv (fun q q0 q1 q2 => hn0 q (by omega) (by omega) (by omega) (by omega)), c10.mv (fun q q0 q1 => hn0 q (by omega) (by omega) (by omega) (by omega)), ⟨am, (hn0 _ (by omega) (by omega) (by omega) (by omega)).trans c11⟩, ⟨_, _, _, _, _, _, e12, e13⟩, c13.mv (fun q q0 q1 => hn0 q (by omega) (by omega) (by omega) (by omega))⟩
        have hM1 : PM X w1 mo v σ d pa sv bv rf tx oo sc := hX.2.2.1.mv (fun q q0 q1 => (hn q (by omega)).trans (hn0 q (by omega) (by omega) (by omega) (by omega)))
        obtain ⟨k0, k1, k2, k3, k4, k5, k6, k7, ⟨tk, k8⟩, k9, ⟨be, k10⟩, ⟨la, k11⟩, k12⟩ := hM1
        refine ⟨⟨_, k0⟩, (c_X9_add_r4 l X w1 mo v σ rf tx p0 p1 p2 p3 k0 k1 hwf k6 k7 r6 r7 hsd hco hw h8).imp (fun w2 h2 => ?_)⟩
        obtain ⟨e0, u6, hf⟩ := h2
        have hC2 := hC0.mv (w2 := w2) (fun q q0 q1 => (hf q (by omega) (by omega)).trans (hn q (by omega)))
        have og := (hf ao (by omega) (by omega)).trans hg
        have od := (hf ad (by omega) (by omega)).trans ((hn ad (by omega)).trans ((hn0 ad (by omega) (by omega) (by omega) (by omega)).trans o2))
        exact ⟨⟨su, σ, nx, pas, (up ac 4 (ac 4 + 1)), tx, oo, rv, d, pa, sv, bv, (up rf 4 (rf 4 + 1)), sc, (up (up v 11 0) 6 0), ⟨a1, a2, a3⟩, hC2, ⟨e0, (hf _ (by omega) (by omega)).trans k1, (hf _ (by omega) (by omega)).trans k2, (hf _ (by omega) (by omega)).trans k3, (hf _ (by omega) (by omega)).trans k4, (hf _ (by omega) (by omega)).trans k5, u6, (hf _ (by omega) (by omega)).trans k7, ⟨tk, (hf _ (by omega) (by omega)).trans k8⟩, (hf _ (by omega) (by omega)).trans k9, ⟨be, (hf _ (by omega) (by omega)).trans k10⟩, ⟨la, (hf _ (by omega) (by omega)).trans k11⟩, (hf _ (by omega) (by omega)).trans k12⟩, (RR.txt (N := 0) (RR.ref hR (by omega)) (by omega) (fun i i0 i1 => absurd i0 (by omega))).cg ⟨rfl, rfl, rfl, rfl, rfl, rfl, rfl⟩, ⟨⟨_, og⟩, g1, od⟩⟩, ⟨_, e0, rfl⟩, fun _ => ⟨g, og, hgv⟩⟩
      · by_cases h1 : whyS σ (v 11) p0 p1 p2 (-1) = 0
        · refine ⟨0, (σ 5), _, .inl rfl, hk_add l X w y ao p0 p1 p2 p3 _ _ c0 _ (c_X8_add l X w y su ac σ nx (v 5) pas n0 sd0 x0 y0 co0 f0 (v 11) tx p0 p1 p2 p3 c0 c3 c1 c2 c12 c4 c5 r6 r7 hw hsd hco hp1 hp2 (by omega) h1) (fun w' h => by obtain ⟨e12, e4, e13, e3, e2, e1, hn0⟩ := h; exact ⟨g0, (hn0 _ (by omega) (by omega) (by omega) (by omega) (by omega) (by omega)).trans o1⟩), fun w1 hP => ?_⟩
          obtain ⟨w0, ⟨e12, e4, e13, e3, e2, e1, hn0⟩, ⟨g, hg, hgv⟩, hn⟩ := hP
          have hC0 : PC X w0 y su (adS σ (v 11) p0 p1 p2 p3 tx) ((if nx = 8 then 0 else nx) + 1) (min 8 (v 5 + 1)) (keepP (v 5) pas σ) (up ac 0 (ac 0 + 1)) 0 tx (v 31) oo rv sv bv := ⟨(hn0 _ (by omega) (by omega) (by omega) (by omega) (by omega) (by omega)).trans c0, e1, e2, e3, e4, (hn0 _ (by omega) (by omega) (by omega) (by omega) (by omega) (by omega)).trans c5, (hn0 _ (by omega) (by omega) (by omega) (by omega) (by omega) (by omega)).trans c6, (hn0 _ (by omega) (by omega) (by omega) (by omega) (by omega) (by omega)).trans c7, (hn0 _ (by omega) (by omega) (by omega) (by omega) (by omega) (by omega)).trans c8, c9.mv (fun q q0 q1 q2 => hn0 q (by omega) (by omega) (by omega) (by omega) (by omega) (by omega)), c10.mv (fun q q0 q1 => hn0 q (by omega) (by omega) (by omega) (by omega) (by omega) (by omega)), ⟨am, (hn0 _ (by omega) (by omega) (by omega) (by omega) (by omega) (by omega)).trans c11⟩, ⟨_, _, _, _, _, _, e12, e13⟩, c13.mv (fun q q0 q1 => hn0 q (by omega) (by omega) (by omega) (by omega) (by omega) (by omega))⟩
          have hM1 : PM X w1 mo v σ d pa sv bv rf tx oo sc := hX.2.2.1.mv (fun q q0 q1 => (hn q (by omega)).trans (hn0 q (by omega) (by omega) (by omega) (by omega) (by omega) (by omega)))
          obtain ⟨k0, k1, k2, k3, k4, k5, k6, k7, ⟨tk, k8⟩, k9, ⟨be, k10⟩, ⟨la, k11⟩, k12⟩ := hM1
          refine ⟨⟨_, k0⟩, (c_X9_add l X w1 mo v σ pa tx p0 p1 p2 p3 k0 k1 hwf k3 r1 k7 r6 r7 hsd hco hw hp1 hp2 (by omega) h1).imp (fun w2 h2 => ?_)⟩
          obtain ⟨e0, u1, u3, hf⟩ := h2
          have hC2 := hC0.mv (w2 := w2) (fun q q0 q1 => (hf q (by omega) (by omega) (by omega)).trans (hn q (by omega)))
          have og := (hf ao (by omega) (by omega) (by omega)).trans hg
          have od := (hf ad (by omega) (by omega) (by omega)).trans ((hn ad (by omega)).trans ((hn0 ad (by omega) (by omega) (by omega) (by omega) (by omega) (by omega)).trans o2))
          exact ⟨⟨su, (adS σ (v 11) p0 p1 p2 p3 tx), ((if nx = 8 then 0 else nx) + 1), (keepP (v 5) pas σ), (up ac 0 (ac 0 + 1)), tx, oo, rv, d, (actP (v 5) pa σ), sv, bv, rf, sc, (up (up (up (up v 11 0) 6 0) 5 (min 8 (v 5 + 1))) 8 (v 8 + 1)), ⟨a1, a2, a3⟩, hC2, ⟨e0, u1, (hf _ (by omega) (by omega) (by omega)).trans k2, u3, (hf _ (by omega) (by omega) (by omega)).trans k4, (hf _ (by omega) (by omega) (by omega)).trans k5, (hf _ (by omega) (by omega) (by omega)).trans k6, (hf _ (by omega) (by omega) (by omega)).trans k7, ⟨tk, (hf _ (by omega) (by omega) (by omega)).trans k8⟩, (hf _ (by omega) (by omega) (by omega)).trans k9, ⟨be, (hf _ (by omega) (by omega) (by omega)).trans k10⟩, ⟨la, (hf _ (by omega) (by omega) (by omega)).trans k11⟩, (hf _ (by omega) (by omega) (by omega)).trans k12⟩, (RR.txt (N := 0) (RR.act hR) (by omega) (fun i i0 i1 => absurd i0 (by omega))).cg ⟨rfl, rfl, rfl, rfl, rfl, rfl, rfl⟩, ⟨⟨_, og⟩, g1, od⟩⟩, ⟨_, e0, rfl⟩, fun _ => ⟨g, og, hgv⟩⟩
        · refine ⟨0, (-(whyS σ (v 11) p0 p1 p2 (-1))), _, .inl rfl, hk_add l X w y ao p0 p1 p2 p3 _ _ c0 _ (c_add_r l X w y su ac σ nx (v 5) pas n0 sd0 x0 y0 co0 f0 (v 11) tx p0 p1 p2 p3 _ c0 c3 c1 c2 c12 c4 c5 r6 r7 hw hsd hco hp1 hp2 (by omega) rfl (by omega)) (fun w' h => by obtain ⟨e12, e4, e13, e3, hn0⟩ := h; exact ⟨g0, (hn0 _ (by omega) (by omega) (by omega) (by omega)).trans o1⟩), fun w1 hP => ?_⟩
          obtain ⟨w0, ⟨e12, e4, e13, e3, hn0⟩, ⟨g, hg, hgv⟩, hn⟩ := hP
          have hC0 : PC X w0 y su σ nx (v 5) pas (up ac (whyS σ (v 11) p0 p1 p2 (-1)) (ac (whyS σ (v 11) p0 p1 p2 (-1)) + 1)) 0 tx (v 31) oo rv sv bv := ⟨(hn0 _ (by omega) (by omega) (by omega) (by omega)).trans c0, c1.mv (fun q q0 q1 => hn0 q (by omega) (by omega) (by omega) (by omega)), c2.mv (fun q q0 q1 => hn0 q (by omega) (by omega) (by omega) (by omega)), e3, e4, (hn0 _ (by omega) (by omega) (by omega) (by omega)).trans c5, (hn0 _ (by omega) (by omega) (by omega) (by omega)).trans c6, (hn0 _ (by omega) (by omega) (by omega) (by omega)).trans c7, (hn0 _ (by omega) (by omega) (by omega) (by omega)).trans c8, c9.mv (fun q q0 q1 q2 => hn0 q (by omega) (by omega) (by omega) (by omega)), c10.mv (fun q q0 q1 => hn0 q (by omega) (by omega) (by omega) (by omega)), ⟨am, (hn0 _ (by omega) (by omega) (by omega) (by omega)).trans c11⟩, ⟨_, _, _, _, _, _, e12, e13⟩, c13.mv (fun q q0 q1 => hn0 q (by omega) (by omega) (by omega) (by omega))⟩
          have hM1 : PM X w1 mo v σ d pa sv bv rf tx oo sc := hX.2.2.1.mv (fun q q0 q1 => (hn q (by omega)).trans (hn0 q (by omega) (by omega) (by omega) (by omega)))
          obtain ⟨k0, k1, k2, k3, k4, k5, k6, k7, ⟨tk, k8⟩, k9, ⟨be, k10⟩, ⟨la, k11⟩, k12⟩ := hM1
          refine ⟨⟨_, k0⟩, (c_X9_add_r l X w1 mo v σ rf tx p0 p1 p2 p3 _ k0 k1 hwf k6 k7 r6 r7 hsd hco hw hp1 hp2 (by omega) rfl (by omega)).imp (fun w2 h2 => ?_)⟩
          obtain ⟨e0, u6, hf⟩ := h2
          have hC2 := hC0.mv (w2 := w2) (fun q q0 q1 => (hf q (by omega) (by omega)).trans (hn q (by omega)))
          have og := (hf ao (by omega) (by omega)).trans hg
          have od := (hf ad (by omega) (by omega)).trans ((hn ad (by omega)).trans ((hn0 ad (by omega) (by omega) (by omega) (by omega)).trans o2))
          exact ⟨⟨su, σ, nx, pas, (up ac (whyS σ (v 11) p0 p1 p2 (-1)) (ac (whyS σ (v 11) p0 p1 p2 (-1)) + 1)), tx, oo, rv, d, pa, sv, bv, (up rf (whyS σ (v 11) p0 p1 p2 (-1)) (rf (whyS σ (v 11) p0 p1 p2 (-1)) + 1)), sc, (up (up v 11 0) 6 0), ⟨a1, a2, a3⟩, hC2, ⟨e0, (hf _ (by omega) (by omega)).trans k1, (hf _ (by omega) (by omega)).trans k2, (hf _ (by omega) (by omega)).trans k3, (hf _ (by omega) (by omega)).trans k4, (hf _ (by omega) (by omega)).trans k5, u6, (hf _ (by omega) (by omega)).trans k7, ⟨tk, (hf _ (by omega) (by omega)).trans k8⟩, (hf _ (by omega) (by omega)).trans k9, ⟨be, (hf _ (by omega) (by omega)).trans k10⟩, ⟨la, (hf _ (by omega) (by omega)).trans k11⟩, (hf _ (by omega) (by omega)).trans k12⟩, (RR.txt (N := 0) (RR.ref hR (by omega)) (by omega) (fun i i0 i1 => absurd i0 (by omega))).cg ⟨rfl, rfl, rfl, rfl, rfl, rfl, rfl⟩, ⟨⟨_, og⟩, g1, od⟩⟩, ⟨_, e0, rfl⟩, fun _ => ⟨g, og, hgv⟩⟩
    · refine ⟨1, 0, _, .inr (.inl rfl), ht_add_1 l X w y ao p0 p1 p2 p3 _ _ c0 (x2_add l X w y su σ n0 sd0 x0 y0 co0 f0 (v 11) tx p0 p1 p2 p3 hst c0 c1 c12 c4 c5 r6 r7 hw hp0 hp3 hb), fun w1 hP => ?_⟩
      obtain ⟨e12, e4, e13, hn0⟩ := hP
      have hC0 : PC X w1 y su σ nx (v 5) pas ac 0 tx (v 31) oo rv sv bv := ⟨(hn0 _ (by omega) (by omega) (by omega)).trans c0, c1.mv (fun q q0 q1 => hn0 q (by omega) (by omega) (by omega)), c2.mv (fun q q0 q1 => hn0 q (by omega) (by omega) (by omega)), (hn0 _ (by omega) (by omega) (by omega)).trans c3, e4, (hn0 _ (by omega) (by omega) (by omega)).trans c5, (hn0 _ (by omega) (by omega) (by omega)).trans c6, (hn0 _ (by omega) (by omega) (by omega)).trans c7, (hn0 _ (by omega) (by omega) (by omega)).trans c8, c9.mv (fun q q0 q1 q2 => hn0 q (by omega) (by omega) (by omega)), c10.mv (fun q q0 q1 => hn0 q (by omega) (by omega) (by omega)), ⟨am, (hn0 _ (by omega) (by omega) (by omega)).trans c11⟩, ⟨_, _, _, _, _, _, e12, e13⟩, c13.mv (fun q q0 q1 => hn0 q (by omega) (by omega) (by omega))⟩
      have hM1 : PM X w1 mo v σ d pa sv bv rf tx oo sc := hX.2.2.1.mv (fun q q0 q1 => hn0 q (by omega) (by omega) (by omega))
      obtain ⟨k0, k1, k2, k3, k4, k5, k6, k7, ⟨tk, k8⟩, k9, ⟨be, k10⟩, ⟨la, k11⟩, k12⟩ := hM1
      refine ⟨⟨_, k0⟩, (c_X9_add_x l X w1 mo v σ tx p0 p1 p2 p3 k0 k1 hwf k7 r6 r7 hp0 hp3 (fun z => hb ⟨by have := z.1; omega, z.2.1⟩)).imp (fun w2 h2 => ?_)⟩
      obtain ⟨e0, hf⟩ := h2
      have hC2 := hC0.mv (w2 := w2) (fun q q0 q1 => hf q (by omega))
      have og := (hf ao (by omega)).trans ((hn0 ao (by omega) (by omega) (by omega)).trans o1)
      have od := (hf ad (by omega)).trans ((hn0 ad (by omega) (by omega) (by omega)).trans o2)
      exact ⟨⟨su, σ, nx, pas, ac, tx, oo, rv, d, pa, sv, bv, rf, sc, (up (up v 11 0) 6 1), ⟨a1, a2, a3⟩, hC2, ⟨e0, (hf _ (by omega)).trans k1, (hf _ (by omega)).trans k2, (hf _ (by omega)).trans k3, (hf _ (by omega)).trans k4, (hf _ (by omega)).trans k5, (hf _ (by omega)).trans k6, (hf _ (by omega)).trans k7, ⟨tk, (hf _ (by omega)).trans k8⟩, (hf _ (by omega)).trans k9, ⟨be, (hf _ (by omega)).trans k10⟩, ⟨la, (hf _ (by omega)).trans k11⟩, (hf _ (by omega)).trans k12⟩, (RR.txt (N := 0) (hR) (by omega) (fun i i0 i1 => absurd i0 (by omega))).cg ⟨rfl, rfl, rfl, rfl, rfl, rfl, rfl⟩, ⟨⟨_, og⟩, g1, od⟩⟩, ⟨_, e0, rfl⟩, fun z => absurd z (by decide)⟩
set_option maxHeartbeats 2000000 in
theorem pr_place (l : Launch) (X : Cx) (w : Wo) (y mo ao ad : Nat) (hst : l.stackTraces = false) (hST : ST X w y mo ao ad) (p0 p1 : Int) (hp0 : -2147483648 ≤ p0 ∧ p0 < 2147483648) (hp1 : -2147483648 ≤ p1 ∧ p1 < 2147483648) : CA X y mo ao ad (fun k P => CL l X yL_place cL_place 5 (some (.int)) [(0, 10, 13, 19)] (rmx 8 128) [.ref y, .int (iI p0), .int (iI p1), .ref ao] w (some (.int (iI k))) P) (fun w1 b Q => (∃ fs, w1 mo = some (.inr (9, fs))) ∧ CM l X yX9_place cX9_place 5 (some (.int)) (rmk 2 45) [.ref mo, .int (iI p0), .int (iI p1)] w1 (some (.int (iI b))) Q) := by
  obtain ⟨su, σ, nx, pas, ac, tx, oo, rv, d, pa, sv, bv, rf, sc, v, hX⟩ := hST
  have hX0 := hX
  obtain ⟨⟨a1, a2, a3⟩, ⟨c0, c1, c2, c3, c4, c5, c6, c7, c8, c9, c10, ⟨am, c11⟩, ⟨n0, sd0, x0, y0, co0, f0, c12⟩, c13⟩, ⟨m0, m1, m2, m3, m4, m5, m6, m7, ⟨tk, m8⟩, m9, ⟨be, m10⟩, ⟨la, m11⟩, m12⟩, ⟨r1, r2, ⟨r3, r4, r5⟩, r6, r7, r8, r9, r10, r11, r12⟩, ⟨g0, o1⟩, g1, o2⟩ := hX0
  have hwf := c1.2.2
  have hR := hX.2.2.2.1
  by_cases hb : 1 ≤ p0 ∧ p0 ≤ 8 ∧ (p1 = 0 ∨ p1 = 1)
  · refine ⟨0, (plQ σ p0 p1), _, .inl rfl, hk_place l X w y ao p0 p1 _ _ c0 _ (c_X8_place l X w y su σ n0 sd0 x0 y0 co0 f0 p0 p1 c0 c1 c12 (by omega) hb.2.2) (fun w' h => by obtain ⟨e12, hn0⟩ := h; exact ⟨g0, (hn0 _ (by omega)).trans o1⟩), fun w1 hP => ?_⟩
    obtain ⟨w0, ⟨e12, hn0⟩, ⟨g, hg, hgv⟩, hn⟩ := hP
    have hC0 : PC X w0 y su σ nx (v 5) pas ac (v 11) tx (v 31) oo rv sv bv := ⟨(hn0 _ (by omega)).trans c0, c1.mv (fun q q0 q1 => hn0 q (by omega)), c2.mv (fun q q0 q1 => hn0 q (by omega)), (hn0 _ (by omega)).trans c3, (hn0 _ (by omega)).trans c4, (hn0 _ (by omega)).trans c5, (hn0 _ (by omega)).trans c6, (hn0 _ (by omega)).trans c7, (hn0 _ (by omega)).trans c8, c9.mv (fun q q0 q1 q2 => hn0 q (by omega)), c10.mv (fun q q0 q1 => hn0 q (by omega)), ⟨am, (hn0 _ (by omega)).trans c11⟩, e12, c13.mv (fun q q0 q1 => hn0 q (by omega))⟩
    have hM1 : PM X w1 mo v σ d pa sv bv rf tx oo sc := hX.2.2.1.mv (fun q q0 q1 => (hn q (by omega)).trans (hn0 q (by omega)))
    obtain ⟨k0, k1, k2, k3, k4, k5, k6, k7, ⟨tk, k8⟩, k9, ⟨be, k10⟩, ⟨la, k11⟩, k12⟩ := hM1
    refine ⟨⟨_, k0⟩, (c_X9_place l X w1 mo v σ p0 p1 k0 k1 hwf (by omega) (by omega)).imp (fun w2 h2 => ?_)⟩
    obtain ⟨e0, hf⟩ := h2
    have hC2 := hC0.mv (w2 := w2) (fun q q0 q1 => (hf q (by omega)).trans (hn q (by omega)))
    have og := (hf ao (by omega)).trans hg
    have od := (hf ad (by omega)).trans ((hn ad (by omega)).trans ((hn0 ad (by omega)).trans o2))
    exact ⟨⟨su, σ, nx, pas, ac, tx, oo, rv, d, pa, sv, bv, rf, sc, (up v 6 0), ⟨a1, a2, a3⟩, hC2, ⟨e0, (hf _ (by omega)).trans k1, (hf _ (by omega)).trans k2, (hf _ (by omega)).trans k3, (hf _ (by omega)).trans k4, (hf _ (by omega)).trans k5, (hf _ (by omega)).trans k6, (hf _ (by omega)).trans k7, ⟨tk, (hf _ (by omega)).trans k8⟩, (hf _ (by omega)).trans k9, ⟨be, (hf _ (by omega)).trans k10⟩, ⟨la, (hf _ (by omega)).trans k11⟩, (hf _ (by omega)).trans k12⟩, hR.cg ⟨rfl, rfl, rfl, rfl, rfl, rfl, rfl⟩, ⟨⟨_, og⟩, g1, od⟩⟩, ⟨_, e0, rfl⟩, fun _ => ⟨g, og, hgv⟩⟩
  · refine ⟨1, 0, _, .inr (.inl rfl), ht_place_1 l X w y ao p0 p1 _ _ c0 (x_X8_place l X w y su σ p0 p1 hst c0 c1 hp0 hp1 hb), fun w1 hP => ?_⟩
    obtain rfl : w1 = w := hP
    have k0 := m0
    have k1 := m1
    refine ⟨⟨_, k0⟩, (c_X9_place_x l X w1 mo v σ p0 p1 k0 k1 hwf hp0 hp1 (by omega)).imp (fun w2 h2 => ?_)⟩
    obtain ⟨e0, hf⟩ := h2
    exact ⟨hX.read e0 ⟨rfl, rfl, rfl, rfl, rfl, rfl, rfl⟩ (fun q q0 q1 q2 q3 q4 => hf q q0) ⟨⟨g0, (hf _ (by omega)).trans o1⟩, g1, (hf _ (by omega)).trans o2⟩ ⟨n0, sd0, x0, y0, co0, f0, c12.mv (hf _ (by omega)) (hf _ (by omega))⟩ ⟨am, (hf _ (by omega)).trans c11⟩, ⟨_, e0, rfl⟩, fun z => absurd z (by decide)⟩
set_option maxHeartbeats 2000000 in
theorem pr_writeRow (l : Launch) (X : Cx) (w : Wo) (y mo ao ad : Nat) (hst : l.stackTraces = false) (hST : ST X w y mo ao ad) (p0 : Int) (b1 : Bool) (hp0 : -2147483648 ≤ p0 ∧ p0 < 2147483648) : CA X y mo ao ad (fun k P => CL l X yL_writeRow cL_writeRow 5 (some (.int)) [(0, 10, 13, 28)] (rmx 8 129) [.ref y, .int (iI p0), .int (iI (bz b1)), .ref ao] w (some (.int (iI k))) P) (fun w1 b Q => (∃ fs, w1 mo = some (.inr (9, fs))) ∧ CM l X yX9_writeRow cX9_writeRow 6 (some (.int)) (rmk 4 92) [.ref mo, .int (iI p0), .int (iI (bz b1))] w1 (some (.int (iI b))) Q) := by
  obtain ⟨su, σ, nx, pas, ac, tx, oo, rv, d, pa, sv, bv, rf, sc, v, hX⟩ := hST
  have hX0 := hX
  obtain ⟨⟨a1, a2, a3⟩, ⟨c0, c1, c2, c3, c4, c5, c6, c7, c8, c9, c10, ⟨am, c11⟩, ⟨n0, sd0, x0, y0, co0, f0, c12⟩, c13⟩, ⟨m0, m1, m2, m3, m4, m5, m6, m7, ⟨tk, m8⟩, m9, ⟨be, m10⟩, ⟨la, m11⟩, m12⟩, ⟨r1, r2, ⟨r3, r4, r5⟩, r6, r7, r8, r9, r10, r11, r12⟩, ⟨g0, o1⟩, g1, o2⟩ := hX0
  have hwf := c1.2.2
  have hR := hX.2.2.2.1
  by_cases hb : 0 ≤ p0 ∧ p0 < σ 1
  · have hwl := wrL_r σ p0 b1 (σ 0).toNat
    have hF := hwf.1
    unfold WF0 at hF
    skip
    · refine ⟨0, (wrL σ p0 b1 (σ 0).toNat), _, .inl rfl, hk_writeRow l X w y ao p0 b1 _ _ c0 _ (c_X8_writeRow l X w y su σ (v 31) oo p0 b1 c0 c1 c6 c7 hb) (fun w' h => by obtain ⟨e6, e7, hn0⟩ := h; exact ⟨g0, (hn0 _ (by omega) (by omega)).trans o1⟩), fun w1 hP => ?_⟩
      obtain ⟨w0, ⟨e6, e7, hn0⟩, ⟨g, hg, hgv⟩, hn⟩ := hP
      have hC0 : PC X w0 y su σ nx (v 5) pas ac (v 11) tx (wrL σ p0 b1 (σ 0).toNat) (wrF oo σ p0 b1 (σ 0).toNat) rv sv bv := ⟨(hn0 _ (by omega) (by omega)).trans c0, c1.mv (fun q q0 q1 => hn0 q (by omega) (by omega)), c2.mv (fun q q0 q1 => hn0 q (by omega) (by omega)), (hn0 _ (by omega) (by omega)).trans c3, (hn0 _ (by omega) (by omega)).trans c4, (hn0 _ (by omega) (by omega)).trans c5, e6, e7, (hn0 _ (by omega) (by omega)).trans c8, c9.mv (fun q q0 q1 q2 => hn0 q (by omega) (by omega)), c10.mv (fun q q0 q1 => hn0 q (by omega) (by omega)), ⟨am, (hn0 _ (by omega) (by omega)).trans c11⟩, ⟨n0, sd0, x0, y0, co0, f0, c12.mv (hn0 _ (by omega) (by omega)) (hn0 _ (by omega) (by omega))⟩, c13.mv (fun q q0 q1 => hn0 q (by omega) (by omega))⟩
      have hM1 : PM X w1 mo v σ d pa sv bv rf tx oo sc := hX.2.2.1.mv (fun q q0 q1 => (hn q (by omega)).trans (hn0 q (by omega) (by omega)))
      obtain ⟨k0, k1, k2, k3, k4, k5, k6, k7, ⟨tk, k8⟩, k9, ⟨be, k10⟩, ⟨la, k11⟩, k12⟩ := hM1
      refine ⟨⟨_, k0⟩, (c_X9_writeRow l X w1 mo v σ oo p0 b1 k0 k1 hwf k12 hb).imp (fun w2 h2 => ?_)⟩
      obtain ⟨e0, u12, hf⟩ := h2
      have hC2 := hC0.mv (w2 := w2) (fun q q0 q1 => (hf q (by omega) (by omega)).trans (hn q (by omega)))
      have og := (hf ao (by omega) (by omega)).trans hg
      have od := (hf ad (by omega) (by omega)).trans ((hn ad (by omega)).trans ((hn0 ad (by omega) (by omega)).trans o2))
      exact ⟨⟨su, σ, nx, pas, ac, tx, (wrF oo σ p0 b1 (σ 0).toNat), rv, d, pa, sv, bv, rf, sc, (up (up v 6 0) 31 (wrL σ p0 b1 (σ 0).toNat)), ⟨a1, a2, a3⟩, hC2, ⟨e0, (hf _ (by omega) (by omega)).trans k1, (hf _ (by omega) (by omega)).trans k2, (hf _ (by omega) (by omega)).trans k3, (hf _ (by omega) (by omega)).trans k4, (hf _ (by omega) (by omega)).trans k5, (hf _ (by omega) (by omega)).trans k6, (hf _ (by omega) (by omega)).trans k7, ⟨tk, (hf _ (by omega) (by omega)).trans k8⟩, (hf _ (by omega) (by omega)).trans k9, ⟨be, (hf _ (by omega) (by omega)).trans k10⟩, ⟨la, (hf _ (by omega) (by omega)).trans k11⟩, u12⟩, (RR.out (M := wrL σ p0 b1 (σ 0).toNat) hR (by omega)).cg ⟨rfl, rfl, rfl, rfl, rfl, rfl, rfl⟩, ⟨⟨_, og⟩, g1, od⟩⟩, ⟨_, e0, rfl⟩, fun _ => ⟨g, og, hgv⟩⟩
  · refine ⟨1, 0, _, .inr (.inl rfl), ht_writeRow_1 l X w y ao p0 b1 _ _ c0 (x_X8_writeRow l X w y su σ p0 b1 hst c0 c1 hp0 hb), fun w1 hP => ?_⟩
    obtain rfl : w1 = w := hP
    have k0 := m0
    have k1 := m1
    refine ⟨⟨_, k0⟩, (c_X9_writeRow_x l X w1 mo v σ p0 b1 k0 k1 hwf hp0 hb).imp (fun w2 h2 => ?_)⟩
    obtain ⟨e0, hf⟩ := h2
    exact ⟨hX.read e0 ⟨rfl, rfl, rfl, rfl, rfl, rfl, rfl⟩ (fun q q0 q1 q2 q3 q4 => hf q q0) ⟨⟨g0, (hf _ (by omega)).trans o1⟩, g1, (hf _ (by omega)).trans o2⟩ ⟨n0, sd0, x0, y0, co0, f0, c12.mv (hf _ (by omega)) (hf _ (by omega))⟩ ⟨am, (hf _ (by omega)).trans c11⟩, ⟨_, e0, rfl⟩, fun z => absurd z (by decide)⟩
set_option maxHeartbeats 2000000 in
theorem pr_writeCaption (l : Launch) (X : Cx) (w : Wo) (y mo ao ad : Nat) (hst : l.stackTraces = false) (hST : ST X w y mo ao ad) (p0 : Int) (hp0 : -2147483648 ≤ p0 ∧ p0 < 2147483648) : CA X y mo ao ad (fun k P => CL l X yL_writeCaption cL_writeCaption 4 (some (.int)) [(0, 9, 12, 28)] (rmx 8 127) [.ref y, .int (iI p0), .ref ao] w (some (.int (iI k))) P) (fun w1 b Q => (∃ fs, w1 mo = some (.inr (9, fs))) ∧ CM l X yX9_writeCaption cX9_writeCaption 4 (some (.int)) (rmk 4 97) [.ref mo, .int (iI p0)] w1 (some (.int (iI b))) Q) := by
  obtain ⟨su, σ, nx, pas, ac, tx, oo, rv, d, pa, sv, bv, rf, sc, v, hX⟩ := hST
  have hX0 := hX
  obtain ⟨⟨a1, a2, a3⟩, ⟨c0, c1, c2, c3, c4, c5, c6, c7, c8, c9, c10, ⟨am, c11⟩, ⟨n0, sd0, x0, y0, co0, f0, c12⟩, c13⟩, ⟨m0, m1, m2, m3, m4, m5, m6, m7, ⟨tk, m8⟩, m9, ⟨be, m10⟩, ⟨la, m11⟩, m12⟩, ⟨r1, r2, ⟨r3, r4, r5⟩, r6, r7, r8, r9, r10, r11, r12⟩, ⟨g0, o1⟩, g1, o2⟩ := hX0
  have hwf := c1.2.2
  have hR := hX.2.2.2.1
  by_cases hb : 0 ≤ p0 ∧ p0 < σ 5
  · have hcp := (hwf.2.2.1 p0 hb.1 hb.2).1
    · refine ⟨0, (cp σ p0 0), _, .inl rfl, hk_writeCaption l X w y ao p0 _ _ c0 _ (c_X8_writeCaption l X w y su σ (v 31) oo p0 c0 c1 c6 c7 hb) (fun w' h => by obtain ⟨e6, e7, hn0⟩ := h; exact ⟨g0, (hn0 _ (by omega) (by omega)).trans o1⟩), fun w1 hP => ?_⟩
      obtain ⟨w0, ⟨e6, e7, hn0⟩, ⟨g, hg, hgv⟩, hn⟩ := hP
      have hC0 : PC X w0 y su σ nx (v 5) pas ac (v 11) tx (cp σ p0 0) (wcF oo σ p0 (cp σ p0 0).toNat) rv sv bv := ⟨(hn0 _ (by omega) (by omega)).trans c0, c1.mv (fun q q0 q1 => hn0 q (by omega) (by omega)), c2.mv (fun q q0 q1 => hn0 q (by omega) (by omega)), (hn0 _ (by omega) (by omega)).trans c3, (hn0 _ (by omega) (by omega)).trans c4, (hn0 _ (by omega) (by omega)).trans c5, e6, e7, (hn0 _ (by omega) (by omega)).trans c8, c9.mv (fun q q0 q1 q2 => hn0 q (by omega) (by omega)), c10.mv (fun q q0 q1 => hn0 q (by omega) (by omega)), ⟨am, (hn0 _ (by omega) (by omega)).trans c11⟩, ⟨n0, sd0, x0, y0, co0, f0, c12.mv (hn0 _ (by omega) (by omega)) (hn0 _ (by omega) (by omega))⟩, c13.mv (fun q q0 q1 => hn0 q (by omega) (by omega))⟩
      have hM1 : PM X w1 mo v σ d pa sv bv rf tx oo sc := hX.2.2.1.mv (fun q q0 q1 => (hn q (by omega)).trans (hn0 q (by omega) (by omega)))
      obtain ⟨k0, k1, k2, k3, k4, k5, k6, k7, ⟨tk, k8⟩, k9, ⟨be, k10⟩, ⟨la, k11⟩, k12⟩ := hM1
      refine ⟨⟨_, k0⟩, (c_X9_writeCaption l X w1 mo v σ oo p0 k0 k1 hwf k12 hb).imp (fun w2 h2 => ?_)⟩
      obtain ⟨e0, u12, hf⟩ := h2
      have hC2 := hC0.mv (w2 := w2) (fun q q0 q1 => (hf q (by omega) (by omega)).trans (hn q (by omega)))
      have og := (hf ao (by omega) (by omega)).trans hg
      have od := (hf ad (by omega) (by omega)).trans ((hn ad (by omega)).trans ((hn0 ad (by omega) (by omega)).trans o2))
      exact ⟨⟨su, σ, nx, pas, ac, tx, (wcF oo σ p0 (cp σ p0 0).toNat), rv, d, pa, sv, bv, rf, sc, (up (up v 6 0) 31 (cp σ p0 0)), ⟨a1, a2, a3⟩, hC2, ⟨e0, (hf _ (by omega) (by omega)).trans k1, (hf _ (by omega) (by omega)).trans k2, (hf _ (by omega) (by omega)).trans k3, (hf _ (by omega) (by omega)).trans k4, (hf _ (by omega) (by omega)).trans k5, (hf _ (by omega) (by omega)).trans k6, (hf _ (by omega) (by omega)).trans k7, ⟨tk, (hf _ (by omega) (by omega)).trans k8⟩, (hf _ (by omega) (by omega)).trans k9, ⟨be, (hf _ (by omega) (by omega)).trans k10⟩, ⟨la, (hf _ (by omega) (by omega)).trans k11⟩, u12⟩, (RR.out (M := cp σ p0 0) hR (by omega)).cg ⟨rfl, rfl, rfl, rfl, rfl, rfl, rfl⟩, ⟨⟨_, og⟩, g1, od⟩⟩, ⟨_, e0, rfl⟩, fun _ => ⟨g, og, hgv⟩⟩
  · refine ⟨1, 0, _, .inr (.inl rfl), ht_writeCaption_1 l X w y ao p0 _ _ c0 (x_X8_writeCaption l X w y su σ p0 hst c0 c1 hp0 hb), fun w1 hP => ?_⟩
    obtain rfl : w1 = w := hP
    have k0 := m0
    have k1 := m1
    refine ⟨⟨_, k0⟩, (c_X9_writeCaption_x l X w1 mo v σ p0 k0 k1 hwf hp0 hb).imp (fun w2 h2 => ?_)⟩
    obtain ⟨e0, hf⟩ := h2
    exact ⟨hX.read e0 ⟨rfl, rfl, rfl, rfl, rfl, rfl, rfl⟩ (fun q q0 q1 q2 q3 q4 => hf q q0) ⟨⟨g0, (hf _ (by omega)).trans o1⟩, g1, (hf _ (by omega)).trans o2⟩ ⟨n0, sd0, x0, y0, co0, f0, c12.mv (hf _ (by omega)) (hf _ (by omega))⟩ ⟨am, (hf _ (by omega)).trans c11⟩, ⟨_, e0, rfl⟩, fun z => absurd z (by decide)⟩
