/-! ===== the pair goes through the reads ===== -/
set_option maxHeartbeats 2000000 in
theorem pr_count (l : Launch) (X : Cx) (w : Wo) (y mo ao ad : Nat) (hst : l.stackTraces = false) (hST : ST X w y mo ao ad) (p0 : Int) (hp0 : -2147483648 ≤ p0 ∧ p0 < 2147483648) : CA X y mo ao ad (fun k P => CL l X yL_count cL_count 4 (some (.int)) [(0, 9, 12, 19)] (rmx 8 125) [.ref y, .int (iI p0), .ref ao] w (some (.int (iI k))) P) (fun w1 b Q => (∃ fs, w1 mo = some (.inr (9, fs))) ∧ CM l X yX9_count cX9_count 4 (some (.int)) (rmk 3 65) [.ref mo, .int (iI p0)] w1 (some (.int (iI b))) Q) := by
  obtain ⟨su, σ, nx, pas, ac, tx, oo, rv, d, pa, sv, bv, rf, sc, v, hX⟩ := hST
  have hX0 := hX
  obtain ⟨⟨a1, a2, a3⟩, ⟨c0, c1, c2, c3, c4, c5, c6, c7, c8, c9, c10, ⟨am, c11⟩, ⟨n0, sd0, x0, y0, co0, f0, c12⟩, c13⟩, ⟨m0, m1, m2, m3, m4, m5, m6, m7, ⟨tk, m8⟩, m9, ⟨be, m10⟩, ⟨la, m11⟩, m12⟩, ⟨r1, r2, ⟨r3, r4, r5⟩, r6, r7, r8, r9, r10, r11, r12⟩, ⟨g0, o1⟩, g1, o2⟩ := hX0
  have hwf := c1.2.2
  by_cases hb : 0 ≤ p0 ∧ p0 ≤ 8
  · refine ⟨0, cntQ σ (v 5) p0, _, .inl rfl, hk_count l X w y ao p0 _ _ c0 _ (c_X8_count l X w y su σ nx (v 5) pas p0 c0 c1 c2 hb) (fun w' h => ⟨g0, by rw [h]; exact o1⟩), fun w1 hP => ?_⟩
    obtain ⟨w0, rfl, ⟨g, hg, hgv⟩, hn⟩ := hP
    have k0 := (hn _ (by omega)).trans m0
    have k1 := (hn _ (by omega)).trans m1
    have k6 := (hn _ (by omega)).trans m6
    refine ⟨⟨_, k0⟩, (c_X9_count l X w1 mo v σ p0 k0 k1 hwf hb).imp (fun w2 h2 => ?_)⟩
    obtain ⟨e0, hf⟩ := h2
    exact ⟨hX.read e0 ⟨rfl, rfl, rfl, rfl, rfl, rfl, rfl⟩ (fun q q0 q1 q2 q3 q4 => (hf q q0).trans (hn q q1)) ⟨⟨g, (hf _ (by omega)).trans hg⟩, g1, (hf _ (by omega)).trans ((hn _ (by omega)).trans o2)⟩ ⟨n0, sd0, x0, y0, co0, f0, c12.mv ((hf _ (by omega)).trans (hn _ (by omega))) ((hf _ (by omega)).trans (hn _ (by omega)))⟩ ⟨am, (hf _ (by omega)).trans ((hn _ (by omega)).trans c11)⟩, ⟨_, e0, rfl⟩, fun _ => ⟨g, (hf _ (by omega)).trans hg, hgv⟩⟩
  · refine ⟨1, 0, _, .inr (.inl rfl), ht_count_1 l X w y ao p0 _ _ c0 (x_X8_count l X w y su σ p0 hst c0 c1 hp0 hb), fun w1 hP => ?_⟩
    obtain rfl : w1 = w := hP
    have k0 := m0
    have k1 := m1
    refine ⟨⟨_, k0⟩, (c_X9_count_x l X w1 mo v σ p0 k0 k1 hwf hp0 hb).imp (fun w2 h2 => ?_)⟩
    obtain ⟨e0, hf⟩ := h2
    exact ⟨hX.read e0 ⟨rfl, rfl, rfl, rfl, rfl, rfl, rfl⟩ (fun q q0 q1 q2 q3 q4 => hf q q0) ⟨⟨g0, (hf _ (by omega)).trans o1⟩, g1, (hf _ (by omega)).trans o2⟩ ⟨n0, sd0, x0, y0, co0, f0, c12.mv (hf _ (by omega)) (hf _ (by omega))⟩ ⟨am, (hf _ (by omega)).trans c11⟩, ⟨_, e0, rfl⟩, fun z => absurd z (by decide)⟩
set_option maxHeartbeats 2000000 in
theorem pr_mistakes (l : Launch) (X : Cx) (w : Wo) (y mo ao ad : Nat) (hst : l.stackTraces = false) (hST : ST X w y mo ao ad) (p0 : Int) (hp0 : -2147483648 ≤ p0 ∧ p0 < 2147483648) : CA X y mo ao ad (fun k P => CL l X yL_mistakes cL_mistakes 4 (some (.int)) [(0, 9, 12, 19)] (rmx 8 135) [.ref y, .int (iI p0), .ref ao] w (some (.int (iI k))) P) (fun w1 b Q => (∃ fs, w1 mo = some (.inr (9, fs))) ∧ CM l X yX9_mistakes cX9_mistakes 5 (some (.int)) (rmk 6 138) [.ref mo, .int (iI p0)] w1 (some (.int (iI b))) Q) := by
  obtain ⟨su, σ, nx, pas, ac, tx, oo, rv, d, pa, sv, bv, rf, sc, v, hX⟩ := hST
  have hX0 := hX
  obtain ⟨⟨a1, a2, a3⟩, ⟨c0, c1, c2, c3, c4, c5, c6, c7, c8, c9, c10, ⟨am, c11⟩, ⟨n0, sd0, x0, y0, co0, f0, c12⟩, c13⟩, ⟨m0, m1, m2, m3, m4, m5, m6, m7, ⟨tk, m8⟩, m9, ⟨be, m10⟩, ⟨la, m11⟩, m12⟩, ⟨r1, r2, ⟨r3, r4, r5⟩, r6, r7, r8, r9, r10, r11, r12⟩, ⟨g0, o1⟩, g1, o2⟩ := hX0
  have hwf := c1.2.2
  by_cases hb : 0 ≤ p0 ∧ p0 ≤ 5
  · refine ⟨0, misQ σ p0, _, .inl rfl, hk_mistakes l X w y ao p0 _ _ c0 _ (c_X8_mistakes l X w y su σ p0 c0 c1 hb) (fun w' h => ⟨g0, by rw [h]; exact o1⟩), fun w1 hP => ?_⟩
    obtain ⟨w0, rfl, ⟨g, hg, hgv⟩, hn⟩ := hP
    have k0 := (hn _ (by omega)).trans m0
    have k1 := (hn _ (by omega)).trans m1
    have k6 := (hn _ (by omega)).trans m6
    refine ⟨⟨_, k0⟩, (c_X9_mistakes l X w1 mo v σ p0 k0 k1 hwf hb).imp (fun w2 h2 => ?_)⟩
    obtain ⟨e0, hf⟩ := h2
    exact ⟨hX.read e0 ⟨rfl, rfl, rfl, rfl, rfl, rfl, rfl⟩ (fun q q0 q1 q2 q3 q4 => (hf q q0).trans (hn q q1)) ⟨⟨g, (hf _ (by omega)).trans hg⟩, g1, (hf _ (by omega)).trans ((hn _ (by omega)).trans o2)⟩ ⟨n0, sd0, x0, y0, co0, f0, c12.mv ((hf _ (by omega)).trans (hn _ (by omega))) ((hf _ (by omega)).trans (hn _ (by omega)))⟩ ⟨am, (hf _ (by omega)).trans ((hn _ (by omega)).trans c11)⟩, ⟨_, e0, rfl⟩, fun _ => ⟨g, (hf _ (by omega)).trans hg, hgv⟩⟩
  · refine ⟨1, 0, _, .inr (.inl rfl), ht_mistakes_1 l X w y ao p0 _ _ c0 (x_X8_mistakes l X w y su σ p0 hst c0 c1 hp0 hb), fun w1 hP => ?_⟩
    obtain rfl : w1 = w := hP
    have k0 := m0
    have k1 := m1
    refine ⟨⟨_, k0⟩, (c_X9_mistakes_x l X w1 mo v σ p0 k0 k1 hwf hp0 hb).imp (fun w2 h2 => ?_)⟩
    obtain ⟨e0, hf⟩ := h2
    exact ⟨hX.read e0 ⟨rfl, rfl, rfl, rfl, rfl, rfl, rfl⟩ (fun q q0 q1 q2 q3 q4 => hf q q0) ⟨⟨g0, (hf _ (by omega)).trans o1⟩, g1, (hf _ (by omega)).trans o2⟩ ⟨n0, sd0, x0, y0, co0, f0, c12.mv (hf _ (by omega)) (hf _ (by omega))⟩ ⟨am, (hf _ (by omega)).trans c11⟩, ⟨_, e0, rfl⟩, fun z => absurd z (by decide)⟩
set_option maxHeartbeats 2000000 in
theorem pr_slits (l : Launch) (X : Cx) (w : Wo) (y mo ao ad : Nat) (hst : l.stackTraces = false) (hST : ST X w y mo ao ad) (p0 : Int) (hp0 : -2147483648 ≤ p0 ∧ p0 < 2147483648) : CA X y mo ao ad (fun k P => CL l X yL_slits cL_slits 4 (some (.int)) [(0, 9, 12, 19)] (rmx 8 125) [.ref y, .int (iI p0), .ref ao] w (some (.int (iI k))) P) (fun w1 b Q => (∃ fs, w1 mo = some (.inr (9, fs))) ∧ CM l X yX9_slits cX9_slits 2 (some (.int)) (rmk 3 68) [.ref mo, .int (iI p0)] w1 (some (.int (iI b))) Q) := by
  obtain ⟨su, σ, nx, pas, ac, tx, oo, rv, d, pa, sv, bv, rf, sc, v, hX⟩ := hST
  have hX0 := hX
  obtain ⟨⟨a1, a2, a3⟩, ⟨c0, c1, c2, c3, c4, c5, c6, c7, c8, c9, c10, ⟨am, c11⟩, ⟨n0, sd0, x0, y0, co0, f0, c12⟩, c13⟩, ⟨m0, m1, m2, m3, m4, m5, m6, m7, ⟨tk, m8⟩, m9, ⟨be, m10⟩, ⟨la, m11⟩, m12⟩, ⟨r1, r2, ⟨r3, r4, r5⟩, r6, r7, r8, r9, r10, r11, r12⟩, ⟨g0, o1⟩, g1, o2⟩ := hX0
  have hwf := c1.2.2
  by_cases hb : 2 ≤ p0 ∧ p0 ≤ 30
  · refine ⟨0, slQ σ p0, _, .inl rfl, hk_slits l X w y ao p0 _ _ c0 _ (c_X8_slits l X w y su σ p0 c0 c1 hb) (fun w' h => ⟨g0, by rw [h]; exact o1⟩), fun w1 hP => ?_⟩
    obtain ⟨w0, rfl, ⟨g, hg, hgv⟩, hn⟩ := hP
    have k0 := (hn _ (by omega)).trans m0
    have k1 := (hn _ (by omega)).trans m1
    have k6 := (hn _ (by omega)).trans m6
    refine ⟨⟨_, k0⟩, (c_X9_slits l X w1 mo v σ p0 k0 k1 hwf hb).imp (fun w2 h2 => ?_)⟩
    obtain ⟨e0, hf⟩ := h2
    exact ⟨hX.read e0 ⟨rfl, rfl, rfl, rfl, rfl, rfl, rfl⟩ (fun q q0 q1 q2 q3 q4 => (hf q q0).trans (hn q q1)) ⟨⟨g, (hf _ (by omega)).trans hg⟩, g1, (hf _ (by omega)).trans ((hn _ (by omega)).trans o2)⟩ ⟨n0, sd0, x0, y0, co0, f0, c12.mv ((hf _ (by omega)).trans (hn _ (by omega))) ((hf _ (by omega)).trans (hn _ (by omega)))⟩ ⟨am, (hf _ (by omega)).trans ((hn _ (by omega)).trans c11)⟩, ⟨_, e0, rfl⟩, fun _ => ⟨g, (hf _ (by omega)).trans hg, hgv⟩⟩
  · refine ⟨1, 0, _, .inr (.inl rfl), ht_slits_1 l X w y ao p0 _ _ c0 (x_X8_slits l X w y su σ p0 hst c0 c1 hp0 hb), fun w1 hP => ?_⟩
    obtain rfl : w1 = w := hP
    have k0 := m0
    have k1 := m1
    refine ⟨⟨_, k0⟩, (c_X9_slits_x l X w1 mo v σ p0 k0 k1 hwf hp0 hb).imp (fun w2 h2 => ?_)⟩
    obtain ⟨e0, hf⟩ := h2
    exact ⟨hX.read e0 ⟨rfl, rfl, rfl, rfl, rfl, rfl, rfl⟩ (fun q q0 q1 q2 q3 q4 => hf q q0) ⟨⟨g0, (hf _ (by omega)).trans o1⟩, g1, (hf _ (by omega)).trans o2⟩ ⟨n0, sd0, x0, y0, co0, f0, c12.mv (hf _ (by omega)) (hf _ (by omega))⟩ ⟨am, (hf _ (by omega)).trans c11⟩, ⟨_, e0, rfl⟩, fun z => absurd z (by decide)⟩
set_option maxHeartbeats 2000000 in
theorem pr_minutes (l : Launch) (X : Cx) (w : Wo) (y mo ao ad : Nat) (hst : l.stackTraces = false) (hST : ST X w y mo ao ad) (p0 : Int) (hp0 : -2147483648 ≤ p0 ∧ p0 < 2147483648) : CA X y mo ao ad (fun k P => CL l X yL_minutes cL_minutes 4 (some (.int)) [(0, 9, 12, 19)] (rmx 8 128) [.ref y, .int (iI p0), .ref ao] w (some (.int (iI k))) P) (fun w1 b Q => (∃ fs, w1 mo = some (.inr (9, fs))) ∧ CM l X yX9_minutes cX9_minutes 6 (some (.int)) (rmk 4 94) [.ref mo, .int (iI p0)] w1 (some (.int (iI b))) Q) := by
  obtain ⟨su, σ, nx, pas, ac, tx, oo, rv, d, pa, sv, bv, rf, sc, v, hX⟩ := hST
  have hX0 := hX
  obtain ⟨⟨a1, a2, a3⟩, ⟨c0, c1, c2, c3, c4, c5, c6, c7, c8, c9, c10, ⟨am, c11⟩, ⟨n0, sd0, x0, y0, co0, f0, c12⟩, c13⟩, ⟨m0, m1, m2, m3, m4, m5, m6, m7, ⟨tk, m8⟩, m9, ⟨be, m10⟩, ⟨la, m11⟩, m12⟩, ⟨r1, r2, ⟨r3, r4, r5⟩, r6, r7, r8, r9, r10, r11, r12⟩, ⟨g0, o1⟩, g1, o2⟩ := hX0
  have hwf := c1.2.2
  by_cases hb : 0 ≤ p0 ∧ p0 ≤ 30
  · refine ⟨0, minQ σ p0, _, .inl rfl, hk_minutes l X w y ao p0 _ _ c0 _ (c_X8_minutes l X w y su σ p0 c0 c1 hb) (fun w' h => ⟨g0, by rw [h]; exact o1⟩), fun w1 hP => ?_⟩
    obtain ⟨w0, rfl, ⟨g, hg, hgv⟩, hn⟩ := hP
    have k0 := (hn _ (by omega)).trans m0
    have k1 := (hn _ (by omega)).trans m1
    have k6 := (hn _ (by omega)).trans m6
    refine ⟨⟨_, k0⟩, (c_X9_minutes l X w1 mo v σ p0 k0 k1 hwf hb).imp (fun w2 h2 => ?_)⟩
    obtain ⟨e0, hf⟩ := h2
    exact ⟨hX.read e0 ⟨rfl, rfl, rfl, rfl, rfl, rfl, rfl⟩ (fun q q0 q1 q2 q3 q4 => (hf q q0).trans (hn q q1)) ⟨⟨g, (hf _ (by omega)).trans hg⟩, g1, (hf _ (by omega)).trans ((hn _ (by omega)).trans o2)⟩ ⟨n0, sd0, x0, y0, co0, f0, c12.mv ((hf _ (by omega)).trans (hn _ (by omega))) ((hf _ (by omega)).trans (hn _ (by omega)))⟩ ⟨am, (hf _ (by omega)).trans ((hn _ (by omega)).trans c11)⟩, ⟨_, e0, rfl⟩, fun _ => ⟨g, (hf _ (by omega)).trans hg, hgv⟩⟩
  · refine ⟨1, 0, _, .inr (.inl rfl), ht_minutes_1 l X w y ao p0 _ _ c0 (x_X8_minutes l X w y su σ p0 hst c0 c1 hp0 hb), fun w1 hP => ?_⟩
    obtain rfl : w1 = w := hP
    have k0 := m0
    have k1 := m1
    refine ⟨⟨_, k0⟩, (c_X9_minutes_x l X w1 mo v σ p0 k0 k1 hwf hp0 hb).imp (fun w2 h2 => ?_)⟩
    obtain ⟨e0, hf⟩ := h2
    exact ⟨hX.read e0 ⟨rfl, rfl, rfl, rfl, rfl, rfl, rfl⟩ (fun q q0 q1 q2 q3 q4 => hf q q0) ⟨⟨g0, (hf _ (by omega)).trans o1⟩, g1, (hf _ (by omega)).trans o2⟩ ⟨n0, sd0, x0, y0, co0, f0, c12.mv (hf _ (by omega)) (hf _ (by omega))⟩ ⟨am, (hf _ (by omega)).trans c11⟩, ⟨_, e0, rfl⟩, fun z => absurd z (by decide)⟩
set_option maxHeartbeats 2000000 in
theorem pr_joins (l : Launch) (X : Cx) (w : Wo) (y mo ao ad : Nat) (hst : l.stackTraces = false) (hST : ST X w y mo ao ad) (p0 : Int) (hp0 : -2147483648 ≤ p0 ∧ p0 < 2147483648) : CA X y mo ao ad (fun k P => CL l X yL_joins cL_joins 4 (some (.int)) [(0, 9, 12, 28)] (rmx 8 125) [.ref y, .int (iI p0), .ref ao] w (some (.int (iI k))) P) (fun w1 b Q => (∃ fs, w1 mo = some (.inr (9, fs))) ∧ CM l X yX9_joins cX9_joins 2 (some (.int)) (rmk 3 66) [.ref mo, .int (iI p0)] w1 (some (.int (iI b))) Q) := by
  obtain ⟨su, σ, nx, pas, ac, tx, oo, rv, d, pa, sv, bv, rf, sc, v, hX⟩ := hST
  have hX0 := hX
  obtain ⟨⟨a1, a2, a3⟩, ⟨c0, c1, c2, c3, c4, c5, c6, c7, c8, c9, c10, ⟨am, c11⟩, ⟨n0, sd0, x0, y0, co0, f0, c12⟩, c13⟩, ⟨m0, m1, m2, m3, m4, m5, m6, m7, ⟨tk, m8⟩, m9, ⟨be, m10⟩, ⟨la, m11⟩, m12⟩, ⟨r1, r2, ⟨r3, r4, r5⟩, r6, r7, r8, r9, r10, r11, r12⟩, ⟨g0, o1⟩, g1, o2⟩ := hX0
  have hwf := c1.2.2
  by_cases hb : 0 ≤ p0 ∧ p0 < σ 1
  · refine ⟨0, (if p0 < σ 4 then cnt (fun z => decide (cellS σ z p0 ≠ cellS σ (z + 1) p0)) 0 (σ 0 - 1) else -1), _, .inl rfl, hk_joins l X w y ao p0 _ _ c0 _ (c_X8_joins l X w y su σ p0 c0 c1 hb) (fun w' h => ⟨g0, by rw [h]; exact o1⟩), fun w1 hP => ?_⟩
    obtain ⟨w0, rfl, ⟨g, hg, hgv⟩, hn⟩ := hP
    have k0 := (hn _ (by omega)).trans m0
    have k1 := (hn _ (by omega)).trans m1
    have k6 := (hn _ (by omega)).trans m6
    refine ⟨⟨_, k0⟩, (c_X9_joins l X w1 mo v σ p0 k0 k1 hwf (by omega)).imp (fun w2 h2 => ?_)⟩
    obtain ⟨e0, hf⟩ := h2
    exact ⟨hX.read e0 ⟨rfl, rfl, rfl, rfl, rfl, rfl, rfl⟩ (fun q q0 q1 q2 q3 q4 => (hf q q0).trans (hn q q1)) ⟨⟨g, (hf _ (by omega)).trans hg⟩, g1, (hf _ (by omega)).trans ((hn _ (by omega)).trans o2)⟩ ⟨n0, sd0, x0, y0, co0, f0, c12.mv ((hf _ (by omega)).trans (hn _ (by omega))) ((hf _ (by omega)).trans (hn _ (by omega)))⟩ ⟨am, (hf _ (by omega)).trans ((hn _ (by omega)).trans c11)⟩, ⟨_, e0, rfl⟩, fun _ => ⟨g, (hf _ (by omega)).trans hg, hgv⟩⟩
  · refine ⟨1, 0, _, .inr (.inl rfl), ht_joins_1 l X w y ao p0 _ _ c0 (x_X8_joins l X w y su σ p0 hst c0 c1 hp0 hb), fun w1 hP => ?_⟩
    obtain rfl : w1 = w := hP
    have k0 := m0
    have k1 := m1
    refine ⟨⟨_, k0⟩, (c_X9_joins_x l X w1 mo v σ p0 k0 k1 hwf hp0 (by omega)).imp (fun w2 h2 => ?_)⟩
    obtain ⟨e0, hf⟩ := h2
    exact ⟨hX.read e0 ⟨rfl, rfl, rfl, rfl, rfl, rfl, rfl⟩ (fun q q0 q1 q2 q3 q4 => hf q q0) ⟨⟨g0, (hf _ (by omega)).trans o1⟩, g1, (hf _ (by omega)).trans o2⟩ ⟨n0, sd0, x0, y0, co0, f0, c12.mv (hf _ (by omega)) (hf _ (by omega))⟩ ⟨am, (hf _ (by omega)).trans c11⟩, ⟨_, e0, rfl⟩, fun z => absurd z (by decide)⟩
set_option maxHeartbeats 2000000 in
theorem pr_wouldErr (l : Launch) (X : Cx) (w : Wo) (y mo ao ad : Nat) (hst : l.stackTraces = false) (hST : ST X w y mo ao ad) (p0 : Int) (hp0 : -2147483648 ≤ p0 ∧ p0 < 2147483648) : CA X y mo ao ad (fun k P => CL l X yL_wouldErr cL_wouldErr 4 (some (.int)) [(0, 9, 12, 28)] (rmx 8 127) [.ref y, .int (iI p0), .ref ao] w (some (.int (iI k))) P) (fun w1 b Q => (∃ fs, w1 mo = some (.inr (9, fs))) ∧ CM l X yX9_wouldErr cX9_wouldErr 4 (some (.int)) (rmk 3 70) [.ref mo, .int (iI p0)] w1 (some (.int (iI b))) Q) := by
  obtain ⟨su, σ, nx, pas, ac, tx, oo, rv, d, pa, sv, bv, rf, sc, v, hX⟩ := hST
  have hX0 := hX
  obtain ⟨⟨a1, a2, a3⟩, ⟨c0, c1, c2, c3, c4, c5, c6, c7, c8, c9, c10, ⟨am, c11⟩, ⟨n0, sd0, x0, y0, co0, f0, c12⟩, c13⟩, ⟨m0, m1, m2, m3, m4, m5, m6, m7, ⟨tk, m8⟩, m9, ⟨be, m10⟩, ⟨la, m11⟩, m12⟩, ⟨r1, r2, ⟨r3, r4, r5⟩, r6, r7, r8, r9, r10, r11, r12⟩, ⟨g0, o1⟩, g1, o2⟩ := hX0
  have hwf := c1.2.2
  by_cases hb : 0 ≤ p0 ∧ p0 < σ 1
  · refine ⟨0, (cnt (fun z => decide (desS σ (turnS σ z) p0 ≠ desS σ z p0)) 0 (σ 0)), _, .inl rfl, hk_wouldErr l X w y ao p0 _ _ c0 _ (c_X8_wouldErr l X w y su σ p0 c0 c1 hb) (fun w' h => ⟨g0, by rw [h]; exact o1⟩), fun w1 hP => ?_⟩
    obtain ⟨w0, rfl, ⟨g, hg, hgv⟩, hn⟩ := hP
    have k0 := (hn _ (by omega)).trans m0
    have k1 := (hn _ (by omega)).trans m1
    have k6 := (hn _ (by omega)).trans m6
    refine ⟨⟨_, k0⟩, (c_X9_wouldErr l X w1 mo v σ p0 k0 k1 hwf (by omega)).imp (fun w2 h2 => ?_)⟩
    obtain ⟨e0, hf⟩ := h2
    exact ⟨hX.read e0 ⟨rfl, rfl, rfl, rfl, rfl, rfl, rfl⟩ (fun q q0 q1 q2 q3 q4 => (hf q q0).trans (hn q q1)) ⟨⟨g, (hf _ (by omega)).trans hg⟩, g1, (hf _ (by omega)).trans ((hn _ (by omega)).trans o2)⟩ ⟨n0, sd0, x0, y0, co0, f0, c12.mv ((hf _ (by omega)).trans (hn _ (by omega))) ((hf _ (by omega)).trans (hn _ (by omega)))⟩ ⟨am, (hf _ (by omega)).trans ((hn _ (by omega)).trans c11)⟩, ⟨_, e0, rfl⟩, fun _ => ⟨g, (hf _ (by omega)).trans hg, hgv⟩⟩
  · refine ⟨1, 0, _, .inr (.inl rfl), ht_wouldErr_1 l X w y ao p0 _ _ c0 (x_X8_wouldErr l X w y su σ p0 hst c0 c1 hp0 hb), fun w1 hP => ?_⟩
    obtain rfl : w1 = w := hP
    have k0 := m0
    have k1 := m1
    refine ⟨⟨_, k0⟩, (c_X9_wouldErr_x l X w1 mo v σ p0 k0 k1 hwf hp0 (by omega)).imp (fun w2 h2 => ?_)⟩
    obtain ⟨e0, hf⟩ := h2
    exact ⟨hX.read e0 ⟨rfl, rfl, rfl, rfl, rfl, rfl, rfl⟩ (fun q q0 q1 q2 q3 q4 => hf q q0) ⟨⟨g0, (hf _ (by omega)).trans o1⟩, g1, (hf _ (by omega)).trans o2⟩ ⟨n0, sd0, x0, y0, co0, f0, c12.mv (hf _ (by omega)) (hf _ (by omega))⟩ ⟨am, (hf _ (by omega)).trans c11⟩, ⟨_, e0, rfl⟩, fun z => absurd z (by decide)⟩
set_option maxHeartbeats 2000000 in
theorem pr_cell (l : Launch) (X : Cx) (w : Wo) (y mo ao ad : Nat) (hst : l.stackTraces = false) (hST : ST X w y mo ao ad) (p0 p1 : Int) (hp0 : -2147483648 ≤ p0 ∧ p0 < 2147483648) (hp1 : -2147483648 ≤ p1 ∧ p1 < 2147483648) : CA X y mo ao ad (fun k P => CL l X yL_cell cL_cell 5 (some (.int)) [(0, 10, 13, 28)] (rmx 8 126) [.ref y, .int (iI p0), .int (iI p1), .ref ao] w (some (.int (iI k))) P) (fun w1 b Q => (∃ fs, w1 mo = some (.inr (9, fs))) ∧ CM l X yX9_cell cX9_cell 3 (some (.int)) (rmk 3 68) [.ref mo, .int (iI p0), .int (iI p1)] w1 (some (.int (iI b))) Q) := by
  obtain ⟨su, σ, nx, pas, ac, tx, oo, rv, d, pa, sv, bv, rf, sc, v, hX⟩ := hST
  have hX0 := hX
  obtain ⟨⟨a1, a2, a3⟩, ⟨c0, c1, c2, c3, c4, c5, c6, c7, c8, c9, c10, ⟨am, c11⟩, ⟨n0, sd0, x0, y0, co0, f0, c12⟩, c13⟩, ⟨m0, m1, m2, m3, m4, m5, m6, m7, ⟨tk, m8⟩, m9, ⟨be, m10⟩, ⟨la, m11⟩, m12⟩, ⟨r1, r2, ⟨r3, r4, r5⟩, r6, r7, r8, r9, r10, r11, r12⟩, ⟨g0, o1⟩, g1, o2⟩ := hX0
  have hwf := c1.2.2
  by_cases hb : 0 ≤ p0 ∧ p0 < σ 0 ∧ 0 ≤ p1 ∧ p1 < σ 1
  · refine ⟨0, (cellS σ p0 p1), _, .inl rfl, hk_cell l X w y ao p0 p1 _ _ c0 _ (c_X8_cell l X w y su σ p0 p1 c0 c1 hb) (fun w' h => ⟨g0, by rw [h]; exact o1⟩), fun w1 hP => ?_⟩
    obtain ⟨w0, rfl, ⟨g, hg, hgv⟩, hn⟩ := hP
    have k0 := (hn _ (by omega)).trans m0
    have k1 := (hn _ (by omega)).trans m1
    have k6 := (hn _ (by omega)).trans m6
    refine ⟨⟨_, k0⟩, (c_X9_cell l X w1 mo v σ p0 p1 k0 k1 hwf hb).imp (fun w2 h2 => ?_)⟩
    obtain ⟨e0, hf⟩ := h2
    exact ⟨hX.read e0 ⟨rfl, rfl, rfl, rfl, rfl, rfl, rfl⟩ (fun q q0 q1 q2 q3 q4 => (hf q q0).trans (hn q q1)) ⟨⟨g, (hf _ (by omega)).trans hg⟩, g1, (hf _ (by omega)).trans ((hn _ (by omega)).trans o2)⟩ ⟨n0, sd0, x0, y0, co0, f0, c12.mv ((hf _ (by omega)).trans (hn _ (by omega))) ((hf _ (by omega)).trans (hn _ (by omega)))⟩ ⟨am, (hf _ (by omega)).trans ((hn _ (by omega)).trans c11)⟩, ⟨_, e0, rfl⟩, fun _ => ⟨g, (hf _ (by omega)).trans hg, hgv⟩⟩
  · refine ⟨1, 0, _, .inr (.inl rfl), ht_cell_1 l X w y ao p0 p1 _ _ c0 (x_X8_cell l X w y su σ p0 p1 hst c0 c1 hp0 hp1 hb), fun w1 hP => ?_⟩
    obtain rfl : w1 = w := hP
    have k0 := m0
    have k1 := m1
    refine ⟨⟨_, k0⟩, (c_X9_cell_x l X w1 mo v σ p0 p1 k0 k1 hwf hp0 hp1 hb).imp (fun w2 h2 => ?_)⟩
    obtain ⟨e0, hf⟩ := h2
    exact ⟨hX.read e0 ⟨rfl, rfl, rfl, rfl, rfl, rfl, rfl⟩ (fun q q0 q1 q2 q3 q4 => hf q q0) ⟨⟨g0, (hf _ (by omega)).trans o1⟩, g1, (hf _ (by omega)).trans o2⟩ ⟨n0, sd0, x0, y0, co0, f0, c12.mv (hf _ (by omega)) (hf _ (by omega))⟩ ⟨am, (hf _ (by omega)).trans c11⟩, ⟨_, e0, rfl⟩, fun z => absurd z (by decide)⟩
set_option maxHeartbeats 2000000 in
theorem pr_design (l : Launch) (X : Cx) (w : Wo) (y mo ao ad : Nat) (hst : l.stackTraces = false) (hST : ST X w y mo ao ad) (p0 p1 : Int) (hp0 : -2147483648 ≤ p0 ∧ p0 < 2147483648) (hp1 : -2147483648 ≤ p1 ∧ p1 < 2147483648) : CA X y mo ao ad (fun k P => CL l X yL_design cL_design 5 (some (.int)) [(0, 10, 13, 28)] (rmx 8 126) [.ref y, .int (iI p0), .int (iI p1), .ref ao] w (some (.int (iI k))) P) (fun w1 b Q => (∃ fs, w1 mo = some (.inr (9, fs))) ∧ CM l X yX9_design cX9_design 3 (some (.int)) (rmk 3 70) [.ref mo, .int (iI p0), .int (iI p1)] w1 (some (.int (iI b))) Q) := by
  obtain ⟨su, σ, nx, pas, ac, tx, oo, rv, d, pa, sv, bv, rf, sc, v, hX⟩ := hST
  have hX0 := hX
  obtain ⟨⟨a1, a2, a3⟩, ⟨c0, c1, c2, c3, c4, c5, c6, c7, c8, c9, c10, ⟨am, c11⟩, ⟨n0, sd0, x0, y0, co0, f0, c12⟩, c13⟩, ⟨m0, m1, m2, m3, m4, m5, m6, m7, ⟨tk, m8⟩, m9, ⟨be, m10⟩, ⟨la, m11⟩, m12⟩, ⟨r1, r2, ⟨r3, r4, r5⟩, r6, r7, r8, r9, r10, r11, r12⟩, ⟨g0, o1⟩, g1, o2⟩ := hX0
  have hwf := c1.2.2
  by_cases hb : 0 ≤ p0 ∧ p0 < σ 0 ∧ 0 ≤ p1 ∧ p1 < σ 1
  · refine ⟨0, (desS σ p0 p1), _, .inl rfl, hk_design l X w y ao p0 p1 _ _ c0 _ (c_X8_design l X w y su σ p0 p1 c0 c1 hb) (fun w' h => ⟨g0, by rw [h]; exact o1⟩), fun w1 hP => ?_⟩
    obtain ⟨w0, rfl, ⟨g, hg, hgv⟩, hn⟩ := hP
    have k0 := (hn _ (by omega)).trans m0
    have k1 := (hn _ (by omega)).trans m1
    have k6 := (hn _ (by omega)).trans m6
    refine ⟨⟨_, k0⟩, (c_X9_design l X w1 mo v σ p0 p1 k0 k1 hwf hb).imp (fun w2 h2 => ?_)⟩
    obtain ⟨e0, hf⟩ := h2
    exact ⟨hX.read e0 ⟨rfl, rfl, rfl, rfl, rfl, rfl, rfl⟩ (fun q q0 q1 q2 q3 q4 => (hf q q0).trans (hn q q1)) ⟨⟨g, (hf _ (by omega)).trans hg⟩, g1, (hf _ (by omega)).trans ((hn _ (by omega)).trans o2)⟩ ⟨n0, sd0, x0, y0, co0, f0, c12.mv ((hf _ (by omega)).trans (hn _ (by omega))) ((hf _ (by omega)).trans (hn _ (by omega)))⟩ ⟨am, (hf _ (by omega)).trans ((hn _ (by omega)).trans c11)⟩, ⟨_, e0, rfl⟩, fun _ => ⟨g, (hf _ (by omega)).trans hg, hgv⟩⟩
  · refine ⟨1, 0, _, .inr (.inl rfl), ht_design_1 l X w y ao p0 p1 _ _ c0 (x_X8_design l X w y su σ p0 p1 hst c0 c1 hp0 hp1 hb), fun w1 hP => ?_⟩
    obtain rfl : w1 = w := hP
    have k0 := m0
    have k1 := m1
    refine ⟨⟨_, k0⟩, (c_X9_design_x l X w1 mo v σ p0 p1 k0 k1 hwf hp0 hp1 hb).imp (fun w2 h2 => ?_)⟩
    obtain ⟨e0, hf⟩ := h2
    exact ⟨hX.read e0 ⟨rfl, rfl, rfl, rfl, rfl, rfl, rfl⟩ (fun q q0 q1 q2 q3 q4 => hf q q0) ⟨⟨g0, (hf _ (by omega)).trans o1⟩, g1, (hf _ (by omega)).trans o2⟩ ⟨n0, sd0, x0, y0, co0, f0, c12.mv (hf _ (by omega)) (hf _ (by omega))⟩ ⟨am, (hf _ (by omega)).trans c11⟩, ⟨_, e0, rfl⟩, fun z => absurd z (by decide)⟩
set_option maxHeartbeats 2000000 in
theorem pr_account (l : Launch) (X : Cx) (w : Wo) (y mo ao ad : Nat) (hst : l.stackTraces = false) (hST : ST X w y mo ao ad) (p0 : Int) (hp0 : -2147483648 ≤ p0 ∧ p0 < 2147483648) : CA X y mo ao ad (fun k P => CL l X yL_account cL_account 4 (some (.int)) [(0, 9, 12, 19)] (rmx 8 125) [.ref y, .int (iI p0), .ref ao] w (some (.int (iI k))) P) (fun w1 b Q => (∃ fs, w1 mo = some (.inr (9, fs))) ∧ CM l X yX9_account cX9_account 2 (some (.int)) (rmk 1 25) [.ref mo, .int (iI p0)] w1 (some (.int (iI b))) Q) := by
  obtain ⟨su, σ, nx, pas, ac, tx, oo, rv, d, pa, sv, bv, rf, sc, v, hX⟩ := hST
  have hX0 := hX
  obtain ⟨⟨a1, a2, a3⟩, ⟨c0, c1, c2, c3, c4, c5, c6, c7, c8, c9, c10, ⟨am, c11⟩, ⟨n0, sd0, x0, y0, co0, f0, c12⟩, c13⟩, ⟨m0, m1, m2, m3, m4, m5, m6, m7, ⟨tk, m8⟩, m9, ⟨be, m10⟩, ⟨la, m11⟩, m12⟩, ⟨r1, r2, ⟨r3, r4, r5⟩, r6, r7, r8, r9, r10, r11, r12⟩, ⟨g0, o1⟩, g1, o2⟩ := hX0
  have hwf := c1.2.2
  by_cases hb : 0 ≤ p0 ∧ p0 ≤ 8
  · have hq : accQ v rf p0 = ac p0 := by
      unfold accQ
      by_cases z0 : p0 = 0
      · rw [if_pos z0, z0, r3]
      · rw [if_neg z0]
        by_cases z8 : p0 = 8
        · rw [if_pos z8, z8, r4]
        · rw [if_neg z8, r5 p0 (by omega) (by omega)]
    refine ⟨0, (accQ v rf p0), _, .inl rfl, hk_account l X w y ao p0 _ _ c0 (accQ v rf p0) (by rw [hq]; exact c_X8_account l X w y su ac p0 c0 c3 hb) (fun w' h => ⟨g0, by rw [h]; exact o1⟩), fun w1 hP => ?_⟩
    obtain ⟨w0, rfl, ⟨g, hg, hgv⟩, hn⟩ := hP
    have k0 := (hn _ (by omega)).trans m0
    have k1 := (hn _ (by omega)).trans m1
    have k6 := (hn _ (by omega)).trans m6
    refine ⟨⟨_, k0⟩, (c_X9_account l X w1 mo v σ rf p0 k0 k1 hwf k6 hb).imp (fun w2 h2 => ?_)⟩
    obtain ⟨e0, hf⟩ := h2
    exact ⟨hX.read e0 ⟨rfl, rfl, rfl, rfl, rfl, rfl, rfl⟩ (fun q q0 q1 q2 q3 q4 => (hf q q0).trans (hn q q1)) ⟨⟨g, (hf _ (by omega)).trans hg⟩, g1, (hf _ (by omega)).trans ((hn _ (by omega)).trans o2)⟩ ⟨n0, sd0, x0, y0, co0, f0, c12.mv ((hf _ (by omega)).trans (hn _ (by omega))) ((hf _ (by omega)).trans (hn _ (by omega)))⟩ ⟨am, (hf _ (by omega)).trans ((hn _ (by omega)).trans c11)⟩, ⟨_, e0, rfl⟩, fun _ => ⟨g, (hf _ (by omega)).trans hg, hgv⟩⟩
  · refine ⟨1, 0, _, .inr (.inl rfl), ht_account_1 l X w y ao p0 _ _ c0 (x_X8_account l X w y su σ p0 hst c0 c1 hp0 hb), fun w1 hP => ?_⟩
    obtain rfl : w1 = w := hP
    have k0 := m0
    have k1 := m1
    refine ⟨⟨_, k0⟩, (c_X9_account_x l X w1 mo v σ p0 k0 k1 hwf hp0 hb).imp (fun w2 h2 => ?_)⟩
    obtain ⟨e0, hf⟩ := h2
    exact ⟨hX.read e0 ⟨rfl, rfl, rfl, rfl, rfl, rfl, rfl⟩ (fun q q0 q1 q2 q3 q4 => hf q q0) ⟨⟨g0, (hf _ (by omega)).trans o1⟩, g1, (hf _ (by omega)).trans o2⟩ ⟨n0, sd0, x0, y0, co0, f0, c12.mv (hf _ (by omega)) (hf _ (by omega))⟩ ⟨am, (hf _ (by omega)).trans c11⟩, ⟨_, e0, rfl⟩, fun z => absurd z (by decide)⟩
theorem bz01 (b : Bool) : bz b = 0 ∨ bz b = 1 := by cases b; exact .inl rfl; exact .inr rfl
set_option maxHeartbeats 2000000 in
theorem pr_isAlike (l : Launch) (X : Cx) (w : Wo) (y mo ao ad : Nat) (hst : l.stackTraces = false) (hST : ST X w y mo ao ad) (p0 : Int) (hp0 : -2147483648 ≤ p0 ∧ p0 < 2147483648) : CA X y mo ao ad (fun k P => CL l X yL_isAlike cL_isAlike 4 (some (.int)) [(0, 16, 19, 28)] (rmx 8 125) [.ref y, .int (iI p0), .ref ao] w (some (.int (iI k))) P) (fun w1 b Q => (∃ fs, w1 mo = some (.inr (9, fs))) ∧ (b = 0 ∨ b = 1) ∧ CM l X yX9_isAlike cX9_isAlike 6 (some (.boolean)) (rmk 2 46) [.ref mo, .int (iI p0)] w1 (some (.int (iI b))) Q) := by
  obtain ⟨su, σ, nx, pas, ac, tx, oo, rv, d, pa, sv, bv, rf, sc, v, hX⟩ := hST
  have hX0 := hX
  obtain ⟨⟨a1, a2, a3⟩, ⟨c0, c1, c2, c3, c4, c5, c6, c7, c8, c9, c10, ⟨am, c11⟩, ⟨n0, sd0, x0, y0, co0, f0, c12⟩, c13⟩, ⟨m0, m1, m2, m3, m4, m5, m6, m7, ⟨tk, m8⟩, m9, ⟨be, m10⟩, ⟨la, m11⟩, m12⟩, ⟨r1, r2, ⟨r3, r4, r5⟩, r6, r7, r8, r9, r10, r11, r12⟩, ⟨g0, o1⟩, g1, o2⟩ := hX0
  have hwf := c1.2.2
  by_cases hb : 0 ≤ p0 ∧ p0 < σ 5
  · refine ⟨0, (bz (alkQ σ p0)), _, .inl rfl, hk_isAlike l X w y ao p0 _ _ c0 _ (c_X8_isAlike l X w y su σ p0 c0 c1 hb) (fun w' h => ⟨g0, by rw [h]; exact o1⟩), fun w1 hP => ?_⟩
    obtain ⟨w0, rfl, ⟨g, hg, hgv⟩, hn⟩ := hP
    have k0 := (hn _ (by omega)).trans m0
    have k1 := (hn _ (by omega)).trans m1
    have k6 := (hn _ (by omega)).trans m6
    refine ⟨⟨_, k0⟩, bz01 _, (c_X9_isAlike l X w1 mo v σ p0 k0 k1 hwf hb).imp (fun w2 h2 => ?_)⟩
    obtain ⟨e0, hf⟩ := h2
    exact ⟨hX.read e0 ⟨rfl, rfl, rfl, rfl, rfl, rfl, rfl⟩ (fun q q0 q1 q2 q3 q4 => (hf q q0).trans (hn q q1)) ⟨⟨g, (hf _ (by omega)).trans hg⟩, g1, (hf _ (by omega)).trans ((hn _ (by omega)).trans o2)⟩ ⟨n0, sd0, x0, y0, co0, f0, c12.mv ((hf _ (by omega)).trans (hn _ (by omega))) ((hf _ (by omega)).trans (hn _ (by omega)))⟩ ⟨am, (hf _ (by omega)).trans ((hn _ (by omega)).trans c11)⟩, ⟨_, e0, rfl⟩, fun _ => ⟨g, (hf _ (by omega)).trans hg, hgv.trans (lI_i (by have := bz_r (alkQ σ p0); omega)).symm⟩⟩
  · refine ⟨1, (bz false), _, .inr (.inl rfl), ht_isAlike_1 l X w y ao p0 _ _ c0 (x_X8_isAlike l X w y su σ p0 hst c0 c1 hp0 hb), fun w1 hP => ?_⟩
    obtain rfl : w1 = w := hP
    have k0 := m0
    have k1 := m1
    refine ⟨⟨_, k0⟩, bz01 _, (c_X9_isAlike_x l X w1 mo v σ p0 k0 k1 hwf hp0 hb).imp (fun w2 h2 => ?_)⟩
    obtain ⟨e0, hf⟩ := h2
    exact ⟨hX.read e0 ⟨rfl, rfl, rfl, rfl, rfl, rfl, rfl⟩ (fun q q0 q1 q2 q3 q4 => hf q q0) ⟨⟨g0, (hf _ (by omega)).trans o1⟩, g1, (hf _ (by omega)).trans o2⟩ ⟨n0, sd0, x0, y0, co0, f0, c12.mv (hf _ (by omega)) (hf _ (by omega))⟩ ⟨am, (hf _ (by omega)).trans c11⟩, ⟨_, e0, rfl⟩, fun z => absurd z (by decide)⟩
set_option maxHeartbeats 2000000 in
theorem pr_caption (l : Launch) (X : Cx) (w : Wo) (y mo ao ad : Nat) (hst : l.stackTraces = false) (hST : ST X w y mo ao ad) (p0 p1 : Int) (hp0 : -2147483648 ≤ p0 ∧ p0 < 2147483648) (hp1 : -2147483648 ≤ p1 ∧ p1 < 2147483648) : CA X y mo ao ad (fun k P => CL l X yL_caption cL_caption 5 (some (.int)) [(0, 10, 13, 28), (0, 10, 17, 19)] (rmx 8 139) [.ref y, .int (iI p0), .int (iI p1), .ref ao] w (some (.int (iI k))) P) (fun w1 b Q => (∃ fs, w1 mo = some (.inr (9, fs))) ∧ CM l X yX9_caption cX9_caption 3 (some (.int)) (rmk 5 122) [.ref mo, .int (iI p0), .int (iI p1)] w1 (some (.int (iI b))) Q) := by
  obtain ⟨su, σ, nx, pas, ac, tx, oo, rv, d, pa, sv, bv, rf, sc, v, hX⟩ := hST
  have hX0 := hX
  obtain ⟨⟨a1, a2, a3⟩, ⟨c0, c1, c2, c3, c4, c5, c6, c7, c8, c9, c10, ⟨am, c11⟩, ⟨n0, sd0, x0, y0, co0, f0, c12⟩, c13⟩, ⟨m0, m1, m2, m3, m4, m5, m6, m7, ⟨tk, m8⟩, m9, ⟨be, m10⟩, ⟨la, m11⟩, m12⟩, ⟨r1, r2, ⟨r3, r4, r5⟩, r6, r7, r8, r9, r10, r11, r12⟩, ⟨g0, o1⟩, g1, o2⟩ := hX0
  have hwf := c1.2.2
  by_cases h1 : 0 ≤ p0 ∧ p0 < σ 5
  · by_cases h2 : 0 ≤ p1 ∧ p1 ≤ 9
    · refine ⟨0, (capQ σ p0 p1), _, .inl rfl, hk_caption l X w y ao p0 p1 _ _ c0 _ (c_X8_caption l X w y su σ p0 p1 c0 c1 h1 h2) (fun w' h => ⟨g0, by rw [h]; exact o1⟩), fun w1 hP => ?_⟩
      obtain ⟨w0, rfl, ⟨g, hg, hgv⟩, hn⟩ := hP
      have k0 := (hn _ (by omega)).trans m0
      have k1 := (hn _ (by omega)).trans m1
      have k6 := (hn _ (by omega)).trans m6
      refine ⟨⟨_, k0⟩, (c_X9_caption l X w1 mo v σ p0 p1 k0 k1 hwf hp0 hp1 (by omega) h2).imp (fun w2 h2 => ?_)⟩
      obtain ⟨e0, hf⟩ := h2
      exact ⟨hX.read e0 ⟨rfl, rfl, rfl, rfl, rfl, rfl, rfl⟩ (fun q q0 q1 q2 q3 q4 => (hf q q0).trans (hn q q1)) ⟨⟨g, (hf _ (by omega)).trans hg⟩, g1, (hf _ (by omega)).trans ((hn _ (by omega)).trans o2)⟩ ⟨n0, sd0, x0, y0, co0, f0, c12.mv ((hf _ (by omega)).trans (hn _ (by omega))) ((hf _ (by omega)).trans (hn _ (by omega)))⟩ ⟨am, (hf _ (by omega)).trans ((hn _ (by omega)).trans c11)⟩, ⟨_, e0, rfl⟩, fun _ => ⟨g, (hf _ (by omega)).trans hg, hgv⟩⟩
    · refine ⟨2, 0, _, .inr (.inr rfl), ht_caption_2 l X w y ao p0 p1 _ _ c0 (x2_caption l X w y su σ p0 p1 hst c0 c1 h1 hp1 h2), fun w1 hP => ?_⟩
      obtain rfl : w1 = w := hP
      have k0 := m0
      have k1 := m1
      refine ⟨⟨_, k0⟩, (c_X9_caption_x2 l X w1 mo v σ p0 p1 k0 k1 hwf hp0 hp1 (by omega) h2).imp (fun w2 h2 => ?_)⟩
      obtain ⟨e0, hf⟩ := h2
      exact ⟨hX.read e0 ⟨rfl, rfl, rfl, rfl, rfl, rfl, rfl⟩ (fun q q0 q1 q2 q3 q4 => hf q q0) ⟨⟨g0, (hf _ (by omega)).trans o1⟩, g1, (hf _ (by omega)).trans o2⟩ ⟨n0, sd0, x0, y0, co0, f0, c12.mv (hf _ (by omega)) (hf _ (by omega))⟩ ⟨am, (hf _ (by omega)).trans c11⟩, ⟨_, e0, rfl⟩, fun z => absurd z (by decide)⟩
  · refine ⟨1, 0, _, .inr (.inl rfl), ht_caption_1 l X w y ao p0 p1 _ _ c0 (x1_caption l X w y su σ p0 p1 hst c0 c1 hp0 h1), fun w1 hP => ?_⟩
    obtain rfl : w1 = w := hP
    have k0 := m0
    have k1 := m1
    refine ⟨⟨_, k0⟩, (c_X9_caption_x1 l X w1 mo v σ p0 p1 k0 k1 hwf hp0 hp1 (by omega)).imp (fun w2 h2 => ?_)⟩
    obtain ⟨e0, hf⟩ := h2
    exact ⟨hX.read e0 ⟨rfl, rfl, rfl, rfl, rfl, rfl, rfl⟩ (fun q q0 q1 q2 q3 q4 => hf q q0) ⟨⟨g0, (hf _ (by omega)).trans o1⟩, g1, (hf _ (by omega)).trans o2⟩ ⟨n0, sd0, x0, y0, co0, f0, c12.mv (hf _ (by omega)) (hf _ (by omega))⟩ ⟨am, (hf _ (by omega)).trans c11⟩, ⟨_, e0, rfl⟩, fun z => absurd z (by decide)⟩
set_option maxHeartbeats 2000000 in
theorem pr_colour (l : Launch) (X : Cx) (w : Wo) (y mo ao ad : Nat) (hst : l.stackTraces = false) (hST : ST X w y mo ao ad) (p0 p1 : Int) (hp0 : -2147483648 ≤ p0 ∧ p0 < 2147483648) (hp1 : -2147483648 ≤ p1 ∧ p1 < 2147483648) : CA X y mo ao ad (fun k P => CL l X yL_colour cL_colour 5 (some (.int)) [(0, 10, 13, 28), (0, 10, 17, 19)] (rmx 8 126) [.ref y, .int (iI p0), .int (iI p1), .ref ao] w (some (.int (iI k))) P) (fun w1 b Q => (∃ fs, w1 mo = some (.inr (9, fs))) ∧ CM l X yX9_colour cX9_colour 3 (some (.int)) (rmk 4 96) [.ref mo, .int (iI p0), .int (iI p1)] w1 (some (.int (iI b))) Q) := by
  obtain ⟨su, σ, nx, pas, ac, tx, oo, rv, d, pa, sv, bv, rf, sc, v, hX⟩ := hST
  have hX0 := hX
  obtain ⟨⟨a1, a2, a3⟩, ⟨c0, c1, c2, c3, c4, c5, c6, c7, c8, c9, c10, ⟨am, c11⟩, ⟨n0, sd0, x0, y0, co0, f0, c12⟩, c13⟩, ⟨m0, m1, m2, m3, m4, m5, m6, m7, ⟨tk, m8⟩, m9, ⟨be, m10⟩, ⟨la, m11⟩, m12⟩, ⟨r1, r2, ⟨r3, r4, r5⟩, r6, r7, r8, r9, r10, r11, r12⟩, ⟨g0, o1⟩, g1, o2⟩ := hX0
  have hwf := c1.2.2
  by_cases h1 : 0 ≤ p0 ∧ p0 < 7
  · by_cases h2 : 0 ≤ p1 ∧ p1 ≤ 4
    · refine ⟨0, (colQ σ p0 p1), _, .inl rfl, hk_colour l X w y ao p0 p1 _ _ c0 _ (c_X8_colour l X w y su σ p0 p1 c0 c1 h1 h2) (fun w' h => ⟨g0, by rw [h]; exact o1⟩), fun w1 hP => ?_⟩
      obtain ⟨w0, rfl, ⟨g, hg, hgv⟩, hn⟩ := hP
      have k0 := (hn _ (by omega)).trans m0
      have k1 := (hn _ (by omega)).trans m1
      have k6 := (hn _ (by omega)).trans m6
      refine ⟨⟨_, k0⟩, (c_X9_colour l X w1 mo v σ p0 p1 k0 k1 hwf (by omega) h2).imp (fun w2 h2 => ?_)⟩
      obtain ⟨e0, hf⟩ := h2
      exact ⟨hX.read e0 ⟨rfl, rfl, rfl, rfl, rfl, rfl, rfl⟩ (fun q q0 q1 q2 q3 q4 => (hf q q0).trans (hn q q1)) ⟨⟨g, (hf _ (by omega)).trans hg⟩, g1, (hf _ (by omega)).trans ((hn _ (by omega)).trans o2)⟩ ⟨n0, sd0, x0, y0, co0, f0, c12.mv ((hf _ (by omega)).trans (hn _ (by omega))) ((hf _ (by omega)).trans (hn _ (by omega)))⟩ ⟨am, (hf _ (by omega)).trans ((hn _ (by omega)).trans c11)⟩, ⟨_, e0, rfl⟩, fun _ => ⟨g, (hf _ (by omega)).trans hg, hgv⟩⟩
    · refine ⟨2, 0, _, .inr (.inr rfl), ht_colour_2 l X w y ao p0 p1 _ _ c0 (x2_colour l X w y su σ p0 p1 hst c0 c1 h1 hp1 h2), fun w1 hP => ?_⟩
      obtain rfl : w1 = w := hP
      have k0 := m0
      have k1 := m1
      refine ⟨⟨_, k0⟩, (c_X9_colour_x2 l X w1 mo v σ p0 p1 k0 k1 hwf (by omega) h2 hp1).imp (fun w2 h2 => ?_)⟩
      obtain ⟨e0, hf⟩ := h2
      exact ⟨hX.read e0 ⟨rfl, rfl, rfl, rfl, rfl, rfl, rfl⟩ (fun q q0 q1 q2 q3 q4 => hf q q0) ⟨⟨g0, (hf _ (by omega)).trans o1⟩, g1, (hf _ (by omega)).trans o2⟩ ⟨n0, sd0, x0, y0, co0, f0, c12.mv (hf _ (by omega)) (hf _ (by omega))⟩ ⟨am, (hf _ (by omega)).trans c11⟩, ⟨_, e0, rfl⟩, fun z => absurd z (by decide)⟩
  · refine ⟨1, 0, _, .inr (.inl rfl), ht_colour_1 l X w y ao p0 p1 _ _ c0 (x1_colour l X w y su σ p0 p1 hst c0 c1 hp0 h1), fun w1 hP => ?_⟩
    obtain rfl : w1 = w := hP
    have k0 := m0
    have k1 := m1
    refine ⟨⟨_, k0⟩, (c_X9_colour_x1 l X w1 mo v σ p0 p1 k0 k1 hwf (by omega) hp0 hp1).imp (fun w2 h2 => ?_)⟩
    obtain ⟨e0, hf⟩ := h2
    exact ⟨hX.read e0 ⟨rfl, rfl, rfl, rfl, rfl, rfl, rfl⟩ (fun q q0 q1 q2 q3 q4 => hf q q0) ⟨⟨g0, (hf _ (by omega)).trans o1⟩, g1, (hf _ (by omega)).trans o2⟩ ⟨n0, sd0, x0, y0, co0, f0, c12.mv (hf _ (by omega)) (hf _ (by omega))⟩ ⟨am, (hf _ (by omega)).trans c11⟩, ⟨_, e0, rfl⟩, fun z => absurd z (by decide)⟩
set_option maxHeartbeats 2000000 in
theorem pr_letter (l : Launch) (X : Cx) (w : Wo) (y mo ao ad : Nat) (hst : l.stackTraces = false) (hST : ST X w y mo ao ad) (p0 p1 p2 : Int) (hp0 : -2147483648 ≤ p0 ∧ p0 < 2147483648) (hp1 : -2147483648 ≤ p1 ∧ p1 < 2147483648) (hp2 : -2147483648 ≤ p2 ∧ p2 < 2147483648) : CA X y mo ao ad (fun k P => CL l X yL_letter cL_letter 6 (some (.int)) [(0, 12, 15, 28), (0, 12, 19, 19)] (rmx 8 128) [.ref y, .int (iI p0), .int (iI p1), .int (iI p2), .ref ao] w (some (.int (iI k))) P) (fun w1 b Q => (∃ fs, w1 mo = some (.inr (9, fs))) ∧ CM l X yX9_letter cX9_letter 4 (some (.int)) (rmk 4 97) [.ref mo, .int (iI p0), .int (iI p1), .int (iI p2)] w1 (some (.int (iI b))) Q) := by
  obtain ⟨su, σ, nx, pas, ac, tx, oo, rv, d, pa, sv, bv, rf, sc, v, hX⟩ := hST
  have hX0 := hX
  obtain ⟨⟨a1, a2, a3⟩, ⟨c0, c1, c2, c3, c4, c5, c6, c7, c8, c9, c10, ⟨am, c11⟩, ⟨n0, sd0, x0, y0, co0, f0, c12⟩, c13⟩, ⟨m0, m1, m2, m3, m4, m5, m6, m7, ⟨tk, m8⟩, m9, ⟨be, m10⟩, ⟨la, m11⟩, m12⟩, ⟨r1, r2, ⟨r3, r4, r5⟩, r6, r7, r8, r9, r10, r11, r12⟩, ⟨g0, o1⟩, g1, o2⟩ := hX0
  have hwf := c1.2.2
  by_cases h1 : 0 ≤ p0 ∧ p0 < σ 5
  · by_cases h2 : 0 ≤ p1 ∧ p1 < cp σ p0 0
    · by_cases h3 : 0 ≤ p2 ∧ p2 ≤ 3
      · refine ⟨0, (letQ σ p0 p1 p2), _, .inl rfl, hk_letter l X w y ao p0 p1 p2 _ _ c0 _ (c_X8_letter l X w y su σ p0 p1 p2 c0 c1 h1 h2 h3) (fun w' h => ⟨g0, by rw [h]; exact o1⟩), fun w1 hP => ?_⟩
        obtain ⟨w0, rfl, ⟨g, hg, hgv⟩, hn⟩ := hP
        have k0 := (hn _ (by omega)).trans m0
        have k1 := (hn _ (by omega)).trans m1
        have k6 := (hn _ (by omega)).trans m6
        refine ⟨⟨_, k0⟩, (c_X9_letter l X w1 mo v σ p0 p1 p2 k0 k1 hwf h1 h2 h3).imp (fun w2 h2 => ?_)⟩
        obtain ⟨e0, hf⟩ := h2
        exact ⟨hX.read e0 ⟨rfl, rfl, rfl, rfl, rfl, rfl, rfl⟩ (fun q q0 q1 q2 q3 q4 => (hf q q0).trans (hn q q1)) ⟨⟨g, (hf _ (by omega)).trans hg⟩, g1, (hf _ (by omega)).trans ((hn _ (by omega)).trans o2)⟩ ⟨n0, sd0, x0, y0, co0, f0, c12.mv ((hf _ (by omega)).trans (hn _ (by omega))) ((hf _ (by omega)).trans (hn _ (by omega)))⟩ ⟨am, (hf _ (by omega)).trans ((hn _ (by omega)).trans c11)⟩, ⟨_, e0, rfl⟩, fun _ => ⟨g, (hf _ (by omega)).trans hg, hgv⟩⟩
      · refine ⟨2, 0, _, .inr (.inr rfl), ht_letter_2 l X w y ao p0 p1 p2 _ _ c0 (x2_letter l X w y su σ p0 p1 p2 hst c0 c1 h1 h2 hp2 h3), fun w1 hP => ?_⟩
        obtain rfl : w1 = w := hP
        have k0 := m0
        have k1 := m1
        refine ⟨⟨_, k0⟩, (c_X9_letter_x2 l X w1 mo v σ p0 p1 p2 k0 k1 hwf h1 h2 hp2 h3).imp (fun w2 h2 => ?_)⟩
        obtain ⟨e0, hf⟩ := h2
        exact ⟨hX.read e0 ⟨rfl, rfl, rfl, rfl, rfl, rfl, rfl⟩ (fun q q0 q1 q2 q3 q4 => hf q q0) ⟨⟨g0, (hf _ (by omega)).trans o1⟩, g1, (hf _ (by omega)).trans o2⟩ ⟨n0, sd0, x0, y0, co0, f0, c12.mv (hf _ (by omega)) (hf _ (by omega))⟩ ⟨am, (hf _ (by omega)).trans c11⟩, ⟨_, e0, rfl⟩, fun z => absurd z (by decide)⟩
    · refine ⟨1, 0, _, .inr (.inl rfl), ht_letter_1 l X w y ao p0 p1 p2 _ _ c0 (x1_letter l X w y su σ p0 p1 p2 hst c0 c1 h1 hp1 h2), fun w1 hP => ?_⟩
      obtain rfl : w1 = w := hP
      have k0 := m0
      have k1 := m1
      refine ⟨⟨_, k0⟩, (c_X9_letter_x1 l X w1 mo v σ p0 p1 p2 k0 k1 hwf hp0 hp1 hp2 (by omega)).imp (fun w2 h2 => ?_)⟩
      obtain ⟨e0, hf⟩ := h2
      exact ⟨hX.read e0 ⟨rfl, rfl, rfl, rfl, rfl, rfl, rfl⟩ (fun q q0 q1 q2 q3 q4 => hf q q0) ⟨⟨g0, (hf _ (by omega)).trans o1⟩, g1, (hf _ (by omega)).trans o2⟩ ⟨n0, sd0, x0, y0, co0, f0, c12.mv (hf _ (by omega)) (hf _ (by omega))⟩ ⟨am, (hf _ (by omega)).trans c11⟩, ⟨_, e0, rfl⟩, fun z => absurd z (by decide)⟩
  · refine ⟨1, 0, _, .inr (.inl rfl), ht_letter_1 l X w y ao p0 p1 p2 _ _ c0 (x0_letter l X w y su σ p0 p1 p2 hst c0 c1 hp0 h1), fun w1 hP => ?_⟩
    obtain rfl : w1 = w := hP
    have k0 := m0
    have k1 := m1
    refine ⟨⟨_, k0⟩, (c_X9_letter_x1 l X w1 mo v σ p0 p1 p2 k0 k1 hwf hp0 hp1 hp2 (by omega)).imp (fun w2 h2 => ?_)⟩
    obtain ⟨e0, hf⟩ := h2
    exact ⟨hX.read e0 ⟨rfl, rfl, rfl, rfl, rfl, rfl, rfl⟩ (fun q q0 q1 q2 q3 q4 => hf q q0) ⟨⟨g0, (hf _ (by omega)).trans o1⟩, g1, (hf _ (by omega)).trans o2⟩ ⟨n0, sd0, x0, y0, co0, f0, c12.mv (hf _ (by omega)) (hf _ (by omega))⟩ ⟨am, (hf _ (by omega)).trans c11⟩, ⟨_, e0, rfl⟩, fun z => absurd z (by decide)⟩
