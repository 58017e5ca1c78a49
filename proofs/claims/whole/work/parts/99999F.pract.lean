/-! ===== the pair goes through the acts ===== -/
theorem RR.cg {su : Int} {v u ac tx rv pa bv rf : Int → Int} {pas : Int → Int → Int} (h : RR su v pas ac tx rv pa bv rf) (hu : sameV u v) : RR su u pas ac tx rv pa bv rf := by
  obtain ⟨r1, r2, ⟨r3, r4, r5⟩, r6, r7, r8, r9, r10, r11, r12⟩ := h
  obtain ⟨u5, u8, u9, u11, u20, u21, u31⟩ := hu
  exact ⟨by rw [u5]; exact r1, by rw [u5]; exact r2, ⟨by rw [u8]; exact r3, by rw [u9]; exact r4, r5⟩, by rw [u11]; exact r6, by rw [u11]; exact r7, by rw [u31]; exact r8, r9, r10, by rw [u20]; exact r11, by rw [u21]; exact r12⟩
theorem RR.ref {su r : Int} {v ac tx rv pa bv rf : Int → Int} {pas : Int → Int → Int} (h : RR su v pas ac tx rv pa bv rf) (hr : 1 ≤ r ∧ r < 8) : RR su v pas (up ac r (ac r + 1)) tx rv pa bv (up rf r (rf r + 1)) := by
  obtain ⟨r1, r2, ⟨r3, r4, r5⟩, r6⟩ := h
  refine ⟨r1, r2, ⟨(up_n (by omega)).trans r3, (up_n (by omega)).trans r4, fun q q1 q2 => ?_⟩, r6⟩
  by_cases g : q = r
  · rw [g, up_s, up_s, r5 r hr.1 hr.2]
  · rw [up_n g, up_n g, r5 q q1 q2]
theorem RR.act {su : Int} {v σ ac tx rv pa bv rf : Int → Int} {pas : Int → Int → Int} (h : RR su v pas ac tx rv pa bv rf) : RR su (up (up v 5 (min 8 (v 5 + 1))) 8 (v 8 + 1)) (keepP (v 5) pas σ) (up ac 0 (ac 0 + 1)) tx rv (actP (v 5) pa σ) bv rf := by
  obtain ⟨r1, r2, ⟨r3, r4, r5⟩, r6⟩ := h
  refine ⟨(by show 0 ≤ min 8 (v 5 + 1) ∧ min 8 (v 5 + 1) ≤ 8; omega), fun i i0 i1 p p0 p1 => actP_v r1 r2 i i0 i1 p p0 p1, ⟨?_, ?_, fun q q1 q2 => (up_n (by omega)).trans (r5 q q1 q2)⟩, r6⟩
  · show up ac 0 (ac 0 + 1) 0 = v 8 + 1
    rw [up_s, r3]
  · show up ac 0 (ac 0 + 1) 8 = v 9
    rw [up_n (by decide), r4]
theorem RR.min {su m : Int} {v ac tx rv pa bv rf : Int → Int} {pas : Int → Int → Int} (h : RR su v pas ac tx rv pa bv rf) : RR su (up v 9 (v 9 + m)) pas (up ac 8 (ac 8 + m)) tx rv pa bv rf := by
  obtain ⟨r1, r2, ⟨r3, r4, r5⟩, r6⟩ := h
  refine ⟨r1, r2, ⟨(up_n (by decide)).trans r3, ?_, fun q q1 q2 => (up_n (by omega)).trans (r5 q q1 q2)⟩, r6⟩
  show up ac 8 (ac 8 + m) 8 = v 9 + m
  rw [up_s, r4]
theorem RR.txt {su N : Int} {v ac tx tx2 rv pa bv rf : Int → Int} {pas : Int → Int → Int} (h : RR su v pas ac tx rv pa bv rf) (hN : 0 ≤ N ∧ N ≤ 400) (ht : ∀ i, 0 ≤ i → i < N → 0 ≤ tx2 i ∧ tx2 i ≤ 255) : RR su (up v 11 N) pas ac tx2 rv pa bv rf := by
  obtain ⟨r1, r2, r3, r6, r7, r8, r9⟩ := h
  exact ⟨r1, r2, r3, hN, ht, r8, r9⟩
theorem RR.out {su M : Int} {v ac tx rv pa bv rf : Int → Int} {pas : Int → Int → Int} (h : RR su v pas ac tx rv pa bv rf) (hM : 0 ≤ M ∧ M ≤ 80) : RR su (up v 31 M) pas ac tx rv pa bv rf := by
  obtain ⟨r1, r2, r3, r6, r7, r8, r9⟩ := h
  exact ⟨r1, r2, r3, r6, r7, hM, r9⟩
theorem RR.und {su n : Int} {v ac tx rv pa bv rf : Int → Int} {pas pas2 : Int → Int → Int} (h : RR su v pas ac tx rv pa bv rf) (hn : 0 ≤ n ∧ n ≤ 8) (hp : ∀ i, 0 ≤ i → i < n → ∀ p, 0 ≤ p → p < 1317 → pa (1317 * i + p) = pas2 i p) : RR su (up v 5 n) pas2 ac tx rv pa bv rf := by
  obtain ⟨r1, r2, r3⟩ := h
  exact ⟨hn, hp, r3⟩
theorem why_r {σ : Int → Int} {n sd x y bu : Int} : whyS σ n sd x y bu = 0 ∨ whyS σ n sd x y bu = 5 ∨ whyS σ n sd x y bu = 6 := by
  unfold whyS
  (repeat' split) <;> omega
set_option maxHeartbeats 2000000 in
theorem pr_pass (l : Launch) (X : Cx) (w : Wo) (y mo ao ad : Nat) (hst : l.stackTraces = false) (hST : ST X w y mo ao ad) (p0 p1 p2 : Int) (hp0 : -2147483648 ≤ p0 ∧ p0 < 2147483648) (hp1 : -2147483648 ≤ p1 ∧ p1 < 2147483648) (hp2 : -2147483648 ≤ p2 ∧ p2 < 2147483648) : CA X y mo ao ad (fun k P => CL l X yL_pass cL_pass 6 (some (.int)) [(0, 12, 15, 28), (0, 12, 19, 19)] (rmx 8 176) [.ref y, .int (iI p0), .int (iI p1), .int (iI p2), .ref ao] w (some (.int (iI k))) P) (fun w1 b Q => (∃ fs, w1 mo = some (.inr (9, fs))) ∧ CM l X yX9_pass cX9_pass 5 (some (.int)) (rmk 3 70) [.ref mo, .int (iI p0), .int (iI p1), .int (iI p2)] w1 (some (.int (iI b))) Q) := by
  obtain ⟨su, σ, nx, pas, ac, tx, oo, rv, d, pa, sv, bv, rf, sc, v, hX⟩ := hST
  have hX0 := hX
  obtain ⟨⟨a1, a2, a3⟩, ⟨c0, c1, c2, c3, c4, c5, c6, c7, c8, c9, c10, ⟨am, c11⟩, ⟨n0, sd0, x0, y0, co0, f0, c12⟩, c13⟩, ⟨m0, m1, m2, m3, m4, m5, m6, m7, ⟨tk, m8⟩, m9, ⟨be, m10⟩, ⟨la, m11⟩, m12⟩, ⟨r1, r2, ⟨r3, r4, r5⟩, r6, r7, r8, r9, r10, r11, r12⟩, ⟨g0, o1⟩, g1, o2⟩ := hX0
  have hwf := c1.2.2
  have hR := hX.2.2.2.1
  by_cases hA : 0 ≤ p0 ∧ p0 < 7
  · by_cases hB : (0 ≤ p1 ∧ p1 < σ 0) ∧ (0 ≤ p2 ∧ p2 < σ 0)
    · by_cases hC : p1 ≤ p2
      · have hft : 0 ≤ p1 ∧ p1 ≤ p2 ∧ p2 < σ 0 := by omega
        have hF := hwf.1
        unfold WF0 at hF
        by_cases h1 : σ 4 = σ 1
        · refine ⟨0, (-1), _, .inl rfl, hk_pass l X w y ao p0 p1 p2 _ _ c0 _ (c_pass_r1 l X w y su ac σ nx (v 5) pas p0 p1 p2 c0 c3 c1 c2 hA hft h1) (fun w' h => by obtain ⟨e3, hn0⟩ := h; exact ⟨g0, (hn0 _ (by omega)).trans o1⟩), fun w1 hP => ?_⟩
          obtain ⟨w0, ⟨e3, hn0⟩, ⟨g, hg, hgv⟩, hn⟩ := hP
          have hC0 : PC X w0 y su σ nx (v 5) pas (up ac 1 (ac 1 + 1)) (v 11) tx (v 31) oo rv sv bv := ⟨(hn0 _ (by omega)).trans c0, c1.mv (fun q q0 q1 => hn0 q (by omega)), c2.mv (fun q q0 q1 => hn0 q (by omega)), e3, (hn0 _ (by omega)).trans c4, (hn0 _ (by omega)).trans c5, (hn0 _ (by omega)).trans c6, (hn0 _ (by omega)).trans c7, (hn0 _ (by omega)).trans c8, c9.mv (fun q q0 q1 q2 => hn0 q (by omega)), c10.mv (fun q q0 q1 => hn0 q (by omega)), ⟨am, (hn0 _ (by omega)).trans c11⟩, ⟨n0, sd0, x0, y0, co0, f0, c12.mv (hn0 _ (by omega)) (hn0 _ (by omega))⟩, c13.mv (fun q q0 q1 => hn0 q (by omega))⟩
          have hM1 : PM X w1 mo v σ d pa sv bv rf tx oo sc := hX.2.2.1.mv (fun q q0 q1 => (hn q (by omega)).trans (hn0 q (by omega)))
          obtain ⟨k0, k1, k2, k3, k4, k5, k6, k7, ⟨tk, k8⟩, k9, ⟨be, k10⟩, ⟨la, k11⟩, k12⟩ := hM1
          refine ⟨⟨_, k0⟩, (c_X9_pass_r1 l X w1 mo v σ rf p0 p1 p2 k0 k1 hwf k6 hA hft h1).imp (fun w2 h2 => ?_)⟩
          obtain ⟨e0, u6, hf⟩ := h2
          have hC2 := hC0.mv (w2 := w2) (fun q q0 q1 => (hf q (by omega) (by omega)).trans (hn q (by omega)))
          have og := (hf ao (by omega) (by omega)).trans hg
          have od := (hf ad (by omega) (by omega)).trans ((hn ad (by omega)).trans ((hn0 ad (by omega)).trans o2))
          exact ⟨⟨su, σ, nx, pas, (up ac 1 (ac 1 + 1)), tx, oo, rv, d, pa, sv, bv, (up rf 1 (rf 1 + 1)), sc, (up v 6 0), ⟨a1, a2, a3⟩, hC2, ⟨e0, (hf _ (by omega) (by omega)).trans k1, (hf _ (by omega) (by omega)).trans k2, (hf _ (by omega) (by omega)).trans k3, (hf _ (by omega) (by omega)).trans k4, (hf _ (by omega) (by omega)).trans k5, u6, (hf _ (by omega) (by omega)).trans k7, ⟨tk, (hf _ (by omega) (by omega)).trans k8⟩, (hf _ (by omega) (by omega)).trans k9, ⟨be, (hf _ (by omega) (by omega)).trans k10⟩, ⟨la, (hf _ (by omega) (by omega)).trans k11⟩, (hf _ (by omega) (by omega)).trans k12⟩, (RR.ref hR (by omega)).cg ⟨rfl, rfl, rfl, rfl, rfl, rfl, rfl⟩, ⟨⟨_, og⟩, g1, od⟩⟩, ⟨_, e0, rfl⟩, fun _ => ⟨g, og, hgv⟩⟩
        · by_cases h2 : σ (6 + p0) < p2 - p1 + 1
          · refine ⟨0, (-2), _, .inl rfl, hk_pass l X w y ao p0 p1 p2 _ _ c0 _ (c_pass_r2 l X w y su ac σ nx (v 5) pas p0 p1 p2 c0 c3 c1 c2 hA hft (by omega) h2) (fun w' h => by obtain ⟨e3, hn0⟩ := h; exact ⟨g0, (hn0 _ (by omega)).trans o1⟩), fun w1 hP => ?_⟩
            obtain ⟨w0, ⟨e3, hn0⟩, ⟨g, hg, hgv⟩, hn⟩ := hP
            have hC0 : PC X w0 y su σ nx (v 5) pas (up ac 2 (ac 2 + 1)) (v 11) tx (v 31) oo rv sv bv := ⟨(hn0 _ (by omega)).trans c0, c1.mv (fun q q0 q1 => hn0 q (by omega)), c2.mv (fun q q0 q1 => hn0 q (by omega)), e3, (hn0 _ (by omega)).trans c4, (hn0 _ (by omega)).trans c5, (hn0 _ (by omega)).trans c6, (hn0 _ (by omega)).trans c7, (hn0 _ (by omega)).trans c8, c9.mv (fun q q0 q1 q2 => hn0 q (by omega)), c10.mv (fun q q0 q1 => hn0 q (by omega)), ⟨am, (hn0 _ (by omega)).trans c11⟩, ⟨n0, sd0, x0, y0, co0, f0, c12.mv (hn0 _ (by omega)) (hn0 _ (by omega))⟩, c13.mv (fun q q0 q1 => hn0 q (by omega))⟩
            have hM1 : PM X w1 mo v σ d pa sv bv rf tx oo sc := hX.2.2.1.mv (fun q q0 q1 => (hn q (by omega)).trans (hn0 q (by omega)))
            obtain ⟨k0, k1, k2, k3, k4, k5, k6, k7, ⟨tk, k8⟩, k9, ⟨be, k10⟩, ⟨la, k11⟩, k12⟩ := hM1
            refine ⟨⟨_, k0⟩, (c_X9_pass_r2 l X w1 mo v σ rf p0 p1 p2 k0 k1 hwf k6 hA hft (by omega) h2).imp (fun w2 h2 => ?_)⟩
            obtain ⟨e0, u6, hf⟩ := h2
            have hC2 := hC0.mv (w2 := w2) (fun q q0 q1 => (hf q (by omega) (by omega)).trans (hn q (by omega)))
            have og := (hf ao (by omega) (by omega)).trans hg
            have od := (hf ad (by omega) (by omega)).trans ((hn ad (by omega)).trans ((hn0 ad (by omega)).trans o2))
            exact ⟨⟨su, σ, nx, pas, (up ac 2 (ac 2 + 1)), tx, oo, rv, d, pa, sv, bv, (up rf 2 (rf 2 + 1)), sc, (up v 6 0), ⟨a1, a2, a3⟩, hC2, ⟨e0, (hf _ (by omega) (by omega)).trans k1, (hf _ (by omega) (by omega)).trans k2, (hf _ (by omega) (by omega)).trans k3, (hf _ (by omega) (by omega)).trans k4, (hf _ (by omega) (by omega)).trans k5, u6, (hf _ (by omega) (by omega)).trans k7, ⟨tk, (hf _ (by omega) (by omega)).trans k8⟩, (hf _ (by omega) (by omega)).trans k9, ⟨be, (hf _ (by omega) (by omega)).trans k10⟩, ⟨la, (hf _ (by omega) (by omega)).trans k11⟩, (hf _ (by omega) (by omega)).trans k12⟩, (RR.ref hR (by omega)).cg ⟨rfl, rfl, rfl, rfl, rfl, rfl, rfl⟩, ⟨⟨_, og⟩, g1, od⟩⟩, ⟨_, e0, rfl⟩, fun _ => ⟨g, og, hgv⟩⟩
          · refine ⟨0, (σ (6 + p0) - (p2 - p1 + 1)), _, .inl rfl, hk_pass l X w y ao p0 p1 p2 _ _ c0 _ (c_X8_pass l X w y su ac σ nx (v 5) pas p0 p1 p2 c0 c3 c1 c2 hA hft (by omega) (by omega)) (fun w' h => by obtain ⟨e3, e2, e1, hn0⟩ := h; exact ⟨g0, (hn0 _ (by omega) (by omega) (by omega) (by omega)).trans o1⟩), fun w1 hP => ?_⟩
            obtain ⟨w0, ⟨e3, e2, e1, hn0⟩, ⟨g, hg, hgv⟩, hn⟩ := hP
            have hC0 : PC X w0 y su (passN σ p0 p1 (p2 - p1 + 1).toNat) ((if nx = 8 then 0 else nx) + 1) (min 8 (v 5 + 1)) (keepP (v 5) pas σ) (up ac 0 (ac 0 + 1)) (v 11) tx (v 31) oo rv sv bv := ⟨(hn0 _ (by omega) (by omega) (by omega) (by omega)).trans c0, e1, e2, e3, (hn0 _ (by omega) (by omega) (by omega) (by omega)).trans c4, (hn0 _ (by omega) (by omega) (by omega) (by omega)).trans c5, (hn0 _ (by omega) (by omega) (by omega) (by omega)).trans c6, (hn0 _ (by omega) (by omega) (by omega) (by omega)).trans c7, (hn0 _ (by omega) (by omega) (by omega) (by omega)).trans c8, c9.mv (fun q q0 q1 q2 => hn0 q (by omega) (by omega) (by omega) (by omega)), c10.mv (fun q q0 q1 => hn0 q (by omega) (by omega) (by omega) (by omega)), ⟨am, (hn0 _ (by omega) (by omega) (by omega) (by omega)).trans c11⟩, ⟨n0, sd0, x0, y0, co0, f0, c12.mv (hn0 _ (by omega) (by omega) (by omega) (by omega)) (hn0 _ (by omega) (by omega) (by omega) (by omega))⟩, c13.mv (fun q q0 q1 => hn0 q (by omega) (by omega) (by omega) (by omega))⟩
            have hM1 : PM X w1 mo v σ d pa sv bv rf tx oo sc := hX.2.2.1.mv (fun q q0 q1 => (hn q (by omega)).trans (hn0 q (by omega) (by omega) (by omega) (by omega)))
            obtain ⟨k0, k1, k2, k3, k4, k5, k6, k7, ⟨tk, k8⟩, k9, ⟨be, k10⟩, ⟨la, k11⟩, k12⟩ := hM1
            refine ⟨⟨_, k0⟩, (c_X9_pass l X w1 mo v σ pa p0 p1 p2 k0 k1 hwf k3 r1 hA hft (by omega) (by omega)).imp (fun w2 h2 => ?_)⟩
            obtain ⟨e0, u1, u3, hf⟩ := h2
            have hC2 := hC0.mv (w2 := w2) (fun q q0 q1 => (hf q (by omega) (by omega) (by omega)).trans (hn q (by omega)))
            have og := (hf ao (by omega) (by omega) (by omega)).trans hg
            have od := (hf ad (by omega) (by omega) (by omega)).trans ((hn ad (by omega)).trans ((hn0 ad (by omega) (by omega) (by omega) (by omega)).trans o2))
            exact ⟨⟨su, (passN σ p0 p1 (p2 - p1 + 1).toNat), ((if nx = 8 then 0 else nx) + 1), (keepP (v 5) pas σ), (up ac 0 (ac 0 + 1)), tx, oo, rv, d, (actP (v 5) pa σ), sv, bv, rf, sc, _, ⟨a1, a2, a3⟩, hC2, ⟨e0, u1, (hf _ (by omega) (by omega) (by omega)).trans k2, u3, (hf _ (by omega) (by omega) (by omega)).trans k4, (hf _ (by omega) (by omega) (by omega)).trans k5, (hf _ (by omega) (by omega) (by omega)).trans k6, (hf _ (by omega) (by omega) (by omega)).trans k7, ⟨tk, (hf _ (by omega) (by omega) (by omega)).trans k8⟩, (hf _ (by omega) (by omega) (by omega)).trans k9, ⟨be, (hf _ (by omega) (by omega) (by omega)).trans k10⟩, ⟨la, (hf _ (by omega) (by omega) (by omega)).trans k11⟩, (hf _ (by omega) (by omega) (by omega)).trans k12⟩, (RR.act hR).cg ⟨rfl, rfl, rfl, rfl, rfl, rfl, rfl⟩, ⟨⟨_, og⟩, g1, od⟩⟩, ⟨_, e0, rfl⟩, fun _ => ⟨g, og, hgv⟩⟩
      · refine ⟨2, 0, _, .inr (.inr rfl), ht_pass_2 l X w y ao p0 p1 p2 _ _ c0 (x2_pass l X w y su σ p0 p1 p2 hst c0 c1 hA hB (by omega)), fun w1 hP => ?_⟩
        obtain rfl : w1 = w := hP
        have k0 := m0
        have k1 := m1
        refine ⟨⟨_, k0⟩, (c_X9_pass_x2 l X w1 mo v σ p0 p1 p2 k0 k1 hwf hp0 hp1 hp2 (by omega) (by omega)).imp (fun w2 h2 => ?_)⟩
        obtain ⟨e0, hf⟩ := h2
        exact ⟨hX.read e0 ⟨rfl, rfl, rfl, rfl, rfl, rfl, rfl⟩ (fun q q0 q1 q2 q3 q4 => hf q q0) ⟨⟨g0, (hf _ (by omega)).trans o1⟩, g1, (hf _ (by omega)).trans o2⟩ ⟨n0, sd0, x0, y0, co0, f0, c12.mv (hf _ (by omega)) (hf _ (by omega))⟩ ⟨am, (hf _ (by omega)).trans c11⟩, ⟨_, e0, rfl⟩, fun z => absurd z (by decide)⟩
    · refine ⟨1, 0, _, .inr (.inl rfl), ht_pass_1 l X w y ao p0 p1 p2 _ _ c0 (x1_pass l X w y su σ p0 p1 p2 hst c0 c1 hA hp1 hp2 hB), fun w1 hP => ?_⟩
      obtain rfl : w1 = w := hP
      have k0 := m0
      have k1 := m1
      refine ⟨⟨_, k0⟩, (c_X9_pass_x1 l X w1 mo v σ p0 p1 p2 k0 k1 hwf hp0 hp1 hp2 (by omega)).imp (fun w2 h2 => ?_)⟩
      obtain ⟨e0, hf⟩ := h2
      exact ⟨hX.read e0 ⟨rfl, rfl, rfl, rfl, rfl, rfl, rfl⟩ (fun q q0 q1 q2 q3 q4 => hf q q0) ⟨⟨g0, (hf _ (by omega)).trans o1⟩, g1, (hf _ (by omega)).trans o2⟩ ⟨n0, sd0, x0, y0, co0, f0, c12.mv (hf _ (by omega)) (hf _ (by omega))⟩ ⟨am, (hf _ (by omega)).trans c11⟩, ⟨_, e0, rfl⟩, fun z => absurd z (by decide)⟩
  · refine ⟨1, 0, _, .inr (.inl rfl), ht_pass_1 l X w y ao p0 p1 p2 _ _ c0 (x0_pass l X w y su σ p0 p1 p2 hst c0 c1 hp0 hA), fun w1 hP => ?_⟩
    obtain rfl : w1 = w := hP
    have k0 := m0
    have k1 := m1
    refine ⟨⟨_, k0⟩, (c_X9_pass_x1 l X w1 mo v σ p0 p1 p2 k0 k1 hwf hp0 hp1 hp2 (by omega)).imp (fun w2 h2 => ?_)⟩
    obtain ⟨e0, hf⟩ := h2
    exact ⟨hX.read e0 ⟨rfl, rfl, rfl, rfl, rfl, rfl, rfl⟩ (fun q q0 q1 q2 q3 q4 => hf q q0) ⟨⟨g0, (hf _ (by omega)).trans o1⟩, g1, (hf _ (by omega)).trans o2⟩ ⟨n0, sd0, x0, y0, co0, f0, c12.mv (hf _ (by omega)) (hf _ (by omega))⟩ ⟨am, (hf _ (by omega)).trans c11⟩, ⟨_, e0, rfl⟩, fun z => absurd z (by decide)⟩
set_option maxHeartbeats 2000000 in
theorem pr_weave (l : Launch) (X : Cx) (w : Wo) (y mo ao ad : Nat) (hst : l.stackTraces = false) (hST : ST X w y mo ao ad) (p0 : Int) (b1 : Bool) (hp0 : -2147483648 ≤ p0 ∧ p0 < 2147483648) : CA X y mo ao ad (fun k P => CL l X yL_weave cL_weave 5 (some (.int)) [(0, 10, 13, 19)] (rmx 8 174) [.ref y, .int (iI p0), .int (iI (bz b1)), .ref ao] w (some (.int (iI k))) P) (fun w1 b Q => (∃ fs, w1 mo = some (.inr (9, fs))) ∧ CM l X yX9_weave cX9_weave 3 (some (.int)) (rmk 7 171) [.ref mo, .int (iI p0), .int (iI (bz b1))] w1 (some (.int (iI b))) Q) := by
  obtain ⟨su, σ, nx, pas, ac, tx, oo, rv, d, pa, sv, bv, rf, sc, v, hX⟩ := hST
  have hX0 := hX
  obtain ⟨⟨a1, a2, a3⟩, ⟨c0, c1, c2, c3, c4, c5, c6, c7, c8, c9, c10, ⟨am, c11⟩, ⟨n0, sd0, x0, y0, co0, f0, c12⟩, c13⟩, ⟨m0, m1, m2, m3, m4, m5, m6, m7, ⟨tk, m8⟩, m9, ⟨be, m10⟩, ⟨la, m11⟩, m12⟩, ⟨r1, r2, ⟨r3, r4, r5⟩, r6, r7, r8, r9, r10, r11, r12⟩, ⟨g0, o1⟩, g1, o2⟩ := hX0
  have hwf := c1.2.2
  have hR := hX.2.2.2.1
  by_cases hb : 1 ≤ p0 ∧ p0 ≤ 30
  · by_cases h1 : σ 1 < σ 4 + p0
    · refine ⟨0, (-3), _, .inl rfl, hk_weave l X w y ao p0 b1 _ _ c0 _ (c_weave_r3 l X w y su ac am σ nx (v 5) pas p0 b1 c0 c3 c11 c1 c2 hb h1) (fun w' h => by obtain ⟨e3, hn0⟩ := h; exact ⟨g0, (hn0 _ (by omega)).trans o1⟩), fun w1 hP => ?_⟩
      obtain ⟨w0, ⟨e3, hn0⟩, ⟨g, hg, hgv⟩, hn⟩ := hP
      have hC0 : PC X w0 y su σ nx (v 5) pas (up ac 3 (ac 3 + 1)) (v 11) tx (v 31) oo rv sv bv := ⟨(hn0 _ (by omega)).trans c0, c1.mv (fun q q0 q1 => hn0 q (by omega)), c2.mv (fun q q0 q1 => hn0 q (by omega)), e3, (hn0 _ (by omega)).trans c4, (hn0 _ (by omega)).trans c5, (hn0 _ (by omega)).trans c6, (hn0 _ (by omega)).trans c7, (hn0 _ (by omega)).trans c8, c9.mv (fun q q0 q1 q2 => hn0 q (by omega)), c10.mv (fun q q0 q1 => hn0 q (by omega)), ⟨am, (hn0 _ (by omega)).trans c11⟩, ⟨n0, sd0, x0, y0, co0, f0, c12.mv (hn0 _ (by omega)) (hn0 _ (by omega))⟩, c13.mv (fun q q0 q1 => hn0 q (by omega))⟩
      have hM1 : PM X w1 mo v σ d pa sv bv rf tx oo sc := hX.2.2.1.mv (fun q q0 q1 => (hn q (by omega)).trans (hn0 q (by omega)))
      obtain ⟨k0, k1, k2, k3, k4, k5, k6, k7, ⟨tk, k8⟩, k9, ⟨be, k10⟩, ⟨la, k11⟩, k12⟩ := hM1
      refine ⟨⟨_, k0⟩, (c_X9_weave_r3 l X w1 mo v σ rf p0 b1 k0 k1 hwf k6 hb h1).imp (fun w2 h2 => ?_)⟩
      obtain ⟨e0, u6, hf⟩ := h2
      have hC2 := hC0.mv (w2 := w2) (fun q q0 q1 => (hf q (by omega) (by omega)).trans (hn q (by omega)))
      have og := (hf ao (by omega) (by omega)).trans hg
      have od := (hf ad (by omega) (by omega)).trans ((hn ad (by omega)).trans ((hn0 ad (by omega)).trans o2))
      exact ⟨⟨su, σ, nx, pas, (up ac 3 (ac 3 + 1)), tx, oo, rv, d, pa, sv, bv, (up rf 3 (rf 3 + 1)), sc, (up v 6 0), ⟨a1, a2, a3⟩, hC2, ⟨e0, (hf _ (by omega) (by omega)).trans k1, (hf _ (by omega) (by omega)).trans k2, (hf _ (by omega) (by omega)).trans k3, (hf _ (by omega) (by omega)).trans k4, (hf _ (by omega) (by omega)).trans k5, u6, (hf _ (by omega) (by omega)).trans k7, ⟨tk, (hf _ (by omega) (by omega)).trans k8⟩, (hf _ (by omega) (by omega)).trans k9, ⟨be, (hf _ (by omega) (by omega)).trans k10⟩, ⟨la, (hf _ (by omega) (by omega)).trans k11⟩, (hf _ (by omega) (by omega)).trans k12⟩, (RR.ref hR (by omega)).cg ⟨rfl, rfl, rfl, rfl, rfl, rfl, rfl⟩, ⟨⟨_, og⟩, g1, od⟩⟩, ⟨_, e0, rfl⟩, fun _ => ⟨g, og, hgv⟩⟩
    · cases hen : enoS σ b1 p0
      · refine ⟨0, (-2), _, .inl rfl, hk_weave l X w y ao p0 b1 _ _ c0 _ (c_weave_r2 l X w y su ac am σ nx (v 5) pas p0 b1 c0 c3 c11 c1 c2 hb (by omega) hen) (fun w' h => by obtain ⟨e3, e11, hn0⟩ := h; exact ⟨g0, (hn0 _ (by omega) (by omega)).trans o1⟩), fun w1 hP => ?_⟩
        obtain ⟨w0, ⟨e3, e11, hn0⟩, ⟨g, hg, hgv⟩, hn⟩ := hP
        have hC0 : PC X w0 y su σ nx (v 5) pas (up ac 2 (ac 2 + 1)) (v 11) tx (v 31) oo rv sv bv := ⟨(hn0 _ (by omega) (by omega)).trans c0, c1.mv (fun q q0 q1 => hn0 q (by omega) (by omega)), c2.mv (fun q q0 q1 => hn0 q (by omega) (by omega)), e3, (hn0 _ (by omega) (by omega)).trans c4, (hn0 _ (by omega) (by omega)).trans c5, (hn0 _ (by omega) (by omega)).trans c6, (hn0 _ (by omega) (by omega)).trans c7, (hn0 _ (by omega) (by omega)).trans c8, c9.mv (fun q q0 q1 q2 => hn0 q (by omega) (by omega)), c10.mv (fun q q0 q1 => hn0 q (by omega) (by omega)), ⟨_, e11⟩, ⟨n0, sd0, x0, y0, co0, f0, c12.mv (hn0 _ (by omega) (by omega)) (hn0 _ (by omega) (by omega))⟩, c13.mv (fun q q0 q1 => hn0 q (by omega) (by omega))⟩
        have hM1 : PM X w1 mo v σ d pa sv bv rf tx oo sc := hX.2.2.1.mv (fun q q0 q1 => (hn q (by omega)).trans (hn0 q (by omega) (by omega)))
        obtain ⟨k0, k1, k2, k3, k4, k5, k6, k7, ⟨tk, k8⟩, k9, ⟨be, k10⟩, ⟨la, k11⟩, k12⟩ := hM1
        refine ⟨⟨_, k0⟩, (c_X9_weave_r2 l X w1 mo v σ rf p0 b1 k0 k1 hwf k6 hb (by omega) hen).imp (fun w2 h2 => ?_)⟩
        obtain ⟨e0, u6, hf⟩ := h2
        have hC2 := hC0.mv (w2 := w2) (fun q q0 q1 => (hf q (by omega) (by omega)).trans (hn q (by omega)))
        have og := (hf ao (by omega) (by omega)).trans hg
        have od := (hf ad (by omega) (by omega)).trans ((hn ad (by omega)).trans ((hn0 ad (by omega) (by omega)).trans o2))
        exact ⟨⟨su, σ, nx, pas, (up ac 2 (ac 2 + 1)), tx, oo, rv, d, pa, sv, bv, (up rf 2 (rf 2 + 1)), sc, (up v 6 0), ⟨a1, a2, a3⟩, hC2, ⟨e0, (hf _ (by omega) (by omega)).trans k1, (hf _ (by omega) (by omega)).trans k2, (hf _ (by omega) (by omega)).trans k3, (hf _ (by omega) (by omega)).trans k4, (hf _ (by omega) (by omega)).trans k5, u6, (hf _ (by omega) (by omega)).trans k7, ⟨tk, (hf _ (by omega) (by omega)).trans k8⟩, (hf _ (by omega) (by omega)).trans k9, ⟨be, (hf _ (by omega) (by omega)).trans k10⟩, ⟨la, (hf _ (by omega) (by omega)).trans k11⟩, (hf _ (by omega) (by omega)).trans k12⟩, (RR.ref hR (by omega)).cg ⟨rfl, rfl, rfl, rfl, rfl, rfl, rfl⟩, ⟨⟨_, og⟩, g1, od⟩⟩, ⟨_, e0, rfl⟩, fun _ => ⟨g, og, hgv⟩⟩
      · refine ⟨0, (misFrom (weaveN σ b1 p0.toNat) (σ 4)), _, .inl rfl, hk_weave l X w y ao p0 b1 _ _ c0 _ (c_X8_weave l X w y su ac am σ nx (v 5) pas p0 b1 c0 c3 c11 c1 c2 hb (by omega) hen) (fun w' h => by obtain ⟨e3, e11, e2, e1, hn0⟩ := h; exact ⟨g0, (hn0 _ (by omega) (by omega) (by omega) (by omega) (by omega) (by omega)).trans o1⟩), fun w1 hP => ?_⟩
        obtain ⟨w0, ⟨e3, e11, e2, e1, hn0⟩, ⟨g, hg, hgv⟩, hn⟩ := hP
        have hC0 : PC X w0 y su (weaveN σ b1 p0.toNat) ((if nx = 8 then 0 else nx) + 1) (min 8 (v 5 + 1)) (keepP (v 5) pas σ) (wac ac σ b1 p0.toNat) (v 11) tx (v 31) oo rv sv bv := ⟨(hn0 _ (by omega) (by omega) (by omega) (by omega) (by omega) (by omega)).trans c0, e1, e2, e3, (hn0 _ (by omega) (by omega) (by omega) (by omega) (by omega) (by omega)).trans c4, (hn0 _ (by omega) (by omega) (by omega) (by omega) (by omega) (by omega)).trans c5, (hn0 _ (by omega) (by omega) (by omega) (by omega) (by omega) (by omega)).trans c6, (hn0 _ (by omega) (by omega) (by omega) (by omega) (by omega) (by omega)).trans c7, (hn0 _ (by omega) (by omega) (by omega) (by omega) (by omega) (by omega)).trans c8, c9.mv (fun q q0 q1 q2 => hn0 q (by omega) (by omega) (by omega) (by omega) (by omega) (by omega)), c10.mv (fun q q0 q1 => hn0 q (by omega) (by omega) (by omega) (by omega) (by omega) (by omega)), ⟨_, e11⟩, ⟨n0, sd0, x0, y0, co0, f0, c12.mv (hn0 _ (by omega) (by omega) (by omega) (by omega) (by omega) (by omega)) (hn0 _ (by omega) (by omega) (by omega) (by omega) (by omega) (by omega))⟩, c13.mv (fun q q0 q1 => hn0 q (by omega) (by omega) (by omega) (by omega) (by omega) (by omega))⟩
        have hM1 : PM X w1 mo v σ d pa sv bv rf tx oo sc := hX.2.2.1.mv (fun q q0 q1 => (hn q (by omega)).trans (hn0 q (by omega) (by omega) (by omega) (by omega) (by omega) (by omega)))
        obtain ⟨k0, k1, k2, k3, k4, k5, k6, k7, ⟨tk, k8⟩, k9, ⟨be, k10⟩, ⟨la, k11⟩, k12⟩ := hM1
        refine ⟨⟨_, k0⟩, (c_X9_weave l X w1 mo v σ pa p0 b1 k0 k1 hwf k3 r1 hb (by omega) hen).imp (fun w2 h2 => ?_)⟩
        obtain ⟨e0, u1, u3, hf⟩ := h2
        have hC2 := hC0.mv (w2 := w2) (fun q q0 q1 => (hf q (by omega) (by omega) (by omega)).trans (hn q (by omega)))
        have og := (hf ao (by omega) (by omega) (by omega)).trans hg
        have od := (hf ad (by omega) (by omega) (by omega)).trans ((hn ad (by omega)).trans ((hn0 ad (by omega) (by omega) (by omega) (by omega) (by omega) (by omega)).trans o2))
        exact ⟨⟨su, (weaveN σ b1 p0.toNat), ((if nx = 8 then 0 else nx) + 1), (keepP (v 5) pas σ), (wac ac σ b1 p0.toNat), tx, oo, rv, d, (actP (v 5) pa σ), sv, bv, rf, sc, _, ⟨a1, a2, a3⟩, hC2, ⟨e0, u1, (hf _ (by omega) (by omega) (by omega)).trans k2, u3, (hf _ (by omega) (by omega) (by omega)).trans k4, (hf _ (by omega) (by omega) (by omega)).trans k5, (hf _ (by omega) (by omega) (by omega)).trans k6, (hf _ (by omega) (by omega) (by omega)).trans k7, ⟨tk, (hf _ (by omega) (by omega) (by omega)).trans k8⟩, (hf _ (by omega) (by omega) (by omega)).trans k9, ⟨be, (hf _ (by omega) (by omega) (by omega)).trans k10⟩, ⟨la, (hf _ (by omega) (by omega) (by omega)).trans k11⟩, (hf _ (by omega) (by omega) (by omega)).trans k12⟩, (RR.min (RR.act hR)).cg ⟨rfl, rfl, rfl, rfl, rfl, rfl, rfl⟩, ⟨⟨_, og⟩, g1, od⟩⟩, ⟨_, e0, rfl⟩, fun _ => ⟨g, og, hgv⟩⟩
  · refine ⟨1, 0, _, .inr (.inl rfl), ht_weave_1 l X w y ao p0 b1 _ _ c0 (x_X8_weave l X w y su σ p0 b1 hst c0 c1 hp0 hb), fun w1 hP => ?_⟩
    obtain rfl : w1 = w := hP
    have k0 := m0
    have k1 := m1
    refine ⟨⟨_, k0⟩, (c_X9_weave_x l X w1 mo v σ p0 b1 k0 k1 hwf hp0 hb).imp (fun w2 h2 => ?_)⟩
    obtain ⟨e0, hf⟩ := h2
    exact ⟨hX.read e0 ⟨rfl, rfl, rfl, rfl, rfl, rfl, rfl⟩ (fun q q0 q1 q2 q3 q4 => hf q q0) ⟨⟨g0, (hf _ (by omega)).trans o1⟩, g1, (hf _ (by omega)).trans o2⟩ ⟨n0, sd0, x0, y0, co0, f0, c12.mv (hf _ (by omega)) (hf _ (by omega))⟩ ⟨am, (hf _ (by omega)).trans c11⟩, ⟨_, e0, rfl⟩, fun z => absurd z (by decide)⟩
set_option maxHeartbeats 2000000 in
theorem pr_unpick (l : Launch) (X : Cx) (w : Wo) (y mo ao ad : Nat) (hst : l.stackTraces = false) (hST : ST X w y mo ao ad) (p0 : Int) (hp0 : -2147483648 ≤ p0 ∧ p0 < 2147483648) : CA X y mo ao ad (fun k P => CL l X yL_unpick cL_unpick 4 (some (.int)) [(0, 9, 12, 19)] (rmx 8 174) [.ref y, .int (iI p0), .ref ao] w (some (.int (iI k))) P) (fun w1 b Q => (∃ fs, w1 mo = some (.inr (9, fs))) ∧ CM l X yX9_unpick cX9_unpick 2 (some (.int)) (rmk 3 70) [.ref mo, .int (iI p0)] w1 (some (.int (iI b))) Q) := by
  obtain ⟨su, σ, nx, pas, ac, tx, oo, rv, d, pa, sv, bv, rf, sc, v, hX⟩ := hST
  have hX0 := hX
  obtain ⟨⟨a1, a2, a3⟩, ⟨c0, c1, c2, c3, c4, c5, c6, c7, c8, c9, c10, ⟨am, c11⟩, ⟨n0, sd0, x0, y0, co0, f0, c12⟩, c13⟩, ⟨m0, m1, m2, m3, m4, m5, m6, m7, ⟨tk, m8⟩, m9, ⟨be, m10⟩, ⟨la, m11⟩, m12⟩, ⟨r1, r2, ⟨r3, r4, r5⟩, r6, r7, r8, r9, r10, r11, r12⟩, ⟨g0, o1⟩, g1, o2⟩ := hX0
  have hwf := c1.2.2
  have hR := hX.2.2.2.1
  by_cases hb : 0 ≤ p0 ∧ p0 ≤ 30
  · by_cases h1 : σ 4 < p0
    · refine ⟨0, (-3), _, .inl rfl, hk_unpick l X w y ao p0 _ _ c0 _ (c_unpick_r3 l X w y su ac σ nx (v 5) pas p0 c0 c3 c1 c2 hb h1) (fun w' h => by obtain ⟨e3, hn0⟩ := h; exact ⟨g0, (hn0 _ (by omega)).trans o1⟩), fun w1 hP => ?_⟩
      obtain ⟨w0, ⟨e3, hn0⟩, ⟨g, hg, hgv⟩, hn⟩ := hP
      have hC0 : PC X w0 y su σ nx (v 5) pas (up ac 3 (ac 3 + 1)) (v 11) tx (v 31) oo rv sv bv := ⟨(hn0 _ (by omega)).trans c0, c1.mv (fun q q0 q1 => hn0 q (by omega)), c2.mv (fun q q0 q1 => hn0 q (by omega)), e3, (hn0 _ (by omega)).trans c4, (hn0 _ (by omega)).trans c5, (hn0 _ (by omega)).trans c6, (hn0 _ (by omega)).trans c7, (hn0 _ (by omega)).trans c8, c9.mv (fun q q0 q1 q2 => hn0 q (by omega)), c10.mv (fun q q0 q1 => hn0 q (by omega)), ⟨am, (hn0 _ (by omega)).trans c11⟩, ⟨n0, sd0, x0, y0, co0, f0, c12.mv (hn0 _ (by omega)) (hn0 _ (by omega))⟩, c13.mv (fun q q0 q1 => hn0 q (by omega))⟩
      have hM1 : PM X w1 mo v σ d pa sv bv rf tx oo sc := hX.2.2.1.mv (fun q q0 q1 => (hn q (by omega)).trans (hn0 q (by omega)))
      obtain ⟨k0, k1, k2, k3, k4, k5, k6, k7, ⟨tk, k8⟩, k9, ⟨be, k10⟩, ⟨la, k11⟩, k12⟩ := hM1
      refine ⟨⟨_, k0⟩, (c_X9_unpick_r3 l X w1 mo v σ rf p0 k0 k1 hwf k6 hb h1).imp (fun w2 h2 => ?_)⟩
      obtain ⟨e0, u6, hf⟩ := h2
      have hC2 := hC0.mv (w2 := w2) (fun q q0 q1 => (hf q (by omega) (by omega)).trans (hn q (by omega)))
      have og := (hf ao (by omega) (by omega)).trans hg
      have od := (hf ad (by omega) (by omega)).trans ((hn ad (by omega)).trans ((hn0 ad (by omega)).trans o2))
      exact ⟨⟨su, σ, nx, pas, (up ac 3 (ac 3 + 1)), tx, oo, rv, d, pa, sv, bv, (up rf 3 (rf 3 + 1)), sc, (up v 6 0), ⟨a1, a2, a3⟩, hC2, ⟨e0, (hf _ (by omega) (by omega)).trans k1, (hf _ (by omega) (by omega)).trans k2, (hf _ (by omega) (by omega)).trans k3, (hf _ (by omega) (by omega)).trans k4, (hf _ (by omega) (by omega)).trans k5, u6, (hf _ (by omega) (by omega)).trans k7, ⟨tk, (hf _ (by omega) (by omega)).trans k8⟩, (hf _ (by omega) (by omega)).trans k9, ⟨be, (hf _ (by omega) (by omega)).trans k10⟩, ⟨la, (hf _ (by omega) (by omega)).trans k11⟩, (hf _ (by omega) (by omega)).trans k12⟩, (RR.ref hR (by omega)).cg ⟨rfl, rfl, rfl, rfl, rfl, rfl, rfl⟩, ⟨⟨_, og⟩, g1, od⟩⟩, ⟨_, e0, rfl⟩, fun _ => ⟨g, og, hgv⟩⟩
    · refine ⟨0, (sm (wvnS σ (σ 4 - p0)) 0 7), _, .inl rfl, hk_unpick l X w y ao p0 _ _ c0 _ (c_X8_unpick l X w y su ac σ nx (v 5) pas p0 c0 c3 c1 c2 hb (by omega)) (fun w' h => by obtain ⟨e3, e2, e1, hn0⟩ := h; exact ⟨g0, (hn0 _ (by omega) (by omega) (by omega) (by omega) (by omega)).trans o1⟩), fun w1 hP => ?_⟩
      obtain ⟨w0, ⟨e3, e2, e1, hn0⟩, ⟨g, hg, hgv⟩, hn⟩ := hP
      have hC0 : PC X w0 y su (uqS σ (σ 4 - p0)) ((if nx = 8 then 0 else nx) + 1) (min 8 (v 5 + 1)) (keepP (v 5) pas σ) (up ac 0 (ac 0 + 1)) (v 11) tx (v 31) oo rv sv bv := ⟨(hn0 _ (by omega) (by omega) (by omega) (by omega) (by omega)).trans c0, e1.to (uq_eq hwf (by omega)), e2, e3, (hn0 _ (by omega) (by omega) (by omega) (by omega) (by omega)).trans c4, (hn0 _ (by omega) (by omega) (by omega) (by omega) (by omega)).trans c5, (hn0 _ (by omega) (by omega) (by omega) (by omega) (by omega)).trans c6, (hn0 _ (by omega) (by omega) (by omega) (by omega) (by omega)).trans c7, (hn0 _ (by omega) (by omega) (by omega) (by omega) (by omega)).trans c8, c9.mv (fun q q0 q1 q2 => hn0 q (by omega) (by omega) (by omega) (by omega) (by omega)), c10.mv (fun q q0 q1 => hn0 q (by omega) (by omega) (by omega) (by omega) (by omega)), ⟨am, (hn0 _ (by omega) (by omega) (by omega) (by omega) (by omega)).trans c11⟩, ⟨n0, sd0, x0, y0, co0, f0, c12.mv (hn0 _ (by omega) (by omega) (by omega) (by omega) (by omega)) (hn0 _ (by omega) (by omega) (by omega) (by omega) (by omega))⟩, c13.mv (fun q q0 q1 => hn0 q (by omega) (by omega) (by omega) (by omega) (by omega))⟩
      have hM1 : PM X w1 mo v σ d pa sv bv rf tx oo sc := hX.2.2.1.mv (fun q q0 q1 => (hn q (by omega)).trans (hn0 q (by omega) (by omega) (by omega) (by omega) (by omega)))
      obtain ⟨k0, k1, k2, k3, k4, k5, k6, k7, ⟨tk, k8⟩, k9, ⟨be, k10⟩, ⟨la, k11⟩, k12⟩ := hM1
      refine ⟨⟨_, k0⟩, (c_X9_unpick l X w1 mo v σ pa tk p0 k0 k1 hwf k3 r1 k8 hb (by omega)).imp (fun w2 h2 => ?_)⟩
      obtain ⟨e0, u1, u3, u8, hf⟩ := h2
      have hC2 := hC0.mv (w2 := w2) (fun q q0 q1 => (hf q (by omega) (by omega) (by omega) (by omega)).trans (hn q (by omega)))
      have og := (hf ao (by omega) (by omega) (by omega) (by omega)).trans hg
      have od := (hf ad (by omega) (by omega) (by omega) (by omega)).trans ((hn ad (by omega)).trans ((hn0 ad (by omega) (by omega) (by omega) (by omega) (by omega)).trans o2))
      exact ⟨⟨su, (uqS σ (σ 4 - p0)), ((if nx = 8 then 0 else nx) + 1), (keepP (v 5) pas σ), (up ac 0 (ac 0 + 1)), tx, oo, rv, d, (actP (v 5) pa σ), sv, bv, rf, sc, _, ⟨a1, a2, a3⟩, hC2, ⟨e0, u1, (hf _ (by omega) (by omega) (by omega) (by omega)).trans k2, u3, (hf _ (by omega) (by omega) (by omega) (by omega)).trans k4, (hf _ (by omega) (by omega) (by omega) (by omega)).trans k5, (hf _ (by omega) (by omega) (by omega) (by omega)).trans k6, (hf _ (by omega) (by omega) (by omega) (by omega)).trans k7, ⟨_, u8⟩, (hf _ (by omega) (by omega) (by omega) (by omega)).trans k9, ⟨be, (hf _ (by omega) (by omega) (by omega) (by omega)).trans k10⟩, ⟨la, (hf _ (by omega) (by omega) (by omega) (by omega)).trans k11⟩, (hf _ (by omega) (by omega) (by omega) (by omega)).trans k12⟩, (RR.act hR).cg ⟨rfl, rfl, rfl, rfl, rfl, rfl, rfl⟩, ⟨⟨_, og⟩, g1, od⟩⟩, ⟨_, e0, rfl⟩, fun _ => ⟨g, og, hgv⟩⟩
  · refine ⟨1, 0, _, .inr (.inl rfl), ht_unpick_1 l X w y ao p0 _ _ c0 (x_X8_unpick l X w y su σ p0 hst c0 c1 hp0 hb), fun w1 hP => ?_⟩
    obtain rfl : w1 = w := hP
    have k0 := m0
    have k1 := m1
    refine ⟨⟨_, k0⟩, (c_X9_unpick_x l X w1 mo v σ p0 k0 k1 hwf hp0 hb).imp (fun w2 h2 => ?_)⟩
    obtain ⟨e0, hf⟩ := h2
    exact ⟨hX.read e0 ⟨rfl, rfl, rfl, rfl, rfl, rfl, rfl⟩ (fun q q0 q1 q2 q3 q4 => hf q q0) ⟨⟨g0, (hf _ (by omega)).trans o1⟩, g1, (hf _ (by omega)).trans o2⟩ ⟨n0, sd0, x0, y0, co0, f0, c12.mv (hf _ (by omega)) (hf _ (by omega))⟩ ⟨am, (hf _ (by omega)).trans c11⟩, ⟨_, e0, rfl⟩, fun z => absurd z (by decide)⟩
set_option maxHeartbeats 2000000 in
theorem pr_drop (l : Launch) (X : Cx) (w : Wo) (y mo ao ad : Nat) (hst : l.stackTraces = false) (hST : ST X w y mo ao ad) (p0 : Int) (hp0 : -2147483648 ≤ p0 ∧ p0 < 2147483648) : CA X y mo ao ad (fun k P => CL l X yL_drop cL_drop 4 (some (.int)) [(0, 9, 12, 28)] (rmx 8 149) [.ref y, .int (iI p0), .ref ao] w (some (.int (iI k))) P) (fun w1 b Q => (∃ fs, w1 mo = some (.inr (9, fs))) ∧ CM l X yX9_drop cX9_drop 3 (some (.int)) (rmk 2 46) [.ref mo, .int (iI p0)] w1 (some (.int (iI b))) Q) := by
  obtain ⟨su, σ, nx, pas, ac, tx, oo, rv, d, pa, sv, bv, rf, sc, v, hX⟩ := hST
  have hX0 := hX
  obtain ⟨⟨a1, a2, a3⟩, ⟨c0, c1, c2, c3, c4, c5, c6, c7, c8, c9, c10, ⟨am, c11⟩, ⟨n0, sd0, x0, y0, co0, f0, c12⟩, c13⟩, ⟨m0, m1, m2, m3, m4, m5, m6, m7, ⟨tk, m8⟩, m9, ⟨be, m10⟩, ⟨la, m11⟩, m12⟩, ⟨r1, r2, ⟨r3, r4, r5⟩, r6, r7, r8, r9, r10, r11, r12⟩, ⟨g0, o1⟩, g1, o2⟩ := hX0
  have hwf := c1.2.2
  have hR := hX.2.2.2.1
  by_cases hb : 0 ≤ p0 ∧ p0 < σ 5
  · refine ⟨0, (σ 5 - 1), _, .inl rfl, hk_drop l X w y ao p0 _ _ c0 _ (c_X8_drop l X w y su ac σ nx (v 5) pas p0 c0 c3 c1 c2 hb) (fun w' h => by obtain ⟨e3, e2, e1, hn0⟩ := h; exact ⟨g0, (hn0 _ (by omega) (by omega) (by omega)).trans o1⟩), fun w1 hP => ?_⟩
    obtain ⟨w0, ⟨e3, e2, e1, hn0⟩, ⟨g, hg, hgv⟩, hn⟩ := hP
    have hC0 : PC X w0 y su (drpS σ p0) ((if nx = 8 then 0 else nx) + 1) (min 8 (v 5 + 1)) (keepP (v 5) pas σ) (up ac 0 (ac 0 + 1)) (v 11) tx (v 31) oo rv sv bv := ⟨(hn0 _ (by omega) (by omega) (by omega)).trans c0, e1, e2, e3, (hn0 _ (by omega) (by omega) (by omega)).trans c4, (hn0 _ (by omega) (by omega) (by omega)).trans c5, (hn0 _ (by omega) (by omega) (by omega)).trans c6, (hn0 _ (by omega) (by omega) (by omega)).trans c7, (hn0 _ (by omega) (by omega) (by omega)).trans c8, c9.mv (fun q q0 q1 q2 => hn0 q (by omega) (by omega) (by omega)), c10.mv (fun q q0 q1 => hn0 q (by omega) (by omega) (by omega)), ⟨am, (hn0 _ (by omega) (by omega) (by omega)).trans c11⟩, ⟨n0, sd0, x0, y0, co0, f0, c12.mv (hn0 _ (by omega) (by omega) (by omega)) (hn0 _ (by omega) (by omega) (by omega))⟩, c13.mv (fun q q0 q1 => hn0 q (by omega) (by omega) (by omega))⟩
    have hM1 : PM X w1 mo v σ d pa sv bv rf tx oo sc := hX.2.2.1.mv (fun q q0 q1 => (hn q (by omega)).trans (hn0 q (by omega) (by omega) (by omega)))
    obtain ⟨k0, k1, k2, k3, k4, k5, k6, k7, ⟨tk, k8⟩, k9, ⟨be, k10⟩, ⟨la, k11⟩, k12⟩ := hM1
    refine ⟨⟨_, k0⟩, (c_X9_drop l X w1 mo v σ pa p0 k0 k1 hwf k3 r1 hb).imp (fun w2 h2 => ?_)⟩
    obtain ⟨e0, u1, u3, hf⟩ := h2
    have hC2 := hC0.mv (w2 := w2) (fun q q0 q1 => (hf q (by omega) (by omega) (by omega)).trans (hn q (by omega)))
    have og := (hf ao (by omega) (by omega) (by omega)).trans hg
    have od := (hf ad (by omega) (by omega) (by omega)).trans ((hn ad (by omega)).trans ((hn0 ad (by omega) (by omega) (by omega)).trans o2))
    exact ⟨⟨su, (drpS σ p0), ((if nx = 8 then 0 else nx) + 1), (keepP (v 5) pas σ), (up ac 0 (ac 0 + 1)), tx, oo, rv, d, (actP (v 5) pa σ), sv, bv, rf, sc, _, ⟨a1, a2, a3⟩, hC2, ⟨e0, u1, (hf _ (by omega) (by omega) (by omega)).trans k2, u3, (hf _ (by omega) (by omega) (by omega)).trans k4, (hf _ (by omega) (by omega) (by omega)).trans k5, (hf _ (by omega) (by omega) (by omega)).trans k6, (hf _ (by omega) (by omega) (by omega)).trans k7, ⟨tk, (hf _ (by omega) (by omega) (by omega)).trans k8⟩, (hf _ (by omega) (by omega) (by omega)).trans k9, ⟨be, (hf _ (by omega) (by omega) (by omega)).trans k10⟩, ⟨la, (hf _ (by omega) (by omega) (by omega)).trans k11⟩, (hf _ (by omega) (by omega) (by omega)).trans k12⟩, (RR.act hR).cg ⟨rfl, rfl, rfl, rfl, rfl, rfl, rfl⟩, ⟨⟨_, og⟩, g1, od⟩⟩, ⟨_, e0, rfl⟩, fun _ => ⟨g, og, hgv⟩⟩
  · refine ⟨1, 0, _, .inr (.inl rfl), ht_drop_1 l X w y ao p0 _ _ c0 (x_X8_drop l X w y su σ p0 hst c0 c1 hp0 hb), fun w1 hP => ?_⟩
    obtain rfl : w1 = w := hP
    have k0 := m0
    have k1 := m1
    refine ⟨⟨_, k0⟩, (c_X9_drop_x l X w1 mo v σ p0 k0 k1 hwf hp0 hb).imp (fun w2 h2 => ?_)⟩
    obtain ⟨e0, hf⟩ := h2
    exact ⟨hX.read e0 ⟨rfl, rfl, rfl, rfl, rfl, rfl, rfl⟩ (fun q q0 q1 q2 q3 q4 => hf q q0) ⟨⟨g0, (hf _ (by omega)).trans o1⟩, g1, (hf _ (by omega)).trans o2⟩ ⟨n0, sd0, x0, y0, co0, f0, c12.mv (hf _ (by omega)) (hf _ (by omega))⟩ ⟨am, (hf _ (by omega)).trans c11⟩, ⟨_, e0, rfl⟩, fun z => absurd z (by decide)⟩
set_option maxHeartbeats 2000000 in
theorem pr_move (l : Launch) (X : Cx) (w : Wo) (y mo ao ad : Nat) (hst : l.stackTraces = false) (hST : ST X w y mo ao ad) (p0 p1 p2 : Int) (hp0 : -2147483648 ≤ p0 ∧ p0 < 2147483648) (hp1 : -2147483648 ≤ p1 ∧ p1 < 2147483648) (hp2 : -2147483648 ≤ p2 ∧ p2 < 2147483648) : CA X y mo ao ad (fun k P => CL l X yL_move cL_move 6 (some (.int)) [(0, 12, 15, 28)] (rmx 8 152) [.ref y, .int (iI p0), .int (iI p1), .int (iI p2), .ref ao] w (some (.int (iI k))) P) (fun w1 b Q => (∃ fs, w1 mo = some (.inr (9, fs))) ∧ CM l X yX9_move cX9_move 5 (some (.int)) (rmk 6 138) [.ref mo, .int (iI p0), .int (iI p1), .int (iI p2)] w1 (some (.int (iI b))) Q) := by
  obtain ⟨su, σ, nx, pas, ac, tx, oo, rv, d, pa, sv, bv, rf, sc, v, hX⟩ := hST
  have hX0 := hX
  obtain ⟨⟨a1, a2, a3⟩, ⟨c0, c1, c2, c3, c4, c5, c6, c7, c8, c9, c10, ⟨am, c11⟩, ⟨n0, sd0, x0, y0, co0, f0, c12⟩, c13⟩, ⟨m0, m1, m2, m3, m4, m5, m6, m7, ⟨tk, m8⟩, m9, ⟨be, m10⟩, ⟨la, m11⟩, m12⟩, ⟨r1, r2, ⟨r3, r4, r5⟩, r6, r7, r8, r9, r10, r11, r12⟩, ⟨g0, o1⟩, g1, o2⟩ := hX0
  have hwf := c1.2.2
  have hR := hX.2.2.2.1
  by_cases hb : 0 ≤ p0 ∧ p0 < σ 5
  · have hwy := why_r (σ := σ) (n := cp σ p0 0) (sd := cp σ p0 1) (x := p1) (y := p2) (bu := p0)
    by_cases h1 : whyS σ (cp σ p0 0) (cp σ p0 1) p1 p2 p0 = 0
    · refine ⟨0, (misFrom (movS σ p0 p1 p2) 0), _, .inl rfl, hk_move l X w y ao p0 p1 p2 _ _ c0 _ (c_X8_move l X w y su ac σ nx (v 5) pas n0 sd0 x0 y0 co0 f0 p0 p1 p2 c0 c3 c1 c2 c12 hb hp1 hp2 h1) (fun w' h => by obtain ⟨e12, e3, ⟨f9, e13⟩, e2, e1, hn0⟩ := h; exact ⟨g0, (hn0 _ (by omega) (by omega) (by omega) (by omega) (by omega)).trans o1⟩), fun w1 hP => ?_⟩
      obtain ⟨w0, ⟨e12, e3, ⟨f9, e13⟩, e2, e1, hn0⟩, ⟨g, hg, hgv⟩, hn⟩ := hP
      have hC0 : PC X w0 y su (movS σ p0 p1 p2) ((if nx = 8 then 0 else nx) + 1) (min 8 (v 5 + 1)) (keepP (v 5) pas σ) (up ac 0 (ac 0 + 1)) (v 11) tx (v 31) oo rv sv bv := ⟨(hn0 _ (by omega) (by omega) (by omega) (by omega) (by omega)).trans c0, e1, e2, e3, (hn0 _ (by omega) (by omega) (by omega) (by omega) (by omega)).trans c4, (hn0 _ (by omega) (by omega) (by omega) (by omega) (by omega)).trans c5, (hn0 _ (by omega) (by omega) (by omega) (by omega) (by omega)).trans c6, (hn0 _ (by omega) (by omega) (by omega) (by omega) (by omega)).trans c7, (hn0 _ (by omega) (by omega) (by omega) (by omega) (by omega)).trans c8, c9.mv (fun q q0 q1 q2 => hn0 q (by omega) (by omega) (by omega) (by omega) (by omega)), c10.mv (fun q q0 q1 => hn0 q (by omega) (by omega) (by omega) (by omega) (by omega)), ⟨am, (hn0 _ (by omega) (by omega) (by omega) (by omega) (by omega)).trans c11⟩, ⟨_, _, _, _, _, f9, e12, e13⟩, c13.mv (fun q q0 q1 => hn0 q (by omega) (by omega) (by omega) (by omega) (by omega))⟩
      have hM1 : PM X w1 mo v σ d pa sv bv rf tx oo sc := hX.2.2.1.mv (fun q q0 q1 => (hn q (by omega)).trans (hn0 q (by omega) (by omega) (by omega) (by omega) (by omega)))
      obtain ⟨k0, k1, k2, k3, k4, k5, k6, k7, ⟨tk, k8⟩, k9, ⟨be, k10⟩, ⟨la, k11⟩, k12⟩ := hM1
      refine ⟨⟨_, k0⟩, (c_X9_move l X w1 mo v σ pa p0 p1 p2 k0 k1 hwf k3 r1 hb hp1 hp2 h1).imp (fun w2 h2 => ?_)⟩
      obtain ⟨e0, u1, u3, hf⟩ := h2
      have hC2 := hC0.mv (w2 := w2) (fun q q0 q1 => (hf q (by omega) (by omega) (by omega)).trans (hn q (by omega)))
      have og := (hf ao (by omega) (by omega) (by omega)).trans hg
      have od := (hf ad (by omega) (by omega) (by omega)).trans ((hn ad (by omega)).trans ((hn0 ad (by omega) (by omega) (by omega) (by omega) (by omega)).trans o2))
      exact ⟨⟨su, (movS σ p0 p1 p2), ((if nx = 8 then 0 else nx) + 1), (keepP (v 5) pas σ), (up ac 0 (ac 0 + 1)), tx, oo, rv, d, (actP (v 5) pa σ), sv, bv, rf, sc, _, ⟨a1, a2, a3⟩, hC2, ⟨e0, u1, (hf _ (by omega) (by omega) (by omega)).trans k2, u3, (hf _ (by omega) (by omega) (by omega)).trans k4, (hf _ (by omega) (by omega) (by omega)).trans k5, (hf _ (by omega) (by omega) (by omega)).trans k6, (hf _ (by omega) (by omega) (by omega)).trans k7, ⟨tk, (hf _ (by omega) (by omega) (by omega)).trans k8⟩, (hf _ (by omega) (by omega) (by omega)).trans k9, ⟨be, (hf _ (by omega) (by omega) (by omega)).trans k10⟩, ⟨la, (hf _ (by omega) (by omega) (by omega)).trans k11⟩, (hf _ (by omega) (by omega) (by omega)).trans k12⟩, (RR.act hR).cg ⟨rfl, rfl, rfl, rfl, rfl, rfl, rfl⟩, ⟨⟨_, og⟩, g1, od⟩⟩, ⟨_, e0, rfl⟩, fun _ => ⟨g, og, hgv⟩⟩
    · refine ⟨0, (-(whyS σ (cp σ p0 0) (cp σ p0 1) p1 p2 p0)), _, .inl rfl, hk_move l X w y ao p0 p1 p2 _ _ c0 _ (c_move_r l X w y su ac σ nx (v 5) pas n0 sd0 x0 y0 co0 f0 p0 p1 p2 _ c0 c3 c1 c2 c12 hb hp1 hp2 rfl (by omega)) (fun w' h => by obtain ⟨e12, e3, ⟨f9, e13⟩, hn0⟩ := h; exact ⟨g0, (hn0 _ (by omega) (by omega) (by omega)).trans o1⟩), fun w1 hP => ?_⟩
      obtain ⟨w0, ⟨e12, e3, ⟨f9, e13⟩, hn0⟩, ⟨g, hg, hgv⟩, hn⟩ := hP
      have hC0 : PC X w0 y su σ nx (v 5) pas (up ac (whyS σ (cp σ p0 0) (cp σ p0 1) p1 p2 p0) (ac (whyS σ (cp σ p0 0) (cp σ p0 1) p1 p2 p0) + 1)) (v 11) tx (v 31) oo rv sv bv := ⟨(hn0 _ (by omega) (by omega) (by omega)).trans c0, c1.mv (fun q q0 q1 => hn0 q (by omega) (by omega) (by omega)), c2.mv (fun q q0 q1 => hn0 q (by omega) (by omega) (by omega)), e3, (hn0 _ (by omega) (by omega) (by omega)).trans c4, (hn0 _ (by omega) (by omega) (by omega)).trans c5, (hn0 _ (by omega) (by omega) (by omega)).trans c6, (hn0 _ (by omega) (by omega) (by omega)).trans c7, (hn0 _ (by omega) (by omega) (by omega)).trans c8, c9.mv (fun q q0 q1 q2 => hn0 q (by omega) (by omega) (by omega)), c10.mv (fun q q0 q1 => hn0 q (by omega) (by omega) (by omega)), ⟨am, (hn0 _ (by omega) (by omega) (by omega)).trans c11⟩, ⟨_, _, _, _, _, f9, e12, e13⟩, c13.mv (fun q q0 q1 => hn0 q (by omega) (by omega) (by omega))⟩
      have hM1 : PM X w1 mo v σ d pa sv bv rf tx oo sc := hX.2.2.1.mv (fun q q0 q1 => (hn q (by omega)).trans (hn0 q (by omega) (by omega) (by omega)))
      obtain ⟨k0, k1, k2, k3, k4, k5, k6, k7, ⟨tk, k8⟩, k9, ⟨be, k10⟩, ⟨la, k11⟩, k12⟩ := hM1
      refine ⟨⟨_, k0⟩, (c_X9_move_r l X w1 mo v σ rf p0 p1 p2 _ k0 k1 hwf k6 hb hp1 hp2 rfl (by omega)).imp (fun w2 h2 => ?_)⟩
      obtain ⟨e0, u6, hf⟩ := h2
      have hC2 := hC0.mv (w2 := w2) (fun q q0 q1 => (hf q (by omega) (by omega)).trans (hn q (by omega)))
      have og := (hf ao (by omega) (by omega)).trans hg
      have od := (hf ad (by omega) (by omega)).trans ((hn ad (by omega)).trans ((hn0 ad (by omega) (by omega) (by omega)).trans o2))
      exact ⟨⟨su, σ, nx, pas, (up ac (whyS σ (cp σ p0 0) (cp σ p0 1) p1 p2 p0) (ac (whyS σ (cp σ p0 0) (cp σ p0 1) p1 p2 p0) + 1)), tx, oo, rv, d, pa, sv, bv, (up rf (whyS σ (cp σ p0 0) (cp σ p0 1) p1 p2 p0) (rf (whyS σ (cp σ p0 0) (cp σ p0 1) p1 p2 p0) + 1)), sc, (up v 6 0), ⟨a1, a2, a3⟩, hC2, ⟨e0, (hf _ (by omega) (by omega)).trans k1, (hf _ (by omega) (by omega)).trans k2, (hf _ (by omega) (by omega)).trans k3, (hf _ (by omega) (by omega)).trans k4, (hf _ (by omega) (by omega)).trans k5, u6, (hf _ (by omega) (by omega)).trans k7, ⟨tk, (hf _ (by omega) (by omega)).trans k8⟩, (hf _ (by omega) (by omega)).trans k9, ⟨be, (hf _ (by omega) (by omega)).trans k10⟩, ⟨la, (hf _ (by omega) (by omega)).trans k11⟩, (hf _ (by omega) (by omega)).trans k12⟩, (RR.ref hR (by omega)).cg ⟨rfl, rfl, rfl, rfl, rfl, rfl, rfl⟩, ⟨⟨_, og⟩, g1, od⟩⟩, ⟨_, e0, rfl⟩, fun _ => ⟨g, og, hgv⟩⟩
  · refine ⟨1, 0, _, .inr (.inl rfl), ht_move_1 l X w y ao p0 p1 p2 _ _ c0 (x_X8_move l X w y su σ p0 p1 p2 hst c0 c1 hp0 hb), fun w1 hP => ?_⟩
    obtain rfl : w1 = w := hP
    have k0 := m0
    have k1 := m1
    refine ⟨⟨_, k0⟩, (c_X9_move_x l X w1 mo v σ p0 p1 p2 k0 k1 hwf hp0 hb).imp (fun w2 h2 => ?_)⟩
    obtain ⟨e0, hf⟩ := h2
    exact ⟨hX.read e0 ⟨rfl, rfl, rfl, rfl, rfl, rfl, rfl⟩ (fun q q0 q1 q2 q3 q4 => hf q q0) ⟨⟨g0, (hf _ (by omega)).trans o1⟩, g1, (hf _ (by omega)).trans o2⟩ ⟨n0, sd0, x0, y0, co0, f0, c12.mv (hf _ (by omega)) (hf _ (by omega))⟩ ⟨am, (hf _ (by omega)).trans c11⟩, ⟨_, e0, rfl⟩, fun z => absurd z (by decide)⟩
set_option maxHeartbeats 2000000 in
theorem pr_setStock (l : Launch) (X : Cx) (w : Wo) (y mo ao ad : Nat) (hst : l.stackTraces = false) (hST : ST X w y mo ao ad) (p0 p1 : Int) (hp0 : -2147483648 ≤ p0 ∧ p0 < 2147483648) (hp1 : -2147483648 ≤ p1 ∧ p1 < 2147483648) : CA X y mo ao ad (fun k P => CL l X yL_setStock cL_setStock 5 (some (.int)) [(0, 10, 13, 28), (0, 10, 17, 19)] (rmx 8 151) [.ref y, .int (iI p0), .int (iI p1), .ref ao] w (some (.int (iI k))) P) (fun w1 b Q => (∃ fs, w1 mo = some (.inr (9, fs))) ∧ CM l X yX9_setStock cX9_setStock 4 (some (.int)) (rmk 2 45) [.ref mo, .int (iI p0), .int (iI p1)] w1 (some (.int (iI b))) Q) := by
  obtain ⟨su, σ, nx, pas, ac, tx, oo, rv, d, pa, sv, bv, rf, sc, v, hX⟩ := hST
  have hX0 := hX
  obtain ⟨⟨a1, a2, a3⟩, ⟨c0, c1, c2, c3, c4, c5, c6, c7, c8, c9, c10, ⟨am, c11⟩, ⟨n0, sd0, x0, y0, co0, f0, c12⟩, c13⟩, ⟨m0, m1, m2, m3, m4, m5, m6, m7, ⟨tk, m8⟩, m9, ⟨be, m10⟩, ⟨la, m11⟩, m12⟩, ⟨r1, r2, ⟨r3, r4, r5⟩, r6, r7, r8, r9, r10, r11, r12⟩, ⟨g0, o1⟩, g1, o2⟩ := hX0
  have hwf := c1.2.2
  have hR := hX.2.2.2.1
  by_cases hA : 0 ≤ p0 ∧ p0 < 7
  · by_cases hB : 0 ≤ p1 ∧ p1 ≤ 9999
    · refine ⟨0, (σ (6 + p0)), _, .inl rfl, hk_setStock l X w y ao p0 p1 _ _ c0 _ (c_X8_setStock l X w y su ac σ nx (v 5) pas p0 p1 c0 c3 c1 c2 hA hB) (fun w' h => by obtain ⟨e3, e2, e1, hn0⟩ := h; exact ⟨g0, (hn0 _ (by omega) (by omega) (by omega)).trans o1⟩), fun w1 hP => ?_⟩
      obtain ⟨w0, ⟨e3, e2, e1, hn0⟩, ⟨g, hg, hgv⟩, hn⟩ := hP
      have hC0 : PC X w0 y su (up σ (6 + p0) p1) ((if nx = 8 then 0 else nx) + 1) (min 8 (v 5 + 1)) (keepP (v 5) pas σ) (up ac 0 (ac 0 + 1)) (v 11) tx (v 31) oo rv sv bv := ⟨(hn0 _ (by omega) (by omega) (by omega)).trans c0, e1, e2, e3, (hn0 _ (by omega) (by omega) (by omega)).trans c4, (hn0 _ (by omega) (by omega) (by omega)).trans c5, (hn0 _ (by omega) (by omega) (by omega)).trans c6, (hn0 _ (by omega) (by omega) (by omega)).trans c7, (hn0 _ (by omega) (by omega) (by omega)).trans c8, c9.mv (fun q q0 q1 q2 => hn0 q (by omega) (by omega) (by omega)), c10.mv (fun q q0 q1 => hn0 q (by omega) (by omega) (by omega)), ⟨am, (hn0 _ (by omega) (by omega) (by omega)).trans c11⟩, ⟨n0, sd0, x0, y0, co0, f0, c12.mv (hn0 _ (by omega) (by omega) (by omega)) (hn0 _ (by omega) (by omega) (by omega))⟩, c13.mv (fun q q0 q1 => hn0 q (by omega) (by omega) (by omega))⟩
      have hM1 : PM X w1 mo v σ d pa sv bv rf tx oo sc := hX.2.2.1.mv (fun q q0 q1 => (hn q (by omega)).trans (hn0 q (by omega) (by omega) (by omega)))
      obtain ⟨k0, k1, k2, k3, k4, k5, k6, k7, ⟨tk, k8⟩, k9, ⟨be, k10⟩, ⟨la, k11⟩, k12⟩ := hM1
      refine ⟨⟨_, k0⟩, (c_X9_setStock l X w1 mo v σ pa p0 p1 k0 k1 hwf k3 r1 (by omega) hB).imp (fun w2 h2 => ?_)⟩
      obtain ⟨e0, u1, u3, hf⟩ := h2
      have hC2 := hC0.mv (w2 := w2) (fun q q0 q1 => (hf q (by omega) (by omega) (by omega)).trans (hn q (by omega)))
      have og := (hf ao (by omega) (by omega) (by omega)).trans hg
      have od := (hf ad (by omega) (by omega) (by omega)).trans ((hn ad (by omega)).trans ((hn0 ad (by omega) (by omega) (by omega)).trans o2))
      exact ⟨⟨su, (up σ (6 + p0) p1), ((if nx = 8 then 0 else nx) + 1), (keepP (v 5) pas σ), (up ac 0 (ac 0 + 1)), tx, oo, rv, d, (actP (v 5) pa σ), sv, bv, rf, sc, _, ⟨a1, a2, a3⟩, hC2, ⟨e0, u1, (hf _ (by omega) (by omega) (by omega)).trans k2, u3, (hf _ (by omega) (by omega) (by omega)).trans k4, (hf _ (by omega) (by omega) (by omega)).trans k5, (hf _ (by omega) (by omega) (by omega)).trans k6, (hf _ (by omega) (by omega) (by omega)).trans k7, ⟨tk, (hf _ (by omega) (by omega) (by omega)).trans k8⟩, (hf _ (by omega) (by omega) (by omega)).trans k9, ⟨be, (hf _ (by omega) (by omega) (by omega)).trans k10⟩, ⟨la, (hf _ (by omega) (by omega) (by omega)).trans k11⟩, (hf _ (by omega) (by omega) (by omega)).trans k12⟩, (RR.act hR).cg ⟨rfl, rfl, rfl, rfl, rfl, rfl, rfl⟩, ⟨⟨_, og⟩, g1, od⟩⟩, ⟨_, e0, rfl⟩, fun _ => ⟨g, og, hgv⟩⟩
    · refine ⟨2, 0, _, .inr (.inr rfl), ht_setStock_2 l X w y ao p0 p1 _ _ c0 (x2_setStock l X w y su σ p0 p1 hst c0 c1 hA hp1 hB), fun w1 hP => ?_⟩
      obtain rfl : w1 = w := hP
      have k0 := m0
      have k1 := m1
      refine ⟨⟨_, k0⟩, (c_X9_setStock_x2 l X w1 mo v σ p0 p1 k0 k1 hwf hp0 hp1 (by omega) hB).imp (fun w2 h2 => ?_)⟩
      obtain ⟨e0, hf⟩ := h2
      exact ⟨hX.read e0 ⟨rfl, rfl, rfl, rfl, rfl, rfl, rfl⟩ (fun q q0 q1 q2 q3 q4 => hf q q0) ⟨⟨g0, (hf _ (by omega)).trans o1⟩, g1, (hf _ (by omega)).trans o2⟩ ⟨n0, sd0, x0, y0, co0, f0, c12.mv (hf _ (by omega)) (hf _ (by omega))⟩ ⟨am, (hf _ (by omega)).trans c11⟩, ⟨_, e0, rfl⟩, fun z => absurd z (by decide)⟩
  · refine ⟨1, 0, _, .inr (.inl rfl), ht_setStock_1 l X w y ao p0 p1 _ _ c0 (x1_setStock l X w y su σ p0 p1 hst c0 c1 hp0 hA), fun w1 hP => ?_⟩
    obtain rfl : w1 = w := hP
    have k0 := m0
    have k1 := m1
    refine ⟨⟨_, k0⟩, (c_X9_setStock_x1 l X w1 mo v σ p0 p1 k0 k1 hwf hp0 hp1 (by omega)).imp (fun w2 h2 => ?_)⟩
    obtain ⟨e0, hf⟩ := h2
    exact ⟨hX.read e0 ⟨rfl, rfl, rfl, rfl, rfl, rfl, rfl⟩ (fun q q0 q1 q2 q3 q4 => hf q q0) ⟨⟨g0, (hf _ (by omega)).trans o1⟩, g1, (hf _ (by omega)).trans o2⟩ ⟨n0, sd0, x0, y0, co0, f0, c12.mv (hf _ (by omega)) (hf _ (by omega))⟩ ⟨am, (hf _ (by omega)).trans c11⟩, ⟨_, e0, rfl⟩, fun z => absurd z (by decide)⟩
set_option maxHeartbeats 2000000 in
theorem pr_setDelay (l : Launch) (X : Cx) (w : Wo) (y mo ao ad : Nat) (hst : l.stackTraces = false) (hST : ST X w y mo ao ad) (p0 : Int) (hp0 : -2147483648 ≤ p0 ∧ p0 < 2147483648) : CA X y mo ao ad (fun k P => CL l X yL_setDelay cL_setDelay 4 (some (.int)) [(0, 9, 12, 19)] (rmx 8 150) [.ref y, .int (iI p0), .ref ao] w (some (.int (iI k))) P) (fun w1 b Q => (∃ fs, w1 mo = some (.inr (9, fs))) ∧ CM l X yX9_setDelay cX9_setDelay 3 (some (.int)) (rmk 2 45) [.ref mo, .int (iI p0)] w1 (some (.int (iI b))) Q) := by
  obtain ⟨su, σ, nx, pas, ac, tx, oo, rv, d, pa, sv, bv, rf, sc, v, hX⟩ := hST
  have hX0 := hX
  obtain ⟨⟨a1, a2, a3⟩, ⟨c0, c1, c2, c3, c4, c5, c6, c7, c8, c9, c10, ⟨am, c11⟩, ⟨n0, sd0, x0, y0, co0, f0, c12⟩, c13⟩, ⟨m0, m1, m2, m3, m4, m5, m6, m7, ⟨tk, m8⟩, m9, ⟨be, m10⟩, ⟨la, m11⟩, m12⟩, ⟨r1, r2, ⟨r3, r4, r5⟩, r6, r7, r8, r9, r10, r11, r12⟩, ⟨g0, o1⟩, g1, o2⟩ := hX0
  have hwf := c1.2.2
  have hR := hX.2.2.2.1
  by_cases hb : 0 ≤ p0 ∧ p0 ≤ 30
  · by_cases h1 : p0 = σ 2
    · refine ⟨0, (-7), _, .inl rfl, hk_setDelay l X w y ao p0 _ _ c0 _ (c_setDelay_r7 l X w y su ac σ nx (v 5) pas p0 c0 c3 c1 c2 hb h1) (fun w' h => by obtain ⟨e3, hn0⟩ := h; exact ⟨g0, (hn0 _ (by omega)).trans o1⟩), fun w1 hP => ?_⟩
      obtain ⟨w0, ⟨e3, hn0⟩, ⟨g, hg, hgv⟩, hn⟩ := hP
      have hC0 : PC X w0 y su σ nx (v 5) pas (up ac 7 (ac 7 + 1)) (v 11) tx (v 31) oo rv sv bv := ⟨(hn0 _ (by omega)).trans c0, c1.mv (fun q q0 q1 => hn0 q (by omega)), c2.mv (fun q q0 q1 => hn0 q (by omega)), e3, (hn0 _ (by omega)).trans c4, (hn0 _ (by omega)).trans c5, (hn0 _ (by omega)).trans c6, (hn0 _ (by omega)).trans c7, (hn0 _ (by omega)).trans c8, c9.mv (fun q q0 q1 q2 => hn0 q (by omega)), c10.mv (fun q q0 q1 => hn0 q (by omega)), ⟨am, (hn0 _ (by omega)).trans c11⟩, ⟨n0, sd0, x0, y0, co0, f0, c12.mv (hn0 _ (by omega)) (hn0 _ (by omega))⟩, c13.mv (fun q q0 q1 => hn0 q (by omega))⟩
      have hM1 : PM X w1 mo v σ d pa sv bv rf tx oo sc := hX.2.2.1.mv (fun q q0 q1 => (hn q (by omega)).trans (hn0 q (by omega)))
      obtain ⟨k0, k1, k2, k3, k4, k5, k6, k7, ⟨tk, k8⟩, k9, ⟨be, k10⟩, ⟨la, k11⟩, k12⟩ := hM1
      refine ⟨⟨_, k0⟩, (c_X9_setDelay_r7 l X w1 mo v σ rf p0 k0 k1 hwf k6 hb h1).imp (fun w2 h2 => ?_)⟩
      obtain ⟨e0, u6, hf⟩ := h2
      have hC2 := hC0.mv (w2 := w2) (fun q q0 q1 => (hf q (by omega) (by omega)).trans (hn q (by omega)))
      have og := (hf ao (by omega) (by omega)).trans hg
      have od := (hf ad (by omega) (by omega)).trans ((hn ad (by omega)).trans ((hn0 ad (by omega)).trans o2))
      exact ⟨⟨su, σ, nx, pas, (up ac 7 (ac 7 + 1)), tx, oo, rv, d, pa, sv, bv, (up rf 7 (rf 7 + 1)), sc, (up v 6 0), ⟨a1, a2, a3⟩, hC2, ⟨e0, (hf _ (by omega) (by omega)).trans k1, (hf _ (by omega) (by omega)).trans k2, (hf _ (by omega) (by omega)).trans k3, (hf _ (by omega) (by omega)).trans k4, (hf _ (by omega) (by omega)).trans k5, u6, (hf _ (by omega) (by omega)).trans k7, ⟨tk, (hf _ (by omega) (by omega)).trans k8⟩, (hf _ (by omega) (by omega)).trans k9, ⟨be, (hf _ (by omega) (by omega)).trans k10⟩, ⟨la, (hf _ (by omega) (by omega)).trans k11⟩, (hf _ (by omega) (by omega)).trans k12⟩, (RR.ref hR (by omega)).cg ⟨rfl, rfl, rfl, rfl, rfl, rfl, rfl⟩, ⟨⟨_, og⟩, g1, od⟩⟩, ⟨_, e0, rfl⟩, fun _ => ⟨g, og, hgv⟩⟩
    · refine ⟨0, (σ 2), _, .inl rfl, hk_setDelay l X w y ao p0 _ _ c0 _ (c_X8_setDelay l X w y su ac σ nx (v 5) pas p0 c0 c3 c1 c2 hb h1) (fun w' h => by obtain ⟨e3, e2, e1, hn0⟩ := h; exact ⟨g0, (hn0 _ (by omega) (by omega) (by omega)).trans o1⟩), fun w1 hP => ?_⟩
      obtain ⟨w0, ⟨e3, e2, e1, hn0⟩, ⟨g, hg, hgv⟩, hn⟩ := hP
      have hC0 : PC X w0 y su (up σ 2 p0) ((if nx = 8 then 0 else nx) + 1) (min 8 (v 5 + 1)) (keepP (v 5) pas σ) (up ac 0 (ac 0 + 1)) (v 11) tx (v 31) oo rv sv bv := ⟨(hn0 _ (by omega) (by omega) (by omega)).trans c0, e1, e2, e3, (hn0 _ (by omega) (by omega) (by omega)).trans c4, (hn0 _ (by omega) (by omega) (by omega)).trans c5, (hn0 _ (by omega) (by omega) (by omega)).trans c6, (hn0 _ (by omega) (by omega) (by omega)).trans c7, (hn0 _ (by omega) (by omega) (by omega)).trans c8, c9.mv (fun q q0 q1 q2 => hn0 q (by omega) (by omega) (by omega)), c10.mv (fun q q0 q1 => hn0 q (by omega) (by omega) (by omega)), ⟨am, (hn0 _ (by omega) (by omega) (by omega)).trans c11⟩, ⟨n0, sd0, x0, y0, co0, f0, c12.mv (hn0 _ (by omega) (by omega) (by omega)) (hn0 _ (by omega) (by omega) (by omega))⟩, c13.mv (fun q q0 q1 => hn0 q (by omega) (by omega) (by omega))⟩
      have hM1 : PM X w1 mo v σ d pa sv bv rf tx oo sc := hX.2.2.1.mv (fun q q0 q1 => (hn q (by omega)).trans (hn0 q (by omega) (by omega) (by omega)))
      obtain ⟨k0, k1, k2, k3, k4, k5, k6, k7, ⟨tk, k8⟩, k9, ⟨be, k10⟩, ⟨la, k11⟩, k12⟩ := hM1
      refine ⟨⟨_, k0⟩, (c_X9_setDelay l X w1 mo v σ pa p0 k0 k1 hwf k3 r1 hb h1).imp (fun w2 h2 => ?_)⟩
      obtain ⟨e0, u1, u3, hf⟩ := h2
      have hC2 := hC0.mv (w2 := w2) (fun q q0 q1 => (hf q (by omega) (by omega) (by omega)).trans (hn q (by omega)))
      have og := (hf ao (by omega) (by omega) (by omega)).trans hg
      have od := (hf ad (by omega) (by omega) (by omega)).trans ((hn ad (by omega)).trans ((hn0 ad (by omega) (by omega) (by omega)).trans o2))
      exact ⟨⟨su, (up σ 2 p0), ((if nx = 8 then 0 else nx) + 1), (keepP (v 5) pas σ), (up ac 0 (ac 0 + 1)), tx, oo, rv, d, (actP (v 5) pa σ), sv, bv, rf, sc, _, ⟨a1, a2, a3⟩, hC2, ⟨e0, u1, (hf _ (by omega) (by omega) (by omega)).trans k2, u3, (hf _ (by omega) (by omega) (by omega)).trans k4, (hf _ (by omega) (by omega) (by omega)).trans k5, (hf _ (by omega) (by omega) (by omega)).trans k6, (hf _ (by omega) (by omega) (by omega)).trans k7, ⟨tk, (hf _ (by omega) (by omega) (by omega)).trans k8⟩, (hf _ (by omega) (by omega) (by omega)).trans k9, ⟨be, (hf _ (by omega) (by omega) (by omega)).trans k10⟩, ⟨la, (hf _ (by omega) (by omega) (by omega)).trans k11⟩, (hf _ (by omega) (by omega) (by omega)).trans k12⟩, (RR.act hR).cg ⟨rfl, rfl, rfl, rfl, rfl, rfl, rfl⟩, ⟨⟨_, og⟩, g1, od⟩⟩, ⟨_, e0, rfl⟩, fun _ => ⟨g, og, hgv⟩⟩
  · refine ⟨1, 0, _, .inr (.inl rfl), ht_setDelay_1 l X w y ao p0 _ _ c0 (x_X8_setDelay l X w y su σ p0 hst c0 c1 hp0 hb), fun w1 hP => ?_⟩
    obtain rfl : w1 = w := hP
    have k0 := m0
    have k1 := m1
    refine ⟨⟨_, k0⟩, (c_X9_setDelay_x l X w1 mo v σ p0 k0 k1 hwf hp0 hb).imp (fun w2 h2 => ?_)⟩
    obtain ⟨e0, hf⟩ := h2
    exact ⟨hX.read e0 ⟨rfl, rfl, rfl, rfl, rfl, rfl, rfl⟩ (fun q q0 q1 q2 q3 q4 => hf q q0) ⟨⟨g0, (hf _ (by omega)).trans o1⟩, g1, (hf _ (by omega)).trans o2⟩ ⟨n0, sd0, x0, y0, co0, f0, c12.mv (hf _ (by omega)) (hf _ (by omega))⟩ ⟨am, (hf _ (by omega)).trans c11⟩, ⟨_, e0, rfl⟩, fun z => absurd z (by decide)⟩
theorem ap20_b {f : Int → Int} {N a b c d e : Int} (h : ∀ i, 0 ≤ i → i < N → 0 ≤ f i ∧ f i ≤ 255) (hN : 0 ≤ N) : ∀ i, 0 ≤ i → i < N + 20 → 0 ≤ ap20 f N a b c d e i ∧ ap20 f N a b c d e i ≤ 255 := by
  have h1 := ap4_r (v := a) h hN
  have h2 := ap4_r (v := b) h1 (by omega)
  have h3 := ap4_r (v := c) h2 (by omega)
  have h4 := ap4_r (v := d) h3 (by omega)
  have h5 := ap4_r (v := e) h4 (by omega)
  exact fun i i0 i1 => h5 i i0 (by omega)
set_option maxHeartbeats 2000000 in
theorem pr_append (l : Launch) (X : Cx) (w : Wo) (y mo ao ad : Nat) (hst : l.stackTraces = false) (hST : ST X w y mo ao ad) (p0 p1 p2 p3 p4 : Int) (hp0 : -2147483648 ≤ p0 ∧ p0 < 2147483648) (hp1 : -2147483648 ≤ p1 ∧ p1 < 2147483648) (hp2 : -2147483648 ≤ p2 ∧ p2 < 2147483648) (hp3 : -2147483648 ≤ p3 ∧ p3 < 2147483648) (hp4 : -2147483648 ≤ p4 ∧ p4 < 2147483648) : CA X y mo ao ad (fun k P => CL l X yL_append cL_append 8 (some (.int)) [(0, 16, 19, 13)] (rmx 8 129) [.ref y, .int (iI p0), .int (iI p1), .int (iI p2), .int (iI p3), .int (iI p4), .ref ao] w (some (.int (iI k))) P) (fun w1 b Q => (∃ fs, w1 mo = some (.inr (9, fs))) ∧ CM l X yX9_append cX9_append 6 (some (.int)) (rmk 1 22) [.ref mo, .int (iI p0), .int (iI p1), .int (iI p2), .int (iI p3), .int (iI p4)] w1 (some (.int (iI b))) Q) := by
  obtain ⟨su, σ, nx, pas, ac, tx, oo, rv, d, pa, sv, bv, rf, sc, v, hX⟩ := hST
  have hX0 := hX
  obtain ⟨⟨a1, a2, a3⟩, ⟨c0, c1, c2, c3, c4, c5, c6, c7, c8, c9, c10, ⟨am, c11⟩, ⟨n0, sd0, x0, y0, co0, f0, c12⟩, c13⟩, ⟨m0, m1, m2, m3, m4, m5, m6, m7, ⟨tk, m8⟩, m9, ⟨be, m10⟩, ⟨la, m11⟩, m12⟩, ⟨r1, r2, ⟨r3, r4, r5⟩, r6, r7, r8, r9, r10, r11, r12⟩, ⟨g0, o1⟩, g1, o2⟩ := hX0
  have hwf := c1.2.2
  have hR := hX.2.2.2.1
  by_cases hb : v 11 ≤ 380
  · refine ⟨0, (v 11 + 20), _, .inl rfl, hk_append l X w y ao p0 p1 p2 p3 p4 _ _ c0 _ (c_X8_append l X w y su (v 11) tx p0 p1 p2 p3 p4 c0 c4 c5 (by omega)) (fun w' h => by obtain ⟨e4, e5, hn0⟩ := h; exact ⟨g0, (hn0 _ (by omega) (by omega)).trans o1⟩), fun w1 hP => ?_⟩
    obtain ⟨w0, ⟨e4, e5, hn0⟩, ⟨g, hg, hgv⟩, hn⟩ := hP
    have hC0 : PC X w0 y su σ nx (v 5) pas ac (v 11 + 20) (ap20 tx (v 11) p0 p1 p2 p3 p4) (v 31) oo rv sv bv := ⟨(hn0 _ (by omega) (by omega)).trans c0, c1.mv (fun q q0 q1 => hn0 q (by omega) (by omega)), c2.mv (fun q q0 q1 => hn0 q (by omega) (by omega)), (hn0 _ (by omega) (by omega)).trans c3, e4, e5, (hn0 _ (by omega) (by omega)).trans c6, (hn0 _ (by omega) (by omega)).trans c7, (hn0 _ (by omega) (by omega)).trans c8, c9.mv (fun q q0 q1 q2 => hn0 q (by omega) (by omega)), c10.mv (fun q q0 q1 => hn0 q (by omega) (by omega)), ⟨am, (hn0 _ (by omega) (by omega)).trans c11⟩, ⟨n0, sd0, x0, y0, co0, f0, c12.mv (hn0 _ (by omega) (by omega)) (hn0 _ (by omega) (by omega))⟩, c13.mv (fun q q0 q1 => hn0 q (by omega) (by omega))⟩
    have hM1 : PM X w1 mo v σ d pa sv bv rf tx oo sc := hX.2.2.1.mv (fun q q0 q1 => (hn q (by omega)).trans (hn0 q (by omega) (by omega)))
    obtain ⟨k0, k1, k2, k3, k4, k5, k6, k7, ⟨tk, k8⟩, k9, ⟨be, k10⟩, ⟨la, k11⟩, k12⟩ := hM1
    refine ⟨⟨_, k0⟩, (c_X9_append l X w1 mo v σ tx p0 p1 p2 p3 p4 k0 k1 hwf k7 (by omega)).imp (fun w2 h2 => ?_)⟩
    obtain ⟨e0, u7, hf⟩ := h2
    have hC2 := hC0.mv (w2 := w2) (fun q q0 q1 => (hf q (by omega) (by omega)).trans (hn q (by omega)))
    have og := (hf ao (by omega) (by omega)).trans hg
    have od := (hf ad (by omega) (by omega)).trans ((hn ad (by omega)).trans ((hn0 ad (by omega) (by omega)).trans o2))
    have h20 : v 11 + 4 + 4 + 4 + 4 + 4 = v 11 + 20 := by omega
    rw [h20] at e0
    exact ⟨⟨su, σ, nx, pas, ac, (ap20 tx (v 11) p0 p1 p2 p3 p4), oo, rv, d, pa, sv, bv, rf, sc, _, ⟨a1, a2, a3⟩, hC2, ⟨e0, (hf _ (by omega) (by omega)).trans k1, (hf _ (by omega) (by omega)).trans k2, (hf _ (by omega) (by omega)).trans k3, (hf _ (by omega) (by omega)).trans k4, (hf _ (by omega) (by omega)).trans k5, (hf _ (by omega) (by omega)).trans k6, u7, ⟨tk, (hf _ (by omega) (by omega)).trans k8⟩, (hf _ (by omega) (by omega)).trans k9, ⟨be, (hf _ (by omega) (by omega)).trans k10⟩, ⟨la, (hf _ (by omega) (by omega)).trans k11⟩, (hf _ (by omega) (by omega)).trans k12⟩, ((RR.txt (N := v 11 + 20) hR (by omega) (ap20_b r7 r6.1)).cg ⟨rfl, rfl, rfl, rfl, rfl, rfl, rfl⟩), ⟨⟨_, og⟩, g1, od⟩⟩, ⟨_, e0, rfl⟩, fun _ => ⟨g, og, hgv⟩⟩
  · refine ⟨1, 0, _, .inr (.inl rfl), ht_append_1 l X w y ao p0 p1 p2 p3 p4 _ _ c0 (x_X8_append l X w y su σ (v 11) tx p0 p1 p2 p3 p4 hst c0 c1 c4 c5 (by omega)), fun w1 hP => ?_⟩
    obtain rfl : w1 = w := hP
    have k0 := m0
    have k1 := m1
    refine ⟨⟨_, k0⟩, (c_X9_append_x l X w1 mo v σ p0 p1 p2 p3 p4 k0 k1 hwf (by omega)).imp (fun w2 h2 => ?_)⟩
    obtain ⟨e0, hf⟩ := h2
    exact ⟨hX.read e0 ⟨rfl, rfl, rfl, rfl, rfl, rfl, rfl⟩ (fun q q0 q1 q2 q3 q4 => hf q q0) ⟨⟨g0, (hf _ (by omega)).trans o1⟩, g1, (hf _ (by omega)).trans o2⟩ ⟨n0, sd0, x0, y0, co0, f0, c12.mv (hf _ (by omega)) (hf _ (by omega))⟩ ⟨am, (hf _ (by omega)).trans c11⟩, ⟨_, e0, rfl⟩, fun z => absurd z (by decide)⟩
set_option maxHeartbeats 2000000 in
theorem pr_truncate (l : Launch) (X : Cx) (w : Wo) (y mo ao ad : Nat) (hst : l.stackTraces = false) (hST : ST X w y mo ao ad) (p0 : Int) (hp0 : -2147483648 ≤ p0 ∧ p0 < 2147483648) : CA X y mo ao ad (fun k P => CL l X yL_truncate cL_truncate 4 (some (.int)) [(0, 9, 12, 19)] (rmx 8 125) [.ref y, .int (iI p0), .ref ao] w (some (.int (iI k))) P) (fun w1 b Q => (∃ fs, w1 mo = some (.inr (9, fs))) ∧ CM l X yX9_truncate cX9_truncate 2 (some (.int)) (rmk 1 25) [.ref mo, .int (iI p0)] w1 (some (.int (iI b))) Q) := by
  obtain ⟨su, σ, nx, pas, ac, tx, oo, rv, d, pa, sv, bv, rf, sc, v, hX⟩ := hST
  have hX0 := hX
  obtain ⟨⟨a1, a2, a3⟩, ⟨c0, c1, c2, c3, c4, c5, c6, c7, c8, c9, c10, ⟨am, c11⟩, ⟨n0, sd0, x0, y0, co0, f0, c12⟩, c13⟩, ⟨m0, m1, m2, m3, m4, m5, m6, m7, ⟨tk, m8⟩, m9, ⟨be, m10⟩, ⟨la, m11⟩, m12⟩, ⟨r1, r2, ⟨r3, r4, r5⟩, r6, r7, r8, r9, r10, r11, r12⟩, ⟨g0, o1⟩, g1, o2⟩ := hX0
  have hwf := c1.2.2
  have hR := hX.2.2.2.1
  by_cases hb : 0 ≤ p0 ∧ p0 ≤ v 11
  · refine ⟨0, p0, _, .inl rfl, hk_truncate l X w y ao p0 _ _ c0 _ (c_X8_truncate l X w y su (v 11) tx p0 c0 c4 c5 r6 hb) (fun w' h => by obtain ⟨e4, hn0⟩ := h; exact ⟨g0, (hn0 _ (by omega)).trans o1⟩), fun w1 hP => ?_⟩
    obtain ⟨w0, ⟨e4, hn0⟩, ⟨g, hg, hgv⟩, hn⟩ := hP
    have hC0 : PC X w0 y su σ nx (v 5) pas ac p0 tx (v 31) oo rv sv bv := ⟨(hn0 _ (by omega)).trans c0, c1.mv (fun q q0 q1 => hn0 q (by omega)), c2.mv (fun q q0 q1 => hn0 q (by omega)), (hn0 _ (by omega)).trans c3, e4, (hn0 _ (by omega)).trans c5, (hn0 _ (by omega)).trans c6, (hn0 _ (by omega)).trans c7, (hn0 _ (by omega)).trans c8, c9.mv (fun q q0 q1 q2 => hn0 q (by omega)), c10.mv (fun q q0 q1 => hn0 q (by omega)), ⟨am, (hn0 _ (by omega)).trans c11⟩, ⟨n0, sd0, x0, y0, co0, f0, c12.mv (hn0 _ (by omega)) (hn0 _ (by omega))⟩, c13.mv (fun q q0 q1 => hn0 q (by omega))⟩
    have hM1 : PM X w1 mo v σ d pa sv bv rf tx oo sc := hX.2.2.1.mv (fun q q0 q1 => (hn q (by omega)).trans (hn0 q (by omega)))
    obtain ⟨k0, k1, k2, k3, k4, k5, k6, k7, ⟨tk, k8⟩, k9, ⟨be, k10⟩, ⟨la, k11⟩, k12⟩ := hM1
    refine ⟨⟨_, k0⟩, (c_X9_truncate l X w1 mo v σ p0 k0 k1 hwf r6 hb).imp (fun w2 h2 => ?_)⟩
    obtain ⟨e0, hf⟩ := h2
    have hC2 := hC0.mv (w2 := w2) (fun q q0 q1 => (hf q (by omega)).trans (hn q (by omega)))
    have og := (hf ao (by omega)).trans hg
    have od := (hf ad (by omega)).trans ((hn ad (by omega)).trans ((hn0 ad (by omega)).trans o2))
    exact ⟨⟨su, σ, nx, pas, ac, tx, oo, rv, d, pa, sv, bv, rf, sc, _, ⟨a1, a2, a3⟩, hC2, ⟨e0, (hf _ (by omega)).trans k1, (hf _ (by omega)).trans k2, (hf _ (by omega)).trans k3, (hf _ (by omega)).trans k4, (hf _ (by omega)).trans k5, (hf _ (by omega)).trans k6, (hf _ (by omega)).trans k7, ⟨tk, (hf _ (by omega)).trans k8⟩, (hf _ (by omega)).trans k9, ⟨be, (hf _ (by omega)).trans k10⟩, ⟨la, (hf _ (by omega)).trans k11⟩, (hf _ (by omega)).trans k12⟩, (RR.txt (N := p0) hR (by omega) (fun i i0 i1 => r7 i i0 (by omega))).cg ⟨rfl, rfl, rfl, rfl, rfl, rfl, rfl⟩, ⟨⟨_, og⟩, g1, od⟩⟩, ⟨_, e0, rfl⟩, fun _ => ⟨g, og, hgv⟩⟩
  · refine ⟨1, 0, _, .inr (.inl rfl), ht_truncate_1 l X w y ao p0 _ _ c0 (x_X8_truncate l X w y su σ (v 11) tx p0 hst c0 c1 c4 c5 r6 hp0 hb), fun w1 hP => ?_⟩
    obtain rfl : w1 = w := hP
    have k0 := m0
    have k1 := m1
    refine ⟨⟨_, k0⟩, (c_X9_truncate_x l X w1 mo v σ p0 k0 k1 hwf r6 hp0 hb).imp (fun w2 h2 => ?_)⟩
    obtain ⟨e0, hf⟩ := h2
    exact ⟨hX.read e0 ⟨rfl, rfl, rfl, rfl, rfl, rfl, rfl⟩ (fun q q0 q1 q2 q3 q4 => hf q q0) ⟨⟨g0, (hf _ (by omega)).trans o1⟩, g1, (hf _ (by omega)).trans o2⟩ ⟨n0, sd0, x0, y0, co0, f0, c12.mv (hf _ (by omega)) (hf _ (by omega))⟩ ⟨am, (hf _ (by omega)).trans c11⟩, ⟨_, e0, rfl⟩, fun z => absurd z (by decide)⟩
