/-! ===== the pair goes through play ===== -/
theorem runL_v {sc : Int → Int} {k : Int} (h5 : k ≠ 5) (h8 : k ≠ 8) (h9 : k ≠ 9) : ∀ (L : List Int) (n : Int) (s : SR), (runL (okR sc) (stR sc) L n s).2.1 k = s.1 k
  | [], n, s => rfl
  | p :: L, n, s => by
    have hst : (stR sc s p).1 k = s.1 k := by
      show dV s.1 s.2.1 (sc (4 * p)) (sc (4 * p + 1)) (sc (4 * p + 2)) (sc (4 * p + 3)) k = s.1 k
      unfold dV
      split
      · rw [up_n h9, up_n h8, up_n h5]
      · rfl
    by_cases hn : n < 200
    · cases ho : okR sc s p
      · rw [runL_f hn ho]
        exact hst
      · rw [runL_s hn ho]
        exact (runL_v h5 h8 h9 L (n + 1) _).trans hst
    · rw [runL_e hn]
theorem RR.pl {su : Int} {v u ac2 tx rv rw9 pa2 bv rf2 : Int → Int} {pas2 : Int → Int → Int} {ac pa rf : Int → Int} {pas : Int → Int → Int} (h : RR su v pas ac tx rv pa bv rf) (h5 : 0 ≤ u 5 ∧ u 5 ≤ 8) (hp : ∀ i, 0 ≤ i → i < u 5 → ∀ p, 0 ≤ p → p < 1317 → pa2 (1317 * i + p) = pas2 i p) (ha : ac2 0 = u 8 ∧ ac2 8 = u 9 ∧ ∀ r, 1 ≤ r → r < 8 → ac2 r = rf2 r) (h31 : u 31 = v 31) (h11 : u 11 = 0) (hr : rw9 6 = u 20 ∧ rw9 7 = u 21) : RR su u pas2 ac2 tx rw9 pa2 bv rf2 := by
  obtain ⟨-, -, -, r6, r7, r8, r9, r10, r11, r12⟩ := h
  exact ⟨h5, hp, ha, by rw [h11]; omega, by rw [h11]; exact fun i i0 i1 => absurd i0 (by omega), by rw [h31]; exact r8, r9, r10, hr.1, hr.2⟩
set_option maxHeartbeats 2000000 in
theorem pr_play (l : Launch) (X : Cx) (w : Wo) (y mo ao ad : Nat) (hST : ST X w y mo ao ad) : CB X y mo ao ad (fun b P => CM l X yX8_play cX8_play 3 (some (.int)) (rmk 9 195) [.ref y] w (some (.int (iI b))) P) (fun w1 b Q => (∃ fs, w1 mo = some (.inr (9, fs))) ∧ CM l X yX9_play cX9_play 6 (some (.int)) (rmk 8 222) [.ref mo] w1 (some (.int (iI b))) Q) := by
  obtain ⟨su, σ, nx, pas, ac, tx, oo, rv, d, pa, sv, bv, rf, sc, v, hX⟩ := hST
  have hX0 := hX
  obtain ⟨⟨a1, a2, a3⟩, ⟨c0, c1, c2, c3, c4, c5, c6, c7, c8, c9, c10, ⟨am, c11⟩, ⟨n0, sd0, x0, y0, co0, f0, c12⟩, c13⟩, ⟨m0, m1, m2, m3, m4, m5, m6, m7, ⟨tk, m8⟩, m9, ⟨be, m10⟩, ⟨la, m11⟩, m12⟩, ⟨r1, r2, ⟨r3, r4, r5⟩, r6, r7, r8, r9, r10, r11, r12⟩, ⟨g0, o1⟩, g1, o2⟩ := hX0
  have hwf := c1.2.2
  have hR := hX.2.2.2.1
  have hv9 : vP tx (ld0 tx (up v 6 0)) := ld0_P (N := v 11) r6 r7 rfl
  have hun : ∀ k, (k < 14 ∨ 19 < k) → k ≠ 27 ∧ k ≠ 28 ∧ k ≠ 29 → (sgV tx (ld0 tx (up v 6 0)) sc (σ 0)) k = up v 6 0 k := fun k h h2 => (sgV_n hv9 h h2).trans (ld0_n h)
  by_cases hq : (sgV tx (ld0 tx (up v 6 0)) sc (σ 0)) 18 = 0
  · have hF := hwf.1
    unfold WF0 at hF
    obtain ⟨hl60, L0, hRem, hRC⟩ := pl_ex (s2 := (sgF tx (ld0 tx (up v 6 0)) sc (σ 0)).2) (ln := (sgV tx (ld0 tx (up v 6 0)) sc (σ 0)) 27) hv9 hF.1.1 hq rfl rfl
    have hre : reS ((enV (sgV tx (ld0 tx (up v 6 0)) sc (σ 0)), σ, pa, rf) : SR) ((σ, ac, nx, v 5, pas) : SC) := by
      have q5 : (sgV tx (ld0 tx (up v 6 0)) sc (σ 0)) 5 = v 5 := hun 5 (by omega) (by omega)
      have q8 : (sgV tx (ld0 tx (up v 6 0)) sc (σ 0)) 8 = v 8 := hun 8 (by omega) (by omega)
      have q9 : (sgV tx (ld0 tx (up v 6 0)) sc (σ 0)) 9 = v 9 := hun 9 (by omega) (by omega)
      refine ⟨rfl, ⟨r3.trans q8.symm, r4.trans q9.symm, r5⟩, q5.symm, ?_, ?_⟩
      · show 0 ≤ (sgV tx (ld0 tx (up v 6 0)) sc (σ 0)) 5 ∧ (sgV tx (ld0 tx (up v 6 0)) sc (σ 0)) 5 ≤ 8
        rw [q5]; exact r1
      · show ∀ i, 0 ≤ i → i < (sgV tx (ld0 tx (up v 6 0)) sc (σ 0)) 5 → _
        rw [q5]; exact r2
    obtain ⟨hv1, hs1⟩ := re_run (sc := (sgF tx (ld0 tx (up v 6 0)) sc (σ 0)).2) L0 0 _ _ hre
    obtain ⟨q1, ⟨q2, q3, q4⟩, q6, q7, q9⟩ := hs1
    skip
    · refine ⟨(runL (okR (sgF tx (ld0 tx (up v 6 0)) sc (σ 0)).2) (stR (sgF tx (ld0 tx (up v 6 0)) sc (σ 0)).2) L0 0 ((enV (sgV tx (ld0 tx (up v 6 0)) sc (σ 0)), σ, pa, rf) : SR)).1, _, (by rw [← hv1]; exact c_X8_play l X w y su ac am σ nx (v 5) pas (v 11) tx (up v 6 0) sc rv _ _ L0 c0 c3 c11 c1 c2 c8 c4 c5 rfl r6 r7 c10 hq rfl rfl hl60 hRC), fun w1 hP => ?_⟩
      obtain ⟨e4, e3, ⟨m, e8⟩, e10, e2, e1, ⟨am9, e11⟩, hn0⟩ := hP
      have hn : ∀ q : Nat, q ≠ ao → w1 q = w1 q := fun _ _ => rfl
      obtain ⟨w0, hw0⟩ : ∃ w0, w0 = w1 := ⟨_, rfl⟩
      subst hw0
      have hg := (hn0 ao (by omega) (by omega) (by omega) (by omega) (by omega) (by omega) (by omega)).trans o1
      rw [q1] at e1
      rw [q6] at e2
      have hC0 : PC X w0 y su ((runL (okR (sgF tx (ld0 tx (up v 6 0)) sc (σ 0)).2) (stR (sgF tx (ld0 tx (up v 6 0)) sc (σ 0)).2) L0 0 ((enV (sgV tx (ld0 tx (up v 6 0)) sc (σ 0)), σ, pa, rf) : SR)).2.2.1) (runL (okC (sgF tx (ld0 tx (up v 6 0)) sc (σ 0)).2) (stC (sgF tx (ld0 tx (up v 6 0)) sc (σ 0)).2) L0 0 ((σ, ac, nx, v 5, pas) : SC)).2.2.2.1 ((runL (okR (sgF tx (ld0 tx (up v 6 0)) sc (σ 0)).2) (stR (sgF tx (ld0 tx (up v 6 0)) sc (σ 0)).2) L0 0 ((enV (sgV tx (ld0 tx (up v 6 0)) sc (σ 0)), σ, pa, rf) : SR)).2.1 5) (runL (okC (sgF tx (ld0 tx (up v 6 0)) sc (σ 0)).2) (stC (sgF tx (ld0 tx (up v 6 0)) sc (σ 0)).2) L0 0 ((σ, ac, nx, v 5, pas) : SC)).2.2.2.2.2 (runL (okC (sgF tx (ld0 tx (up v 6 0)) sc (σ 0)).2) (stC (sgF tx (ld0 tx (up v 6 0)) sc (σ 0)).2) L0 0 ((σ, ac, nx, v 5, pas) : SC)).2.2.1 0 tx (v 31) oo (cR tx (v 11) (sgV tx (ld0 tx (up v 6 0)) sc (σ 0)) m) sv bv := ⟨(hn0 _ (by omega) (by omega) (by omega) (by omega) (by omega) (by omega) (by omega)).trans c0, e1, e2, e3, e4, (hn0 _ (by omega) (by omega) (by omega) (by omega) (by omega) (by omega) (by omega)).trans c5, (hn0 _ (by omega) (by omega) (by omega) (by omega) (by omega) (by omega) (by omega)).trans c6, (hn0 _ (by omega) (by omega) (by omega) (by omega) (by omega) (by omega) (by omega)).trans c7, e8, c9.mv (fun q q0 q1 q2 => hn0 q (by omega) (by omega) (by omega) (by omega) (by omega) (by omega) (by omega)), e10, ⟨am9, e11⟩, ⟨n0, sd0, x0, y0, co0, f0, c12.mv (hn0 _ (by omega) (by omega) (by omega) (by omega) (by omega) (by omega) (by omega)) (hn0 _ (by omega) (by omega) (by omega) (by omega) (by omega) (by omega) (by omega))⟩, c13.mv (fun q q0 q1 => hn0 q (by omega) (by omega) (by omega) (by omega) (by omega) (by omega) (by omega))⟩
      have hM1 : PM X w0 mo v σ d pa sv bv rf tx oo sc := hX.2.2.1.mv (fun q q0 q1 => (hn q (by omega)).trans (hn0 q (by omega) (by omega) (by omega) (by omega) (by omega) (by omega) (by omega)))
      obtain ⟨k0, k1, k2, k3, k4, k5, k6, k7, ⟨tk, k8⟩, k9, ⟨be, k10⟩, ⟨la, k11⟩, k12⟩ := hM1
      obtain ⟨R0, hR0⟩ := hRem be la
      refine ⟨⟨_, k0⟩, (c_X9_play l X w0 mo v tx σ sc pa rf tk be la _ _ R0 L0 k0 k7 r6 r7 k1 hwf k9 k3 r1 k6 k8 k10 k11 hq rfl rfl hl60 hR0).imp (fun w2 h2 => ?_)⟩
      obtain ⟨e0, u1, u3, u6, u9, ⟨f1, f2, f3, u8, u10, u11⟩, hf⟩ := h2
      have hC2 := hC0.mv (w2 := w2) (fun q q0 q1 => (hf q (by omega) (by omega) (by omega) (by omega) (by omega) (by omega) (by omega) (by omega)).trans (hn q (by omega)))
      have og := (hf ao (by omega) (by omega) (by omega) (by omega) (by omega) (by omega) (by omega) (by omega)).trans hg
      have od := (hf ad (by omega) (by omega) (by omega) (by omega) (by omega) (by omega) (by omega) (by omega)).trans ((hn ad (by omega)).trans ((hn0 ad (by omega) (by omega) (by omega) (by omega) (by omega) (by omega) (by omega)).trans o2))
      have h31 : (runL (okR (sgF tx (ld0 tx (up v 6 0)) sc (σ 0)).2) (stR (sgF tx (ld0 tx (up v 6 0)) sc (σ 0)).2) L0 0 ((enV (sgV tx (ld0 tx (up v 6 0)) sc (σ 0)), σ, pa, rf) : SR)).2.1 31 = v 31 := (runL_v (by decide) (by decide) (by decide) L0 0 _).trans (hun 31 (by omega) (by omega))
      have h11 : (runL (okR (sgF tx (ld0 tx (up v 6 0)) sc (σ 0)).2) (stR (sgF tx (ld0 tx (up v 6 0)) sc (σ 0)).2) L0 0 ((enV (sgV tx (ld0 tx (up v 6 0)) sc (σ 0)), σ, pa, rf) : SR)).2.1 11 = 0 := runL_v (by decide) (by decide) (by decide) L0 0 _
      have h20 : (runL (okR (sgF tx (ld0 tx (up v 6 0)) sc (σ 0)).2) (stR (sgF tx (ld0 tx (up v 6 0)) sc (σ 0)).2) L0 0 ((enV (sgV tx (ld0 tx (up v 6 0)) sc (σ 0)), σ, pa, rf) : SR)).2.1 20 = (sgV tx (ld0 tx (up v 6 0)) sc (σ 0)) 18 := runL_v (by decide) (by decide) (by decide) L0 0 _
      have h21 : (runL (okR (sgF tx (ld0 tx (up v 6 0)) sc (σ 0)).2) (stR (sgF tx (ld0 tx (up v 6 0)) sc (σ 0)).2) L0 0 ((enV (sgV tx (ld0 tx (up v 6 0)) sc (σ 0)), σ, pa, rf) : SR)).2.1 21 = (sgV tx (ld0 tx (up v 6 0)) sc (σ 0)) 19 := runL_v (by decide) (by decide) (by decide) L0 0 _
      have hC2 : PC X w2 y su ((runL (okR (sgF tx (ld0 tx (up v 6 0)) sc (σ 0)).2) (stR (sgF tx (ld0 tx (up v 6 0)) sc (σ 0)).2) L0 0 ((enV (sgV tx (ld0 tx (up v 6 0)) sc (σ 0)), σ, pa, rf) : SR)).2.2.1) ((runL (okC (sgF tx (ld0 tx (up v 6 0)) sc (σ 0)).2) (stC (sgF tx (ld0 tx (up v 6 0)) sc (σ 0)).2) L0 0 ((σ, ac, nx, v 5, pas) : SC)).2.2.2.1) ((runL (okR (sgF tx (ld0 tx (up v 6 0)) sc (σ 0)).2) (stR (sgF tx (ld0 tx (up v 6 0)) sc (σ 0)).2) L0 0 ((enV (sgV tx (ld0 tx (up v 6 0)) sc (σ 0)), σ, pa, rf) : SR)).2.1 5) ((runL (okC (sgF tx (ld0 tx (up v 6 0)) sc (σ 0)).2) (stC (sgF tx (ld0 tx (up v 6 0)) sc (σ 0)).2) L0 0 ((σ, ac, nx, v 5, pas) : SC)).2.2.2.2.2) ((runL (okC (sgF tx (ld0 tx (up v 6 0)) sc (σ 0)).2) (stC (sgF tx (ld0 tx (up v 6 0)) sc (σ 0)).2) L0 0 ((σ, ac, nx, v 5, pas) : SC)).2.2.1) ((runL (okR (sgF tx (ld0 tx (up v 6 0)) sc (σ 0)).2) (stR (sgF tx (ld0 tx (up v 6 0)) sc (σ 0)).2) L0 0 ((enV (sgV tx (ld0 tx (up v 6 0)) sc (σ 0)), σ, pa, rf) : SR)).2.1 11) tx ((runL (okR (sgF tx (ld0 tx (up v 6 0)) sc (σ 0)).2) (stR (sgF tx (ld0 tx (up v 6 0)) sc (σ 0)).2) L0 0 ((enV (sgV tx (ld0 tx (up v 6 0)) sc (σ 0)), σ, pa, rf) : SR)).2.1 31) oo (cR tx (v 11) (sgV tx (ld0 tx (up v 6 0)) sc (σ 0)) m) sv bv := by
          rw [h11, h31]
          exact hC2
      exact ⟨su, ((runL (okR (sgF tx (ld0 tx (up v 6 0)) sc (σ 0)).2) (stR (sgF tx (ld0 tx (up v 6 0)) sc (σ 0)).2) L0 0 ((enV (sgV tx (ld0 tx (up v 6 0)) sc (σ 0)), σ, pa, rf) : SR)).2.2.1), (runL (okC (sgF tx (ld0 tx (up v 6 0)) sc (σ 0)).2) (stC (sgF tx (ld0 tx (up v 6 0)) sc (σ 0)).2) L0 0 ((σ, ac, nx, v 5, pas) : SC)).2.2.2.1, (runL (okC (sgF tx (ld0 tx (up v 6 0)) sc (σ 0)).2) (stC (sgF tx (ld0 tx (up v 6 0)) sc (σ 0)).2) L0 0 ((σ, ac, nx, v 5, pas) : SC)).2.2.2.2.2, (runL (okC (sgF tx (ld0 tx (up v 6 0)) sc (σ 0)).2) (stC (sgF tx (ld0 tx (up v 6 0)) sc (σ 0)).2) L0 0 ((σ, ac, nx, v 5, pas) : SC)).2.2.1, tx, oo, (cR tx (v 11) (sgV tx (ld0 tx (up v 6 0)) sc (σ 0)) m), d, (runL (okR (sgF tx (ld0 tx (up v 6 0)) sc (σ 0)).2) (stR (sgF tx (ld0 tx (up v 6 0)) sc (σ 0)).2) L0 0 ((enV (sgV tx (ld0 tx (up v 6 0)) sc (σ 0)), σ, pa, rf) : SR)).2.2.2.1, sv, bv, (runL (okR (sgF tx (ld0 tx (up v 6 0)) sc (σ 0)).2) (stR (sgF tx (ld0 tx (up v 6 0)) sc (σ 0)).2) L0 0 ((enV (sgV tx (ld0 tx (up v 6 0)) sc (σ 0)), σ, pa, rf) : SR)).2.2.2.2, (sgF tx (ld0 tx (up v 6 0)) sc (σ 0)).2, (runL (okR (sgF tx (ld0 tx (up v 6 0)) sc (σ 0)).2) (stR (sgF tx (ld0 tx (up v 6 0)) sc (σ 0)).2) L0 0 ((enV (sgV tx (ld0 tx (up v 6 0)) sc (σ 0)), σ, pa, rf) : SR)).2.1, ⟨a1, a2, a3⟩, hC2, ⟨e0, u1, (hf _ (by omega) (by omega) (by omega) (by omega) (by omega) (by omega) (by omega) (by omega)).trans k2, u3, (hf _ (by omega) (by omega) (by omega) (by omega) (by omega) (by omega) (by omega) (by omega)).trans k4, (hf _ (by omega) (by omega) (by omega) (by omega) (by omega) (by omega) (by omega) (by omega)).trans k5, u6, (hf _ (by omega) (by omega) (by omega) (by omega) (by omega) (by omega) (by omega) (by omega)).trans k7, ⟨f1, u8⟩, u9, ⟨f2, u10⟩, ⟨f3, u11⟩, (hf _ (by omega) (by omega) (by omega) (by omega) (by omega) (by omega) (by omega) (by omega)).trans k12⟩, RR.pl hR q7 q9 ⟨q2, q3, q4⟩ h31 h11 ⟨h20.symm, h21.symm⟩, ⟨⟨_, og⟩, g1, od⟩⟩
  · refine ⟨(-1), _, (c_play_x l X w y su ac am σ nx (v 5) pas (v 11) tx (up v 6 0) sc rv c0 c3 c11 c1 c2 c8 c4 c5 rfl r6 r7 c10 hq), fun w1 hP => ?_⟩
    obtain ⟨e4, ⟨m, e8⟩, e10, hn0⟩ := hP
    have hn : ∀ q : Nat, q ≠ ao → w1 q = w1 q := fun _ _ => rfl
    obtain ⟨w0, hw0⟩ : ∃ w0, w0 = w1 := ⟨_, rfl⟩
    subst hw0
    have hg := (hn0 ao (by omega) (by omega) (by omega)).trans o1
    have hC0 : PC X w0 y su σ nx (v 5) pas ac 0 tx (v 31) oo (cR tx (v 11) (sgV tx (ld0 tx (up v 6 0)) sc (σ 0)) m) sv bv := ⟨(hn0 _ (by omega) (by omega) (by omega)).trans c0, c1.mv (fun q q0 q1 => hn0 q (by omega) (by omega) (by omega)), c2.mv (fun q q0 q1 => hn0 q (by omega) (by omega) (by omega)), (hn0 _ (by omega) (by omega) (by omega)).trans c3, e4, (hn0 _ (by omega) (by omega) (by omega)).trans c5, (hn0 _ (by omega) (by omega) (by omega)).trans c6, (hn0 _ (by omega) (by omega) (by omega)).trans c7, e8, c9.mv (fun q q0 q1 q2 => hn0 q (by omega) (by omega) (by omega)), e10, ⟨am, (hn0 _ (by omega) (by omega) (by omega)).trans c11⟩, ⟨n0, sd0, x0, y0, co0, f0, c12.mv (hn0 _ (by omega) (by omega) (by omega)) (hn0 _ (by omega) (by omega) (by omega))⟩, c13.mv (fun q q0 q1 => hn0 q (by omega) (by omega) (by omega))⟩
    have hM1 : PM X w0 mo v σ d pa sv bv rf tx oo sc := hX.2.2.1.mv (fun q q0 q1 => (hn q (by omega)).trans (hn0 q (by omega) (by omega) (by omega)))
    obtain ⟨k0, k1, k2, k3, k4, k5, k6, k7, ⟨tk, k8⟩, k9, ⟨be, k10⟩, ⟨la, k11⟩, k12⟩ := hM1
    refine ⟨⟨_, k0⟩, (c_X9_play_x l X w0 mo v tx σ sc k0 k7 r6 r7 k1 hwf k9 hq).imp (fun w2 h2 => ?_)⟩
    obtain ⟨e0, u9, hf⟩ := h2
    have hC2 := hC0.mv (w2 := w2) (fun q q0 q1 => (hf q (by omega) (by omega)).trans (hn q (by omega)))
    have og := (hf ao (by omega) (by omega)).trans hg
    have od := (hf ad (by omega) (by omega)).trans ((hn ad (by omega)).trans ((hn0 ad (by omega) (by omega) (by omega)).trans o2))
    have q5 : (sgV tx (ld0 tx (up v 6 0)) sc (σ 0)) 5 = v 5 := hun 5 (by omega) (by omega)
    have q31 : (sgV tx (ld0 tx (up v 6 0)) sc (σ 0)) 31 = v 31 := hun 31 (by omega) (by omega)
    have hC2 : PC X w2 y su σ nx (enV (sgV tx (ld0 tx (up v 6 0)) sc (σ 0)) 5) pas ac (enV (sgV tx (ld0 tx (up v 6 0)) sc (σ 0)) 11) tx (enV (sgV tx (ld0 tx (up v 6 0)) sc (σ 0)) 31) oo (cR tx (v 11) (sgV tx (ld0 tx (up v 6 0)) sc (σ 0)) m) sv bv := by
      rw [show enV (sgV tx (ld0 tx (up v 6 0)) sc (σ 0)) 31 = v 31 from q31, show enV (sgV tx (ld0 tx (up v 6 0)) sc (σ 0)) 5 = v 5 from q5]
      exact hC2
    exact ⟨su, σ, nx, pas, ac, tx, oo, (cR tx (v 11) (sgV tx (ld0 tx (up v 6 0)) sc (σ 0)) m), d, pa, sv, bv, rf, (sgF tx (ld0 tx (up v 6 0)) sc (σ 0)).2, (enV (sgV tx (ld0 tx (up v 6 0)) sc (σ 0))), ⟨a1, a2, a3⟩, hC2, ⟨e0, (hf _ (by omega) (by omega)).trans k1, (hf _ (by omega) (by omega)).trans k2, (hf _ (by omega) (by omega)).trans k3, (hf _ (by omega) (by omega)).trans k4, (hf _ (by omega) (by omega)).trans k5, (hf _ (by omega) (by omega)).trans k6, (hf _ (by omega) (by omega)).trans k7, ⟨tk, (hf _ (by omega) (by omega)).trans k8⟩, u9, ⟨be, (hf _ (by omega) (by omega)).trans k10⟩, ⟨la, (hf _ (by omega) (by omega)).trans k11⟩, (hf _ (by omega) (by omega)).trans k12⟩, RR.rd hR ⟨hun 5 (by omega) (by omega), hun 8 (by omega) (by omega), hun 9 (by omega) (by omega), hun 31 (by omega) (by omega)⟩ rfl ⟨rfl, rfl⟩, ⟨⟨_, og⟩, g1, od⟩⟩
