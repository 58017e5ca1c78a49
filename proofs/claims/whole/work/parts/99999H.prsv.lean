/-! ===== the pair goes through saves, share, and what the law calls itself ===== -/
def CV (X : Cx) (y mo ao ad : Nat) (HEL : Int → (Wo → Prop) → Prop) (MOD : Wo → (Wo → Prop) → Prop) : Prop := ∃ (k : Int) (P : Wo → Prop), (k = 0 ∨ k = 1 ∨ k = 2) ∧ HEL k P ∧ ∀ w1, P w1 → MOD w1 (fun w2 => ST X w2 y mo ao ad ∧ ∃ v, w2 mo = some (.inr (9, mL mo v)) ∧ v 6 = k)
def CS (X : Cx) (y mo ao ad : Nat) (HEL : Int → (Wo → Prop) → Prop) (MOD : Wo → UInt32 → (Wo → Prop) → Prop) : Prop := ∃ (k : Int) (b : UInt32) (P : Wo → Prop), (k = 0 ∨ k = 1 ∨ k = 2) ∧ HEL k P ∧ ∀ w1, P w1 → MOD w1 b (fun w2 => ST X w2 y mo ao ad ∧ (∃ v, w2 mo = some (.inr (9, mL mo v)) ∧ v 6 = k) ∧ (k = 0 → vf_n64 (FP.f2d b) ∧ ∃ g, w2 ad = some (aD X 1 g) ∧ g 0 = FP.f2d b))
def CD (X : Cx) (y mo ao ad : Nat) (CLS : UInt64 → (Wo → Prop) → Prop) (MOD : Wo → UInt64 → (Wo → Prop) → Prop) : Prop := ∃ (b : UInt64) (P : Wo → Prop), vf_n64 b ∧ CLS b P ∧ ∀ w1, P w1 → MOD w1 b (fun w2 => ST X w2 y mo ao ad)
theorem cpN_at {f g : Int → Int} {a p : Int} (h : 0 ≤ p ∧ p < 1317) : cpN f g a 0 1317 p = f (a + p) := by
  unfold cpN
  rw [if_pos (by omega), show p - 0 = p by omega]
theorem SVC.save {X : Cx} {w w2 : Wo} {y : Nat} {sv bv σ : Int → Int} {p0 : Int} (h : SVC X w y sv bv) (hp : 0 ≤ p0 ∧ p0 ≤ 1) (hs : loomAt X w2 (y + 255 + 25 * p0.toNat) σ) (hf : ∀ q : Nat, y + 255 ≤ q → q < y + 305 → (q < y + 255 + 25 * p0.toNat ∨ y + 255 + 25 * p0.toNat + 25 ≤ q) → w2 q = w q) : SVC X w2 y (cpN σ sv 0 (1317 * p0) 1317) (up bv p0 (bz true)) := by
  intro k k0 k1
  by_cases g : k = p0
  · subst g
    exact ⟨⟨σ, hs.1, hs.2.2.cap8⟩, fun _ => hs.to (eqS.ofW hs.2.2 (fun p q0 q1 => by
      show cpN σ sv 0 (1317 * k) 1317 (1317 * k + p) = σ p
      unfold cpN
      rw [if_pos (by omega), show 0 + (1317 * k + p - 1317 * k) = p by omega]))⟩
  · obtain ⟨⟨τ, h1, h2⟩, h3⟩ := h k k0 k1
    have hd : k.toNat ≤ 1 ∧ p0.toNat ≤ 1 ∧ k.toNat ≠ p0.toNat := by omega
    refine ⟨⟨τ, h1.mv h2 (fun q q0 q1 => hf q (by omega) (by omega) (by omega)), h2⟩, fun hb => ?_⟩
    rw [up_n g] at hb
    have h4 := (h3 hb).mv (w2 := w2) (fun q q0 q1 => hf q (by omega) (by omega) (by omega))
    exact h4.to (eqS.ofW h4.2.2 (fun p q0 q1 => by
      show cpN σ sv 0 (1317 * p0) 1317 (1317 * k + p) = sv (1317 * k + p)
      unfold cpN
      rw [if_neg (by omega)]))
theorem RR.save {su p0 : Int} {v ac tx rv pa bv rf : Int → Int} {pas : Int → Int → Int} (h : RR su v pas ac tx rv pa bv rf) (hp : 0 ≤ p0 ∧ p0 ≤ 1) : RR (slO su p0) v pas ac tx rv pa (up bv p0 (bz true)) rf := by
  obtain ⟨r1, r2, r3, r6, r7, r8, r9, r10, r11⟩ := h
  refine ⟨r1, r2, r3, r6, r7, r8, ?_, fun k k0 k1 => ?_, r11⟩
  · unfold slO
    (repeat' split) <;> omega
  · by_cases g : k = p0
    · right
      rw [g, up_s]
      refine ⟨rfl, ?_⟩
      unfold slbS slO
      (repeat' split) <;> omega
    · rw [up_n g]
      have e : slbS (slO su p0) k = slbS su k := by
        unfold slbS slO
        (repeat' split) <;> omega
      rw [e]
      exact r10 k k0 k1
theorem shQ_n {σ : Int → Int} (h : WF σ) (co : Int) : vf_n64 (FP.f2d (shQ σ co)) := by
  have h1 : FP.Core.fIsNaN (shQ σ co) = false := by
    unfold shQ
    split
    · decide +kernel
    · rename_i g
      have hs1 := shN_r h co
      have hm1 : 0 ≤ σ 0 * σ 4 ∧ σ 0 * σ 4 ≤ 1200 := mul_r h.1
      have h1 := i2f_all (shN σ co).toNat (by omega)
      have h2 := i2f_all (σ 0 * σ 4).toNat (by omega)
      rw [show (((shN σ co).toNat : Nat) : Int) = shN σ co by omega] at h1
      rw [show (((σ 0 * σ 4).toNat : Nat) : Int) = σ 0 * σ 4 by omega] at h2
      exact FP.Core.fdiv_out h1.1 ((FP.Core.fin_bits32 _).mpr h2.2.1) (fun z => h2.2.2 (by omega) ((FP.Core.zero_bits232 _).mp z))
  exact n64_of ((FP.f2d_nan _).trans h1)
theorem rdG_n {f : Int → Int} {k : Int} (hk : k < 14 ∨ 19 < k) (h2 : k ≠ 22 ∧ k ≠ 23) : ∀ (n : Nat) (v d : Int → Int), vI f v → (rdG f n v d).1 k = v k
  | 0, v, d, _ => rfl
  | n + 1, v, d, h => by
    by_cases g : v 18 = 0 ∧ v 16 ≠ 0
    · have e : rdG f (n + 1) v d = rdG f n (bdV f v d) (bdD f v d) := if_pos g
      rw [e, rdG_n hk h2 n _ _ (bd_I h), bd_n h.1 hk h2]
    · rw [rdG_e g]
theorem ld0_n {f v : Int → Int} {k : Int} (hk : k < 14 ∨ 19 < k) : ld0 f v k = v k := by
  unfold ld0
  rw [go_n (by omega), up_n (by omega), up_n (by omega), up_n (by omega)]
theorem rdF_n {f v d : Int → Int} {k : Int} (h : vI f v) (hk : k < 14 ∨ 19 < k) (h2 : k ≠ 22 ∧ k ≠ 23) : (rdF f v d).1 k = v k := by
  have e := (rd4_E h.1).1
  have hI : vI f (rd4 f v) := ⟨rd4_P h.1, by rw [e 22 (by omega)]; exact h.2.1, by rw [e 23 (by omega)]; exact h.2.2⟩
  exact (rdG_n hk h2 402 _ _ hI).trans (e k hk)
theorem RR.rd {su : Int} {v u ac tx rv rw9 pa bv rf : Int → Int} {pas : Int → Int → Int} (h : RR su v pas ac tx rv pa bv rf) (h5 : u 5 = v 5 ∧ u 8 = v 8 ∧ u 9 = v 9 ∧ u 31 = v 31) (h11 : u 11 = 0) (hr : rw9 6 = u 20 ∧ rw9 7 = u 21) : RR su u pas ac tx rw9 pa bv rf := by
  obtain ⟨r1, r2, ⟨r3, r4, r5⟩, r6, r7, r8, r9, r10, r11, r12⟩ := h
  obtain ⟨u5, u8, u9, u31⟩ := h5
  exact ⟨by rw [u5]; exact r1, by rw [u5]; exact r2, ⟨by rw [u8]; exact r3, by rw [u9]; exact r4, r5⟩, by rw [h11]; omega, by rw [h11]; exact fun i i0 i1 => absurd i0 (by omega), by rw [u31]; exact r8, r9, r10, hr.1, hr.2⟩
set_option maxHeartbeats 2000000 in
theorem pr_save (l : Launch) (X : Cx) (w : Wo) (y mo ao ad : Nat) (hst : l.stackTraces = false) (hST : ST X w y mo ao ad) (p0 : Int) (hp0 : -2147483648 ≤ p0 ∧ p0 < 2147483648) : CV X y mo ao ad (fun k P => CL l X yL_save cL_save 3 (some (.int)) [(0, 5, 8, 19)] (rmx 8 125) [.ref y, .int (iI p0)] w (some (.int (iI k))) P) (fun w1 Q => (∃ fs, w1 mo = some (.inr (9, fs))) ∧ CM l X yX9_save cX9_save 2 none (rmk 1 25) [.ref mo, .int (iI p0)] w1 none Q) := by
  obtain ⟨su, σ, nx, pas, ac, tx, oo, rv, d, pa, sv, bv, rf, sc, v, hX⟩ := hST
  have hX0 := hX
  obtain ⟨⟨a1, a2, a3⟩, ⟨c0, c1, c2, c3, c4, c5, c6, c7, c8, c9, c10, ⟨am, c11⟩, ⟨n0, sd0, x0, y0, co0, f0, c12⟩, c13⟩, ⟨m0, m1, m2, m3, m4, m5, m6, m7, ⟨tk, m8⟩, m9, ⟨be, m10⟩, ⟨la, m11⟩, m12⟩, ⟨r1, r2, ⟨r3, r4, r5⟩, r6, r7, r8, r9, r10, r11, r12⟩, ⟨g0, o1⟩, g1, o2⟩ := hX0
  have hwf := c1.2.2
  have hR := hX.2.2.2.1
  by_cases hb : 0 ≤ p0 ∧ p0 ≤ 1
  · have hk9 : p0.toNat ≤ 1 := by omega
    obtain ⟨⟨τ, hτ, h8τ⟩, -⟩ := c13 p0 hb.1 hb.2
    skip
    · refine ⟨0, _, .inl rfl, hk_save l X w y p0 _ _ c0 (c_X8_save l X w y su σ τ p0 c0 c1 r9 hb hτ h8τ), fun w1 hP => ?_⟩
      obtain ⟨e0c, es, hn0⟩ := hP
      have hn : ∀ q : Nat, q ≠ ao → w1 q = w1 q := fun _ _ => rfl
      obtain ⟨w0, hw0⟩ : ∃ w0, w0 = w1 := ⟨_, rfl⟩
      subst hw0
      have hg := (hn0 ao (by omega) (by omega)).trans o1
      have hC0 : PC X w0 y (slO su p0) σ nx (v 5) pas ac (v 11) tx (v 31) oo rv (cpN σ sv 0 (1317 * p0) 1317) (up bv p0 (bz true)) := ⟨e0c, c1.mv (fun q q0 q1 => hn0 q (by omega) (by omega)), c2.mv (fun q q0 q1 => hn0 q (by omega) (by omega)), (hn0 _ (by omega) (by omega)).trans c3, (hn0 _ (by omega) (by omega)).trans c4, (hn0 _ (by omega) (by omega)).trans c5, (hn0 _ (by omega) (by omega)).trans c6, (hn0 _ (by omega) (by omega)).trans c7, (hn0 _ (by omega) (by omega)).trans c8, c9.mv (fun q q0 q1 q2 => hn0 q (by omega) (by omega)), c10.mv (fun q q0 q1 => hn0 q (by omega) (by omega)), ⟨am, (hn0 _ (by omega) (by omega)).trans c11⟩, ⟨n0, sd0, x0, y0, co0, f0, c12.mv (hn0 _ (by omega) (by omega)) (hn0 _ (by omega) (by omega))⟩, c13.save hb es (fun q q0 q1 q2 => hn0 q (by omega) q2)⟩
      have hM1 : PM X w0 mo v σ d pa sv bv rf tx oo sc := hX.2.2.1.mv (fun q q0 q1 => (hn q (by omega)).trans (hn0 q (by omega) (by omega)))
      obtain ⟨k0, k1, k2, k3, k4, k5, k6, k7, ⟨tk, k8⟩, k9, ⟨be, k10⟩, ⟨la, k11⟩, k12⟩ := hM1
      refine ⟨⟨_, k0⟩, (c_X9_save l X w0 mo v σ sv bv p0 k0 k1 hwf k4 k5 hb).imp (fun w2 h2 => ?_)⟩
      obtain ⟨e0, u4, u5, hf⟩ := h2
      have hC2 := hC0.mv (w2 := w2) (fun q q0 q1 => (hf q (by omega) (by omega) (by omega)).trans (hn q (by omega)))
      have og := (hf ao (by omega) (by omega) (by omega)).trans hg
      have od := (hf ad (by omega) (by omega) (by omega)).trans ((hn ad (by omega)).trans ((hn0 ad (by omega) (by omega)).trans o2))
      exact ⟨⟨(slO su p0), σ, nx, pas, ac, tx, oo, rv, d, pa, (cpN σ sv 0 (1317 * p0) 1317), (up bv p0 (bz true)), rf, sc, (up v 6 0), ⟨a1, a2, a3⟩, hC2, ⟨e0, (hf _ (by omega) (by omega) (by omega)).trans k1, (hf _ (by omega) (by omega) (by omega)).trans k2, (hf _ (by omega) (by omega) (by omega)).trans k3, u4, u5, (hf _ (by omega) (by omega) (by omega)).trans k6, (hf _ (by omega) (by omega) (by omega)).trans k7, ⟨tk, (hf _ (by omega) (by omega) (by omega)).trans k8⟩, (hf _ (by omega) (by omega) (by omega)).trans k9, ⟨be, (hf _ (by omega) (by omega) (by omega)).trans k10⟩, ⟨la, (hf _ (by omega) (by omega) (by omega)).trans k11⟩, (hf _ (by omega) (by omega) (by omega)).trans k12⟩, (RR.save hR hb).cg ⟨rfl, rfl, rfl, rfl, rfl, rfl, rfl⟩, ⟨⟨_, og⟩, g1, od⟩⟩, ⟨_, e0, rfl⟩⟩
  · refine ⟨1, _, .inr (.inl rfl), ht_save_1 l X w y p0 _ _ c0 (x_X8_save l X w y su σ p0 hst c0 c1 hp0 (by omega)), fun w1 hP => ?_⟩
    obtain rfl : w1 = w := hP
    have k0 := m0
    have k5 := m5
    have k4 := m4
    have k1 := m1
    refine ⟨⟨_, k0⟩, (c_X9_save_x l X w1 mo v σ p0 k0 k1 hwf hp0 hb).imp (fun w2 h2 => ?_)⟩
    obtain ⟨e0, hf⟩ := h2
    exact ⟨hX.read e0 ⟨rfl, rfl, rfl, rfl, rfl, rfl, rfl⟩ (fun q q0 q1 q2 q3 q4 => hf q q0) ⟨⟨g0, (hf _ (by omega)).trans o1⟩, g1, (hf _ (by omega)).trans o2⟩ ⟨n0, sd0, x0, y0, co0, f0, c12.mv (hf _ (by omega)) (hf _ (by omega))⟩ ⟨am, (hf _ (by omega)).trans c11⟩, ⟨_, e0, rfl⟩⟩
set_option maxHeartbeats 2000000 in
theorem pr_restore (l : Launch) (X : Cx) (w : Wo) (y mo ao ad : Nat) (hst : l.stackTraces = false) (hST : ST X w y mo ao ad) (p0 : Int) (hp0 : -2147483648 ≤ p0 ∧ p0 < 2147483648) : CV X y mo ao ad (fun k P => CL l X yL_restore cL_restore 3 (some (.int)) [(0, 5, 8, 19), (0, 5, 11, 13)] (rmx 8 125) [.ref y, .int (iI p0)] w (some (.int (iI k))) P) (fun w1 Q => (∃ fs, w1 mo = some (.inr (9, fs))) ∧ CM l X yX9_restore cX9_restore 3 none (rmk 1 25) [.ref mo, .int (iI p0)] w1 none Q) := by
  obtain ⟨su, σ, nx, pas, ac, tx, oo, rv, d, pa, sv, bv, rf, sc, v, hX⟩ := hST
  have hX0 := hX
  obtain ⟨⟨a1, a2, a3⟩, ⟨c0, c1, c2, c3, c4, c5, c6, c7, c8, c9, c10, ⟨am, c11⟩, ⟨n0, sd0, x0, y0, co0, f0, c12⟩, c13⟩, ⟨m0, m1, m2, m3, m4, m5, m6, m7, ⟨tk, m8⟩, m9, ⟨be, m10⟩, ⟨la, m11⟩, m12⟩, ⟨r1, r2, ⟨r3, r4, r5⟩, r6, r7, r8, r9, r10, r11, r12⟩, ⟨g0, o1⟩, g1, o2⟩ := hX0
  have hwf := c1.2.2
  have hR := hX.2.2.2.1
  by_cases hb : 0 ≤ p0 ∧ p0 ≤ 1
  · have hk9 : p0.toNat ≤ 1 := by omega
    have hsv := (c13 p0 hb.1 hb.2).2
    rcases r10 p0 hb.1 hb.2 with ⟨hb0, hs0⟩ | ⟨hb1, hs1⟩
    · refine ⟨2, _, .inr (.inr rfl), ht_restore_2 l X w y p0 _ _ c0 (x2_restore l X w y su σ p0 hst c0 c1 r9 hb hs0), fun w1 hP => ?_⟩
      obtain rfl : w1 = w := hP
      have k0 := m0
      have k5 := m5
      have k4 := m4
      have k1 := m1
      refine ⟨⟨_, k0⟩, (c_X9_restore_x2 l X w1 mo v σ sv bv p0 k0 k1 hwf k4 k5 hb hb0).imp (fun w2 h2 => ?_)⟩
      obtain ⟨e0, hf⟩ := h2
      exact ⟨hX.read e0 ⟨rfl, rfl, rfl, rfl, rfl, rfl, rfl⟩ (fun q q0 q1 q2 q3 q4 => hf q q0) ⟨⟨g0, (hf _ (by omega)).trans o1⟩, g1, (hf _ (by omega)).trans o2⟩ ⟨n0, sd0, x0, y0, co0, f0, c12.mv (hf _ (by omega)) (hf _ (by omega))⟩ ⟨am, (hf _ (by omega)).trans c11⟩, ⟨_, e0, rfl⟩⟩
    · refine ⟨0, _, .inl rfl, hk_restore l X w y p0 _ _ c0 (c_X8_restore l X w y su σ (fun p => sv (1317 * p0 + p)) nx (v 5) pas pas p0 c0 c1 c2 r9 hb (hsv hb1) hs1), fun w1 hP => ?_⟩
      obtain ⟨e2, e1, hn0⟩ := hP
      have hn : ∀ q : Nat, q ≠ ao → w1 q = w1 q := fun _ _ => rfl
      obtain ⟨w0, hw0⟩ : ∃ w0, w0 = w1 := ⟨_, rfl⟩
      subst hw0
      have hg := (hn0 ao (by omega) (by omega)).trans o1
      have hC0 : PC X w0 y su (cpN sv σ (1317 * p0) 0 1317) nx 0 pas ac (v 11) tx (v 31) oo rv sv bv := ⟨(hn0 _ (by omega) (by omega)).trans c0, e1.to (eqS.ofW e1.2.2 (fun p q0 q1 => cpN_at ⟨q0, q1⟩)), e2, (hn0 _ (by omega) (by omega)).trans c3, (hn0 _ (by omega) (by omega)).trans c4, (hn0 _ (by omega) (by omega)).trans c5, (hn0 _ (by omega) (by omega)).trans c6, (hn0 _ (by omega) (by omega)).trans c7, (hn0 _ (by omega) (by omega)).trans c8, c9.mv (fun q q0 q1 q2 => hn0 q (by omega) (by omega)), c10.mv (fun q q0 q1 => hn0 q (by omega) (by omega)), ⟨am, (hn0 _ (by omega) (by omega)).trans c11⟩, ⟨n0, sd0, x0, y0, co0, f0, c12.mv (hn0 _ (by omega) (by omega)) (hn0 _ (by omega) (by omega))⟩, c13.mv (fun q q0 q1 => hn0 q (by omega) (by omega))⟩
      have hM1 : PM X w0 mo v σ d pa sv bv rf tx oo sc := hX.2.2.1.mv (fun q q0 q1 => (hn q (by omega)).trans (hn0 q (by omega) (by omega)))
      obtain ⟨k0, k1, k2, k3, k4, k5, k6, k7, ⟨tk, k8⟩, k9, ⟨be, k10⟩, ⟨la, k11⟩, k12⟩ := hM1
      refine ⟨⟨_, k0⟩, (c_X9_restore l X w0 mo v σ sv bv p0 k0 k1 hwf k4 k5 hb hb1).imp (fun w2 h2 => ?_)⟩
      obtain ⟨e0, u1, hf⟩ := h2
      have hC2 := hC0.mv (w2 := w2) (fun q q0 q1 => (hf q (by omega) (by omega)).trans (hn q (by omega)))
      have og := (hf ao (by omega) (by omega)).trans hg
      have od := (hf ad (by omega) (by omega)).trans ((hn ad (by omega)).trans ((hn0 ad (by omega) (by omega)).trans o2))
      exact ⟨⟨su, (cpN sv σ (1317 * p0) 0 1317), nx, pas, ac, tx, oo, rv, d, pa, sv, bv, rf, sc, (up (up v 6 0) 5 0), ⟨a1, a2, a3⟩, hC2, ⟨e0, u1, (hf _ (by omega) (by omega)).trans k2, (hf _ (by omega) (by omega)).trans k3, (hf _ (by omega) (by omega)).trans k4, (hf _ (by omega) (by omega)).trans k5, (hf _ (by omega) (by omega)).trans k6, (hf _ (by omega) (by omega)).trans k7, ⟨tk, (hf _ (by omega) (by omega)).trans k8⟩, (hf _ (by omega) (by omega)).trans k9, ⟨be, (hf _ (by omega) (by omega)).trans k10⟩, ⟨la, (hf _ (by omega) (by omega)).trans k11⟩, (hf _ (by omega) (by omega)).trans k12⟩, (RR.und (n := 0) hR (by omega) (fun i i0 i1 => absurd i0 (by omega))).cg ⟨rfl, rfl, rfl, rfl, rfl, rfl, rfl⟩, ⟨⟨_, og⟩, g1, od⟩⟩, ⟨_, e0, rfl⟩⟩
  · refine ⟨1, _, .inr (.inl rfl), ht_restore_1 l X w y p0 _ _ c0 (x1_restore l X w y su σ p0 hst c0 c1 hp0 (by omega)), fun w1 hP => ?_⟩
    obtain rfl : w1 = w := hP
    have k0 := m0
    have k5 := m5
    have k4 := m4
    have k1 := m1
    refine ⟨⟨_, k0⟩, (c_X9_restore_x1 l X w1 mo v σ p0 k0 k1 hwf hp0 hb).imp (fun w2 h2 => ?_)⟩
    obtain ⟨e0, hf⟩ := h2
    exact ⟨hX.read e0 ⟨rfl, rfl, rfl, rfl, rfl, rfl, rfl⟩ (fun q q0 q1 q2 q3 q4 => hf q q0) ⟨⟨g0, (hf _ (by omega)).trans o1⟩, g1, (hf _ (by omega)).trans o2⟩ ⟨n0, sd0, x0, y0, co0, f0, c12.mv (hf _ (by omega)) (hf _ (by omega))⟩ ⟨am, (hf _ (by omega)).trans c11⟩, ⟨_, e0, rfl⟩⟩
set_option maxHeartbeats 2000000 in
theorem pr_share (l : Launch) (X : Cx) (w : Wo) (y mo ao ad : Nat) (hst : l.stackTraces = false) (hST : ST X w y mo ao ad) (p0 : Int) (hp0 : -2147483648 ≤ p0 ∧ p0 < 2147483648) : CS X y mo ao ad (fun k P => CL l X yL_share cL_share 4 (some (.int)) [(0, 9, 12, 28)] (rmx 8 126) [.ref y, .int (iI p0), .ref ad] w (some (.int (iI k))) P) (fun w1 b Q => (∃ fs, w1 mo = some (.inr (9, fs))) ∧ CM l X yX9_share cX9_share 3 (some (.float)) (rmk 4 96) [.ref mo, .int (iI p0)] w1 (some (.float b)) Q) := by
  obtain ⟨su, σ, nx, pas, ac, tx, oo, rv, d, pa, sv, bv, rf, sc, v, hX⟩ := hST
  have hX0 := hX
  obtain ⟨⟨a1, a2, a3⟩, ⟨c0, c1, c2, c3, c4, c5, c6, c7, c8, c9, c10, ⟨am, c11⟩, ⟨n0, sd0, x0, y0, co0, f0, c12⟩, c13⟩, ⟨m0, m1, m2, m3, m4, m5, m6, m7, ⟨tk, m8⟩, m9, ⟨be, m10⟩, ⟨la, m11⟩, m12⟩, ⟨r1, r2, ⟨r3, r4, r5⟩, r6, r7, r8, r9, r10, r11, r12⟩, ⟨g0, o1⟩, g1, o2⟩ := hX0
  have hwf := c1.2.2
  have hR := hX.2.2.2.1
  by_cases hb : 0 ≤ p0 ∧ p0 < 7
  · have hne := shQ_n hwf p0
    refine ⟨0, (shQ σ p0), _, .inl rfl, hk_share l X w y ad p0 _ _ c0 _ (c_X8_share l X w y su σ p0 c0 c1 hb) hne (fun w' h => ⟨g1, by rw [h]; exact o2⟩), fun w1 hP => ?_⟩
    obtain ⟨w0, rfl, ⟨g, hg, hgv⟩, hn⟩ := hP
    have k0 := (hn _ (by omega)).trans m0
    have k1 := (hn _ (by omega)).trans m1
    have k6 := (hn _ (by omega)).trans m6
    refine ⟨⟨_, k0⟩, (c_X9_share l X w1 mo v σ p0 k0 k1 hwf (by omega)).imp (fun w2 h2 => ?_)⟩
    obtain ⟨e0, hf⟩ := h2
    exact ⟨hX.read e0 ⟨rfl, rfl, rfl, rfl, rfl, rfl, rfl⟩ (fun q q0 q1 q2 q3 q4 => (hf q q0).trans (hn q q2)) ⟨⟨g0, (hf _ (by omega)).trans ((hn _ (by omega)).trans o1)⟩, g, (hf _ (by omega)).trans hg⟩ ⟨n0, sd0, x0, y0, co0, f0, c12.mv ((hf _ (by omega)).trans (hn _ (by omega))) ((hf _ (by omega)).trans (hn _ (by omega)))⟩ ⟨am, (hf _ (by omega)).trans ((hn _ (by omega)).trans c11)⟩, ⟨_, e0, rfl⟩, fun _ => ⟨hne, g, (hf _ (by omega)).trans hg, hgv⟩⟩
  · refine ⟨1, FP.fconst0, _, .inr (.inl rfl), ht_share_1 l X w y ad p0 _ _ c0 (x_X8_share l X w y su σ p0 hst c0 c1 hp0 hb), fun w1 hP => ?_⟩
    obtain rfl : w1 = w := hP
    have k0 := m0
    have k1 := m1
    refine ⟨⟨_, k0⟩, (c_X9_share_x l X w1 mo v σ p0 k0 k1 hwf hp0 (by omega)).imp (fun w2 h2 => ?_)⟩
    obtain ⟨e0, hf⟩ := h2
    exact ⟨hX.read e0 ⟨rfl, rfl, rfl, rfl, rfl, rfl, rfl⟩ (fun q q0 q1 q2 q3 q4 => hf q q0) ⟨⟨g0, (hf _ (by omega)).trans o1⟩, g1, (hf _ (by omega)).trans o2⟩ ⟨n0, sd0, x0, y0, co0, f0, c12.mv (hf _ (by omega)) (hf _ (by omega))⟩ ⟨am, (hf _ (by omega)).trans c11⟩, ⟨_, e0, rfl⟩, fun z => absurd z (by decide)⟩
set_option maxHeartbeats 2000000 in
theorem pr_errorCode (l : Launch) (X : Cx) (w : Wo) (y mo ao ad : Nat) (hST : ST X w y mo ao ad) : CB X y mo ao ad (fun b P => CM l X yX8_errorCode cX8_errorCode 1 (some (.int)) (rmk 0 0) [.ref y] w (some (.int (iI b))) P) (fun w1 b Q => (∃ fs, w1 mo = some (.inr (9, fs))) ∧ CM l X yX9_errorCode cX9_errorCode 1 (some (.int)) (rmk 0 0) [.ref mo] w1 (some (.int (iI b))) Q) := by
  obtain ⟨su, σ, nx, pas, ac, tx, oo, rv, d, pa, sv, bv, rf, sc, v, hX⟩ := hST
  have hX0 := hX
  obtain ⟨⟨a1, a2, a3⟩, ⟨c0, c1, c2, c3, c4, c5, c6, c7, c8, c9, c10, ⟨am, c11⟩, ⟨n0, sd0, x0, y0, co0, f0, c12⟩, c13⟩, ⟨m0, m1, m2, m3, m4, m5, m6, m7, ⟨tk, m8⟩, m9, ⟨be, m10⟩, ⟨la, m11⟩, m12⟩, ⟨r1, r2, ⟨r3, r4, r5⟩, r6, r7, r8, r9, r10, r11, r12⟩, ⟨g0, o1⟩, g1, o2⟩ := hX0
  have hwf := c1.2.2
  have hR := hX.2.2.2.1
  refine ⟨(v 20), _, (by rw [← r11]; exact c_X8_errorCode l X w y su (rv 1) (rv 2) (rv 3) (rv 4) (rv 5) (rv 6) (rv 7) c0 c8), fun w1 hP => ?_⟩
  obtain rfl : w1 = w := hP
  refine ⟨⟨_, m0⟩, (c_X9_errorCode l X w1 mo v m0).imp (fun w2 h2 => ?_)⟩
  obtain ⟨e0, hf⟩ := h2
  exact hX.read e0 ⟨rfl, rfl, rfl, rfl, rfl, rfl, rfl⟩ (fun q q0 q1 q2 q3 q4 => hf q q0) ⟨⟨g0, (hf _ (by omega)).trans o1⟩, g1, (hf _ (by omega)).trans o2⟩ ⟨n0, sd0, x0, y0, co0, f0, c12.mv (hf _ (by omega)) (hf _ (by omega))⟩ ⟨am, (hf _ (by omega)).trans c11⟩
set_option maxHeartbeats 2000000 in
theorem pr_errorPosition (l : Launch) (X : Cx) (w : Wo) (y mo ao ad : Nat) (hST : ST X w y mo ao ad) : CB X y mo ao ad (fun b P => CM l X yX8_errorPosition cX8_errorPosition 1 (some (.int)) (rmk 0 0) [.ref y] w (some (.int (iI b))) P) (fun w1 b Q => (∃ fs, w1 mo = some (.inr (9, fs))) ∧ CM l X yX9_errorPosition cX9_errorPosition 1 (some (.int)) (rmk 0 0) [.ref mo] w1 (some (.int (iI b))) Q) := by
  obtain ⟨su, σ, nx, pas, ac, tx, oo, rv, d, pa, sv, bv, rf, sc, v, hX⟩ := hST
  have hX0 := hX
  obtain ⟨⟨a1, a2, a3⟩, ⟨c0, c1, c2, c3, c4, c5, c6, c7, c8, c9, c10, ⟨am, c11⟩, ⟨n0, sd0, x0, y0, co0, f0, c12⟩, c13⟩, ⟨m0, m1, m2, m3, m4, m5, m6, m7, ⟨tk, m8⟩, m9, ⟨be, m10⟩, ⟨la, m11⟩, m12⟩, ⟨r1, r2, ⟨r3, r4, r5⟩, r6, r7, r8, r9, r10, r11, r12⟩, ⟨g0, o1⟩, g1, o2⟩ := hX0
  have hwf := c1.2.2
  have hR := hX.2.2.2.1
  refine ⟨(v 21), _, (by rw [← r12]; exact c_X8_errorPosition l X w y su (rv 1) (rv 2) (rv 3) (rv 4) (rv 5) (rv 6) (rv 7) c0 c8), fun w1 hP => ?_⟩
  obtain rfl : w1 = w := hP
  refine ⟨⟨_, m0⟩, (c_X9_errorPosition l X w1 mo v m0).imp (fun w2 h2 => ?_)⟩
  obtain ⟨e0, hf⟩ := h2
  exact hX.read e0 ⟨rfl, rfl, rfl, rfl, rfl, rfl, rfl⟩ (fun q q0 q1 q2 q3 q4 => hf q q0) ⟨⟨g0, (hf _ (by omega)).trans o1⟩, g1, (hf _ (by omega)).trans o2⟩ ⟨n0, sd0, x0, y0, co0, f0, c12.mv (hf _ (by omega)) (hf _ (by omega))⟩ ⟨am, (hf _ (by omega)).trans c11⟩
set_option maxHeartbeats 2000000 in
theorem pr_fits (l : Launch) (X : Cx) (w : Wo) (y mo ao ad : Nat) (hST : ST X w y mo ao ad) : CB X y mo ao ad (fun b P => CM l X yX8_fits cX8_fits 3 (some (.boolean)) (rmk 5 116) [.ref y] w (some (.int (iI b))) P) (fun w1 b Q => (∃ fs, w1 mo = some (.inr (9, fs))) ∧ CM l X yX9_fits cX9_fits 3 (some (.boolean)) (rmk 5 122) [.ref mo] w1 (some (.int (iI b))) Q) := by
  obtain ⟨su, σ, nx, pas, ac, tx, oo, rv, d, pa, sv, bv, rf, sc, v, hX⟩ := hST
  have hX0 := hX
  obtain ⟨⟨a1, a2, a3⟩, ⟨c0, c1, c2, c3, c4, c5, c6, c7, c8, c9, c10, ⟨am, c11⟩, ⟨n0, sd0, x0, y0, co0, f0, c12⟩, c13⟩, ⟨m0, m1, m2, m3, m4, m5, m6, m7, ⟨tk, m8⟩, m9, ⟨be, m10⟩, ⟨la, m11⟩, m12⟩, ⟨r1, r2, ⟨r3, r4, r5⟩, r6, r7, r8, r9, r10, r11, r12⟩, ⟨g0, o1⟩, g1, o2⟩ := hX0
  have hwf := c1.2.2
  have hR := hX.2.2.2.1
  refine ⟨(bz (fitQ σ)), _, (c_X8_fits l X w y su σ c0 c1), fun w1 hP => ?_⟩
  obtain rfl : w1 = w := hP
  refine ⟨⟨_, m0⟩, (c_X9_fits l X w1 mo v σ m0 m1 hwf).imp (fun w2 h2 => ?_)⟩
  obtain ⟨e0, hf⟩ := h2
  exact hX.read e0 ⟨rfl, rfl, rfl, rfl, rfl, rfl, rfl⟩ (fun q q0 q1 q2 q3 q4 => hf q q0) ⟨⟨g0, (hf _ (by omega)).trans o1⟩, g1, (hf _ (by omega)).trans o2⟩ ⟨n0, sd0, x0, y0, co0, f0, c12.mv (hf _ (by omega)) (hf _ (by omega))⟩ ⟨am, (hf _ (by omega)).trans c11⟩
set_option maxHeartbeats 2000000 in
theorem pr_longestSlit (l : Launch) (X : Cx) (w : Wo) (y mo ao ad : Nat) (hST : ST X w y mo ao ad) : CB X y mo ao ad (fun b P => CM l X yX8_longestSlit cX8_longestSlit 2 (some (.int)) (rmk 4 92) [.ref y] w (some (.int (iI b))) P) (fun w1 b Q => (∃ fs, w1 mo = some (.inr (9, fs))) ∧ CM l X yX9_longestSlit cX9_longestSlit 2 (some (.int)) (rmk 3 68) [.ref mo] w1 (some (.int (iI b))) Q) := by
  obtain ⟨su, σ, nx, pas, ac, tx, oo, rv, d, pa, sv, bv, rf, sc, v, hX⟩ := hST
  have hX0 := hX
  obtain ⟨⟨a1, a2, a3⟩, ⟨c0, c1, c2, c3, c4, c5, c6, c7, c8, c9, c10, ⟨am, c11⟩, ⟨n0, sd0, x0, y0, co0, f0, c12⟩, c13⟩, ⟨m0, m1, m2, m3, m4, m5, m6, m7, ⟨tk, m8⟩, m9, ⟨be, m10⟩, ⟨la, m11⟩, m12⟩, ⟨r1, r2, ⟨r3, r4, r5⟩, r6, r7, r8, r9, r10, r11, r12⟩, ⟨g0, o1⟩, g1, o2⟩ := hX0
  have hwf := c1.2.2
  have hR := hX.2.2.2.1
  refine ⟨(if slQ σ 2 = 0 then 0 else lgQ σ), _, (c_X8_longestSlit l X w y su σ c0 c1), fun w1 hP => ?_⟩
  obtain rfl : w1 = w := hP
  refine ⟨⟨_, m0⟩, (c_X9_longestSlit l X w1 mo v σ m0 m1 hwf).imp (fun w2 h2 => ?_)⟩
  obtain ⟨e0, hf⟩ := h2
  exact hX.read e0 ⟨rfl, rfl, rfl, rfl, rfl, rfl, rfl⟩ (fun q q0 q1 q2 q3 q4 => hf q q0) ⟨⟨g0, (hf _ (by omega)).trans o1⟩, g1, (hf _ (by omega)).trans o2⟩ ⟨n0, sd0, x0, y0, co0, f0, c12.mv (hf _ (by omega)) (hf _ (by omega))⟩ ⟨am, (hf _ (by omega)).trans c11⟩
set_option maxHeartbeats 2000000 in
theorem pr_output (l : Launch) (X : Cx) (w : Wo) (y mo ao ad : Nat) (hST : ST X w y mo ao ad) (p0 : Int) (hp0 : -2147483648 ≤ p0 ∧ p0 < 2147483648) : CB X y mo ao ad (fun b P => CM l X yX8_output cX8_output 2 (some (.int)) (rmk 1 21) [.ref y, .int (iI p0)] w (some (.int (iI b))) P) (fun w1 b Q => (∃ fs, w1 mo = some (.inr (9, fs))) ∧ CM l X yX9_output cX9_output 2 (some (.int)) (rmk 1 25) [.ref mo, .int (iI p0)] w1 (some (.int (iI b))) Q) := by
  obtain ⟨su, σ, nx, pas, ac, tx, oo, rv, d, pa, sv, bv, rf, sc, v, hX⟩ := hST
  have hX0 := hX
  obtain ⟨⟨a1, a2, a3⟩, ⟨c0, c1, c2, c3, c4, c5, c6, c7, c8, c9, c10, ⟨am, c11⟩, ⟨n0, sd0, x0, y0, co0, f0, c12⟩, c13⟩, ⟨m0, m1, m2, m3, m4, m5, m6, m7, ⟨tk, m8⟩, m9, ⟨be, m10⟩, ⟨la, m11⟩, m12⟩, ⟨r1, r2, ⟨r3, r4, r5⟩, r6, r7, r8, r9, r10, r11, r12⟩, ⟨g0, o1⟩, g1, o2⟩ := hX0
  have hwf := c1.2.2
  have hR := hX.2.2.2.1
  refine ⟨(byS oo (v 31) p0), _, (c_X8_output l X w y su (v 31) oo p0 c0 c6 c7 r8 hp0), fun w1 hP => ?_⟩
  obtain rfl : w1 = w := hP
  refine ⟨⟨_, m0⟩, (c_X9_output l X w1 mo v oo p0 m0 m12 r8 hp0).imp (fun w2 h2 => ?_)⟩
  obtain ⟨e0, hf⟩ := h2
  exact hX.read e0 ⟨rfl, rfl, rfl, rfl, rfl, rfl, rfl⟩ (fun q q0 q1 q2 q3 q4 => hf q q0) ⟨⟨g0, (hf _ (by omega)).trans o1⟩, g1, (hf _ (by omega)).trans o2⟩ ⟨n0, sd0, x0, y0, co0, f0, c12.mv (hf _ (by omega)) (hf _ (by omega))⟩ ⟨am, (hf _ (by omega)).trans c11⟩
theorem mjQ_n {σ : Int → Int} (h : WF σ) : vf_n64 (mjQ σ) := by
  unfold mjQ
  split
  · exact n64_of (by decide +kernel)
  · rename_i g
    have hF := h.1
    unfold WF0 at hF
    have hs := sm_r (f := jcS σ) (lo := 0) (hi := σ 4) (M := 40) (by decide) (fun i _ _ => by have := jcS_r h.1 i; omega) (by omega)
    exact ddiv_ok (by omega) (by omega)
set_option maxHeartbeats 2000000 in
theorem pr_meanJoins (l : Launch) (X : Cx) (w : Wo) (y mo ao ad : Nat) (hST : ST X w y mo ao ad) : CD X y mo ao ad (fun b P => CM l X yX8_meanJoins cX8_meanJoins 3 (some (.double)) (rmk 4 92) [.ref y] w (some (.double b)) P) (fun w1 b Q => (∃ fs, w1 mo = some (.inr (9, fs))) ∧ CM l X yX9_meanJoins cX9_meanJoins 3 (some (.double)) (rmk 3 66) [.ref mo] w1 (some (.double b)) Q) := by
  obtain ⟨su, σ, nx, pas, ac, tx, oo, rv, d, pa, sv, bv, rf, sc, v, hX⟩ := hST
  have hX0 := hX
  obtain ⟨⟨a1, a2, a3⟩, ⟨c0, c1, c2, c3, c4, c5, c6, c7, c8, c9, c10, ⟨am, c11⟩, ⟨n0, sd0, x0, y0, co0, f0, c12⟩, c13⟩, ⟨m0, m1, m2, m3, m4, m5, m6, m7, ⟨tk, m8⟩, m9, ⟨be, m10⟩, ⟨la, m11⟩, m12⟩, ⟨r1, r2, ⟨r3, r4, r5⟩, r6, r7, r8, r9, r10, r11, r12⟩, ⟨g0, o1⟩, g1, o2⟩ := hX0
  have hwf := c1.2.2
  have hR := hX.2.2.2.1
  refine ⟨(mjQ σ), _, mjQ_n hwf, (c_X8_meanJoins l X w y su σ c0 c1), fun w1 hP => ?_⟩
  obtain rfl : w1 = w := hP
  refine ⟨⟨_, m0⟩, (c_X9_meanJoins l X w1 mo v σ m0 m1 hwf).imp (fun w2 h2 => ?_)⟩
  obtain ⟨e0, hf⟩ := h2
  exact hX.read e0 ⟨rfl, rfl, rfl, rfl, rfl, rfl, rfl⟩ (fun q q0 q1 q2 q3 q4 => hf q q0) ⟨⟨g0, (hf _ (by omega)).trans o1⟩, g1, (hf _ (by omega)).trans o2⟩ ⟨n0, sd0, x0, y0, co0, f0, c12.mv (hf _ (by omega)) (hf _ (by omega))⟩ ⟨am, (hf _ (by omega)).trans c11⟩
set_option maxHeartbeats 2000000 in
theorem pr_lasts (l : Launch) (X : Cx) (w : Wo) (y mo ao ad : Nat) (hST : ST X w y mo ao ad) : CB X y mo ao ad (fun b P => CM l X yX8_lasts cX8_lasts 3 (some (.int)) (rmk 4 94) [.ref y] w (some (.int (iI b))) P) (fun w1 b Q => (∃ fs, w1 mo = some (.inr (9, fs))) ∧ CM l X yX9_lasts cX9_lasts 2 (some (.int)) (rmk 6 144) [.ref mo] w1 (some (.int (iI b))) Q) := by
  obtain ⟨su, σ, nx, pas, ac, tx, oo, rv, d, pa, sv, bv, rf, sc, v, hX⟩ := hST
  have hX0 := hX
  obtain ⟨⟨a1, a2, a3⟩, ⟨c0, c1, c2, c3, c4, c5, c6, c7, c8, c9, c10, ⟨am, c11⟩, ⟨n0, sd0, x0, y0, co0, f0, c12⟩, c13⟩, ⟨m0, m1, m2, m3, m4, m5, m6, m7, ⟨tk, m8⟩, m9, ⟨be, m10⟩, ⟨la, m11⟩, m12⟩, ⟨r1, r2, ⟨r3, r4, r5⟩, r6, r7, r8, r9, r10, r11, r12⟩, ⟨g0, o1⟩, g1, o2⟩ := hX0
  have hwf := c1.2.2
  have hR := hX.2.2.2.1
  · refine ⟨(fi (lastsP σ) 0 (σ 1 - σ 4)), _, (c_X8_lasts l X w y su σ am c0 c1 c11), fun w1 hP => ?_⟩
    obtain ⟨e11, hn0⟩ := hP
    have hn : ∀ q : Nat, q ≠ ao → w1 q = w1 q := fun _ _ => rfl
    obtain ⟨w0, hw0⟩ : ∃ w0, w0 = w1 := ⟨_, rfl⟩
    subst hw0
    have hg := (hn0 ao (by omega)).trans o1
    have hC0 : PC X w0 y su σ nx (v 5) pas ac (v 11) tx (v 31) oo rv sv bv := ⟨(hn0 _ (by omega)).trans c0, c1.mv (fun q q0 q1 => hn0 q (by omega)), c2.mv (fun q q0 q1 => hn0 q (by omega)), (hn0 _ (by omega)).trans c3, (hn0 _ (by omega)).trans c4, (hn0 _ (by omega)).trans c5, (hn0 _ (by omega)).trans c6, (hn0 _ (by omega)).trans c7, (hn0 _ (by omega)).trans c8, c9.mv (fun q q0 q1 q2 => hn0 q (by omega)), c10.mv (fun q q0 q1 => hn0 q (by omega)), e11, ⟨n0, sd0, x0, y0, co0, f0, c12.mv (hn0 _ (by omega)) (hn0 _ (by omega))⟩, c13.mv (fun q q0 q1 => hn0 q (by omega))⟩
    have hM1 : PM X w0 mo v σ d pa sv bv rf tx oo sc := hX.2.2.1.mv (fun q q0 q1 => (hn q (by omega)).trans (hn0 q (by omega)))
    obtain ⟨k0, k1, k2, k3, k4, k5, k6, k7, ⟨tk, k8⟩, k9, ⟨be, k10⟩, ⟨la, k11⟩, k12⟩ := hM1
    refine ⟨⟨_, k0⟩, (c_X9_lasts l X w0 mo v σ k0 k1 hwf).imp (fun w2 h2 => ?_)⟩
    obtain ⟨e0, hf⟩ := h2
    have hC2 := hC0.mv (w2 := w2) (fun q q0 q1 => (hf q (by omega)).trans (hn q (by omega)))
    have og := (hf ao (by omega)).trans hg
    have od := (hf ad (by omega)).trans ((hn ad (by omega)).trans ((hn0 ad (by omega)).trans o2))
    exact ⟨su, σ, nx, pas, ac, tx, oo, rv, d, pa, sv, bv, rf, sc, (up v 6 0), ⟨a1, a2, a3⟩, hC2, ⟨e0, (hf _ (by omega)).trans k1, (hf _ (by omega)).trans k2, (hf _ (by omega)).trans k3, (hf _ (by omega)).trans k4, (hf _ (by omega)).trans k5, (hf _ (by omega)).trans k6, (hf _ (by omega)).trans k7, ⟨tk, (hf _ (by omega)).trans k8⟩, (hf _ (by omega)).trans k9, ⟨be, (hf _ (by omega)).trans k10⟩, ⟨la, (hf _ (by omega)).trans k11⟩, (hf _ (by omega)).trans k12⟩, hR.cg ⟨rfl, rfl, rfl, rfl, rfl, rfl, rfl⟩, ⟨⟨_, og⟩, g1, od⟩⟩
set_option maxHeartbeats 2000000 in
theorem pr_beat (l : Launch) (X : Cx) (w : Wo) (y mo ao ad : Nat) (hST : ST X w y mo ao ad) : CB X y mo ao ad (fun b P => CM l X yX8_beat cX8_beat 1 (some (.int)) (rmk 6 150) [.ref y] w (some (.int (iI b))) P) (fun w1 b Q => (∃ fs, w1 mo = some (.inr (9, fs))) ∧ CM l X yX9_beat cX9_beat 3 (some (.int)) (rmk 6 136) [.ref mo] w1 (some (.int (iI b))) Q) := by
  obtain ⟨su, σ, nx, pas, ac, tx, oo, rv, d, pa, sv, bv, rf, sc, v, hX⟩ := hST
  have hX0 := hX
  obtain ⟨⟨a1, a2, a3⟩, ⟨c0, c1, c2, c3, c4, c5, c6, c7, c8, c9, c10, ⟨am, c11⟩, ⟨n0, sd0, x0, y0, co0, f0, c12⟩, c13⟩, ⟨m0, m1, m2, m3, m4, m5, m6, m7, ⟨tk, m8⟩, m9, ⟨be, m10⟩, ⟨la, m11⟩, m12⟩, ⟨r1, r2, ⟨r3, r4, r5⟩, r6, r7, r8, r9, r10, r11, r12⟩, ⟨g0, o1⟩, g1, o2⟩ := hX0
  have hwf := c1.2.2
  have hR := hX.2.2.2.1
  have hF := hwf.1
  unfold WF0 at hF
  by_cases h1 : σ 4 = σ 1
  · refine ⟨(-1), _, (c_beat_r1 l X w y su ac σ nx (v 5) pas c0 c3 c1 c2 h1), fun w1 hP => ?_⟩
    obtain ⟨e3, hn0⟩ := hP
    have hn : ∀ q : Nat, q ≠ ao → w1 q = w1 q := fun _ _ => rfl
    obtain ⟨w0, hw0⟩ : ∃ w0, w0 = w1 := ⟨_, rfl⟩
    subst hw0
    have hg := (hn0 ao (by omega)).trans o1
    have hC0 : PC X w0 y su σ nx (v 5) pas (up ac 1 (ac 1 + 1)) (v 11) tx (v 31) oo rv sv bv := ⟨(hn0 _ (by omega)).trans c0, c1.mv (fun q q0 q1 => hn0 q (by omega)), c2.mv (fun q q0 q1 => hn0 q (by omega)), e3, (hn0 _ (by omega)).trans c4, (hn0 _ (by omega)).trans c5, (hn0 _ (by omega)).trans c6, (hn0 _ (by omega)).trans c7, (hn0 _ (by omega)).trans c8, c9.mv (fun q q0 q1 q2 => hn0 q (by omega)), c10.mv (fun q q0 q1 => hn0 q (by omega)), ⟨am, (hn0 _ (by omega)).trans c11⟩, ⟨n0, sd0, x0, y0, co0, f0, c12.mv (hn0 _ (by omega)) (hn0 _ (by omega))⟩, c13.mv (fun q q0 q1 => hn0 q (by omega))⟩
    have hM1 : PM X w0 mo v σ d pa sv bv rf tx oo sc := hX.2.2.1.mv (fun q q0 q1 => (hn q (by omega)).trans (hn0 q (by omega)))
    obtain ⟨k0, k1, k2, k3, k4, k5, k6, k7, ⟨tk, k8⟩, k9, ⟨be, k10⟩, ⟨la, k11⟩, k12⟩ := hM1
    refine ⟨⟨_, k0⟩, (c_X9_beat_r1 l X w0 mo v σ rf k0 k1 hwf k6 h1).imp (fun w2 h2 => ?_)⟩
    obtain ⟨e0, u6, hf⟩ := h2
    have hC2 := hC0.mv (w2 := w2) (fun q q0 q1 => (hf q (by omega) (by omega)).trans (hn q (by omega)))
    have og := (hf ao (by omega) (by omega)).trans hg
    have od := (hf ad (by omega) (by omega)).trans ((hn ad (by omega)).trans ((hn0 ad (by omega)).trans o2))
    exact ⟨su, σ, nx, pas, (up ac 1 (ac 1 + 1)), tx, oo, rv, d, pa, sv, bv, (up rf 1 (rf 1 + 1)), sc, (up v 6 0), ⟨a1, a2, a3⟩, hC2, ⟨e0, (hf _ (by omega) (by omega)).trans k1, (hf _ (by omega) (by omega)).trans k2, (hf _ (by omega) (by omega)).trans k3, (hf _ (by omega) (by omega)).trans k4, (hf _ (by omega) (by omega)).trans k5, u6, (hf _ (by omega) (by omega)).trans k7, ⟨tk, (hf _ (by omega) (by omega)).trans k8⟩, (hf _ (by omega) (by omega)).trans k9, ⟨be, (hf _ (by omega) (by omega)).trans k10⟩, ⟨la, (hf _ (by omega) (by omega)).trans k11⟩, (hf _ (by omega) (by omega)).trans k12⟩, (RR.ref hR (by omega)).cg ⟨rfl, rfl, rfl, rfl, rfl, rfl, rfl⟩, ⟨⟨_, og⟩, g1, od⟩⟩
  · by_cases h2 : σ 6 < σ 0 - opnS σ
    · refine ⟨(-2), _, (c_beat_r2 l X w y su ac σ nx (v 5) pas c0 c3 c1 c2 (by omega) h2), fun w1 hP => ?_⟩
      obtain ⟨e3, hn0⟩ := hP
      have hn : ∀ q : Nat, q ≠ ao → w1 q = w1 q := fun _ _ => rfl
      obtain ⟨w0, hw0⟩ : ∃ w0, w0 = w1 := ⟨_, rfl⟩
      subst hw0
      have hg := (hn0 ao (by omega)).trans o1
      have hC0 : PC X w0 y su σ nx (v 5) pas (up ac 2 (ac 2 + 1)) (v 11) tx (v 31) oo rv sv bv := ⟨(hn0 _ (by omega)).trans c0, c1.mv (fun q q0 q1 => hn0 q (by omega)), c2.mv (fun q q0 q1 => hn0 q (by omega)), e3, (hn0 _ (by omega)).trans c4, (hn0 _ (by omega)).trans c5, (hn0 _ (by omega)).trans c6, (hn0 _ (by omega)).trans c7, (hn0 _ (by omega)).trans c8, c9.mv (fun q q0 q1 q2 => hn0 q (by omega)), c10.mv (fun q q0 q1 => hn0 q (by omega)), ⟨am, (hn0 _ (by omega)).trans c11⟩, ⟨n0, sd0, x0, y0, co0, f0, c12.mv (hn0 _ (by omega)) (hn0 _ (by omega))⟩, c13.mv (fun q q0 q1 => hn0 q (by omega))⟩
      have hM1 : PM X w0 mo v σ d pa sv bv rf tx oo sc := hX.2.2.1.mv (fun q q0 q1 => (hn q (by omega)).trans (hn0 q (by omega)))
      obtain ⟨k0, k1, k2, k3, k4, k5, k6, k7, ⟨tk, k8⟩, k9, ⟨be, k10⟩, ⟨la, k11⟩, k12⟩ := hM1
      refine ⟨⟨_, k0⟩, (c_X9_beat_r2 l X w0 mo v σ rf k0 k1 hwf k6 (by omega) h2).imp (fun w2 h2 => ?_)⟩
      obtain ⟨e0, u6, hf⟩ := h2
      have hC2 := hC0.mv (w2 := w2) (fun q q0 q1 => (hf q (by omega) (by omega)).trans (hn q (by omega)))
      have og := (hf ao (by omega) (by omega)).trans hg
      have od := (hf ad (by omega) (by omega)).trans ((hn ad (by omega)).trans ((hn0 ad (by omega)).trans o2))
      exact ⟨su, σ, nx, pas, (up ac 2 (ac 2 + 1)), tx, oo, rv, d, pa, sv, bv, (up rf 2 (rf 2 + 1)), sc, (up v 6 0), ⟨a1, a2, a3⟩, hC2, ⟨e0, (hf _ (by omega) (by omega)).trans k1, (hf _ (by omega) (by omega)).trans k2, (hf _ (by omega) (by omega)).trans k3, (hf _ (by omega) (by omega)).trans k4, (hf _ (by omega) (by omega)).trans k5, u6, (hf _ (by omega) (by omega)).trans k7, ⟨tk, (hf _ (by omega) (by omega)).trans k8⟩, (hf _ (by omega) (by omega)).trans k9, ⟨be, (hf _ (by omega) (by omega)).trans k10⟩, ⟨la, (hf _ (by omega) (by omega)).trans k11⟩, (hf _ (by omega) (by omega)).trans k12⟩, (RR.ref hR (by omega)).cg ⟨rfl, rfl, rfl, rfl, rfl, rfl, rfl⟩, ⟨⟨_, og⟩, g1, od⟩⟩
    · refine ⟨(misRow (btS σ) (σ 4)), _, (c_X8_beat l X w y su ac σ nx (v 5) pas c0 c3 c1 c2 (by omega) (by omega)), fun w1 hP => ?_⟩
      obtain ⟨e3, e2, e1, hn0⟩ := hP
      have hn : ∀ q : Nat, q ≠ ao → w1 q = w1 q := fun _ _ => rfl
      obtain ⟨w0, hw0⟩ : ∃ w0, w0 = w1 := ⟨_, rfl⟩
      subst hw0
      have hg := (hn0 ao (by omega) (by omega) (by omega) (by omega) (by omega)).trans o1
      have hC0 : PC X w0 y su (btS σ) ((if nx = 8 then 0 else nx) + 1) (min 8 (v 5 + 1)) (keepP (v 5) pas σ) (up (up ac 0 (ac 0 + 1)) 8 (ac 8 + mnS (beatN σ (σ 0).toNat) (σ 4))) (v 11) tx (v 31) oo rv sv bv := ⟨(hn0 _ (by omega) (by omega) (by omega) (by omega) (by omega)).trans c0, e1, e2, e3, (hn0 _ (by omega) (by omega) (by omega) (by omega) (by omega)).trans c4, (hn0 _ (by omega) (by omega) (by omega) (by omega) (by omega)).trans c5, (hn0 _ (by omega) (by omega) (by omega) (by omega) (by omega)).trans c6, (hn0 _ (by omega) (by omega) (by omega) (by omega) (by omega)).trans c7, (hn0 _ (by omega) (by omega) (by omega) (by omega) (by omega)).trans c8, c9.mv (fun q q0 q1 q2 => hn0 q (by omega) (by omega) (by omega) (by omega) (by omega)), c10.mv (fun q q0 q1 => hn0 q (by omega) (by omega) (by omega) (by omega) (by omega)), ⟨am, (hn0 _ (by omega) (by omega) (by omega) (by omega) (by omega)).trans c11⟩, ⟨n0, sd0, x0, y0, co0, f0, c12.mv (hn0 _ (by omega) (by omega) (by omega) (by omega) (by omega)) (hn0 _ (by omega) (by omega) (by omega) (by omega) (by omega))⟩, c13.mv (fun q q0 q1 => hn0 q (by omega) (by omega) (by omega) (by omega) (by omega))⟩
      have hM1 : PM X w0 mo v σ d pa sv bv rf tx oo sc := hX.2.2.1.mv (fun q q0 q1 => (hn q (by omega)).trans (hn0 q (by omega) (by omega) (by omega) (by omega) (by omega)))
      obtain ⟨k0, k1, k2, k3, k4, k5, k6, k7, ⟨tk, k8⟩, k9, ⟨be, k10⟩, ⟨la, k11⟩, k12⟩ := hM1
      refine ⟨⟨_, k0⟩, (c_X9_beat l X w0 mo v σ pa k0 k1 hwf k3 r1 (by omega) (by omega)).imp (fun w2 h2 => ?_)⟩
      obtain ⟨e0, u1, u3, hf⟩ := h2
      have hC2 := hC0.mv (w2 := w2) (fun q q0 q1 => (hf q (by omega) (by omega) (by omega)).trans (hn q (by omega)))
      have og := (hf ao (by omega) (by omega) (by omega)).trans hg
      have od := (hf ad (by omega) (by omega) (by omega)).trans ((hn ad (by omega)).trans ((hn0 ad (by omega) (by omega) (by omega) (by omega) (by omega)).trans o2))
      exact ⟨su, (btS σ), ((if nx = 8 then 0 else nx) + 1), (keepP (v 5) pas σ), (up (up ac 0 (ac 0 + 1)) 8 (ac 8 + mnS (beatN σ (σ 0).toNat) (σ 4))), tx, oo, rv, d, (actP (v 5) pa σ), sv, bv, rf, sc, _, ⟨a1, a2, a3⟩, hC2, ⟨e0, u1, (hf _ (by omega) (by omega) (by omega)).trans k2, u3, (hf _ (by omega) (by omega) (by omega)).trans k4, (hf _ (by omega) (by omega) (by omega)).trans k5, (hf _ (by omega) (by omega) (by omega)).trans k6, (hf _ (by omega) (by omega) (by omega)).trans k7, ⟨tk, (hf _ (by omega) (by omega) (by omega)).trans k8⟩, (hf _ (by omega) (by omega) (by omega)).trans k9, ⟨be, (hf _ (by omega) (by omega) (by omega)).trans k10⟩, ⟨la, (hf _ (by omega) (by omega) (by omega)).trans k11⟩, (hf _ (by omega) (by omega) (by omega)).trans k12⟩, (RR.min (RR.act hR)).cg ⟨rfl, rfl, rfl, rfl, rfl, rfl, rfl⟩, ⟨⟨_, og⟩, g1, od⟩⟩
set_option maxHeartbeats 2000000 in
theorem pr_look (l : Launch) (X : Cx) (w : Wo) (y mo ao ad : Nat) (hST : ST X w y mo ao ad) : CB X y mo ao ad (fun b P => CM l X yX8_look cX8_look 1 (some (.int)) (rmk 6 149) [.ref y] w (some (.int (iI b))) P) (fun w1 b Q => (∃ fs, w1 mo = some (.inr (9, fs))) ∧ CM l X yX9_look cX9_look 1 (some (.int)) (rmk 7 159) [.ref mo] w1 (some (.int (iI b))) Q) := by
  obtain ⟨su, σ, nx, pas, ac, tx, oo, rv, d, pa, sv, bv, rf, sc, v, hX⟩ := hST
  have hX0 := hX
  obtain ⟨⟨a1, a2, a3⟩, ⟨c0, c1, c2, c3, c4, c5, c6, c7, c8, c9, c10, ⟨am, c11⟩, ⟨n0, sd0, x0, y0, co0, f0, c12⟩, c13⟩, ⟨m0, m1, m2, m3, m4, m5, m6, m7, ⟨tk, m8⟩, m9, ⟨be, m10⟩, ⟨la, m11⟩, m12⟩, ⟨r1, r2, ⟨r3, r4, r5⟩, r6, r7, r8, r9, r10, r11, r12⟩, ⟨g0, o1⟩, g1, o2⟩ := hX0
  have hwf := c1.2.2
  have hR := hX.2.2.2.1
  · refine ⟨(misSeen (up σ 3 (σ 4)) - misSeen σ), _, (c_X8_look l X w y su ac σ nx (v 5) pas c0 c3 c1 c2), fun w1 hP => ?_⟩
    obtain ⟨e3, e2, e1, hn0⟩ := hP
    have hn : ∀ q : Nat, q ≠ ao → w1 q = w1 q := fun _ _ => rfl
    obtain ⟨w0, hw0⟩ : ∃ w0, w0 = w1 := ⟨_, rfl⟩
    subst hw0
    have hg := (hn0 ao (by omega) (by omega) (by omega)).trans o1
    have hC0 : PC X w0 y su (up σ 3 (σ 4)) ((if nx = 8 then 0 else nx) + 1) (min 8 (v 5 + 1)) (keepP (v 5) pas σ) (up ac 0 (ac 0 + 1)) (v 11) tx (v 31) oo rv sv bv := ⟨(hn0 _ (by omega) (by omega) (by omega)).trans c0, e1, e2, e3, (hn0 _ (by omega) (by omega) (by omega)).trans c4, (hn0 _ (by omega) (by omega) (by omega)).trans c5, (hn0 _ (by omega) (by omega) (by omega)).trans c6, (hn0 _ (by omega) (by omega) (by omega)).trans c7, (hn0 _ (by omega) (by omega) (by omega)).trans c8, c9.mv (fun q q0 q1 q2 => hn0 q (by omega) (by omega) (by omega)), c10.mv (fun q q0 q1 => hn0 q (by omega) (by omega) (by omega)), ⟨am, (hn0 _ (by omega) (by omega) (by omega)).trans c11⟩, ⟨n0, sd0, x0, y0, co0, f0, c12.mv (hn0 _ (by omega) (by omega) (by omega)) (hn0 _ (by omega) (by omega) (by omega))⟩, c13.mv (fun q q0 q1 => hn0 q (by omega) (by omega) (by omega))⟩
    have hM1 : PM X w0 mo v σ d pa sv bv rf tx oo sc := hX.2.2.1.mv (fun q q0 q1 => (hn q (by omega)).trans (hn0 q (by omega) (by omega) (by omega)))
    obtain ⟨k0, k1, k2, k3, k4, k5, k6, k7, ⟨tk, k8⟩, k9, ⟨be, k10⟩, ⟨la, k11⟩, k12⟩ := hM1
    refine ⟨⟨_, k0⟩, (c_X9_look l X w0 mo v σ pa k0 k1 hwf k3 r1).imp (fun w2 h2 => ?_)⟩
    obtain ⟨e0, u1, u3, hf⟩ := h2
    have hC2 := hC0.mv (w2 := w2) (fun q q0 q1 => (hf q (by omega) (by omega) (by omega)).trans (hn q (by omega)))
    have og := (hf ao (by omega) (by omega) (by omega)).trans hg
    have od := (hf ad (by omega) (by omega) (by omega)).trans ((hn ad (by omega)).trans ((hn0 ad (by omega) (by omega) (by omega)).trans o2))
    exact ⟨su, (up σ 3 (σ 4)), ((if nx = 8 then 0 else nx) + 1), (keepP (v 5) pas σ), (up ac 0 (ac 0 + 1)), tx, oo, rv, d, (actP (v 5) pa σ), sv, bv, rf, sc, _, ⟨a1, a2, a3⟩, hC2, ⟨e0, u1, (hf _ (by omega) (by omega) (by omega)).trans k2, u3, (hf _ (by omega) (by omega) (by omega)).trans k4, (hf _ (by omega) (by omega) (by omega)).trans k5, (hf _ (by omega) (by omega) (by omega)).trans k6, (hf _ (by omega) (by omega) (by omega)).trans k7, ⟨tk, (hf _ (by omega) (by omega) (by omega)).trans k8⟩, (hf _ (by omega) (by omega) (by omega)).trans k9, ⟨be, (hf _ (by omega) (by omega) (by omega)).trans k10⟩, ⟨la, (hf _ (by omega) (by omega) (by omega)).trans k11⟩, (hf _ (by omega) (by omega) (by omega)).trans k12⟩, (RR.act hR).cg ⟨rfl, rfl, rfl, rfl, rfl, rfl, rfl⟩, ⟨⟨_, og⟩, g1, od⟩⟩
set_option maxHeartbeats 2000000 in
theorem pr_undo (l : Launch) (X : Cx) (w : Wo) (y mo ao ad : Nat) (hST : ST X w y mo ao ad) : CB X y mo ao ad (fun b P => CM l X yX8_undo cX8_undo 1 (some (.int)) (rmk 3 87) [.ref y] w (some (.int (iI b))) P) (fun w1 b Q => (∃ fs, w1 mo = some (.inr (9, fs))) ∧ CM l X yX9_undo cX9_undo 1 (some (.int)) (rmk 1 24) [.ref mo] w1 (some (.int (iI b))) Q) := by
  obtain ⟨su, σ, nx, pas, ac, tx, oo, rv, d, pa, sv, bv, rf, sc, v, hX⟩ := hST
  have hX0 := hX
  obtain ⟨⟨a1, a2, a3⟩, ⟨c0, c1, c2, c3, c4, c5, c6, c7, c8, c9, c10, ⟨am, c11⟩, ⟨n0, sd0, x0, y0, co0, f0, c12⟩, c13⟩, ⟨m0, m1, m2, m3, m4, m5, m6, m7, ⟨tk, m8⟩, m9, ⟨be, m10⟩, ⟨la, m11⟩, m12⟩, ⟨r1, r2, ⟨r3, r4, r5⟩, r6, r7, r8, r9, r10, r11, r12⟩, ⟨g0, o1⟩, g1, o2⟩ := hX0
  have hwf := c1.2.2
  have hR := hX.2.2.2.1
  by_cases h1 : v 5 = 0
  · refine ⟨-1, _, c_undo_0 l X w y su σ nx (v 5) pas c0 c1 c2 h1, fun w1 hP => ?_⟩
    obtain rfl : w1 = w := hP
    refine ⟨⟨_, m0⟩, (c_X9_undo_0 l X w1 mo v σ m0 m1 hwf h1).imp (fun w2 h2 => ?_)⟩
    obtain ⟨e0, hf⟩ := h2
    exact hX.read e0 ⟨rfl, rfl, rfl, rfl, rfl, rfl, rfl⟩ (fun q q0 q1 q2 q3 q4 => hf q q0) ⟨⟨g0, (hf _ (by omega)).trans o1⟩, g1, (hf _ (by omega)).trans o2⟩ ⟨n0, sd0, x0, y0, co0, f0, c12.mv (hf _ (by omega)) (hf _ (by omega))⟩ ⟨am, (hf _ (by omega)).trans c11⟩
  · refine ⟨(v 5 - 1), _, (c_X8_undo l X w y su σ nx (v 5) pas c0 c1 c2 (by omega)), fun w1 hP => ?_⟩
    obtain ⟨e2, e1, hn0⟩ := hP
    have hn : ∀ q : Nat, q ≠ ao → w1 q = w1 q := fun _ _ => rfl
    obtain ⟨w0, hw0⟩ : ∃ w0, w0 = w1 := ⟨_, rfl⟩
    subst hw0
    have hg := (hn0 ao (by omega) (by omega)).trans o1
    have hC0 : PC X w0 y su (cpN pa σ (1317 * (v 5 - 1)) 0 1317) ((nx - 1) % 8) (v 5 - 1) pas ac (v 11) tx (v 31) oo rv sv bv := ⟨(hn0 _ (by omega) (by omega)).trans c0, e1.to (eqS.ofW e1.2.2 (fun p q0 q1 => (cpN_at ⟨q0, q1⟩).trans (r2 (v 5 - 1) (by omega) (by omega) p q0 q1))), e2, (hn0 _ (by omega) (by omega)).trans c3, (hn0 _ (by omega) (by omega)).trans c4, (hn0 _ (by omega) (by omega)).trans c5, (hn0 _ (by omega) (by omega)).trans c6, (hn0 _ (by omega) (by omega)).trans c7, (hn0 _ (by omega) (by omega)).trans c8, c9.mv (fun q q0 q1 q2 => hn0 q (by omega) (by omega)), c10.mv (fun q q0 q1 => hn0 q (by omega) (by omega)), ⟨am, (hn0 _ (by omega) (by omega)).trans c11⟩, ⟨n0, sd0, x0, y0, co0, f0, c12.mv (hn0 _ (by omega) (by omega)) (hn0 _ (by omega) (by omega))⟩, c13.mv (fun q q0 q1 => hn0 q (by omega) (by omega))⟩
    have hM1 : PM X w0 mo v σ d pa sv bv rf tx oo sc := hX.2.2.1.mv (fun q q0 q1 => (hn q (by omega)).trans (hn0 q (by omega) (by omega)))
    obtain ⟨k0, k1, k2, k3, k4, k5, k6, k7, ⟨tk, k8⟩, k9, ⟨be, k10⟩, ⟨la, k11⟩, k12⟩ := hM1
    refine ⟨⟨_, k0⟩, (c_X9_undo l X w0 mo v σ pa k0 k1 hwf k3 (by omega)).imp (fun w2 h2 => ?_)⟩
    obtain ⟨e0, u1, hf⟩ := h2
    have hC2 := hC0.mv (w2 := w2) (fun q q0 q1 => (hf q (by omega) (by omega)).trans (hn q (by omega)))
    have og := (hf ao (by omega) (by omega)).trans hg
    have od := (hf ad (by omega) (by omega)).trans ((hn ad (by omega)).trans ((hn0 ad (by omega) (by omega)).trans o2))
    exact ⟨su, (cpN pa σ (1317 * (v 5 - 1)) 0 1317), ((nx - 1) % 8), pas, ac, tx, oo, rv, d, pa, sv, bv, rf, sc, (up (up v 6 0) 5 (v 5 - 1)), ⟨a1, a2, a3⟩, hC2, ⟨e0, u1, (hf _ (by omega) (by omega)).trans k2, (hf _ (by omega) (by omega)).trans k3, (hf _ (by omega) (by omega)).trans k4, (hf _ (by omega) (by omega)).trans k5, (hf _ (by omega) (by omega)).trans k6, (hf _ (by omega) (by omega)).trans k7, ⟨tk, (hf _ (by omega) (by omega)).trans k8⟩, (hf _ (by omega) (by omega)).trans k9, ⟨be, (hf _ (by omega) (by omega)).trans k10⟩, ⟨la, (hf _ (by omega) (by omega)).trans k11⟩, (hf _ (by omega) (by omega)).trans k12⟩, (RR.und (n := v 5 - 1) hR (by omega) (fun i i0 i1 => r2 i i0 (by omega))).cg ⟨rfl, rfl, rfl, rfl, rfl, rfl, rfl⟩, ⟨⟨_, og⟩, g1, od⟩⟩
set_option maxHeartbeats 2000000 in
theorem pr_load (l : Launch) (X : Cx) (w : Wo) (y mo ao ad : Nat) (hST : ST X w y mo ao ad) : CB X y mo ao ad (fun b P => CM l X yX8_load cX8_load 2 (some (.int)) (rmk 10 214) [.ref y] w (some (.int (iI b))) P) (fun w1 b Q => (∃ fs, w1 mo = some (.inr (9, fs))) ∧ CM l X yX9_load cX9_load 1 (some (.int)) (rmk 7 156) [.ref mo] w1 (some (.int (iI b))) Q) := by
  obtain ⟨su, σ, nx, pas, ac, tx, oo, rv, d, pa, sv, bv, rf, sc, v, hX⟩ := hST
  have hX0 := hX
  obtain ⟨⟨a1, a2, a3⟩, ⟨c0, c1, c2, c3, c4, c5, c6, c7, c8, c9, c10, ⟨am, c11⟩, ⟨n0, sd0, x0, y0, co0, f0, c12⟩, c13⟩, ⟨m0, m1, m2, m3, m4, m5, m6, m7, ⟨tk, m8⟩, m9, ⟨be, m10⟩, ⟨la, m11⟩, m12⟩, ⟨r1, r2, ⟨r3, r4, r5⟩, r6, r7, r8, r9, r10, r11, r12⟩, ⟨g0, o1⟩, g1, o2⟩ := hX0
  have hwf := c1.2.2
  have hR := hX.2.2.2.1
  have hvI := ld0_I (f := tx) (v := lv0 v) (N := v 11) r6 r7 rfl rfl rfl
  have hun : ∀ k, (k < 14 ∨ 19 < k) → k ≠ 22 ∧ k ≠ 23 → (rdF tx (ld0 tx (lv0 v)) d).1 k = lv0 v k := fun k h h2 => (rdF_n hvI h h2).trans (ld0_n h)
  by_cases hq : (rdF tx (ld0 tx (lv0 v)) d).1 18 = 0
  · refine ⟨((rdF tx (ld0 tx (lv0 v)) d).2 5), _, (c_X8_load l X w y su σ nx (v 5) pas (v 11) tx (lv0 v) d rv pas c0 c1 c2 c9 c8 c4 c5 rfl r6 r7 rfl rfl hq), fun w1 hP => ?_⟩
    obtain ⟨e4, ⟨m, e8⟩, e2, e1, e9, hn0⟩ := hP
    have hn : ∀ q : Nat, q ≠ ao → w1 q = w1 q := fun _ _ => rfl
    obtain ⟨w0, hw0⟩ : ∃ w0, w0 = w1 := ⟨_, rfl⟩
    subst hw0
    have hg := (hn0 ao (by omega) (by omega) (by omega) (by omega) (by omega) (by omega) (by omega) (by omega)).trans o1
    have hC0 : PC X w0 y su (cpN (rdF tx (ld0 tx (lv0 v)) d).2 σ 0 0 1317) nx 0 pas ac 0 tx (v 31) oo (cR tx (v 11) (rdF tx (ld0 tx (lv0 v)) d).1 m) sv bv := ⟨(hn0 _ (by omega) (by omega) (by omega) (by omega) (by omega) (by omega) (by omega) (by omega)).trans c0, e1.to (eqS.ofW e1.2.2 (fun p q0 q1 => (cpN_at ⟨q0, q1⟩).trans (by rw [Int.zero_add]))), e2, (hn0 _ (by omega) (by omega) (by omega) (by omega) (by omega) (by omega) (by omega) (by omega)).trans c3, e4, (hn0 _ (by omega) (by omega) (by omega) (by omega) (by omega) (by omega) (by omega) (by omega)).trans c5, (hn0 _ (by omega) (by omega) (by omega) (by omega) (by omega) (by omega) (by omega) (by omega)).trans c6, (hn0 _ (by omega) (by omega) (by omega) (by omega) (by omega) (by omega) (by omega) (by omega)).trans c7, e8, e9, c10.mv (fun q q0 q1 => hn0 q (by omega) (by omega) (by omega) (by omega) (by omega) (by omega) (by omega) (by omega)), ⟨am, (hn0 _ (by omega) (by omega) (by omega) (by omega) (by omega) (by omega) (by omega) (by omega)).trans c11⟩, ⟨n0, sd0, x0, y0, co0, f0, c12.mv (hn0 _ (by omega) (by omega) (by omega) (by omega) (by omega) (by omega) (by omega) (by omega)) (hn0 _ (by omega) (by omega) (by omega) (by omega) (by omega) (by omega) (by omega) (by omega))⟩, c13.mv (fun q q0 q1 => hn0 q (by omega) (by omega) (by omega) (by omega) (by omega) (by omega) (by omega) (by omega))⟩
    have hM1 : PM X w0 mo v σ d pa sv bv rf tx oo sc := hX.2.2.1.mv (fun q q0 q1 => (hn q (by omega)).trans (hn0 q (by omega) (by omega) (by omega) (by omega) (by omega) (by omega) (by omega) (by omega)))
    obtain ⟨k0, k1, k2, k3, k4, k5, k6, k7, ⟨tk, k8⟩, k9, ⟨be, k10⟩, ⟨la, k11⟩, k12⟩ := hM1
    refine ⟨⟨_, k0⟩, (c_X9_load l X w0 mo v tx σ d k0 k7 r6 r7 k1 k2 hq).imp (fun w2 h2 => ?_)⟩
    obtain ⟨e0, u2, u1, hf⟩ := h2
    have hC2 := hC0.mv (w2 := w2) (fun q q0 q1 => (hf q (by omega) (by omega) (by omega)).trans (hn q (by omega)))
    have og := (hf ao (by omega) (by omega) (by omega)).trans hg
    have od := (hf ad (by omega) (by omega) (by omega)).trans ((hn ad (by omega)).trans ((hn0 ad (by omega) (by omega) (by omega) (by omega) (by omega) (by omega) (by omega) (by omega)).trans o2))
    have q5 : (rdF tx (ld0 tx (lv0 v)) d).1 5 = v 5 := hun 5 (by omega) (by omega)
    have q31 : (rdF tx (ld0 tx (lv0 v)) d).1 31 = v 31 := hun 31 (by omega) (by omega)
    have hC2 : PC X w2 y su (cpN (rdF tx (ld0 tx (lv0 v)) d).2 σ 0 0 1317) nx (up (enV (rdF tx (ld0 tx (lv0 v)) d).1) 5 0 5) pas ac (up (enV (rdF tx (ld0 tx (lv0 v)) d).1) 5 0 11) tx (up (enV (rdF tx (ld0 tx (lv0 v)) d).1) 5 0 31) oo (cR tx (v 11) (rdF tx (ld0 tx (lv0 v)) d).1 m) sv bv := by
      rw [show up (enV (rdF tx (ld0 tx (lv0 v)) d).1) 5 0 31 = v 31 from q31]
      exact hC2
    exact ⟨su, (cpN (rdF tx (ld0 tx (lv0 v)) d).2 σ 0 0 1317), nx, pas, ac, tx, oo, (cR tx (v 11) (rdF tx (ld0 tx (lv0 v)) d).1 m), (rdF tx (ld0 tx (lv0 v)) d).2, pa, sv, bv, rf, sc, (up (enV (rdF tx (ld0 tx (lv0 v)) d).1) 5 0), ⟨a1, a2, a3⟩, hC2, ⟨e0, u1, u2, (hf _ (by omega) (by omega) (by omega)).trans k3, (hf _ (by omega) (by omega) (by omega)).trans k4, (hf _ (by omega) (by omega) (by omega)).trans k5, (hf _ (by omega) (by omega) (by omega)).trans k6, (hf _ (by omega) (by omega) (by omega)).trans k7, ⟨tk, (hf _ (by omega) (by omega) (by omega)).trans k8⟩, (hf _ (by omega) (by omega) (by omega)).trans k9, ⟨be, (hf _ (by omega) (by omega) (by omega)).trans k10⟩, ⟨la, (hf _ (by omega) (by omega) (by omega)).trans k11⟩, (hf _ (by omega) (by omega) (by omega)).trans k12⟩, (RR.und (n := 0) (v := enV (rdF tx (ld0 tx (lv0 v)) d).1) (RR.rd hR ⟨hun 5 (by omega) (by omega), hun 8 (by omega) (by omega), hun 9 (by omega) (by omega), hun 31 (by omega) (by omega)⟩ rfl ⟨rfl, rfl⟩) (by omega) (fun i i0 i1 => absurd i0 (by omega))), ⟨⟨_, og⟩, g1, od⟩⟩
  · refine ⟨(-1), _, (c_load_x l X w y su σ nx (v 5) pas (v 11) tx (lv0 v) d rv c0 c1 c2 c9 c8 c4 c5 rfl r6 r7 rfl rfl hq), fun w1 hP => ?_⟩
    obtain ⟨e4, ⟨m, e8⟩, e9, hn0⟩ := hP
    have hn : ∀ q : Nat, q ≠ ao → w1 q = w1 q := fun _ _ => rfl
    obtain ⟨w0, hw0⟩ : ∃ w0, w0 = w1 := ⟨_, rfl⟩
    subst hw0
    have hg := (hn0 ao (by omega) (by omega) (by omega) (by omega) (by omega) (by omega)).trans o1
    have hC0 : PC X w0 y su σ nx (v 5) pas ac 0 tx (v 31) oo (cR tx (v 11) (rdF tx (ld0 tx (lv0 v)) d).1 m) sv bv := ⟨(hn0 _ (by omega) (by omega) (by omega) (by omega) (by omega) (by omega)).trans c0, c1.mv (fun q q0 q1 => hn0 q (by omega) (by omega) (by omega) (by omega) (by omega) (by omega)), c2.mv (fun q q0 q1 => hn0 q (by omega) (by omega) (by omega) (by omega) (by omega) (by omega)), (hn0 _ (by omega) (by omega) (by omega) (by omega) (by omega) (by omega)).trans c3, e4, (hn0 _ (by omega) (by omega) (by omega) (by omega) (by omega) (by omega)).trans c5, (hn0 _ (by omega) (by omega) (by omega) (by omega) (by omega) (by omega)).trans c6, (hn0 _ (by omega) (by omega) (by omega) (by omega) (by omega) (by omega)).trans c7, e8, e9, c10.mv (fun q q0 q1 => hn0 q (by omega) (by omega) (by omega) (by omega) (by omega) (by omega)), ⟨am, (hn0 _ (by omega) (by omega) (by omega) (by omega) (by omega) (by omega)).trans c11⟩, ⟨n0, sd0, x0, y0, co0, f0, c12.mv (hn0 _ (by omega) (by omega) (by omega) (by omega) (by omega) (by omega)) (hn0 _ (by omega) (by omega) (by omega) (by omega) (by omega) (by omega))⟩, c13.mv (fun q q0 q1 => hn0 q (by omega) (by omega) (by omega) (by omega) (by omega) (by omega))⟩
    have hM1 : PM X w0 mo v σ d pa sv bv rf tx oo sc := hX.2.2.1.mv (fun q q0 q1 => (hn q (by omega)).trans (hn0 q (by omega) (by omega) (by omega) (by omega) (by omega) (by omega)))
    obtain ⟨k0, k1, k2, k3, k4, k5, k6, k7, ⟨tk, k8⟩, k9, ⟨be, k10⟩, ⟨la, k11⟩, k12⟩ := hM1
    refine ⟨⟨_, k0⟩, (c_X9_load_x l X w0 mo v tx σ d k0 k7 r6 r7 k1 k2 hq).imp (fun w2 h2 => ?_)⟩
    obtain ⟨e0, u2, hf⟩ := h2
    have hC2 := hC0.mv (w2 := w2) (fun q q0 q1 => (hf q (by omega) (by omega)).trans (hn q (by omega)))
    have og := (hf ao (by omega) (by omega)).trans hg
    have od := (hf ad (by omega) (by omega)).trans ((hn ad (by omega)).trans ((hn0 ad (by omega) (by omega) (by omega) (by omega) (by omega) (by omega)).trans o2))
    have q5 : (rdF tx (ld0 tx (lv0 v)) d).1 5 = v 5 := hun 5 (by omega) (by omega)
    have q31 : (rdF tx (ld0 tx (lv0 v)) d).1 31 = v 31 := hun 31 (by omega) (by omega)
    have hC2 : PC X w2 y su σ nx (enV (rdF tx (ld0 tx (lv0 v)) d).1 5) pas ac (enV (rdF tx (ld0 tx (lv0 v)) d).1 11) tx (enV (rdF tx (ld0 tx (lv0 v)) d).1 31) oo (cR tx (v 11) (rdF tx (ld0 tx (lv0 v)) d).1 m) sv bv := by
      rw [show enV (rdF tx (ld0 tx (lv0 v)) d).1 31 = v 31 from q31, show enV (rdF tx (ld0 tx (lv0 v)) d).1 5 = v 5 from q5]
      exact hC2
    exact ⟨su, σ, nx, pas, ac, tx, oo, (cR tx (v 11) (rdF tx (ld0 tx (lv0 v)) d).1 m), (rdF tx (ld0 tx (lv0 v)) d).2, pa, sv, bv, rf, sc, (enV (rdF tx (ld0 tx (lv0 v)) d).1), ⟨a1, a2, a3⟩, hC2, ⟨e0, (hf _ (by omega) (by omega)).trans k1, u2, (hf _ (by omega) (by omega)).trans k3, (hf _ (by omega) (by omega)).trans k4, (hf _ (by omega) (by omega)).trans k5, (hf _ (by omega) (by omega)).trans k6, (hf _ (by omega) (by omega)).trans k7, ⟨tk, (hf _ (by omega) (by omega)).trans k8⟩, (hf _ (by omega) (by omega)).trans k9, ⟨be, (hf _ (by omega) (by omega)).trans k10⟩, ⟨la, (hf _ (by omega) (by omega)).trans k11⟩, (hf _ (by omega) (by omega)).trans k12⟩, RR.rd hR ⟨hun 5 (by omega) (by omega), hun 8 (by omega) (by omega), hun 9 (by omega) (by omega), hun 31 (by omega) (by omega)⟩ rfl ⟨rfl, rfl⟩, ⟨⟨_, og⟩, g1, od⟩⟩
