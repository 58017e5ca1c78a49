/-! ===== lives: the class loads; the own cloth is begun and hung; the text ===== -/
theorem Wd.e3 {X : Cx} {w : Wo} {U : State} {H : Heap} (h : Wd X w U H) : w (X.2.2 3) = none := by
  cases e : w (X.2.2 3) with
  | none => rfl
  | some z =>
    obtain ⟨cell, -, -, -, -, -, -, h7⟩ := h.2.2.2.2.2.2.2.2.1.2
    exact absurd (h.1.1 _ z e).2 h7
theorem k_load (l : Launch) (X : Cx) (w : Wo) (y : Nat) (σ : Int → Int) (nx sz : Int) (pas : Int → Int → Int) (ac : Int → Int) (N : Int) (fb τ : Int → Int) (hK : KT X w y σ nx sz pas ac N fb) (hfb : ∀ i, 0 ≤ i → i < N → 0 ≤ fb i ∧ fb i ≤ 255) (hrd : (rdF fb (ld0 fb (vN N)) (fun _ => 0)).1 18 = 0 ∧ (rdF fb (ld0 fb (vN N)) (fun _ => 0)).2 = τ) : CM l X yX8_load cX8_load 2 (some (.int)) (rmk 10 214) [.ref y] w (some (.int (iI (τ 5)))) (fun w' => KS X w' y τ nx 0 pas ac ∧ ∀ (q : Nat) (e : va_E), w q = some e → outY y q → w' q = some e) := by
  obtain ⟨su, M, oo, rv, hN4, hY, hL, hH, hac, hB, hT, hWB, hWT, hR, hds, hsc, ham, ⟨n0, sd0, x0, y0, co0, f0, hv⟩, hM, hsv⟩ := hK
  obtain ⟨am, ham⟩ := ham
  have hp := c_X8_load l X w y su σ nx sz pas N fb (vN N) (fun _ => 0) rv pas hY hL hH hds hR hB hT (up_s _ _ _) hN4 hfb rfl rfl hrd.1
  rw [hrd.2] at hp
  refine CM.mono hp (fun w' h => ?_)
  obtain ⟨h1, ⟨m, h2⟩, h3, h4, h5, hf⟩ := h
  have g : ∀ q : Nat, (y = q ∨ y + 51 ≤ q ∧ q < y + 53 ∨ y + 54 ≤ q ∧ q < y + 307 ∨ y + 308 ≤ q ∧ q < y + 311 ∨ y + 315 ≤ q) → w' q = w q := fun q q0 => hf q (by omega) (by omega) (by omega) (by omega) (by omega) (by omega) (by omega) (by omega)
  exact ⟨⟨su, fb, M, oo, _, (g _ (by omega)).trans hY, h4, h3, (g _ (by omega)).trans hac, h1, (g _ (by omega)).trans hT, (g _ (by omega)).trans hWB, (g _ (by omega)).trans hWT, h2, h5, hsc.mv (fun q q0 q1 => g q (by omega)), ⟨am, (g _ (by omega)).trans ham⟩, ⟨_, _, _, _, _, _, hv.mv (g _ (by omega)) (g _ (by omega))⟩, hM, fun q q0 q1 => by rw [g q (by omega)]; exact hsv q q0 q1⟩, fun q e h9 ho => by unfold outY at ho; exact (hf q (by omega) (by omega) (by omega) (by omega) (by omega) (by omega) (by omega) (by omega)).trans h9⟩
theorem k_acts (l : Launch) (X : Cx) (w : Wo) (y h gq aq : Nat) (N : Nat → Prop) (σ af : Int → Int) (hLS : LwS X w N y h gq aq σ af) (hp8 : 0 ≤ af 8 ∧ af 8 ≤ 900000) : CM l X yL_acts cL_acts 14 (some (.boolean)) (rmG 11 1500 6000 260) [.ref y, .ref h, .ref gq, .ref aq] w (some (.int (iI (bz true)))) (fun w' => ∃ (σ2 af2 : Int → Int), LwS X w' N y h gq aq σ2 af2 ∧ (0 ≤ af2 8 ∧ af2 8 ≤ af 8 + 1000) ∧ ∀ (q : Nat) (e : va_E), w q = some e → q ≠ q → w' q = some e) :=
  CM.mono (c_L_acts l X w y h gq aq N σ af hLS hp8) (fun w' hh => hh.elim (fun σ2 z => z.elim (fun af2 z2 => ⟨σ2, af2, z2.1, z2.2, fun q e h9 h8 => absurd rfl h8⟩)))
/-- the same cloth in another world -/
theorem ownN.mw {X : Cx} {w w2 : Wo} {N N2 : Nat → Prop} {h : Nat} {σ : Int → Int} (hO : ownN X w N h σ) (hx : ∀ (q : Nat) (e : va_E), w q = some e → ¬ N q → w2 q = some e ∧ ¬ N2 q) (hk : ∀ q, N2 q → w2 q ≠ none) (h3 : w2 (X.2.2 3) = none) : ownN X w2 N2 h σ :=
  ⟨hO.1.ex (fun q e h9 => by have h := hx q e (wr_some.mp h9).2 (wr_some.mp h9).1; exact wr_some.mpr ⟨h.2, h.1⟩), hk, fun z => hk _ z h3⟩
/-- what the own cloth has nothing to do with: the class's object, the draws, the text -/
def NK (y gq u0 b : Nat) : Nat → Prop := fun q => (y ≤ q ∧ q < y + 321) ∨ q = gq ∨ q = u0 ∨ q = b
theorem own_ini {X : Cx} {w : Wo} {K : Nat → Prop} {h st lc lr er a9 : Nat} {mc : Int32} {wd ht : Int} {fs f9 : Int → Int} (hwd : 8 ≤ wd ∧ wd ≤ 19) (hht : 6 ≤ ht ∧ ht ≤ 13) (h1 : w h = some (.inr (10, [.int (iI wd), .int (iI ht), .int (iI 4), .int (iI 0), .ref st, .ref lc, .ref lr, .int (iI (bz false))]))) (h2 : w st = some (aZ X 7 fs)) (h2f : ∀ c, 0 ≤ c → c < 7 → fs c = 500) (h3 : w lc = some (.inr (14, [.int mc, .ref (X.2.2 3), .int (iI 0)]))) (h5 : lstA X w lr er 10 1 (fun _ => a9)) (h6 : w a9 = some (aZ X wd.toNat f9)) (h6f : ∀ c, 0 ≤ c → c < wd → f9 c = -1) (hK : ¬ K h ∧ ¬ K st ∧ ¬ K lc ∧ ¬ K lr ∧ ¬ K er ∧ ¬ K a9) (hst9 : a9 ≠ st) (hll : lc ≠ lr) (hKn : ∀ q, K q → w q ≠ none) (he3 : w (X.2.2 3) = none) : ownN X w K h (bgS (fun _ => 0) wd ht) := by
  have hr := res_WF (wd := wd) (ht := ht) ⟨by omega, by omega⟩
  have hW : WF (bgS (fun _ => 0) wd ht) := hr.to (eqS.ofW hr (fun p p0 p1 => bgS_v _ _ _ p p0 p1))
  obtain ⟨σ, hσ⟩ : ∃ σ, σ = bgS (fun _ => 0) wd ht := ⟨_, rfl⟩
  have hv : ∀ p, 0 ≤ p → p < 1317 → σ p = resS wd ht p := fun p p0 p1 => by rw [hσ]; exact bgS_v _ _ _ p p0 p1
  rw [← hσ] at hW ⊢
  have e0 : σ 0 = wd := hv 0 (by decide) (by decide)
  have e1 : σ 1 = ht := hv 1 (by decide) (by decide)
  have e2 : σ 2 = 4 := hv 2 (by decide) (by decide)
  have e3 : σ 3 = 0 := hv 3 (by decide) (by decide)
  have e4 : σ 4 = 0 := hv 4 (by decide) (by decide)
  have e5 : σ 5 = 0 := hv 5 (by decide) (by decide)
  have hce : ∀ c r, 0 ≤ c → c < σ 0 → 0 ≤ r → r < σ 1 → cellS σ c r = -1 := fun c r c0 c1 r0 r1 => by
    rw [show cellS σ c r = resS wd ht (117 + 40 * r + c) from hv _ (by omega) (by omega)]
    exact res_cell ⟨c0, r0⟩
  have hnr : nrS σ = 1 := by unfold nrS; rw [if_pos (by omega), e4]; rfl
  have hP : ownP X (wr w K) h σ st lc (X.2.2 3) 0 lr er 10 (fun _ => 0) (fun _ => a9) := by
    refine ⟨wr_some.mpr ⟨hK.1, ?_⟩, ⟨fs, wr_some.mpr ⟨hK.2.1, h2⟩, fun c c0 c1 => ?_⟩, ?_, Or.inl rfl, ⟨fun k k0 k1 => absurd k1 (by omega), fun k k2 k0 k1 => absurd k1 (by omega)⟩, ?_, Or.inl rfl, ⟨fun r r0 r1 => ⟨f9, ?_, fun c c0 c1 => ?_⟩, fun r r2 a b c d _ => by omega⟩, fun c r c0 c1 r0 r1 => hce c r c0 c1 (by omega) r1, ⟨hW, by omega, by omega⟩, fun _ _ _ => hst9, hll, fun z => absurd z (by decide)⟩
    · rw [e0, e1, e2, e3, e4, h1, decide_eq_false (by omega)]
    · rw [h2f c c0 c1, hv _ (by omega) (by omega)]
      exact (res_st ⟨c0, c1⟩).symm
    · rw [e5]
      exact ⟨⟨mc, wr_some.mpr ⟨hK.2.2.1, h3⟩⟩, fun _ => none, Or.inl ⟨rfl, rfl⟩, by decide, fun k k0 k1 => absurd k1 (by omega)⟩
    · rw [hnr]; exact h5.wr hK.2.2.2.1 hK.2.2.2.2.1
    · rw [e0]; exact wr_some.mpr ⟨hK.2.2.2.2.2, h6⟩
    · rw [h6f c c0 (by omega), hce c r c0 c1 r0 (by omega)]
  exact ⟨hP.A, hKn, fun z => hKn _ z he3⟩
theorem own_hang {X : Cx} {w w2 : Wo} {K : Nat → Prop} {h : Nat} {σ fw : Int → Int} {st lc ec kc lr er kr c9 zw nw ec2 kc2 : Nat} {sd x y co n : Int} {cd rwa : Int → Nat} (hP : ownP X (wr w K) h σ st lc ec kc lr er kr cd rwa) (hker : w er ≠ none) (hKn : ∀ q, K q → w q ≠ none) (he3 : w2 (X.2.2 3) = none) (hK3 : ¬ K (X.2.2 3)) (hn9 : n = (nw : Int)) (h5 : σ 5 < 8) (hn : 1 ≤ n ∧ n ≤ 8) (hsd : sd = 0 ∨ sd = 1) (hco : 1 ≤ co ∧ co ≤ 6) (hfw : ∀ j, 0 ≤ j → j < n → 97 ≤ fw j ∧ fw j ≤ 122) (hwy : whyS σ n sd x y (-1) = 0)
    (hcK : ¬ K c9) (hc9 : w2 c9 = some (.inr (9, [.ref zw, .int (iI sd), .int (iI co), .int (iI x), .int (iI y)]))) (hs : str X (wr w2 K) zw nw fw) (hck : ∀ k, 0 ≤ k → k < σ 5 → cd k ≠ c9) (hL2 : lstA X w2 lc ec2 kc2 (σ 5 + 1) (fun k => if k = σ 5 then c9 else cd k)) (hk2 : kc2 = 10) (he2 : (ec2 = ec ∧ 1 ≤ kc) ∨ frs w ec2) (hx : ∀ (q : Nat) (e : va_E), w q = some e → q ≠ lc → (q ≠ ec ∨ kc = 0) → w2 q = some e) : ownN X w2 K h (rcS σ n sd x y co fw 0) := by
  have hW : WF σ := hP.2.2.2.2.2.2.2.2.2.1.1
  have hL := hP.2.2.1
  have hNl := hL.nN hK3
  have wf := hW.1
  unfold WF0 at wf
  obtain ⟨τ, hτ⟩ : ∃ τ, τ = rcS σ n sd x y co fw 0 := ⟨_, rfl⟩
  have hdR : hangR σ τ n sd x y co (fun j => fw j - 97 + 1) := by rw [hτ]; exact rc_R hW.cap8 h5 hn (fun j _ _ => by rw [Int.zero_add])
  have hWτ : WF τ := hang_WF hW h5 hdR hn hsd hco (fun j j0 j1 => by have := hfw j j0 j1; exact ⟨by omega, by omega⟩) hwy
  rw [← hτ]
  obtain ⟨d5, d13, dlo, ⟨b0, b1, b2, b3, b4⟩, dlt, dce⟩ := hdR
  have hgm : ∀ (q : Nat) (e : va_E), wr w K q = some e → ¬ (q = lc ∨ (q = ec ∧ 1 ≤ kc)) → wr w2 K q = some e := fun q e h9 hn9 => wr_some.mpr ⟨(wr_some.mp h9).1, hx q e (wr_some.mp h9).2 (fun z => hn9 (Or.inl z)) (by omega)⟩
  have hxk : ∀ q, K q → w2 q ≠ none := fun q hq => kn_x (hKn q hq) (fun e h9 => hx q e h9 (fun z => hNl.1 (z ▸ hq)) (Or.inl (fun z => hNl.2 (z ▸ hq))))
  have hN2 : ¬ K ec2 := he2.elim (fun z9 => by rw [z9.1]; exact hNl.2) (fun z9 => z9.nN (ext.rf _) hKn)
  have hnw9 : n.toNat = nw := by omega
  have hPt := hP.capz (τ := τ) hgm (fun p p0 p1 p5 => d13 p p0 p1 p5) (fun cz r c0 c1 r0 r1 => dce cz r c0 (by omega) r0 (by omega)) (by rw [d5]; exact hL2.wr hNl.1 hN2) (Or.inr hk2) (fun hgc hgs => capsA.of hP.2.2.2.2.1 (fun k k0 k1 => (hW.2.2.1 k k0 k1).1.2) hgc (fun k k0 k1 => if hkd : k = σ 5 then Or.inr ⟨fw, (by rw [hkd, if_pos rfl, b0, b1, b2, b3, b4, hnw9]; exact ⟨zw, wr_some.mpr ⟨hcK, hc9⟩, hs⟩), (fun j j0 j1 => by rw [hkd] at j1 ⊢; rw [b0] at j1; have := dlt j j0 j1; simp only [] at this; omega)⟩ else Or.inl ⟨k, ⟨k0, by omega⟩, if_neg hkd, dlo k k0 (by omega)⟩) (fun k k2 a0 a1 b0 b1 e9 => set_inj hP.2.2.2.2.1.2 hck a0 (by omega) b0 (by omega) e9)) hWτ (fun z9 => he2.elim (fun z8 => by rw [z8.1]; exact hP.2.2.2.2.2.2.2.2.2.2.2.2 z8.2) (fun z8 => (z8.ne (ext.rf _) hker).symm))
  exact ⟨hPt.A, hxk, fun z => hxk _ z he3⟩
theorem rcS_5 {σ fw : Int → Int} {n sd x y co : Int} (hW : WF σ) (h5 : σ 5 < 8) (hn : 1 ≤ n ∧ n ≤ 8) : rcS σ n sd x y co fw 0 5 = σ 5 + 1 ∧ rcS σ n sd x y co fw 0 0 = σ 0 ∧ rcS σ n sd x y co fw 0 1 = σ 1 := by
  obtain ⟨d5, d13, -⟩ := rc_R (σ := σ) (n := n) (sd := sd) (x := x) (y := y) (co := co) (s := 0) (tx := fw) (f := fun j => fw j - 97 + 1) hW.cap8 h5 hn (fun j _ _ => by rw [Int.zero_add])
  exact ⟨d5, d13 0 (by decide) (by decide) (by decide), d13 1 (by decide) (by decide) (by decide)⟩
theorem rdI.hd {W Hh : Int} (hW : 8 ≤ W ∧ W ≤ 40) (hH : 6 ≤ Hh ∧ Hh ≤ 30) : rdI (apS (apS (apS (apS (lw 0) (5) (dgC W)) (5 + dlN W) (fun _ => 32)) (5 + dlN W + 1) (dgC Hh)) (5 + dlN W + 1 + dlN Hh) (fun _ => 59)) (5 + dlN W + 1 + dlN Hh + 1) (bgS (fun _ => 0) W Hh) 0 0 0 := by
  have d1 := dlN_p W
  have d2 := dlN_p Hh
  refine rdI_0 hW hH (fun j j0 j1 => ?_) (fun j j0 j1 => ?_) ?_ (fun j j0 j1 => ?_) ?_
  · rw [apS_l (by omega), apS_l (by omega), apS_l (by omega), apS_l (by omega)]
  · rw [apS_l (by omega), apS_l (by omega), apS_l (by omega), apS_g j0]
  · rw [apS_l (by omega), apS_l (by omega), apS_e (j := 0) (by omega) (by omega)]
  · rw [apS_l (by omega), apS_g j0]
  · rw [apS_e (j := 0) (by omega) (by omega)]
theorem rdI.dS {F : Int → Int} {M D : Int} {σ : Int → Int} {mk i : Int} (h : rdI F M σ mk 0 i) (hi : i < 402) (hD : 0 ≤ D ∧ D ≤ 30) : rdI (apS (apS (apS F (M) (lw 6)) (M + 6) (dgC D)) (M + 6 + dlN D) (fun _ => 59)) (M + 6 + dlN D + 1) (up σ 2 D) mk 1 (i + 1) := by
  have d1 := dlN_p D
  have hM := h.1
  refine h.dly hi hD (fun j j0 j1 => ?_) (fun j j0 j1 => ?_) (fun j j0 j1 => ?_) ?_
  · rw [apS_l (by omega), apS_l (by omega), apS_l (by omega)]
  · rw [apS_l (by omega), apS_l (by omega), apS_g j0]
  · rw [apS_l (by omega), apS_g j0]
  · rw [apS_e (j := 0) (by omega) (by omega)]
theorem rdI.sS {F : Int → Int} {M k x : Int} {σ : Int → Int} {mk dl i : Int} (h : rdI F M σ mk dl i) (hi : i < 402) (hk : 0 ≤ k ∧ k < 7) (hm : 0 ≤ mk ∧ mk < ((2 ^ k.toNat : Nat) : Int)) (hx : 0 ≤ x ∧ x < 1000) : rdI (apS (apS (apS (apS (apS F (M) (lw 7)) (M + 6) (dgC k)) (M + 6 + dlN k) (fun _ => 32)) (M + 6 + dlN k + 1) (dgC x)) (M + 6 + dlN k + 1 + dlN x) (fun _ => 59)) (M + 6 + dlN k + 1 + dlN x + 1) (up σ (6 + k) x) (orS mk k) dl (i + 1) ∧ 0 ≤ orS mk k ∧ orS mk k < ((2 ^ (k + 1).toNat : Nat) : Int) := by
  have d1 := dlN_p k
  have d2 := dlN_p x
  have hM := h.1
  refine h.stk hi hk hm hx (fun j j0 j1 => ?_) (fun j j0 j1 => ?_) (fun j j0 j1 => ?_) ?_ (fun j j0 j1 => ?_) ?_
  · rw [apS_l (by omega), apS_l (by omega), apS_l (by omega), apS_l (by omega), apS_l (by omega)]
  · rw [apS_l (by omega), apS_l (by omega), apS_l (by omega), apS_l (by omega), apS_g j0]
  · rw [apS_l (by omega), apS_l (by omega), apS_l (by omega), apS_g j0]
  · rw [apS_l (by omega), apS_l (by omega), apS_e (j := 0) (by omega) (by omega)]
  · rw [apS_l (by omega), apS_g j0]
  · rw [apS_e (j := 0) (by omega) (by omega)]
theorem rdI.cS {F fw gR : Int → Int} {M n x y co R sd : Int} {b : Bool} {σ : Int → Int} {mk dl i : Int} (h : rdI F M σ mk dl i) (hi : i < 402) (h5 : 0 ≤ σ 5 ∧ σ 5 < 8) (hn : 1 ≤ n ∧ n ≤ 8) (hco : 1 ≤ co ∧ co ≤ 6) (hx : 0 ≤ x ∧ x < σ 0) (hy : 0 ≤ y ∧ y < σ 1) (hw : σ 0 ≤ 40 ∧ σ 1 ≤ 30) (hfw : ∀ j, 0 ≤ j → j < n → 97 ≤ fw j ∧ fw j ≤ 122) (hli : liesS σ n x y = true) (hme : meetS σ n sd x y (-1) = false) (hsd : sd = bz b) (hR : (b = false ∧ R = 0) ∨ (b = true ∧ R = 5 ∧ gR = lw 2)) :
    rdI (apS (apS (apS (apS (apS (apS (apS (apS (apS (apS F (M) (lw 1)) (M + 8) fw) (M + 8 + n) gR) (M + 8 + n + R) (lw 4)) (M + 8 + n + R + 4) (dgC x)) (M + 8 + n + R + 4 + dlN x) (fun _ => 32)) (M + 8 + n + R + 4 + dlN x + 1) (dgC y)) (M + 8 + n + R + 4 + dlN x + 1 + dlN y) (lw 5)) (M + 8 + n + R + 4 + dlN x + 1 + dlN y + 4) (dgC co)) (M + 8 + n + R + 4 + dlN x + 1 + dlN y + 4 + dlN co) (fun _ => 59)) (M + 8 + n + R + 4 + dlN x + 1 + dlN y + 4 + dlN co + 1) (rcS σ n sd x y co fw 0) mk dl (i + 1) := by
  have d1 := dlN_p x
  have d2 := dlN_p y
  have d3 := dlN_p co
  have hM := h.1
  subst hsd
  have hR0 : R = 0 ∨ R = 5 := hR.elim (fun z => Or.inl z.2) (fun z => Or.inr z.2.1)
  refine h.cap hi h5 hn hco hx hy hw hfw hli hme (fun j j0 j1 => ?_) (fun j j0 j1 => ?_) (fun j j0 j1 => ?_) (hR.imp (fun z => z) (fun z => ⟨z.1, z.2.1, fun j j0 j1 => ?_⟩)) (fun j j0 j1 => ?_) (fun j j0 j1 => ?_) ?_ (fun j j0 j1 => ?_) (fun j j0 j1 => ?_) (fun j j0 j1 => ?_) ?_
  · rw [apS_l (by omega), apS_l (by omega), apS_l (by omega), apS_l (by omega), apS_l (by omega), apS_l (by omega), apS_l (by omega), apS_l (by omega), apS_l (by omega), apS_l (by omega)]
  · rw [apS_l (by omega), apS_l (by omega), apS_l (by omega), apS_l (by omega), apS_l (by omega), apS_l (by omega), apS_l (by omega), apS_l (by omega), apS_l (by omega), apS_g j0]
  · rw [apS_l (by omega), apS_l (by omega), apS_l (by omega), apS_l (by omega), apS_l (by omega), apS_l (by omega), apS_l (by omega), apS_l (by omega), apS_g j0]
  · have hR5 := z.2.1
    rw [apS_l (by omega), apS_l (by omega), apS_l (by omega), apS_l (by omega), apS_l (by omega), apS_l (by omega), apS_l (by omega), apS_g j0, z.2.2]
  · rw [apS_l (by omega), apS_l (by omega), apS_l (by omega), apS_l (by omega), apS_l (by omega), apS_l (by omega), apS_g j0]
  · rw [apS_l (by omega), apS_l (by omega), apS_l (by omega), apS_l (by omega), apS_l (by omega), apS_g j0]
  · rw [apS_l (by omega), apS_l (by omega), apS_l (by omega), apS_l (by omega), apS_e (j := 0) (by omega) (by omega)]
  · rw [apS_l (by omega), apS_l (by omega), apS_l (by omega), apS_g j0]
  · rw [apS_l (by omega), apS_l (by omega), apS_g j0]
  · rw [apS_l (by omega), apS_g j0]
  · rw [apS_e (j := 0) (by omega) (by omega)]
