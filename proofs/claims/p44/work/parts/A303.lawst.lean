/-! ===== the law's state: the own cloth, the class, the draws, the accounts ===== -/
theorem outY.ne {y a q : Nat} (h : outY y a) (q0 : y ≤ q) (q1 : q < y + 321) : q ≠ a := fun e => by
  unfold outY at h
  omega
theorem outY.nN {y a : Nat} {N : Nat → Prop} (hN : ∀ q, y ≤ q → q < y + 321 → N q) (h : ¬ N a) : outY y a := by
  unfold outY
  by_cases h1 : a < y
  · exact Or.inl h1
  · by_cases h2 : y + 321 ≤ a
    · exact Or.inr h2
    · exact absurd (hN a (by omega) (by omega)) h
theorem outY.fr {y a : Nat} {w : Wo} (h : frs w a) (hk : w (y + 320) ≠ none) : outY y a := by
  unfold outY
  cases h2 : w (y + 320) with
  | none => exact absurd h2 hk
  | some e => exact Or.inr (by have := h _ _ h2; omega)
theorem kn_e {w : Wo} {q : Nat} {e : va_E} (h : w q = some e) : w q ≠ none := by rw [h]; simp
theorem gridAt.kn {X : Cx} {w : Wo} {a : Nat} {gr : Int → Int → Int} (h : gridAt X w a gr) : w a ≠ none ∧ w (a + 1) ≠ none := by
  obtain ⟨h1, g, h2, -⟩ := h
  exact ⟨kn_e h1, kn_e h2⟩
theorem lmA.kn {X : Cx} {w : Wo} {a : Nat} {σ : Int → Int} (h : lmA X w a σ) : ∀ q, a ≤ q → q < a + 25 → w q ≠ none := fun q q0 q1 => by
  obtain ⟨h1, ⟨g1, h2, -⟩, ⟨g2, h3⟩, ⟨t, h4, -⟩, h5, h6, -⟩ := h
  by_cases e : q < a + 7
  · rcases (show q = a ∨ q = a + 1 ∨ q = a + 1 + 1 ∨ q = a + 3 ∨ q = a + 3 + 1 ∨ q = a + 5 ∨ q = a + 6 by omega) with rfl | rfl | rfl | rfl | rfl | rfl | rfl
    · exact kn_e h1
    · exact h2.kn.1
    · exact h2.kn.2
    · exact h3.kn.1
    · exact h3.kn.2
    · exact kn_e h4
    · exact kn_e h5
  · obtain ⟨n, sd, x, y9, co, f, h7, h8⟩ := h6 ((q - a - 7) / 2) (by omega)
    by_cases e2 : (q - a - 7) % 2 = 0
    · rw [show q = a + 7 + 2 * ((q - a - 7) / 2) by omega]
      exact kn_e h7
    · rw [show q = a + 7 + 2 * ((q - a - 7) / 2) + 1 by omega]
      exact kn_e h8
theorem hisAt.kn {X : Cx} {w : Wo} {y : Nat} {nx sz : Int} {pas : Int → Int → Int} (h : hisAt X w y nx sz pas) : ∀ q, y ≤ q → q < y + 202 → w q ≠ none := fun q q0 q1 => by
  obtain ⟨h1, h2, -, h4, -⟩ := h
  by_cases e0 : q = y
  · rw [e0]; exact kn_e h1
  by_cases e1 : q = y + 1
  · rw [e1]; exact kn_e h2
  obtain ⟨τ, h5, -⟩ := h4 ((q - y - 2) / 25) (by omega)
  exact h5.kn q (by omega) (by omega)
theorem KS.kn {X : Cx} {w : Wo} {y : Nat} {σ ac : Int → Int} {nx sz : Int} {pas : Int → Int → Int} (h : KS X w y σ nx sz pas ac) : ∀ q, y ≤ q → q < y + 321 → w q ≠ none := fun q q0 q1 => by
  obtain ⟨su, tx, M, oo, rv, c0, c1, c2, c3, c4, c5, c6, c7, c8, c9, c10, ⟨am, c11⟩, ⟨n, sd, x9, y9, co, f, c12⟩, c13, c14⟩ := h
  obtain ⟨⟨τ, d1, -⟩, ⟨k1, k2, d2⟩, ⟨b1, b2, b3, b4, b5, b6, d3⟩⟩ := c9
  obtain ⟨s1, s2, s3, s4, s5, s6, s7, s8, s9, s0, d4⟩ := c10
  by_cases e0 : q < y + 26
  · by_cases e1 : q = y
    · rw [e1]; exact kn_e c0
    · exact c1.1.kn q (by omega) (by omega)
  by_cases e2 : q < y + 51
  · exact d1.kn q (by omega) (by omega)
  by_cases e3 : q < y + 53
  · rcases (show q = y + 51 ∨ q = y + 51 + 1 by omega) with rfl | rfl
    · exact kn_e c12.1
    · exact kn_e c12.2
  by_cases e4 : q < y + 255
  · exact c2.kn q (by omega) (by omega)
  by_cases e5 : q < y + 305
  · exact c14 q (by omega) e5
  by_cases e6 : q < y + 315
  · rcases (show q = y + 305 ∨ q = y + 306 ∨ q = y + 307 ∨ q = y + 308 ∨ q = y + 309 ∨ q = y + 310 ∨ q = y + 311 ∨ q = y + 312 ∨ q = y + 313 ∨ q = y + 313 + 1 by omega) with rfl | rfl | rfl | rfl | rfl | rfl | rfl | rfl | rfl | rfl
    · exact kn_e c3
    · exact kn_e c11
    · exact kn_e c4
    · exact kn_e c5
    · exact kn_e c6
    · exact kn_e c7
    · exact kn_e c8
    · exact kn_e d2
    · exact kn_e d3.1
    · exact kn_e d3.2
  · rcases (show q = y + 315 ∨ q = y + 316 ∨ q = y + 317 ∨ q = y + 318 ∨ q = y + 319 ∨ q = y + 320 by omega) with rfl | rfl | rfl | rfl | rfl | rfl
    · exact kn_e d4.1
    · exact kn_e d4.2.1
    · exact kn_e d4.2.2.1
    · exact kn_e d4.2.2.2.1
    · exact kn_e d4.2.2.2.2.1
    · exact kn_e d4.2.2.2.2.2
theorem KC.mv {X : Cx} {w w2 : Wo} {y : Nat} {su nx sz M : Int} {σ ac tx oo rv : Int → Int} {pas : Int → Int → Int} (h : KC X w y su σ nx sz pas ac tx M oo rv) (hf : ∀ q : Nat, y ≤ q → q < y + 321 → w2 q = w q) : KC X w2 y su σ nx sz pas ac tx M oo rv := by
  obtain ⟨c0, c1, c2, c3, c4, c5, c6, c7, c8, c9, c10, ⟨am, c11⟩, ⟨n, sd, x9, y9, co, f, c12⟩, c13, c14⟩ := h
  exact ⟨(hf _ (by omega) (by omega)).trans c0, c1.mv (fun q q0 q1 => hf q (by omega) (by omega)), c2.mv (fun q q0 q1 => hf q (by omega) (by omega)), (hf _ (by omega) (by omega)).trans c3, (hf _ (by omega) (by omega)).trans c4, (hf _ (by omega) (by omega)).trans c5, (hf _ (by omega) (by omega)).trans c6, (hf _ (by omega) (by omega)).trans c7, (hf _ (by omega) (by omega)).trans c8, c9.mv (fun q q0 q1 q2 => hf q (by omega) (by omega)), c10.mv (fun q q0 q1 => hf q (by omega) (by omega)), ⟨am, (hf _ (by omega) (by omega)).trans c11⟩, ⟨n, sd, x9, y9, co, f, c12.mv (hf _ (by omega) (by omega)) (hf _ (by omega) (by omega))⟩, c13, fun q q0 q1 => by rw [hf q (by omega) (by omega)]; exact c14 q q0 q1⟩
theorem KS.mv {X : Cx} {w w2 : Wo} {y : Nat} {σ ac : Int → Int} {nx sz : Int} {pas : Int → Int → Int} (h : KS X w y σ nx sz pas ac) (hf : ∀ q : Nat, y ≤ q → q < y + 321 → w2 q = w q) : KS X w2 y σ nx sz pas ac := by
  obtain ⟨su, tx, M, oo, rv, h1⟩ := h
  exact ⟨su, tx, M, oo, rv, h1.mv hf⟩
theorem KS.ex {X : Cx} {w w2 : Wo} {y : Nat} {σ ac : Int → Int} {nx sz : Int} {pas : Int → Int → Int} (h : KS X w y σ nx sz pas ac) (hf : ∀ (q : Nat) (e : va_E), y ≤ q → q < y + 321 → w q = some e → w2 q = some e) : KS X w2 y σ nx sz pas ac :=
  h.mv (fun q q0 q1 => eqK (h.kn q q0 q1) (fun e h9 => hf q e q0 q1 h9))
def LwS (X : Cx) (w : Wo) (N : Nat → Prop) (y h gq aq : Nat) (σ af : Int → Int) : Prop :=
  ownN X w N h σ ∧ (∃ (nx sz : Int) (pas : Int → Int → Int) (ac : Int → Int), KS X w y σ nx sz pas ac ∧ ∀ k, 0 ≤ k → k < 9 → af k = ac k) ∧ (∃ gf, w gq = some (aZ X 1 gf)) ∧ w aq = some (aZ X 9 af) ∧ (outY y gq ∧ outY y aq ∧ gq ≠ aq) ∧ ((∀ q, y ≤ q → q < y + 321 → N q) ∧ N gq ∧ N aq)
/-- the own cloth where the class, the draws and the accounts alone have changed -/
theorem ownN.cl {X : Cx} {w w2 : Wo} {N : Nat → Prop} {h y gq aq : Nat} {σ : Int → Int} {e1 e2 : va_E} (hO : ownN X w N h σ) (hN : (∀ q, y ≤ q → q < y + 321 → N q) ∧ N gq ∧ N aq)
    (hx : ∀ (q : Nat) (e : va_E), w q = some e → q ≠ gq → q ≠ aq → outY y q → w2 q = some e) (h1 : w2 gq = some e1) (h2 : w2 aq = some e2) (hk : ∀ q, y ≤ q → q < y + 321 → w2 q ≠ none) : ownN X w2 N h σ :=
  ⟨hO.1.ex (fun q e h9 => (by
    have hn := (wr_some.mp h9).1
    exact wr_some.mpr ⟨hn, hx q e (wr_some.mp h9).2 (fun z => hn (z ▸ hN.2.1)) (fun z => hn (z ▸ hN.2.2)) (outY.nN hN.1 hn)⟩)), fun q hq => (by
    by_cases g1 : q = gq
    · rw [g1, h1]; simp
    by_cases g2 : q = aq
    · rw [g2, h2]; simp
    by_cases g3 : y ≤ q ∧ q < y + 321
    · exact hk q g3.1 g3.2
    · have h3 := hO.2.1 q hq
      cases h4 : w q with
      | none => exact absurd h4 h3
      | some e => rw [hx q e h4 g1 g2 (by unfold outY; omega)]; simp), hO.2.2⟩
theorem LwS.fin {X : Cx} {w w2 : Wo} {N : Nat → Prop} {h y gq aq : Nat} {σ af ac gf : Int → Int} {nx sz : Int} {pas : Int → Int → Int} (hO : ownN X w N h σ) (hN : (∀ q, y ≤ q → q < y + 321 → N q) ∧ N gq ∧ N aq) (ho : outY y gq ∧ outY y aq ∧ gq ≠ aq)
    (hx : ∀ (q : Nat) (e : va_E), w q = some e → q ≠ gq → q ≠ aq → outY y q → w2 q = some e) (hg : w2 gq = some (aZ X 1 gf)) (ha : w2 aq = some (aZ X 9 af)) (hK : KS X w2 y σ nx sz pas ac) (hac : ∀ k, 0 ≤ k → k < 9 → af k = ac k) : LwS X w2 N y h gq aq σ af :=
  ⟨hO.cl hN hx hg ha hK.kn, ⟨nx, sz, pas, ac, hK, hac⟩, ⟨gf, hg⟩, ha, ho, hN⟩
theorem ac_is {af ac : Int → Int} {i r : Int} (h : ∀ k, 0 ≤ k → k < 9 → af k = ac k) (hi : i = r) (hr : 0 ≤ r ∧ r < 9) : ∀ k, 0 ≤ k → k < 9 → up af i (af i + 1) k = up ac r (ac r + 1) k := fun k k0 k1 => by
  rw [hi, h r hr.1 hr.2]
  by_cases e : k = r
  · rw [e, up_s, up_s]
  · rw [up_n e, up_n e]; exact h k k0 k1
theorem ac_1 {af : Int → Int} {i r : Int} (hi : i = r) (hr : r ≠ 8) : up af i (af i + 1) 8 = af 8 := by rw [hi, up_n (fun z => hr z.symm)]
/-- the cloth's own fields (delay, looked) are others -/
theorem ownP.hd {X : Cx} {v v2 : Wo} {h : Nat} {σ τ : Int → Int} {st lc ec kc lr er kr : Nat} {cd rwa : Int → Nat} (hP : ownP X v h σ st lc ec kc lr er kr cd rwa)
    (g : ∀ (q : Nat) (e : va_E), v q = some e → ¬ q = h → v2 q = some e) (hτ : ∀ p, p ≠ 2 → p ≠ 3 → τ p = σ p)
    (hh : v2 h = some (.inr (10, [.int (iI (τ 0)), .int (iI (τ 1)), .int (iI (τ 2)), .int (iI (τ 3)), .ref st, .ref lc, .ref lr, .int (iI (bz (decide (τ 4 = τ 1))))]))) (hWF : WF τ) : ownP X v2 h τ st lc ec kc lr er kr cd rwa := by
  have hP0 := hP
  obtain ⟨g1, g2, g3, hk, g5, g6, hr, g7, gem, ⟨gWF, hw0, hw1⟩, gd, gd4⟩ := hP
  obtain ⟨fs, g2a, g2b⟩ := g2
  have o0 : ∀ {q : Nat} {e : va_E}, v q = some e → (∀ fs, e ≠ .inr (10, fs)) → ¬ q = h := fun z n e9 => by rw [e9, g1] at z; exact n _ (Option.some.inj z).symm
  have hce : ∀ c r, 0 ≤ c → 0 ≤ r → cellS τ c r = cellS σ c r := fun c r c0 r0 => hτ _ (by omega) (by omega)
  refine hP0.gen (P := fun q => q = h) g (fun q fs z => o0 z (fun _ e => by cases e)) (fun q n f z => o0 z (fun _ e => by cases e)) (fun q fs z => o0 z (fun _ e => by cases e)) (hτ 0 (by decide) (by decide)) (hτ 1 (by decide) (by decide)) (hτ 4 (by decide) (by decide)) (hτ 5 (by decide) (by decide)) (fun p p0 p1 => hτ p (by omega) (by omega)) hh ⟨fs, g _ _ g2a (o0 g2a (fun _ e => by cases e)), fun c c0 c1 => (g2b c c0 c1).trans (hτ _ (by omega) (by omega)).symm⟩ (g3.k g (fun fs z => o0 z (fun _ e => by cases e)) (fun n gc _ z => o0 z (fun _ e => by cases e))) (g6.k g (fun fs z => o0 z (fun _ e => by cases e)) (fun n gc _ z => o0 z (fun _ e => by cases e))) ((g7.k g (fun r f r0 r1 z => o0 z (fun _ e => by cases e))).cg (hτ 0 (by decide) (by decide)) (Int.le_refl _) (fun c r c0 c1 r0 r1 => hce c r c0 r0)) (fun c r c0 c1 r0 r1 => (hce c r c0 (by have wf := gWF.1; unfold WF0 at wf; have hnc := nr_cases (show nrS σ = _ from rfl) wf.2.2.2.2.1.2; omega)).trans (gem c r c0 c1 r0 r1)) hWF gd
