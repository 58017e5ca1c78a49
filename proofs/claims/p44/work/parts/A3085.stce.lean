/-! ===== stocks and the cells of a row are others ===== -/
theorem ownP.sc {X : Cx} {v v2 : Wo} {h : Nat} {σ τ fs2 f9 : Int → Int} {st lc ec kc lr er kr : Nat} {cd rwa : Int → Nat} {rn : Int} (hP : ownP X v h σ st lc ec kc lr er kr cd rwa) (hx : X.2.1 0 ≠ X.2.1 2) (hrn : 0 ≤ rn ∧ rn < nrS σ)
    (g : ∀ (q : Nat) (e : va_E), v q = some e → ¬ (q = st ∨ q = rwa rn) → v2 q = some e) (hst : v2 st = some (aZ X 7 fs2)) (ha : v2 (rwa rn) = some (aZ X (σ 0).toNat f9))
    (hτ : ∀ p, p < 117 → (p < 6 ∨ 13 ≤ p) → τ p = σ p) (hfs : ∀ c, 0 ≤ c → c < 7 → fs2 c = τ (6 + c)) (hce : ∀ c r, 0 ≤ c → c < σ 0 → 0 ≤ r → r < σ 1 → r ≠ rn → cellS τ c r = cellS σ c r) (hf : ∀ c, 0 ≤ c → c < σ 0 → f9 c = cellS τ c rn) (hWF : WF τ) : ownP X v2 h τ st lc ec kc lr er kr cd rwa := by
  have hP0 := hP
  obtain ⟨g1, ⟨fs, g2a, g2b⟩, g3, hk, g5, g6, hr, g7, gem, ⟨gWF, hw0, hw1⟩, gd, gd4⟩ := hP
  have wf := gWF.1
  unfold WF0 at wf
  have hnc := nr_cases (show nrS σ = _ from rfl) wf.2.2.2.2.1.2
  obtain ⟨f0, h7a, -⟩ := g7.1 rn hrn.1 hrn.2
  have o1 : ∀ {q k : Nat} {fs : List Value}, v q = some (.inr (k, fs)) → ¬ (q = st ∨ q = rwa rn) := fun z e9 => e9.elim (fun e8 => by rw [e8, g2a] at z; cases z) (fun e8 => by rw [e8, h7a] at z; cases z)
  have o2 : ∀ {q n : Nat} {f : Nat → Option Nat}, v q = some (aR X 5 n f) → ¬ (q = st ∨ q = rwa rn) := fun z e9 => e9.elim (fun e8 => by rw [e8, g2a] at z; exact aZ_aR (Option.some.inj z)) (fun e8 => by rw [e8, h7a] at z; exact aZ_aR (Option.some.inj z))
  have t0 := hτ 0 (by decide) (by decide)
  refine hP0.gen (P := fun q => q = st ∨ q = rwa rn) g (fun q fs z => o1 z) (fun q n f z e9 => e9.elim (fun e8 => by rw [e8, g2a] at z; exact aZ_aY hx (Option.some.inj z)) (fun e8 => by rw [e8, h7a] at z; exact aZ_aY hx (Option.some.inj z))) (fun q fs z => o1 z) t0 (hτ 1 (by decide) (by decide)) (hτ 4 (by decide) (by decide)) (hτ 5 (by decide) (by decide)) (fun p p0 p1 => hτ p p1 (by omega)) ?_ ⟨fs2, hst, hfs⟩ (g3.k g (fun fs z => o1 z) (fun n gc _ z => o2 z)) (g6.k g (fun fs z => o1 z) (fun n gc _ z => o2 z)) ⟨fun r r0 r1 => ?_, g7.2⟩ (fun c r c0 c1 r0 r1 => (hce c r c0 c1 (by omega) r1 (by omega)).trans (gem c r c0 c1 r0 r1)) hWF gd
  · rw [g _ _ g1 (o1 g1), t0, hτ 1 (by decide) (by decide), hτ 2 (by decide) (by decide), hτ 3 (by decide) (by decide), hτ 4 (by decide) (by decide)]
  · rw [t0]
    by_cases e : r = rn
    · rw [e]; exact ⟨f9, ha, hf⟩
    · obtain ⟨f, e1, e2⟩ := g7.1 r r0 r1
      exact ⟨f, g _ _ e1 (fun e9 => e9.elim (gd r r0 r1) (fun e8 => e (g7.2 r rn r0 r1 hrn.1 hrn.2 e8))), fun c c0 c1 => (e2 c c0 c1).trans (hce c r c0 c1 r0 (by omega) e).symm⟩
theorem stk_id {τ f : Int → Int} (h : ∀ c, 0 ≤ c → c < 7 → f c = τ (6 + c)) : stkS τ f = τ := by
  funext p
  unfold stkS
  by_cases e : 6 ≤ p ∧ p < 13
  · rw [if_pos e, h _ (by omega) (by omega), show 6 + (p - 6) = p by omega]
  · rw [if_neg e]
theorem jo_jc {τ : Int → Int} {r : Int} (h : ∀ c, 0 ≤ c → c < τ 0 → 0 ≤ cellS τ c r) : joS τ r = jcS τ r := by
  unfold joS jcS
  refine cnt_c (fun i i0 i1 => ?_)
  have h1 := h i i0 (by omega)
  have h2 := h (i + 1) (by omega) (by omega)
  unfold wvS
  rw [if_neg (by omega), if_neg (by omega)]
theorem ac_8 {af ac : Int → Int} {M : Int} (h : ∀ k, 0 ≤ k → k < 9 → af k = ac k) : ∀ k, 0 ≤ k → k < 9 → up (up af 8 (af 8 + M)) 0 (up af 8 (af 8 + M) 0 + 1) k = up (up ac 0 (ac 0 + 1)) 8 (ac 8 + M) k := fun k k0 k1 => by
  by_cases e : k = 0
  · rw [e, up_s, up_n (by decide), up_n (by decide), up_s, h 0 (by decide) (by decide)]
  by_cases e8 : k = 8
  · rw [e8, up_n (by decide), up_s, up_s, h 8 (by decide) (by decide)]
  rw [up_n e, up_n e8, up_n e8, up_n e]
  exact h k k0 k1
theorem ownN.wf {X : Cx} {w : Wo} {N : Nat → Prop} {h : Nat} {σ : Int → Int} (hO : ownN X w N h σ) : WF σ := by
  obtain ⟨st, lc, ec, kc, lr, er, kr, cd, rwa, hP, -⟩ := hO.1.P
  exact hP.2.2.2.2.2.2.2.2.2.1.1
theorem if_c2 {p q : Prop} [Decidable p] [Decidable q] {a b : Int} (h : p ↔ q) : (if p then a else b) = if q then a else b := by
  by_cases hp : p
  · rw [if_pos hp, if_pos (h.mp hp)]
  · rw [if_neg hp, if_neg (fun z => hp (h.mpr z))]
