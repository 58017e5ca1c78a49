/-! ===== the law's cloth changes ===== -/
theorem fc_inj {vm : Vm} {a b : String} {c : ClassId} (h1 : vm.findClass a = some c) (h2 : vm.findClass b = some c) : a = b := by
  obtain ⟨l1, p1, -⟩ := Array.findIdx?_eq_some_iff_getElem.mp h1
  obtain ⟨l2, p2, -⟩ := Array.findIdx?_eq_some_iff_getElem.mp h2
  simp only [Bool.and_eq_true, beq_iff_eq] at p1 p2
  exact p1.1.1.1.symm.trans p2.1.1.1
theorem Wd.zy {X : Cx} {w : Wo} {s : State} {H : Heap} (hW : Wd X w s H) : X.2.1 0 ≠ X.2.1 2 := fun e9 => by
  have h1 : s.vm.findClass "[I" = some (X.2.1 0) := (hW.2.1.1.2 0 _ rfl).2
  have h2 : s.vm.findClass "[B" = some (X.2.1 2) := (hW.2.1.1.2 2 _ rfl).2
  rw [e9] at h1
  exact absurd (fc_inj h1 h2) (by decide)
theorem aZ_aY {X : Cx} {n k : Nat} {f g : Int → Int} (hx : X.2.1 0 ≠ X.2.1 2) : (aZ X n f : va_E) ≠ aY X k g := fun z => by
  unfold aZ aY at z
  simp only [Sum.inl.injEq, Prod.mk.injEq] at z
  exact hx z.1
theorem ownP.gen {X : Cx} {v v2 : Wo} {h : Nat} {σ τ : Int → Int} {st lc ec kc lr er kr : Nat} {cd rwa rwb : Int → Nat} {P : Nat → Prop} (hP : ownP X v h σ st lc ec kc lr er kr cd rwa)
    (g : ∀ (q : Nat) (e : va_E), v q = some e → ¬ P q → v2 q = some e) (p1 : ∀ q fs, v q = some (.inr (11, fs)) → ¬ P q) (p2 : ∀ q n f, v q = some (aY X n f) → ¬ P q) (p3 : ∀ q fs, v q = some (.inr (9, fs)) → ¬ P q)
    (h0 : τ 0 = σ 0) (h1' : τ 1 = σ 1) (h4 : τ 4 = σ 4) (h5' : τ 5 = σ 5) (hcp : ∀ p, 13 ≤ p → p < 117 → τ p = σ p)
    (hh : v2 h = some (.inr (10, [.int (iI (τ 0)), .int (iI (τ 1)), .int (iI (τ 2)), .int (iI (τ 3)), .ref st, .ref lc, .ref lr, .int (iI (bz (decide (τ 4 = τ 1))))])))
    (hst : stkA X v2 st τ) (hlc : lstA X v2 lc ec kc (σ 5) cd) (hlr : lstA X v2 lr er kr (nrS σ) rwb) (hcl : clthA X v2 τ (nrS σ) rwb)
    (hem : ∀ c r, 0 ≤ c → c < σ 0 → nrS σ ≤ r → r < σ 1 → cellS τ c r = -1) (hWF : WF τ) (hrs : ∀ r, 0 ≤ r → r < nrS σ → rwb r ≠ st) : ownP X v2 h τ st lc ec kc lr er kr cd rwb := by
  obtain ⟨g1, g2, g3, hk, g5, g6, hr, g7, gem, ⟨gWF, hw0, hw1⟩, gd, gd4⟩ := hP
  have wf := gWF.1
  unfold WF0 at wf
  have hn : nrS τ = nrS σ := by unfold nrS; rw [h4, h1']
  have hok : ∀ k, 0 ≤ k → k < σ 5 → cp σ k 0 ≤ 8 := fun k k0 k1 => (gWF.2.2.1 k k0 k1).1.2
  refine ⟨hh, hst, ?_, hk, ?_, ?_, hr, ?_, ?_, ⟨hWF, by omega, by omega⟩, ?_, gd4⟩
  · rw [h5']; exact hlc
  · exact (g5.k g p1 p2 p3).cg h5' (fun k j k0 k1 j0 j1 => hcp _ (by omega) (by omega)) hok
  · rw [hn]; exact hlr
  · rw [hn]; exact hcl
  · rw [hn, h0, h1']; exact hem
  · rw [hn]; exact hrs
/-- the stocks are others -/
theorem ownP.stk {X : Cx} {v v2 : Wo} {h : Nat} {σ τ fs2 : Int → Int} {st lc ec kc lr er kr : Nat} {cd rwa : Int → Nat} (hP : ownP X v h σ st lc ec kc lr er kr cd rwa) (hx : X.2.1 0 ≠ X.2.1 2)
    (g : ∀ (q : Nat) (e : va_E), v q = some e → ¬ q = st → v2 q = some e) (hst : v2 st = some (aZ X 7 fs2)) (hτ : ∀ p, (p < 6 ∨ 13 ≤ p) → τ p = σ p) (hf : ∀ c, 0 ≤ c → c < 7 → fs2 c = τ (6 + c)) (hWF : WF τ) : ownP X v2 h τ st lc ec kc lr er kr cd rwa := by
  have hP0 := hP
  obtain ⟨g1, g2, g3, hk, g5, g6, hr, g7, gem, ⟨gWF, hw0, hw1⟩, gd, gd4⟩ := hP
  have wf := gWF.1
  unfold WF0 at wf
  have hnc := nr_cases (show nrS σ = _ from rfl) wf.2.2.2.2.1.2
  obtain ⟨fs, g2a, -⟩ := g2
  have o1 : ∀ {q k : Nat} {fs : List Value}, v q = some (.inr (k, fs)) → ¬ q = st := fun z e9 => by rw [e9, g2a] at z; cases z
  have o2 : ∀ {q n : Nat} {f : Nat → Option Nat}, v q = some (aR X 5 n f) → ¬ q = st := fun z e9 => by rw [e9, g2a] at z; exact aZ_aR (Option.some.inj z)
  have hce : ∀ c r, 0 ≤ c → 0 ≤ r → cellS τ c r = cellS σ c r := fun c r c0 r0 => hτ _ (by omega)
  refine hP0.gen (P := fun q => q = st) g (fun q fs z => o1 z) (fun q n f z e9 => by rw [e9, g2a] at z; exact aZ_aY hx (Option.some.inj z)) (fun q fs z => o1 z) (hτ 0 (by decide)) (hτ 1 (by decide)) (hτ 4 (by decide)) (hτ 5 (by decide)) (fun p p0 p1 => hτ p (by omega)) ?_ ⟨fs2, hst, hf⟩ (g3.k g (fun fs z => o1 z) (fun n gc _ z => o2 z)) (g6.k g (fun fs z => o1 z) (fun n gc _ z => o2 z)) ((g7.k g (fun r f r0 r1 z => gd r r0 r1)).cg (hτ 0 (by decide)) (Int.le_refl _) (fun c r c0 c1 r0 r1 => hce c r c0 r0)) (fun c r c0 c1 r0 r1 => (hce c r c0 (by omega)).trans (gem c r c0 c1 r0 r1)) hWF gd
  rw [g _ _ g1 (o1 g1), hτ 0 (by decide), hτ 1 (by decide), hτ 2 (by decide), hτ 3 (by decide), hτ 4 (by decide)]
/-- a row is another array -/
theorem ownP.row {X : Cx} {v v2 : Wo} {h : Nat} {σ τ f9 : Int → Int} {st lc ec kc lr er kr a9 : Nat} {cd rwa : Int → Nat} {rn : Int} (hP : ownP X v h σ st lc ec kc lr er kr cd rwa) (hrn : 0 ≤ rn ∧ rn < nrS σ)
    (g : ∀ (q : Nat) (e : va_E), v q = some e → ¬ q = er → v2 q = some e) (hL : lstA X v2 lr er kr (nrS σ) (fun k => if k = rn then a9 else rwa k)) (ha : v2 a9 = some (aZ X (σ 0).toNat f9)) (hne : (∀ r, 0 ≤ r → r < nrS σ → rwa r ≠ a9) ∧ a9 ≠ st)
    (hτ : ∀ p, p < 117 → τ p = σ p) (hce : ∀ c r, 0 ≤ c → c < σ 0 → 0 ≤ r → r < σ 1 → r ≠ rn → cellS τ c r = cellS σ c r) (hf : ∀ c, 0 ≤ c → c < σ 0 → f9 c = cellS τ c rn) (hWF : WF τ) : ownP X v2 h τ st lc ec kc lr er kr cd (fun k => if k = rn then a9 else rwa k) := by
  have hP0 := hP
  obtain ⟨g1, g2, g3, hk, g5, g6, hr, g7, gem, ⟨gWF, hw0, hw1⟩, gd, gd4⟩ := hP
  have wf := gWF.1
  unfold WF0 at wf
  have hnc := nr_cases (show nrS σ = _ from rfl) wf.2.2.2.2.1.2
  obtain ⟨⟨mr, g6a⟩, gr, g6b, g6c, -⟩ := g6
  have g6e : v er = some (aR X 5 kr gr) := g6b.elim (fun z => by omega) (fun z => z.1)
  have o1 : ∀ {q k : Nat} {fs : List Value}, v q = some (.inr (k, fs)) → ¬ q = er := fun z e9 => by rw [e9, g6e] at z; cases z
  have o2 : ∀ {q n : Nat} {f : Int → Int}, v q = some (aZ X n f) → ¬ q = er := fun z e9 => by rw [e9, g6e] at z; exact aZ_aR (Option.some.inj z).symm
  refine hP0.gen (P := fun q => q = er) g (fun q fs z => o1 z) (fun q n f z e9 => by rw [e9, g6e] at z; exact aY_aR (Option.some.inj z).symm) (fun q fs z => o1 z) (hτ 0 (by decide)) (hτ 1 (by decide)) (hτ 4 (by decide)) (hτ 5 (by decide)) (fun p p0 p1 => hτ p (by omega)) ?_ ?_ (g3.k g (fun fs z => o1 z) (fun n gc z8 z e9 => gd4.2 z8 e9)) hL ⟨?_, ?_⟩ (fun c r c0 c1 r0 r1 => (hce c r c0 c1 (by omega) r1 (by omega)).trans (gem c r c0 c1 r0 r1)) hWF ?_
  · rw [g _ _ g1 (o1 g1), hτ 0 (by decide), hτ 1 (by decide), hτ 2 (by decide), hτ 3 (by decide), hτ 4 (by decide)]
  · obtain ⟨fs, g2a, g2b⟩ := g2.k g (fun fs z => o2 z)
    exact ⟨fs, g2a, fun c c0 c1 => (g2b c c0 c1).trans (hτ _ (by omega)).symm⟩
  · intro r r0 r1
    first | dsimp only | skip
    rw [hτ 0 (by decide)]
    by_cases hr9 : r = rn
    · rw [if_pos hr9]
      exact ⟨f9, ha, fun c c0 c1 => by rw [hr9]; exact hf c c0 c1⟩
    · rw [if_neg hr9]
      obtain ⟨f, e1, e2⟩ := g7.1 r r0 r1
      exact ⟨f, g _ _ e1 (o2 e1), fun c c0 c1 => (e2 c c0 c1).trans (hce c r c0 c1 r0 (by omega) hr9).symm⟩
  · intro r r2 a b c d e
    first | dsimp only at e | skip
    by_cases h1 : r = rn
    · by_cases h2 : r2 = rn
      · omega
      · rw [if_pos h1, if_neg h2] at e
        exact absurd e.symm (hne.1 r2 c d)
    · by_cases h2 : r2 = rn
      · rw [if_neg h1, if_pos h2] at e
        exact absurd e (hne.1 r a b)
      · rw [if_neg h1, if_neg h2] at e
        exact g7.2 r r2 a b c d e
  · intro r r0 r1
    first | dsimp only | skip
    by_cases h1 : r = rn
    · rw [if_pos h1]; exact hne.2
    · rw [if_neg h1]; exact gd r r0 r1
/-- cells of a row are others -/
theorem ownP.cel {X : Cx} {v v2 : Wo} {h : Nat} {σ τ f9 : Int → Int} {st lc ec kc lr er kr : Nat} {cd rwa : Int → Nat} {rn : Int} (hP : ownP X v h σ st lc ec kc lr er kr cd rwa) (hx : X.2.1 0 ≠ X.2.1 2) (hrn : 0 ≤ rn ∧ rn < nrS σ)
    (g : ∀ (q : Nat) (e : va_E), v q = some e → ¬ q = rwa rn → v2 q = some e) (ha : v2 (rwa rn) = some (aZ X (σ 0).toNat f9))
    (hτ : ∀ p, p < 117 → τ p = σ p) (hce : ∀ c r, 0 ≤ c → c < σ 0 → 0 ≤ r → r < σ 1 → r ≠ rn → cellS τ c r = cellS σ c r) (hf : ∀ c, 0 ≤ c → c < σ 0 → f9 c = cellS τ c rn) (hWF : WF τ) : ownP X v2 h τ st lc ec kc lr er kr cd rwa := by
  have hP0 := hP
  obtain ⟨g1, g2, g3, hk, g5, g6, hr, g7, gem, ⟨gWF, hw0, hw1⟩, gd, gd4⟩ := hP
  have wf := gWF.1
  unfold WF0 at wf
  have hnc := nr_cases (show nrS σ = _ from rfl) wf.2.2.2.2.1.2
  obtain ⟨f0, h0, -⟩ := g7.1 rn hrn.1 hrn.2
  have o1 : ∀ {q k : Nat} {fs : List Value}, v q = some (.inr (k, fs)) → ¬ q = rwa rn := fun z e9 => by rw [e9, h0] at z; cases z
  have o2 : ∀ {q n : Nat} {f : Nat → Option Nat}, v q = some (aR X 5 n f) → ¬ q = rwa rn := fun z e9 => by rw [e9, h0] at z; exact aZ_aR (Option.some.inj z)
  refine hP0.gen (P := fun q => q = rwa rn) g (fun q fs z => o1 z) (fun q n f z e9 => by rw [e9, h0] at z; exact aZ_aY hx (Option.some.inj z)) (fun q fs z => o1 z) (hτ 0 (by decide)) (hτ 1 (by decide)) (hτ 4 (by decide)) (hτ 5 (by decide)) (fun p p0 p1 => hτ p (by omega)) ?_ ?_ (g3.k g (fun fs z => o1 z) (fun n gc _ z => o2 z)) (g6.k g (fun fs z => o1 z) (fun n gc _ z => o2 z)) ⟨?_, g7.2⟩ (fun c r c0 c1 r0 r1 => (hce c r c0 c1 (by omega) r1 (by omega)).trans (gem c r c0 c1 r0 r1)) hWF gd
  · rw [g _ _ g1 (o1 g1), hτ 0 (by decide), hτ 1 (by decide), hτ 2 (by decide), hτ 3 (by decide), hτ 4 (by decide)]
  · obtain ⟨fs, g2a, g2b⟩ := g2.k g (fun fs z e9 => gd rn hrn.1 hrn.2 e9.symm)
    exact ⟨fs, g2a, fun c c0 c1 => (g2b c c0 c1).trans (hτ _ (by omega)).symm⟩
  · intro r r0 r1
    rw [hτ 0 (by decide)]
    by_cases hr9 : r = rn
    · rw [hr9]
      exact ⟨f9, ha, hf⟩
    · obtain ⟨f, e1, e2⟩ := g7.1 r r0 r1
      exact ⟨f, g _ _ e1 (fun e9 => hr9 (g7.2 r rn r0 r1 hrn.1 hrn.2 e9)), fun c c0 c1 => (e2 c c0 c1).trans (hce c r c0 c1 r0 (by omega) hr9).symm⟩
