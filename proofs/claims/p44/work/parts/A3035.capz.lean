/-! ===== captions are hung, moved, dropped: the own cloth ===== -/
theorem c_lad3 (l : Launch) (X : Cx) (w : Wo) (a v ec kc : Nat) (n : Int) (cd : Int → Nat) (hL : lstA X w a ec kc n cd) (hn : 0 ≤ n ∧ n ≤ 13) (hk : kc = 0 ∨ kc = 10 ∨ kc = 15) (hel : ∀ k, 0 ≤ k → k < n → elO X w (cd k)) (hv : elO X w v) : CM l X yJx4a65c_add_9ea2d cJx4a65c_add_9ea2d 2 (some (.boolean)) (rmG 6 1 21 154) [.ref a, .ref v] w (some (.int (iI (bz true)))) (fun w' => ∃ (ec2 kc2 : Nat), (lstA X w' a ec2 kc2 (n + 1) (fun k => if k = n then v else cd k)) ∧ (kc2 = 10 ∨ kc2 = 15) ∧ ((kc = 0 ∨ kc = 10) → n < 10 → kc2 = 10) ∧ ((ec2 = ec ∧ 1 ≤ kc) ∨ frs w ec2) ∧ (a ≠ ec2) ∧ ∀ (q : Nat) (e : va_E), w q = some e → q ≠ a → (q ≠ ec ∨ kc = 0) → w' q = some e) := by
  by_cases h0 : kc = 0
  · obtain ⟨⟨mc, e1⟩, gc, e2, e3, e4⟩ := hL
    have he : ec = X.2.2 3 := e2.elim (fun z => z.1) (fun z => absurd z.2 (by omega))
    subst he
    have hn0 : n = 0 := by omega
    subst hn0
    refine CM.mono (c_lad_f l X w a v mc e1 hv) (fun w' hp => ?_)
    obtain ⟨q9, p1, p2, p3, p4⟩ := hp
    exact ⟨q9, 10, ⟨⟨_, p1⟩, _, Or.inr ⟨p2, by omega⟩, by omega, fun k k0 k1 => by rw [show k = 0 by omega]; rfl⟩, Or.inl rfl, fun _ _ => rfl, Or.inr p3, (fun e9 => by rw [← e9] at p3; exact absurd (p3 _ _ e1) (by omega)), fun q e h9 h1 _ => p4 q e h9 h1⟩
  · refine CM.mono (c_lad l X w a v ec kc n cd hL hn hk hel hv) (fun w' hp => ?_)
    obtain ⟨ec2, kc2, p1, p2, p3, p4, p5, p6⟩ := hp
    exact ⟨ec2, kc2, p1, p2, p3, p4.imp (fun z => ⟨z, by omega⟩) (fun z => z), p5, fun q e h9 h1 h2 => p6 q e h9 h1 (h2.elim (fun z => z) (fun z => absurd z h0))⟩
theorem capsA.of {X : Cx} {v v2 : Wo} {σ τ : Int → Int} {cd cd2 : Int → Nat} (hc : capsA X v σ cd) (h8 : ∀ k, 0 ≤ k → k < σ 5 → cp σ k 0 ≤ 8)
    (g : ∀ (q n : Nat) (sd co x y : Int) (f : Int → Int), capO X v q n sd co x y f → capO X v2 q n sd co x y f)
    (hk : ∀ k, 0 ≤ k → k < τ 5 → (∃ k0, (0 ≤ k0 ∧ k0 < σ 5) ∧ cd2 k = cd k0 ∧ ∀ j, 0 ≤ j → j < 13 → cp τ k j = cp σ k0 j) ∨ ∃ f, capO X v2 (cd2 k) (cp τ k 0).toNat (cp τ k 1) (cp τ k 4) (cp τ k 2) (cp τ k 3) f ∧ ∀ j, 0 ≤ j → j < cp τ k 0 → f j = cp τ k (5 + j) + 97)
    (hi : ∀ k k2, 0 ≤ k → k < τ 5 → 0 ≤ k2 → k2 < τ 5 → cd2 k = cd2 k2 → k = k2) : capsA X v2 τ cd2 :=
  ⟨fun k k0 k1 => (by
    rcases hk k k0 k1 with ⟨z, z0, z1, z2⟩ | h
    · obtain ⟨f, f1, f2⟩ := hc.1 z z0.1 z0.2
      have h9 := h8 z z0.1 z0.2
      refine ⟨f, ?_, fun j j0 j1 => ?_⟩
      · rw [z1, z2 0 (by decide) (by decide), z2 1 (by decide) (by decide), z2 2 (by decide) (by decide), z2 3 (by decide) (by decide), z2 4 (by decide) (by decide)]
        exact g _ _ _ _ _ _ _ f1
      · rw [z2 0 (by decide) (by decide)] at j1
        rw [z2 (5 + j) (by omega) (by omega)]
        exact f2 j j0 j1
    · exact h), hi⟩
theorem ownP.capz {X : Cx} {v v2 : Wo} {h : Nat} {σ τ : Int → Int} {st lc ec kc lr er kr ec2 kc2 : Nat} {cd cd2 rwa : Int → Nat} (hP : ownP X v h σ st lc ec kc lr er kr cd rwa)
    (g : ∀ (q : Nat) (e : va_E), v q = some e → ¬ (q = lc ∨ (q = ec ∧ 1 ≤ kc)) → v2 q = some e) (h13 : ∀ p, 0 ≤ p → p < 13 → p ≠ 5 → τ p = σ p) (hce : ∀ c r, 0 ≤ c → c < σ 0 → 0 ≤ r → r < σ 1 → cellS τ c r = cellS σ c r)
    (hl : lstA X v2 lc ec2 kc2 (τ 5) cd2) (hk : kc2 = 0 ∨ kc2 = 10) (hc : (∀ (q n : Nat) (sd co x y : Int) (f : Int → Int), capO X v q n sd co x y f → capO X v2 q n sd co x y f) → (∀ (q n : Nat) (f : Int → Int), str X v q n f → str X v2 q n f) → capsA X v2 τ cd2) (hWF : WF τ) (hee : 1 ≤ kc2 → ec2 ≠ er) : ownP X v2 h τ st lc ec2 kc2 lr er kr cd2 rwa := by
  have hne := hP.ne
  obtain ⟨g1, ⟨fs, g2a, g2b⟩, g3, gk, g5, g6, hr, g7, gem, ⟨gWF, hw0, hw1⟩, gd, gd4⟩ := hP
  have wf := gWF.1
  unfold WF0 at wf
  obtain ⟨⟨mc, g3a⟩, gc, g3b, -⟩ := g3
  have hec : 1 ≤ kc → v ec = some (aR X 5 kc gc) := fun z => g3b.elim (fun z2 => absurd z2.2 (by omega)) (fun z2 => z2.1)
  have hn : nrS τ = nrS σ := by unfold nrS; rw [h13 4 (by decide) (by decide) (by decide), h13 1 (by decide) (by decide) (by decide)]
  have o1 : ∀ {q k : Nat} {fs : List Value}, v q = some (.inr (k, fs)) → k ≠ 14 → ¬ (q = lc ∨ (q = ec ∧ 1 ≤ kc)) := fun z hk14 e9 => e9.elim (fun e8 => by rw [e8, g3a] at z; cases z; exact hk14 rfl) (fun e8 => by rw [e8.1, hec e8.2] at z; cases z)
  have o2 : ∀ {q n : Nat} {f : Int → Int}, v q = some (aZ X n f) → ¬ (q = lc ∨ (q = ec ∧ 1 ≤ kc)) := fun z e9 => e9.elim (fun e8 => by rw [e8, g3a] at z; cases z) (fun e8 => by rw [e8.1, hec e8.2] at z; exact aZ_aR (Option.some.inj z).symm)
  have hgc : ∀ (q n : Nat) (sd co x y : Int) (f : Int → Int), capO X v q n sd co x y f → capO X v2 q n sd co x y f := fun q n sd co x y f z => z.k (P := fun q => q = lc ∨ (q = ec ∧ 1 ≤ kc)) g (fun q fs z => o1 z (by decide)) (fun q n f z e9 => e9.elim (fun e8 => by rw [e8, g3a] at z; cases z) (fun e8 => by rw [e8.1, hec e8.2] at z; exact aY_aR (Option.some.inj z).symm)) (fun q fs z => o1 z (by decide))
  have hgs : ∀ (q n : Nat) (f : Int → Int), str X v q n f → str X v2 q n f := fun q n f z => z.k (P := fun q => q = lc ∨ (q = ec ∧ 1 ≤ kc)) g (fun q fs z => o1 z (by decide)) (fun q n f z e9 => e9.elim (fun e8 => by rw [e8, g3a] at z; cases z) (fun e8 => by rw [e8.1, hec e8.2] at z; exact aY_aR (Option.some.inj z).symm))
  have hlr : lstA X v2 lr er kr (nrS σ) rwa := g6.k (P := fun q => q = lc ∨ (q = ec ∧ 1 ≤ kc)) g (fun fs z e9 => e9.elim (fun e8 => gd4.1 e8.symm) (fun e8 => by rw [e8.1, hec e8.2] at z; cases z)) (fun n gc9 _ z e9 => e9.elim (fun e8 => by rw [e8, g3a] at z; cases z) (fun e8 => gd4.2 e8.2 e8.1.symm))
  refine ⟨?_, ⟨fs, g _ _ g2a (o2 g2a), fun c c0 c1 => (g2b c c0 c1).trans (h13 _ (by omega) (by omega) (by omega)).symm⟩, hl, hk, hc hgc hgs, ?_, hr, ?_, ?_, ⟨hWF, by rw [h13 0 (by decide) (by decide) (by decide)]; exact hw0, by rw [h13 1 (by decide) (by decide) (by decide)]; exact hw1⟩, ?_, gd4.1, hee⟩
  · rw [h13 0 (by decide) (by decide) (by decide), h13 1 (by decide) (by decide) (by decide), h13 2 (by decide) (by decide) (by decide), h13 3 (by decide) (by decide) (by decide), h13 4 (by decide) (by decide) (by decide)]
    exact g _ _ g1 (o1 g1 (by decide))
  · rw [hn]; exact hlr
  · rw [hn]
    have hnc := nr_cases (show nrS σ = _ from rfl) wf.2.2.2.2.1.2
    exact (g7.k g (fun r f r0 r1 z => o2 z)).cg (h13 0 (by decide) (by decide) (by decide)) (Int.le_refl _) (fun c r c0 c1 r0 r1 => hce c r c0 c1 r0 (by omega))
  · rw [hn, h13 0 (by decide) (by decide) (by decide), h13 1 (by decide) (by decide) (by decide)]
    intro c r c0 c1 r0 r1
    have hnc := nr_cases (show nrS σ = _ from rfl) wf.2.2.2.2.1.2
    rw [hce c r c0 c1 (by omega) r1]
    exact gem c r c0 c1 r0 r1
  · rw [hn]; exact gd
