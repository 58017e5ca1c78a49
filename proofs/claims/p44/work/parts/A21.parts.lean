/-! ===== the law's own cloth, part by part ===== -/
def stkA (X : Cx) (w : Wo) (st : Nat) (σ : Int → Int) : Prop := ∃ fs : Int → Int, w st = some (aZ X 7 fs) ∧ ∀ c, 0 ≤ c → c < 7 → fs c = σ (6 + c)
/-- a list of things: n elements, told by cd -/
def lstA (X : Cx) (w : Wo) (lc ec kc : Nat) (n : Int) (cd : Int → Nat) : Prop := (∃ mc : Int32, w lc = some (.inr (14, [.int mc, .ref ec, .int (iI n)]))) ∧ ∃ gc : Nat → Option Nat, ((ec = X.2.2 3 ∧ kc = 0) ∨ (w ec = some (aR X 5 kc gc) ∧ 1 ≤ kc)) ∧ (n ≤ (kc : Int)) ∧ ∀ k, 0 ≤ k → k < n → gc k.toNat = some (cd k)
def capsA (X : Cx) (w : Wo) (σ : Int → Int) (cd : Int → Nat) : Prop := (∀ k, 0 ≤ k → k < σ 5 → ∃ f, capO X w (cd k) (cp σ k 0).toNat (cp σ k 1) (cp σ k 4) (cp σ k 2) (cp σ k 3) f ∧ ∀ j, 0 ≤ j → j < cp σ k 0 → f j = cp σ k (5 + j) + 97) ∧ ∀ k k2, 0 ≤ k → k < σ 5 → 0 ≤ k2 → k2 < σ 5 → cd k = cd k2 → k = k2
def clthA (X : Cx) (w : Wo) (σ : Int → Int) (nr : Int) (rwa : Int → Nat) : Prop := (∀ r, 0 ≤ r → r < nr → ∃ f, w (rwa r) = some (aZ X (σ 0).toNat f) ∧ ∀ c, 0 ≤ c → c < σ 0 → f c = cellS σ c r) ∧ ∀ r r2, 0 ≤ r → r < nr → 0 ≤ r2 → r2 < nr → rwa r = rwa r2 → r = r2
def nrS (σ : Int → Int) : Int := if σ 4 < σ 1 then σ 4 + 1 else σ 1
/-- all the parts, at their places -/
def ownP (X : Cx) (w : Wo) (h : Nat) (σ : Int → Int) (st lc ec kc lr er kr : Nat) (cd rwa : Int → Nat) : Prop :=
  w h = some (.inr (10, [.int (iI (σ 0)), .int (iI (σ 1)), .int (iI (σ 2)), .int (iI (σ 3)), .ref st, .ref lc, .ref lr, .int (iI (bz (decide (σ 4 = σ 1))))])) ∧
  stkA X w st σ ∧ lstA X w lc ec kc (σ 5) cd ∧ (kc = 0 ∨ kc = 10) ∧ capsA X w σ cd ∧ lstA X w lr er kr (nrS σ) rwa ∧ (kr = 10 ∨ kr = 15) ∧ clthA X w σ (nrS σ) rwa ∧
  (∀ c r, 0 ≤ c → c < σ 0 → nrS σ ≤ r → r < σ 1 → cellS σ c r = -1) ∧ (WF σ ∧ σ 0 ≤ 19 ∧ σ 1 ≤ 13) ∧ ∀ r, 0 ≤ r → r < nrS σ → rwa r ≠ st
theorem ownA.P {X : Cx} {w : Wo} {h : Nat} {σ : Int → Int} (hO : ownA X w h σ) : ∃ (st lc ec kc lr er kr : Nat) (cd rwa : Int → Nat), ownP X w h σ st lc ec kc lr er kr cd rwa ∧ w er ≠ none := by
  obtain ⟨st, lc, ec, lr, er, mc, mr, kc, kr, gc, gr, cd, rwa, fs, nr, wh, h1, h2, h3, h3k, h4, h4r, ⟨hnr, hwh, hem⟩, hWF, hd1, hd2, hd3⟩ := hO
  subst hwh
  have hn : nr = nrS σ := hnr
  subst hn
  exact ⟨st, lc, ec, kc, lr, er, kr, cd, rwa, ⟨h1, ⟨fs, h2⟩, ⟨⟨mc, h3.1⟩, gc, h3.2.1, h3.2.2.1, fun k k0 k1 => (h3k k k0 k1).1⟩, h3.2.2.2, ⟨fun k k0 k1 => (h3k k k0 k1).2, hd3⟩, ⟨⟨mr, h4.1⟩, gr, Or.inr ⟨h4.2.1, (by have := h4.2.2.2; omega)⟩, h4.2.2.1, fun r r0 r1 => (h4r r r0 r1).1⟩, h4.2.2.2, ⟨fun r r0 r1 => (h4r r r0 r1).2, hd2⟩, hem, hWF, hd1⟩, by rw [h4.2.1]; simp⟩
theorem ownP.A {X : Cx} {w : Wo} {h : Nat} {σ : Int → Int} {st lc ec kc lr er kr : Nat} {cd rwa : Int → Nat} (hP : ownP X w h σ st lc ec kc lr er kr cd rwa) : ownA X w h σ := by
  obtain ⟨h1, ⟨fs, h2⟩, ⟨⟨mc, h3a⟩, gc, h3b, h3c, h3d⟩, hk, ⟨h4a, h4b⟩, ⟨⟨mr, h5a⟩, gr, h5b, h5c, h5d⟩, hr, ⟨h6a, h6b⟩, hem, hWF, hd⟩ := hP
  have h5e : w er = some (aR X 5 kr gr) := h5b.elim (fun z => by omega) (fun z => z.1)
  exact ⟨st, lc, ec, lr, er, mc, mr, kc, kr, gc, gr, cd, rwa, fs, nrS σ, decide (σ 4 = σ 1), h1, h2, ⟨h3a, h3b, h3c, hk⟩, fun k k0 k1 => ⟨h3d k k0 k1, h4a k k0 k1⟩, ⟨h5a, h5e, h5c, hr⟩, fun r r0 r1 => ⟨h5d r r0 r1, h6a r r0 r1⟩, ⟨rfl, rfl, hem⟩, hWF, hd, h6b, h4b⟩
/-! what stays when some cells change -/
theorem str.k {X : Cx} {w w2 : Wo} {q n : Nat} {f : Int → Int} {P : Nat → Prop} (hs : str X w q n f) (g : ∀ (q : Nat) (e : va_E), w q = some e → ¬ P q → w2 q = some e) (h1 : ∀ q fs, w q = some (.inr (11, fs)) → ¬ P q) (h2 : ∀ q n f, w q = some (aY X n f) → ¬ P q) : str X w2 q n f :=
  hs.elim (fun ⟨b, h, z, e1, e2⟩ => Or.inl ⟨b, h, z, g _ _ e1 (h1 _ _ e1), g _ _ e2 (h2 _ _ _ e2)⟩) Or.inr
theorem capO.k {X : Cx} {w w2 : Wo} {q n : Nat} {sd co x y : Int} {f : Int → Int} {P : Nat → Prop} (hc : capO X w q n sd co x y f) (g : ∀ (q : Nat) (e : va_E), w q = some e → ¬ P q → w2 q = some e) (h1 : ∀ q fs, w q = some (.inr (11, fs)) → ¬ P q) (h2 : ∀ q n f, w q = some (aY X n f) → ¬ P q) (h3 : ∀ q fs, w q = some (.inr (9, fs)) → ¬ P q) : capO X w2 q n sd co x y f := by
  obtain ⟨wd, e1, e2⟩ := hc
  exact ⟨wd, g _ _ e1 (h3 _ _ e1), e2.k g h1 h2⟩
theorem capsA.k {X : Cx} {w w2 : Wo} {σ : Int → Int} {cd : Int → Nat} {P : Nat → Prop} (hc : capsA X w σ cd) (g : ∀ (q : Nat) (e : va_E), w q = some e → ¬ P q → w2 q = some e) (h1 : ∀ q fs, w q = some (.inr (11, fs)) → ¬ P q) (h2 : ∀ q n f, w q = some (aY X n f) → ¬ P q) (h3 : ∀ q fs, w q = some (.inr (9, fs)) → ¬ P q) : capsA X w2 σ cd :=
  ⟨fun k k0 k1 => (hc.1 k k0 k1).elim fun f hf => ⟨f, hf.1.k g h1 h2 h3, hf.2⟩, hc.2⟩
theorem capsA.cg {X : Cx} {w : Wo} {σ τ : Int → Int} {cd : Int → Nat} (hc : capsA X w σ cd) (h5 : τ 5 = σ 5) (h : ∀ k j, 0 ≤ k → k < σ 5 → 0 ≤ j → j < 13 → cp τ k j = cp σ k j) (hok : ∀ k, 0 ≤ k → k < σ 5 → cp σ k 0 ≤ 8) : capsA X w τ cd := by
  refine ⟨fun k k0 k1 => ?_, fun k k2 a b c d => hc.2 k k2 a (by omega) c (by omega)⟩
  rw [h5] at k1
  obtain ⟨f, e1, e2⟩ := hc.1 k k0 k1
  have := hok k k0 k1
  rw [h k 0 k0 k1 (by decide) (by decide), h k 1 k0 k1 (by decide) (by decide), h k 2 k0 k1 (by decide) (by decide), h k 3 k0 k1 (by decide) (by decide), h k 4 k0 k1 (by decide) (by decide)]
  exact ⟨f, e1, fun j j0 j1 => (e2 j j0 j1).trans (by rw [h k (5 + j) k0 k1 (by omega) (by omega)])⟩
theorem lstA.k {X : Cx} {w w2 : Wo} {lc ec kc : Nat} {n : Int} {cd : Int → Nat} {P : Nat → Prop} (hc : lstA X w lc ec kc n cd) (g : ∀ (q : Nat) (e : va_E), w q = some e → ¬ P q → w2 q = some e) (h1 : ¬ P lc) (h2 : w ec ≠ none → ¬ P ec) : lstA X w2 lc ec kc n cd := by
  obtain ⟨⟨mc, e1⟩, gc, e2, e3⟩ := hc
  exact ⟨⟨mc, g _ _ e1 h1⟩, gc, e2.imp (fun z => z) (fun z => ⟨g _ _ z.1 (h2 (by rw [z.1]; simp)), z.2⟩), e3⟩
theorem stkA.k {X : Cx} {w w2 : Wo} {st : Nat} {σ : Int → Int} {P : Nat → Prop} (hc : stkA X w st σ) (g : ∀ (q : Nat) (e : va_E), w q = some e → ¬ P q → w2 q = some e) (h1 : ¬ P st) : stkA X w2 st σ := by
  obtain ⟨fs, e1, e2⟩ := hc
  exact ⟨fs, g _ _ e1 h1, e2⟩
theorem clthA.k {X : Cx} {w w2 : Wo} {σ : Int → Int} {nr : Int} {rwa : Int → Nat} {P : Nat → Prop} (hc : clthA X w σ nr rwa) (g : ∀ (q : Nat) (e : va_E), w q = some e → ¬ P q → w2 q = some e) (h1 : ∀ r, 0 ≤ r → r < nr → ¬ P (rwa r)) : clthA X w2 σ nr rwa :=
  ⟨fun r r0 r1 => (hc.1 r r0 r1).elim fun f hf => ⟨f, g _ _ hf.1 (h1 r r0 r1), hf.2⟩, hc.2⟩
theorem clthA.cg {X : Cx} {w : Wo} {σ τ : Int → Int} {nr nr2 : Int} {rwa : Int → Nat} (hc : clthA X w σ nr rwa) (h0 : τ 0 = σ 0) (hn : nr2 ≤ nr) (h : ∀ c r, 0 ≤ c → c < σ 0 → 0 ≤ r → r < nr2 → cellS τ c r = cellS σ c r) : clthA X w τ nr2 rwa := by
  refine ⟨fun r r0 r1 => ?_, fun r r2 a b c d => hc.2 r r2 a (by omega) c (by omega)⟩
  obtain ⟨f, e1, e2⟩ := hc.1 r r0 (by omega)
  rw [h0]
  exact ⟨f, e1, fun c c0 c1 => (e2 c c0 c1).trans (h c r c0 c1 r0 r1).symm⟩
