/-! ===== the law's own cloth, part by part ===== -/
def stkA (X : Cx) (w : Wo) (st : Nat) (σ : Int → Int) : Prop := ∃ fs : Int → Int, w st = some (aZ X 7 fs) ∧ ∀ c, 0 ≤ c → c < 7 → fs c = σ (6 + c)
/-- a list of things: n elements, told by cd -/
def lstA (X : Cx) (w : Wo) (lc ec kc : Nat) (n : Int) (cd : Int → Nat) : Prop := (∃ mc : Int32, w lc = some (.inr (14, [.int mc, .ref ec, .int (iI n)]))) ∧ ∃ gc : Nat → Option Nat, ((ec = X.2.2 3 ∧ kc = 0) ∨ (w ec = some (aR X 5 kc gc) ∧ 1 ≤ kc)) ∧ (n ≤ (kc : Int)) ∧ ∀ k, 0 ≤ k → k < n → gc k.toNat = some (cd k)
def capsA (X : Cx) (w : Wo) (σ : Int → Int) (cd : Int → Nat) : Prop := (∀ k, 0 ≤ k → k < σ 5 → ∃ f, capO X w (cd k) (cp σ k 0).toNat (cp σ k 1) (cp σ k 4) (cp σ k 2) (cp σ k 3) f ∧ ∀ j, 0 ≤ j → j < cp σ k 0 → f j = cp σ k (5 + j) + 97) ∧ ∀ k k2, 0 ≤ k → k < σ 5 → 0 ≤ k2 → k2 < σ 5 → cd k = cd k2 → k = k2
def clthA (X : Cx) (w : Wo) (σ : Int → Int) (nr : Int) (rwa : Int → Nat) : Prop := (∀ r, 0 ≤ r → r < nr → ∃ f, w (rwa r) = some (aZ X (σ 0).toNat f) ∧ ∀ c, 0 ≤ c → c < σ 0 → f c = cellS σ c r) ∧ ∀ r r2, 0 ≤ r → r < nr → 0 ≤ r2 → r2 < nr → rwa r = rwa r2 → r = r2
def nrS (σ : Int → Int) : Int := if σ 4 < σ 1 then σ 4 + 1 else σ 1
/-- all the parts, at their places -/
def ownP (X : Cx) (w : Wo) (h : Nat) (σ : Int → Int) (st lc ec kc lr er kr : Nat) (cd rwa : Int → Nat) : Prop :=
  w h = some (.inr (10, [.int (iI (σ 0)), .int (iI (σ 1)), .int (iI (σ 2)), .int (iI (σ 3)), .ref st, .ref lc, .ref lr, .int (iI (bz (decide (σ 4 = σ 1))))])) ∧
  stkA X w st σ ∧ lstA X w lc ec kc (σ 5) cd ∧ (kc = 0 ∨ kc = 10) ∧ capsA X w σ cd ∧ lstA X w lr er kr (nrS σ) rwa ∧ (kr = 10 ∨ kr = 15) ∧ clthA X w σ (nrS σ) rwa ∧
  (∀ c r, 0 ≤ c → c < σ 0 → nrS σ ≤ r → r < σ 1 → cellS σ c r = -1) ∧ (WF σ ∧ σ 0 ≤ 19 ∧ σ 1 ≤ 13) ∧ (∀ r, 0 ≤ r → r < nrS σ → rwa r ≠ st) ∧ lc ≠ lr ∧ (1 ≤ kc → ec ≠ er)
theorem ownA.P {X : Cx} {w : Wo} {h : Nat} {σ : Int → Int} (hO : ownA X w h σ) : ∃ (st lc ec kc lr er kr : Nat) (cd rwa : Int → Nat), ownP X w h σ st lc ec kc lr er kr cd rwa ∧ w er ≠ none := by
  obtain ⟨st, lc, ec, lr, er, mc, mr, kc, kr, gc, gr, cd, rwa, fs, nr, wh, h1, h2, h3, h3k, h4, h4r, ⟨hnr, hwh, hem⟩, hWF, hd1, hd2, hd3, hd4⟩ := hO
  subst hwh
  have hn : nr = nrS σ := hnr
  subst hn
  exact ⟨st, lc, ec, kc, lr, er, kr, cd, rwa, ⟨h1, ⟨fs, h2⟩, ⟨⟨mc, h3.1⟩, gc, h3.2.1, h3.2.2.1, fun k k0 k1 => (h3k k k0 k1).1⟩, h3.2.2.2, ⟨fun k k0 k1 => (h3k k k0 k1).2, hd3⟩, ⟨⟨mr, h4.1⟩, gr, Or.inr ⟨h4.2.1, (by have := h4.2.2.2; omega)⟩, h4.2.2.1, fun r r0 r1 => (h4r r r0 r1).1⟩, h4.2.2.2, ⟨fun r r0 r1 => (h4r r r0 r1).2, hd2⟩, hem, hWF, hd1, hd4⟩, by rw [h4.2.1]; simp⟩
theorem ownP.A {X : Cx} {w : Wo} {h : Nat} {σ : Int → Int} {st lc ec kc lr er kr : Nat} {cd rwa : Int → Nat} (hP : ownP X w h σ st lc ec kc lr er kr cd rwa) : ownA X w h σ := by
  obtain ⟨h1, ⟨fs, h2⟩, ⟨⟨mc, h3a⟩, gc, h3b, h3c, h3d⟩, hk, ⟨h4a, h4b⟩, ⟨⟨mr, h5a⟩, gr, h5b, h5c, h5d⟩, hr, ⟨h6a, h6b⟩, hem, hWF, hd, hd4⟩ := hP
  have h5e : w er = some (aR X 5 kr gr) := h5b.elim (fun z => by omega) (fun z => z.1)
  exact ⟨st, lc, ec, lr, er, mc, mr, kc, kr, gc, gr, cd, rwa, fs, nrS σ, decide (σ 4 = σ 1), h1, h2, ⟨h3a, h3b, h3c, hk⟩, fun k k0 k1 => ⟨h3d k k0 k1, h4a k k0 k1⟩, ⟨h5a, h5e, h5c, hr⟩, fun r r0 r1 => ⟨h5d r r0 r1, h6a r r0 r1⟩, ⟨rfl, rfl, hem⟩, hWF, hd, h6b, h4b, hd4⟩
/-! what stays when some cells change -/
theorem str.k {X : Cx} {w w2 : Wo} {q n : Nat} {f : Int → Int} {P : Nat → Prop} (hs : str X w q n f) (g : ∀ (q : Nat) (e : va_E), w q = some e → ¬ P q → w2 q = some e) (h1 : ∀ q fs, w q = some (.inr (11, fs)) → ¬ P q) (h2 : ∀ q n f, w q = some (aY X n f) → ¬ P q) : str X w2 q n f :=
  hs.elim (fun ⟨b, h, z, e1, e2⟩ => Or.inl ⟨b, h, z, g _ _ e1 (h1 _ _ e1), g _ _ e2 (h2 _ _ _ e2)⟩) Or.inr
theorem capO.k {X : Cx} {w w2 : Wo} {q n : Nat} {sd co x y : Int} {f : Int → Int} {P : Nat → Prop} (hc : capO X w q n sd co x y f) (g : ∀ (q : Nat) (e : va_E), w q = some e → ¬ P q → w2 q = some e) (h1 : ∀ q fs, w q = some (.inr (11, fs)) → ¬ P q) (h2 : ∀ q n f, w q = some (aY X n f) → ¬ P q) (h3 : ∀ q fs, w q = some (.inr (9, fs)) → ¬ P q) : capO X w2 q n sd co x y f := by
  obtain ⟨wd, e1, e2⟩ := hc
  exact ⟨wd, g _ _ e1 (h3 _ _ e1), e2.k g h1 h2⟩
theorem capsA.k {X : Cx} {w w2 : Wo} {σ : Int → Int} {cd : Int → Nat} {P : Nat → Prop} (hc : capsA X w σ cd) (g : ∀ (q : Nat) (e : va_E), w q = some e → ¬ P q → w2 q = some e) (h1 : ∀ q fs, w q = some (.inr (11, fs)) → ¬ P q) (h2 : ∀ q n f, w q = some (aY X n f) → ¬ P q) (h3 : ∀ q fs, w q = some (.inr (9, fs)) → ¬ P q) : capsA X w2 σ cd :=
  ⟨fun k k0 k1 => (hc.1 k k0 k1).elim fun f hf => ⟨f, hf.1.k g h1 h2 h3, hf.2⟩, hc.2⟩
theorem capsA.cg {X : Cx} {w : Wo} {σ τ : Int → Int} {cd : Int → Nat} (hc : capsA X w σ cd) (h5 : τ 5 = σ 5) (h : ∀ k j, 0 ≤ k → k < σ 5 → 0 ≤ j → j < 13 → cp τ k j = cp σ k j) (hok : ∀ k, 0 ≤ k → k < σ 5 → cp σ k 0 ≤ 8) : capsA X w τ cd := by
  refine ⟨fun k k0 k1 => ?_, fun k k2 a b c d => hc.2 k k2 a (by omega) c (by omega)⟩
  rw [h5] at k1
  obtain ⟨f, e1, e2⟩ := hc.1 k k0 k1
  have := hok k k0 k1
  rw [h k 0 k0 k1 (by decide) (by decide), h k 1 k0 k1 (by decide) (by decide), h k 2 k0 k1 (by decide) (by decide), h k 3 k0 k1 (by decide) (by decide), h k 4 k0 k1 (by decide) (by decide)]
  exact ⟨f, e1, fun j j0 j1 => (e2 j j0 j1).trans (by rw [h k (5 + j) k0 k1 (by omega) (by omega)])⟩
theorem lstA.k {X : Cx} {w w2 : Wo} {lc ec kc : Nat} {n : Int} {cd : Int → Nat} {P : Nat → Prop} (hc : lstA X w lc ec kc n cd) (g : ∀ (q : Nat) (e : va_E), w q = some e → ¬ P q → w2 q = some e) (h1 : ∀ fs, w lc = some (.inr (14, fs)) → ¬ P lc) (h2 : ∀ n gc, 1 ≤ kc → w ec = some (aR X 5 n gc) → ¬ P ec) : lstA X w2 lc ec kc n cd := by
  obtain ⟨⟨mc, e1⟩, gc, e2, e3⟩ := hc
  exact ⟨⟨mc, g _ _ e1 (h1 _ e1)⟩, gc, e2.imp (fun z => z) (fun z => ⟨g _ _ z.1 (h2 _ _ z.2 z.1), z.2⟩), e3⟩
theorem stkA.k {X : Cx} {w w2 : Wo} {st : Nat} {σ : Int → Int} {P : Nat → Prop} (hc : stkA X w st σ) (g : ∀ (q : Nat) (e : va_E), w q = some e → ¬ P q → w2 q = some e) (h1 : ∀ fs, w st = some (aZ X 7 fs) → ¬ P st) : stkA X w2 st σ := by
  obtain ⟨fs, e1, e2⟩ := hc
  exact ⟨fs, g _ _ e1 (h1 _ e1), e2⟩
theorem clthA.k {X : Cx} {w w2 : Wo} {σ : Int → Int} {nr : Int} {rwa : Int → Nat} {P : Nat → Prop} (hc : clthA X w σ nr rwa) (g : ∀ (q : Nat) (e : va_E), w q = some e → ¬ P q → w2 q = some e) (h1 : ∀ r f, 0 ≤ r → r < nr → w (rwa r) = some (aZ X (σ 0).toNat f) → ¬ P (rwa r)) : clthA X w2 σ nr rwa :=
  ⟨fun r r0 r1 => (hc.1 r r0 r1).elim fun f hf => ⟨f, g _ _ hf.1 (h1 r f r0 r1 hf.1), hf.2⟩, hc.2⟩
theorem clthA.cg {X : Cx} {w : Wo} {σ τ : Int → Int} {nr nr2 : Int} {rwa : Int → Nat} (hc : clthA X w σ nr rwa) (h0 : τ 0 = σ 0) (hn : nr2 ≤ nr) (h : ∀ c r, 0 ≤ c → c < σ 0 → 0 ≤ r → r < nr2 → cellS τ c r = cellS σ c r) : clthA X w τ nr2 rwa := by
  refine ⟨fun r r0 r1 => ?_, fun r r2 a b c d => hc.2 r r2 a (by omega) c (by omega)⟩
  obtain ⟨f, e1, e2⟩ := hc.1 r r0 (by omega)
  rw [h0]
  exact ⟨f, e1, fun c c0 c1 => (e2 c c0 c1).trans (h c r c0 c1 r0 r1).symm⟩
theorem lstA.ex {X : Cx} {w w2 : Wo} {lc ec kc : Nat} {n : Int} {cd : Int → Nat} (hc : lstA X w lc ec kc n cd) (g : ext w w2) : lstA X w2 lc ec kc n cd := by
  obtain ⟨⟨mc, e1⟩, gc, e2, e3⟩ := hc
  exact ⟨⟨mc, g _ _ e1⟩, gc, e2.imp (fun z => z) (fun z => ⟨g _ _ z.1, z.2⟩), e3⟩
theorem capsA.el {X : Cx} {w : Wo} {σ : Int → Int} {cd : Int → Nat} (hc : capsA X w σ cd) : ∀ k, 0 ≤ k → k < σ 5 → elO X w (cd k) := fun k k0 k1 => by
  obtain ⟨f, ⟨wd, e1, _⟩, _⟩ := hc.1 k k0 k1
  exact Or.inl ⟨_, e1⟩
theorem clthA.el {X : Cx} {w : Wo} {σ : Int → Int} {nr : Int} {rwa : Int → Nat} (hc : clthA X w σ nr rwa) : ∀ r, 0 ≤ r → r < nr → elO X w (rwa r) := fun r r0 r1 => by
  obtain ⟨f, e1, _⟩ := hc.1 r r0 r1
  exact Or.inr ⟨_, f, e1⟩
/-- the law's cloth, and cells N that it has nothing to do with -/
def ownN (X : Cx) (w : Wo) (N : Nat → Prop) (h : Nat) (σ : Int → Int) : Prop := ownA X (wr w N) h σ ∧ (∀ q, N q → w q ≠ none) ∧ ¬ N (X.2.2 3)
theorem ownN.A {X : Cx} {w : Wo} {N : Nat → Prop} {h : Nat} {σ : Int → Int} (hO : ownN X w N h σ) : ownA X w h σ := hO.1.ex (wr_sub w N)
/-- what it was, and what has changed does not touch N -/
theorem ownN.mk {X : Cx} {w w2 : Wo} {N : Nat → Prop} {h : Nat} {σ τ : Int → Int} (hO : ownN X w N h σ) (hA : ownA X (wr w2 N) h τ) (hN : ∀ (q : Nat) (e : va_E), w q = some e → N q → w2 q = some e) : ownN X w2 N h τ ∧ ∀ (q : Nat) (e : va_E), w q = some e → N q → w2 q = some e :=
  ⟨⟨hA, fun q hq => (by
    have h1 := hO.2.1 q hq
    cases h2 : w q with
    | none => exact absurd h2 h1
    | some e => rw [hN q e h2 hq]; simp), hO.2.2⟩, hN⟩
theorem lstA.nN {X : Cx} {w : Wo} {N : Nat → Prop} {lc ec kc : Nat} {n : Int} {cd : Int → Nat} (hc : lstA X (wr w N) lc ec kc n cd) (hN : ¬ N (X.2.2 3)) : ¬ N lc ∧ ¬ N ec := by
  obtain ⟨⟨mc, e1⟩, gc, e2, e3⟩ := hc
  exact ⟨(wr_some.mp e1).1, e2.elim (fun z => by rw [z.1]; exact hN) (fun z => (wr_some.mp z.1).1)⟩
theorem up4 {σ : Int → Int} {x p : Int} (h : p ≠ 4) : up σ 4 x p = σ p := up_n h
theorem cell_up4 {σ : Int → Int} {x c r : Int} (hc : 0 ≤ c) (hr : 0 ≤ r) : cellS (up σ 4 x) c r = cellS σ c r := up_n (by omega)
/-- the last row is finished -/
theorem ownP.fin1 {X : Cx} {v v2 : Wo} {h : Nat} {σ : Int → Int} {st lc ec kc lr er kr : Nat} {cd rwa : Int → Nat} (hP : ownP X v h σ st lc ec kc lr er kr cd rwa) (h4 : σ 4 + 1 = σ 1) (hf : ∀ c, 0 ≤ c → c < σ 0 → 0 ≤ cellS σ c (σ 4))
    (g : ∀ (q : Nat) (e : va_E), v q = some e → ¬ q = h → v2 q = some e) (hh : v2 h = some (.inr (10, [.int (iI (σ 0)), .int (iI (σ 1)), .int (iI (σ 2)), .int (iI (σ 3)), .ref st, .ref lc, .ref lr, .int (iI (bz true))]))) : ownP X v2 h (up σ 4 (σ 4 + 1)) st lc ec kc lr er kr cd rwa := by
  obtain ⟨h1, h2, h3, hk, h5, h6, hr, h7, hem, ⟨hWF, hw0, hw1⟩, hd, hd4⟩ := hP
  have wf := hWF.1
  unfold WF0 at wf
  have hn : nrS σ = σ 1 := by unfold nrS; split <;> omega
  have hn2 : nrS (up σ 4 (σ 4 + 1)) = σ 1 := by
    unfold nrS
    rw [up_s, up4 (p := 1) (by decide), if_neg (by omega)]
  have n1 : ∀ {a : Nat} {fs : List Value}, v a = some (.inr (14, fs)) → ¬ a = h := fun z e9 => by rw [e9, h1] at z; cases z
  have n2 : ∀ {a n : Nat} {f : Int → Int}, v a = some (aZ X n f) → ¬ a = h := fun z e9 => by rw [e9, h1] at z; cases z
  have n3 : ∀ {a n : Nat} {f : Nat → Option Nat}, v a = some (aR X 5 n f) → ¬ a = h := fun z e9 => by rw [e9, h1] at z; cases z
  have hok : ∀ k, 0 ≤ k → k < σ 5 → cp σ k 0 ≤ 8 := fun k k0 k1 => (hWF.2.2.1 k k0 k1).1.2
  have hW2 : WF (up σ 4 (σ 4 + 1)) := WF_fld hWF 4 (σ 4 + 1) (Or.inr (Or.inr ⟨rfl, by omega⟩)) (fun _ c r c0 c1 r0 r1 => if hr : r = σ 4 then (by rw [hr]; exact hf c c0 c1) else hWF.2.2.2.2.1 c r c0 c1 r0 (by omega))
  refine ⟨?_, ?_, ?_, hk, ?_, ?_, hr, ?_, ?_, ⟨hW2, hw0, hw1⟩, ?_, hd4⟩
  · rw [hh, decide_eq_true (by rw [up_s, up4 (p := 1) (by decide)]; exact h4)]
    rfl
  · obtain ⟨fs, h2a, h2b⟩ := h2.k g (fun fs z => n2 z)
    exact ⟨fs, h2a, fun c c0 c1 => (h2b c c0 c1).trans (up4 (by omega)).symm⟩
  · exact h3.k g (fun fs z => n1 z) (fun n gc _ z => n3 z)
  · exact (h5.k g (fun q fs z e9 => by rw [e9, h1] at z; cases z) (fun q n f z e9 => by rw [e9, h1] at z; cases z) (fun q fs z e9 => by rw [e9, h1] at z; cases z)).cg rfl (fun k j k0 k1 j0 j1 => up4 (by omega)) hok
  · rw [hn2, ← hn]
    exact h6.k g (fun fs z => n1 z) (fun n gc _ z => n3 z)
  · rw [hn2]
    exact (h7.k g (fun r f r0 r1 z => n2 z)).cg (up4 (by decide)) (by omega) (fun c r c0 c1 r0 r1 => cell_up4 c0 r0)
  · rw [hn2]
    intro c r c0 c1 r0 r1
    rw [up4 (p := 1) (by decide)] at r1
    omega
  · rw [hn2, ← hn]
    exact hd
theorem aZ_aR {X : Cx} {n k m : Nat} {f : Int → Int} {g : Nat → Option Nat} : (aZ X n f : va_E) ≠ aR X k m g := fun z => by
  unfold aZ aR at z
  simp at z
theorem aY_aR {X : Cx} {n k m : Nat} {f : Int → Int} {g : Nat → Option Nat} : (aY X n f : va_E) ≠ aR X k m g := fun z => by
  unfold aY aR at z
  simp at z
/-- a row is finished, the next is laid on -/
theorem ownP.fin2 {X : Cx} {v v2 : Wo} {h : Nat} {σ : Int → Int} {st lc ec kc lr er kr er2 kr2 a9 : Nat} {cd rwa : Int → Nat} {f9 : Int → Int} (hP : ownP X v h σ st lc ec kc lr er kr cd rwa) (h4 : σ 4 + 1 < σ 1) (hf : ∀ c, 0 ≤ c → c < σ 0 → 0 ≤ cellS σ c (σ 4))
    (g : ∀ (q : Nat) (e : va_E), v q = some e → ¬ (q = lr ∨ q = er) → v2 q = some e) (hL : lstA X v2 lr er2 kr2 (nrS σ + 1) (fun k => if k = nrS σ then a9 else rwa k)) (hk2 : kr2 = 10 ∨ kr2 = 15) (hee : 1 ≤ kc → ec ≠ er2) (ha : v2 a9 = some (aZ X (σ 0).toNat f9)) (hf9 : ∀ c, 0 ≤ c → c < σ 0 → f9 c = -1) (hnk : nkn v a9) : ownP X v2 h (up σ 4 (σ 4 + 1)) st lc ec kc lr er2 kr2 cd (fun k => if k = nrS σ then a9 else rwa k) := by
  obtain ⟨h1, h2, h3, hk, h5, h6, hr, h7, hem, ⟨hWF, hw0, hw1⟩, hd, hd4⟩ := hP
  have wf := hWF.1
  unfold WF0 at wf
  have hn : nrS σ = σ 4 + 1 := by unfold nrS; rw [if_pos (by omega)]
  have hn2 : nrS (up σ 4 (σ 4 + 1)) = nrS σ + 1 := by
    unfold nrS
    rw [up_s, up4 (p := 1) (by decide), if_pos (by omega), if_pos (by omega)]
  obtain ⟨⟨mr, h6a⟩, gr, h6b, h6c, -⟩ := h6
  have h6e : v er = some (aR X 5 kr gr) := h6b.elim (fun z => by omega) (fun z => z.1)
  have nP : ∀ {q : Nat} {e : va_E}, v q = some e → e ≠ .inr (14, [.int mr, .ref er, .int (iI (nrS σ))]) → e ≠ aR X 5 kr gr → ¬ (q = lr ∨ q = er) := fun z z1 z2 e9 => e9.elim (fun e9 => by rw [e9, h6a] at z; exact z1 (Option.some.inj z).symm) (fun e9 => by rw [e9, h6e] at z; exact z2 (Option.some.inj z).symm)
  have hok : ∀ k, 0 ≤ k → k < σ 5 → cp σ k 0 ≤ 8 := fun k k0 k1 => (hWF.2.2.1 k k0 k1).1.2
  have hW2 : WF (up σ 4 (σ 4 + 1)) := WF_fld hWF 4 (σ 4 + 1) (Or.inr (Or.inr ⟨rfl, by omega⟩)) (fun _ c r c0 c1 r0 r1 => if hr : r = σ 4 then (by rw [hr]; exact hf c c0 c1) else hWF.2.2.2.2.1 c r c0 c1 r0 (by omega))
  have hrow : ∀ r, 0 ≤ r → r < nrS σ → ∃ f, v (rwa r) = some (aZ X (σ 0).toNat f) := fun r r0 r1 => (h7.1 r r0 r1).elim fun f z => ⟨f, z.1⟩
  refine ⟨?_, ?_, ?_, hk, ?_, ?_, hk2, ⟨?_, ?_⟩, ?_, ⟨hW2, hw0, hw1⟩, ?_, hd4.1, hee⟩
  · rw [g h _ h1 (nP h1 (fun z => by cases z) (fun z => by cases z)), decide_eq_false (p := σ 4 = σ 1) (by omega), decide_eq_false (by rw [up_s, up4 (p := 1) (by decide)]; omega)]
    rfl
  · obtain ⟨fs, h2a, h2b⟩ := h2.k g (fun fs z => nP z (fun z => by cases z) aZ_aR)
    exact ⟨fs, h2a, fun c c0 c1 => (h2b c c0 c1).trans (up4 (by omega)).symm⟩
  · exact h3.k g (fun fs z e9 => e9.elim (fun e9 => hd4.1 e9) (fun e9 => by rw [e9, h6e] at z; cases z)) (fun n gc z8 z e9 => e9.elim (fun e9 => by rw [e9, h6a] at z; cases z) (fun e9 => hd4.2 z8 e9))
  · exact (h5.k g (fun q fs z => nP z (fun z => by cases z) (fun z => by cases z)) (fun q n f z => nP z (fun z => by cases z) aY_aR) (fun q fs z => nP z (fun z => by cases z) (fun z => by cases z))).cg rfl (fun k j k0 k1 j0 j1 => up4 (by omega)) hok
  · rw [hn2]
    exact hL
  · rw [hn2]
    intro r r0 r1
    by_cases hrn : r = nrS σ
    · refine ⟨f9, by dsimp only; rw [if_pos hrn]; exact ha, fun c c0 c1 => ?_⟩
      rw [hf9 c c0 c1, cell_up4 c0 r0, hem c r c0 c1 (by omega) (by omega)]
    · obtain ⟨f, e1, e2⟩ := h7.1 r r0 (by omega)
      refine ⟨f, by dsimp only; rw [if_neg hrn]; exact g _ _ e1 (nP e1 (fun z => by cases z) aZ_aR), fun c c0 c1 => ?_⟩
      rw [e2 c c0 c1, cell_up4 c0 r0]
  · rw [hn2]
    intro r r2 a b c d e
    dsimp only at e
    by_cases hrn : r = nrS σ
    · by_cases hrm : r2 = nrS σ
      · omega
      · rw [if_pos hrn, if_neg hrm] at e
        obtain ⟨f, z⟩ := hrow r2 c (by omega)
        exact absurd e.symm (hnk _ _ z)
    · by_cases hrm : r2 = nrS σ
      · rw [if_neg hrn, if_pos hrm] at e
        obtain ⟨f, z⟩ := hrow r a (by omega)
        exact absurd e (hnk _ _ z)
      · rw [if_neg hrn, if_neg hrm] at e
        exact h7.2 r r2 a (by omega) c (by omega) e
  · rw [hn2]
    intro c r c0 c1 r0 r1
    rw [up4 (p := 1) (by decide)] at r1
    rw [cell_up4 c0 (by omega)]
    exact hem c r c0 c1 (by omega) r1
  · rw [hn2]
    intro r r0 r1
    dsimp only
    by_cases hrn : r = nrS σ
    · rw [if_pos hrn]
      obtain ⟨fs, h2a, -⟩ := h2
      exact fun e9 => hnk _ _ h2a e9.symm
    · rw [if_neg hrn]
      exact hd r r0 (by omega)
theorem lstA.wr {X : Cx} {w : Wo} {N : Nat → Prop} {lc ec kc : Nat} {n : Int} {cd : Int → Nat} (hc : lstA X w lc ec kc n cd) (h1 : ¬ N lc) (h2 : ¬ N ec) : lstA X (wr w N) lc ec kc n cd := by
  obtain ⟨⟨mc, e1⟩, gc, e2, e3⟩ := hc
  exact ⟨⟨mc, wr_some.mpr ⟨h1, e1⟩⟩, gc, e2.imp (fun z => z) (fun z => ⟨wr_some.mpr ⟨h2, z.1⟩, z.2⟩), e3⟩
theorem frs.nN {w w1 : Wo} {N : Nat → Prop} {a : Nat} (h : frs w1 a) (g : ext w w1) (hN : ∀ q, N q → w q ≠ none) : ¬ N a := fun hq => by
  cases h2 : w a with
  | none => exact hN a hq h2
  | some e => exact absurd (h a e (g a e h2)) (Nat.lt_irrefl a)
theorem frs.ne {w w1 : Wo} {a b : Nat} (h : frs w1 a) (g : ext w w1) (hb : w b ≠ none) : b ≠ a := fun e9 => by
  cases h2 : w b with
  | none => exact hb h2
  | some e => have := h b e (g b e h2); omega
theorem lstA.kn {X : Cx} {w : Wo} {lc ec kc : Nat} {n : Int} {cd : Int → Nat} (hc : lstA X w lc ec kc n cd) (h : 1 ≤ kc) : w ec ≠ none := by
  obtain ⟨⟨mc, e1⟩, gc, e2, e3⟩ := hc
  exact e2.elim (fun z => by omega) (fun z => by rw [z.1]; simp)
/-- the places of the cloth are different ones -/
def own9 (h st lc lr er : Nat) : Prop := h ≠ lr ∧ h ≠ er ∧ h ≠ lc ∧ h ≠ st ∧ lr ≠ st ∧ lr ≠ er ∧ lc ≠ st ∧ lc ≠ er ∧ st ≠ er ∧ lc ≠ lr
def own5 (q h st lc lr er : Nat) : Prop := q ≠ h ∧ q ≠ st ∧ q ≠ lc ∧ q ≠ lr ∧ q ≠ er
theorem ownP.ne {X : Cx} {v : Wo} {h : Nat} {σ : Int → Int} {st lc ec kc lr er kr : Nat} {cd rwa : Int → Nat} (hP : ownP X v h σ st lc ec kc lr er kr cd rwa) : own9 h st lc lr er := by
  obtain ⟨h1, ⟨fs, h2, -⟩, ⟨⟨mc, h3⟩, -⟩, -, -, ⟨⟨mr, h5⟩, gr, h5b, h5c, -⟩, hr, -, -, -, -, hd4⟩ := hP
  have h5e : v er = some (aR X 5 kr gr) := h5b.elim (fun z => by omega) (fun z => z.1)
  exact ⟨fun e => (by rw [e, h5] at h1; cases h1), fun e => (by rw [e, h5e] at h1; cases h1), fun e => (by rw [e, h3] at h1; cases h1), fun e => (by rw [e, h2] at h1; cases h1), fun e => (by rw [e, h2] at h5; cases h5), fun e => (by rw [e, h5e] at h5; cases h5), fun e => (by rw [e, h2] at h3; cases h3), fun e => (by rw [e, h5e] at h3; cases h3), fun e => (by rw [e, h5e] at h2; exact aZ_aR (Option.some.inj h2).symm), hd4.1⟩
theorem ownP.q5 {X : Cx} {w : Wo} {N : Nat → Prop} {h : Nat} {σ : Int → Int} {st lc ec kc lr er kr : Nat} {cd rwa : Int → Nat} (hP : ownP X (wr w N) h σ st lc ec kc lr er kr cd rwa) : ∀ q, N q → own5 q h st lc lr er := fun q hq => by
  obtain ⟨h1, ⟨fs, h2, -⟩, ⟨⟨mc, h3⟩, -⟩, -, -, ⟨⟨mr, h5⟩, gr, h5b, h5c, -⟩, hr, -, -, -, -, hd4⟩ := hP
  have h5e : wr w N er = some (aR X 5 kr gr) := h5b.elim (fun z => by omega) (fun z => z.1)
  exact ⟨fun e => (wr_some.mp h1).1 (e ▸ hq), fun e => (wr_some.mp h2).1 (e ▸ hq), fun e => (wr_some.mp h3).1 (e ▸ hq), fun e => (wr_some.mp h5).1 (e ▸ hq), fun e => (wr_some.mp h5e).1 (e ▸ hq)⟩
