/-! ===== rows are unpicked: the own cloth ===== -/
theorem ownP.gn2 {X : Cx} {v v2 : Wo} {h : Nat} {σ τ : Int → Int} {st lc ec kc lr er kr er2 kr2 : Nat} {cd rwa rwb : Int → Nat} {P : Nat → Prop} (hP : ownP X v h σ st lc ec kc lr er kr cd rwa)
    (g : ∀ (q : Nat) (e : va_E), v q = some e → ¬ P q → v2 q = some e) (p1 : ∀ q fs, v q = some (.inr (11, fs)) → ¬ P q) (p2 : ∀ q n f, v q = some (aY X n f) → ¬ P q) (p3 : ∀ q fs, v q = some (.inr (9, fs)) → ¬ P q) (p4 : ∀ fs, v lc = some (.inr (14, fs)) → ¬ P lc) (p5 : ∀ n gc, 1 ≤ kc → v ec = some (aR X 5 n gc) → ¬ P ec)
    (h0 : τ 0 = σ 0) (h1' : τ 1 = σ 1) (h5' : τ 5 = σ 5) (hcp : ∀ p, 13 ≤ p → p < 117 → τ p = σ p)
    (hh : v2 h = some (.inr (10, [.int (iI (τ 0)), .int (iI (τ 1)), .int (iI (τ 2)), .int (iI (τ 3)), .ref st, .ref lc, .ref lr, .int (iI (bz (decide (τ 4 = τ 1))))])))
    (hst : stkA X v2 st τ) (hlr : lstA X v2 lr er2 kr2 (nrS τ) rwb) (hk2 : kr2 = 10 ∨ kr2 = 15) (hcl : clthA X v2 τ (nrS τ) rwb)
    (hem : ∀ c r, 0 ≤ c → c < σ 0 → nrS τ ≤ r → r < σ 1 → cellS τ c r = -1) (hWF : WF τ) (hrs : ∀ r, 0 ≤ r → r < nrS τ → rwb r ≠ st) (hee : 1 ≤ kc → ec ≠ er2) : ownP X v2 h τ st lc ec kc lr er2 kr2 cd rwb := by
  obtain ⟨g1, g2, g3, hk, g5, g6, hr, g7, gem, ⟨gWF, hw0, hw1⟩, gd, gd4⟩ := hP
  have wf := gWF.1
  unfold WF0 at wf
  have hok : ∀ k, 0 ≤ k → k < σ 5 → cp σ k 0 ≤ 8 := fun k k0 k1 => (gWF.2.2.1 k k0 k1).1.2
  refine ⟨hh, hst, ?_, hk, ?_, hlr, hk2, hcl, ?_, ⟨hWF, by omega, by omega⟩, hrs, gd4.1, hee⟩
  · rw [h5']; exact g3.k g p4 p5
  · exact (g5.k g p1 p2 p3).cg h5' (fun k j k0 k1 j0 j1 => hcp _ (by omega) (by omega)) hok
  · rw [h0, h1']; exact hem
theorem lstA.cg {X : Cx} {w : Wo} {lc ec kc : Nat} {n : Int} {cd cd2 : Int → Nat} (hc : lstA X w lc ec kc n cd) (h : ∀ k, 0 ≤ k → k < n → cd2 k = cd k) : lstA X w lc ec kc n cd2 := by
  obtain ⟨e1, gc, e2, e3, e4⟩ := hc
  exact ⟨e1, gc, e2, e3, fun k k0 k1 => by rw [h k k0 k1]; exact e4 k k0 k1⟩
theorem clthA.un {X : Cx} {v v2 : Wo} {σ τ f9 : Int → Int} {rwa : Int → Nat} {n nr : Int} {a9 : Nat} (hc : clthA X v σ nr rwa) (hn : n ≤ nr) (h00 : 0 ≤ n) (g : ∀ r, 0 ≤ r → r < n → ∀ f, v (rwa r) = some (aZ X (σ 0).toNat f) → v2 (rwa r) = some (aZ X (σ 0).toNat f)) (h0 : τ 0 = σ 0)
    (hce : ∀ c r, 0 ≤ c → c < σ 0 → 0 ≤ r → r < n → cellS τ c r = cellS σ c r) (ha : v2 a9 = some (aZ X (σ 0).toNat f9)) (hf9 : ∀ c, 0 ≤ c → c < σ 0 → f9 c = cellS τ c n) (hne : ∀ r, 0 ≤ r → r < nr → rwa r ≠ a9) : clthA X v2 τ (n + 1) (fun k => if k = n then a9 else rwa k) := by
  refine ⟨fun r r0 r1 => ?_, fun r r2 a0 a1 b0 b1 e => ?_⟩
  · rw [h0]
    by_cases e : r = n
    · refine ⟨f9, ?_, fun c c0 c1 => ?_⟩
      · dsimp only; rw [if_pos e]; exact ha
      · rw [e]; exact hf9 c c0 c1
    · obtain ⟨f, e1, e2⟩ := hc.1 r r0 (by omega)
      refine ⟨f, ?_, fun c c0 c1 => ?_⟩
      · dsimp only; rw [if_neg e]; exact g r r0 (by omega) f e1
      · rw [hce c r c0 c1 r0 (by omega)]; exact e2 c c0 c1
  · dsimp only at e
    by_cases h1 : r = n
    · rw [if_pos h1] at e
      by_cases h2 : r2 = n
      · omega
      · rw [if_neg h2] at e
        exact absurd e.symm (hne r2 b0 (by omega))
    · rw [if_neg h1] at e
      by_cases h2 : r2 = n
      · rw [if_pos h2] at e
        exact absurd e (hne r a0 (by omega))
      · rw [if_neg h2] at e
        exact hc.2 r r2 a0 (by omega) b0 (by omega) e
theorem sm_dnN {f : Int → Int} {lo : Int} : ∀ n : Nat, sm f lo (lo + (n + 1 : Nat)) = f lo + sm f (lo + 1) (lo + (n + 1 : Nat))
  | 0 => by
    rw [show lo + ((0 + 1 : Nat) : Int) = lo + 1 by omega, sm_s f (Int.le_refl lo), sm_0, sm_0]
    omega
  | n + 1 => by
    have ih := sm_dnN (f := f) (lo := lo) n
    rw [show lo + ((n + 1 + 1 : Nat) : Int) = (lo + ((n + 1 : Nat) : Int)) + 1 by omega, sm_s f (by omega), sm_s f (by omega), ih]
    omega
theorem sm_dn {f : Int → Int} {lo hi : Int} (h : lo < hi) : sm f lo hi = f lo + sm f (lo + 1) hi := by
  have := sm_dnN (f := f) (lo := lo) (hi - lo - 1).toNat
  rw [show lo + (((hi - lo - 1).toNat + 1 : Nat) : Int) = hi by omega] at this
  exact this
theorem smN_up {f : Int → Int} {v : Int} : ∀ n : Nat, smN (up f v (f v + 1)) 0 n = smN f 0 n + if 0 ≤ v ∧ v < (n : Int) then 1 else 0
  | 0 => by rw [if_neg (by omega)]; rfl
  | n + 1 => by
    show smN (up f v (f v + 1)) 0 n + up f v (f v + 1) (0 + n) = smN f 0 n + f (0 + n) + _
    rw [smN_up n]
    by_cases h : v = (n : Int)
    · rw [if_neg (by omega), if_pos (by omega), show (0 : Int) + (n : Int) = v by omega, up_s]
      omega
    · rw [up_n (by omega)]
      by_cases h2 : 0 ≤ v ∧ v < (n : Int)
      · rw [if_pos h2, if_pos (by omega)]; omega
      · rw [if_neg h2, if_neg (by omega)]; omega
theorem sm_up7 {f : Int → Int} {v : Int} (h : 0 ≤ v ∧ v < 7) : sm (up f v (f v + 1)) 0 7 = sm f 0 7 + 1 := by
  have := smN_up (f := f) (v := v) 7
  rw [if_pos (by omega)] at this
  exact this
theorem wov_z {σ : Int → Int} {nr co : Int} (hem : ∀ c r, 0 ≤ c → c < σ 0 → nr ≤ r → r < σ 1 → cellS σ c r = -1) (h0 : 0 ≤ σ 0) (hn : nr ≤ σ 1) (hc : 0 ≤ co) : sm (wovR σ co) nr (σ 1) = 0 := by
  have h1 := sm_r (f := wovR σ co) (lo := nr) (hi := σ 1) (M := 0) (by decide) (fun r r0 r1 => by
    have h2 := sm_r (f := fun c => bz (decide (cellS σ c r = co))) (lo := 0) (hi := σ 0) (M := 0) (by decide) (fun c c0 c1 => by
      show 0 ≤ bz (decide (cellS σ c r = co)) ∧ bz (decide (cellS σ c r = co)) ≤ 0
      rw [hem c r c0 c1 r0 r1, decide_eq_false (by omega)]
      exact ⟨Int.le_refl 0, Int.le_refl 0⟩) h0
    have e : wovR σ co r = sm (fun c => bz (decide (cellS σ c r = co))) 0 (σ 0) := rfl
    omega) hn
  omega
theorem unp_lo {σ : Int → Int} {lo p : Int} (h : 0 ≤ p ∧ p < 117) (hl : 0 ≤ lo) (h3 : p ≠ 3) (h4 : p ≠ 4) (h6 : p < 6 ∨ 13 ≤ p) : clrS (unpS σ lo 7) lo p = σ p := by
  unfold clrS
  rw [if_neg h4, if_neg h3, if_neg (by omega)]
  unfold unpS
  rw [if_neg (by omega)]
theorem unp_st {σ : Int → Int} {lo c : Int} (h : 0 ≤ c ∧ c < 7) (hl : 0 ≤ lo) : clrS (unpS σ lo 7) lo (6 + c) = min 9999 (σ (6 + c) + wvnS σ lo c / 2) := by
  unfold clrS
  rw [if_neg (by omega), if_neg (by omega), if_neg (by omega)]
  unfold unpS
  rw [if_pos (by omega), show 6 + c - 6 = c by omega]
theorem unp_3 {σ : Int → Int} {lo : Int} : clrS (unpS σ lo 7) lo 3 = min (σ 3) lo := by
  unfold clrS
  rw [if_neg (by decide), if_pos rfl]
  unfold unpS
  rw [if_neg (by decide)]
theorem unp_4 {σ : Int → Int} {lo : Int} : clrS (unpS σ lo 7) lo 4 = lo := by
  unfold clrS
  rw [if_pos rfl]
theorem unp_ce {σ : Int → Int} {lo c r : Int} (hc : 0 ≤ c ∧ c < 40) (hr : 0 ≤ r ∧ r < 30) (hl : 0 ≤ lo) : cellS (clrS (unpS σ lo 7) lo) c r = if r < lo then cellS σ c r else -1 := by
  unfold cellS clrS
  rw [if_neg (by omega), if_neg (by omega)]
  by_cases h : r < lo
  · rw [if_pos h, if_neg (by omega)]
    unfold unpS
    rw [if_neg (by omega)]
  · rw [if_neg h, if_pos (by omega)]
theorem pno_o {X : Cx} {w : Wo} {h st lr er kr q k : Nat} {a b fs9 : List Value} {fs : Int → Int} {gr : Nat → Option Nat} (h1 : w h = some (.inr (10, a))) (h2 : w st = some (aZ X 7 fs)) (h5 : w lr = some (.inr (14, b))) (h5e : w er = some (aR X 5 kr gr)) (z : w q = some (.inr (k, fs9))) (k1 : k ≠ 10) (k2 : k ≠ 14) : ¬ (q = h ∨ q = st ∨ q = lr ∨ q = er) := fun e => by
  rcases e with e | e | e | e
  · rw [e, h1] at z; cases z; exact k1 rfl
  · rw [e, h2] at z; cases z
  · rw [e, h5] at z; cases z; exact k2 rfl
  · rw [e, h5e] at z; cases z
theorem pno_y {X : Cx} {w : Wo} {h st lr er kr q n : Nat} {a b : List Value} {fs f : Int → Int} {gr : Nat → Option Nat} (hx : X.2.1 0 ≠ X.2.1 2) (h1 : w h = some (.inr (10, a))) (h2 : w st = some (aZ X 7 fs)) (h5 : w lr = some (.inr (14, b))) (h5e : w er = some (aR X 5 kr gr)) (z : w q = some (aY X n f)) : ¬ (q = h ∨ q = st ∨ q = lr ∨ q = er) := fun e => by
  rcases e with e | e | e | e
  · rw [e, h1] at z; cases z
  · rw [e, h2] at z; exact aZ_aY hx (Option.some.inj z)
  · rw [e, h5] at z; cases z
  · rw [e, h5e] at z; exact aY_aR (Option.some.inj z).symm
theorem pno_r {X : Cx} {w : Wo} {h st lr er q n : Nat} {a b : List Value} {fs : Int → Int} {gq : Nat → Option Nat} (h1 : w h = some (.inr (10, a))) (h2 : w st = some (aZ X 7 fs)) (h5 : w lr = some (.inr (14, b))) (hne : q ≠ er) (z : w q = some (aR X 5 n gq)) : ¬ (q = h ∨ q = st ∨ q = lr ∨ q = er) := fun e => by
  rcases e with e | e | e | e
  · rw [e, h1] at z; cases z
  · rw [e, h2] at z; exact aZ_aR (Option.some.inj z)
  · rw [e, h5] at z; cases z
  · exact hne e
theorem wov_r {σ : Int → Int} (h : WF σ) {n co : Int} (hn : 0 ≤ n ∧ n ≤ σ 1) : 0 ≤ sm (wovR σ co) n (σ 1) ∧ sm (wovR σ co) n (σ 1) ≤ 1200 := by
  have hF := h.1
  unfold WF0 at hF
  have := sm_r (f := wovR σ co) (lo := n) (hi := σ 1) (M := 40) (by decide) (fun i _ _ => by
    have := cnt_r (fun c => decide (cellS σ c i = co)) (lo := 0) (hi := σ 0) (by omega)
    unfold wovR
    omega) hn.2
  omega
