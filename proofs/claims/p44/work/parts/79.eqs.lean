/-! ===== what the two rows say of the loom is the same: loomAt of the one is loomAt of the other ===== -/
theorem WF.to {σ τ : Int → Int} (h : WF σ) (he : eqS σ τ) : WF τ := by
  obtain ⟨e1, e2, e3⟩ := he
  obtain ⟨w0, w1, w2, w3, w4, w5⟩ := h
  unfold WF0 at w0
  have f0 := e1 0 (by decide) (by decide)
  have f1 := e1 1 (by decide) (by decide)
  have f2 := e1 2 (by decide) (by decide)
  have f3 := e1 3 (by decide) (by decide)
  have f4 := e1 4 (by decide) (by decide)
  have f5 := e1 5 (by decide) (by decide)
  refine ⟨by unfold WF0; omega, fun c c0 c1 => by rw [e1 _ (by omega) (by omega)]; exact w1 c c0 c1, fun k k0 k1 => capOK_congr f0 f1 (e2 k k0 (by omega)) (w2 k k0 (by omega)), fun c r c0 c1 r0 r1 => by rw [e3 c r c0 (by omega) r0 (by omega)]; exact w3 c r c0 (by omega) r0 (by omega), fun c r c0 c1 r0 r1 => by rw [e3 c r c0 (by omega) r0 (by omega)]; exact w4 c r c0 (by omega) r0 (by omega), fun i k i0 i1 k0 k1 hne => ?_⟩
  have hi := e2 i i0 (by omega)
  have hk := e2 k k0 (by omega)
  have e := w5 i k i0 (by omega) k0 (by omega) hne
  unfold mtS lowC at e ⊢
  rw [f0, hi 0 (by decide) (by decide), hi 1 (by decide) (by decide), hi 2 (by decide) (by decide), hi 3 (by decide) (by decide), hk 0 (by decide) (by decide), hk 1 (by decide) (by decide), hk 2 (by decide) (by decide), hk 3 (by decide) (by decide)]
  exact e
theorem loomAt.to {X : Cx} {w : Wo} {a : Nat} {σ τ : Int → Int} (h : loomAt X w a σ) (he : eqS σ τ) : loomAt X w a τ := by
  have h8 := h.2.2.cap8
  have e0 := he.1 0 (by decide) (by decide)
  have e1 := he.1 1 (by decide) (by decide)
  have e5 := he.1 5 (by decide) (by decide)
  obtain ⟨gp, g1, g2⟩ := h.2.1
  exact ⟨h.1.to h8 he, ⟨gp, g1, fun c r c0 c1 r0 r1 => (g2 c r c0 (by omega) r0 (by omega)).trans (des_congr e0 e5 h8 he.2.1).symm⟩, h.2.2.to he⟩
theorem eqS.rf (σ : Int → Int) : eqS σ σ := ⟨fun _ _ _ => rfl, fun _ _ _ _ _ _ => rfl, fun _ _ _ _ _ _ => rfl⟩
/-- rows that are one up to the place 1317 -/
theorem eqS.of {σ τ : Int → Int} (h8 : cap8 σ) (h : (0 ≤ σ 0 ∧ σ 0 ≤ 40) ∧ σ 1 ≤ 30) (he : ∀ p, 0 ≤ p → p < 1317 → τ p = σ p) : eqS σ τ := by
  have h5 := h8.1
  exact ⟨fun p p0 p1 => he p p0 (by omega), fun k k0 k1 j j0 j1 => he _ (by omega) (by omega), fun c r c0 c1 r0 r1 => he _ (by omega) (by omega)⟩
theorem eqS.ofW {σ τ : Int → Int} (h : WF σ) (he : ∀ p, 0 ≤ p → p < 1317 → τ p = σ p) : eqS σ τ := by
  have w0 := h.1
  unfold WF0 at w0
  exact eqS.of h.cap8 (by omega) he
theorem up_self (f : Int → Int) (k : Int) : up f k (f k) = f := by
  funext j
  unfold up
  split
  · rename_i h; rw [h]
  · rfl
/-! ===== the reference's rows copied, kept ===== -/
/-- i places of f from a on, laid at b -/
def cpN (f g : Int → Int) (a b i : Int) : Int → Int := fun j => if b ≤ j ∧ j < b + i then f (a + (j - b)) else g j
theorem cpN_0 (f g : Int → Int) (a b : Int) : cpN f g a b 0 = g := by
  funext j
  unfold cpN
  exact if_neg (by omega)
theorem cpN_s (f g : Int → Int) (a b : Int) {i : Int} (h : 0 ≤ i) : cpN f g a b (i + 1) = up (cpN f g a b i) (b + i) (f (a + i)) := by
  funext j
  unfold up cpN
  by_cases h1 : j = b + i
  · rw [if_pos h1, if_pos (by omega), show j - b = i by omega]
  · rw [if_neg h1]
    by_cases h2 : b ≤ j ∧ j < b + i
    · rw [if_pos h2, if_pos (by omega)]
    · rw [if_neg h2, if_neg (by omega)]
def shfN (f : Int → Int) (i : Int) : Int → Int := fun j => if 0 ≤ j ∧ j < i then f (j + 1317) else f j
theorem shfN_0 (f : Int → Int) : shfN f 0 = f := by
  funext j
  unfold shfN
  exact if_neg (by omega)
theorem shfN_s (f : Int → Int) {i : Int} (h : 0 ≤ i) : shfN f (i + 1) = up (shfN f i) i (shfN f i (i + 1317)) := by
  funext j
  unfold up shfN
  by_cases h1 : j = i
  · rw [if_pos h1, if_pos (by omega), if_neg (by omega), h1]
  · rw [if_neg h1]
    by_cases h2 : 0 ≤ j ∧ j < i
    · rw [if_pos h2, if_pos (by omega)]
    · rw [if_neg h2, if_neg (by omega)]
/-- the kept rows, one more -/
def actP (un : Int) (pa σ : Int → Int) : Int → Int := if un = 8 then cpN σ (shfN pa 9219) 0 9219 1317 else cpN σ pa 0 (1317 * un) 1317
/-- of kept rows, the row i -/
theorem actP_v {un : Int} {pa σ : Int → Int} {pas : Int → Int → Int} (h : 0 ≤ un ∧ un ≤ 8) (hp : ∀ i, 0 ≤ i → i < un → ∀ p, 0 ≤ p → p < 1317 → pa (1317 * i + p) = pas i p) (i : Int) (i0 : 0 ≤ i) (i1 : i < min 8 (un + 1)) (p : Int) (p0 : 0 ≤ p) (p1 : p < 1317) : actP un pa σ (1317 * i + p) = keepP un pas σ i p := by
  unfold actP keepP
  by_cases h8 : un = 8
  · rw [if_pos h8, if_pos h8]
    unfold cpN shfN
    by_cases h7 : i < 7
    · rw [if_pos h7, if_neg (by omega), if_pos (by omega), ← hp (i + 1) (by omega) (by omega) p p0 p1]
      congr 1; omega
    · rw [if_neg h7, if_pos (by omega)]
      congr 1; omega
  · rw [if_neg h8, if_neg h8]
    unfold cpN
    by_cases h7 : i < un
    · rw [if_pos h7, if_neg (by omega)]
      exact hp i i0 h7 p p0 p1
    · rw [if_neg h7, if_pos (by omega)]
      congr 1; omega
/-! ===== a fresh row ===== -/
def bgN (f : Int → Int) (i : Int) : Int → Int := fun j => if 0 ≤ j ∧ j < i then (if j < 117 then 0 else -1) else f j
theorem bgN_0 (f : Int → Int) : bgN f 0 = f := by
  funext j
  unfold bgN
  exact if_neg (by omega)
theorem bgN_s (f : Int → Int) {i : Int} (h : 0 ≤ i) : up (bgN f i) i (if i < 117 then 0 else -1) = bgN f (i + 1) := by
  funext j
  unfold up bgN
  by_cases h1 : j = i
  · subst h1
    rw [if_pos rfl, if_pos (show 0 ≤ j ∧ j < j + 1 by omega)]
  · rw [if_neg h1]
    by_cases h2 : 0 ≤ j ∧ j < i
    · rw [if_pos h2, if_pos (show 0 ≤ j ∧ j < i + 1 by omega)]
    · rw [if_neg h2, if_neg (show ¬ (0 ≤ j ∧ j < i + 1) by omega)]
def bgC (g : Int → Int) (i : Int) : Int → Int := fun j => if 6 ≤ j ∧ j < 6 + i then 500 else g j
theorem bgC_0 (g : Int → Int) : bgC g 0 = g := by
  funext j
  unfold bgC
  exact if_neg (by omega)
theorem bgC_s (g : Int → Int) {i : Int} (h : 0 ≤ i) : up (bgC g i) (6 + i) 500 = bgC g (i + 1) := by
  funext j
  unfold up bgC
  by_cases h1 : j = 6 + i
  · rw [if_pos h1, if_pos (by omega)]
  · rw [if_neg h1]
    by_cases h2 : 6 ≤ j ∧ j < 6 + i
    · rw [if_pos h2, if_pos (by omega)]
    · rw [if_neg h2, if_neg (by omega)]
def bgS (f : Int → Int) (wd ht : Int) : Int → Int := bgC (up (up (up (bgN f 1317) 0 wd) 1 ht) 2 4) 7
theorem bgS_v (f : Int → Int) (wd ht p : Int) (p0 : 0 ≤ p) (p1 : p < 1317) : bgS f wd ht p = resS wd ht p := by
  unfold bgS bgC up bgN resS
  repeat' split
  all_goals first | rfl | omega
theorem res_WF {wd ht : Int} (h : (8 ≤ wd ∧ wd ≤ 40) ∧ (6 ≤ ht ∧ ht ≤ 30)) : WF (resS wd ht) := by
  have f0 : resS wd ht 0 = wd := rfl
  have f1 : resS wd ht 1 = ht := rfl
  have f2 : resS wd ht 2 = 4 := rfl
  have f3 : resS wd ht 3 = 0 := rfl
  have f4 : resS wd ht 4 = 0 := rfl
  have f5 : resS wd ht 5 = 0 := rfl
  refine ⟨by unfold WF0; omega, fun c c0 c1 => by rw [res_st ⟨c0, c1⟩]; decide, fun k k0 k1 => absurd k1 (by omega), fun c r c0 c1 r0 r1 => by rw [res_cell ⟨c0, r0⟩]; decide, fun c r c0 c1 r0 r1 => absurd r1 (by omega), fun i k i0 i1 => absurd i1 (by omega)⟩
/-! ===== a pass by the reference: the stock first ===== -/
def pasM (σ : Int → Int) (co N fr i : Int) : Int → Int := up (passN σ co fr (i - fr).toNat) (6 + co) (σ (6 + co) - N)
theorem pasM_0 (σ : Int → Int) (co N fr : Int) : pasM σ co N fr fr = up σ (6 + co) (σ (6 + co) - N) := by
  unfold pasM
  rw [show (fr - fr).toNat = 0 by omega]
  rfl
theorem pasM_s {σ : Int → Int} {co N fr i : Int} (h : fr ≤ i) (hc : 0 ≤ co ∧ co < 7) (h4 : 0 ≤ σ 4) (ht : 0 ≤ turnS σ i) : pasM σ co N fr (i + 1) = up (pasM σ co N fr i) (117 + 40 * σ 4 + turnS σ i) co := by
  unfold pasM
  rw [show (i + 1 - fr).toNat = (i - fr).toNat + 1 by omega]
  have e : passN σ co fr ((i - fr).toNat + 1) = giveS (passN σ co fr (i - fr).toNat) (turnS σ (fr + ((i - fr).toNat : Int))) (σ 4) co := rfl
  rw [e, show fr + ((i - fr).toNat : Int) = i by omega]
  unfold giveS
  rw [up_up]
  funext j
  unfold up
  by_cases h1 : j = 6 + co
  · rw [if_pos h1, if_neg (by omega), if_pos h1]
  · rw [if_neg h1]
    by_cases h2 : j = 117 + 40 * σ 4 + turnS σ i
    · rw [if_pos h2, if_pos h2]
    · rw [if_neg h2, if_neg h2, if_neg h1]
theorem pasM_lo {σ : Int → Int} {co N fr i p : Int} (h4 : 0 ≤ σ 4) (hp : p < 117) (h1 : p ≠ 6 + co) (h0 : 0 ≤ fr) (hi : fr ≤ i ∧ i ≤ σ 0) : pasM σ co N fr i p = σ p := by
  unfold pasM
  rw [up_n h1, pass_lo h4 hp h1 _ h0 (by omega)]
theorem pasM_e {σ : Int → Int} {co N fr i : Int} (h : N = i - fr) (h0 : 0 ≤ N) : pasM σ co N fr i = passN σ co fr N.toNat := by
  unfold pasM
  rw [← h]
  have e := pass_st (σ := σ) (co := co) (fr := fr) N.toNat
  rw [show ((N.toNat : Nat) : Int) = N by omega] at e
  rw [← e]
  exact up_self _ _
/-! ===== a beat by the reference ===== -/
def beaM (σ : Int → Int) (N i : Int) : Int → Int := up (beatN σ i.toNat) 6 (σ 6 - N)
theorem beaM_0 (σ : Int → Int) (N : Int) : beaM σ N 0 = up σ 6 (σ 6 - N) := rfl
theorem beaM_s {σ : Int → Int} {N i : Int} (h4 : 0 ≤ σ 4) (h : 0 ≤ i) (hc : -1 ≤ cellS (beatN σ i.toNat) i (σ 4)) : beaM σ N (i + 1) = up (beaM σ N i) (117 + 40 * σ 4 + i) (max 0 (cellS (beatN σ i.toNat) i (σ 4))) := by
  unfold beaM
  by_cases g : cellS (beatN σ i.toNat) i (σ 4) = -1
  · rw [beatN_t h g, g]
    unfold giveS
    rw [show (6 + 0 : Int) = 6 from rfl, up_up]
    funext j
    unfold up
    by_cases h1 : j = 6
    · rw [if_pos h1, if_neg (by omega), if_pos h1]
    · rw [if_neg h1]
      by_cases h2 : j = 117 + 40 * σ 4 + i
      · rw [if_pos h2, if_pos h2]; rfl
      · rw [if_neg h2, if_neg h2, if_neg h1]
  · rw [beatN_f h g, show max 0 (cellS (beatN σ i.toNat) i (σ 4)) = cellS (beatN σ i.toNat) i (σ 4) by omega]
    have e : up (beatN σ i.toNat) 6 (σ 6 - N) (117 + 40 * σ 4 + i) = cellS (beatN σ i.toNat) i (σ 4) := by
      rw [up_n (by omega)]; rfl
    rw [← e]
    exact (up_self _ _).symm
theorem beaM_lo {σ : Int → Int} {N i p : Int} (h4 : 0 ≤ σ 4) (hp : p < 117) (h1 : p ≠ 6) : beaM σ N i p = σ p := by
  unfold beaM
  rw [up_n h1, beat_lo h4 hp h1]
theorem beaM_c {σ : Int → Int} {N i c r : Int} (hc : 0 ≤ c ∧ 0 ≤ r) : cellS (beaM σ N i) c r = cellS (beatN σ i.toNat) c r := by
  unfold beaM cellS
  rw [up_n (by omega)]
theorem beaM_e {σ : Int → Int} {N i : Int} (h4 : 0 ≤ σ 4) (hi : 0 ≤ i ∧ i ≤ 40) (hN : N = cnt (emB σ) 0 i) : beaM σ N i = beatN σ i.toNat := by
  unfold beaM
  have e := beat_st (σ := σ) h4 i.toNat (by omega)
  rw [show ((i.toNat : Nat) : Int) = i by omega, ← hN] at e
  rw [← e]
  exact up_self _ _
