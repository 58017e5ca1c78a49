/-- cells of a colour from a row on -/
def wvnS (σ : Int → Int) (lo co : Int) : Int := sm (wovR σ co) lo (σ 1)
/-- the stocks of the first i colours, with half of what comes out -/
def unpS (σ : Int → Int) (lo i : Int) : Int → Int := fun p => if 6 ≤ p ∧ p < 6 + i then min 9999 (σ p + wvnS σ lo (p - 6) / 2) else σ p
theorem unp_0 (σ : Int → Int) (lo : Int) : unpS σ lo 0 = σ := by
  funext p
  unfold unpS
  exact if_neg (by omega)
theorem unp_n {σ : Int → Int} {lo i p : Int} (h : p < 6 ∨ 6 + i ≤ p) : unpS σ lo i p = σ p := by
  unfold unpS
  exact if_neg (by omega)
theorem unp_p {σ : Int → Int} {lo i c : Int} (h : 0 ≤ c ∧ c < i) : unpS σ lo i (6 + c) = min 9999 (σ (6 + c) + wvnS σ lo c / 2) := by
  unfold unpS
  rw [if_pos (by omega), show 6 + c - 6 = c by omega]
theorem unp_wv {σ : Int → Int} {lo i co : Int} (hi : 0 ≤ i ∧ i ≤ 7) (hl : 0 ≤ lo) : sm (wovR (unpS σ lo i) co) lo (unpS σ lo i 1) = wvnS σ lo co := by
  rw [unp_n (by omega)]
  unfold wvnS
  refine sm_c (fun r r0 r1 => ?_)
  unfold wovR
  rw [unp_n (p := 0) (by omega)]
  refine cnt_c (fun c c0 c1 => ?_)
  unfold cellS
  rw [unp_n (by omega)]
theorem wvn_r {σ : Int → Int} (h : WF0 σ) {lo : Int} (hl : 0 ≤ lo ∧ lo ≤ σ 1) (co : Int) : 0 ≤ wvnS σ lo co ∧ wvnS σ lo co ≤ 1200 := by
  unfold WF0 at h
  have := sm_r (f := wovR σ co) (lo := lo) (hi := σ 1) (M := 40) (by decide) (fun i _ _ => by have := cnt_r (fun c => decide (cellS σ c i = co)) (lo := 0) (hi := σ 0) (by omega); unfold wovR; omega) hl.2
  unfold wvnS
  omega
theorem unp_WF {σ : Int → Int} (h : WF σ) {lo i : Int} (hi : 0 ≤ i ∧ i ≤ 7) (hl : 0 ≤ lo ∧ lo ≤ σ 1) : WF (unpS σ lo i) := by
  have w0 := h.1
  unfold WF0 at w0
  have hc : ∀ c r, 0 ≤ c → 0 ≤ r → cellS (unpS σ lo i) c r = cellS σ c r := fun c r c0 r0 => unp_n (by omega)
  refine h.up (fun p p0 p1 p2 => unp_n (by omega)) (by rw [unp_n (by omega)]; omega) (by rw [unp_n (by omega)]; omega) (by rw [unp_n (by omega)]; omega) (fun c c0 c1 => ?_) (fun c r c0 c1 r0 r1 => ?_) (fun c r c0 c1 r0 r1 => ?_)
  · have h1 := h.2.1 c c0 c1
    have h2 := wvn_r h.1 hl c
    by_cases g : c < i
    · rw [unp_p ⟨c0, g⟩]; omega
    · rw [unp_n (by omega)]; exact h1
  · rw [hc c r c0 r0]; exact h.2.2.2.1 c r c0 c1 r0 r1
  · rw [hc c r c0 r0]
    rw [unp_n (by omega)] at r1
    exact h.2.2.2.2.1 c r c0 c1 r0 r1
theorem unp_loom {X : Cx} {w w2 : Wo} {a : Nat} {σ t : Int → Int} {lo i : Int} (h : loomAt X w a (unpS σ lo i)) (hwf : WF σ) (hi : 0 ≤ i ∧ i < 7) (hl : 0 ≤ lo ∧ lo ≤ σ 1) (hte : ∀ c, 0 ≤ c → c < 7 → t c = unpS σ lo i (6 + c)) (ht : w2 (a + 5) = some (aZ X 7 (up t i (min 9999 (t i + wvnS σ lo i / 2))))) (hf : ∀ q : Nat, q ≠ a + 5 → w2 q = w q) : loomAt X w2 a (unpS σ lo (i + 1)) := by
  have hA := h.1
  obtain ⟨gr, h2, h3⟩ := hA.2.1
  obtain ⟨gp, h4⟩ := hA.2.2.1
  have hW := unp_WF hwf (lo := lo) (i := i + 1) (by omega) hl
  have hu : ∀ p, (p < 6 ∨ 13 ≤ p) → unpS σ lo (i + 1) p = unpS σ lo i p := fun p hp => (unp_n (by omega)).trans (unp_n (by omega)).symm
  have h8 := h.2.2.cap8
  have h81 := h8.1
  refine ⟨hA.up h8 ?_ ⟨gr, h2.mv (hf _ (by omega)) (hf _ (by omega)), fun c r c1 c2 c3 c4 => ?_⟩ ⟨gp, h4.mv (hf _ (by omega)) (hf _ (by omega))⟩ ⟨_, ht, fun c c0 c1 => ?_⟩ (fun q q0 q1 => hf q (by omega)) (fun k k0 k1 => ?_), h.2.1.up h8 (fun p p0 p1 p2 => hu p (by omega)) (hf _ (by omega)) (hf _ (by omega)), hW⟩
  · rw [hf a (by omega), hA.1]
    unfold lmF
    rw [hu 5 (by omega), hu 0 (by omega), hu 1 (by omega), hu 4 (by omega), hu 3 (by omega), hu 2 (by omega)]
  · rw [hu 0 (by omega)] at c2
    rw [hu 1 (by omega)] at c4
    exact (h3 c r c1 c2 c3 c4).trans (hu _ (by omega)).symm
  · by_cases g : c = i
    · subst g
      rw [up_s, hte c c0 c1, unp_n (by omega), unp_p (by omega)]
    · rw [up_n g, hte c c0 c1]
      by_cases g2 : c < i
      · rw [unp_p (by omega), unp_p (by omega)]
      · rw [unp_n (by omega), unp_n (by omega)]
  · rw [hu 5 (by omega)] at k1
    exact ⟨k1, fun j j0 j1 => hu _ (by omega)⟩
