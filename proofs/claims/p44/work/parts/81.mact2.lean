theorem mac_0 (v σ : Int → Int) (b : Bool) : up (up (up v 5 (min 8 (v 5 + 1))) 8 (v 8 + 1)) 9 (v 9 + macN σ b 0) = up (up v 5 (min 8 (v 5 + 1))) 8 (v 8 + 1) := by
  have e : (up (up v 5 (min 8 (v 5 + 1))) 8 (v 8 + 1)) 9 = v 9 := rfl
  rw [show v 9 + macN σ b 0 = (up (up v 5 (min 8 (v 5 + 1))) 8 (v 8 + 1)) 9 by rw [e]; show v 9 + 0 = v 9; omega]
  exact up_self _ _
theorem mac_s (v σ : Int → Int) (b : Bool) (k : Int) (ρ : Int → Int) (h : macN σ b (k + 1).toNat = macN σ b k.toNat + mnS ρ (ρ 4)) : up (up (up v 5 (min 8 (v 5 + 1))) 8 (v 8 + 1)) 9 (v 9 + macN σ b (k + 1).toNat) = up (up (up (up v 5 (min 8 (v 5 + 1))) 8 (v 8 + 1)) 9 (v 9 + macN σ b k.toNat)) 9 ((v 9 + macN σ b k.toNat) + mnS ρ (ρ 4)) := by
  rw [up_up, h, Int.add_assoc]
theorem wea_cell {σ : Int → Int} {b : Bool} {k : Nat} {c r : Int} (h : WF σ) (ho : weaO σ b k) (hc : 0 ≤ c ∧ c < 40 ∧ 0 ≤ r) (hr : r < σ 4 + k) : cellS (weaveN σ b (k + 1)) c r = cellS (weaveN σ b k) c r := by
  have w0 := h.1
  unfold WF0 at w0
  have e0 := ho.2.1 0 (by decide) (by decide) (by decide)
  have e4 := ho.2.2.1
  have e : cellS (up (fillN (weaveN σ b k) b (weaveN σ b k 4) (weaveN σ b k 0).toNat) 4 (weaveN σ b k 4 + 1)) c r = cellS (fillN (weaveN σ b k) b (weaveN σ b k 4) (weaveN σ b k 0).toNat) c r := up_n (by omega)
  show cellS (up (fillN (weaveN σ b k) b (weaveN σ b k 4) (weaveN σ b k 0).toNat) 4 (weaveN σ b k 4 + 1)) c r = _
  rw [e, fill_cell ho.1 ⟨by omega, hc.2.2, hc.1, hc.2.1⟩ _ (by omega), if_neg (by omega)]
theorem wea_mr {σ : Int → Int} {b : Bool} {k : Nat} {r : Int} (h : WF σ) (ho : weaO σ b k) (ho1 : weaO σ b (k + 1)) (r0 : 0 ≤ r) (hr : r < σ 4 + k) : misRow (weaveN σ b (k + 1)) r = misRow (weaveN σ b k) r := by
  have w0 := h.1
  unfold WF0 at w0
  unfold misRow
  rw [ho1.2.1 0 (by decide) (by decide) (by decide), ho.2.1 0 (by decide) (by decide) (by decide)]
  refine cnt_c (fun z z0 z1 => ?_)
  unfold misS
  rw [wea_des h ho1, wea_des h ho, wea_cell h ho ⟨z0, by omega, r0⟩ hr, ho1.2.2.1, ho.2.2.1, decide_eq_true (p := r < σ 4 + ((k + 1 : Nat) : Int)) (by omega), decide_eq_true (p := r < σ 4 + (k : Int)) hr]
theorem wea_sum {σ : Int → Int} {b : Bool} (h : WF σ) (rows : Nat) (hall : ∀ k : Nat, k ≤ rows → weaO σ b k) : ∀ k : Nat, k ≤ rows → sm (fun z => misRow (weaveN σ b (z + 1).toNat) (σ 4 + z)) 0 k = misFrom (weaveN σ b k) (σ 4)
  | 0, _ => by
    rw [show ((0 : Nat) : Int) = 0 from rfl, sm_0]
    show 0 = sm _ (σ 4) (σ 4)
    rw [sm_0]
  | k + 1, hk => by
    have ih := wea_sum h rows hall k (by omega)
    have w0 := h.1
    unfold WF0 at w0
    have o1 := hall k (by omega)
    have o2 := hall (k + 1) (by omega)
    rw [show ((k + 1 : Nat) : Int) = (k : Int) + 1 by omega, sm_s _ (by omega), ih]
    unfold misFrom
    rw [o1.2.2.1, o2.2.2.1, show σ 4 + ((k + 1 : Nat) : Int) = σ 4 + k + 1 by omega, sm_s _ (by omega)]
    have e1 : sm (misRow (weaveN σ b k)) (σ 4) (σ 4 + k) = sm (misRow (weaveN σ b (k + 1))) (σ 4) (σ 4 + k) := sm_c (fun r r0 r1 => (wea_mr h o1 o2 (by omega) r1).symm)
    have e2 : misRow (weaveN σ b ((k : Int) + 1).toNat) (σ 4 + k) = misRow (weaveN σ b (k + 1)) (σ 4 + k) := by
      rw [show ((k : Int) + 1).toNat = k + 1 by omega]
    rw [e1, e2]
/-! ===== unpicked by the reference ===== -/
def ucS (σ : Int → Int) (lo r c : Int) : Int → Int := fun p => if p = 4 then lo else if 117 ≤ p ∧ p < 1317 ∧ lo ≤ (p - 117) / 40 ∧ ((p - 117) / 40 < r ∧ (p - 117) % 40 < σ 0 ∨ (p - 117) / 40 = r ∧ (p - 117) % 40 < c) then -1 else σ p
def tkS (σ : Int → Int) (lo r c : Int) : Int → Int := fun co => sm (wovR σ co) lo r + cnt (fun z => decide (cellS σ z r = co)) 0 c
def tkA (tk σ : Int → Int) (lo r c : Int) : Int → Int := fun co => if 0 ≤ co ∧ co < 7 then tkS σ lo r c co else tk co
def usS (σ : Int → Int) (lo i : Int) : Int → Int := fun p => if 6 ≤ p ∧ p < 6 + i then min 9999 (σ p + wvnS σ lo (p - 6) / 2) else ucS σ lo (σ 1) 0 p
def uqS (σ : Int → Int) (lo : Int) : Int → Int := up (usS σ lo 7) 3 (min (σ 3) lo)
theorem uc_0 (σ : Int → Int) (lo : Int) : ucS σ lo lo 0 = up σ 4 lo := by
  funext p
  unfold up ucS
  by_cases h : p = 4
  · rw [if_pos h, if_pos h]
  · rw [if_neg h, if_neg h, if_neg (by omega)]
theorem uc_lo {σ : Int → Int} {lo r c p : Int} (h : p < 117) (h4 : p ≠ 4) : ucS σ lo r c p = σ p := by
  unfold ucS
  rw [if_neg h4, if_neg (by omega)]
theorem uc_cell {σ : Int → Int} {lo r c : Int} (hc : 0 ≤ c ∧ c < 40 ∧ 0 ≤ r) : cellS (ucS σ lo r c) c r = cellS σ c r := by
  unfold cellS ucS
  rw [if_neg (by omega), if_neg (by omega)]
theorem uc_t {σ : Int → Int} {lo r c : Int} (hc : 0 ≤ c ∧ c < 40 ∧ lo ≤ r ∧ 0 ≤ lo ∧ r < 30) : ucS σ lo r (c + 1) = up (ucS σ lo r c) (117 + 40 * r + c) (-1) := by
  funext p
  unfold up
  by_cases h : p = 117 + 40 * r + c
  · rw [if_pos h]
    unfold ucS
    rw [if_neg (by omega), if_pos (by omega)]
  · rw [if_neg h]
    unfold ucS
    by_cases h4 : p = 4
    · rw [if_pos h4, if_pos h4]
    · rw [if_neg h4, if_neg h4]
      by_cases g : 117 ≤ p ∧ p < 1317 ∧ lo ≤ (p - 117) / 40 ∧ ((p - 117) / 40 < r ∧ (p - 117) % 40 < σ 0 ∨ (p - 117) / 40 = r ∧ (p - 117) % 40 < c)
      · rw [if_pos g, if_pos (by omega)]
      · rw [if_neg g, if_neg (by omega)]
theorem uc_f {σ : Int → Int} {lo r c : Int} (hc : 0 ≤ c ∧ c < 40 ∧ lo ≤ r ∧ 0 ≤ lo ∧ r < 30) (hn : cellS σ c r = -1) : ucS σ lo r (c + 1) = ucS σ lo r c := by
  rw [uc_t hc]
  have e : ucS σ lo r c (117 + 40 * r + c) = -1 := by
    have e := uc_cell (σ := σ) (lo := lo) (r := r) (c := c) ⟨hc.1, hc.2.1, by omega⟩
    rw [hn] at e
    exact e
  rw [← e]
  exact up_self _ _
theorem uc_r (σ : Int → Int) (lo r : Int) (h : lo ≤ r) : ucS σ lo (r + 1) 0 = ucS σ lo r (σ 0) := by
  funext p
  unfold ucS
  by_cases h4 : p = 4
  · rw [if_pos h4, if_pos h4]
  · rw [if_neg h4, if_neg h4]
    by_cases g : 117 ≤ p ∧ p < 1317 ∧ lo ≤ (p - 117) / 40 ∧ ((p - 117) / 40 < r ∧ (p - 117) % 40 < σ 0 ∨ (p - 117) / 40 = r ∧ (p - 117) % 40 < σ 0)
    · rw [if_pos g, if_pos (by omega)]
    · rw [if_neg g, if_neg (by omega)]
theorem tk_0 (tk σ : Int → Int) (lo : Int) : tkA tk σ lo lo 0 = flZ tk 7 0 := by
  funext co
  unfold tkA tkS flZ
  rw [sm_0, cnt_0]; rfl
theorem tkS_0 (σ : Int → Int) (lo : Int) : sm (tkS σ lo lo 0) 0 7 = 0 := by
  have e : ∀ co, tkS σ lo lo 0 co = 0 := fun co => by unfold tkS; rw [sm_0, cnt_0]; rfl
  rw [sm_c (g := fun _ => 0) (fun i _ _ => e i)]
  rfl
theorem tk_f {tk σ : Int → Int} {lo r c : Int} (h : 0 ≤ c) (hn : cellS σ c r = -1) : tkA tk σ lo r (c + 1) = tkA tk σ lo r c := by
  funext co
  unfold tkA tkS
  split
  · rw [cnt_f h (decide_eq_false (by omega))]
  · rfl
theorem tkS_f {σ : Int → Int} {lo r c : Int} (h : 0 ≤ c) (hn : cellS σ c r = -1) : sm (tkS σ lo r (c + 1)) 0 7 = sm (tkS σ lo r c) 0 7 :=
  sm_c (fun co c0 c1 => by unfold tkS; rw [cnt_f h (decide_eq_false (by omega))])
theorem tk_v {tk σ : Int → Int} {lo r c co : Int} (h : 0 ≤ co ∧ co < 7) : tkA tk σ lo r c co = tkS σ lo r c co := if_pos h
theorem tk_t {tk σ : Int → Int} {lo r c : Int} (h : 0 ≤ c) (hn : 0 ≤ cellS σ c r ∧ cellS σ c r < 7) : tkA tk σ lo r (c + 1) = up (tkA tk σ lo r c) (cellS σ c r) (tkS σ lo r c (cellS σ c r) + 1) := by
  funext co
  unfold up
  by_cases g : co = cellS σ c r
  · rw [if_pos g, ← g, tk_v (by omega)]
    unfold tkS
    rw [cnt_t h (decide_eq_true g.symm)]; omega
  · rw [if_neg g]
    unfold tkA tkS
    split
    · rw [cnt_f h (decide_eq_false (fun z => g z.symm))]
    · rfl
theorem sm_up (f : Int → Int) (x : Int) (k : Int) (hk : 0 ≤ k) : ∀ n : Nat, sm (up f k x) 0 n = sm f 0 n + (if k < n then x - f k else 0)
  | 0 => by rw [show ((0 : Nat) : Int) = 0 from rfl, sm_0, sm_0, if_neg (by omega)]; rfl
  | n + 1 => by
    have ih := sm_up f x k hk n
    rw [show ((n + 1 : Nat) : Int) = (n : Int) + 1 by omega, sm_s _ (by omega), sm_s _ (by omega), ih]
    by_cases g : (n : Int) = k
    · rw [g, up_s, if_neg (by omega), if_pos (by omega)]; omega
    · rw [up_n g]
      by_cases g2 : k < n
      · rw [if_pos g2, if_pos (by omega)]; omega
      · rw [if_neg g2, if_neg (by omega)]; omega
theorem tkS_t {σ : Int → Int} {lo r c : Int} (h : 0 ≤ c) (hn : 0 ≤ cellS σ c r ∧ cellS σ c r < 7) : sm (tkS σ lo r (c + 1)) 0 7 = sm (tkS σ lo r c) 0 7 + 1 := by
  have e : ∀ co, 0 ≤ co → co < 7 → tkS σ lo r (c + 1) co = up (tkS σ lo r c) (cellS σ c r) (tkS σ lo r c (cellS σ c r) + 1) co := by
    intro co c0 c1
    have := congrFun (tk_t (tk := fun _ => 0) (lo := lo) h hn) co
    rw [tk_v ⟨c0, c1⟩] at this
    rw [this]
    unfold up
    split
    · rfl
    · exact tk_v ⟨c0, c1⟩
  rw [sm_c e]
  have := sm_up (tkS σ lo r c) (tkS σ lo r c (cellS σ c r) + 1) (cellS σ c r) hn.1 7
  rw [show ((7 : Nat) : Int) = 7 from rfl, if_pos hn.2] at this
  rw [this]; omega
theorem tkS_r (σ : Int → Int) (lo r co : Int) (h : lo ≤ r) : tkS σ lo (r + 1) 0 co = tkS σ lo r (σ 0) co := by
  unfold tkS
  rw [sm_s _ h, cnt_0]
  show _ + cnt _ 0 (σ 0) + 0 = _ + cnt _ 0 (σ 0)
  omega
theorem tk_r (tk σ : Int → Int) (lo r : Int) (h : lo ≤ r) : tkA tk σ lo (r + 1) 0 = tkA tk σ lo r (σ 0) := by
  funext co
  unfold tkA
  rw [tkS_r σ lo r co h]
theorem tk_wv (σ : Int → Int) (lo co : Int) : tkS σ lo (σ 1) 0 co = wvnS σ lo co := by
  unfold tkS wvnS
  rw [cnt_0]; omega
theorem us_0 (σ : Int → Int) (lo : Int) : usS σ lo 0 = ucS σ lo (σ 1) 0 := by
  funext p
  unfold usS
  exact if_neg (by omega)
theorem us_s {σ : Int → Int} {lo i : Int} (h : 0 ≤ i) : usS σ lo (i + 1) = up (usS σ lo i) (6 + i) (min 9999 (σ (6 + i) + wvnS σ lo i / 2)) := by
  funext p
  unfold up
  by_cases g : p = 6 + i
  · rw [if_pos g]
    unfold usS
    rw [if_pos (by omega), g, show 6 + i - 6 = i by omega]
  · rw [if_neg g]
    unfold usS
    by_cases g2 : 6 ≤ p ∧ p < 6 + i
    · rw [if_pos g2, if_pos (by omega)]
    · rw [if_neg g2, if_neg (by omega)]
theorem us_v {σ : Int → Int} {lo i : Int} (h : 0 ≤ i ∧ i < 7) : usS σ lo i (6 + i) = σ (6 + i) := by
  unfold usS
  rw [if_neg (by omega), uc_lo (by omega) (by omega)]
theorem us_lo {σ : Int → Int} {lo i p : Int} (h : p < 6) (h4 : p ≠ 4) : usS σ lo i p = σ p := by
  unfold usS
  rw [if_neg (by omega), uc_lo (by omega) h4]
theorem us_4 {σ : Int → Int} {lo i : Int} : usS σ lo i 4 = lo := by
  unfold usS ucS
  rw [if_neg (by omega), if_pos rfl]
/-- the class's row after unpicking says what the reference's says -/
theorem uq_eq {σ : Int → Int} (h : WF σ) {lo : Int} (hl : 0 ≤ lo ∧ lo ≤ σ 4) : eqS (clrS (unpS σ lo 7) lo) (uqS σ lo) := by
  have w0 := h.1
  unfold WF0 at w0
  refine ⟨fun p p0 p1 => ?_, fun k k0 k1 j j0 j1 => ?_, fun c r c0 c1 r0 r1 => ?_⟩
  · unfold uqS up
    by_cases g3 : p = 3
    · rw [if_pos g3, g3, clr_3, unp_n (by omega)]
    · rw [if_neg g3]
      by_cases g4 : p = 4
      · rw [g4, us_4, clr_4]
      · rw [clr_lo (by omega) hl.1 g3 g4]
        unfold usS unpS
        by_cases g : 6 ≤ p ∧ p < 6 + 7
        · rw [if_pos g, if_pos g]
        · rw [if_neg g, if_neg g, uc_lo (by omega) g4]
  · rw [clr_lo (by decide) hl.1 (by decide) (by decide), unp_n (by omega)] at k1
    unfold cp
    rw [clr_lo (by omega) hl.1 (by omega) (by omega), unp_n (by omega)]
    unfold uqS
    rw [up_n (by omega)]
    unfold usS
    rw [if_neg (by omega), uc_lo (by omega) (by omega)]
  · rw [clr_lo (by decide) hl.1 (by decide) (by decide), unp_n (by omega)] at c1
    rw [clr_lo (by decide) hl.1 (by decide) (by decide), unp_n (by omega)] at r1
    rw [clr_cell (by omega)]
    unfold cellS uqS
    rw [up_n (by omega)]
    unfold usS
    rw [if_neg (by omega), unp_n (by omega)]
    unfold ucS
    rw [if_neg (by omega)]
    by_cases g : lo ≤ r
    · rw [if_pos g, if_pos (by omega)]
    · rw [if_neg g, if_neg (by omega)]
