theorem mac_0 (v σ : Int → Int) (b : Bool) : up (up (up v 5 (min 8 (v 5 + 1))) 8 (v 8 + 1)) 9 (v 9 + macN σ b 0) = up (up v 5 (min 8 (v 5 + 1))) 8 (v 8 + 1) := by
  have e : (up (up v 5 (min 8 (v 5 + 1))) 8 (v 8 + 1)) 9 = v 9 := rfl
  rw [show v 9 + macN σ b 0 = (up (up v 5 (min 8 (v 5 + 1))) 8 (v 8 + 1)) 9 by rw [e]; show v 9 + 0 = v 9; omega]
  exact up_self _ _
theorem mac_s (v σ : Int → Int) (b : Bool) (k : Int) (ρ : Int → Int) (h : macN σ b (k + 1).toNat = macN σ b k.toNat + mnS ρ (ρ 4)) : up (up (up v 5 (min 8 (v 5 + 1))) 8 (v 8 + 1)) 9 (v 9 + macN σ b (k + 1).toNat) = up (up (up (up v 5 (min 8 (v 5 + 1))) 8 (v 8 + 1)) 9 (v 9 + macN σ b k.toNat)) 9 ((v 9 + macN σ b k.toNat) + mnS ρ (ρ 4)) := by
  rw [up_up, h, Int.add_assoc]
theorem wea_cell {σ : Int → Int} {b : Bool} {k : Nat} {c r : Int} (h : WF σ) (ho : weaO σ b k) (hc : 0 ≤ c ∧ c < 40 ∧ 0 ≤ r) (hr : r < σ 4 + k) : cellS (weaveN σ b (k + 1)) c r = cellS (weaveN σ b k) c r := by
  have w0 := h.1
  unfold WF0 at w0
  have e0 := ho.2.1 0 (by decide) (by decide) (by decide)
  have e4 := ho.2.2.1
  have e : cellS (up (fillN (weaveN σ b k) b (weaveN σ b k 4) (weaveN σ b k 0).toNat) 4 (weaveN σ b k 4 + 1)) c r = cellS (fillN (weaveN σ b k) b (weaveN σ b k 4) (weaveN σ b k 0).toNat) c r := up_n (by omega)
  show cellS (up (fillN (weaveN σ b k) b (weaveN σ b k 4) (weaveN σ b k 0).toNat) 4 (weaveN σ b k 4 + 1)) c r = _
  rw [e, fill_cell ho.1 ⟨by omega, hc.2.2, hc.1, hc.2.1⟩ _ (by omega), if_neg (by omega)]
theorem wea_mr {σ : Int → Int} {b : Bool} {k : Nat} {r : Int} (h : WF σ) (ho : weaO σ b k) (ho1 : weaO σ b (k + 1)) (r0 : 0 ≤ r) (hr : r < σ 4 + k) : misRow (weaveN σ b (k + 1)) r = misRow (weaveN σ b k) r := by
  have w0 := h.1
  unfold WF0 at w0
  unfold misRow
  rw [ho1.2.1 0 (by decide) (by decide) (by decide), ho.2.1 0 (by decide) (by decide) (by decide)]
  refine cnt_c (fun z z0 z1 => ?_)
  unfold misS
  rw [wea_des h ho1, wea_des h ho, wea_cell h ho ⟨z0, by omega, r0⟩ hr, ho1.2.2.1, ho.2.2.1, decide_eq_true (p := r < σ 4 + ((k + 1 : Nat) : Int)) (by omega), decide_eq_true (p := r < σ 4 + (k : Int)) hr]
theorem wea_sum {σ : Int → Int} {b : Bool} (h : WF σ) (rows : Nat) (hall : ∀ k : Nat, k ≤ rows → weaO σ b k) : ∀ k : Nat, k ≤ rows → sm (fun z => misRow (weaveN σ b (z + 1).toNat) (σ 4 + z)) 0 k = misFrom (weaveN σ b k) (σ 4)
  | 0, _ => by
    rw [show ((0 : Nat) : Int) = 0 from rfl, sm_0]
    show 0 = sm _ (σ 4) (σ 4)
    rw [sm_0]
  | k + 1, hk => by
    have ih := wea_sum h rows hall k (by omega)
    have w0 := h.1
    unfold WF0 at w0
    have o1 := hall k (by omega)
    have o2 := hall (k + 1) (by omega)
    rw [show ((k + 1 : Nat) : Int) = (k : Int) + 1 by omega, sm_s _ (by omega), ih]
    unfold misFrom
    rw [o1.2.2.1, o2.2.2.1, show σ 4 + ((k + 1 : Nat) : Int) = σ 4 + k + 1 by omega, sm_s _ (by omega)]
    have e1 : sm (misRow (weaveN σ b k)) (σ 4) (σ 4 + k) = sm (misRow (weaveN σ b (k + 1))) (σ 4) (σ 4 + k) := sm_c (fun r r0 r1 => (wea_mr h o1 o2 (by omega) r1).symm)
    have e2 : misRow (weaveN σ b ((k : Int) + 1).toNat) (σ 4 + k) = misRow (weaveN σ b (k + 1)) (σ 4 + k) := by
      rw [show ((k : Int) + 1).toNat = k + 1 by omega]
    rw [e1, e2]
/-! ===== unpicked by the reference ===== -/
def ucS (σ : Int → Int) (lo r c : Int) : Int → Int := fun p => if p = 4 then lo else if 117 ≤ p ∧ p < 1317 ∧ lo ≤ (p - 117) / 40 ∧ ((p - 117) / 40 < r ∧ (p - 117) % 40 < σ 0 ∨ (p - 117) / 40 = r ∧ (p - 117) % 40 < c) then -1 else σ p
def tkS (σ : Int → Int) (lo r c : Int) : Int → Int := fun co => sm (wovR σ co) lo r + cnt (fun z => decide (cellS σ z r = co)) 0 c
def tkA (tk σ : Int → Int) (lo r c : Int) : Int → Int := fun co => if 0 ≤ co ∧ co < 7 then tkS σ lo r c co else tk co
def usS (σ : Int → Int) (lo i : Int) : Int → Int := fun p => if 6 ≤ p ∧ p < 6 + i then min 9999 (σ p + wvnS σ lo (p - 6) / 2) else ucS σ lo (σ 1) 0 p
def uqS (σ : Int → Int) (lo : Int) : Int → Int := up (usS σ lo 7) 3 (min (σ 3) lo)
theorem uc_0 (σ : Int → Int) (lo : Int) : ucS σ lo lo 0 = up σ 4 lo := by
  funext p
  unfold up ucS
  by_cases h : p = 4
  · rw [if_pos h, if_pos h]
  · rw [if_neg h, if_neg h, if_neg (by omega)]
theorem uc_lo {σ : Int → Int} {lo r c p : Int} (h : p < 117) (h4 : p ≠ 4) : ucS σ lo r c p = σ p := by
  unfold ucS
  rw [if_neg h4, if_neg (by omega)]
theorem uc_cell {σ : Int → Int} {lo r c : Int} (hc : 0 ≤ c ∧ c < 40 ∧ 0 ≤ r) : cellS (ucS σ lo r c) c r = cellS σ c r := by
  unfold cellS ucS
  rw [if_neg (by omega), if_neg (by omega)]
theorem uc_t {σ : Int → Int} {lo r c : Int} (hc : 0 ≤ c ∧ c < 40 ∧ lo ≤ r ∧ 0 ≤ lo ∧ r < 30) : ucS σ lo r (c + 1) = up (ucS σ lo r c) (117 + 40 * r + c) (-1) := by
  funext p
  unfold up
  by_cases h : p = 117 + 40 * r + c
  · rw [if_pos h]
    unfold ucS
    rw [if_neg (by omega), if_pos (by omega)]
  · rw [if_neg h]
    unfold ucS
    by_cases h4 : p = 4
    · rw [if_pos h4, if_pos h4]
    · rw [if_neg h4, if_neg h4]
      by_cases g : 117 ≤ p ∧ p < 1317 ∧ lo ≤ (p - 117) / 40 ∧ ((p - 117) / 40 < r ∧ (p - 117) % 40 < σ 0 ∨ (p - 117) / 40 = r ∧ (p - 117) % 40 < c)
      · rw [if_pos g, if_pos (by omega)]
      · rw [if_neg g, if_neg (by omega)]
theorem uc_f {σ : Int → Int} {lo r c : Int} (hc : 0 ≤ c ∧ c < 40 ∧ lo ≤ r ∧ 0 ≤ lo ∧ r < 30) (hn : cellS σ c r = -1) : ucS σ lo r (c + 1) = ucS σ lo r c := by
  rw [uc_t hc]
  have e : ucS σ lo r c (117 + 40 * r + c) = -1 := by
    have e := uc_cell (σ := σ) (lo := lo) (r := r) (c := c) ⟨hc.1, hc.2.1, by omega⟩
    rw [hn] at e
    exact e
  rw [← e]
  exact up_self _ _
theorem uc_r (σ : Int → Int) (lo r : Int) (h : lo ≤ r) : ucS σ lo (r + 1) 0 = ucS σ lo r (σ 0) := by
  funext p
  unfold ucS
  by_cases h4 : p = 4
  · rw [if_pos h4, if_pos h4]
  · rw [if_neg h4, if_neg h4]
    by_cases g : 117 ≤ p ∧ p < 1317 ∧ lo ≤ (p - 117) / 40 ∧ ((p - 117) / 40 < r ∧ (p - 117) % 40 < σ 0 ∨ (p - 117) / 40 = r ∧ (p - 117) % 40 < σ 0)
    · rw [if_pos g, if_pos (by omega)]
    · rw [if_neg g, if_neg (by omega)]
theorem tk_0 (tk σ : Int → Int) (lo : Int) : tkA tk σ lo lo 0 = flZ tk 7 0 := by
  funext co
  unfold tkA tkS flZ
  rw [sm_0, cnt_0]; rfl
theorem tkS_0 (σ : Int → Int) (lo : Int) : sm (tkS σ lo lo 0) 0 7 = 0 := by
  have e : ∀ co, tkS σ lo lo 0 co = 0 := fun co => by unfold tkS; rw [sm_0, cnt_0]; rfl
  rw [sm_c (g := fun _ => 0) (fun i _ _ => e i)]
  rfl
theorem tk_f {tk σ : Int → Int} {lo r c : Int} (h : 0 ≤ c) (hn : cellS σ c r = -1) : tkA tk σ lo r (c + 1) = tkA tk σ lo r c := by
  funext co
  unfold tkA tkS
  split
  · rw [cnt_f h (decide_eq_false (by omega))]
  · rfl
theorem tkS_f {σ : Int → Int} {lo r c : Int} (h : 0 ≤ c) (hn : cellS σ c r = -1) : sm (tkS σ lo r (c + 1)) 0 7 = sm (tkS σ lo r c) 0 7 :=
  sm_c (fun co c0 c1 => by unfold tkS; rw [cnt_f h (decide_eq_false (by omega))])
theorem tk_v {tk σ : Int → Int} {lo r c co : Int} (h : 0 ≤ co ∧ co < 7) : tkA tk σ lo r c co = tkS σ lo r c co := if_pos h
theorem tk_t {tk σ : Int → Int} {lo r c : Int} (h : 0 ≤ c) (hn : 0 ≤ cellS σ c r ∧ cellS σ c r < 7) : tkA tk σ lo r (c + 1) = up (tkA tk σ lo r c) (cellS σ c r) (tkS σ lo r c (cellS σ c r) + 1) := by
  funext co
  unfold up
  by_cases g : co = cellS σ c r
  · rw [if_pos g, ← g, tk_v (by omega)]
    unfold tkS
    rw [cnt_t h (decide_eq_true g.symm)]; omega
  · rw [if_neg g]
    unfold tkA tkS
    split
    · rw [cnt_f h (decide_eq_false (fun z => g z.symm))]
    · rfl
theorem sm_up (f : Int → Int) (x : Int) (k : Int) (hk : 0 ≤ k) : ∀ n : Nat, sm (up f k x) 0 n = sm f 0 n + (if k < n then x - f k else 0)
  | 0 => by rw [show ((0 : Nat) : Int) = 0 from rfl, sm_0, sm_0, if_neg (by omega)]; rfl
  | n + 1 => by
    have ih := sm_up f x k hk n
    rw [show ((n + 1 : Nat) : Int) = (n : Int) + 1 by omega, sm_s _ (by omega), sm_s _ (by omega), ih]
    by_cases g : (n : Int) = k
    · rw [g, up_s, if_neg (by omega), if_pos (by omega)]; omega
    · rw [up_n g]
      by_cases g2 : k < n
      · rw [if_pos g2, if_pos (by omega)]; omega
      · rw [if_neg g2, if_neg (by omega)]; omega
theorem tkS_t {σ : Int → Int} {lo r c : Int} (h : 0 ≤ c) (hn : 0 ≤ cellS σ c r ∧ cellS σ c r < 7) : sm (tkS σ lo r (c + 1)) 0 7 = sm (tkS σ lo r c) 0 7 + 1 := by
  have e : ∀ co, 0 ≤ co → co < 7 → tkS σ lo r (c + 1) co = up (tkS σ lo r c) (cellS σ c r) (tkS σ lo r c (cellS σ c r) + 1) co := by
    intro co c0 c1
    have := congrFun (tk_t (tk := fun _ => 0) (lo := lo) h hn) co
    rw [tk_v ⟨c0, c1⟩] at this
    rw [this]
    unfold up
    split
    · rfl
    · exact tk_v ⟨c0, c1⟩
  rw [sm_c e]
  have := sm_up (tkS σ lo r c) (tkS σ lo r c (cellS σ c r) + 1) (cellS σ c r) hn.1 7
  rw [show ((7 : Nat) : Int) = 7 from rfl, if_pos hn.2] at this
  rw [this]; omega
theorem tkS_r (σ : Int → Int) (lo r co : Int) (h : lo ≤ r) : tkS σ lo (r + 1) 0 co = tkS σ lo r (σ 0) co := by
  unfold tkS
  rw [sm_s _ h, cnt_0]
  show _ + cnt _ 0 (σ 0) + 0 = _ + cnt _ 0 (σ 0)
  omega
theorem tk_r (tk σ : Int → Int) (lo r : Int) (h : lo ≤ r) : tkA tk σ lo (r + 1) 0 = tkA tk σ lo r (σ 0) := by
  funext co
  unfold tkA
  rw [tkS_r σ lo r co h]
theorem tk_wv (σ : Int → Int) (lo co : Int) : tkS σ lo (σ 1) 0 co = wvnS σ lo co := by
  unfold tkS wvnS
  rw [cnt_0]; omega
theorem us_0 (σ : Int → Int) (lo : Int) : usS σ lo 0 = ucS σ lo (σ 1) 0 := by
  funext p
  unfold usS
  exact if_neg (by omega)
theorem us_s {σ : Int → Int} {lo i : Int} (h : 0 ≤ i) : usS σ lo (i + 1) = up (usS σ lo i) (6 + i) (min 9999 (σ (6 + i) + wvnS σ lo i / 2)) := by
  funext p
  unfold up
  by_cases g : p = 6 + i
  · rw [if_pos g]
    unfold usS
    rw [if_pos (by omega), g, show 6 + i - 6 = i by omega]
  · rw [if_neg g]
    unfold usS
    by_cases g2 : 6 ≤ p ∧ p < 6 + i
    · rw [if_pos g2, if_pos (by omega)]
    · rw [if_neg g2, if_neg (by omega)]
theorem us_v {σ : Int → Int} {lo i : Int} (h : 0 ≤ i ∧ i < 7) : usS σ lo i (6 + i) = σ (6 + i) := by
  unfold usS
  rw [if_neg (by omega), uc_lo (by omega) (by omega)]
theorem us_lo {σ : Int → Int} {lo i p : Int} (h : p < 6) (h4 : p ≠ 4) : usS σ lo i p = σ p := by
  unfold usS
  rw [if_neg (by omega), uc_lo (by omega) h4]
theorem us_4 {σ : Int → Int} {lo i : Int} : usS σ lo i 4 = lo := by
  unfold usS ucS
  rw [if_neg (by omega), if_pos rfl]
/-- the class's row after unpicking says what the reference's says -/
theorem uq_eq {σ : Int → Int} (h : WF σ) {lo : Int} (hl : 0 ≤ lo ∧ lo ≤ σ 4) : eqS (clrS (unpS σ lo 7) lo) (uqS σ lo) := by
  have w0 := h.1
  unfold WF0 at w0
  refine ⟨fun p p0 p1 => ?_, fun k k0 k1 j j0 j1 => ?_, fun c r c0 c1 r0 r1 => ?_⟩
  · unfold uqS up
    by_cases g3 : p = 3
    · rw [if_pos g3, g3, clr_3, unp_n (by omega)]
    · rw [if_neg g3]
      by_cases g4 : p = 4
      · rw [g4, us_4, clr_4]
      · rw [clr_lo (by omega) hl.1 g3 g4]
        unfold usS unpS
        by_cases g : 6 ≤ p ∧ p < 6 + 7
        · rw [if_pos g, if_pos g]
        · rw [if_neg g, if_neg g, uc_lo (by omega) g4]
  · rw [clr_lo (by decide) hl.1 (by decide) (by decide), unp_n (by omega)] at k1
    unfold cp
    rw [clr_lo (by omega) hl.1 (by omega) (by omega), unp_n (by omega)]
    unfold uqS
    rw [up_n (by omega)]
    unfold usS
    rw [if_neg (by omega), uc_lo (by omega) (by omega)]
  · rw [clr_lo (by decide) hl.1 (by decide) (by decide), unp_n (by omega)] at c1
    rw [clr_lo (by decide) hl.1 (by decide) (by decide), unp_n (by omega)] at r1
    rw [clr_cell (by omega)]
    unfold cellS uqS
    rw [up_n (by omega)]
    unfold usS
    rw [if_neg (by omega), unp_n (by omega)]
    unfold ucS
    rw [if_neg (by omega)]
    by_cases g : lo ≤ r
    · rw [if_pos g, if_pos (by omega)]
    · rw [if_neg g, if_neg (by omega)]
set_option maxHeartbeats 4000000 in
set_option maxRecDepth 100000 in
theorem c_X9_beat_r1 (l : Launch) (X : Cx) (w : Wo) (mo : Nat) (v σ : Int → Int) (rf : Int → Int) (hM : w mo = some (.inr (9, mL mo v))) (hs : w (mo + 1) = some (aZ X 1317 σ)) (hwf : WF σ) (hrf : w (mo + 6) = some (aZ X 8 rf)) (hop : σ 4 = σ 1) : CM l X yX9_beat cX9_beat 3 (some (.int)) (rmk 6 136) [.ref mo] w (some (.int (iI (-1)))) (fun w' => w' mo = some (.inr (9, mL mo (up v 6 0))) ∧ w' (mo + 6) = some (aZ X 8 (up rf 1 (rf 1 + 1))) ∧ ∀ q : Nat, q ≠ mo → q ≠ mo + 6 → w' q = w q) := by
  refine CM.of (lv := [(0, .ref mo)]) (by decide) (Nat.le_of_ble_eq_true rfl) rfl (fun p e s m below meth c ls F hr hlk hin hW hS hl => ?_)
  have hZ0 := hW.2.2
  have hB9 := hW.1.2
  clear hin
  have hF := hwf.1
  unfold WF0 at hF
  have hs0 := hwf.2.1 0 (by decide) (by decide)
  have hs6 : σ (6 + 0) = σ 6 := rfl
  have hor : 0 ≤ opnS σ ∧ opnS σ ≤ σ 0 := by have := cnt_r (opnB σ) (lo := 0) (hi := σ 0) (by omega); unfold opnS; omega
  refine lv_aload_n F.1 F.2.1 dX9_beat_0 rfl (lv_at hl 0 rfl) ?_
  refine h_iconst F dX9_beat_1 ?_
  refine pf_RX9_58 F hW hS hM (Nat.le_of_ble_eq_true rfl) dX9_beat_2 (fun w1 H locs ho3 hn2 hW hS => ?_)
  rw [mL_6] at ho3
  have hs := (hn2 _ (by omega)).trans hs
  have hrf := (hn2 _ (by omega)).trans hrf
  refine lv_aload_n F.1 F.2.1 dX9_beat_5 rfl (lv_at hl 0 rfl) ?_
  refine gf_RX9_7 F hW ho3 rfl dX9_beat_6 ?_
  refine h_iconst F dX9_beat_9 ?_
  refine h_iald F hW hs (by omega) (by omega) dX9_beat_10 ?_
  refine lv_aload_n F.1 F.2.1 dX9_beat_11 rfl (lv_at hl 0 rfl) ?_
  refine gf_RX9_7 F hW ho3 rfl dX9_beat_12 ?_
  refine h_iconst F dX9_beat_15 ?_
  refine h_iald F hW hs (by omega) (by omega) dX9_beat_16 ?_
  refine h_icne (tgt := 26) F dX9_beat_17 (by decide) (by omega) (fun c4 => ?_) (fun c4 => ?_)
  · exfalso; omega
  · refine lv_aload_n F.1 F.2.1 dX9_beat_20 rfl (lv_at hl 0 rfl) ?_
    refine h_iconst F dX9_beat_21 ?_
    refine cl_RX9_247 (As := [.int (iI 1)]) (rest := []) F hl (c_X9_refuses l X w1 mo (up v 6 0) σ rf 1 ho3 hrf (by omega)) hW hS ho3 rfl rfl ⟨Nat.le_of_ble_eq_true rfl, Nat.le_of_ble_eq_true rfl⟩ (Nat.le_of_ble_eq_true rfl) ⟨Nat.zero_le _, Nat.zero_le _⟩ dX9_beat_22 (fun w5 H locs hp6 hW hS => ?_)
    obtain ⟨ha7, hn8⟩ := hp6
    have ho3 := (hn8 _ (by omega)).trans ho3
    have hs := (hn8 _ (by omega)).trans hs
    exact h_ireti F hr hlk hW hS ⟨ho3, ha7, (fun q h09 h19 => by rw [hn8 q (by omega), hn2 q (by omega)])⟩ dX9_beat_25
set_option maxHeartbeats 4000000 in
set_option maxRecDepth 100000 in
theorem c_X9_beat_r2 (l : Launch) (X : Cx) (w : Wo) (mo : Nat) (v σ : Int → Int) (rf : Int → Int) (hM : w mo = some (.inr (9, mL mo v))) (hs : w (mo + 1) = some (aZ X 1317 σ)) (hwf : WF σ) (hrf : w (mo + 6) = some (aZ X 8 rf)) (hop : σ 4 < σ 1) (hst : σ 6 < σ 0 - opnS σ) : CM l X yX9_beat cX9_beat 3 (some (.int)) (rmk 6 136) [.ref mo] w (some (.int (iI (-2)))) (fun w' => w' mo = some (.inr (9, mL mo (up v 6 0))) ∧ w' (mo + 6) = some (aZ X 8 (up rf 2 (rf 2 + 1))) ∧ ∀ q : Nat, q ≠ mo → q ≠ mo + 6 → w' q = w q) := by
  refine CM.of (lv := [(0, .ref mo)]) (by decide) (Nat.le_of_ble_eq_true rfl) rfl (fun p e s m below meth c ls F hr hlk hin hW hS hl => ?_)
  have hZ0 := hW.2.2
  have hB9 := hW.1.2
  clear hin
  have hF := hwf.1
  unfold WF0 at hF
  have hs0 := hwf.2.1 0 (by decide) (by decide)
  have hs6 : σ (6 + 0) = σ 6 := rfl
  have hor : 0 ≤ opnS σ ∧ opnS σ ≤ σ 0 := by have := cnt_r (opnB σ) (lo := 0) (hi := σ 0) (by omega); unfold opnS; omega
  refine lv_aload_n F.1 F.2.1 dX9_beat_0 rfl (lv_at hl 0 rfl) ?_
  refine h_iconst F dX9_beat_1 ?_
  refine pf_RX9_58 F hW hS hM (Nat.le_of_ble_eq_true rfl) dX9_beat_2 (fun w1 H locs ho3 hn2 hW hS => ?_)
  rw [mL_6] at ho3
  have hs := (hn2 _ (by omega)).trans hs
  have hrf := (hn2 _ (by omega)).trans hrf
  refine lv_aload_n F.1 F.2.1 dX9_beat_5 rfl (lv_at hl 0 rfl) ?_
  refine gf_RX9_7 F hW ho3 rfl dX9_beat_6 ?_
  refine h_iconst F dX9_beat_9 ?_
  refine h_iald F hW hs (by omega) (by omega) dX9_beat_10 ?_
  refine lv_aload_n F.1 F.2.1 dX9_beat_11 rfl (lv_at hl 0 rfl) ?_
  refine gf_RX9_7 F hW ho3 rfl dX9_beat_12 ?_
  refine h_iconst F dX9_beat_15 ?_
  refine h_iald F hW hs (by omega) (by omega) dX9_beat_16 ?_
  refine h_icne (tgt := 26) F dX9_beat_17 (by decide) (by omega) (fun c4 => ?_) (fun c4 => ?_)
  · refine lv_aload_n F.1 F.2.1 dX9_beat_26 rfl (lv_at hl 0 rfl) ?_
    refine gf_RX9_7 F hW ho3 rfl dX9_beat_27 ?_
    refine h_iconst F dX9_beat_30 ?_
    refine h_iald F hW hs (by omega) (by omega) dX9_beat_31 ?_
    refine lv_aload_n F.1 F.2.1 dX9_beat_32 rfl (lv_at hl 0 rfl) ?_
    refine cl_RX9_185 (As := []) (rest := [.int (iI (σ 0))]) F hl (c_X9_cellsOpen l X w1 mo (up v 6 0) σ ho3 hs hwf) hW hS ho3 rfl rfl ⟨Nat.le_of_ble_eq_true rfl, Nat.le_of_ble_eq_true rfl⟩ (Nat.le_of_ble_eq_true rfl) ⟨Nat.zero_le _, Nat.zero_le _⟩ dX9_beat_33 (fun w1 H locs hp5 hW hS => ?_)
    rw [hp5] at hW; clear hp5; clear w1
    refine h_isub (a := σ 0) (b := opnS σ) F dX9_beat_36 ?_
    refine lv_istore_n (lv' := [(1, .int (iI ((σ 0) - (opnS σ)))), (0, .ref mo)]) F.1 F.2.1 dX9_beat_37 rfl hl (by decide) rfl (fun ls hl => ?_)
    refine lv_aload_n F.1 F.2.1 dX9_beat_38 rfl (lv_at hl 1 rfl) ?_
    refine gf_RX9_7 F hW ho3 rfl dX9_beat_39 ?_
    refine h_bipush F dX9_beat_42 rfl ?_
    refine h_iald F hW hs (by omega) (by omega) dX9_beat_44 ?_
    refine lv_iload_n F.1 F.2.1 dX9_beat_45 rfl (lv_at hl 0 rfl) ?_
    refine h_icge (tgt := 55) F dX9_beat_46 (by decide) (by omega) (fun c6 => ?_) (fun c6 => ?_)
    · exfalso; omega
    · refine lv_aload_n F.1 F.2.1 dX9_beat_49 rfl (lv_at hl 1 rfl) ?_
      refine h_iconst F dX9_beat_50 ?_
      refine cl_RX9_247 (As := [.int (iI 2)]) (rest := []) F hl (c_X9_refuses l X w1 mo (up v 6 0) σ rf 2 ho3 hrf (by omega)) hW hS ho3 rfl rfl ⟨Nat.le_of_ble_eq_true rfl, Nat.le_of_ble_eq_true rfl⟩ (Nat.le_of_ble_eq_true rfl) ⟨Nat.zero_le _, Nat.zero_le _⟩ dX9_beat_51 (fun w7 H locs hp8 hW hS => ?_)
      obtain ⟨ha9, hn10⟩ := hp8
      have ho3 := (hn10 _ (by omega)).trans ho3
      have hs := (hn10 _ (by omega)).trans hs
      exact h_ireti F hr hlk hW hS ⟨ho3, ha9, (fun q h09 h19 => by rw [hn10 q (by omega), hn2 q (by omega)])⟩ dX9_beat_54
  · exfalso; omega
set_option maxHeartbeats 4000000 in
set_option maxRecDepth 100000 in
theorem c_X9_beat (l : Launch) (X : Cx) (w : Wo) (mo : Nat) (v σ : Int → Int) (pa : Int → Int) (hM : w mo = some (.inr (9, mL mo v))) (hs : w (mo + 1) = some (aZ X 1317 σ)) (hwf : WF σ) (hpa : w (mo + 3) = some (aZ X 10536 pa)) (hun : 0 ≤ v 5 ∧ v 5 ≤ 8) (hop : σ 4 < σ 1) (hst : σ 0 - opnS σ ≤ σ 6) : CM l X yX9_beat cX9_beat 3 (some (.int)) (rmk 6 136) [.ref mo] w (some (.int (iI (misRow (btS σ) (σ 4))))) (fun w' => w' mo = some (.inr (9, mL mo (up (up (up (up v 6 0) 5 (min 8 (v 5 + 1))) 8 (v 8 + 1)) 9 (v 9 + mnS (beatN σ (σ 0).toNat) (σ 4))))) ∧ w' (mo + 1) = some (aZ X 1317 (btS σ)) ∧ w' (mo + 3) = some (aZ X 10536 (actP (v 5) pa σ)) ∧ ∀ q : Nat, q ≠ mo → q ≠ mo + 1 → q ≠ mo + 3 → w' q = w q) := by
  refine CM.of (lv := [(0, .ref mo)]) (by decide) (Nat.le_of_ble_eq_true rfl) rfl (fun p e s m below meth c ls F hr hlk hin hW hS hl => ?_)
  have hZ0 := hW.2.2
  have hB9 := hW.1.2
  clear hin
  have hF := hwf.1
  unfold WF0 at hF
  have hs0 := hwf.2.1 0 (by decide) (by decide)
  have hs6 : σ (6 + 0) = σ 6 := rfl
  have hor : 0 ≤ opnS σ ∧ opnS σ ≤ σ 0 := by have := cnt_r (opnB σ) (lo := 0) (hi := σ 0) (by omega); unfold opnS; omega
  have hem := emp_eq2 hop (by omega)
  refine lv_aload_n F.1 F.2.1 dX9_beat_0 rfl (lv_at hl 0 rfl) ?_
  refine h_iconst F dX9_beat_1 ?_
  refine pf_RX9_58 F hW hS hM (Nat.le_of_ble_eq_true rfl) dX9_beat_2 (fun w1 H locs ho3 hn2 hW hS => ?_)
  rw [mL_6] at ho3
  have hs := (hn2 _ (by omega)).trans hs
  have hpa := (hn2 _ (by omega)).trans hpa
  refine lv_aload_n F.1 F.2.1 dX9_beat_5 rfl (lv_at hl 0 rfl) ?_
  refine gf_RX9_7 F hW ho3 rfl dX9_beat_6 ?_
  refine h_iconst F dX9_beat_9 ?_
  refine h_iald F hW hs (by omega) (by omega) dX9_beat_10 ?_
  refine lv_aload_n F.1 F.2.1 dX9_beat_11 rfl (lv_at hl 0 rfl) ?_
  refine gf_RX9_7 F hW ho3 rfl dX9_beat_12 ?_
  refine h_iconst F dX9_beat_15 ?_
  refine h_iald F hW hs (by omega) (by omega) dX9_beat_16 ?_
  refine h_icne (tgt := 26) F dX9_beat_17 (by decide) (by omega) (fun c4 => ?_) (fun c4 => ?_)
  · refine lv_aload_n F.1 F.2.1 dX9_beat_26 rfl (lv_at hl 0 rfl) ?_
    refine gf_RX9_7 F hW ho3 rfl dX9_beat_27 ?_
    refine h_iconst F dX9_beat_30 ?_
    refine h_iald F hW hs (by omega) (by omega) dX9_beat_31 ?_
    refine lv_aload_n F.1 F.2.1 dX9_beat_32 rfl (lv_at hl 0 rfl) ?_
    refine cl_RX9_185 (As := []) (rest := [.int (iI (σ 0))]) F hl (c_X9_cellsOpen l X w1 mo (up v 6 0) σ ho3 hs hwf) hW hS ho3 rfl rfl ⟨Nat.le_of_ble_eq_true rfl, Nat.le_of_ble_eq_true rfl⟩ (Nat.le_of_ble_eq_true rfl) ⟨Nat.zero_le _, Nat.zero_le _⟩ dX9_beat_33 (fun w1 H locs hp5 hW hS => ?_)
    rw [hp5] at hW; clear hp5; clear w1
    refine h_isub (a := σ 0) (b := opnS σ) F dX9_beat_36 ?_
    refine lv_istore_n (lv' := [(1, .int (iI ((σ 0) - (opnS σ)))), (0, .ref mo)]) F.1 F.2.1 dX9_beat_37 rfl hl (by decide) rfl (fun ls hl => ?_)
    refine lv_aload_n F.1 F.2.1 dX9_beat_38 rfl (lv_at hl 1 rfl) ?_
    refine gf_RX9_7 F hW ho3 rfl dX9_beat_39 ?_
    refine h_bipush F dX9_beat_42 rfl ?_
    refine h_iald F hW hs (by omega) (by omega) dX9_beat_44 ?_
    refine lv_iload_n F.1 F.2.1 dX9_beat_45 rfl (lv_at hl 0 rfl) ?_
    refine h_icge (tgt := 55) F dX9_beat_46 (by decide) (by omega) (fun c6 => ?_) (fun c6 => ?_)
    · refine lv_aload_n F.1 F.2.1 dX9_beat_55 rfl (lv_at hl 1 rfl) ?_
      refine cl_RX9_250 (As := []) (rest := []) F hl (c_X9_acts l X w1 mo (up v 6 0) σ pa ho3 hs hpa hun) hW hS ho3 rfl rfl ⟨Nat.le_of_ble_eq_true rfl, Nat.le_of_ble_eq_true rfl⟩ (Nat.le_of_ble_eq_true rfl) ⟨Nat.zero_le _, Nat.zero_le _⟩ dX9_beat_56 (fun w7 H locs hp8 hW hS => ?_)
      obtain ⟨ho9, ha10, hn11⟩ := hp8
      have hs := (hn11 _ (by omega) (by omega)).trans hs
      refine lv_aload_n F.1 F.2.1 dX9_beat_59 rfl (lv_at hl 1 rfl) ?_
      refine gf_RX9_7 F hW ho9 rfl dX9_beat_60 ?_
      refine h_bipush F dX9_beat_63 rfl ?_
      refine lv_dup2_11 F.1 F.2.1 dX9_beat_65 rfl rfl ?_
      refine h_iald F hW hs (by omega) (by omega) dX9_beat_66 ?_
      refine lv_iload_n F.1 F.2.1 dX9_beat_67 rfl (lv_at hl 0 rfl) ?_
      refine h_isub (a := σ 6) (b := (σ 0) - (opnS σ)) F dX9_beat_68 ?_
      refine h_iast F hW hS hs (by omega) (by omega) dX9_beat_69 (fun w12 H locs ho14 hn13 hW hS => ?_)
      have ho9 := (hn13 _ (by omega)).trans ho9
      have ha10 := (hn13 _ (by omega)).trans ha10
      refine h_iconst F dX9_beat_70 ?_
      refine lv_istore_n (lv' := [(2, .int (iI 0)), (1, .int (iI ((σ 0) - (opnS σ)))), (0, .ref mo)]) F.1 F.2.1 dX9_beat_71 rfl hl (by decide) rfl (fun ls hl => ?_)
      have loop72 : ∀ (n9 : Nat) (i : Int), (hrg : 0 ≤ i ∧ i ≤ σ 0) → (hms : σ 0 - i < (n9 : Int)) → (wz9 : Wo) → (hA72_0 : wz9 (mo + 1) = some (aZ X 1317 (beaM σ (σ 0 - opnS σ) i))) → (hF72 : ∀ q : Nat, q ≠ mo + 1 → wz9 q = w12 q) → (H : Heap) → (locs : List Loc) → (ls : Array Slot) → Wd X wz9 s H → va_S (cxA X) s.heap H locs → lv_has ls 3 [(2, .int (iI i)), (1, .int (iI ((σ 0) - (opnS σ)))), (0, .ref mo)] → W p l e (rmk 6 136) s m (List.toArray [.ref mo]) below meth c H locs 0 0 (MX X below (List.toArray [.ref mo]) s 0 0 (some (.int (iI (misRow (btS σ) (σ 4))))) (fun w' => w' mo = some (.inr (9, mL mo (up (up (up (up v 6 0) 5 (min 8 (v 5 + 1))) 8 (v 8 + 1)) 9 (v 9 + mnS (beatN σ (σ 0).toNat) (σ 4))))) ∧ w' (mo + 1) = some (aZ X 1317 (btS σ)) ∧ w' (mo + 3) = some (aZ X 10536 (actP (v 5) pa σ)) ∧ ∀ q : Nat, q ≠ mo → q ≠ mo + 1 → q ≠ mo + 3 → w' q = w q)) (F0 m 72 ls []) := by
        intro n9
        induction n9 with
        | zero => intro i  hrg hms; exfalso; omega
        | succ n9 ih72 =>
          intro i  hrg hms wz9 hA72_0 hF72  H locs ls hW hS hl
          have ho9 := (hF72 _ (by omega)).trans ho9
          have ha10 := (hF72 _ (by omega)).trans ha10
          have hwt := beat_WF hwf hop (by omega) i.toNat (by omega)
          have hlo := fun p (h1 : p < 117) (h2 : p ≠ 6) => beaM_lo (σ := σ) (N := (σ 0 - opnS σ)) (i := i) (p := p) (by omega) h1 h2
          have hb0 := beat_lo (σ := σ) (p := 0) (by omega) (by decide) (by decide) i.toNat
          have hb1 := beat_lo (σ := σ) (p := 1) (by omega) (by decide) (by decide) i.toNat
          have hcr9 := fun (z : i < σ 0) => hwt.2.2.2.1 i (σ 4) (by omega) (by omega) (by omega) (by omega)
          refine lv_iload_n F.1 F.2.1 dX9_beat_72 rfl (lv_at hl 0 rfl) ?_
          refine lv_aload_n F.1 F.2.1 dX9_beat_73 rfl (lv_at hl 2 rfl) ?_
          refine gf_RX9_7 F hW ho9 rfl dX9_beat_74 ?_
          refine h_iconst F dX9_beat_77 ?_
          refine h_iald F hW hA72_0 (by omega) (by omega) dX9_beat_78 ?_
          refine h_top (show ((beaM σ (σ 0 - opnS σ) i) 0 : Int) = σ 0 from hlo 0 (by decide) (by decide)) ?_
          refine h_icge (tgt := 118) F dX9_beat_79 (by decide) (by omega) (fun c15 => ?_) (fun c15 => ?_)
          · have hie : i = σ 0 := by omega
            have hA9 := hA72_0
            rw [beaM_e (by omega) (by omega) (by rw [hie]; exact hem.symm), hie] at hA9
            rw [hie] at hwt hb0 hb1
            have hb4 := beat_lo (σ := σ) (p := 4) (by omega) (by decide) (by decide) (σ 0).toNat
            have hfu := beat_fu hwf hop
            obtain ⟨τ, hτ⟩ : ∃ τ, τ = beatN σ (σ 0).toNat := ⟨_, rfl⟩
            rw [← hτ] at hA9 hwt hb0 hb1 hb4 hfu
            refine lv_aload_n F.1 F.2.1 dX9_beat_118 rfl (lv_at hl 2 rfl) ?_
            refine cl_RX9_253 (As := []) (rest := []) F hl (c_X9_finishes l X wz9 mo (up (up (up v 6 0) 5 (min 8 ((up v 6 0) 5 + 1))) 8 ((up v 6 0) 8 + 1)) τ ho9 hA9 hwt (by omega) (by rw [hb4, hb0]; exact hfu)) hW hS ho9 rfl rfl ⟨Nat.le_of_ble_eq_true rfl, Nat.le_of_ble_eq_true rfl⟩ (Nat.le_of_ble_eq_true rfl) ⟨Nat.zero_le _, Nat.zero_le _⟩ dX9_beat_119 (fun w16 H locs hp17 hW hS => ?_)
            obtain ⟨ho18, ha19, hn20⟩ := hp17
            have ha10 := (hn20 _ (by omega) (by omega)).trans ha10
            refine h_top (show (misRow (up τ 4 (τ 4 + 1)) (τ 4) : Int) = misRow (btS σ) (σ 4) from by unfold btS; rw [hb4, hτ]) ?_
            exact h_ireti F hr hlk hW hS ⟨(by (rw [ho18]) <;> (rw [← hτ, hb4]; rfl)), (by (rw [ha19]) <;> (first | rfl | (unfold btS; rw [← hτ, hb4]))), (by (rw [ha10]) <;> (first | rfl | (unfold btS; rw [← hτ, hb4]))), (fun q h09 h19 h29 => by rw [hn20 q (by omega) (by omega), hF72 q (by omega), hn13 q (by omega), hn11 q (by omega) (by omega), hn2 q (by omega)])⟩ dX9_beat_122
          · have hcr := hcr9 (by omega)
            refine lv_aload_n F.1 F.2.1 dX9_beat_82 rfl (lv_at hl 2 rfl) ?_
            refine gf_RX9_7 F hW ho9 rfl dX9_beat_83 ?_
            refine lv_iload_n F.1 F.2.1 dX9_beat_86 rfl (lv_at hl 0 rfl) ?_
            refine lv_aload_n F.1 F.2.1 dX9_beat_87 rfl (lv_at hl 2 rfl) ?_
            refine gf_RX9_7 F hW ho9 rfl dX9_beat_88 ?_
            refine h_iconst F dX9_beat_91 ?_
            refine h_iald F hW hA72_0 (by omega) (by omega) dX9_beat_92 ?_
            refine h_top (show ((beaM σ (σ 0 - opnS σ) i) 4 : Int) = σ 4 from hlo 4 (by decide) (by decide)) ?_
            refine cl_RX9_86 (As := [.int (iI i), .int (iI (σ 4))]) (rest := [.ref (mo + 1)]) F hl (c_X9_at l X wz9 i (σ 4) ) hW hS rfl rfl ⟨Nat.le_of_ble_eq_true rfl, Nat.le_of_ble_eq_true rfl⟩ (Nat.le_of_ble_eq_true rfl) ⟨Nat.zero_le _, Nat.zero_le _⟩ dX9_beat_93 (fun w1 H locs hp21 hW hS => ?_)
            rw [hp21] at hW; clear hp21; clear w1
            refine h_iconst F dX9_beat_96 ?_
            refine lv_aload_n F.1 F.2.1 dX9_beat_97 rfl (lv_at hl 2 rfl) ?_
            refine lv_iload_n F.1 F.2.1 dX9_beat_98 rfl (lv_at hl 0 rfl) ?_
            refine lv_aload_n F.1 F.2.1 dX9_beat_99 rfl (lv_at hl 2 rfl) ?_
            refine gf_RX9_7 F hW ho9 rfl dX9_beat_100 ?_
            refine h_iconst F dX9_beat_103 ?_
            refine h_iald F hW hA72_0 (by omega) (by omega) dX9_beat_104 ?_
            refine h_top (show ((beaM σ (σ 0 - opnS σ) i) 4 : Int) = σ 4 from hlo 4 (by decide) (by decide)) ?_
            refine cl_RX9_113 (As := [.int (iI i), .int (iI (σ 4))]) (rest := [.int (iI 0), .int (iI (117 + 40 * (σ 4) + i)), .ref (mo + 1)]) F hl (c_colAt0 l X wz9 mo (up (up (up v 6 0) 5 (min 8 ((up v 6 0) 5 + 1))) 8 ((up v 6 0) 8 + 1)) (beaM σ (σ 0 - opnS σ) i) i (σ 4) ho9 hA72_0 (by omega)) hW hS ho9 rfl rfl ⟨Nat.le_of_ble_eq_true rfl, Nat.le_of_ble_eq_true rfl⟩ (Nat.le_of_ble_eq_true rfl) ⟨Nat.zero_le _, Nat.zero_le _⟩ dX9_beat_105 (fun w1 H locs hp22 hW hS => ?_)
            rw [hp22] at hW; clear hp22; clear w1
            refine h_top (show (cellS (beaM σ (σ 0 - opnS σ) i) i (σ 4) : Int) = cellS (beatN σ i.toNat) i (σ 4) from beaM_c (by omega)) ?_
            refine h_mmax (index := 172) (a := 0) (b := cellS (beatN σ i.toNat) i (σ 4)) F hl km_RX9_172 (Nat.le_of_ble_eq_true rfl) (Nat.le_of_ble_eq_true rfl) (Nat.zero_le _) (Nat.zero_le _) (by omega) dX9_beat_108 ?_
            refine h_iast F hW hS hA72_0 (by omega) (by omega) dX9_beat_111 (fun w23 H locs ho25 hn24 hW hS => ?_)
            have ho9 := (hn24 _ (by omega)).trans ho9
            have ha10 := (hn24 _ (by omega)).trans ha10
            refine h_iinc (k := 0) (a := i) (lv' := [(2, .int (iI (i + 1))), (1, .int (iI ((σ 0) - (opnS σ)))), (0, .ref mo)]) F dX9_beat_112 hl rfl (by decide) rfl (fun ls hl => ?_)
            refine h_goto (tgt := 72) F dX9_beat_115 (by decide) ?_
            have eq26 : ((i + 1) : Int) = i + 1 := by first | rfl | omega | simp
            exact ih72 (i + 1)  (by omega) (by omega) w23 (by rw [show (beaM σ (σ 0 - opnS σ) (i + 1) : Int → Int) = up (beaM σ (σ 0 - opnS σ) i) (117 + 40 * (σ 4) + i) (max 0 (cellS (beatN σ i.toNat) i (σ 4))) from (beaM_s (by omega) (by omega) hcr.1)]; exact ho25) (fun q h09 => by rw [hn24 q (by omega), hF72 q (by omega)])  _ _ ls hW hS (by rw [eq26]; exact lv_sub hl [0, 1, 2] rfl)
      exact loop72 ((σ 0 - 0) + 1 : Int).toNat 0  (by omega) (by omega) w12 (by rw [show (beaM σ (σ 0 - opnS σ) 0 : Int → Int) = up σ 6 ((σ 6) - ((σ 0) - (opnS σ))) from beaM_0 _ _]; exact ho14) (fun q _ => rfl)  _ _ ls hW hS (lv_sub hl [0, 1, 2] rfl)
    · exfalso; omega
  · exfalso; omega
set_option maxHeartbeats 4000000 in
set_option maxRecDepth 100000 in
theorem c_weaves_r3 (l : Launch) (X : Cx) (w : Wo) (mo : Nat) (v σ : Int → Int) (rf : Int → Int) (rw9 : Int) (b : Bool) (hM : w mo = some (.inr (9, mL mo v))) (hs : w (mo + 1) = some (aZ X 1317 σ)) (hwf : WF σ) (hrf : w (mo + 6) = some (aZ X 8 rf)) (hrw : 1 ≤ rw9 ∧ rw9 ≤ 30) (hop : σ 1 < σ 4 + rw9) : CM l X yX9_weaves cX9_weaves 8 (some (.int)) (rmk 6 144) [.ref mo, .int (iI rw9), .int (iI (bz b))] w (some (.int (iI (-3)))) (fun w' => w' (mo + 6) = some (aZ X 8 (up rf 3 (rf 3 + 1))) ∧ ∀ q : Nat, q ≠ mo + 6 → w' q = w q) := by
  refine CM.of (lv := [(0, .ref mo), (1, .int (iI rw9)), (2, .int (iI (bz b)))]) (by decide) (Nat.le_of_ble_eq_true rfl) rfl (fun p e s m below meth c ls F hr hlk hin hW hS hl => ?_)
  have hZ0 := hW.2.2
  have hB9 := hW.1.2
  clear hin
  have hF := hwf.1
  unfold WF0 at hF
  refine lv_aload_n F.1 F.2.1 dX9_weaves_0 rfl (lv_at hl 0 rfl) ?_
  refine gf_RX9_7 F hW hM rfl dX9_weaves_1 ?_
  refine h_iconst F dX9_weaves_4 ?_
  refine h_iald F hW hs (by omega) (by omega) dX9_weaves_5 ?_
  refine lv_iload_n F.1 F.2.1 dX9_weaves_6 rfl (lv_at hl 1 rfl) ?_
  refine h_iadd (a := σ 4) (b := rw9) F dX9_weaves_7 ?_
  refine lv_aload_n F.1 F.2.1 dX9_weaves_8 rfl (lv_at hl 0 rfl) ?_
  refine gf_RX9_7 F hW hM rfl dX9_weaves_9 ?_
  refine h_iconst F dX9_weaves_12 ?_
  refine h_iald F hW hs (by omega) (by omega) dX9_weaves_13 ?_
  refine h_icle (tgt := 23) F dX9_weaves_14 (by decide) (by omega) (fun c1 => ?_) (fun c1 => ?_)
  · exfalso; omega
  · refine lv_aload_n F.1 F.2.1 dX9_weaves_17 rfl (lv_at hl 0 rfl) ?_
    refine h_iconst F dX9_weaves_18 ?_
    refine cl_RX9_247 (As := [.int (iI 3)]) (rest := []) F hl (c_X9_refuses l X w mo v σ rf 3 hM hrf (by omega)) hW hS hM rfl rfl ⟨Nat.le_of_ble_eq_true rfl, Nat.le_of_ble_eq_true rfl⟩ (Nat.le_of_ble_eq_true rfl) ⟨Nat.zero_le _, Nat.zero_le _⟩ dX9_weaves_19 (fun w2 H locs hp3 hW hS => ?_)
    obtain ⟨ha4, hn5⟩ := hp3
    have hM := (hn5 _ (by omega)).trans hM
    have hs := (hn5 _ (by omega)).trans hs
    exact h_ireti F hr hlk hW hS ⟨ha4, (fun q h09 => by rw [hn5 q (by omega)])⟩ dX9_weaves_22
set_option maxHeartbeats 4000000 in
set_option maxRecDepth 100000 in
theorem c_weaves_r2 (l : Launch) (X : Cx) (w : Wo) (mo : Nat) (v σ : Int → Int) (rf : Int → Int) (rw9 : Int) (b : Bool) (hM : w mo = some (.inr (9, mL mo v))) (hs : w (mo + 1) = some (aZ X 1317 σ)) (hwf : WF σ) (hrf : w (mo + 6) = some (aZ X 8 rf)) (hrw : 1 ≤ rw9 ∧ rw9 ≤ 30) (hop : σ 4 + rw9 ≤ σ 1) (hen : enoS σ b rw9 = false) : CM l X yX9_weaves cX9_weaves 8 (some (.int)) (rmk 6 144) [.ref mo, .int (iI rw9), .int (iI (bz b))] w (some (.int (iI (-2)))) (fun w' => w' (mo + 6) = some (aZ X 8 (up rf 2 (rf 2 + 1))) ∧ ∀ q : Nat, q ≠ mo + 6 → w' q = w q) := by
  refine CM.of (lv := [(0, .ref mo), (1, .int (iI rw9)), (2, .int (iI (bz b)))]) (by decide) (Nat.le_of_ble_eq_true rfl) rfl (fun p e s m below meth c ls F hr hlk hin hW hS hl => ?_)
  have hZ0 := hW.2.2
  have hB9 := hW.1.2
  clear hin
  have hF := hwf.1
  unfold WF0 at hF
  refine lv_aload_n F.1 F.2.1 dX9_weaves_0 rfl (lv_at hl 0 rfl) ?_
  refine gf_RX9_7 F hW hM rfl dX9_weaves_1 ?_
  refine h_iconst F dX9_weaves_4 ?_
  refine h_iald F hW hs (by omega) (by omega) dX9_weaves_5 ?_
  refine lv_iload_n F.1 F.2.1 dX9_weaves_6 rfl (lv_at hl 1 rfl) ?_
  refine h_iadd (a := σ 4) (b := rw9) F dX9_weaves_7 ?_
  refine lv_aload_n F.1 F.2.1 dX9_weaves_8 rfl (lv_at hl 0 rfl) ?_
  refine gf_RX9_7 F hW hM rfl dX9_weaves_9 ?_
  refine h_iconst F dX9_weaves_12 ?_
  refine h_iald F hW hs (by omega) (by omega) dX9_weaves_13 ?_
  refine h_icle (tgt := 23) F dX9_weaves_14 (by decide) (by omega) (fun c1 => ?_) (fun c1 => ?_)
  · refine lv_aload_n F.1 F.2.1 dX9_weaves_23 rfl (lv_at hl 0 rfl) ?_
    refine lv_iload_n F.1 F.2.1 dX9_weaves_24 rfl (lv_at hl 1 rfl) ?_
    refine lv_iload_n F.1 F.2.1 dX9_weaves_25 rfl (lv_at hl 2 rfl) ?_
    refine cl_RX9_225 (As := [.int (iI rw9), .int (iI (bz b))]) (rest := []) F hl (c_X9_isEnough l X w mo v σ rw9 b hM hs hwf (by omega)) hW hS hM rfl rfl ⟨Nat.le_of_ble_eq_true rfl, Nat.le_of_ble_eq_true rfl⟩ (Nat.le_of_ble_eq_true rfl) ⟨Nat.zero_le _, Nat.zero_le _⟩ dX9_weaves_26 (fun w1 H locs hp2 hW hS => ?_)
    rw [hp2] at hW; clear hp2; clear w1
    refine h_ifneb (tgt := 38) F dX9_weaves_29 (by decide) (fun c3 => ?_) (fun c3 => ?_)
    · rw [hen] at c3; cases c3
    · refine lv_aload_n F.1 F.2.1 dX9_weaves_32 rfl (lv_at hl 0 rfl) ?_
      refine h_iconst F dX9_weaves_33 ?_
      refine cl_RX9_247 (As := [.int (iI 2)]) (rest := []) F hl (c_X9_refuses l X w mo v σ rf 2 hM hrf (by omega)) hW hS hM rfl rfl ⟨Nat.le_of_ble_eq_true rfl, Nat.le_of_ble_eq_true rfl⟩ (Nat.le_of_ble_eq_true rfl) ⟨Nat.zero_le _, Nat.zero_le _⟩ dX9_weaves_34 (fun w4 H locs hp5 hW hS => ?_)
      obtain ⟨ha6, hn7⟩ := hp5
      have hM := (hn7 _ (by omega)).trans hM
      have hs := (hn7 _ (by omega)).trans hs
      exact h_ireti F hr hlk hW hS ⟨ha6, (fun q h09 => by rw [hn7 q (by omega)])⟩ dX9_weaves_37
  · exfalso; omega
set_option maxHeartbeats 4000000 in
set_option maxRecDepth 100000 in
theorem c_X9_weaves (l : Launch) (X : Cx) (w : Wo) (mo : Nat) (v σ : Int → Int) (pa : Int → Int) (rw9 : Int) (b : Bool) (hM : w mo = some (.inr (9, mL mo v))) (hs : w (mo + 1) = some (aZ X 1317 σ)) (hwf : WF σ) (hpa : w (mo + 3) = some (aZ X 10536 pa)) (hun : 0 ≤ v 5 ∧ v 5 ≤ 8) (hrw : 1 ≤ rw9 ∧ rw9 ≤ 30) (hop : σ 4 + rw9 ≤ σ 1) (hen : enoS σ b rw9 = true) : CM l X yX9_weaves cX9_weaves 8 (some (.int)) (rmk 6 144) [.ref mo, .int (iI rw9), .int (iI (bz b))] w (some (.int (iI (misFrom (weaveN σ b rw9.toNat) (σ 4))))) (fun w' => w' mo = some (.inr (9, mL mo (up (up (up v 5 (min 8 (v 5 + 1))) 8 (v 8 + 1)) 9 (v 9 + macN σ b rw9.toNat)))) ∧ w' (mo + 1) = some (aZ X 1317 (weaveN σ b rw9.toNat)) ∧ w' (mo + 3) = some (aZ X 10536 (actP (v 5) pa σ)) ∧ ∀ q : Nat, q ≠ mo → q ≠ mo + 1 → q ≠ mo + 3 → w' q = w q) := by
  refine CM.of (lv := [(0, .ref mo), (1, .int (iI rw9)), (2, .int (iI (bz b)))]) (by decide) (Nat.le_of_ble_eq_true rfl) rfl (fun p e s m below meth c ls F hr hlk hin hW hS hl => ?_)
  have hZ0 := hW.2.2
  have hB9 := hW.1.2
  clear hin
  have hF := hwf.1
  unfold WF0 at hF
  refine lv_aload_n F.1 F.2.1 dX9_weaves_0 rfl (lv_at hl 0 rfl) ?_
  refine gf_RX9_7 F hW hM rfl dX9_weaves_1 ?_
  refine h_iconst F dX9_weaves_4 ?_
  refine h_iald F hW hs (by omega) (by omega) dX9_weaves_5 ?_
  refine lv_iload_n F.1 F.2.1 dX9_weaves_6 rfl (lv_at hl 1 rfl) ?_
  refine h_iadd (a := σ 4) (b := rw9) F dX9_weaves_7 ?_
  refine lv_aload_n F.1 F.2.1 dX9_weaves_8 rfl (lv_at hl 0 rfl) ?_
  refine gf_RX9_7 F hW hM rfl dX9_weaves_9 ?_
  refine h_iconst F dX9_weaves_12 ?_
  refine h_iald F hW hs (by omega) (by omega) dX9_weaves_13 ?_
  refine h_icle (tgt := 23) F dX9_weaves_14 (by decide) (by omega) (fun c1 => ?_) (fun c1 => ?_)
  · refine lv_aload_n F.1 F.2.1 dX9_weaves_23 rfl (lv_at hl 0 rfl) ?_
    refine lv_iload_n F.1 F.2.1 dX9_weaves_24 rfl (lv_at hl 1 rfl) ?_
    refine lv_iload_n F.1 F.2.1 dX9_weaves_25 rfl (lv_at hl 2 rfl) ?_
    refine cl_RX9_225 (As := [.int (iI rw9), .int (iI (bz b))]) (rest := []) F hl (c_X9_isEnough l X w mo v σ rw9 b hM hs hwf (by omega)) hW hS hM rfl rfl ⟨Nat.le_of_ble_eq_true rfl, Nat.le_of_ble_eq_true rfl⟩ (Nat.le_of_ble_eq_true rfl) ⟨Nat.zero_le _, Nat.zero_le _⟩ dX9_weaves_26 (fun w1 H locs hp2 hW hS => ?_)
    rw [hp2] at hW; clear hp2; clear w1
    refine h_ifneb (tgt := 38) F dX9_weaves_29 (by decide) (fun c3 => ?_) (fun c3 => ?_)
    · refine lv_aload_n F.1 F.2.1 dX9_weaves_38 rfl (lv_at hl 0 rfl) ?_
      refine cl_RX9_250 (As := []) (rest := []) F hl (c_X9_acts l X w mo v σ pa hM hs hpa hun) hW hS hM rfl rfl ⟨Nat.le_of_ble_eq_true rfl, Nat.le_of_ble_eq_true rfl⟩ (Nat.le_of_ble_eq_true rfl) ⟨Nat.zero_le _, Nat.zero_le _⟩ dX9_weaves_39 (fun w4 H locs hp5 hW hS => ?_)
      obtain ⟨ho6, ha7, hn8⟩ := hp5
      have hs := (hn8 _ (by omega) (by omega)).trans hs
      refine h_iconst F dX9_weaves_42 ?_
      refine lv_istore_n (lv' := [(3, .int (iI 0)), (0, .ref mo), (1, .int (iI rw9)), (2, .int (iI (bz b)))]) F.1 F.2.1 dX9_weaves_43 rfl hl (by decide) rfl (fun ls hl => ?_)
      refine h_iconst F dX9_weaves_44 ?_
      refine lv_istore (lv' := [(4, .int (iI 0)), (3, .int (iI 0)), (0, .ref mo), (1, .int (iI rw9)), (2, .int (iI (bz b)))]) F.1 F.2.1 dX9_weaves_45 hl (by decide) rfl (fun ls hl => ?_)
      have loop47 : ∀ (n9 : Nat) (k : Int), (hrg : 0 ≤ k ∧ k ≤ rw9) → (hms : rw9 - k < (n9 : Int)) → (wk : Wo) → (hO47_0 : wk mo = some (.inr (9, mL mo (up (up (up v 5 (min 8 (v 5 + 1))) 8 (v 8 + 1)) 9 (v 9 + macN σ b k.toNat))))) → (hA47_0 : wk (mo + 1) = some (aZ X 1317 (weaveN σ b k.toNat))) → (hF47 : ∀ q : Nat, q ≠ mo → q ≠ mo + 1 → wk q = w4 q) → (H : Heap) → (locs : List Loc) → (ls : Array Slot) → Wd X wk s H → va_S (cxA X) s.heap H locs → lv_has ls 8 [(3, .int (iI (sm (fun z => misRow (weaveN σ b (z + 1).toNat) (σ 4 + z)) 0 k))), (4, .int (iI k)), (0, .ref mo), (1, .int (iI rw9)), (2, .int (iI (bz b)))] → W p l e (rmk 6 144) s m (List.toArray [.ref mo, .int (iI rw9), .int (iI (bz b))]) below meth c H locs 0 0 (MX X below (List.toArray [.ref mo, .int (iI rw9), .int (iI (bz b))]) s 0 0 (some (.int (iI (misFrom (weaveN σ b rw9.toNat) (σ 4))))) (fun w' => w' mo = some (.inr (9, mL mo (up (up (up v 5 (min 8 (v 5 + 1))) 8 (v 8 + 1)) 9 (v 9 + macN σ b rw9.toNat)))) ∧ w' (mo + 1) = some (aZ X 1317 (weaveN σ b rw9.toNat)) ∧ w' (mo + 3) = some (aZ X 10536 (actP (v 5) pa σ)) ∧ ∀ q : Nat, q ≠ mo → q ≠ mo + 1 → q ≠ mo + 3 → w' q = w q)) (F0 m 47 ls []) := by
        intro n9
        induction n9 with
        | zero => intro k  hrg hms; exfalso; omega
        | succ n9 ih47 =>
          intro k  hrg hms wk hO47_0 hA47_0 hF47  H locs ls hW hS hl
          have ha7 := (hF47 _ (by omega) (by omega)).trans ha7
          have hall := wea_all hwf rw9.toNat (by omega) (fun co c0 c1 => by rw [show ((rw9.toNat : Nat) : Int) = rw9 by omega]; exact eno_he hen co c0 c1)
          have hwo := hall k.toNat (by omega)
          have hhe := fun (z : k < rw9) => wea_he (rows := rw9.toNat) hwf hwo (by omega) (fun co c0 c1 => by rw [show ((rw9.toNat : Nat) : Int) = rw9 by omega]; exact eno_he hen co c0 c1)
          have hwt := hwo.1
          have ht0 := hwo.2.1 0 (by decide) (by decide) (by decide)
          have ht1 := hwo.2.1 1 (by decide) (by decide) (by decide)
          have ht4 : weaveN σ b k.toNat 4 = σ 4 + k := by have := hwo.2.2.1; omega
          obtain ⟨τ, hτ⟩ : ∃ τ, τ = weaveN σ b k.toNat := ⟨_, rfl⟩
          rw [← hτ] at hhe hwt ht0 ht1 ht4 hA47_0
          refine lv_iload F.1 F.2.1 dX9_weaves_47 (lv_at hl 1 rfl) ?_
          refine lv_iload_n F.1 F.2.1 dX9_weaves_49 rfl (lv_at hl 3 rfl) ?_
          refine h_icge (tgt := 148) F dX9_weaves_50 (by decide) (by omega) (fun c9 => ?_) (fun c9 => ?_)
          · refine lv_iload_n F.1 F.2.1 dX9_weaves_148 rfl (lv_at hl 0 rfl) ?_
            refine h_top (show (sm (fun z => misRow (weaveN σ b (z + 1).toNat) (σ 4 + z)) 0 k : Int) = misFrom (weaveN σ b rw9.toNat) (σ 4) from by have e9 := wea_sum hwf rw9.toNat hall rw9.toNat (by omega); rw [show ((rw9.toNat : Nat) : Int) = rw9 by omega] at e9; rw [show k = rw9 by omega]; exact e9) ?_
            exact h_ireti F hr hlk hW hS ⟨(by (rw [hO47_0]) <;> (rw [show k = rw9 by omega])), (by (rw [hA47_0]) <;> (first | rfl | rw [hτ, show k = rw9 by omega])), ha7, (fun q h09 h19 h29 => by rw [hF47 q (by omega) (by omega), hn8 q (by omega) (by omega)])⟩ dX9_weaves_149
          · refine lv_aload_n F.1 F.2.1 dX9_weaves_53 rfl (lv_at hl 2 rfl) ?_
            refine gf_RX9_7 F hW hO47_0 rfl dX9_weaves_54 ?_
            refine h_iconst F dX9_weaves_57 ?_
            refine h_iald F hW hA47_0 (by omega) (by omega) dX9_weaves_58 ?_
            refine h_top (show (τ 4 : Int) = σ 4 + k from ht4) ?_
            refine lv_istore (lv' := [(5, .int (iI (σ 4 + k))), (3, .int (iI (sm (fun z => misRow (weaveN σ b (z + 1).toNat) (σ 4 + z)) 0 k))), (4, .int (iI k)), (0, .ref mo), (1, .int (iI rw9)), (2, .int (iI (bz b)))]) F.1 F.2.1 dX9_weaves_59 hl (by decide) rfl (fun ls hl => ?_)
            have hhe := hhe (by omega)
            rw [ht4] at hhe
            refine h_iconst F dX9_weaves_61 ?_
            refine lv_istore (lv' := [(6, .int (iI 0)), (5, .int (iI (σ 4 + k))), (3, .int (iI (sm (fun z => misRow (weaveN σ b (z + 1).toNat) (σ 4 + z)) 0 k))), (4, .int (iI k)), (0, .ref mo), (1, .int (iI rw9)), (2, .int (iI (bz b)))]) F.1 F.2.1 dX9_weaves_62 hl (by decide) rfl (fun ls hl => ?_)
            have loop64 : ∀ (n9 : Nat) (i : Int), (hrg : 0 ≤ i ∧ i ≤ σ 0) → (hms : σ 0 - i < (n9 : Int)) → (wi : Wo) → (hA64_0 : wi (mo + 1) = some (aZ X 1317 (fillN τ b (σ 4 + k) i.toNat))) → (hF64 : ∀ q : Nat, q ≠ mo + 1 → wi q = wk q) → (H : Heap) → (locs : List Loc) → (ls : Array Slot) → Wd X wi s H → va_S (cxA X) s.heap H locs → lv_has ls 8 [(6, .int (iI i)), (5, .int (iI (σ 4 + k))), (3, .int (iI (sm (fun z => misRow (weaveN σ b (z + 1).toNat) (σ 4 + z)) 0 k))), (4, .int (iI k)), (0, .ref mo), (1, .int (iI rw9)), (2, .int (iI (bz b)))] → W p l e (rmk 6 144) s m (List.toArray [.ref mo, .int (iI rw9), .int (iI (bz b))]) below meth c H locs 0 0 (MX X below (List.toArray [.ref mo, .int (iI rw9), .int (iI (bz b))]) s 0 0 (some (.int (iI (misFrom (weaveN σ b rw9.toNat) (σ 4))))) (fun w' => w' mo = some (.inr (9, mL mo (up (up (up v 5 (min 8 (v 5 + 1))) 8 (v 8 + 1)) 9 (v 9 + macN σ b rw9.toNat)))) ∧ w' (mo + 1) = some (aZ X 1317 (weaveN σ b rw9.toNat)) ∧ w' (mo + 3) = some (aZ X 10536 (actP (v 5) pa σ)) ∧ ∀ q : Nat, q ≠ mo → q ≠ mo + 1 → q ≠ mo + 3 → w' q = w q)) (F0 m 64 ls []) := by
              intro n9
              induction n9 with
              | zero => intro i  hrg hms; exfalso; omega
              | succ n9 ih64 =>
                intro i  hrg hms wi hA64_0 hF64  H locs ls hW hS hl
                have hO47_0 := (hF64 _ (by omega)).trans hO47_0
                have ha7 := (hF64 _ (by omega)).trans ha7
                have hwr := fill_WF (b := b) (rn := σ 4 + k) hwt (by omega) hhe i.toNat (by omega)
                have hlo := fun p (p1 : p < 117) (p2 : p < 6 ∨ 13 ≤ p) => fill_lo (b := b) (rn := σ 4 + k) hwt (by omega) p1 p2 i.toNat
                have hde9 := fun c r => fill_des (b := b) (rn := σ 4 + k) hwt (by omega) i.toNat c r
                obtain ⟨ρ, hρ⟩ : ∃ ρ, ρ = fillN τ b (σ 4 + k) i.toNat := ⟨_, rfl⟩
                rw [← hρ] at hwr hlo hde9 hA64_0
                have hr0 := hlo 0 (by decide) (by decide)
                have hr1 := hlo 1 (by decide) (by decide)
                have hr4 := hlo 4 (by decide) (by decide)
                refine lv_iload F.1 F.2.1 dX9_weaves_64 (lv_at hl 0 rfl) ?_
                refine lv_aload_n F.1 F.2.1 dX9_weaves_66 rfl (lv_at hl 4 rfl) ?_
                refine gf_RX9_7 F hW hO47_0 rfl dX9_weaves_67 ?_
                refine h_iconst F dX9_weaves_70 ?_
                refine h_iald F hW hA64_0 (by omega) (by omega) dX9_weaves_71 ?_
                refine h_top (show (ρ 0 : Int) = σ 0 from hr0.trans ht0) ?_
                refine h_icge (tgt := 135) F dX9_weaves_72 (by decide) (by omega) (fun c10 => ?_) (fun c10 => ?_)
                · have hie : i = σ 0 := by omega
                  have hfu := wea_fu (b := b) hwt (by omega)
                  rw [ht4, ht0] at hfu
                  rw [hie] at hρ
                  rw [← hρ] at hfu
                  have hpt : weaveN σ b (k + 1).toNat = up ρ 4 (ρ 4 + 1) := by rw [show (k + 1).toNat = k.toNat + 1 by omega]; show up (fillN (weaveN σ b k.toNat) b (weaveN σ b k.toNat 4) (weaveN σ b k.toNat 0).toNat) 4 (weaveN σ b k.toNat 4 + 1) = _; rw [← hτ, ht4, ht0, ← hρ, hr4, ht4]
                  have hmk : macN σ b (k + 1).toNat = macN σ b k.toNat + mnS ρ (ρ 4) := by rw [show (k + 1).toNat = k.toNat + 1 by omega]; show macN σ b k.toNat + mnS (fillN (weaveN σ b k.toNat) b (weaveN σ b k.toNat 4) (weaveN σ b k.toNat 0).toNat) (weaveN σ b k.toNat 4) = _; rw [← hτ, ht4, ht0, ← hρ, hr4, ht4]
                  refine lv_iload_n F.1 F.2.1 dX9_weaves_135 rfl (lv_at hl 2 rfl) ?_
                  refine lv_aload_n F.1 F.2.1 dX9_weaves_136 rfl (lv_at hl 4 rfl) ?_
                  refine cl_RX9_253 (As := []) (rest := [.int (iI (sm (fun z => misRow (weaveN σ b (z + 1).toNat) (σ 4 + z)) 0 k))]) F hl (c_X9_finishes l X wi mo (up (up (up v 5 (min 8 (v 5 + 1))) 8 (v 8 + 1)) 9 (v 9 + macN σ b k.toNat)) ρ hO47_0 hA64_0 hwr (by omega) (by rw [hr4, ht4, hr0, ht0]; exact hfu)) hW hS hO47_0 rfl rfl ⟨Nat.le_of_ble_eq_true rfl, Nat.le_of_ble_eq_true rfl⟩ (Nat.le_of_ble_eq_true rfl) ⟨Nat.zero_le _, Nat.zero_le _⟩ dX9_weaves_137 (fun w11 H locs hp12 hW hS => ?_)
                  obtain ⟨ho13, ha14, hn15⟩ := hp12
                  have ha7 := (hn15 _ (by omega) (by omega)).trans ha7
                  have hws := hpt
                  have hms : misRow (weaveN σ b (k + 1).toNat) (σ 4 + k) = misRow (up ρ 4 (ρ 4 + 1)) (ρ 4) := by rw [hpt, hr4, ht4]
                  have hmv := mac_s v σ b k ρ hmk
                  refine h_iadd (a := sm (fun z => misRow (weaveN σ b (z + 1).toNat) (σ 4 + z)) 0 k) (b := misRow (up ρ 4 (ρ 4 + 1)) (ρ 4)) F dX9_weaves_140 ?_
                  refine lv_istore_n (lv' := [(3, .int (iI ((sm (fun z => misRow (weaveN σ b (z + 1).toNat) (σ 4 + z)) 0 k) + (misRow (up ρ 4 (ρ 4 + 1)) (ρ 4))))), (6, .int (iI i)), (5, .int (iI (σ 4 + k))), (4, .int (iI k)), (0, .ref mo), (1, .int (iI rw9)), (2, .int (iI (bz b)))]) F.1 F.2.1 dX9_weaves_141 rfl hl (by decide) rfl (fun ls hl => ?_)
                  refine h_iinc (k := 3) (a := k) (lv' := [(4, .int (iI (k + 1))), (3, .int (iI ((sm (fun z => misRow (weaveN σ b (z + 1).toNat) (σ 4 + z)) 0 k) + (misRow (up ρ 4 (ρ 4 + 1)) (ρ 4))))), (6, .int (iI i)), (5, .int (iI (σ 4 + k))), (0, .ref mo), (1, .int (iI rw9)), (2, .int (iI (bz b)))]) F dX9_weaves_142 hl rfl (by decide) rfl (fun ls hl => ?_)
                  refine h_goto (tgt := 47) F dX9_weaves_145 (by decide) ?_
                  have eq16 : (sm (fun z => misRow (weaveN σ b (z + 1).toNat) (σ 4 + z)) 0 (k + 1) : Int) = (sm (fun z => misRow (weaveN σ b (z + 1).toNat) (σ 4 + z)) 0 k) + (misRow (up ρ 4 (ρ 4 + 1)) (ρ 4)) := by rw [sm_s _ (by omega)]; exact congrArg (fun z => _ + z) hms
                  have eq17 : ((k + 1) : Int) = k + 1 := by first | rfl | omega | simp
                  exact ih47 (k + 1)  (by omega) (by omega) w11 (by rw [show (up (up (up v 5 (min 8 (v 5 + 1))) 8 (v 8 + 1)) 9 (v 9 + macN σ b (k + 1).toNat) : Int → Int) = up (up (up (up v 5 (min 8 (v 5 + 1))) 8 (v 8 + 1)) 9 (v 9 + macN σ b k.toNat)) 9 ((up (up (up v 5 (min 8 (v 5 + 1))) 8 (v 8 + 1)) 9 (v 9 + macN σ b k.toNat)) 9 + mnS ρ (ρ 4)) from hmv]; exact ho13) (by rw [show (weaveN σ b (k + 1).toNat : Int → Int) = up ρ 4 (ρ 4 + 1) from hws]; exact ha14) (fun q h09 h19 => by rw [hn15 q (by omega) (by omega), hF64 q (by omega), hF47 q (by omega) (by omega)])  _ _ ls hW hS (by rw [eq16, eq17]; exact lv_sub hl [1, 0, 4, 5, 6] rfl)
                · refine lv_aload_n F.1 F.2.1 dX9_weaves_75 rfl (lv_at hl 4 rfl) ?_
                  refine lv_iload F.1 F.2.1 dX9_weaves_76 (lv_at hl 0 rfl) ?_
                  refine lv_iload F.1 F.2.1 dX9_weaves_78 (lv_at hl 1 rfl) ?_
                  refine cl_RX9_113 (As := [.int (iI i), .int (iI (σ 4 + k))]) (rest := []) F hl (c_colAt0 l X wi mo (up (up (up v 5 (min 8 (v 5 + 1))) 8 (v 8 + 1)) 9 (v 9 + macN σ b k.toNat)) ρ i (σ 4 + k) hO47_0 hA64_0 (by omega)) hW hS hO47_0 rfl rfl ⟨Nat.le_of_ble_eq_true rfl, Nat.le_of_ble_eq_true rfl⟩ (Nat.le_of_ble_eq_true rfl) ⟨Nat.zero_le _, Nat.zero_le _⟩ dX9_weaves_80 (fun w1 H locs hp18 hW hS => ?_)
                  rw [hp18] at hW; clear hp18; clear w1
                  have hcr := hwr.2.2.2.1 i (σ 4 + k) (by omega) (by omega) (by omega) (by omega)
                  refine h_iconst F dX9_weaves_83 ?_
                  refine h_iceq (tgt := 90) F dX9_weaves_84 (by decide) (by omega) (fun c19 => ?_) (fun c19 => ?_)
                  · refine lv_aload_n F.1 F.2.1 dX9_weaves_90 rfl (lv_at hl 4 rfl) ?_
                    refine lv_iload F.1 F.2.1 dX9_weaves_91 (lv_at hl 0 rfl) ?_
                    refine lv_iload F.1 F.2.1 dX9_weaves_93 (lv_at hl 1 rfl) ?_
                    refine lv_iload_n F.1 F.2.1 dX9_weaves_95 rfl (lv_at hl 6 rfl) ?_
                    refine cl_RX9_219 (As := [.int (iI i), .int (iI (σ 4 + k)), .int (iI (bz b))]) (rest := []) F hl (c_X9_wovenAt l X wi mo (up (up (up v 5 (min 8 (v 5 + 1))) 8 (v 8 + 1)) 9 (v 9 + macN σ b k.toNat)) ρ i (σ 4 + k) b hO47_0 hA64_0 hwr (by omega)) hW hS hO47_0 rfl rfl ⟨Nat.le_of_ble_eq_true rfl, Nat.le_of_ble_eq_true rfl⟩ (Nat.le_of_ble_eq_true rfl) ⟨Nat.zero_le _, Nat.zero_le _⟩ dX9_weaves_96 (fun w1 H locs hp20 hW hS => ?_)
                    rw [hp20] at hW; clear hp20; clear w1
                    refine h_top (show ((if cellS ρ i (σ 4 + k) = -1 then desS ρ (if b then turnS ρ i else i) (σ 4 + k) else cellS ρ i (σ 4 + k)) : Int) = desS τ (if b then turnS τ i else i) (σ 4 + k) from by rw [if_pos ‹_›, hde9]; unfold turnS; rw [hr0]) ?_
                    have hdr := desS_r hwt (if b then turnS τ i else i) (σ 4 + k)
                    have hstr := hwr.2.1 (desS τ (if b then turnS τ i else i) (σ 4 + k)) (by omega) (by omega)
                    have hft : fillN τ b (σ 4 + k) (i + 1).toNat = giveS ρ i (σ 4 + k) (desS τ (if b then turnS τ i else i) (σ 4 + k)) := by rw [hρ]; exact fillN_t (by omega) (by rw [← hρ]; assumption)
                    refine lv_istore (lv' := [(7, .int (iI (desS τ (if b then turnS τ i else i) (σ 4 + k)))), (6, .int (iI i)), (5, .int (iI (σ 4 + k))), (3, .int (iI (sm (fun z => misRow (weaveN σ b (z + 1).toNat) (σ 4 + z)) 0 k))), (4, .int (iI k)), (0, .ref mo), (1, .int (iI rw9)), (2, .int (iI (bz b)))]) F.1 F.2.1 dX9_weaves_99 hl (by decide) rfl (fun ls hl => ?_)
                    refine lv_aload_n F.1 F.2.1 dX9_weaves_101 rfl (lv_at hl 5 rfl) ?_
                    refine gf_RX9_7 F hW hO47_0 rfl dX9_weaves_102 ?_
                    refine lv_iload F.1 F.2.1 dX9_weaves_105 (lv_at hl 1 rfl) ?_
                    refine lv_iload F.1 F.2.1 dX9_weaves_107 (lv_at hl 2 rfl) ?_
                    refine cl_RX9_86 (As := [.int (iI i), .int (iI (σ 4 + k))]) (rest := [.ref (mo + 1)]) F hl (c_X9_at l X wi i (σ 4 + k) ) hW hS rfl rfl ⟨Nat.le_of_ble_eq_true rfl, Nat.le_of_ble_eq_true rfl⟩ (Nat.le_of_ble_eq_true rfl) ⟨Nat.zero_le _, Nat.zero_le _⟩ dX9_weaves_109 (fun w1 H locs hp21 hW hS => ?_)
                    rw [hp21] at hW; clear hp21; clear w1
                    refine lv_iload F.1 F.2.1 dX9_weaves_112 (lv_at hl 0 rfl) ?_
                    refine h_iast F hW hS hA64_0 (by omega) (by omega) dX9_weaves_114 (fun w22 H locs ho24 hn23 hW hS => ?_)
                    have hO47_0 := (hn23 _ (by omega)).trans hO47_0
                    have ha7 := (hn23 _ (by omega)).trans ha7
                    refine lv_aload_n F.1 F.2.1 dX9_weaves_115 rfl (lv_at hl 5 rfl) ?_
                    refine gf_RX9_7 F hW hO47_0 rfl dX9_weaves_116 ?_
                    refine h_bipush F dX9_weaves_119 rfl ?_
                    refine lv_iload F.1 F.2.1 dX9_weaves_121 (lv_at hl 0 rfl) ?_
                    refine h_iadd (a := 6) (b := desS τ (if b then turnS τ i else i) (σ 4 + k)) F dX9_weaves_123 ?_
                    refine lv_dup2_11 F.1 F.2.1 dX9_weaves_124 rfl rfl ?_
                    refine h_iald F hW ho24 (by omega) (by omega) dX9_weaves_125 ?_
                    refine h_top (show ((up ρ (117 + 40 * (σ 4 + k) + i) (desS τ (if b then turnS τ i else i) (σ 4 + k))) (6 + (desS τ (if b then turnS τ i else i) (σ 4 + k))) : Int) = ρ (6 + desS τ (if b then turnS τ i else i) (σ 4 + k)) from up_n (by omega)) ?_
                    refine h_iconst F dX9_weaves_126 ?_
                    refine h_isub (a := ρ (6 + desS τ (if b then turnS τ i else i) (σ 4 + k))) (b := 1) F dX9_weaves_127 ?_
                    refine h_iast F hW hS ho24 (by omega) (by omega) dX9_weaves_128 (fun w25 H locs ho27 hn26 hW hS => ?_)
                    have hO47_0 := (hn26 _ (by omega)).trans hO47_0
                    have ha7 := (hn26 _ (by omega)).trans ha7
                    refine h_iinc (k := 1) (a := i) (lv' := [(6, .int (iI (i + 1))), (7, .int (iI (desS τ (if b then turnS τ i else i) (σ 4 + k)))), (5, .int (iI (σ 4 + k))), (3, .int (iI (sm (fun z => misRow (weaveN σ b (z + 1).toNat) (σ 4 + z)) 0 k))), (4, .int (iI k)), (0, .ref mo), (1, .int (iI rw9)), (2, .int (iI (bz b)))]) F dX9_weaves_129 hl rfl (by decide) rfl (fun ls hl => ?_)
                    refine h_goto (tgt := 64) F dX9_weaves_132 (by decide) ?_
                    have eq28 : ((i + 1) : Int) = i + 1 := by first | rfl | omega | simp
                    exact ih64 (i + 1)  (by omega) (by omega) w25 (by rw [show (fillN τ b (σ 4 + k) (i + 1).toNat : Int → Int) = up (up ρ (117 + 40 * (σ 4 + k) + i) (desS τ (if b then turnS τ i else i) (σ 4 + k))) (6 + (desS τ (if b then turnS τ i else i) (σ 4 + k))) ((ρ (6 + desS τ (if b then turnS τ i else i) (σ 4 + k))) - 1) from hft]; exact ho27) (fun q h09 => by rw [hn26 q (by omega), hn23 q (by omega), hF64 q (by omega)])  _ _ ls hW hS (by rw [eq28]; exact lv_sub hl [0, 2, 3, 4, 5, 6, 7] rfl)
                  · have hft : fillN τ b (σ 4 + k) (i + 1).toNat = ρ := by rw [hρ]; exact fillN_f (by omega) (by rw [← hρ]; assumption)
                    refine h_goto (tgt := 129) F dX9_weaves_87 (by decide) ?_
                    refine h_iinc (k := 0) (a := i) (lv' := [(6, .int (iI (i + 1))), (5, .int (iI (σ 4 + k))), (3, .int (iI (sm (fun z => misRow (weaveN σ b (z + 1).toNat) (σ 4 + z)) 0 k))), (4, .int (iI k)), (0, .ref mo), (1, .int (iI rw9)), (2, .int (iI (bz b)))]) F dX9_weaves_129 hl rfl (by decide) rfl (fun ls hl => ?_)
                    refine h_goto (tgt := 64) F dX9_weaves_132 (by decide) ?_
                    have eq29 : ((i + 1) : Int) = i + 1 := by first | rfl | omega | simp
                    exact ih64 (i + 1)  (by omega) (by omega) wi (by rw [show (fillN τ b (σ 4 + k) (i + 1).toNat : Int → Int) = ρ from hft]; exact hA64_0) (fun q h09 => by rw [hF64 q (by omega)])  _ _ ls hW hS (by rw [eq29]; exact lv_sub hl [0, 1, 2, 3, 4, 5, 6] rfl)
            exact loop64 ((σ 0 - 0) + 1 : Int).toNat 0  (by omega) (by omega) wk (by rw [show (fillN τ b (σ 4 + k) (0 : Int).toNat : Int → Int) = τ from rfl]; exact hA47_0) (fun q _ => rfl)  _ _ ls hW hS (lv_sub hl [0, 1, 2, 3, 4, 5, 6] rfl)
      have eq30 : (sm (fun z => misRow (weaveN σ b (z + 1).toNat) (σ 4 + z)) 0 0 : Int) = 0 := sm_0 _ _
      exact loop47 ((rw9 - 0) + 1 : Int).toNat 0  (by omega) (by omega) w4 (by rw [show (up (up (up v 5 (min 8 (v 5 + 1))) 8 (v 8 + 1)) 9 (v 9 + macN σ b (0 : Int).toNat) : Int → Int) = up (up v 5 (min 8 (v 5 + 1))) 8 (v 8 + 1) from by rw [show (0 : Int).toNat = 0 from rfl]; exact mac_0 v σ b]; exact ho6) (by rw [show (weaveN σ b (0 : Int).toNat : Int → Int) = σ from rfl]; exact hs) (fun q _ _ => rfl)  _ _ ls hW hS (by rw [eq30]; exact lv_sub hl [1, 0, 2, 3, 4] rfl)
    · rw [hen] at c3; cases c3
  · exfalso; omega
set_option maxHeartbeats 4000000 in
set_option maxRecDepth 100000 in
theorem c_unpicks_r3 (l : Launch) (X : Cx) (w : Wo) (mo : Nat) (v σ : Int → Int) (rf : Int → Int) (rw9 : Int) (hM : w mo = some (.inr (9, mL mo v))) (hs : w (mo + 1) = some (aZ X 1317 σ)) (hwf : WF σ) (hrf : w (mo + 6) = some (aZ X 8 rf)) (hrw : 0 ≤ rw9 ∧ rw9 ≤ 30) (hop : σ 4 < rw9) : CM l X yX9_unpicks cX9_unpicks 6 (some (.int)) (rmk 2 45) [.ref mo, .int (iI rw9)] w (some (.int (iI (-3)))) (fun w' => w' (mo + 6) = some (aZ X 8 (up rf 3 (rf 3 + 1))) ∧ ∀ q : Nat, q ≠ mo + 6 → w' q = w q) := by
  refine CM.of (lv := [(0, .ref mo), (1, .int (iI rw9))]) (by decide) (Nat.le_of_ble_eq_true rfl) rfl (fun p e s m below meth c ls F hr hlk hin hW hS hl => ?_)
  have hZ0 := hW.2.2
  have hB9 := hW.1.2
  clear hin
  have hF := hwf.1
  unfold WF0 at hF
  refine lv_iload_n F.1 F.2.1 dX9_unpicks_0 rfl (lv_at hl 1 rfl) ?_
  refine lv_aload_n F.1 F.2.1 dX9_unpicks_1 rfl (lv_at hl 0 rfl) ?_
  refine gf_RX9_7 F hW hM rfl dX9_unpicks_2 ?_
  refine h_iconst F dX9_unpicks_5 ?_
  refine h_iald F hW hs (by omega) (by omega) dX9_unpicks_6 ?_
  refine h_icle (tgt := 16) F dX9_unpicks_7 (by decide) (by omega) (fun c1 => ?_) (fun c1 => ?_)
  · exfalso; omega
  · refine lv_aload_n F.1 F.2.1 dX9_unpicks_10 rfl (lv_at hl 0 rfl) ?_
    refine h_iconst F dX9_unpicks_11 ?_
    refine cl_RX9_247 (As := [.int (iI 3)]) (rest := []) F hl (c_X9_refuses l X w mo v σ rf 3 hM hrf (by omega)) hW hS hM rfl rfl ⟨Nat.le_of_ble_eq_true rfl, Nat.le_of_ble_eq_true rfl⟩ (Nat.le_of_ble_eq_true rfl) ⟨Nat.zero_le _, Nat.zero_le _⟩ dX9_unpicks_12 (fun w2 H locs hp3 hW hS => ?_)
    obtain ⟨ha4, hn5⟩ := hp3
    have hM := (hn5 _ (by omega)).trans hM
    have hs := (hn5 _ (by omega)).trans hs
    exact h_ireti F hr hlk hW hS ⟨ha4, (fun q h09 => by rw [hn5 q (by omega)])⟩ dX9_unpicks_15
set_option maxHeartbeats 4000000 in
set_option maxRecDepth 100000 in
theorem c_X9_unpicks (l : Launch) (X : Cx) (w : Wo) (mo : Nat) (v σ : Int → Int) (pa : Int → Int) (tk : Int → Int) (rw9 : Int) (hM : w mo = some (.inr (9, mL mo v))) (hs : w (mo + 1) = some (aZ X 1317 σ)) (hwf : WF σ) (hpa : w (mo + 3) = some (aZ X 10536 pa)) (hun : 0 ≤ v 5 ∧ v 5 ≤ 8) (htk : w (mo + 8) = some (aZ X 7 tk)) (hrw : 0 ≤ rw9 ∧ rw9 ≤ 30) (hop : rw9 ≤ σ 4) : CM l X yX9_unpicks cX9_unpicks 6 (some (.int)) (rmk 2 45) [.ref mo, .int (iI rw9)] w (some (.int (iI (sm (wvnS σ (σ 4 - rw9)) 0 7)))) (fun w' => w' mo = some (.inr (9, mL mo (up (up v 5 (min 8 (v 5 + 1))) 8 (v 8 + 1)))) ∧ w' (mo + 1) = some (aZ X 1317 (uqS σ (σ 4 - rw9))) ∧ w' (mo + 3) = some (aZ X 10536 (actP (v 5) pa σ)) ∧ w' (mo + 8) = some (aZ X 7 (tkA tk σ (σ 4 - rw9) (σ 1) 0)) ∧ ∀ q : Nat, q ≠ mo → q ≠ mo + 1 → q ≠ mo + 3 → q ≠ mo + 8 → w' q = w q) := by
  refine CM.of (lv := [(0, .ref mo), (1, .int (iI rw9))]) (by decide) (Nat.le_of_ble_eq_true rfl) rfl (fun p e s m below meth c ls F hr hlk hin hW hS hl => ?_)
  have hZ0 := hW.2.2
  have hB9 := hW.1.2
  clear hin
  have hF := hwf.1
  unfold WF0 at hF
  refine lv_iload_n F.1 F.2.1 dX9_unpicks_0 rfl (lv_at hl 1 rfl) ?_
  refine lv_aload_n F.1 F.2.1 dX9_unpicks_1 rfl (lv_at hl 0 rfl) ?_
  refine gf_RX9_7 F hW hM rfl dX9_unpicks_2 ?_
  refine h_iconst F dX9_unpicks_5 ?_
  refine h_iald F hW hs (by omega) (by omega) dX9_unpicks_6 ?_
  refine h_icle (tgt := 16) F dX9_unpicks_7 (by decide) (by omega) (fun c1 => ?_) (fun c1 => ?_)
  · refine lv_aload_n F.1 F.2.1 dX9_unpicks_16 rfl (lv_at hl 0 rfl) ?_
    refine cl_RX9_250 (As := []) (rest := []) F hl (c_X9_acts l X w mo v σ pa hM hs hpa hun) hW hS hM rfl rfl ⟨Nat.le_of_ble_eq_true rfl, Nat.le_of_ble_eq_true rfl⟩ (Nat.le_of_ble_eq_true rfl) ⟨Nat.zero_le _, Nat.zero_le _⟩ dX9_unpicks_17 (fun w2 H locs hp3 hW hS => ?_)
    obtain ⟨ho4, ha5, hn6⟩ := hp3
    have hs := (hn6 _ (by omega) (by omega)).trans hs
    have htk := (hn6 _ (by omega) (by omega)).trans htk
    refine h_iconst F dX9_unpicks_20 ?_
    refine lv_istore_n (lv' := [(2, .int (iI 0)), (0, .ref mo), (1, .int (iI rw9))]) F.1 F.2.1 dX9_unpicks_21 rfl hl (by decide) rfl (fun ls hl => ?_)
    refine h_iconst F dX9_unpicks_22 ?_
    refine lv_istore_n (lv' := [(3, .int (iI 0)), (2, .int (iI 0)), (0, .ref mo), (1, .int (iI rw9))]) F.1 F.2.1 dX9_unpicks_23 rfl hl (by decide) rfl (fun ls hl => ?_)
    have loop24 : ∀ (n9 : Nat) (j : Int), (hrg : 0 ≤ j ∧ j ≤ 7) → (hms : 7 - j < (n9 : Int)) → (wa : Wo) → (hA24_0 : wa (mo + 8) = some (aZ X 7 (flZ tk j 0))) → (hF24 : ∀ q : Nat, q ≠ mo + 8 → wa q = w2 q) → (H : Heap) → (locs : List Loc) → (ls : Array Slot) → Wd X wa s H → va_S (cxA X) s.heap H locs → lv_has ls 6 [(3, .int (iI j)), (2, .int (iI 0)), (0, .ref mo), (1, .int (iI rw9))] → W p l e (rmk 2 45) s m (List.toArray [.ref mo, .int (iI rw9)]) below meth c H locs 0 0 (MX X below (List.toArray [.ref mo, .int (iI rw9)]) s 0 0 (some (.int (iI (sm (wvnS σ (σ 4 - rw9)) 0 7)))) (fun w' => w' mo = some (.inr (9, mL mo (up (up v 5 (min 8 (v 5 + 1))) 8 (v 8 + 1)))) ∧ w' (mo + 1) = some (aZ X 1317 (uqS σ (σ 4 - rw9))) ∧ w' (mo + 3) = some (aZ X 10536 (actP (v 5) pa σ)) ∧ w' (mo + 8) = some (aZ X 7 (tkA tk σ (σ 4 - rw9) (σ 1) 0)) ∧ ∀ q : Nat, q ≠ mo → q ≠ mo + 1 → q ≠ mo + 3 → q ≠ mo + 8 → w' q = w q)) (F0 m 24 ls []) := by
      intro n9
      induction n9 with
      | zero => intro j  hrg hms; exfalso; omega
      | succ n9 ih24 =>
        intro j  hrg hms wa hA24_0 hF24  H locs ls hW hS hl
        have ho4 := (hF24 _ (by omega)).trans ho4
        have hs := (hF24 _ (by omega)).trans hs
        have ha5 := (hF24 _ (by omega)).trans ha5
        refine lv_iload_n F.1 F.2.1 dX9_unpicks_24 rfl (lv_at hl 0 rfl) ?_
        refine h_bipush F dX9_unpicks_25 rfl ?_
        refine h_icge (tgt := 43) F dX9_unpicks_27 (by decide) (by omega) (fun c7 => ?_) (fun c7 => ?_)
        · refine lv_aload_n F.1 F.2.1 dX9_unpicks_43 rfl (lv_at hl 2 rfl) ?_
          refine gf_RX9_7 F hW ho4 rfl dX9_unpicks_44 ?_
          refine h_iconst F dX9_unpicks_47 ?_
          refine lv_dup2_11 F.1 F.2.1 dX9_unpicks_48 rfl rfl ?_
          refine h_iald F hW hs (by omega) (by omega) dX9_unpicks_49 ?_
          refine lv_iload_n F.1 F.2.1 dX9_unpicks_50 rfl (lv_at hl 3 rfl) ?_
          refine h_isub (a := σ 4) (b := rw9) F dX9_unpicks_51 ?_
          refine h_iast F hW hS hs (by omega) (by omega) dX9_unpicks_52 (fun w8 H locs ho10 hn9 hW hS => ?_)
          have ho4 := (hn9 _ (by omega)).trans ho4
          have ha5 := (hn9 _ (by omega)).trans ha5
          have hA24_0 := (hn9 _ (by omega)).trans hA24_0
          refine lv_aload_n F.1 F.2.1 dX9_unpicks_53 rfl (lv_at hl 2 rfl) ?_
          refine gf_RX9_7 F hW ho4 rfl dX9_unpicks_54 ?_
          refine h_iconst F dX9_unpicks_57 ?_
          refine h_iald F hW ho10 (by omega) (by omega) dX9_unpicks_58 ?_
          refine h_top (show ((up σ 4 ((σ 4) - rw9)) 4 : Int) = (σ 4 - rw9) from rfl) ?_
          refine lv_istore_n (lv' := [(3, .int (iI (σ 4 - rw9))), (2, .int (iI 0)), (0, .ref mo), (1, .int (iI rw9))]) F.1 F.2.1 dX9_unpicks_59 rfl hl (by decide) rfl (fun ls hl => ?_)
          have loop60 : ∀ (n9 : Nat) (r : Int), (hrg : (σ 4 - rw9) ≤ r ∧ r ≤ σ 1) → (hms : σ 1 - r < (n9 : Int)) → (wb : Wo) → (hA60_0 : wb (mo + 1) = some (aZ X 1317 (ucS σ (σ 4 - rw9) r 0))) → (hA60_1 : wb (mo + 8) = some (aZ X 7 (tkA tk σ (σ 4 - rw9) r 0))) → (hF60 : ∀ q : Nat, q ≠ mo + 1 → q ≠ mo + 8 → wb q = w8 q) → (H : Heap) → (locs : List Loc) → (ls : Array Slot) → Wd X wb s H → va_S (cxA X) s.heap H locs → lv_has ls 6 [(2, .int (iI (sm (tkS σ (σ 4 - rw9) r 0) 0 7))), (3, .int (iI r)), (0, .ref mo), (1, .int (iI rw9))] → W p l e (rmk 2 45) s m (List.toArray [.ref mo, .int (iI rw9)]) below meth c H locs 0 0 (MX X below (List.toArray [.ref mo, .int (iI rw9)]) s 0 0 (some (.int (iI (sm (wvnS σ (σ 4 - rw9)) 0 7)))) (fun w' => w' mo = some (.inr (9, mL mo (up (up v 5 (min 8 (v 5 + 1))) 8 (v 8 + 1)))) ∧ w' (mo + 1) = some (aZ X 1317 (uqS σ (σ 4 - rw9))) ∧ w' (mo + 3) = some (aZ X 10536 (actP (v 5) pa σ)) ∧ w' (mo + 8) = some (aZ X 7 (tkA tk σ (σ 4 - rw9) (σ 1) 0)) ∧ ∀ q : Nat, q ≠ mo → q ≠ mo + 1 → q ≠ mo + 3 → q ≠ mo + 8 → w' q = w q)) (F0 m 60 ls []) := by
            intro n9
            induction n9 with
            | zero => intro r  hrg hms; exfalso; omega
            | succ n9 ih60 =>
              intro r  hrg hms wb hA60_0 hA60_1 hF60  H locs ls hW hS hl
              have ho4 := (hF60 _ (by omega) (by omega)).trans ho4
              have ha5 := (hF60 _ (by omega) (by omega)).trans ha5
              refine lv_iload_n F.1 F.2.1 dX9_unpicks_60 rfl (lv_at hl 1 rfl) ?_
              refine lv_aload_n F.1 F.2.1 dX9_unpicks_61 rfl (lv_at hl 2 rfl) ?_
              refine gf_RX9_7 F hW ho4 rfl dX9_unpicks_62 ?_
              refine h_iconst F dX9_unpicks_65 ?_
              refine h_iald F hW hA60_0 (by omega) (by omega) dX9_unpicks_66 ?_
              refine h_top (show ((ucS σ (σ 4 - rw9) r 0) 1 : Int) = σ 1 from uc_lo (by decide) (by decide)) ?_
              refine h_icge (tgt := 140) F dX9_unpicks_67 (by decide) (by omega) (fun c11 => ?_) (fun c11 => ?_)
              · refine h_iconst F dX9_unpicks_140 ?_
                refine lv_istore_n (lv' := [(3, .int (iI 0)), (2, .int (iI (sm (tkS σ (σ 4 - rw9) r 0) 0 7))), (0, .ref mo), (1, .int (iI rw9))]) F.1 F.2.1 dX9_unpicks_141 rfl hl (by decide) rfl (fun ls hl => ?_)
                have loop142 : ∀ (n9 : Nat) (q9 : Int), (hrg : 0 ≤ q9 ∧ q9 ≤ 7) → (hms : 7 - q9 < (n9 : Int)) → (wd : Wo) → (hA142_0 : wd (mo + 1) = some (aZ X 1317 (usS σ (σ 4 - rw9) q9))) → (hF142 : ∀ q : Nat, q ≠ mo + 1 → wd q = wb q) → (H : Heap) → (locs : List Loc) → (ls : Array Slot) → Wd X wd s H → va_S (cxA X) s.heap H locs → lv_has ls 6 [(3, .int (iI q9)), (2, .int (iI (sm (tkS σ (σ 4 - rw9) r 0) 0 7))), (0, .ref mo), (1, .int (iI rw9))] → W p l e (rmk 2 45) s m (List.toArray [.ref mo, .int (iI rw9)]) below meth c H locs 0 0 (MX X below (List.toArray [.ref mo, .int (iI rw9)]) s 0 0 (some (.int (iI (sm (wvnS σ (σ 4 - rw9)) 0 7)))) (fun w' => w' mo = some (.inr (9, mL mo (up (up v 5 (min 8 (v 5 + 1))) 8 (v 8 + 1)))) ∧ w' (mo + 1) = some (aZ X 1317 (uqS σ (σ 4 - rw9))) ∧ w' (mo + 3) = some (aZ X 10536 (actP (v 5) pa σ)) ∧ w' (mo + 8) = some (aZ X 7 (tkA tk σ (σ 4 - rw9) (σ 1) 0)) ∧ ∀ q : Nat, q ≠ mo → q ≠ mo + 1 → q ≠ mo + 3 → q ≠ mo + 8 → w' q = w q)) (F0 m 142 ls []) := by
                  intro n9
                  induction n9 with
                  | zero => intro q9  hrg hms; exfalso; omega
                  | succ n9 ih142 =>
                    intro q9  hrg hms wd hA142_0 hF142  H locs ls hW hS hl
                    have ho4 := (hF142 _ (by omega)).trans ho4
                    have ha5 := (hF142 _ (by omega)).trans ha5
                    have hA60_1 := (hF142 _ (by omega)).trans hA60_1
                    refine lv_iload_n F.1 F.2.1 dX9_unpicks_142 rfl (lv_at hl 0 rfl) ?_
                    refine h_bipush F dX9_unpicks_143 rfl ?_
                    refine h_icge (tgt := 187) F dX9_unpicks_145 (by decide) (by omega) (fun c12 => ?_) (fun c12 => ?_)
                    · refine lv_aload_n F.1 F.2.1 dX9_unpicks_187 rfl (lv_at hl 2 rfl) ?_
                      refine gf_RX9_7 F hW ho4 rfl dX9_unpicks_188 ?_
                      refine h_iconst F dX9_unpicks_191 ?_
                      refine lv_aload_n F.1 F.2.1 dX9_unpicks_192 rfl (lv_at hl 2 rfl) ?_
                      refine gf_RX9_7 F hW ho4 rfl dX9_unpicks_193 ?_
                      refine h_iconst F dX9_unpicks_196 ?_
                      refine h_iald F hW hA142_0 (by omega) (by omega) dX9_unpicks_197 ?_
                      refine h_top (show ((usS σ (σ 4 - rw9) q9) 3 : Int) = σ 3 from us_lo (by decide) (by decide)) ?_
                      refine lv_aload_n F.1 F.2.1 dX9_unpicks_198 rfl (lv_at hl 2 rfl) ?_
                      refine gf_RX9_7 F hW ho4 rfl dX9_unpicks_199 ?_
                      refine h_iconst F dX9_unpicks_202 ?_
                      refine h_iald F hW hA142_0 (by omega) (by omega) dX9_unpicks_203 ?_
                      refine h_top (show ((usS σ (σ 4 - rw9) q9) 4 : Int) = (σ 4 - rw9) from us_4) ?_
                      refine h_mmin (index := 167) (a := σ 3) (b := (σ 4 - rw9)) F hl km_RX9_167 (Nat.le_of_ble_eq_true rfl) (Nat.le_of_ble_eq_true rfl) (Nat.zero_le _) (Nat.zero_le _) (by omega) dX9_unpicks_204 ?_
                      refine h_iast F hW hS hA142_0 (by omega) (by omega) dX9_unpicks_207 (fun w13 H locs ho15 hn14 hW hS => ?_)
                      have ho4 := (hn14 _ (by omega)).trans ho4
                      have ha5 := (hn14 _ (by omega)).trans ha5
                      have hA60_1 := (hn14 _ (by omega)).trans hA60_1
                      refine lv_iload_n F.1 F.2.1 dX9_unpicks_208 rfl (lv_at hl 1 rfl) ?_
                      refine h_top (show (sm (tkS σ (σ 4 - rw9) r 0) 0 7 : Int) = sm (wvnS σ (σ 4 - rw9)) 0 7 from by rw [show r = σ 1 by omega]; exact sm_c (fun co _ _ => tk_wv _ _ _)) ?_
                      exact h_ireti F hr hlk hW hS ⟨ho4, (by (rw [ho15]) <;> (first | rfl | (rw [show q9 = 7 by omega]; rfl) | rw [show r = σ 1 by omega])), ha5, (by (rw [hA60_1]) <;> (first | rfl | (rw [show q9 = 7 by omega]; rfl) | rw [show r = σ 1 by omega])), (fun q h09 h19 h29 h39 => by rw [hn14 q (by omega), hF142 q (by omega), hF60 q (by omega) (by omega), hn9 q (by omega), hF24 q (by omega), hn6 q (by omega) (by omega)])⟩ dX9_unpicks_209
                    · have hwr := wvn_r hwf.1 (lo := (σ 4 - rw9)) (by omega) q9
                      have hst := hwf.2.1 q9 (by omega) (by omega)
                      refine lv_aload_n F.1 F.2.1 dX9_unpicks_148 rfl (lv_at hl 2 rfl) ?_
                      refine gf_RX9_7 F hW ho4 rfl dX9_unpicks_149 ?_
                      refine h_bipush F dX9_unpicks_152 rfl ?_
                      refine lv_iload_n F.1 F.2.1 dX9_unpicks_154 rfl (lv_at hl 0 rfl) ?_
                      refine h_iadd (a := 6) (b := q9) F dX9_unpicks_155 ?_
                      refine h_sipush F dX9_unpicks_156 rfl ?_
                      refine lv_aload_n F.1 F.2.1 dX9_unpicks_159 rfl (lv_at hl 2 rfl) ?_
                      refine gf_RX9_7 F hW ho4 rfl dX9_unpicks_160 ?_
                      refine h_bipush F dX9_unpicks_163 rfl ?_
                      refine lv_iload_n F.1 F.2.1 dX9_unpicks_165 rfl (lv_at hl 0 rfl) ?_
                      refine h_iadd (a := 6) (b := q9) F dX9_unpicks_166 ?_
                      refine h_iald F hW hA142_0 (by omega) (by omega) dX9_unpicks_167 ?_
                      refine h_top (show ((usS σ (σ 4 - rw9) q9) (6 + q9) : Int) = σ (6 + q9) from us_v (by omega)) ?_
                      refine lv_aload_n F.1 F.2.1 dX9_unpicks_168 rfl (lv_at hl 2 rfl) ?_
                      refine gf_RX9_32 F hW ho4 rfl dX9_unpicks_169 ?_
                      refine lv_iload_n F.1 F.2.1 dX9_unpicks_172 rfl (lv_at hl 0 rfl) ?_
                      refine h_iald F hW hA60_1 (by omega) (by omega) dX9_unpicks_173 ?_
                      refine h_top (show ((tkA tk σ (σ 4 - rw9) r 0) q9 : Int) = wvnS σ (σ 4 - rw9) q9 from by rw [show r = σ 1 by omega, tk_v (by omega)]; exact tk_wv _ _ _) ?_
                      refine h_iconst F dX9_unpicks_174 ?_
                      refine h_idiv F dX9_unpicks_175 (by omega) ?_
                      refine h_iadd (a := σ (6 + q9)) (b := (wvnS σ (σ 4 - rw9) q9) / 2) F dX9_unpicks_176 ?_
                      refine h_mmin (index := 167) (a := 9999) (b := (σ (6 + q9)) + ((wvnS σ (σ 4 - rw9) q9) / 2)) F hl km_RX9_167 (Nat.le_of_ble_eq_true rfl) (Nat.le_of_ble_eq_true rfl) (Nat.zero_le _) (Nat.zero_le _) (by omega) dX9_unpicks_177 ?_
                      refine h_iast F hW hS hA142_0 (by omega) (by omega) dX9_unpicks_180 (fun w16 H locs ho18 hn17 hW hS => ?_)
                      have ho4 := (hn17 _ (by omega)).trans ho4
                      have ha5 := (hn17 _ (by omega)).trans ha5
                      have hA60_1 := (hn17 _ (by omega)).trans hA60_1
                      refine h_iinc (k := 0) (a := q9) (lv' := [(3, .int (iI (q9 + 1))), (2, .int (iI (sm (tkS σ (σ 4 - rw9) r 0) 0 7))), (0, .ref mo), (1, .int (iI rw9))]) F dX9_unpicks_181 hl rfl (by decide) rfl (fun ls hl => ?_)
                      refine h_goto (tgt := 142) F dX9_unpicks_184 (by decide) ?_
                      have eq19 : ((q9 + 1) : Int) = q9 + 1 := by first | rfl | omega | simp
                      exact ih142 (q9 + 1)  (by omega) (by omega) w16 (by rw [show (usS σ (σ 4 - rw9) (q9 + 1) : Int → Int) = up (usS σ (σ 4 - rw9) q9) (6 + q9) (min 9999 ((σ (6 + q9)) + ((wvnS σ (σ 4 - rw9) q9) / 2))) from us_s (by omega)]; exact ho18) (fun q h09 => by rw [hn17 q (by omega), hF142 q (by omega)])  _ _ ls hW hS (by rw [eq19]; exact lv_sub hl [0, 1, 2, 3] rfl)
                exact loop142 ((7 - 0) + 1 : Int).toNat 0  (by omega) (by omega) wb (by rw [show (usS σ (σ 4 - rw9) 0 : Int → Int) = ucS σ (σ 4 - rw9) r 0 from by rw [show r = σ 1 by omega]; exact us_0 _ _]; exact hA60_0) (fun q _ => rfl)  _ _ ls hW hS (lv_sub hl [0, 1, 2, 3] rfl)
              · refine h_iconst F dX9_unpicks_70 ?_
                refine lv_istore (lv' := [(4, .int (iI 0)), (2, .int (iI (sm (tkS σ (σ 4 - rw9) r 0) 0 7))), (3, .int (iI r)), (0, .ref mo), (1, .int (iI rw9))]) F.1 F.2.1 dX9_unpicks_71 hl (by decide) rfl (fun ls hl => ?_)
                have loop73 : ∀ (n9 : Nat) (i : Int), (hrg : 0 ≤ i ∧ i ≤ σ 0) → (hms : σ 0 - i < (n9 : Int)) → (wc : Wo) → (hA73_0 : wc (mo + 1) = some (aZ X 1317 (ucS σ (σ 4 - rw9) r i))) → (hA73_1 : wc (mo + 8) = some (aZ X 7 (tkA tk σ (σ 4 - rw9) r i))) → (hF73 : ∀ q : Nat, q ≠ mo + 1 → q ≠ mo + 8 → wc q = wb q) → (H : Heap) → (locs : List Loc) → (ls : Array Slot) → Wd X wc s H → va_S (cxA X) s.heap H locs → lv_has ls 6 [(2, .int (iI (sm (tkS σ (σ 4 - rw9) r i) 0 7))), (4, .int (iI i)), (3, .int (iI r)), (0, .ref mo), (1, .int (iI rw9))] → W p l e (rmk 2 45) s m (List.toArray [.ref mo, .int (iI rw9)]) below meth c H locs 0 0 (MX X below (List.toArray [.ref mo, .int (iI rw9)]) s 0 0 (some (.int (iI (sm (wvnS σ (σ 4 - rw9)) 0 7)))) (fun w' => w' mo = some (.inr (9, mL mo (up (up v 5 (min 8 (v 5 + 1))) 8 (v 8 + 1)))) ∧ w' (mo + 1) = some (aZ X 1317 (uqS σ (σ 4 - rw9))) ∧ w' (mo + 3) = some (aZ X 10536 (actP (v 5) pa σ)) ∧ w' (mo + 8) = some (aZ X 7 (tkA tk σ (σ 4 - rw9) (σ 1) 0)) ∧ ∀ q : Nat, q ≠ mo → q ≠ mo + 1 → q ≠ mo + 3 → q ≠ mo + 8 → w' q = w q)) (F0 m 73 ls []) := by
                  intro n9
                  induction n9 with
                  | zero => intro i  hrg hms; exfalso; omega
                  | succ n9 ih73 =>
                    intro i  hrg hms wc hA73_0 hA73_1 hF73  H locs ls hW hS hl
                    have ho4 := (hF73 _ (by omega) (by omega)).trans ho4
                    have ha5 := (hF73 _ (by omega) (by omega)).trans ha5
                    refine lv_iload F.1 F.2.1 dX9_unpicks_73 (lv_at hl 1 rfl) ?_
                    refine lv_aload_n F.1 F.2.1 dX9_unpicks_75 rfl (lv_at hl 3 rfl) ?_
                    refine gf_RX9_7 F hW ho4 rfl dX9_unpicks_76 ?_
                    refine h_iconst F dX9_unpicks_79 ?_
                    refine h_iald F hW hA73_0 (by omega) (by omega) dX9_unpicks_80 ?_
                    refine h_top (show ((ucS σ (σ 4 - rw9) r i) 0 : Int) = σ 0 from uc_lo (by decide) (by decide)) ?_
                    refine h_icge (tgt := 134) F dX9_unpicks_81 (by decide) (by omega) (fun c20 => ?_) (fun c20 => ?_)
                    · refine h_iinc (k := 2) (a := r) (lv' := [(3, .int (iI (r + 1))), (2, .int (iI (sm (tkS σ (σ 4 - rw9) r i) 0 7))), (4, .int (iI i)), (0, .ref mo), (1, .int (iI rw9))]) F dX9_unpicks_134 hl rfl (by decide) rfl (fun ls hl => ?_)
                      refine h_goto (tgt := 60) F dX9_unpicks_137 (by decide) ?_
                      have eq21 : (sm (tkS σ (σ 4 - rw9) (r + 1) 0) 0 7 : Int) = sm (tkS σ (σ 4 - rw9) r i) 0 7 := by rw [show i = σ 0 by omega]; exact sm_c (fun co _ _ => tkS_r σ _ r co (by omega))
                      have eq22 : ((r + 1) : Int) = r + 1 := by first | rfl | omega | simp
                      exact ih60 (r + 1)  (by omega) (by omega) wc (by rw [show (ucS σ (σ 4 - rw9) (r + 1) 0 : Int → Int) = ucS σ (σ 4 - rw9) r i from by rw [show i = σ 0 by omega]; first | exact uc_r _ _ _ (by omega) | exact tk_r _ _ _ _ (by omega)]; exact hA73_0) (by rw [show (tkA tk σ (σ 4 - rw9) (r + 1) 0 : Int → Int) = tkA tk σ (σ 4 - rw9) r i from by rw [show i = σ 0 by omega]; first | exact uc_r _ _ _ (by omega) | exact tk_r _ _ _ _ (by omega)]; exact hA73_1) (fun q h09 h19 => by rw [hF73 q (by omega) (by omega), hF60 q (by omega) (by omega)])  _ _ ls hW hS (by rw [eq21, eq22]; exact lv_sub hl [1, 0, 3, 4] rfl)
                    · refine lv_aload_n F.1 F.2.1 dX9_unpicks_84 rfl (lv_at hl 3 rfl) ?_
                      refine lv_iload F.1 F.2.1 dX9_unpicks_85 (lv_at hl 1 rfl) ?_
                      refine lv_iload_n F.1 F.2.1 dX9_unpicks_87 rfl (lv_at hl 2 rfl) ?_
                      refine cl_RX9_113 (As := [.int (iI i), .int (iI r)]) (rest := []) F hl (c_colAt0 l X wc mo (up (up v 5 (min 8 (v 5 + 1))) 8 (v 8 + 1)) (ucS σ (σ 4 - rw9) r i) i r ho4 hA73_0 (by omega)) hW hS ho4 rfl rfl ⟨Nat.le_of_ble_eq_true rfl, Nat.le_of_ble_eq_true rfl⟩ (Nat.le_of_ble_eq_true rfl) ⟨Nat.zero_le _, Nat.zero_le _⟩ dX9_unpicks_88 (fun w1 H locs hp23 hW hS => ?_)
                      rw [hp23] at hW; clear hp23; clear w1
                      refine h_top (show (cellS (ucS σ (σ 4 - rw9) r i) i r : Int) = cellS σ i r from uc_cell (by omega)) ?_
                      refine lv_istore (lv' := [(5, .int (iI (cellS σ i r))), (2, .int (iI (sm (tkS σ (σ 4 - rw9) r i) 0 7))), (4, .int (iI i)), (3, .int (iI r)), (0, .ref mo), (1, .int (iI rw9))]) F.1 F.2.1 dX9_unpicks_91 hl (by decide) rfl (fun ls hl => ?_)
                      have hce := hwf.2.2.2.1 i r (by omega) (by omega) (by omega) (by omega)
                      refine lv_iload F.1 F.2.1 dX9_unpicks_93 (lv_at hl 0 rfl) ?_
                      refine h_iconst F dX9_unpicks_95 ?_
                      refine h_icne (tgt := 102) F dX9_unpicks_96 (by decide) (by omega) (fun c24 => ?_) (fun c24 => ?_)
                      · refine lv_aload_n F.1 F.2.1 dX9_unpicks_102 rfl (lv_at hl 4 rfl) ?_
                        refine gf_RX9_32 F hW ho4 rfl dX9_unpicks_103 ?_
                        refine lv_iload F.1 F.2.1 dX9_unpicks_106 (lv_at hl 0 rfl) ?_
                        refine lv_dup2_11 F.1 F.2.1 dX9_unpicks_108 rfl rfl ?_
                        refine h_iald F hW hA73_1 (by omega) (by omega) dX9_unpicks_109 ?_
                        refine h_top (show ((tkA tk σ (σ 4 - rw9) r i) (cellS σ i r) : Int) = tkS σ (σ 4 - rw9) r i (cellS σ i r) from tk_v (by omega)) ?_
                        refine h_iconst F dX9_unpicks_110 ?_
                        refine h_iadd (a := tkS σ (σ 4 - rw9) r i (cellS σ i r)) (b := 1) F dX9_unpicks_111 ?_
                        refine h_iast F hW hS hA73_1 (by omega) (by omega) dX9_unpicks_112 (fun w25 H locs ho27 hn26 hW hS => ?_)
                        have ho4 := (hn26 _ (by omega)).trans ho4
                        have hA73_0 := (hn26 _ (by omega)).trans hA73_0
                        have ha5 := (hn26 _ (by omega)).trans ha5
                        refine h_iinc (k := 1) (a := sm (tkS σ (σ 4 - rw9) r i) 0 7) (lv' := [(2, .int (iI ((sm (tkS σ (σ 4 - rw9) r i) 0 7) + 1))), (5, .int (iI (cellS σ i r))), (4, .int (iI i)), (3, .int (iI r)), (0, .ref mo), (1, .int (iI rw9))]) F dX9_unpicks_113 hl rfl (by decide) rfl (fun ls hl => ?_)
                        refine lv_aload_n F.1 F.2.1 dX9_unpicks_116 rfl (lv_at hl 4 rfl) ?_
                        refine gf_RX9_7 F hW ho4 rfl dX9_unpicks_117 ?_
                        refine lv_iload F.1 F.2.1 dX9_unpicks_120 (lv_at hl 2 rfl) ?_
                        refine lv_iload_n F.1 F.2.1 dX9_unpicks_122 rfl (lv_at hl 3 rfl) ?_
                        refine cl_RX9_86 (As := [.int (iI i), .int (iI r)]) (rest := [.ref (mo + 1)]) F hl (c_X9_at l X w25 i r ) hW hS rfl rfl ⟨Nat.le_of_ble_eq_true rfl, Nat.le_of_ble_eq_true rfl⟩ (Nat.le_of_ble_eq_true rfl) ⟨Nat.zero_le _, Nat.zero_le _⟩ dX9_unpicks_123 (fun w1 H locs hp28 hW hS => ?_)
                        rw [hp28] at hW; clear hp28; clear w1
                        refine h_iconst F dX9_unpicks_126 ?_
                        refine h_iast F hW hS hA73_0 (by omega) (by omega) dX9_unpicks_127 (fun w29 H locs ho31 hn30 hW hS => ?_)
                        have ho4 := (hn30 _ (by omega)).trans ho4
                        have ha5 := (hn30 _ (by omega)).trans ha5
                        have ho27 := (hn30 _ (by omega)).trans ho27
                        refine h_iinc (k := 2) (a := i) (lv' := [(4, .int (iI (i + 1))), (2, .int (iI ((sm (tkS σ (σ 4 - rw9) r i) 0 7) + 1))), (5, .int (iI (cellS σ i r))), (3, .int (iI r)), (0, .ref mo), (1, .int (iI rw9))]) F dX9_unpicks_128 hl rfl (by decide) rfl (fun ls hl => ?_)
                        refine h_goto (tgt := 73) F dX9_unpicks_131 (by decide) ?_
                        have eq32 : (sm (tkS σ (σ 4 - rw9) r (i + 1)) 0 7 : Int) = (sm (tkS σ (σ 4 - rw9) r i) 0 7) + 1 := by first | exact tkS_f (by omega) (by assumption) | exact tkS_t (by omega) (by omega)
                        have eq33 : ((i + 1) : Int) = i + 1 := by first | rfl | omega | simp
                        exact ih73 (i + 1)  (by omega) (by omega) w29 (by rw [show (ucS σ (σ 4 - rw9) r (i + 1) : Int → Int) = up (ucS σ (σ 4 - rw9) r i) (117 + 40 * r + i) (-1) from by first | exact uc_f (by omega) (by assumption) | exact tk_f (by omega) (by assumption) | exact uc_t (by omega) | exact tk_t (by omega) (by omega)]; exact ho31) (by rw [show (tkA tk σ (σ 4 - rw9) r (i + 1) : Int → Int) = up (tkA tk σ (σ 4 - rw9) r i) (cellS σ i r) ((tkS σ (σ 4 - rw9) r i (cellS σ i r)) + 1) from by first | exact uc_f (by omega) (by assumption) | exact tk_f (by omega) (by assumption) | exact uc_t (by omega) | exact tk_t (by omega) (by omega)]; exact ho27) (fun q h09 h19 => by rw [hn30 q (by omega), hn26 q (by omega), hF73 q (by omega) (by omega)])  _ _ ls hW hS (by rw [eq32, eq33]; exact lv_sub hl [1, 0, 3, 4, 5] rfl)
                      · refine h_goto (tgt := 128) F dX9_unpicks_99 (by decide) ?_
                        refine h_iinc (k := 2) (a := i) (lv' := [(4, .int (iI (i + 1))), (5, .int (iI (cellS σ i r))), (2, .int (iI (sm (tkS σ (σ 4 - rw9) r i) 0 7))), (3, .int (iI r)), (0, .ref mo), (1, .int (iI rw9))]) F dX9_unpicks_128 hl rfl (by decide) rfl (fun ls hl => ?_)
                        refine h_goto (tgt := 73) F dX9_unpicks_131 (by decide) ?_
                        have eq34 : (sm (tkS σ (σ 4 - rw9) r (i + 1)) 0 7 : Int) = sm (tkS σ (σ 4 - rw9) r i) 0 7 := by first | exact tkS_f (by omega) (by assumption) | exact tkS_t (by omega) (by omega)
                        have eq35 : ((i + 1) : Int) = i + 1 := by first | rfl | omega | simp
                        exact ih73 (i + 1)  (by omega) (by omega) wc (by rw [show (ucS σ (σ 4 - rw9) r (i + 1) : Int → Int) = ucS σ (σ 4 - rw9) r i from by first | exact uc_f (by omega) (by assumption) | exact tk_f (by omega) (by assumption) | exact uc_t (by omega) | exact tk_t (by omega) (by omega)]; exact hA73_0) (by rw [show (tkA tk σ (σ 4 - rw9) r (i + 1) : Int → Int) = tkA tk σ (σ 4 - rw9) r i from by first | exact uc_f (by omega) (by assumption) | exact tk_f (by omega) (by assumption) | exact uc_t (by omega) | exact tk_t (by omega) (by omega)]; exact hA73_1) (fun q h09 h19 => by rw [hF73 q (by omega) (by omega)])  _ _ ls hW hS (by rw [eq34, eq35]; exact lv_sub hl [2, 0, 3, 4, 5] rfl)
                exact loop73 ((σ 0 - 0) + 1 : Int).toNat 0  (by omega) (by omega) wb hA60_0 hA60_1 (fun q _ _ => rfl)  _ _ ls hW hS (lv_sub hl [1, 0, 2, 3, 4] rfl)
          have eq36 : (sm (tkS σ (σ 4 - rw9) (σ 4 - rw9) 0) 0 7 : Int) = 0 := tkS_0 _ _
          exact loop60 ((σ 1 - (σ 4 - rw9)) + 1 : Int).toNat (σ 4 - rw9)  (by omega) (by omega) w8 (by rw [show (ucS σ (σ 4 - rw9) (σ 4 - rw9) 0 : Int → Int) = up σ 4 ((σ 4) - rw9) from by first | exact uc_0 _ _ | (rw [show j = 7 by omega]; exact tk_0 _ _ _)]; exact ho10) (by rw [show (tkA tk σ (σ 4 - rw9) (σ 4 - rw9) 0 : Int → Int) = flZ tk j 0 from by first | exact uc_0 _ _ | (rw [show j = 7 by omega]; exact tk_0 _ _ _)]; exact hA24_0) (fun q _ _ => rfl)  _ _ ls hW hS (by rw [eq36]; exact lv_sub hl [1, 0, 2, 3] rfl)
        · refine lv_aload_n F.1 F.2.1 dX9_unpicks_30 rfl (lv_at hl 2 rfl) ?_
          refine gf_RX9_32 F hW ho4 rfl dX9_unpicks_31 ?_
          refine lv_iload_n F.1 F.2.1 dX9_unpicks_34 rfl (lv_at hl 0 rfl) ?_
          refine h_iconst F dX9_unpicks_35 ?_
          refine h_iast F hW hS hA24_0 (by omega) (by omega) dX9_unpicks_36 (fun w37 H locs ho39 hn38 hW hS => ?_)
          have ho4 := (hn38 _ (by omega)).trans ho4
          have hs := (hn38 _ (by omega)).trans hs
          have ha5 := (hn38 _ (by omega)).trans ha5
          refine h_iinc (k := 0) (a := j) (lv' := [(3, .int (iI (j + 1))), (2, .int (iI 0)), (0, .ref mo), (1, .int (iI rw9))]) F dX9_unpicks_37 hl rfl (by decide) rfl (fun ls hl => ?_)
          refine h_goto (tgt := 24) F dX9_unpicks_40 (by decide) ?_
          have eq40 : ((j + 1) : Int) = j + 1 := by first | rfl | omega | simp
          exact ih24 (j + 1)  (by omega) (by omega) w37 (by rw [show (flZ tk (j + 1) 0 : Int → Int) = up (flZ tk j 0) j 0 from (up_fl _ (by omega) _).symm]; exact ho39) (fun q h09 => by rw [hn38 q (by omega), hF24 q (by omega)])  _ _ ls hW hS (by rw [eq40]; exact lv_sub hl [0, 1, 2, 3] rfl)
    exact loop24 ((7 - 0) + 1 : Int).toNat 0  (by omega) (by omega) w2 (by rw [show (flZ tk 0 0 : Int → Int) = tk from fl_0 _ _]; exact htk) (fun q _ => rfl)  _ _ ls hW hS (lv_sub hl [0, 1, 2, 3] rfl)
  · exfalso; omega
