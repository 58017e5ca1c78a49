/-- cells of a colour from a row on -/
def wvnS (σ : Int → Int) (lo co : Int) : Int := sm (wovR σ co) lo (σ 1)
/-- the stocks of the first i colours, with half of what comes out -/
def unpS (σ : Int → Int) (lo i : Int) : Int → Int := fun p => if 6 ≤ p ∧ p < 6 + i then min 9999 (σ p + wvnS σ lo (p - 6) / 2) else σ p
theorem unp_0 (σ : Int → Int) (lo : Int) : unpS σ lo 0 = σ := by
  funext p
  unfold unpS
  exact if_neg (by omega)
theorem unp_n {σ : Int → Int} {lo i p : Int} (h : p < 6 ∨ 6 + i ≤ p) : unpS σ lo i p = σ p := by
  unfold unpS
  exact if_neg (by omega)
theorem unp_p {σ : Int → Int} {lo i c : Int} (h : 0 ≤ c ∧ c < i) : unpS σ lo i (6 + c) = min 9999 (σ (6 + c) + wvnS σ lo c / 2) := by
  unfold unpS
  rw [if_pos (by omega), show 6 + c - 6 = c by omega]
theorem unp_wv {σ : Int → Int} {lo i co : Int} (hi : 0 ≤ i ∧ i ≤ 7) (hl : 0 ≤ lo) : sm (wovR (unpS σ lo i) co) lo (unpS σ lo i 1) = wvnS σ lo co := by
  rw [unp_n (by omega)]
  unfold wvnS
  refine sm_c (fun r r0 r1 => ?_)
  unfold wovR
  rw [unp_n (p := 0) (by omega)]
  refine cnt_c (fun c c0 c1 => ?_)
  unfold cellS
  rw [unp_n (by omega)]
theorem wvn_r {σ : Int → Int} (h : WF0 σ) {lo : Int} (hl : 0 ≤ lo ∧ lo ≤ σ 1) (co : Int) : 0 ≤ wvnS σ lo co ∧ wvnS σ lo co ≤ 1200 := by
  unfold WF0 at h
  have := sm_r (f := wovR σ co) (lo := lo) (hi := σ 1) (M := 40) (by decide) (fun i _ _ => by have := cnt_r (fun c => decide (cellS σ c i = co)) (lo := 0) (hi := σ 0) (by omega); unfold wovR; omega) hl.2
  unfold wvnS
  omega
theorem unp_WF {σ : Int → Int} (h : WF σ) {lo i : Int} (hi : 0 ≤ i ∧ i ≤ 7) (hl : 0 ≤ lo ∧ lo ≤ σ 1) : WF (unpS σ lo i) := by
  have w0 := h.1
  unfold WF0 at w0
  have hc : ∀ c r, 0 ≤ c → 0 ≤ r → cellS (unpS σ lo i) c r = cellS σ c r := fun c r c0 r0 => unp_n (by omega)
  refine h.up (fun p p0 p1 p2 => unp_n (by omega)) (by rw [unp_n (by omega)]; omega) (by rw [unp_n (by omega)]; omega) (by rw [unp_n (by omega)]; omega) (fun c c0 c1 => ?_) (fun c r c0 c1 r0 r1 => ?_) (fun c r c0 c1 r0 r1 => ?_)
  · have h1 := h.2.1 c c0 c1
    have h2 := wvn_r h.1 hl c
    by_cases g : c < i
    · rw [unp_p ⟨c0, g⟩]; omega
    · rw [unp_n (by omega)]; exact h1
  · rw [hc c r c0 r0]; exact h.2.2.2.1 c r c0 c1 r0 r1
  · rw [hc c r c0 r0]
    rw [unp_n (by omega)] at r1
    exact h.2.2.2.2.1 c r c0 c1 r0 r1
theorem unp_loom {X : Cx} {w w2 : Wo} {a : Nat} {σ t : Int → Int} {lo i : Int} (h : loomAt X w a (unpS σ lo i)) (hwf : WF σ) (hi : 0 ≤ i ∧ i < 7) (hl : 0 ≤ lo ∧ lo ≤ σ 1) (hte : ∀ c, 0 ≤ c → c < 7 → t c = unpS σ lo i (6 + c)) (ht : w2 (a + 5) = some (aZ X 7 (up t i (min 9999 (t i + wvnS σ lo i / 2))))) (hf : ∀ q : Nat, q ≠ a + 5 → w2 q = w q) : loomAt X w2 a (unpS σ lo (i + 1)) := by
  have hA := h.1
  obtain ⟨gr, h2, h3⟩ := hA.2.1
  obtain ⟨gp, h4⟩ := hA.2.2.1
  have hW := unp_WF hwf (lo := lo) (i := i + 1) (by omega) hl
  have hu : ∀ p, (p < 6 ∨ 13 ≤ p) → unpS σ lo (i + 1) p = unpS σ lo i p := fun p hp => (unp_n (by omega)).trans (unp_n (by omega)).symm
  have h8 := h.2.2.cap8
  have h81 := h8.1
  refine ⟨hA.up h8 ?_ ⟨gr, h2.mv (hf _ (by omega)) (hf _ (by omega)), fun c r c1 c2 c3 c4 => ?_⟩ ⟨gp, h4.mv (hf _ (by omega)) (hf _ (by omega))⟩ ⟨_, ht, fun c c0 c1 => ?_⟩ (fun q q0 q1 => hf q (by omega)) (fun k k0 k1 => ?_), h.2.1.up h8 (fun p p0 p1 p2 => hu p (by omega)) (hf _ (by omega)) (hf _ (by omega)), hW⟩
  · rw [hf a (by omega), hA.1]
    unfold lmF
    rw [hu 5 (by omega), hu 0 (by omega), hu 1 (by omega), hu 4 (by omega), hu 3 (by omega), hu 2 (by omega)]
  · rw [hu 0 (by omega)] at c2
    rw [hu 1 (by omega)] at c4
    exact (h3 c r c1 c2 c3 c4).trans (hu _ (by omega)).symm
  · by_cases g : c = i
    · subst g
      rw [up_s, hte c c0 c1, unp_n (by omega), unp_p (by omega)]
    · rw [up_n g, hte c c0 c1]
      by_cases g2 : c < i
      · rw [unp_p (by omega), unp_p (by omega)]
      · rw [unp_n (by omega), unp_n (by omega)]
  · rw [hu 5 (by omega)] at k1
    exact ⟨k1, fun j j0 j1 => hu _ (by omega)⟩
theorem clr_WF {σ : Int → Int} (h : WF σ) {lo : Int} (hl : 0 ≤ lo ∧ lo ≤ σ 4) : WF (clrS σ lo) := by
  have w0 := h.1
  unfold WF0 at w0
  refine h.up (fun p p0 p1 p2 => clr_lo p1 hl.1 (by omega) (by omega)) (by rw [clr_lo (by decide) hl.1 (by decide) (by decide)]; omega) (by rw [clr_3]; omega) (by rw [clr_4]; omega) (fun c c0 c1 => by rw [clr_lo (by omega) hl.1 (by omega) (by omega)]; exact h.2.1 c c0 c1) (fun c r c0 c1 r0 r1 => ?_) (fun c r c0 c1 r0 r1 => ?_)
  · rw [clr_cell (by omega)]
    have := h.2.2.2.1 c r c0 c1 r0 r1
    split <;> omega
  · rw [clr_4] at r1
    rw [clr_cell (by omega), if_neg (by omega)]
    exact h.2.2.2.2.1 c r c0 c1 r0 (by omega)
theorem clr_loom {X : Cx} {w w2 : Wo} {a : Nat} {σ : Int → Int} {lo : Int} (h : loomAt X w a σ) (hA : lmA X w2 a (clrS σ lo)) (hl : 0 ≤ lo ∧ lo ≤ σ 4) (h1 : w2 (a + 3) = w (a + 3)) (h2 : w2 (a + 4) = w (a + 4)) : loomAt X w2 a (clrS σ lo) :=
  ⟨hA, h.2.1.up h.2.2.cap8 (fun p p0 p1 p2 => clr_lo p1 hl.1 (by omega) (by omega)) h1 h2, clr_WF h.2.2 hl⟩
set_option maxHeartbeats 4000000 in
set_option maxRecDepth 100000 in
theorem c_doUnpick_r3 (l : Launch) (X : Cx) (w : Wo) (y : Nat) (su : Int) (ac : Int → Int) (σ : Int → Int) (nx sz : Int) (pas : Int → Int → Int) (rw9 : Int) (hY : clO X w y su) (hac : w (y + 305) = some (aZ X 9 ac)) (hL : loomAt X w (y + 1) σ) (hH : hisAt X w (y + 53) nx sz pas) (hrw : 0 ≤ rw9 ∧ rw9 ≤ 30) (hop : σ 4 < rw9) : CM l X yX8_doUnpick cX8_doUnpick 6 (some (.int)) (rmk 5 128) [.ref y, .int (iI rw9)] w (some (.int (iI (-3)))) (fun w' => w' (y + 305) = some (aZ X 9 (up ac 3 (ac 3 + 1))) ∧ ∀ q : Nat, q ≠ y + 305 → w' q = w q) := by
  refine CM.of (lv := [(0, .ref y), (1, .int (iI rw9))]) (by decide) (Nat.le_of_ble_eq_true rfl) rfl (fun p e s m below meth c ls F hr hlk hin hW hS hl => ?_)
  have hZ0 := hW.2.2
  have hB9 := hW.1.2
  clear hin
  unfold clO at hY
  have hO := hL.1.o
  have hA := hL.1
  have hwf := hL.2.2
  have hF := hwf.1
  unfold WF0 at hF
  refine lv_iload_n F.1 F.2.1 dX8_doUnpick_0 rfl (lv_at hl 1 rfl) ?_
  refine lv_aload_n F.1 F.2.1 dX8_doUnpick_1 rfl (lv_at hl 0 rfl) ?_
  refine gf_RX8_10 F hW hY rfl dX8_doUnpick_2 ?_
  refine gf_RX8_148 F hW hO rfl dX8_doUnpick_5 ?_
  refine h_icle (tgt := 17) F dX8_doUnpick_8 (by decide) (by omega) (fun c1 => ?_) (fun c1 => ?_)
  · exfalso; omega
  · refine lv_aload_n F.1 F.2.1 dX8_doUnpick_11 rfl (lv_at hl 0 rfl) ?_
    refine h_iconst F dX8_doUnpick_12 ?_
    refine cl_RX8_374 (As := [.int (iI 3)]) (rest := []) F hl (c_X8_refuse l X w y su ac 3 hY hac (by omega)) hW hS hY rfl rfl ⟨Nat.le_of_ble_eq_true rfl, Nat.le_of_ble_eq_true rfl⟩ (Nat.le_of_ble_eq_true rfl) ⟨Nat.zero_le _, Nat.zero_le _⟩ dX8_doUnpick_13 (fun w2 H locs hp3 hW hS => ?_)
    obtain ⟨ha4, hn5⟩ := hp3
    have hY := (hn5 _ (by omega)).trans hY
    have hO := (hn5 _ (by omega)).trans hO
    exact h_ireti F hr hlk hW hS ⟨ha4, (fun q h09 => by rw [hn5 q (by omega)])⟩ dX8_doUnpick_16
set_option maxHeartbeats 4000000 in
set_option maxRecDepth 100000 in
theorem c_X8_doUnpick (l : Launch) (X : Cx) (w : Wo) (y : Nat) (su : Int) (ac : Int → Int) (σ : Int → Int) (nx sz : Int) (pas : Int → Int → Int) (rw9 : Int) (hY : clO X w y su) (hac : w (y + 305) = some (aZ X 9 ac)) (hL : loomAt X w (y + 1) σ) (hH : hisAt X w (y + 53) nx sz pas) (hrw : 0 ≤ rw9 ∧ rw9 ≤ 30) (hop : rw9 ≤ σ 4) : CM l X yX8_doUnpick cX8_doUnpick 6 (some (.int)) (rmk 5 128) [.ref y, .int (iI rw9)] w (some (.int (iI (sm (wvnS σ (σ 4 - rw9)) 0 7)))) (fun w' => w' (y + 305) = some (aZ X 9 (up ac 0 (ac 0 + 1))) ∧ hisAt X w' (y + 53) ((if nx = 8 then 0 else nx) + 1) (min 8 (sz + 1)) (keepP sz pas σ) ∧ loomAt X w' (y + 1) (clrS (unpS σ (σ 4 - rw9) 7) (σ 4 - rw9)) ∧ ∀ q : Nat, q ≠ y + 305 → q ≠ y + 1 + 2 → q ≠ y + 1 + 5 → (q < y + 53 ∨ y + 255 ≤ q) → q ≠ y + 1 → w' q = w q) := by
  refine CM.of (lv := [(0, .ref y), (1, .int (iI rw9))]) (by decide) (Nat.le_of_ble_eq_true rfl) rfl (fun p e s m below meth c ls F hr hlk hin hW hS hl => ?_)
  have hZ0 := hW.2.2
  have hB9 := hW.1.2
  clear hin
  unfold clO at hY
  have hO := hL.1.o
  have hA := hL.1
  have hwf := hL.2.2
  have hF := hwf.1
  unfold WF0 at hF
  refine lv_iload_n F.1 F.2.1 dX8_doUnpick_0 rfl (lv_at hl 1 rfl) ?_
  refine lv_aload_n F.1 F.2.1 dX8_doUnpick_1 rfl (lv_at hl 0 rfl) ?_
  refine gf_RX8_10 F hW hY rfl dX8_doUnpick_2 ?_
  refine gf_RX8_148 F hW hO rfl dX8_doUnpick_5 ?_
  refine h_icle (tgt := 17) F dX8_doUnpick_8 (by decide) (by omega) (fun c1 => ?_) (fun c1 => ?_)
  · refine lv_aload_n F.1 F.2.1 dX8_doUnpick_17 rfl (lv_at hl 0 rfl) ?_
    refine cl_RX8_380 (As := []) (rest := []) F hl (c_X8_beginAct l X w y su ac σ nx sz pas hY hac hL hH) hW hS hY rfl rfl ⟨Nat.le_of_ble_eq_true rfl, Nat.le_of_ble_eq_true rfl⟩ (Nat.le_of_ble_eq_true rfl) ⟨Nat.zero_le _, Nat.zero_le _⟩ dX8_doUnpick_18 (fun w2 H locs hp3 hW hS => ?_)
    obtain ⟨ha4, hmB, hn5⟩ := hp3
    have hY := (hn5 _ (by omega) (by omega)).trans hY
    have hO := (hn5 _ (by omega) (by omega)).trans hO
    have hLb := hL.mv (w2 := w2) (fun q h1 h2 => hn5 q (by omega) (by omega))
    refine lv_aload_n F.1 F.2.1 dX8_doUnpick_21 rfl (lv_at hl 0 rfl) ?_
    refine gf_RX8_10 F hW hY rfl dX8_doUnpick_22 ?_
    refine gf_RX8_148 F hW hO rfl dX8_doUnpick_25 ?_
    refine lv_iload_n F.1 F.2.1 dX8_doUnpick_28 rfl (lv_at hl 1 rfl) ?_
    refine h_isub (a := σ 4) (b := rw9) F dX8_doUnpick_29 ?_
    refine lv_istore_n (lv' := [(2, .int (iI ((σ 4) - rw9))), (0, .ref y), (1, .int (iI rw9))]) F.1 F.2.1 dX8_doUnpick_30 rfl hl (by decide) rfl (fun ls hl => ?_)
    refine h_iconst F dX8_doUnpick_31 ?_
    refine lv_istore_n (lv' := [(3, .int (iI 0)), (2, .int (iI ((σ 4) - rw9))), (0, .ref y), (1, .int (iI rw9))]) F.1 F.2.1 dX8_doUnpick_32 rfl hl (by decide) rfl (fun ls hl => ?_)
    refine h_iconst F dX8_doUnpick_33 ?_
    refine lv_istore (lv' := [(4, .int (iI 0)), (3, .int (iI 0)), (2, .int (iI ((σ 4) - rw9))), (0, .ref y), (1, .int (iI rw9))]) F.1 F.2.1 dX8_doUnpick_34 hl (by decide) rfl (fun ls hl => ?_)
    have loop36 : ∀ (n9 : Nat) (i : Int), (hrg : 0 ≤ i ∧ i ≤ 7) → (hms : 7 - i < (n9 : Int)) → (w9 : Wo) → (hF36 : ∀ q : Nat, q ≠ y + 1 + 5 → w9 q = w2 q) → (hL9 : loomAt X w9 (y + 1) (unpS σ (σ 4 - rw9) i)) → (H : Heap) → (locs : List Loc) → (ls : Array Slot) → Wd X w9 s H → va_S (cxA X) s.heap H locs → lv_has ls 6 [(3, .int (iI (sm (wvnS σ (σ 4 - rw9)) 0 i))), (4, .int (iI i)), (2, .int (iI ((σ 4) - rw9))), (0, .ref y), (1, .int (iI rw9))] → W p l e (rmk 5 128) s m (List.toArray [.ref y, .int (iI rw9)]) below meth c H locs 0 0 (MX X below (List.toArray [.ref y, .int (iI rw9)]) s 0 0 (some (.int (iI (sm (wvnS σ (σ 4 - rw9)) 0 7)))) (fun w' => w' (y + 305) = some (aZ X 9 (up ac 0 (ac 0 + 1))) ∧ hisAt X w' (y + 53) ((if nx = 8 then 0 else nx) + 1) (min 8 (sz + 1)) (keepP sz pas σ) ∧ loomAt X w' (y + 1) (clrS (unpS σ (σ 4 - rw9) 7) (σ 4 - rw9)) ∧ ∀ q : Nat, q ≠ y + 305 → q ≠ y + 1 + 2 → q ≠ y + 1 + 5 → (q < y + 53 ∨ y + 255 ≤ q) → q ≠ y + 1 → w' q = w q)) (F0 m 36 ls []) := by
      intro n9
      induction n9 with
      | zero => intro i  hrg hms; exfalso; omega
      | succ n9 ih36 =>
        intro i  hrg hms w9 hF36 hL9 H locs ls hW hS hl
        have hY := (hF36 _ (by omega)).trans hY
        have hO := (hF36 _ (by omega)).trans hO
        have ha4 := (hF36 _ (by omega)).trans ha4
        obtain ⟨τ, hτ⟩ : ∃ τ, τ = unpS σ (σ 4 - rw9) i := ⟨_, rfl⟩
        rw [← hτ] at hL9
        have hwt := hL9.2.2
        have hlo := fun p (h2 : p < 6 ∨ 13 ≤ p) => unp_n (σ := σ) (lo := σ 4 - rw9) (i := i) (p := p) (by omega)
        rw [← hτ] at hlo
        have ht0 := hlo 0 (by decide)
        have ht1 := hlo 1 (by decide)
        have ht4 := hlo 4 (by decide)
        have ht3 := hlo 3 (by decide)
        have hA := hL9.1
        have hOt := hA.o
        refine lv_iload F.1 F.2.1 dX8_doUnpick_36 (lv_at hl 1 rfl) ?_
        refine h_bipush F dX8_doUnpick_38 rfl ?_
        refine h_icge (tgt := 105) F dX8_doUnpick_40 (by decide) (by omega) (fun c6 => ?_) (fun c6 => ?_)
        · refine lv_aload_n F.1 F.2.1 dX8_doUnpick_105 rfl (lv_at hl 3 rfl) ?_
          refine gf_RX8_10 F hW hY rfl dX8_doUnpick_106 ?_
          refine lv_iload_n F.1 F.2.1 dX8_doUnpick_109 rfl (lv_at hl 2 rfl) ?_
          refine cl_RX8_483 (As := [.int (iI ((σ 4) - rw9))]) (rest := []) F hl (c_X5_clearFrom l X w9 (y + 1) τ ((σ 4) - rw9) hA hwt.cap8 (by omega) (by omega)) hW hS hOt rfl rfl ⟨Nat.le_of_ble_eq_true rfl, Nat.le_of_ble_eq_true rfl⟩ (Nat.le_of_ble_eq_true rfl) ⟨Nat.zero_le _, Nat.zero_le _⟩ dX8_doUnpick_110 (fun w7 H locs hp8 hW hS => ?_)
          obtain ⟨hcl, hn9⟩ := hp8
          have hY := (hn9 _ (by omega) (by omega)).trans hY
          have ha4 := (hn9 _ (by omega) (by omega)).trans ha4
          refine lv_iload_n F.1 F.2.1 dX8_doUnpick_113 rfl (lv_at hl 0 rfl) ?_
          refine h_top (show (sm (wvnS σ (σ 4 - rw9)) 0 i : Int) = sm (wvnS σ (σ 4 - rw9)) 0 7 from by rw [show i = 7 by omega]) ?_
          exact h_ireti F hr hlk hW hS ⟨ha4, hmB.mv (fun q h1 h2 => (hn9 q (by omega) (by omega)).trans (hF36 q (by omega))), (by rw [show unpS σ (σ 4 - rw9) 7 = τ by rw [hτ, show i = 7 by omega]]; exact clr_loom hL9 hcl (by omega) (hn9 _ (by omega) (by omega)) (hn9 _ (by omega) (by omega))), (fun q h09 h19 h29 h39 h49 => by rw [hn9 q (by omega) (by omega), hF36 q (by omega), hn5 q (by omega) (by omega)])⟩ dX8_doUnpick_114
        · obtain ⟨t, htt, hte⟩ := hA.2.2.2.1
          refine lv_aload_n F.1 F.2.1 dX8_doUnpick_43 rfl (lv_at hl 3 rfl) ?_
          refine gf_RX8_10 F hW hY rfl dX8_doUnpick_44 ?_
          refine lv_iload F.1 F.2.1 dX8_doUnpick_47 (lv_at hl 1 rfl) ?_
          refine lv_iload_n F.1 F.2.1 dX8_doUnpick_49 rfl (lv_at hl 2 rfl) ?_
          refine lv_aload_n F.1 F.2.1 dX8_doUnpick_50 rfl (lv_at hl 3 rfl) ?_
          refine gf_RX8_10 F hW hY rfl dX8_doUnpick_51 ?_
          refine gf_RX8_145 F hW hOt rfl dX8_doUnpick_54 ?_
          refine cl_RX8_251 (As := [.int (iI i), .int (iI ((σ 4) - rw9)), .int (iI (τ 1))]) (rest := []) F hl (c_X5_wovenCells l X w9 (y + 1) τ i ((σ 4) - rw9) (τ 1) hA hwt (by omega) (by omega)) hW hS hOt rfl rfl ⟨Nat.le_of_ble_eq_true rfl, Nat.le_of_ble_eq_true rfl⟩ (Nat.le_of_ble_eq_true rfl) ⟨Nat.zero_le _, Nat.zero_le _⟩ dX8_doUnpick_57 (fun w1 H locs hp10 hW hS => ?_)
          rw [hp10] at hW; clear hp10; clear w1
          refine h_top (show (sm (wovR τ i) ((σ 4) - rw9) (τ 1) : Int) = wvnS σ (σ 4 - rw9) i from by rw [hτ]; exact unp_wv (by omega) (by omega)) ?_
          refine lv_istore (lv' := [(5, .int (iI (wvnS σ (σ 4 - rw9) i))), (3, .int (iI (sm (wvnS σ (σ 4 - rw9)) 0 i))), (4, .int (iI i)), (2, .int (iI ((σ 4) - rw9))), (0, .ref y), (1, .int (iI rw9))]) F.1 F.2.1 dX8_doUnpick_60 hl (by decide) rfl (fun ls hl => ?_)
          have hwr := wvn_r hwf.1 (lo := σ 4 - rw9) (by omega) i
          have hti := hte i (by omega) (by omega)
          have hts := hwt.2.1 i (by omega) (by omega)
          refine lv_aload_n F.1 F.2.1 dX8_doUnpick_62 rfl (lv_at hl 4 rfl) ?_
          refine gf_RX8_10 F hW hY rfl dX8_doUnpick_63 ?_
          refine gf_RX8_394 F hW hOt rfl dX8_doUnpick_66 ?_
          refine lv_iload F.1 F.2.1 dX8_doUnpick_69 (lv_at hl 2 rfl) ?_
          refine h_sipush F dX8_doUnpick_71 rfl ?_
          refine lv_aload_n F.1 F.2.1 dX8_doUnpick_74 rfl (lv_at hl 4 rfl) ?_
          refine gf_RX8_10 F hW hY rfl dX8_doUnpick_75 ?_
          refine lv_iload F.1 F.2.1 dX8_doUnpick_78 (lv_at hl 2 rfl) ?_
          refine cl_RX8_248 (As := [.int (iI i)]) (rest := [.int (iI 9999), .int (iI i), .ref (y + 1 + 5)]) F hl (c_stock0 l X w9 (y + 1) (τ 5) (τ 0) (τ 1) (τ 4) (τ 3) (τ 2) t i hOt htt (by omega)) hW hS hOt rfl rfl ⟨Nat.le_of_ble_eq_true rfl, Nat.le_of_ble_eq_true rfl⟩ (Nat.le_of_ble_eq_true rfl) ⟨Nat.zero_le _, Nat.zero_le _⟩ dX8_doUnpick_80 (fun w1 H locs hp11 hW hS => ?_)
          rw [hp11] at hW; clear hp11; clear w1
          refine lv_iload F.1 F.2.1 dX8_doUnpick_83 (lv_at hl 0 rfl) ?_
          refine h_iconst F dX8_doUnpick_85 ?_
          refine h_idiv F dX8_doUnpick_86 (by omega) ?_
          refine h_iadd (a := t i) (b := (wvnS σ (σ 4 - rw9) i) / 2) F dX8_doUnpick_87 ?_
          refine h_mmin (index := 315) (a := 9999) (b := (t i) + ((wvnS σ (σ 4 - rw9) i) / 2)) F hl km_RX8_315 (Nat.le_of_ble_eq_true rfl) (Nat.le_of_ble_eq_true rfl) (Nat.zero_le _) (Nat.zero_le _) (by omega) dX8_doUnpick_88 ?_
          refine cl_RX8_397 (As := [.ref (y + 1 + 5), .int (iI i), .int (iI (min 9999 ((t i) + ((wvnS σ (σ 4 - rw9) i) / 2))))]) (rest := []) F hl (c_X8_put l X w9 (y + 1 + 5) 7 t i (min 9999 ((t i) + ((wvnS σ (σ 4 - rw9) i) / 2))) htt (by omega) (by omega)) hW hS rfl rfl ⟨Nat.le_of_ble_eq_true rfl, Nat.le_of_ble_eq_true rfl⟩ (Nat.le_of_ble_eq_true rfl) ⟨Nat.zero_le _, Nat.zero_le _⟩ dX8_doUnpick_91 (fun w12 H locs hp13 hW hS => ?_)
          obtain ⟨ha14, hn15⟩ := hp13
          have hY := (hn15 _ (by omega)).trans hY
          have hOt := (hn15 _ (by omega)).trans hOt
          have ha4 := (hn15 _ (by omega)).trans ha4
          have hL8 : loomAt X w12 (y + 1) (unpS σ (σ 4 - rw9) (i + 1)) := unp_loom (w := w9) (t := t) (by rw [← hτ]; exact hL9) hwf (by omega) (by omega) (by rw [← hτ]; exact hte) ha14 (fun q h1 => hn15 q h1)
          refine lv_iload_n F.1 F.2.1 dX8_doUnpick_94 rfl (lv_at hl 1 rfl) ?_
          refine lv_iload F.1 F.2.1 dX8_doUnpick_95 (lv_at hl 0 rfl) ?_
          refine h_iadd (a := sm (wvnS σ (σ 4 - rw9)) 0 i) (b := wvnS σ (σ 4 - rw9) i) F dX8_doUnpick_97 ?_
          refine lv_istore_n (lv' := [(3, .int (iI ((sm (wvnS σ (σ 4 - rw9)) 0 i) + (wvnS σ (σ 4 - rw9) i)))), (5, .int (iI (wvnS σ (σ 4 - rw9) i))), (4, .int (iI i)), (2, .int (iI ((σ 4) - rw9))), (0, .ref y), (1, .int (iI rw9))]) F.1 F.2.1 dX8_doUnpick_98 rfl hl (by decide) rfl (fun ls hl => ?_)
          refine h_iinc (k := 2) (a := i) (lv' := [(4, .int (iI (i + 1))), (3, .int (iI ((sm (wvnS σ (σ 4 - rw9)) 0 i) + (wvnS σ (σ 4 - rw9) i)))), (5, .int (iI (wvnS σ (σ 4 - rw9) i))), (2, .int (iI ((σ 4) - rw9))), (0, .ref y), (1, .int (iI rw9))]) F dX8_doUnpick_99 hl rfl (by decide) rfl (fun ls hl => ?_)
          refine h_goto (tgt := 36) F dX8_doUnpick_102 (by decide) ?_
          have eq16 : (sm (wvnS σ (σ 4 - rw9)) 0 (i + 1) : Int) = (sm (wvnS σ (σ 4 - rw9)) 0 i) + (wvnS σ (σ 4 - rw9) i) := sm_s _ (by omega)
          have eq17 : ((i + 1) : Int) = i + 1 := by first | rfl | omega | simp
          exact ih36 (i + 1)  (by omega) (by omega) w12 (fun q h09 => by rw [hn15 q (by omega), hF36 q (by omega)]) hL8 _ _ ls hW hS (by rw [eq16, eq17]; exact lv_sub hl [1, 0, 3, 4, 5] rfl)
    have eq18 : (sm (wvnS σ (σ 4 - rw9)) 0 0 : Int) = 0 := sm_0 _ _
    exact loop36 ((7 - 0) + 1 : Int).toNat 0  (by omega) (by omega) w2 (fun q _ => rfl) (by rw [unp_0]; exact hLb) _ _ ls hW hS (by rw [eq18]; exact lv_sub hl [1, 0, 2, 3, 4] rfl)
  · exfalso; omega
