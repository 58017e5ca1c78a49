/-! ===== the class's own cells: the object at y, all behind it ===== -/
def clO (X : Cx) (w : Wo) (y : Nat) (su : Int) : Prop := w y = some (.inr (8, [.ref (y + 1), .ref (y + 26), .ref (y + 51), .ref (y + 53), .ref (y + 255), .ref (y + 280), .int (iI su), .ref (y + 305), .ref (y + 306), .ref (y + 307), .ref (y + 309), .ref (y + 311), .ref (y + 312), .ref (y + 315)]))
theorem lmA_fld {X : Cx} {w w2 : Wo} {a : Nat} {σ : Int → Int} (h : lmA X w a σ) (h8 : cap8 σ) (f x : Int) (hf : f = 2 ∨ f = 3 ∨ f = 4) (ho : w2 a = some (.inr (5, lmF (up σ f x) a))) (hfr : ∀ q : Nat, q ≠ a → w2 q = w q) : lmA X w2 a (up σ f x) := by
  obtain ⟨gr, h2, h3⟩ := h.2.1
  obtain ⟨gp, h4⟩ := h.2.2.1
  obtain ⟨t, h5, h6⟩ := h.2.2.2.1
  have hu : ∀ p, p ≠ f → up σ f x p = σ p := fun p hp => up_n hp
  have h81 := h8.1
  refine h.up h8 ho ⟨gr, h2.mv (hfr _ (by omega)) (hfr _ (by omega)), fun c r c1 c2 c3 c4 => ?_⟩ ⟨gp, h4.mv (hfr _ (by omega)) (hfr _ (by omega))⟩ ⟨t, (hfr _ (by omega)).trans h5, fun c c1 c2 => (h6 c c1 c2).trans (hu _ (by omega)).symm⟩ (fun q q0 q1 => hfr q (by omega)) (fun k k0 k1 => ?_)
  · rw [hu 0 (by omega)] at c2
    rw [hu 1 (by omega)] at c4
    exact (h3 c r c1 c2 c3 c4).trans (hu _ (by omega)).symm
  · rw [hu 5 (by omega)] at k1
    exact ⟨k1, fun j j0 j1 => hu _ (by omega)⟩
theorem loomAt_fld {X : Cx} {w w2 : Wo} {a : Nat} {σ : Int → Int} (h : loomAt X w a σ) (f x : Int) (hf : f = 2 ∨ f = 3 ∨ f = 4) (ho : w2 a = some (.inr (5, lmF (up σ f x) a))) (hfr : ∀ q : Nat, q ≠ a → w2 q = w q) (hW : WF (up σ f x)) : loomAt X w2 a (up σ f x) :=
  ⟨lmA_fld h.1 h.2.2.cap8 f x hf ho hfr, h.2.1.up h.2.2.cap8 (fun p p0 p1 p2 => up_n (by omega)) (hfr _ (by omega)) (hfr _ (by omega)), hW⟩
theorem WF_fld {σ : Int → Int} (h : WF σ) (f x : Int) (hf : f = 2 ∧ (0 ≤ x ∧ x ≤ 30) ∨ f = 3 ∧ (0 ≤ x ∧ x ≤ 30) ∨ f = 4 ∧ (0 ≤ x ∧ x ≤ σ 1)) (hc : f = 4 → ∀ c r, 0 ≤ c → c < σ 0 → 0 ≤ r → r < x → 0 ≤ cellS σ c r) : WF (up σ f x) := by
  have w0 := h.1
  unfold WF0 at w0
  have hu : ∀ p, p ≠ f → up σ f x p = σ p := fun p hp => up_n hp
  have hcl : ∀ c r, 0 ≤ c → 0 ≤ r → cellS (up σ f x) c r = cellS σ c r := fun c r c0 r0 => hu _ (by omega)
  refine h.up (fun p p0 p1 p2 => hu p (by omega)) ?_ ?_ ?_ (fun c c0 c1 => ?_) (fun c r c0 c1 r0 r1 => ?_) (fun c r c0 c1 r0 r1 => ?_)
  · unfold up; split <;> omega
  · unfold up; split <;> omega
  · unfold up; split <;> omega
  · rw [hu _ (by omega)]; exact h.2.1 c c0 c1
  · rw [hcl c r c0 r0]; exact h.2.2.2.1 c r c0 c1 r0 r1
  · rw [hcl c r c0 r0]
    by_cases g : f = 4
    · subst g
      exact hc rfl c r c0 c1 r0 (by have e : up σ 4 x 4 = x := up_s _ _ _; omega)
    · rw [hu 4 (by omega)] at r1
      exact h.2.2.2.2.1 c r c0 c1 r0 r1
set_option maxHeartbeats 4000000 in
set_option maxRecDepth 100000 in
theorem c_X8_refuse (l : Launch) (X : Cx) (w : Wo) (y : Nat) (su : Int) (ac : Int → Int) (r : Int) (hY : clO X w y su) (hac : w (y + 305) = some (aZ X 9 ac)) (hrr : 0 ≤ r ∧ r < 9) : CM l X yX8_refuse cX8_refuse 2 (some (.int)) (rmk 1 22) [.ref y, .int (iI r)] w (some (.int (iI (-r)))) (fun w' => w' (y + 305) = some (aZ X 9 (up ac r (ac r + 1))) ∧ ∀ q : Nat, q ≠ y + 305 → w' q = w q) := by
  refine CM.of (lv := [(0, .ref y), (1, .int (iI r))]) (by decide) (Nat.le_of_ble_eq_true rfl) rfl (fun p e s m below meth c ls F hr hlk hin hW hS hl => ?_)
  have hZ0 := hW.2.2
  have hB9 := hW.1.2
  clear hin
  unfold clO at hY
  refine lv_aload_n F.1 F.2.1 dX8_refuse_0 rfl (lv_at hl 0 rfl) ?_
  refine gf_RX8_39 F hW hY rfl dX8_refuse_1 ?_
  refine lv_iload_n F.1 F.2.1 dX8_refuse_4 rfl (lv_at hl 1 rfl) ?_
  refine lv_aload_n F.1 F.2.1 dX8_refuse_5 rfl (lv_at hl 0 rfl) ?_
  refine gf_RX8_39 F hW hY rfl dX8_refuse_6 ?_
  refine lv_iload_n F.1 F.2.1 dX8_refuse_9 rfl (lv_at hl 1 rfl) ?_
  refine cl_RX8_295 (As := [.ref (y + 305), .int (iI r)]) (rest := [.int (iI r), .ref (y + 305)]) F hl (c_X8_at l X w (y + 305) 9 ac r hac (by omega) (by omega)) hW hS rfl rfl ⟨Nat.le_of_ble_eq_true rfl, Nat.le_of_ble_eq_true rfl⟩ (Nat.le_of_ble_eq_true rfl) ⟨Nat.zero_le _, Nat.zero_le _⟩ dX8_refuse_10 (fun w1 H locs hp1 hW hS => ?_)
  rw [hp1] at hW; clear hp1; clear w1
  refine h_iconst F dX8_refuse_13 ?_
  refine h_iadd (a := ac r) (b := 1) F dX8_refuse_14 ?_
  refine cl_RX8_397 (As := [.ref (y + 305), .int (iI r), .int (iI ((ac r) + 1))]) (rest := []) F hl (c_X8_put l X w (y + 305) 9 ac r ((ac r) + 1) hac (by omega) (by omega)) hW hS rfl rfl ⟨Nat.le_of_ble_eq_true rfl, Nat.le_of_ble_eq_true rfl⟩ (Nat.le_of_ble_eq_true rfl) ⟨Nat.zero_le _, Nat.zero_le _⟩ dX8_refuse_15 (fun w2 H locs hp3 hW hS => ?_)
  obtain ⟨ha4, hn5⟩ := hp3
  have hY := (hn5 _ (by omega)).trans hY
  refine lv_iload_n F.1 F.2.1 dX8_refuse_18 rfl (lv_at hl 1 rfl) ?_
  refine h_ineg F dX8_refuse_19 ?_
  exact h_ireti F hr hlk hW hS ⟨(by rw [ha4]; done), (fun q h09 => by rw [hn5 q (by omega)])⟩ dX8_refuse_20
set_option maxHeartbeats 4000000 in
set_option maxRecDepth 100000 in
theorem c_X8_beginAct (l : Launch) (X : Cx) (w : Wo) (y : Nat) (su : Int) (ac : Int → Int) (σ : Int → Int) (nx sz : Int) (pas : Int → Int → Int) (hY : clO X w y su) (hac : w (y + 305) = some (aZ X 9 ac)) (hL : loomAt X w (y + 1) σ) (hH : hisAt X w (y + 53) nx sz pas) : CM l X yX8_beginAct cX8_beginAct 1 none (rmk 4 108) [.ref y] w none (fun w' => w' (y + 305) = some (aZ X 9 (up ac 0 (ac 0 + 1))) ∧ hisAt X w' (y + 53) ((if nx = 8 then 0 else nx) + 1) (min 8 (sz + 1)) (keepP sz pas σ) ∧ ∀ q : Nat, q ≠ y + 305 → (q < y + 53 ∨ y + 255 ≤ q) → w' q = w q) := by
  refine CM.of (lv := [(0, .ref y)]) (by decide) (Nat.le_of_ble_eq_true rfl) rfl (fun p e s m below meth c ls F hr hlk hin hW hS hl => ?_)
  have hZ0 := hW.2.2
  have hB9 := hW.1.2
  clear hin
  unfold clO at hY
  have hHo := hH.1
  refine lv_aload_n F.1 F.2.1 dX8_beginAct_0 rfl (lv_at hl 0 rfl) ?_
  refine gf_RX8_39 F hW hY rfl dX8_beginAct_1 ?_
  refine h_iconst F dX8_beginAct_4 ?_
  refine lv_aload_n F.1 F.2.1 dX8_beginAct_5 rfl (lv_at hl 0 rfl) ?_
  refine gf_RX8_39 F hW hY rfl dX8_beginAct_6 ?_
  refine h_iconst F dX8_beginAct_9 ?_
  refine cl_RX8_295 (As := [.ref (y + 305), .int (iI 0)]) (rest := [.int (iI 0), .ref (y + 305)]) F hl (c_X8_at l X w (y + 305) 9 ac 0 hac (by omega) (by omega)) hW hS rfl rfl ⟨Nat.le_of_ble_eq_true rfl, Nat.le_of_ble_eq_true rfl⟩ (Nat.le_of_ble_eq_true rfl) ⟨Nat.zero_le _, Nat.zero_le _⟩ dX8_beginAct_10 (fun w1 H locs hp1 hW hS => ?_)
  rw [hp1] at hW; clear hp1; clear w1
  refine h_iconst F dX8_beginAct_13 ?_
  refine h_iadd (a := ac 0) (b := 1) F dX8_beginAct_14 ?_
  refine cl_RX8_397 (As := [.ref (y + 305), .int (iI 0), .int (iI ((ac 0) + 1))]) (rest := []) F hl (c_X8_put l X w (y + 305) 9 ac 0 ((ac 0) + 1) hac (by omega) (by omega)) hW hS rfl rfl ⟨Nat.le_of_ble_eq_true rfl, Nat.le_of_ble_eq_true rfl⟩ (Nat.le_of_ble_eq_true rfl) ⟨Nat.zero_le _, Nat.zero_le _⟩ dX8_beginAct_15 (fun w2 H locs hp3 hW hS => ?_)
  obtain ⟨ha4, hn5⟩ := hp3
  have hY := (hn5 _ (by omega)).trans hY
  have hHo := (hn5 _ (by omega)).trans hHo
  refine lv_aload_n F.1 F.2.1 dX8_beginAct_18 rfl (lv_at hl 0 rfl) ?_
  refine gf_RX8_29 F hW hY rfl dX8_beginAct_19 ?_
  refine lv_aload_n F.1 F.2.1 dX8_beginAct_22 rfl (lv_at hl 0 rfl) ?_
  refine gf_RX8_10 F hW hY rfl dX8_beginAct_23 ?_
  have hL9 := hL.mv (w2 := w2) (fun q h1 h2 => hn5 q (by omega))
  have hH9 := hH.mv (w2 := w2) (fun q h1 h2 => hn5 q (by omega))
  refine cl_RX8_457 (As := [.ref (y + 1)]) (rest := []) F hl (c_X4_keep l X w2 (y + 53) nx sz pas (y + 1) σ hH9 hL9 (by omega)) hW hS hHo rfl rfl ⟨Nat.le_of_ble_eq_true rfl, Nat.le_of_ble_eq_true rfl⟩ (Nat.le_of_ble_eq_true rfl) ⟨Nat.zero_le _, Nat.zero_le _⟩ dX8_beginAct_26 (fun w6 H locs hp7 hW hS => ?_)
  obtain ⟨hm9, hn8⟩ := hp7
  have hY := (hn8 _ (by omega)).trans hY
  have ha4 := (hn8 _ (by omega)).trans ha4
  exact h_vret F hr hlk hW hS ⟨(by rw [ha4]; done), hm9, (fun q h09 h19 => by rw [hn8 q (by omega), hn5 q (by omega)])⟩ dX8_beginAct_29
set_option maxHeartbeats 4000000 in
set_option maxRecDepth 100000 in
theorem c_X8_reasonAgainstBox (l : Launch) (X : Cx) (w : Wo) (y : Nat) (su : Int) (σ : Int → Int) (n sd x y0 co : Int) (f : Int → Int) (bu : Int) (hY : clO X w y su) (hL : loomAt X w (y + 1) σ) (hv : capV X w (y + 51) n sd x y0 co f) (hn : 1 ≤ n ∧ n ≤ 8) (hsd : sd = 0 ∨ sd = 1) (hx : -2147483648 ≤ x ∧ x < 2147483648) (hy : -2147483648 ≤ y0 ∧ y0 < 2147483648) (hb : -1 ≤ bu ∧ bu ≤ 8) : CM l X yX8_reasonAgainstBox cX8_reasonAgainstBox 2 (some (.int)) (rmk 3 66) [.ref y, .int (iI bu)] w (some (.int (iI (whyS σ n sd x y0 bu)))) (fun w' => w' = w) := by
  refine CM.of (lv := [(0, .ref y), (1, .int (iI bu))]) (by decide) (Nat.le_of_ble_eq_true rfl) rfl (fun p e s m below meth c ls F hr hlk hin hW hS hl => ?_)
  have hZ0 := hW.2.2
  have hB9 := hW.1.2
  clear hin
  unfold clO at hY
  have hO := hL.1.o
  have hA := hL.1
  have hwf := hL.2.2
  have hF := hwf.1
  unfold WF0 at hF
  refine lv_aload_n F.1 F.2.1 dX8_reasonAgainstBox_0 rfl (lv_at hl 0 rfl) ?_
  refine gf_RX8_10 F hW hY rfl dX8_reasonAgainstBox_1 ?_
  refine lv_aload_n F.1 F.2.1 dX8_reasonAgainstBox_4 rfl (lv_at hl 0 rfl) ?_
  refine gf_RX8_22 F hW hY rfl dX8_reasonAgainstBox_5 ?_
  refine cl_RX8_335 (As := [.ref (y + 51)]) (rest := []) F hl (c_X5_holds l X w (y + 1) σ (y + 51) n sd x y0 co f hA hwf hv (by omega) (by omega) (by omega)) hW hS hO rfl rfl ⟨Nat.le_of_ble_eq_true rfl, Nat.le_of_ble_eq_true rfl⟩ (Nat.le_of_ble_eq_true rfl) ⟨Nat.zero_le _, Nat.zero_le _⟩ dX8_reasonAgainstBox_8 (fun w1 H locs hp1 hW hS => ?_)
  rw [hp1] at hW; clear hp1; clear w1
  refine h_ifneb (tgt := 16) F dX8_reasonAgainstBox_11 (by decide) (fun c2 => ?_) (fun c2 => ?_)
  · have hli := c2
    unfold liesS at hli
    have hli := of_decide_eq_true hli
    refine lv_aload_n F.1 F.2.1 dX8_reasonAgainstBox_16 rfl (lv_at hl 0 rfl) ?_
    refine gf_RX8_10 F hW hY rfl dX8_reasonAgainstBox_17 ?_
    refine lv_aload_n F.1 F.2.1 dX8_reasonAgainstBox_20 rfl (lv_at hl 0 rfl) ?_
    refine gf_RX8_22 F hW hY rfl dX8_reasonAgainstBox_21 ?_
    refine lv_iload_n F.1 F.2.1 dX8_reasonAgainstBox_24 rfl (lv_at hl 1 rfl) ?_
    refine cl_RX8_338 (As := [.ref (y + 51), .int (iI bu)]) (rest := []) F hl (c_X5_isFree l X w (y + 1) σ (y + 51) n sd x y0 co f bu hA hwf hv (by omega) (by omega) (by omega) (by omega) (by omega)) hW hS hO rfl rfl ⟨Nat.le_of_ble_eq_true rfl, Nat.le_of_ble_eq_true rfl⟩ (Nat.le_of_ble_eq_true rfl) ⟨Nat.zero_le _, Nat.zero_le _⟩ dX8_reasonAgainstBox_25 (fun w1 H locs hp3 hW hS => ?_)
    rw [hp3] at hW; clear hp3; clear w1
    refine h_ifeqb (tgt := 35) F dX8_reasonAgainstBox_28 (by decide) (fun c4 => ?_) (fun c4 => ?_)
    · refine h_bipush F dX8_reasonAgainstBox_35 rfl ?_
      refine h_top (show (6 : Int) = whyS σ n sd x y0 bu from by unfold whyS; cases hm : meetS σ n sd x y0 bu <;> simp_all) ?_
      exact h_ireti F hr hlk hW hS rfl dX8_reasonAgainstBox_37
    · refine h_iconst F dX8_reasonAgainstBox_31 ?_
      refine h_goto (tgt := 37) F dX8_reasonAgainstBox_32 (by decide) ?_
      refine h_top (show (0 : Int) = whyS σ n sd x y0 bu from by unfold whyS; cases hm : meetS σ n sd x y0 bu <;> simp_all) ?_
      exact h_ireti F hr hlk hW hS rfl dX8_reasonAgainstBox_37
  · refine h_iconst F dX8_reasonAgainstBox_14 ?_
    refine h_top (show (5 : Int) = whyS σ n sd x y0 bu from by unfold whyS; first | (rw [if_pos ‹_›]) | (rw [if_neg (by simp_all), if_pos (by simp_all)]) | (rw [if_neg (by simp_all), if_neg (by simp_all)])) ?_
    exact h_ireti F hr hlk hW hS rfl dX8_reasonAgainstBox_15
