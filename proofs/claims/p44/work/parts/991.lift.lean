/-! ===== the class's reader, told by the reference's numbers ===== -/
def cR (f : Int → Int) (N : Int) (v : Int → Int) (num : Int) : Int → Int := fun k => if k = 1 then kdT f N (v 15) else if k = 2 then v 15 else if k = 3 then enT f N (v 15) else if k = 4 then vaT 100000 f N (v 15) else if k = 5 then num else if k = 6 then v 18 else v 19
def nuS (lo hi : Int) (v : Int → Int) (num : Int) : Int := if seV lo hi v 18 = 0 then seR lo hi v else num
theorem cR_T {f v : Int → Int} {num : Int} (h : vP f v) : rTok f (v 11) (cR f (v 11) v num) := ⟨h.1.1, h.1.2.1, v 15, h.1.r.1, rfl, rfl, rfl, rfl⟩
theorem rL_eq {b : Nat} {V W : Int → Int} (h : ∀ k, 1 ≤ k → k ≤ 7 → V k = W k) : rL b V = rL b W := by
  unfold rL
  rw [h 1 (by decide) (by decide), h 2 (by decide) (by decide), h 3 (by decide) (by decide), h 4 (by decide) (by decide), h 5 (by decide) (by decide), h 6 (by decide) (by decide), h 7 (by decide) (by decide)]
theorem c7 {P : Int → Prop} (h1 : P 1) (h2 : P 2) (h3 : P 3) (h4 : P 4) (h5 : P 5) (h6 : P 6) (h7 : P 7) : ∀ k, 1 ≤ k → k ≤ 7 → P k := by
  intro k k1 k2
  rcases (show k = 1 ∨ k = 2 ∨ k = 3 ∨ k = 4 ∨ k = 5 ∨ k = 6 ∨ k = 7 by omega) with g | g | g | g | g | g | g <;> (rw [g]; assumption)
theorem vt_14 {f v : Int → Int} (h : vTok f v) : v 14 = enT f (v 11) (v 15) ∧ v 16 = rfK (kdT f (v 11) (v 15)) ∧ v 17 = vaT 1000000 f (v 11) (v 15) := by
  obtain ⟨hN, hb, s, hs, e2, e3, e1, e4⟩ := h
  rw [e2]
  exact ⟨e3, e1, e4⟩
theorem cR_go {b : Nat} {f v : Int → Int} {num : Int} (h : vP f v) : rL b (stV f (v 11) (cR f (v 11) v num)) = rL b (cR f (v 11) (goV f v) num) := by
  have e3 : cR f (v 11) v num 3 = v 14 := (vt_14 h.1).1.symm
  have e15 : goV f v 15 = skT f (v 11) (v 14) := rfl
  have e18 : goV f v 18 = v 18 := go_n (by decide)
  have e19 : goV f v 19 = v 19 := go_n (by decide)
  refine rL_eq (c7 ?_ ?_ ?_ ?_ rfl ?_ ?_)
  · show kdT f (v 11) (skT f (v 11) (cR f (v 11) v num 3)) = kdT f (v 11) (goV f v 15)
    rw [e3, e15]
  · show skT f (v 11) (cR f (v 11) v num 3) = goV f v 15
    rw [e3, e15]
  · show enT f (v 11) (skT f (v 11) (cR f (v 11) v num 3)) = enT f (v 11) (goV f v 15)
    rw [e3, e15]
  · show vaT 100000 f (v 11) (skT f (v 11) (cR f (v 11) v num 3)) = vaT 100000 f (v 11) (goV f v 15)
    rw [e3, e15]
  · exact e18.symm
  · exact e19.symm
theorem cR_bg {b : Nat} {f v rv : Int → Int} : rL b (stV f (v 11) (up (up (up rv 6 0) 7 (-1)) 3 0)) = rL b (cR f (v 11) (goV f (up (up (up v 14 0) 18 0) 19 (-1))) (rv 5)) := by
  refine rL_eq (c7 rfl rfl rfl rfl rfl ?_ ?_)
  · show (0 : Int) = goV f (up (up (up v 14 0) 18 0) 19 (-1)) 18
    rw [go_n (by decide)]
    rfl
  · show (-1 : Int) = goV f (up (up (up v 14 0) 18 0) 19 (-1)) 19
    rw [go_n (by decide)]
    rfl
theorem cR_fl {b : Nat} {f v : Int → Int} {num c N : Int} (h : v 18 = 0) : rL b (flV c (cR f N v num)) = rL b (cR f N (faV c v) num) := by
  have e : faV c v = up (up v 18 c) 19 (v 15) := if_pos h
  rw [e]
  exact rL_eq (c7 rfl rfl rfl rfl rfl rfl rfl)
theorem rfK_1 (k : Int) : rfK k = 1 ↔ k = 1 := by
  unfold rfK
  (repeat' split) <;> omega
theorem rfK_2 (k : Int) : rfK k = 2 ↔ k = 2 := by
  unfold rfK
  (repeat' split) <;> omega
theorem rfK_0 (k : Int) : rfK k = 0 ↔ k = 0 := by
  unfold rfK
  (repeat' split) <;> omega
theorem cR_1 {f v : Int → Int} {num : Int} (h : vP f v) : (cR f (v 11) v num 1 = 1 ↔ v 16 = 1) ∧ (cR f (v 11) v num 1 = 2 ↔ v 16 = 2) ∧ (cR f (v 11) v num 1 = 0 ↔ v 16 = 0) := by
  have e : cR f (v 11) v num 1 = kdT f (v 11) (v 15) := rfl
  rw [e, (vt_14 h.1).2.1]
  exact ⟨(rfK_1 _).symm, (rfK_2 _).symm, (rfK_0 _).symm⟩
theorem kd_v (f : Int → Int) (N s : Int) : (kdT f N s = -1 ∨ kdT f N s = 0 ∨ kdT f N s = 1 ∨ kdT f N s = 2) ∨ (kdT f N s = f s ∧ (f s = 59 ∨ f s = 123 ∨ f s = 125)) := by
  unfold kdT
  (repeat' split) <;> first | exact .inl (.inl rfl) | exact .inl (.inr (.inl rfl)) | exact .inl (.inr (.inr (.inl rfl))) | exact .inl (.inr (.inr (.inr rfl))) | exact .inr ⟨rfl, by assumption⟩
theorem kd_w {f : Int → Int} {N s : Int} (hs : s < N) (h : f s = 59 ∨ f s = 123 ∨ f s = 125) : kdT f N s = f s := by
  unfold kdT
  rw [if_pos hs, if_neg (fun z => by have := of_decide_eq_true z; omega), if_neg (fun z => by have := of_decide_eq_true z; omega), if_pos h]
theorem cR_m {f v : Int → Int} {num mk : Int} (h : vP f v) (hm : mk = 59 ∨ mk = 123 ∨ mk = 125) : cR f (v 11) v num 1 = mk ↔ (v 16 = 3 ∧ f (v 15) = mk) := by
  have e : cR f (v 11) v num 1 = kdT f (v 11) (v 15) := rfl
  have h16 := (vt_14 h.1).2.1
  rw [e]
  constructor
  · intro g
    have hv := kd_v f (v 11) (v 15)
    rw [h16]
    refine ⟨?_, by omega⟩
    unfold rfK
    rw [if_neg (by omega), if_pos (by omega)]
  · intro g
    have h9 := h.1.r
    rw [kd_w (by omega) (by omega)]
    exact g.2
theorem cR_w {f v : Int → Int} {num : Int} {k : Nat} (h : vP f v) (h18 : v 18 = 0) : isWB f (cR f (v 11) v num) k = isWR f v k := by
  have e2 : cR f (v 11) v num 2 = v 15 := rfl
  have e3 : cR f (v 11) v num 3 = v 14 := (vt_14 h.1).1.symm
  unfold isWB isWR
  rw [e2, e3, decide_eq_true h18, Bool.true_and, decide_eq_decide.mpr (cR_1 (num := num) h).1]
theorem cR_s {f v : Int → Int} {num mk : Int} (h : vP f v) (h18 : v 18 = 0) (hm : mk = 59 ∨ mk = 123 ∨ mk = 125) : decide (cR f (v 11) v num 1 = mk) = isSR f v mk := by
  unfold isSR
  rw [decide_eq_true h18, Bool.true_and, decide_eq_decide.mpr (cR_m (num := num) h hm), Bool.decide_and]
theorem mu_f {f v : Int → Int} (h : v 18 = 0) : muV f false v = faV 1 v := by
  unfold muV gfV
  have e : (if false = true then v else faV 1 v) = faV 1 v := if_neg (by decide)
  rw [e, if_neg (fa_ne (by decide))]
theorem cR_tw {b : Nat} {f v : Int → Int} {num : Int} {k : Nat} (h : vP f v) (h18 : v 18 = 0) : rL b (twV f (v 11) k (cR f (v 11) v num)) = rL b (cR f (v 11) (muV f (isWR f v k) v) num) := by
  unfold twV
  rw [cR_w h h18]
  cases isWR f v k
  · rw [if_neg (by decide), mu_f h18]; exact cR_fl h18
  · rw [if_pos rfl, mu_t h18]; exact cR_go h
theorem cR_tm {b : Nat} {f v : Int → Int} {num mk : Int} (h : vP f v) (h18 : v 18 = 0) (hm : mk = 59 ∨ mk = 123 ∨ mk = 125) : rL b (tmV f (v 11) mk (cR f (v 11) v num)) = rL b (cR f (v 11) (muV f (isSR f v mk) v) num) := by
  have e := cR_s (num := num) h h18 hm
  unfold tmV
  cases hs : isSR f v mk
  · rw [hs] at e
    rw [if_neg (of_decide_eq_false e), mu_f h18]; exact cR_fl h18
  · rw [hs] at e
    rw [if_pos (of_decide_eq_true e), mu_t h18]; exact cR_go h
theorem cR_4 {f v : Int → Int} {num lo hi : Int} (h : vP f v) (hh : hi < 100000) : (lo ≤ cR f (v 11) v num 4 ∧ cR f (v 11) v num 4 ≤ hi ↔ lo ≤ v 17 ∧ v 17 ≤ hi) ∧ (cR f (v 11) v num 4 ≤ hi → cR f (v 11) v num 4 = v 17) := by
  have e : cR f (v 11) v num 4 = min 100000 (v 17) := by
    rw [(vt_14 h.1).2.2]
    exact vaT_2 h.1.r.1.2
  rw [e]
  omega
theorem se_y {v : Int → Int} {lo hi : Int} (h18 : v 18 = 0) : seV lo hi v = if v 16 = 2 then (if lo ≤ v 17 ∧ v 17 ≤ hi then v else faV 2 v) else faV 1 v := by
  unfold seV se1
  rw [if_pos h18]
  split
  · unfold se2
    rw [if_pos h18]
  · unfold se2
    rw [if_neg (fa_ne (by decide))]
theorem tk_18 {f v : Int → Int} {lo hi : Int} : tkV f lo hi v 18 = seV lo hi v 18 := by
  unfold tkV
  exact gf_18
theorem cR_sb {f v : Int → Int} {num lo hi : Int} (h : vP f v) (h18 : v 18 = 0) (hh : hi < 100000) : snB lo hi (cR f (v 11) v num) = decide (seV lo hi v 18 = 0) := by
  have h2 := (cR_1 (num := num) h).2.1
  have h4 := (cR_4 (num := num) (lo := lo) h hh).1
  unfold snB
  rw [decide_eq_decide.mpr h2, decide_eq_decide.mpr h4, se_y h18]
  by_cases g : v 16 = 2
  · rw [if_pos g, decide_eq_true g, Bool.true_and]
    by_cases g2 : lo ≤ v 17 ∧ v 17 ≤ hi
    · rw [if_pos g2, decide_eq_true g2, decide_eq_true h18]
    · rw [if_neg g2, decide_eq_false g2, decide_eq_false (fa_ne (by decide))]
  · rw [if_neg g, decide_eq_false g, Bool.false_and, decide_eq_false (fa_ne (by decide))]
theorem cR_sn {b : Nat} {f v : Int → Int} {num lo hi : Int} (h : vP f v) (h18 : v 18 = 0) (hh : hi < 100000) : rL b (snV lo hi (cR f (v 11) v num)) = rL b (cR f (v 11) (seV lo hi v) (nuS lo hi v num)) := by
  have h2 := (cR_1 (num := num) h).2.1
  have h4 := (cR_4 (num := num) (lo := lo) h hh)
  unfold snV nuS
  rw [se_y h18]
  by_cases g : v 16 = 2
  · rw [if_pos (h2.mpr g), if_pos g]
    by_cases g2 : lo ≤ v 17 ∧ v 17 ≤ hi
    · have e : seV lo hi v = v := by rw [se_y h18, if_pos g, if_pos g2]
      have er : seR lo hi v = v 17 := by unfold seR; rw [e, if_pos h18]
      rw [if_pos (h4.1.mpr g2), if_pos g2, if_pos h18, er, h4.2 (h4.1.mpr g2).2]
      exact rL_eq (c7 rfl rfl rfl rfl rfl rfl rfl)
    · rw [if_neg (fun z => g2 (h4.1.mp z)), if_neg g2, if_neg (fa_ne (by decide))]
      exact cR_fl h18
  · rw [if_neg (fun z => g (h2.mp z)), if_neg g, if_neg (fa_ne (by decide))]
    exact cR_fl h18
theorem cR_tn {b : Nat} {f v : Int → Int} {num lo hi : Int} (h : vP f v) (h18 : v 18 = 0) (hh : hi < 100000) : rL b (tnuV f (v 11) lo hi (cR f (v 11) v num)) = rL b (cR f (v 11) (tkV f lo hi v) (nuS lo hi v num)) := by
  unfold tnuV
  rw [cR_sb h h18 hh]
  by_cases g : seV lo hi v 18 = 0
  · rw [if_pos (decide_eq_true g)]
    obtain ⟨g1, g2, g3, g4, g5⟩ := se_0 g
    have e1 : tkV f lo hi v = goV f v := by unfold tkV gfV; rw [g4, if_pos h18]
    have e2 : nuS lo hi v num = v 17 := by unfold nuS; rw [if_pos g, g5]
    have h2 := (cR_1 (num := num) h).2.1
    have h4 := (cR_4 (num := num) (lo := lo) h hh)
    have e3 : snV lo hi (cR f (v 11) v num) = up (cR f (v 11) v num) 5 (v 17) := by
      unfold snV
      rw [if_pos (h2.mpr g2), if_pos (h4.1.mpr g3), h4.2 (h4.1.mpr g3).2]
    rw [e1, e2, e3]
    have e5 : rL b (stV f (v 11) (up (cR f (v 11) v num) 5 (v 17))) = rL b (stV f (v 11) (cR f (v 11) v (v 17))) := rL_eq (c7 rfl rfl rfl rfl rfl rfl rfl)
    rw [e5]
    exact cR_go h
  · rw [if_neg (by rw [decide_eq_false g]; decide), cR_sn h h18 hh]
    have e1 : tkV f lo hi v = seV lo hi v := by unfold tkV gfV; rw [if_neg g]
    rw [e1]
theorem k_step (l : Launch) (X : Cx) (w : Wo) (a b t : Nat) (N : Int) (f v : Int → Int) (num : Int) (hR : w a = some (.inr (6, rL b (cR f N v num)))) (hB : w b = some (.inr (0, [.ref t, .int (iI N)]))) (hT : w t = some (aZ X 400 f)) (hvp : vP f v) (hN : v 11 = N) (hne : a ≠ b ∧ a ≠ t) : CM l X yX6_step cX6_step 2 none (rmk 1 24) [.ref a] w none (fun w' => w' a = some (.inr (6, rL b (cR f N (goV f v) num))) ∧ ∀ q : Nat, q ≠ a → w' q = w q) := by
  subst hN
  have hT9 := cR_T (num := num) hvp
  have hc := c_X6_step l X w a b t (v 11) f (cR f (v 11) v num) hR hB hT hvp.1.1 hvp.1.2.1 (by have := hT9.r; omega) hne
  exact hc.imp (fun w2 h => ⟨by rw [h.1, cR_go hvp], h.2⟩)
theorem k_begin (l : Launch) (X : Cx) (w : Wo) (a b t : Nat) (N : Int) (f v rv : Int → Int) (hR : w a = some (.inr (6, rL b rv))) (hB : w b = some (.inr (0, [.ref t, .int (iI N)]))) (hT : w t = some (aZ X 400 f)) (hN : v 11 = N) (hne : a ≠ b ∧ a ≠ t) (hN4 : 0 ≤ N ∧ N ≤ 400) (hfb : ∀ i, 0 ≤ i → i < N → 0 ≤ f i ∧ f i ≤ 255) : CM l X yX6_begin cX6_begin 1 none (rmk 2 45) [.ref a] w none (fun w' => w' a = some (.inr (6, rL b (cR f N (goV f (up (up (up v 14 0) 18 0) 19 (-1))) (rv 5)))) ∧ ∀ q : Nat, q ≠ a → w' q = w q) := by
  subst hN
  have hc := c_X6_begin l X w a b t (v 11) f rv hR hB hT hN4 hfb hne
  exact hc.imp (fun w2 h => ⟨by rw [h.1, cR_bg], h.2⟩)
theorem k_fail (l : Launch) (X : Cx) (w : Wo) (a b t : Nat) (N : Int) (f v : Int → Int) (num : Int) (c9 : Int) (hR : w a = some (.inr (6, rL b (cR f N v num)))) (hB : w b = some (.inr (0, [.ref t, .int (iI N)]))) (hT : w t = some (aZ X 400 f)) (hvp : vP f v) (hN : v 11 = N) (hne : a ≠ b ∧ a ≠ t) (h18 : v 18 = 0) : CM l X yX6_fail cX6_fail 2 (some (.boolean)) (rmk 0 0) [.ref a, .int (iI c9)] w (some (.int (iI (bz false)))) (fun w' => w' a = some (.inr (6, rL b (cR f N (faV c9 v) num))) ∧ ∀ q : Nat, q ≠ a → w' q = w q) := by
  subst hN
  have hT9 := cR_T (num := num) hvp
  have hc := c_X6_fail l X w a b t (v 11) f (cR f (v 11) v num) c9 hR
  exact hc.imp (fun w2 h => ⟨by rw [h.1, cR_fl h18], h.2⟩)
theorem k_isWord (l : Launch) (X : Cx) (w : Wo) (a b t : Nat) (N : Int) (f v : Int → Int) (num : Int) (k : Nat) (hR : w a = some (.inr (6, rL b (cR f N v num)))) (hB : w b = some (.inr (0, [.ref t, .int (iI N)]))) (hT : w t = some (aZ X 400 f)) (hvp : vP f v) (hN : v 11 = N) (hne : a ≠ b ∧ a ≠ t) (h18 : v 18 = 0) (hk : k < 14) : CM l X yX6_isWord cX6_isWord 3 (some (.boolean)) (rmk 4 85) [.ref a, .ref (X.2.2 (10 + k))] w (some (.int (iI (bz (isWR f v k))))) (fun w' => w' = w) := by
  subst hN
  have hT9 := cR_T (num := num) hvp
  have hc := c_X6_isWord l X w a b t (v 11) f (cR f (v 11) v num) k hR hB hT hT9 hk
  rw [cR_w hvp h18] at hc
  exact hc
theorem k_takeWord (l : Launch) (X : Cx) (w : Wo) (a b t : Nat) (N : Int) (f v : Int → Int) (num : Int) (k : Nat) (hR : w a = some (.inr (6, rL b (cR f N v num)))) (hB : w b = some (.inr (0, [.ref t, .int (iI N)]))) (hT : w t = some (aZ X 400 f)) (hvp : vP f v) (hN : v 11 = N) (hne : a ≠ b ∧ a ≠ t) (h18 : v 18 = 0) (hk : k < 14) : CM l X yX6_takeWord cX6_takeWord 2 (some (.boolean)) (rmk 5 107) [.ref a, .ref (X.2.2 (10 + k))] w (some (.int (iI (bz (isWR f v k))))) (fun w' => w' a = some (.inr (6, rL b (cR f N (muV f (isWR f v k) v) num))) ∧ ∀ q : Nat, q ≠ a → w' q = w q) := by
  subst hN
  have hT9 := cR_T (num := num) hvp
  have hc := c_X6_takeWord l X w a b t (v 11) f (cR f (v 11) v num) k hR hB hT hT9 hne hk
  rw [cR_w hvp h18] at hc
  exact hc.imp (fun w2 h => ⟨by rw [h.1, cR_tw hvp h18], h.2⟩)
theorem k_takeMark (l : Launch) (X : Cx) (w : Wo) (a b t : Nat) (N : Int) (f v : Int → Int) (num : Int) (mk : Int) (hR : w a = some (.inr (6, rL b (cR f N v num)))) (hB : w b = some (.inr (0, [.ref t, .int (iI N)]))) (hT : w t = some (aZ X 400 f)) (hvp : vP f v) (hN : v 11 = N) (hne : a ≠ b ∧ a ≠ t) (h18 : v 18 = 0) (hmk : mk = 59 ∨ mk = 123 ∨ mk = 125) : CM l X yX6_takeMark cX6_takeMark 2 (some (.boolean)) (rmk 2 45) [.ref a, .int (iI mk)] w (some (.int (iI (bz (isSR f v mk))))) (fun w' => w' a = some (.inr (6, rL b (cR f N (muV f (isSR f v mk) v) num))) ∧ ∀ q : Nat, q ≠ a → w' q = w q) := by
  subst hN
  have hT9 := cR_T (num := num) hvp
  have hc := c_X6_takeMark l X w a b t (v 11) f (cR f (v 11) v num) mk hR hB hT hT9 hne (by omega)
  rw [cR_s hvp h18 hmk] at hc
  exact hc.imp (fun w2 h => ⟨by rw [h.1, cR_tm hvp h18 hmk], h.2⟩)
theorem k_seesNumber (l : Launch) (X : Cx) (w : Wo) (a b t : Nat) (N : Int) (f v : Int → Int) (num : Int) (lo hi : Int) (hR : w a = some (.inr (6, rL b (cR f N v num)))) (hB : w b = some (.inr (0, [.ref t, .int (iI N)]))) (hT : w t = some (aZ X 400 f)) (hvp : vP f v) (hN : v 11 = N) (hne : a ≠ b ∧ a ≠ t) (h18 : v 18 = 0) (hlo : 0 ≤ lo ∧ lo < 100000) (hhi : 0 ≤ hi ∧ hi < 100000) : CM l X yX6_seesNumber cX6_seesNumber 3 (some (.boolean)) (rmk 1 21) [.ref a, .int (iI lo), .int (iI hi)] w (some (.int (iI (bz (decide (seV lo hi v 18 = 0)))))) (fun w' => w' a = some (.inr (6, rL b (cR f N (seV lo hi v) (nuS lo hi v num)))) ∧ ∀ q : Nat, q ≠ a → w' q = w q) := by
  subst hN
  have hT9 := cR_T (num := num) hvp
  have hc := c_X6_seesNumber l X w a b t (v 11) f (cR f (v 11) v num) lo hi hR hB hT hT9 hne hlo hhi
  rw [cR_sb hvp h18 hhi.2] at hc
  exact hc.imp (fun w2 h => ⟨by rw [h.1, cR_sn hvp h18 hhi.2], h.2⟩)
theorem k_takeNumber (l : Launch) (X : Cx) (w : Wo) (a b t : Nat) (N : Int) (f v : Int → Int) (num : Int) (lo hi : Int) (hR : w a = some (.inr (6, rL b (cR f N v num)))) (hB : w b = some (.inr (0, [.ref t, .int (iI N)]))) (hT : w t = some (aZ X 400 f)) (hvp : vP f v) (hN : v 11 = N) (hne : a ≠ b ∧ a ≠ t) (h18 : v 18 = 0) (hlo : 0 ≤ lo ∧ lo < 100000) (hhi : 0 ≤ hi ∧ hi < 100000) : CM l X yX6_takeNumber cX6_takeNumber 3 (some (.boolean)) (rmk 2 45) [.ref a, .int (iI lo), .int (iI hi)] w (some (.int (iI (bz (decide (tkV f lo hi v 18 = 0)))))) (fun w' => w' a = some (.inr (6, rL b (cR f N (tkV f lo hi v) (nuS lo hi v num)))) ∧ ∀ q : Nat, q ≠ a → w' q = w q) := by
  subst hN
  have hT9 := cR_T (num := num) hvp
  have hc := c_X6_takeNumber l X w a b t (v 11) f (cR f (v 11) v num) lo hi hR hB hT hT9 hne hlo hhi
  rw [cR_sb hvp h18 hhi.2, ← tk_18 (f := f)] at hc
  exact hc.imp (fun w2 h => ⟨by rw [h.1, cR_tn hvp h18 hhi.2], h.2⟩)
