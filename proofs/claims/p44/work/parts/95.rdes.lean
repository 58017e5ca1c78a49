/-! ===== what the parser's steps leave, and that they go on ===== -/
def vE (v u : Int → Int) : Prop := (∀ k, (k < 14 ∨ 19 < k) → u k = v k) ∧ v 15 ≤ u 15
theorem vE.rf (v : Int → Int) : vE v v := ⟨fun _ _ => rfl, by omega⟩
theorem vE.tr {a b c : Int → Int} (h : vE a b) (g : vE b c) : vE a c := ⟨fun k hk => (g.1 k hk).trans (h.1 k hk), by have := h.2; have := g.2; omega⟩
theorem go_m {f v : Int → Int} (h : vP f v) : vE v (goV f v) ∧ v 14 ≤ goV f v 15 := by
  have h2 := h.1.r
  have h3 : goV f v 15 = skT f (v 11) (v 14) := rfl
  have h4 := skT_r (f := f) (N := v 11) (p := v 14) (by omega)
  exact ⟨⟨fun k hk => go_n (by omega), by omega⟩, by omega⟩
theorem vE.go {f v : Int → Int} (h : vP f v) : vE v (goV f v) := (go_m h).1
theorem vE.fa (c : Int) (v : Int → Int) : vE v (faV c v) := ⟨fun k hk => fa_n (by omega) (by omega), by rw [fa_n (by decide) (by decide)]; omega⟩
theorem vE.gf {f v : Int → Int} (h : vP f v) : vE v (gfV f v) := by
  unfold gfV
  split
  · exact vE.go h
  · exact vE.rf v
theorem vE.mu {f v : Int → Int} {b : Bool} (h : vP f v) : vE v (muV f b v) := by
  unfold muV
  split
  · exact vE.gf h
  · exact (vE.fa 1 v).tr (vE.gf (h.fa (by decide)))
theorem vE.s1 (v : Int → Int) : vE v (se1 v) := by
  unfold se1
  (repeat' split) <;> first | exact vE.rf v | exact vE.fa 1 v
theorem vE.s2 (lo hi : Int) (v : Int → Int) : vE v (se2 lo hi v) := by
  unfold se2
  (repeat' split) <;> first | exact vE.rf v | exact vE.fa 2 v
theorem vE.se (lo hi : Int) (v : Int → Int) : vE v (seV lo hi v) := (vE.s1 v).tr (vE.s2 lo hi _)
theorem vE.tk {f v : Int → Int} {lo hi : Int} (h : vP f v) : vE v (tkV f lo hi v) := (vE.se lo hi v).tr (vE.gf h.se)
theorem rc1_E (v d : Int → Int) : vE v (rc1 v d) := by
  unfold rc1
  split
  · exact vE.fa 6 v
  · exact vE.rf v
theorem rc2_E {f v d : Int → Int} (h : vP f v) : vE v (rc2 f v d) := (rc1_E v d).tr (vE.mu (rc1_P h))
theorem rc3_E {f v d : Int → Int} (h : vP f v) : vE v (rc3 f v d) := by
  unfold rc3
  split
  · exact (rc2_E h).tr (vE.fa 2 _)
  · exact rc2_E h
theorem rc4_E {f v d : Int → Int} (h : vP f v) : vE v (rc4 f v d) := (rc3_E h).tr (vE.mu (rc3_P h))
theorem rc5_E {f v d : Int → Int} (h : vP f v) : vE v (rc5 f v d) := by
  unfold rc5
  split
  · exact (rc4_E h).tr (vE.go (rc4_P h))
  · exact rc4_E h
theorem rc6_E {f v d : Int → Int} (h : vP f v) : vE v (rc6 f v d) := (rc5_E h).tr (vE.mu (rc5_P h))
theorem rc7_E {f v d : Int → Int} (h : vP f v) : vE v (rc7 f v d) := (rc6_E h).tr (vE.tk (rc6_P h))
theorem rc8_E {f v d : Int → Int} (h : vP f v) : vE v (rc8 f v d) := (rc7_E h).tr (vE.se _ _ _)
theorem rc9_E {f v d : Int → Int} (h : vP f v) : vE v (rc9 f v d) := by
  unfold rc9
  split
  · exact (rc8_E h).tr (vE.fa 4 _)
  · exact rc8_E h
theorem rc10_E {f v d : Int → Int} (h : vP f v) : vE v (rc10 f v d) := by
  unfold rc10
  split
  · exact (rc9_E h).tr (vE.fa 5 _)
  · exact rc9_E h
theorem rc11_E {f v d : Int → Int} (h : vP f v) : vE v (rc11 f v d) := (rc10_E h).tr (vE.mu (rc10_P h))
theorem rc12_E {f v d : Int → Int} (h : vP f v) : vE v (rc12 f v d) := (rc11_E h).tr (vE.mu (rc11_P h))
theorem rc13_E {f v d : Int → Int} (h : vP f v) : vE v (rc13 f v d) := (rc12_E h).tr (vE.tk (rc12_P h))
theorem rs3_E {f v : Int → Int} (h : vP f v) : vE v (rs3 f v) := by
  have e : vE v (rs2 f v) := (vE.go h).tr (vE.se _ _ _)
  unfold rs3
  split
  · exact e.tr (vE.fa 3 _)
  · exact e
theorem rsV_n {f v : Int → Int} {k : Int} (h : vP f v) (hk : k < 14 ∨ 19 < k) (h22 : k ≠ 22) : rsV f v k = v k := by
  unfold rsV rs5
  rw [tk_n hk, mu_n hk]
  unfold rs4
  rw [up_n h22]
  exact (rs3_E h).1 k hk
theorem rsV_22 {f v : Int → Int} (h : vP f v) : rsV f v 22 = orS (v 22) (rsK f v) := by
  unfold rsV rs5
  rw [tk_n (by omega), mu_n (by omega)]
  show orS (rs3 f v 22) (rsK f v) = _
  rw [rs3_22]
theorem rsV_P {f v : Int → Int} (h : vP f v) : vP f (rsV f v) := (rs4_P h).mu.tk
theorem rsV_15 {f v : Int → Int} (h : vP f v) : v 15 ≤ rsV f v 15 := by
  have h1 := (rs3_E h).2
  have h2 : rs4 f v 15 = rs3 f v 15 := rfl
  have h3 := (vE.mu (b := true) (rs4_P h)).2
  have h4 := (vE.tk (lo := 0) (hi := 9999) ((rs4_P h).mu (b := true))).2
  unfold rsV rs5
  omega
theorem reV_n {f v : Int → Int} {k : Int} (hk : k < 14 ∨ 19 < k) (h23 : k ≠ 23) : reV f v k = v k := by
  unfold reV re5
  rw [tk_n hk, mu_n hk, up_n h23]
  unfold re3
  split
  · rfl
  · exact fa_n (by omega) (by omega)
theorem reV_23 {f v : Int → Int} : reV f v 23 = 1 := by
  unfold reV re5
  rw [tk_n (by omega), mu_n (by omega)]
  rfl
theorem re4_P {f v : Int → Int} (h : vP f v) : vP f (up (re3 v) 23 1) := (re3_P h).fld rfl rfl rfl rfl rfl rfl
theorem reV_P {f v : Int → Int} (h : vP f v) : vP f (reV f v) := (re4_P h).mu.tk
theorem reV_15 {f v : Int → Int} (h : vP f v) : v 15 ≤ reV f v 15 := by
  have h1 : v 15 ≤ re3 v 15 := by
    unfold re3
    split
    · omega
    · exact (vE.fa 3 v).2
  have h2 : up (re3 v) 23 1 15 = re3 v 15 := rfl
  have h3 := (vE.mu (b := true) (re4_P h)).2
  have h4 := (vE.tk (lo := 0) (hi := 30) ((re4_P h).mu (b := true))).2
  unfold reV re5
  omega
/-! one statement of a design -/
def vI (f v : Int → Int) : Prop := vP f v ∧ (0 ≤ v 22 ∧ v 22 < 128) ∧ (0 ≤ v 23 ∧ v 23 ≤ 1)
def bd1 (f v d : Int → Int) : Int → Int := if isWR f v 1 = true then rc13 f v d else if isWR f v 5 = true then rsV f v else if isWR f v 6 = true then reV f v else faV 1 v
def bdV (f v d : Int → Int) : Int → Int := muV f (isSR f (bd1 f v d) 59) (bd1 f v d)
def bdD (f v d : Int → Int) : Int → Int := if isWR f v 1 = true then rcE f v d else if isWR f v 5 = true then rsD f v d else if isWR f v 6 = true then reD f v d else d
theorem bd1_I {f v d : Int → Int} (h : vI f v) : vI f (bd1 f v d) := by
  unfold bd1
  (repeat' split)
  · have := (rc13_E (d := d) h.1).1
    exact ⟨rc13_P h.1, by rw [this 22 (by omega)]; exact h.2.1, by rw [this 23 (by omega)]; exact h.2.2⟩
  · exact ⟨rsV_P h.1, by rw [rsV_22 h.1]; exact orS_r h.2.1 (by have := rsK_r f v; omega), by rw [rsV_n h.1 (by omega) (by decide)]; exact h.2.2⟩
  · exact ⟨reV_P h.1, by rw [reV_n (by omega) (by decide)]; exact h.2.1, by rw [reV_23]; decide⟩
  · exact ⟨h.1.fa (by decide), by rw [fa_n (by decide) (by decide)]; exact h.2.1, by rw [fa_n (by decide) (by decide)]; exact h.2.2⟩
theorem bd1_n {f v d : Int → Int} {k : Int} (h : vP f v) (hk : k < 14 ∨ 19 < k) (h2 : k ≠ 22 ∧ k ≠ 23) : bd1 f v d k = v k := by
  unfold bd1
  (repeat' split)
  · exact (rc13_E h).1 k hk
  · exact rsV_n h hk h2.1
  · exact reV_n hk h2.2
  · exact fa_n (by omega) (by omega)
theorem bd1_15 {f v d : Int → Int} (h : vP f v) : v 15 ≤ bd1 f v d 15 := by
  unfold bd1
  (repeat' split)
  · exact (rc13_E h).2
  · exact rsV_15 h
  · exact reV_15 h
  · exact (vE.fa 1 v).2
theorem bd_I {f v d : Int → Int} (h : vI f v) : vI f (bdV f v d) := by
  have h1 := bd1_I (d := d) h
  unfold bdV
  exact ⟨h1.1.mu, by rw [mu_n (by omega)]; exact h1.2.1, by rw [mu_n (by omega)]; exact h1.2.2⟩
theorem bd_n {f v d : Int → Int} {k : Int} (h : vP f v) (hk : k < 14 ∨ 19 < k) (h2 : k ≠ 22 ∧ k ≠ 23) : bdV f v d k = v k := by
  unfold bdV
  rw [mu_n hk]
  exact bd1_n h hk h2
theorem sg_p {f v : Int → Int} (h : vTok f v) (h16 : v 16 = 3) : v 14 = v 15 + 1 := by
  obtain ⟨hN, hb, s, hs, e2, e3, e1, e4⟩ := h
  rw [e1] at h16
  rw [e2, e3]
  have hk : kdT f (v 11) s ≠ 0 ∧ kdT f (v 11) s ≠ 1 ∧ kdT f (v 11) s ≠ 2 := by
    refine ⟨fun z => ?_, fun z => ?_, fun z => ?_⟩ <;> (rw [z] at h16; exact absurd h16 (by decide))
  unfold kdT at hk
  unfold enT
  split at hk
  · rename_i g
    rw [if_pos g]
    split at hk
    · exact absurd rfl hk.2.1
    · rename_i g2
      rw [if_neg g2]
      split at hk
      · exact absurd rfl hk.2.2
      · rename_i g3
        rw [if_neg g3]
  · exact absurd rfl hk.1
theorem sr_0 {f v : Int → Int} {mk : Int} (h : isSR f v mk = true) : v 18 = 0 ∧ v 16 = 3 ∧ f (v 15) = mk := by
  unfold isSR at h
  rw [Bool.and_eq_true, Bool.and_eq_true] at h
  exact ⟨of_decide_eq_true h.1.1, of_decide_eq_true h.1.2, of_decide_eq_true h.2⟩
theorem mu_t {f v : Int → Int} (h : v 18 = 0) : muV f true v = goV f v := by
  unfold muV gfV
  rw [if_pos rfl, if_pos h]
theorem mk_m {f v : Int → Int} {mk : Int} (h : vP f v) (h0 : muV f (isSR f v mk) v 18 = 0) : v 15 + 1 ≤ muV f (isSR f v mk) v 15 := by
  have h1 := mu_0 h0
  have h2 := sr_0 h1.2
  rw [h1.2, mu_t h1.1]
  have h3 := sg_p h.1 h2.2.1
  have h4 := (go_m h).2
  omega
theorem bd_m {f v d : Int → Int} (h : vI f v) (h0 : bdV f v d 18 = 0) : v 15 + 1 ≤ bdV f v d 15 := by
  have h1 := bd1_15 (d := d) h.1
  have h2 := mk_m (bd1_I (d := d) h).1 (show muV f (isSR f (bd1 f v d) 59) (bd1 f v d) 18 = 0 from h0)
  unfold bdV
  omega
theorem meet_c {σ τ : Int → Int} {n sd x y bu : Int} (h8 : 0 ≤ σ 5) (he : eqS σ τ) : meetS τ n sd x y bu = meetS σ n sd x y bu := by
  have e0 := he.1 0 (by decide) (by decide)
  unfold meetS
  rw [he.1 5 (by decide) (by decide)]
  refine ex_c (fun k k0 k1 => ?_)
  have ec := fun j j0 j1 => he.2.1 k k0 k1 j j0 j1
  unfold mtS lowC
  rw [e0, ec 0 (by decide) (by decide), ec 1 (by decide) (by decide), ec 2 (by decide) (by decide), ec 3 (by decide) (by decide)]
theorem let_eq {σ : Int → Int} {f : Int → Int} {s n : Int} (h5 : 0 ≤ σ 5 ∧ σ 5 < 8) (hn : 0 ≤ n ∧ n ≤ 8) : eqS σ (letS σ (13 + 13 * σ 5 + 5) f s n) :=
  ⟨fun p p0 p1 => let_o (by omega), fun k k0 k1 j j0 j1 => let_o (by omega), fun c r c0 c1 r0 r1 => let_o (by omega)⟩
/-- all that is known of a caption that was read right -/
theorem rcE_S {f v d : Int → Int} (h : vP f v) (hd : WF d) (h0 : rc13 f v d 18 = 0) : rcE f v d = rcS d (rcL f v d) (bz (rcR f v d)) (rcX f v d) (rcY f v d) (rcC f v d) f (rc3 f v d 15) ∧ (1 ≤ rcL f v d ∧ rcL f v d ≤ 8) ∧ d 5 < 8 ∧ whyS d (rcL f v d) (bz (rcR f v d)) (rcX f v d) (rcY f v d) (-1) = 0 ∧ (1 ≤ rcC f v d ∧ rcC f v d ≤ 6) ∧ (∀ j, 0 ≤ j → j < rcL f v d → 97 ≤ f (rc3 f v d 15 + j) ∧ f (rc3 f v d 15 + j) ≤ 122) := by
  have h12 := tkn_0 (show tkV f 1 6 (rc12 f v d) 18 = 0 from h0)
  have h11 := (mu_0 (show muV f _ (rc11 f v d) 18 = 0 from h12.1)).1
  have h10 := (mu_0 (show muV f _ (rc10 f v d) 18 = 0 from h11)).1
  have h9 : rc9 f v d 18 = 0 ∧ meetS (rcD f v d) (rcL f v d) (bz (rcR f v d)) (rcX f v d) (rcY f v d) (-1) = false := by
    unfold rc10 at h10
    split at h10
    · exact (fa_0 (by decide) h10).elim
    · rename_i g
      refine ⟨h10, ?_⟩
      cases hm : meetS (rcD f v d) (rcL f v d) (bz (rcR f v d)) (rcX f v d) (rcY f v d) (-1)
      · rfl
      · exact absurd ⟨h10, hm⟩ g
  have h8 := rc9_0 h9.1
  have h3 := rc8_0 h8.2.1
  obtain ⟨hA, hB, hC, -, hF⟩ := rc3_L h h3.1 h3.2
  have h5 := hd.1.2.2.2.2.2
  have hD := rc3_D h3.1 h3.2 hC h5.2
  have he := let_eq (σ := d) (f := f) (s := rc3 f v d 15) (n := rcL f v d) (by omega) (by omega)
  rw [← hD] at he
  refine ⟨?_, hB, by omega, ?_, seR_r (by decide), fun j j0 j1 => ?_⟩
  · unfold rcE rcS
    rw [if_pos h0, hD, show rcB d = 13 + 13 * d 5 by unfold rcB; omega]
  · have hl := h8.2.2
    unfold liesS at hl
    rw [he.1 0 (by decide) (by decide), he.1 1 (by decide) (by decide)] at hl
    have hm := h9.2
    rw [meet_c h5.1 he] at hm
    unfold whyS liesS
    rw [hl, hm]
    rfl
  · have hw := wd_p (rc3_P (d := d) h).1 h3.2
    have hs := fi_spec (fun i => !ltB (f i)) (lo := rc3 f v d 15) (hi := rc3 f v d 11) (by have := (rc3_P (d := d) h).1.r; omega)
    have e9 : wdE f (rc3 f v d 11) (rc3 f v d 15) = fi (fun i => !ltB (f i)) (rc3 f v d 15) (rc3 f v d 11) := rfl
    have e14 : rc3 f v d 14 = rc2 f v d 14 := by rw [hA]
    have e15 : rc3 f v d 15 = rc2 f v d 15 := by rw [hA]
    have hL : rcL f v d = rc2 f v d 14 - rc2 f v d 15 := rfl
    have h2 := hs.2.2.1 (rc3 f v d 15 + j) (by omega) (by omega)
    have h3 : ltB (f (rc3 f v d 15 + j)) = true := by simpa using h2
    exact of_decide_eq_true h3
theorem rcE_W {f v d : Int → Int} (h : vP f v) (hd : WF d) : WF (rcE f v d) := by
  by_cases h0 : rc13 f v d 18 = 0
  · obtain ⟨e, h1, h2, h3, h4, h5⟩ := rcE_S h hd h0
    rw [e]
    refine hang_WF (f := fun j => f (rc3 f v d 15 + j) - 97 + 1) hd h2 (rc_R hd.cap8 h2 h1 (fun j j0 j1 => rfl)) h1 (by cases rcR f v d; exact .inl rfl; exact .inr rfl) h4 (fun j j0 j1 => ?_) h3
    have := h5 j j0 j1
    show 1 ≤ f (rc3 f v d 15 + j) - 97 + 1 ∧ f (rc3 f v d 15 + j) - 97 + 1 ≤ 26
    omega
  · unfold rcE
    rw [if_neg h0]
    exact rcD_WF h hd
theorem st_W {d : Int → Int} {k x : Int} (hd : WF d) (hk : 0 ≤ k ∧ k ≤ 6) (hx : 0 ≤ x ∧ x ≤ 9999) : WF (up d (6 + k) x) := by
  have w0 := hd.1
  unfold WF0 at w0
  have e : ∀ p, p < 6 ∨ 13 ≤ p → up d (6 + k) x p = d p := fun p hp => up_n (by omega)
  refine hd.up (fun p p0 p1 p2 => e p (by omega)) (by rw [e 2 (by omega)]; omega) (by rw [e 3 (by omega)]; omega) (by rw [e 4 (by omega)]; omega) (fun c c0 c1 => ?_) (fun c r c0 c1 r0 r1 => ?_) (fun c r c0 c1 r0 r1 => ?_)
  · by_cases g : 6 + c = 6 + k
    · rw [g, up_s]; exact hx
    · rw [up_n g]; exact hd.2.1 c c0 c1
  · rw [show cellS (up d (6 + k) x) c r = cellS d c r from e _ (by omega)]
    exact hd.2.2.2.1 c r c0 c1 r0 r1
  · rw [e 4 (by omega)] at r1
    rw [show cellS (up d (6 + k) x) c r = cellS d c r from e _ (by omega)]
    exact hd.2.2.2.2.1 c r c0 c1 r0 r1
theorem de_W {d : Int → Int} {x : Int} (hd : WF d) (hx : 0 ≤ x ∧ x ≤ 30) : WF (up d 2 x) := by
  have w0 := hd.1
  unfold WF0 at w0
  have e : ∀ p, p ≠ 2 → up d 2 x p = d p := fun p hp => up_n hp
  refine hd.up (fun p p0 p1 p2 => e p (by omega)) (by rw [up_s]; exact hx) (by rw [e 3 (by omega)]; omega) (by rw [e 4 (by omega)]; omega) (fun c c0 c1 => by rw [e _ (by omega)]; exact hd.2.1 c c0 c1) (fun c r c0 c1 r0 r1 => ?_) (fun c r c0 c1 r0 r1 => ?_)
  · rw [show cellS (up d 2 x) c r = cellS d c r from e _ (by omega)]
    exact hd.2.2.2.1 c r c0 c1 r0 r1
  · rw [e 4 (by omega)] at r1
    rw [show cellS (up d 2 x) c r = cellS d c r from e _ (by omega)]
    exact hd.2.2.2.2.1 c r c0 c1 r0 r1
theorem bdD_W {f v d : Int → Int} (h : vP f v) (hd : WF d) : WF (bdD f v d) := by
  unfold bdD
  (repeat' split)
  · exact rcE_W h hd
  · exact st_W hd (rsK_r f v) (seR_r (by decide))
  · exact de_W hd (seR_r (by decide))
  · exact hd
/-- the statements of a design, one after another; n is more than there are -/
def rdG (f : Int → Int) : Nat → (Int → Int) → (Int → Int) → (Int → Int) × (Int → Int)
  | 0, v, d => (v, d)
  | n + 1, v, d => if v 18 = 0 ∧ v 16 ≠ 0 then rdG f n (bdV f v d) (bdD f v d) else (v, d)
theorem rdG_e {f v d : Int → Int} (h : ¬ (v 18 = 0 ∧ v 16 ≠ 0)) : ∀ n : Nat, rdG f n v d = (v, d)
  | 0 => rfl
  | n + 1 => by
    show (if v 18 = 0 ∧ v 16 ≠ 0 then rdG f n (bdV f v d) (bdD f v d) else (v, d)) = _
    rw [if_neg h]
theorem rdG_s {f v d : Int → Int} {i : Int} (hi : i < 402) (h : v 18 = 0 ∧ v 16 ≠ 0) : rdG f (402 - i).toNat v d = rdG f (402 - (i + 1)).toNat (bdV f v d) (bdD f v d) := by
  rw [show (402 - i).toNat = (402 - (i + 1)).toNat + 1 by omega]
  show (if v 18 = 0 ∧ v 16 ≠ 0 then rdG f _ (bdV f v d) (bdD f v d) else (v, d)) = _
  rw [if_pos h]
/-! the design: its head -/
def rd1 (f v : Int → Int) : Int → Int := muV f (isWR f v 0) v
def rdW (f v : Int → Int) : Int := seR 8 40 (rd1 f v)
def rd2 (f v : Int → Int) : Int → Int := tkV f 8 40 (rd1 f v)
def rdH (f v : Int → Int) : Int := seR 6 30 (rd2 f v)
def rd3 (f v : Int → Int) : Int → Int := tkV f 6 30 (rd2 f v)
def rd4 (f v : Int → Int) : Int → Int := muV f (isSR f (rd3 f v) 59) (rd3 f v)
def rdD (f v d : Int → Int) : Int → Int := bgS d (rdW f v) (rdH f v)
def rdF (f v d : Int → Int) : (Int → Int) × (Int → Int) := rdG f 402 (rd4 f v) (rdD f v d)
theorem rd4_P {f v : Int → Int} (h : vP f v) : vP f (rd4 f v) := h.mu.tk.tk.mu
theorem rd4_E {f v : Int → Int} (h : vP f v) : vE v (rd4 f v) := (((vE.mu h).tr (vE.tk h.mu)).tr (vE.tk h.mu.tk)).tr (vE.mu h.mu.tk.tk)
theorem rdD_v {f v d : Int → Int} {p : Int} (p0 : 0 ≤ p) (p1 : p < 1317) : rdD f v d p = resS (rdW f v) (rdH f v) p := bgS_v d _ _ p p0 p1
theorem rdD_eq (f v d : Int → Int) : eqS (resS (rdW f v) (rdH f v)) (rdD f v d) := eqS.ofW (res_WF ⟨seR_r (by decide), seR_r (by decide)⟩) (fun p p0 p1 => rdD_v p0 p1)
theorem rdD_W (f v d : Int → Int) : WF (rdD f v d) := (res_WF ⟨seR_r (by decide), seR_r (by decide)⟩).to (rdD_eq f v d)
