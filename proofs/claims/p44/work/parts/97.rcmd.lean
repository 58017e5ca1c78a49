/-! ===== the reference's commands ===== -/
def rm1 (f v : Int → Int) : Int → Int := if cmR f v = -1 then faV 1 v else v
def rm2 (f v : Int → Int) : Int → Int := if v 28 = 30 ∨ (cmR f v = 5 ∧ v 29 = 3) then faV 6 (rm1 f v) else rm1 f v
def rm3 (f v : Int → Int) : Int → Int := goV f (up (rm2 f v) 28 (rm2 f v 28 + 1))
def rmA (f v : Int → Int) : Int := if cmR f v = 0 then seR 0 6 (rm3 f v) else if cmR f v = 2 then seR 1 30 (rm3 f v) else if cmR f v = 3 then seR 0 30 (rm3 f v) else if cmR f v = 5 then seR 1 20 (rm3 f v) else 0
def rm4 (f v : Int → Int) : Int → Int := if cmR f v = 0 then tkV f 0 6 (rm3 f v) else if cmR f v = 2 then tkV f 1 30 (rm3 f v) else if cmR f v = 3 then tkV f 0 30 (rm3 f v) else if cmR f v = 5 then tkV f 1 20 (rm3 f v) else rm3 f v
def rmB (f v : Int → Int) (wd : Int) : Int := if cmR f v = 0 then seR 0 (wd - 1) (rm4 f v) else if cmR f v = 2 then bz (isWR f (rm4 f v) 10) else 0
def rm5 (f v : Int → Int) (wd : Int) : Int → Int := if cmR f v = 0 then tkV f 0 (wd - 1) (rm4 f v) else rm4 f v
def rm6 (f v : Int → Int) (wd : Int) : Int → Int := if cmR f v = 2 ∧ rmB f v wd = 1 then goV f (rm5 f v wd) else rm5 f v wd
def rmC (f v : Int → Int) (wd : Int) : Int := if cmR f v = 0 then seR (rmB f v wd) (wd - 1) (rm6 f v wd) else 0
def rm7 (f v : Int → Int) (wd : Int) : Int → Int := if cmR f v = 0 then tkV f (rmB f v wd) (wd - 1) (rm6 f v wd) else rm6 f v wd
def rm8 (f v : Int → Int) (wd : Int) : Int → Int := if cmR f v = 5 then muV f (isSR f (rm7 f v wd) 123) (rm7 f v wd) else rm7 f v wd
def rm9 (f v : Int → Int) (wd : Int) : Int → Int := up (rm8 f v wd) 27 (rm8 f v wd 27 + 1)
def rmX (f v : Int → Int) (wd : Int) : Int → Int := if cmR f v = 5 then up (rm9 f v wd) 29 (rm9 f v wd 29 + 1) else muV f (isSR f (rm9 f v wd) 59) (rm9 f v wd)
def rmV (f v : Int → Int) (wd : Int) : Int → Int := if rm2 f v 18 = 0 then (if rm8 f v wd 18 = 0 then rmX f v wd else rm8 f v wd) else rm2 f v
def rmS (f v sc : Int → Int) (wd : Int) : Int → Int := if rm2 f v 18 = 0 ∧ rm8 f v wd 18 = 0 then laS sc (rm8 f v wd 27) (cmR f v) (rmA f v) (rmB f v wd) (rmC f v wd) else sc
theorem rm1_P {f v : Int → Int} (h : vP f v) : vP f (rm1 f v) := by
  unfold rm1
  split
  · exact h.fa (by decide)
  · exact h
theorem rm2_P {f v : Int → Int} (h : vP f v) : vP f (rm2 f v) := by
  unfold rm2
  split
  · exact (rm1_P h).fa (by decide)
  · exact rm1_P h
theorem rm2_E {f v : Int → Int} : vE v (rm2 f v) := by
  have e : vE v (rm1 f v) := by
    unfold rm1
    split
    · exact vE.fa 1 v
    · exact vE.rf v
  unfold rm2
  split
  · exact e.tr (vE.fa 6 _)
  · exact e
theorem rm0_P {f v : Int → Int} (h : vP f v) : vP f (up (rm2 f v) 28 (rm2 f v 28 + 1)) := (rm2_P h).fld rfl rfl rfl rfl rfl rfl
theorem rm3_P {f v : Int → Int} (h : vP f v) : vP f (rm3 f v) := (rm0_P h).go
theorem rm4_P {f v : Int → Int} (h : vP f v) : vP f (rm4 f v) := by
  unfold rm4
  (repeat' split) <;> first | exact (rm3_P h).tk | exact rm3_P h
theorem rm4_E {f v : Int → Int} (h : vP f v) : vE (rm3 f v) (rm4 f v) := by
  unfold rm4
  (repeat' split) <;> first | exact vE.tk (rm3_P h) | exact vE.rf _
theorem rm5_P {f v : Int → Int} {wd : Int} (h : vP f v) : vP f (rm5 f v wd) := by
  unfold rm5
  split
  · exact (rm4_P h).tk
  · exact rm4_P h
theorem rm5_E {f v : Int → Int} {wd : Int} (h : vP f v) : vE (rm3 f v) (rm5 f v wd) := by
  unfold rm5
  split
  · exact (rm4_E h).tr (vE.tk (rm4_P h))
  · exact rm4_E h
theorem rm6_P {f v : Int → Int} {wd : Int} (h : vP f v) : vP f (rm6 f v wd) := by
  unfold rm6
  split
  · exact (rm5_P h).go
  · exact rm5_P h
theorem rm6_E {f v : Int → Int} {wd : Int} (h : vP f v) : vE (rm3 f v) (rm6 f v wd) := by
  unfold rm6
  split
  · exact (rm5_E h).tr (vE.go (rm5_P h))
  · exact rm5_E h
theorem rm7_P {f v : Int → Int} {wd : Int} (h : vP f v) : vP f (rm7 f v wd) := by
  unfold rm7
  split
  · exact (rm6_P h).tk
  · exact rm6_P h
theorem rm7_E {f v : Int → Int} {wd : Int} (h : vP f v) : vE (rm3 f v) (rm7 f v wd) := by
  unfold rm7
  split
  · exact (rm6_E h).tr (vE.tk (rm6_P h))
  · exact rm6_E h
theorem rm8_P {f v : Int → Int} {wd : Int} (h : vP f v) : vP f (rm8 f v wd) := by
  unfold rm8
  split
  · exact (rm7_P h).mu
  · exact rm7_P h
theorem rm8_E {f v : Int → Int} {wd : Int} (h : vP f v) : vE (rm3 f v) (rm8 f v wd) := by
  unfold rm8
  split
  · exact (rm7_E h).tr (vE.mu (rm7_P h))
  · exact rm7_E h
theorem rm9_P {f v : Int → Int} {wd : Int} (h : vP f v) : vP f (rm9 f v wd) := (rm8_P h).fld rfl rfl rfl rfl rfl rfl
theorem rm3_n {f v : Int → Int} {k : Int} (hk : k < 14 ∨ 19 < k) (h2 : k ≠ 28) : rm3 f v k = v k := by
  unfold rm3
  rw [go_n (by omega), up_n h2]
  exact rm2_E.1 k hk
theorem rm3_28 {f v : Int → Int} : rm3 f v 28 = v 28 + 1 := by
  unfold rm3
  rw [go_n (by omega), up_s, rm2_E.1 28 (by omega)]
theorem rm8_n {f v : Int → Int} {wd k : Int} (h : vP f v) (hk : k < 14 ∨ 19 < k) (h2 : k ≠ 28) : rm8 f v wd k = v k := by
  rw [(rm8_E h).1 k hk, rm3_n hk h2]
theorem rm8_28 {f v : Int → Int} {wd : Int} (h : vP f v) : rm8 f v wd 28 = v 28 + 1 := by
  rw [(rm8_E h).1 28 (by omega), rm3_28]
theorem rmX_P {f v : Int → Int} {wd : Int} (h : vP f v) : vP f (rmX f v wd) := by
  unfold rmX
  split
  · exact (rm9_P h).fld rfl rfl rfl rfl rfl rfl
  · exact (rm9_P h).mu
theorem rmV_P {f v : Int → Int} {wd : Int} (h : vP f v) : vP f (rmV f v wd) := by
  unfold rmV
  (repeat' split)
  · exact rmX_P h
  · exact rm8_P h
  · exact rm2_P h
theorem rmA_r (f v : Int → Int) : 0 ≤ rmA f v ∧ rmA f v ≤ 30 := by
  unfold rmA
  have h1 := seR_r (v := rm3 f v) (lo := 0) (hi := 6) (by decide)
  have h2 := seR_r (v := rm3 f v) (lo := 1) (hi := 30) (by decide)
  have h3 := seR_r (v := rm3 f v) (lo := 0) (hi := 30) (by decide)
  have h4 := seR_r (v := rm3 f v) (lo := 1) (hi := 20) (by decide)
  (repeat' split) <;> omega
theorem rmB_r {f v : Int → Int} {wd : Int} (hw : 8 ≤ wd) : 0 ≤ rmB f v wd ∧ rmB f v wd ≤ wd - 1 := by
  unfold rmB
  have h1 := seR_r (v := rm4 f v) (lo := 0) (hi := wd - 1) (by omega)
  have h2 := bz_r (isWR f (rm4 f v) 10)
  (repeat' split) <;> omega
theorem rmC_r {f v : Int → Int} {wd : Int} (hw : 8 ≤ wd) : 0 ≤ rmC f v wd ∧ rmC f v wd ≤ wd - 1 := by
  have h0 := rmB_r (f := f) (v := v) hw
  unfold rmC
  have h1 := seR_r (v := rm6 f v wd) (lo := rmB f v wd) (hi := wd - 1) (by omega)
  (repeat' split) <;> omega
/-- what a script that is being read keeps -/
def sI (f v : Int → Int) : Prop := vP f v ∧ (0 ≤ v 29 ∧ v 29 ≤ 3) ∧ (0 ≤ v 28 ∧ v 28 ≤ 30) ∧ (0 ≤ v 27 ∧ v 27 + v 29 ≤ 2 * v 28)
theorem rm2_0 {f v : Int → Int} (h : rm2 f v 18 = 0) : rm2 f v = v ∧ cmR f v ≠ -1 ∧ v 28 ≠ 30 ∧ ¬ (cmR f v = 5 ∧ v 29 = 3) := by
  unfold rm2 at h ⊢
  split at h
  · exact (fa_0 (by decide) h).elim
  · rename_i g
    rw [if_neg g]
    unfold rm1 at h ⊢
    split at h
    · exact (fa_0 (by decide) h).elim
    · rename_i g2
      rw [if_neg g2]
      exact ⟨rfl, g2, fun z => g (.inl z), fun z => g (.inr z)⟩
theorem rmX_n {f v : Int → Int} {wd : Int} (h : vP f v) : rmX f v wd 28 = v 28 + 1 ∧ rmX f v wd 27 = v 27 + 1 ∧ rmX f v wd 29 = (if cmR f v = 5 then v 29 + 1 else v 29) := by
  have e27 : rm9 f v wd 27 = v 27 + 1 := by
    show rm8 f v wd 27 + 1 = _
    rw [rm8_n h (by omega) (by decide)]
  have e28 : rm9 f v wd 28 = v 28 + 1 := by
    show rm8 f v wd 28 = _
    exact rm8_28 h
  have e29 : rm9 f v wd 29 = v 29 := by
    show rm8 f v wd 29 = _
    exact rm8_n h (by omega) (by decide)
  unfold rmX
  split
  · exact ⟨e28, e27, by rw [up_s, e29]⟩
  · exact ⟨by rw [mu_n (by omega)]; exact e28, by rw [mu_n (by omega)]; exact e27, by rw [mu_n (by omega)]; exact e29⟩
theorem rmV_I {f v : Int → Int} {wd : Int} (h : sI f v) : sI f (rmV f v wd) := by
  obtain ⟨hp, h29, h28, h27⟩ := h
  refine ⟨rmV_P hp, ?_⟩
  have e2 := (rm2_E (f := f) (v := v)).1
  unfold rmV
  split
  · rename_i g
    obtain ⟨-, g1, g2, g3⟩ := rm2_0 g
    split
    · obtain ⟨x1, x2, x3⟩ := rmX_n (wd := wd) hp
      rw [x1, x2, x3]
      split <;> omega
    · rw [rm8_28 hp, rm8_n hp (by omega) (by decide), rm8_n hp (by omega) (by decide)]
      omega
  · rw [e2 27 (by omega), e2 28 (by omega), e2 29 (by omega)]
    omega
theorem wr_0 {f v : Int → Int} {k : Nat} (h : isWR f v k = true) : v 18 = 0 ∧ v 16 = 1 := by
  unfold isWR at h
  rw [Bool.and_eq_true, Bool.and_eq_true] at h
  exact ⟨of_decide_eq_true h.1.1, of_decide_eq_true h.1.2⟩
theorem cm_0 {f v : Int → Int} (h : cmR f v ≠ -1) : v 18 = 0 ∧ v 16 = 1 := by
  unfold cmR at h
  (repeat' split at h) <;> first | (rename_i g; exact wr_0 g) | exact absurd rfl h
theorem rmV_m {f v : Int → Int} {wd : Int} (h : vP f v) (h0 : rmV f v wd 18 = 0) : v 15 + 1 ≤ rmV f v wd 15 := by
  unfold rmV at h0 ⊢
  split at h0
  · rename_i g
    rw [if_pos g]
    obtain ⟨g0, g1, g2, g3⟩ := rm2_0 g
    have hw := wd_p h.1 (cm_0 g1).2
    have h3 := (go_m (rm0_P h)).2
    rw [up_n (by decide), g0] at h3
    have e3 : rm3 f v = goV f (up v 28 (v 28 + 1)) := by unfold rm3; rw [g0]
    have h3' : v 14 ≤ rm3 f v 15 := by rw [e3]; exact h3
    have h8 := (rm8_E (wd := wd) h).2
    split at h0
    · rename_i g8
      rw [if_pos g8]
      have h9 : rm9 f v wd 15 = rm8 f v wd 15 := rfl
      have hX : rm9 f v wd 15 ≤ rmX f v wd 15 := by
        unfold rmX
        split
        · rw [up_n (by decide)]; omega
        · exact (vE.mu (rm9_P h)).2
      omega
    · exact absurd h0 (by assumption)
  · exact absurd h0 (by assumption)
/-! one step of a script that is being read; all of them -/
def clB (f v : Int → Int) : Bool := decide (0 < v 29) && isSR f v 125
def cl1 (v : Int → Int) : Int → Int := up (up v 29 (v 29 - 1)) 27 (v 27 + 1)
def cl2 (f v : Int → Int) : Int → Int := goV f (cl1 v)
def clV (f v : Int → Int) : Int → Int := muV f (isSR f (cl2 f v) 59) (cl2 f v)
def csV (f v : Int → Int) (wd : Int) : Int → Int := if clB f v = true then clV f v else rmV f v wd
def csS (f v sc : Int → Int) (wd : Int) : Int → Int := if clB f v = true then laS sc (v 27) 6 0 0 0 else rmS f v sc wd
theorem clB_0 {f v : Int → Int} (h : clB f v = true) : 0 < v 29 ∧ v 18 = 0 ∧ v 16 = 3 ∧ f (v 15) = 125 := by
  unfold clB at h
  rw [Bool.and_eq_true] at h
  exact ⟨of_decide_eq_true h.1, sr_0 h.2⟩
theorem cl1_P {f v : Int → Int} (h : vP f v) : vP f (cl1 v) := h.fld rfl rfl rfl rfl rfl rfl
theorem cl2_P {f v : Int → Int} (h : vP f v) : vP f (cl2 f v) := (cl1_P h).go
theorem clV_n {f v : Int → Int} {k : Int} (hk : k < 14 ∨ 19 < k) : clV f v k = cl1 v k := by
  unfold clV cl2
  rw [mu_n hk, go_n (by omega)]
theorem csV_I {f v : Int → Int} {wd : Int} (h : sI f v) : sI f (csV f v wd) := by
  unfold csV
  split
  · rename_i g
    have g1 := clB_0 g
    obtain ⟨hp, h29, h28, h27⟩ := h
    refine ⟨(cl2_P hp).mu, ?_⟩
    rw [clV_n (by omega), clV_n (by omega), clV_n (by omega)]
    have e1 : cl1 v 29 = v 29 - 1 := rfl
    have e2 : cl1 v 27 = v 27 + 1 := rfl
    have e3 : cl1 v 28 = v 28 := rfl
    rw [e1, e2, e3]
    omega
  · exact rmV_I h
theorem csV_m {f v : Int → Int} {wd : Int} (h : vP f v) (h0 : csV f v wd 18 = 0) : v 15 + 1 ≤ csV f v wd 15 := by
  unfold csV at h0 ⊢
  split at h0
  · rename_i g
    rw [if_pos g]
    have h1 := mk_m (cl2_P h) (show muV f (isSR f (cl2 f v) 59) (cl2 f v) 18 = 0 from h0)
    have h2 := (vE.go (cl1_P h)).2
    have e : cl1 v 15 = v 15 := rfl
    have h3 : cl1 v 15 ≤ cl2 f v 15 := h2
    unfold clV
    omega
  · rename_i g
    rw [if_neg g]
    exact rmV_m h h0
def sgG (f : Int → Int) (wd : Int) : Nat → (Int → Int) → (Int → Int) → (Int → Int) × (Int → Int)
  | 0, v, sc => (v, sc)
  | n + 1, v, sc => if v 18 = 0 ∧ v 16 ≠ 0 then sgG f wd n (csV f v wd) (csS f v sc wd) else (v, sc)
theorem sgG_e {f v sc : Int → Int} {wd : Int} (h : ¬ (v 18 = 0 ∧ v 16 ≠ 0)) : ∀ n : Nat, sgG f wd n v sc = (v, sc)
  | 0 => rfl
  | n + 1 => by
    show (if v 18 = 0 ∧ v 16 ≠ 0 then sgG f wd n (csV f v wd) (csS f v sc wd) else (v, sc)) = _
    rw [if_neg h]
theorem sgG_s {f v sc : Int → Int} {wd i : Int} (hi : i < 402) (h : v 18 = 0 ∧ v 16 ≠ 0) : sgG f wd (402 - i).toNat v sc = sgG f wd (402 - (i + 1)).toNat (csV f v wd) (csS f v sc wd) := by
  rw [show (402 - i).toNat = (402 - (i + 1)).toNat + 1 by omega]
  show (if v 18 = 0 ∧ v 16 ≠ 0 then sgG f wd _ (csV f v wd) (csS f v sc wd) else (v, sc)) = _
  rw [if_pos h]
def sc0 (v : Int → Int) : Int → Int := up (up (up v 27 0) 28 0) 29 0
def sgF (f v sc : Int → Int) (wd : Int) : (Int → Int) × (Int → Int) := sgG f wd 402 (sc0 v) sc
def sgV (f v sc : Int → Int) (wd : Int) : Int → Int := if 0 < (sgF f v sc wd).1 29 then faV 1 (sgF f v sc wd).1 else (sgF f v sc wd).1
theorem sc0_I {f v : Int → Int} (h : vP f v) : sI f (sc0 v) := ⟨h.fld rfl rfl rfl rfl rfl rfl, by show 0 ≤ (0 : Int) ∧ (0 : Int) ≤ 3; decide, by show 0 ≤ (0 : Int) ∧ (0 : Int) ≤ 30; decide, by show 0 ≤ (0 : Int) ∧ (0 : Int) + 0 ≤ 2 * 0; decide⟩
