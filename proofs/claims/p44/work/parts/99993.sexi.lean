/-! ===== the reference's reading alone: the pieces it lays ===== -/
/-- some arrays of the class would go with what the reference has read; the open repeats are those that v 29 counts -/
def opX (v sc : Int → Int) (wd : Int) : Prop := (∃ ac kd ar op ah, Op kd ar sc wd op ah (v 29).toNat (v 27) ac) ∧ v 29 = dep sc (v 27) ∧ ∀ p, 0 ≤ p → p < v 27 → sc (4 * p) = 5 → dep sc p < 3
theorem dep_c {sc sc' : Int → Int} : ∀ {p : Nat}, (∀ q : Int, 0 ≤ q → q < p → sc' (4 * q) = sc (4 * q)) → dep sc' p = dep sc p
  | 0, _ => by
    unfold dep
    rw [show ((0 : Nat) : Int) = 0 from rfl]
    have e : ∀ f : Int → Bool, cnt f 0 0 = 0 := fun f => sm_0 _ _
    rw [e, e, e, e]
  | p + 1, h => by
    have ih := dep_c (sc := sc) (sc' := sc') (p := p) (fun q q0 q1 => h q q0 (by omega))
    rw [show ((p + 1 : Nat) : Int) = (p : Int) + 1 by omega, dep_s (by omega), dep_s (by omega), ih, h p (by omega) (by omega)]
theorem dep_i {sc sc' : Int → Int} {p : Int} (h0 : 0 ≤ p) (h : ∀ q : Int, 0 ≤ q → q < p → sc' (4 * q) = sc (4 * q)) : dep sc' p = dep sc p := by
  have e := dep_c (sc := sc) (sc' := sc') (p := p.toNat) (fun q q0 q1 => h q q0 (by omega))
  rw [show ((p.toNat : Nat) : Int) = p by omega] at e
  exact e
theorem opX_cl {f v sc : Int → Int} {wd : Int} (hsi : sI f v) (hcl : 0 < v 29) (h : opX v sc wd) : opX (clV f v) (laS sc (v 27) 6 0 0 0) wd := by
  obtain ⟨⟨ac, kd, ar, op, ah, hOp⟩, hd, hp⟩ := h
  obtain ⟨hv, h29, h28, h27⟩ := hsi
  obtain ⟨ho, hO⟩ := op_in hOp hcl
  have e27 : clV f v 27 = v 27 + 1 := (clV_n (by omega)).trans rfl
  have e29 : clV f v 29 = v 29 - 1 := (clV_n (by omega)).trans rfl
  have ek : (((v 29 - 1).toNat : Nat) : Int) = v 29 - 1 := by omega
  have hl := la_v (sc := sc) (n := v 27) (a := 6) (b := 0) (x := 0) (y := 0)
  have hdc : ∀ p, 0 ≤ p → p ≤ v 27 → dep (laS sc (v 27) 6 0 0 0) p = dep sc p := fun p p0 p1 => dep_i p0 (fun q q0 q1 => la_o (by omega))
  refine ⟨⟨ac, up kd (v 27) 6, up (up (up ar (3 * op (v 29 - 1) + 1) (v 27)) (3 * op (v 29 - 1)) (if ac = ah (v 29 - 1) then 0 else ar (3 * op (v 29 - 1)))) (3 * v 27) (op (v 29 - 1)), op, ah, ?_⟩, ?_, fun p p0 p1 p5 => ?_⟩
  · rw [e27, e29]
    refine hO.cls (fun p p0 p1 p2 => ?_) ?_ (up_s _ _ _) hl.1 ?_ ?_ ?_
    · rw [ek] at p2
      exact ⟨up_n (by omega), ⟨by rw [up_n (by omega), up_n (by omega), up_n (by omega)], by rw [up_n (by omega), up_n (by omega), up_n (by omega)], by rw [up_n (by omega), up_n (by omega), up_n (by omega)]⟩, la_o (by omega), la_o (by omega), la_o (by omega), la_o (by omega)⟩
    · rw [ek]
      exact ⟨up_n (by omega), fun j j0 j1 => la_o (by omega)⟩
    · rw [ek, up_s]
    · rw [ek, up_n (by omega), up_n (by omega), up_s]
    · rw [ek, up_n (by omega), up_s]
  · rw [e27, e29, dep_s (by omega), hl.1, hdc _ (by omega) (by omega), if_neg (by decide), if_pos rfl]
    omega
  · rw [e27] at p1
    by_cases g : p = v 27
    · rw [g, hl.1] at p5
      exact absurd p5 (by decide)
    · rw [hdc p p0 (by omega)]
      exact hp p p0 (by omega) (by rw [← p5]; exact (la_o (by omega)).symm)
theorem rmV_0 {f v : Int → Int} {wd : Int} (h : rmV f v wd 18 = 0) : rm2 f v 18 = 0 ∧ rm8 f v wd 18 = 0 ∧ rmV f v wd = rmX f v wd := by
  have e : rmV f v wd = (if rm2 f v 18 = 0 then (if rm8 f v wd 18 = 0 then rmX f v wd else rm8 f v wd) else rm2 f v) := rfl
  by_cases h2 : rm2 f v 18 = 0
  · rw [if_pos h2] at e
    by_cases h8 : rm8 f v wd 18 = 0
    · rw [if_pos h8] at e
      exact ⟨h2, h8, e⟩
    · rw [if_neg h8] at e
      rw [e] at h
      exact absurd h h8
  · rw [if_neg h2] at e
    rw [e] at h
    exact absurd h h2
theorem opX_rm {f v sc : Int → Int} {wd : Int} (hsi : sI f v) (hw : 8 ≤ wd) (hf : rmV f v wd 18 = 0) (h : opX v sc wd) : opX (rmV f v wd) (rmS f v sc wd) wd := by
  obtain ⟨h2, h8, eV⟩ := rmV_0 hf
  obtain ⟨⟨ac, kd, ar, op, ah, hOp⟩, hd, hp⟩ := h
  obtain ⟨hv, h29, h28, h27⟩ := hsi
  obtain ⟨x1, x2, x3⟩ := rmX_n (wd := wd) hv
  obtain ⟨-, c1, c2, c3⟩ := rm2_0 h2
  have hcr := cmR_r f v
  rw [eV, rmS_e hv h2 h8]
  have hl := la_v (sc := sc) (n := v 27) (a := cmR f v) (b := rmA f v) (x := rmB f v wd) (y := rmC f v wd)
  have hdc : ∀ p, 0 ≤ p → p ≤ v 27 → dep (laS sc (v 27) (cmR f v) (rmA f v) (rmB f v wd) (rmC f v wd)) p = dep sc p := fun p p0 p1 => dep_i p0 (fun q q0 q1 => la_o (by omega))
  refine ⟨?_, ?_, fun p p0 p1 p5 => ?_⟩
  · by_cases hc : cmR f v = 5
    · have eA : rmA f v = seR 1 20 (rm3 f v) := by unfold rmA; rw [if_neg (by omega), if_neg (by omega), if_neg (by omega), if_pos hc]
      have hA := seR_r (v := rm3 f v) (lo := 1) (hi := 20) (by decide)
      refine ⟨ac, up kd (v 27) (cmR f v), up ar (3 * v 27) (rmA f v), up op (v 29) (v 27), up ah (v 29) ac, ?_⟩
      rw [x2, x3, if_pos hc, show (v 29 + 1).toNat = (v 29).toNat + 1 by omega]
      have hq := (hOp.cg (kd' := up kd (v 27) (cmR f v)) (ar' := up ar (3 * v 27) (rmA f v)) (sc' := laS sc (v 27) (cmR f v) (rmA f v) (rmB f v wd) (rmC f v wd)) (op' := op) (ah' := ah) (fun p p0 p1 => ⟨up_n (by omega), ⟨up_n (by omega), up_n (by omega), up_n (by omega)⟩, la_o (by omega), la_o (by omega), la_o (by omega), la_o (by omega)⟩) (fun i _ _ => ⟨rfl, rfl⟩)).beg (by rw [up_s]; exact hc) (hl.1.trans hc) (by rw [hl.2.1, eA]; exact hA) (by rw [up_s, hl.2.1])
      rw [show (((v 29).toNat : Nat) : Int) = v 29 by omega] at hq
      exact hq
    · refine ⟨ac + 1, up kd (v 27) (cmR f v), caA (cmR f v) ar (v 27) (rmA f v) (rmB f v wd) (rmC f v wd), op, ah, ?_⟩
      rw [x2, x3, if_neg hc]
      exact hOp.act (fun p p0 p1 => ⟨up_n (by omega), ⟨ca_o (by omega), ca_o (by omega), ca_o (by omega)⟩, la_o (by omega), la_o (by omega), la_o (by omega), la_o (by omega)⟩) (ca_ok hw (by omega))
  · rw [x2, x3, dep_s (by omega), hl.1, hdc _ (by omega) (by omega)]
    by_cases hc : cmR f v = 5
    · rw [if_pos hc, if_pos hc, if_neg (by omega)]
      omega
    · rw [if_neg hc, if_neg hc, if_neg (by omega)]
      omega
  · rw [x2] at p1
    by_cases g : p = v 27
    · rw [g, hl.1] at p5
      rw [g, hdc _ (by omega) (by omega), ← hd]
      omega
    · rw [hdc p p0 (by omega)]
      exact hp p p0 (by omega) (by rw [← p5]; exact (la_o (by omega)).symm)
theorem opX_cs {f v sc : Int → Int} {wd : Int} (hsi : sI f v) (hw : 8 ≤ wd) (hf : csV f v wd 18 = 0) (h : opX v sc wd) : opX (csV f v wd) (csS f v sc wd) wd := by
  by_cases g : clB f v = true
  · have e1 : csV f v wd = clV f v := if_pos g
    have e2 : csS f v sc wd = laS sc (v 27) 6 0 0 0 := if_pos g
    rw [e1, e2]
    exact opX_cl hsi (clB_0 g).1 h
  · have e1 : csV f v wd = rmV f v wd := if_neg g
    have e2 : csS f v sc wd = rmS f v sc wd := if_neg g
    rw [e1] at hf
    rw [e1, e2]
    exact opX_rm hsi hw hf h
theorem opX_G {f : Int → Int} {wd : Int} (hw : 8 ≤ wd) : ∀ (n : Nat) (v sc : Int → Int), sI f v → opX v sc wd → (sgG f wd n v sc).1 18 = 0 → opX (sgG f wd n v sc).1 (sgG f wd n v sc).2 wd
  | 0, v, sc, _, h, _ => h
  | n + 1, v, sc, hsi, h, hf => by
    by_cases g : v 18 = 0 ∧ v 16 ≠ 0
    · have e : sgG f wd (n + 1) v sc = sgG f wd n (csV f v wd) (csS f v sc wd) := if_pos g
      rw [e] at hf ⊢
      by_cases hz : csV f v wd 18 = 0
      · exact opX_G hw n _ _ (csV_I hsi) (opX_cs hsi hw hz h) hf
      · rw [sgG_e (fun z => hz z.1)] at hf
        exact absurd hf hz
    · rw [sgG_e g]
      exact h
theorem opX_0 {v sc : Int → Int} {wd : Int} : opX (sc0 v) sc wd := by
  have e27 : sc0 v 27 = 0 := rfl
  have e29 : sc0 v 29 = 0 := rfl
  refine ⟨⟨0, fun _ => 0, fun _ => 0, fun _ => 0, fun _ => 0, ?_⟩, ?_, fun p p0 p1 => ?_⟩
  · rw [e27, e29]
    exact ⟨[], Sg.nil 0⟩
  · rw [e27, e29]
    unfold dep
    have e : ∀ f : Int → Bool, cnt f 0 0 = 0 := fun f => sm_0 _ _
    rw [e, e]
    rfl
  · rw [e27] at p1
    omega
