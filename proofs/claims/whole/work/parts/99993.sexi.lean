/-! ===== the reference's reading alone: the pieces it lays ===== -/
/-- some arrays of the class would go with what the reference has read; the open repeats are those that v 29 counts -/
def opX (v sc : Int → Int) (wd : Int) : Prop := (∃ ac kd ar op ah, Op kd ar sc wd op ah (v 29).toNat (v 27) ac) ∧ v 29 = dep sc (v 27) ∧ ∀ p, 0 ≤ p → p < v 27 → sc (4 * p) = 5 → dep sc p < 3
theorem dep_c {sc sc' : Int → Int} : ∀ {p : Nat}, (∀ q : Int, 0 ≤ q → q < p → sc' (4 * q) = sc (4 * q)) → dep sc' p = dep sc p
  | 0, _ => by
    unfold dep
    rw [show ((0 : Nat) : Int) = 0 from rfl]
    have e : ∀ f : Int → Bool, cnt f 0 0 = 0 := fun f => sm_0 _ _
    rw [e, e, e, e]
  | p + 1, h => by
    have ih := dep_c (sc := sc) (sc' := sc') (p := p) (fun q q0 q1 => h q q0 (by omega))
    rw [show ((p + 1 : Nat) : Int) = (p : Int) + 1 by omega, dep_s (by omega), dep_s (by omega), ih, h p (by omega) (by omega)]
theorem dep_i {sc sc' : Int → Int} {p : Int} (h0 : 0 ≤ p) (h : ∀ q : Int, 0 ≤ q → q < p → sc' (4 * q) = sc (4 * q)) : dep sc' p = dep sc p := by
  have e := dep_c (sc := sc) (sc' := sc') (p := p.toNat) (fun q q0 q1 => h q q0 (by omega))
  rw [show ((p.toNat : Nat) : Int) = p by omega] at e
  exact e
theorem opX_cl {f v sc : Int → Int} {wd : Int} (hsi : sI f v) (hcl : 0 < v 29) (h : opX v sc wd) : opX (clV f v) (laS sc (v 27) 6 0 0 0) wd := by
  obtain ⟨⟨ac, kd, ar, op, ah, hOp⟩, hd, hp⟩ := h
  obtain ⟨hv, h29, h28, h27⟩ := hsi
  obtain ⟨ho, hO⟩ := op_in hOp hcl
  have e27 : clV f v 27 = v 27 + 1 := (clV_n (by omega)).trans rfl
  have e29 : clV f v 29 = v 29 - 1 := (clV_n (by omega)).trans rfl
  have ek : (((v 29 - 1).toNat : Nat) : Int) = v 29 - 1 := by omega
  have hl := la_v (sc := sc) (n := v 27) (a := 6) (b := 0) (x := 0) (y := 0)
  have hdc : ∀ p, 0 ≤ p → p ≤ v 27 → dep (laS sc (v 27) 6 0 0 0) p = dep sc p := fun p p0 p1 => dep_i p0 (fun q q0 q1 => la_o (by omega))
  refine ⟨⟨ac, up kd (v 27) 6, up (up (up ar (3 * op (v 29 - 1) + 1) (v 27)) (3 * op (v 29 - 1)) (if ac = ah (v 29 - 1) then 0 else ar (3 * op (v 29 - 1)))) (3 * v 27) (op (v 29 - 1)), op, ah, ?_⟩, ?_, fun p p0 p1 p5 => ?_⟩
  · rw [e27, e29]
    refine hO.cls (fun p p0 p1 p2 => ?_) ?_ (up_s _ _ _) hl.1 ?_ ?_ ?_
    · rw [ek] at p2
      exact ⟨up_n (by omega), ⟨by rw [up_n (by omega), up_n (by omega), up_n (by omega)], by rw [up_n (by omega), up_n (by omega), up_n (by omega)], by rw [up_n (by omega), up_n (by omega), up_n (by omega)]⟩, la_o (by omega), la_o (by omega), la_o (by omega), la_o (by omega)⟩
    · rw [ek]
      exact ⟨up_n (by omega), fun j j0 j1 => la_o (by omega)⟩
    · rw [ek, up_s]
    · rw [ek, up_n (by omega), up_n (by omega), up_s]
    · rw [ek, up_n (by omega), up_s]
  · rw [e27, e29, dep_s (by omega), hl.1, hdc _ (by omega) (by omega), if_neg (by decide), if_pos rfl]
    omega
  · rw [e27] at p1
    by_cases g : p = v 27
    · rw [g, hl.1] at p5
      exact absurd p5 (by decide)
    · rw [hdc p p0 (by omega)]
      exact hp p p0 (by omega) (by rw [← p5]; exact (la_o (by omega)).symm)
