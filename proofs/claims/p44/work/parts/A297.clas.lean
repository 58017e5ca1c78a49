/-! ===== all of the class's object; what would be ===== -/
def KC (X : Cx) (w : Wo) (y : Nat) (su : Int) (σ : Int → Int) (nx sz : Int) (pas : Int → Int → Int) (ac tx : Int → Int) (M : Int) (oo rv : Int → Int) : Prop :=
  clO X w y su ∧ loomAt X w (y + 1) σ ∧ hisAt X w (y + 53) nx sz pas ∧ w (y + 305) = some (aZ X 9 ac) ∧ w (y + 307) = some (.inr (0, [.ref (y + 308), .int (iI 0)])) ∧ w (y + 308) = some (aZ X 400 tx) ∧ w (y + 309) = some (.inr (0, [.ref (y + 310), .int (iI M)])) ∧ w (y + 310) = some (aZ X 400 oo) ∧ w (y + 311) = some (.inr (6, rL (y + 307) rv)) ∧ dsA X w y ∧ scE X w y ∧ (∃ am, w (y + 306) = some (aZ X 7 am)) ∧ (∃ n sd x9 y9 co f, capV X w (y + 51) n sd x9 y9 co f) ∧ (0 ≤ M ∧ M ≤ 80) ∧ (∀ q : Nat, y + 255 ≤ q → q < y + 305 → w q ≠ none)
def KS (X : Cx) (w : Wo) (y : Nat) (σ : Int → Int) (nx sz : Int) (pas : Int → Int → Int) (ac : Int → Int) : Prop := ∃ (su : Int) (tx : Int → Int) (M : Int) (oo rv : Int → Int), KC X w y su σ nx sz pas ac tx M oo rv
/-- what the class does where it looks ahead and where it writes -/
theorem KC.rd {X : Cx} {w w2 : Wo} {y : Nat} {su nx sz M M2 : Int} {σ ac tx oo oo2 rv : Int → Int} {pas : Int → Int → Int} (h : KC X w y su σ nx sz pas ac tx M oo rv) (hf : ∀ q : Nat, y ≤ q → q < y + 321 → q ≠ y + 51 → q ≠ y + 306 → q ≠ y + 309 → q ≠ y + 310 → w2 q = w q) (h1 : w2 (y + 309) = some (.inr (0, [.ref (y + 310), .int (iI M2)]))) (h2 : w2 (y + 310) = some (aZ X 400 oo2)) (h3 : ∃ am, w2 (y + 306) = some (aZ X 7 am)) (h4 : ∃ n sd x9 y9 co f, capV X w2 (y + 51) n sd x9 y9 co f) (h5 : 0 ≤ M2 ∧ M2 ≤ 80) : KC X w2 y su σ nx sz pas ac tx M2 oo2 rv := by
  obtain ⟨c0, c1, c2, c3, c4, c5, c6, c7, c8, c9, c10, c11, c12, c13, c14⟩ := h
  have g : ∀ q : Nat, y ≤ q → q < y + 321 → (q < y + 51 ∨ y + 51 < q) → (q < y + 306 ∨ y + 306 < q) → (q < y + 309 ∨ y + 310 < q) → w2 q = w q := fun q q0 q1 q2 q3 q4 => hf q q0 q1 (by omega) (by omega) (by omega) (by omega)
  exact ⟨(g _ (by omega) (by omega) (by omega) (by omega) (by omega)).trans c0, c1.mv (fun q q0 q1 => g q (by omega) (by omega) (by omega) (by omega) (by omega)), c2.mv (fun q q0 q1 => g q (by omega) (by omega) (by omega) (by omega) (by omega)), (g _ (by omega) (by omega) (by omega) (by omega) (by omega)).trans c3, (g _ (by omega) (by omega) (by omega) (by omega) (by omega)).trans c4, (g _ (by omega) (by omega) (by omega) (by omega) (by omega)).trans c5, h1, h2, (g _ (by omega) (by omega) (by omega) (by omega) (by omega)).trans c8, c9.mv (fun q q0 q1 q2 => g q (by omega) (by omega) (by omega) (by omega) (by omega)), c10.mv (fun q q0 q1 => g q (by omega) (by omega) (by omega) (by omega) (by omega)), h3, h4, h5, fun q q0 q1 => by rw [g q (by omega) (by omega) (by omega) (by omega) (by omega)]; exact c14 q q0 q1⟩
theorem ownN.up {X : Cx} {w w2 : Wo} {N : Nat → Prop} {h : Nat} {σ : Int → Int} (hO : ownN X w N h σ) (g : ext w w2) : ownN X w2 N h σ :=
  ⟨hO.1.ex (wr_ex g), fun q hq => (by
    have h1 := hO.2.1 q hq
    cases h2 : w q with
    | none => exact absurd h2 h1
    | some e => rw [g q e h2]; simp), hO.2.2⟩
theorem eqK {w w2 : Wo} {q : Nat} (hk : w q ≠ none) (h : ∀ e, w q = some e → w2 q = some e) : w2 q = w q := by
  cases h2 : w q with
  | none => exact absurd h2 hk
  | some e => exact h e h2
theorem kn_s {w w2 : Wo} {q a1 a2 a3 a4 a5 : Nat} {e1 e2 e3 e4 e5 : va_E} (hk : w q ≠ none) (h1 : w2 a1 = some e1) (h2 : w2 a2 = some e2) (h3 : w2 a3 = some e3) (h4 : w2 a4 = some e4) (h5 : w2 a5 = some e5) (h : ∀ e, w q = some e → q ≠ a1 → q ≠ a3 → q ≠ a2 → q ≠ a4 → q ≠ a5 → w2 q = some e) : w2 q ≠ none := by
  by_cases g1 : q = a1
  · rw [g1, h1]; simp
  by_cases g2 : q = a2
  · rw [g2, h2]; simp
  by_cases g3 : q = a3
  · rw [g3, h3]; simp
  by_cases g4 : q = a4
  · rw [g4, h4]; simp
  by_cases g5 : q = a5
  · rw [g5, h5]; simp
  cases h9 : w q with
  | none => exact absurd h9 hk
  | some e => rw [h e h9 g1 g3 g2 g4 g5]; simp
theorem min_ee : ∀ W : Nat, W < 41 → ∀ j : Nat, j < 40 → minZ (W : Int) (j : Int) = ((W : Int) + 7 * (j : Int)) / 4 := by unfold minZ; decide +kernel
theorem min_e {W j : Int} (hW : 0 ≤ W ∧ W ≤ 40) (hj : 0 ≤ j ∧ j < 40) : minZ W j = (W + 7 * j) / 4 := by
  have h := min_ee W.toNat (by omega) j.toNat (by omega)
  rw [show ((W.toNat : Nat) : Int) = W by omega, show ((j.toNat : Nat) : Int) = j by omega] at h
  exact h
theorem due_wv {σ : Int → Int} (h : WF σ) {c r : Int} (hc : 0 ≤ c ∧ c < σ 0) (hr : 0 ≤ r ∧ r < σ 1) : dueS σ false c r = wvS σ c r := by
  have h1 := h.2.2.2.1 c r hc.1 hc.2 hr.1 hr.2
  unfold dueS wvS
  by_cases h2 : cellS σ c r = -1
  · rw [if_neg (by omega), if_pos h2]; rfl
  · rw [if_pos (by omega), if_neg h2]
theorem wv_r {σ : Int → Int} (h : WF σ) {c r : Int} (hc : 0 ≤ c ∧ c < σ 0) (hr : 0 ≤ r ∧ r < σ 1) : 0 ≤ wvS σ c r ∧ wvS σ c r ≤ 6 := by
  rw [← due_wv h hc hr]
  exact due_r h hc hr
theorem las_1 {σ : Int → Int} {n : Int} (h : ∀ j, 0 ≤ j → j < n → enoS σ false (j + 1) = true) (hn : n = σ 1 - σ 4) (h0 : 0 ≤ n) : fi (lastsP σ) 0 (σ 1 - σ 4) = n := by
  rw [← hn]
  exact fi_none h0 (fun j j0 j1 => by unfold lastsP; rw [h j j0 j1]; rfl)
theorem las_2 {σ : Int → Int} {n : Int} (h : ∀ j, 0 ≤ j → j < n → enoS σ false (j + 1) = true) (hn : n < σ 1 - σ 4) (h0 : 0 ≤ n) (he : enoS σ false (n + 1) = false) : fi (lastsP σ) 0 (σ 1 - σ 4) = n :=
  fi_hit h0 hn (fun j j0 j1 => by unfold lastsP; rw [h j j0 j1]; rfl) (by unfold lastsP; rw [he]; rfl)
theorem fi_dn {p : Int → Bool} {lo hi : Int} (h : lo < hi) : fi p lo hi = if p lo then lo else fi p (lo + 1) hi := by
  cases hp : p lo
  · show _ = fi p (lo + 1) hi
    obtain ⟨a, b, c, d⟩ := fi_spec p (lo := lo + 1) (hi := hi) (by omega)
    have h9 : ∀ j, lo ≤ j → j < fi p (lo + 1) hi → p j = false := fun j j0 j1 => by
      by_cases e : j = lo
      · rw [e]; exact hp
      · exact c j (by omega) j1
    by_cases g : fi p (lo + 1) hi < hi
    · exact fi_hit (by omega) g h9 (d g)
    · rw [show fi p (lo + 1) hi = hi by omega] at h9 ⊢
      exact fi_none (by omega) h9
  · show fi p lo hi = lo
    exact fi_hit (i := lo) (Int.le_refl lo) h (fun j j0 j1 => absurd j1 (by omega)) hp
def plS (σ : Int → Int) (n sd lo : Int) : Int := if fi (plY σ n sd) lo (σ 1) < σ 1 then 100 * fi (plY σ n sd) lo (σ 1) + fi (plP σ n sd (fi (plY σ n sd) lo (σ 1))) 0 (σ 0) else -1
def plX (σ : Int → Int) (n sd y x : Int) : Int := if fi (plP σ n sd y) x (σ 0) < σ 0 then 100 * y + fi (plP σ n sd y) x (σ 0) else plS σ n sd (y + 1)
theorem fi_nil (p : Int → Bool) (lo : Int) : fi p lo lo = lo := fi_none (Int.le_refl lo) (fun j j0 j1 => absurd j1 (by omega))
theorem plS_e (σ : Int → Int) (n sd : Int) : plS σ n sd (σ 1) = -1 := by
  unfold plS
  rw [fi_nil, if_neg (by omega)]
theorem plX_e (σ : Int → Int) (n sd y : Int) : plX σ n sd y (σ 0) = plS σ n sd (y + 1) := by
  unfold plX
  rw [fi_nil, if_neg (by omega)]
theorem plX_t {σ : Int → Int} {n sd y x : Int} (h : x < σ 0) (hp : plP σ n sd y x = true) : plX σ n sd y x = 100 * y + x := by
  unfold plX
  rw [fi_dn h, hp]
  simp only [if_true]
  rw [if_pos h]
theorem plX_f {σ : Int → Int} {n sd y x : Int} (h : x < σ 0) (hp : plP σ n sd y x = false) : plX σ n sd y x = plX σ n sd y (x + 1) := by
  unfold plX
  rw [fi_dn h, hp]
  simp only [Bool.false_eq_true, if_false]
theorem plX_0 {σ : Int → Int} {n sd y : Int} (h0 : 0 ≤ σ 0) (h : y < σ 1) : plX σ n sd y 0 = plS σ n sd y := by
  obtain ⟨a, b, c, d⟩ := fi_spec (plP σ n sd y) (lo := 0) (hi := σ 0) h0
  by_cases g : fi (plP σ n sd y) 0 (σ 0) < σ 0
  · have hy : plY σ n sd y = true := by
      cases hy : plY σ n sd y
      · have := ex_f.mp (show ex (plP σ n sd y) 0 (σ 0) = false from hy) _ a g
        rw [d g] at this; cases this
      · rfl
    have e : fi (plY σ n sd) y (σ 1) = y := fi_hit (i := y) (Int.le_refl y) h (fun j j0 j1 => absurd j1 (by omega)) hy
    unfold plX plS
    rw [if_pos g, e, if_pos h]
  · have hy : plY σ n sd y = false := ex_f.mpr (fun j j0 j1 => c j j0 (by omega))
    have e : fi (plY σ n sd) y (σ 1) = fi (plY σ n sd) (y + 1) (σ 1) := by
      rw [fi_dn h, hy]
      simp only [Bool.false_eq_true, if_false]
    unfold plX
    rw [if_neg g]
    unfold plS
    rw [e]
theorem plS_r {σ : Int → Int} (h : WF σ) (n sd : Int) {lo : Int} (hl : 0 ≤ lo ∧ lo ≤ σ 1) : -1 ≤ plS σ n sd lo ∧ plS σ n sd lo ≤ 4000 := by
  have hF := h.1
  unfold WF0 at hF
  have h1 := fi_spec (plY σ n sd) (lo := lo) (hi := σ 1) (by omega)
  have h2 := fi_spec (plP σ n sd (fi (plY σ n sd) lo (σ 1))) (lo := 0) (hi := σ 0) (by omega)
  unfold plS
  split <;> omega
theorem minQ_r {σ : Int → Int} (h : WF σ) {d : Int} (hd : 0 ≤ d) : 0 ≤ minQ σ d ∧ minQ σ d ≤ 3000 := by
  have hF := h.1
  unfold WF0 at hF
  have h2 := sm_r (f := fun r => minZ (σ 0) (jwS σ r)) (lo := σ 4) (hi := min (σ 1) (σ 4 + d)) (M := 100) (by decide) (fun i _ _ => (min_ok (by omega) (jwS_r h i)).2.2.2) (by omega)
  unfold minQ
  omega
theorem capQ_r {σ : Int → Int} (h : WF σ) {k : Int} (hk : 0 ≤ k ∧ k < σ 5) {wh : Int} (hw : 0 ≤ wh ∧ wh ≤ 9) : 0 ≤ capQ σ k wh ∧ capQ σ k wh ≤ 1000 := by
  obtain ⟨o0, o1, o2, o3, o4, o5⟩ := h.2.2.1 k hk.1 hk.2
  have hF := h.1
  unfold WF0 at hF
  have a1 := cnt_r (fun z => legS σ k && decide (rdS σ k z false = tdS σ k z)) (lo := 0) (hi := cp σ k 0) (by omega)
  have a2 := cnt_r (fun z => legS σ k && decide (rdS σ k z true = tdS σ k z)) (lo := 0) (hi := cp σ k 0) (by omega)
  have a3 := cnt_r (fun z => legS σ k && decide (ltrS (picS σ k z true) = tdS σ k z)) (lo := 0) (hi := cp σ k 0) (by omega)
  have a4 := sm_r (f := fun z => cnt (fun y => misS σ (capCol σ k (cp σ k 2 + z)) (cp σ k 3 + y)) 0 5) (lo := 0) (hi := 4 * cp σ k 0 - 1) (M := 5) (by decide) (fun i _ _ => by
    have := cnt_r (fun y => misS σ (capCol σ k (cp σ k 2 + i)) (cp σ k 3 + y)) (lo := 0) (hi := 5) (by decide)
    exact ⟨this.1, by omega⟩) (by omega)
  unfold capQ
  split
  · omega
  · split
    · omega
    · split
      · omega
      · split
        · omega
        · split
          · omega
          · rcases (show wh = 0 ∨ wh = 1 ∨ wh = 2 ∨ wh = 3 ∨ wh = 4 by omega) with rfl | rfl | rfl | rfl | rfl <;> omega
section LWC
variable {p : Program} {l : Launch} {e : Env} {R : Room} {s : State} {m : MethodId} {args : Array Value} {below : List Frame} {meth : Method} {c : Code} {H H0 : Heap} {locs : List Loc} {cells slots : Nat} {Q : State → Prop}
  {cc : ByteArray} {nL pc : Nat} {own : String} {ls : Array Slot} {rest : List Value} {X : Cx} {w : Wo} {lv0 : List (Nat × Value)}
theorem h_ldcLW {index i : Nat} {tx : String} (F : Fx p m c cc nL s args own) (hW : Wd X w s H) (hm : (own, index, tx, i) ∈ cxV) (hd : decode cc pc = .ok (.ldc_w index, 3)) (k : W p l e R s m args below meth c H locs cells slots Q (F0 m (pc + 3) ls (.ref (X.2.2 (60 + i)) :: rest))) : W p l e R s m args below meth c H locs cells slots Q (F0 m pc ls rest) := by
  intro T hT X9
  obtain ⟨t, a1, b1⟩ := k T hT X9
  have hZ := hW.2.1.2.2.2.2.2.2.1 _ hm
  obtain ⟨kk, cf, i', a', hk, hcf, hcp, -, hr, hev'⟩ := Cond.stringRef_spec F.2.2.2.1 hZ.1
  cases hZ.2.symm.trans hev'
  obtain ⟨k', hk', he⟩ := X9.warmed.alike.2.2 _ _ hk
  have hr' : k'.resolved[index]? = some (some (.string (X.2.2 (60 + i)))) := by
    rcases X9.warmed.entry hk hk' index with h | ⟨h, -⟩
    · rw [h]; exact hr
    · rw [hr] at h; cases h
  refine ⟨t, ?_, b1⟩
  have hd2 : decode c.code (F0 m pc ls rest).pc = .ok (.ldc_w index, 3) := by rw [F.2.1]; exact hd
  jvm_step X9.here [F.1, hd2, _root_.Jvm.Op.ldc_w.wp_string (e := e) (s := T) (f := F0 m pc ls rest) X9.here.top hk' (by rw [he]; exact hcf) hcp hr']
  exact a1
end LWC
