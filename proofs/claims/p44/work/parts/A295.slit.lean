/-! ===== runs of joins, told by their lengths; doubles that are the same ===== -/
def hC (σ : Int → Int) (L c r : Int) : Int := cnt (fun z => enB σ c z && decide (rnS σ c z = L)) 0 r
def hT (σ : Int → Int) (L k : Int) : Int := sm (fun z => hC σ L z (σ 4 + 1)) 0 k
def lhF (σ : Int → Int) (c z : Int) : Int := if enB σ c z then rnS σ c z else 0
def l2 (f : Int → Int) (z : Int) : Int := if 2 ≤ f z then f z else 0
def lhC (σ : Int → Int) (c r : Int) : Int := mx (l2 (lhF σ c)) 0 r
def lT (σ : Int → Int) (k : Int) : Int := mx (fun z => lhC σ z (σ 4 + 1)) 0 k
theorem hC_0 (σ : Int → Int) (L c : Int) : hC σ L c 0 = 0 := cnt_0 _ _
theorem hT_0 (σ : Int → Int) (L : Int) : hT σ L 0 = 0 := sm_0 _ _
theorem hT_s (σ : Int → Int) (L : Int) {k : Int} (h : 0 ≤ k) : hT σ L (k + 1) = hT σ L k + hC σ L k (σ 4 + 1) := sm_s _ h
theorem lhC_0 (σ : Int → Int) (c : Int) : lhC σ c 0 = 0 := mx_0 _ _
theorem lT_0 (σ : Int → Int) : lT σ 0 = 0 := mx_0 _ _
theorem lT_s (σ : Int → Int) {k : Int} (h : 0 ≤ k) : lT σ (k + 1) = max (lT σ k) (lhC σ k (σ 4 + 1)) := mx_s _ h
theorem lT_p (σ : Int → Int) (k : Int) : 0 ≤ lT σ k := mxN_0 _ _ _
theorem lhC_p (σ : Int → Int) (c r : Int) : 0 ≤ lhC σ c r := mxN_0 _ _ _
theorem enB_j {σ : Int → Int} {c r : Int} (h : r < σ 4) (hj : jnS σ c r = true) : enB σ c r = false := by
  unfold enB
  rw [hj, decide_eq_false (by omega)]
  rfl
theorem enB_n {σ : Int → Int} {c r : Int} (hj : jnS σ c r = false) : enB σ c r = true := by
  unfold enB
  rw [hj, Bool.or_comm]
  rfl
theorem enB_e {σ : Int → Int} {c r : Int} (h : r = σ 4) : enB σ c r = true := by
  unfold enB
  rw [decide_eq_true h]
  rfl
theorem hC_f {σ : Int → Int} {L c r : Int} (h : 0 ≤ r ∧ r < σ 4) (hj : jnS σ c r = true) : hC σ L c (r + 1) = hC σ L c r := by
  unfold hC
  exact cnt_f h.1 (by rw [enB_j h.2 hj]; rfl)
theorem lhC_f {σ : Int → Int} {c r : Int} (h : 0 ≤ r ∧ r < σ 4) (hj : jnS σ c r = true) : lhC σ c (r + 1) = lhC σ c r := by
  have hp := lhC_p σ c r
  have e : lhC σ c (r + 1) = max (lhC σ c r) (l2 (lhF σ c) r) := mx_s _ h.1
  have e2 : lhF σ c r = 0 := by unfold lhF; rw [enB_j h.2 hj]; rfl
  have e3 : l2 (lhF σ c) r = 0 := by unfold l2; rw [e2, if_neg (by decide)]
  rw [e, e3]
  omega
theorem hC_t {σ : Int → Int} {L c r : Int} (h : 0 ≤ r) (he : enB σ c r = true) : hC σ L c (r + 1) = hC σ L c r + bz (decide (rnS σ c r = L)) := by
  unfold hC
  rw [cnt_s _ h, he]
  rfl
theorem lhC_t {σ : Int → Int} {c r : Int} (h : 0 ≤ r) (he : enB σ c r = true) : lhC σ c (r + 1) = max (lhC σ c r) (if 2 ≤ rnS σ c r then rnS σ c r else 0) := by
  have e : lhC σ c (r + 1) = max (lhC σ c r) (l2 (lhF σ c) r) := mx_s _ h
  have e2 : lhF σ c r = rnS σ c r := by unfold lhF; rw [he]; rfl
  rw [e]
  unfold l2
  rw [e2]
theorem rn_en {σ : Int → Int} {c r : Int} (h : 0 ≤ r) (he : enB σ c r = true) (h2 : r + 1 ≤ σ 4) : rnS σ c (r + 1) = 0 := by
  have hj : jnS σ c r = false := by
    cases hj : jnS σ c r
    · rfl
    · rw [enB_j (by omega) hj] at he; cases he
  rw [rnS_s σ c h, hj]
  rfl
theorem hist_s {fd σ : Int → Int} {L k r z : Int} (h : ∀ L, 1 ≤ L → L ≤ 30 → fd L = hT σ L k + hC σ L k r) (h1 : 1 ≤ L) (h2 : L ≤ 30) (hc : ∀ L, hC σ L k z = hC σ L k r) (hrn : rnS σ k z = z - r) (he : enB σ k z = true) (h0 : 0 ≤ z) : up fd (z - r) (fd (z - r) + 1) L = hT σ L k + hC σ L k (z + 1) := by
  rw [hC_t h0 he, hc, hrn]
  by_cases e : L = z - r
  · rw [e, up_s, ← e, h L h1 h2, decide_eq_true rfl]
    show _ = _ + (_ + (1 : Int))
    omega
  · rw [up_n e, h L h1 h2, decide_eq_false (fun x => e x.symm)]
    show _ = _ + (_ + (0 : Int))
    omega
theorem hC_e {σ : Int → Int} {L k r : Int} (h0 : 0 ≤ σ 4) (hL : 1 ≤ L) (hr : σ 4 ≤ r ∧ r ≤ σ 4 + 1) (h : r ≤ σ 4 → rnS σ k r = 0) : hC σ L k r = hC σ L k (σ 4 + 1) := by
  by_cases e : r = σ 4 + 1
  · rw [e]
  · have e2 : r = σ 4 := by omega
    rw [← e2, hC_t (by omega) (enB_e e2), h (by omega), decide_eq_false (by omega)]
    show _ = _ + (0 : Int)
    omega
theorem lhC_e {σ : Int → Int} {k r : Int} (h0 : 0 ≤ σ 4) (hr : σ 4 ≤ r ∧ r ≤ σ 4 + 1) (h : r ≤ σ 4 → rnS σ k r = 0) : lhC σ k r = lhC σ k (σ 4 + 1) := by
  by_cases e : r = σ 4 + 1
  · rw [e]
  · have e2 : r = σ 4 := by omega
    have hp := lhC_p σ k r
    rw [← e2, lhC_t (by omega) (enB_e e2), h (by omega), if_neg (by decide)]
    omega
theorem smN_ad3 {f g k : Int → Int} {lo : Int} (h : ∀ i, f i = g i + k i) : ∀ n : Nat, smN f lo n = smN g lo n + smN k lo n
  | 0 => rfl
  | n + 1 => by
    show smN f lo n + f (lo + n) = (smN g lo n + g (lo + n)) + (smN k lo n + k (lo + n))
    rw [smN_ad3 h n, h]
    omega
theorem slB_s (σ : Int → Int) (L c : Int) : slB σ L c = slB σ (L + 1) c + hC σ L c (σ 4 + 1) := by
  unfold slB hC cnt sm
  refine smN_ad3 (fun i => ?_) _
  show bz (enB σ c i && decide (L ≤ rnS σ c i)) = bz (enB σ c i && decide (L + 1 ≤ rnS σ c i)) + bz (enB σ c i && decide (rnS σ c i = L))
  cases enB σ c i
  · rfl
  · simp only [Bool.true_and]
    by_cases h1 : L ≤ rnS σ c i
    · by_cases h2 : rnS σ c i = L
      · rw [decide_eq_true h1, decide_eq_true h2, decide_eq_false (by omega)]; rfl
      · rw [decide_eq_true h1, decide_eq_false h2, decide_eq_true (by omega)]; rfl
    · rw [decide_eq_false h1, decide_eq_false (by omega), decide_eq_false (by omega)]; rfl
theorem slQ_s (σ : Int → Int) (L : Int) : slQ σ L = slQ σ (L + 1) + hT σ L (σ 0 - 1) := by
  unfold slQ hT sm
  exact smN_ad3 (fun i => slB_s σ L i) _
theorem slQ_31 {σ : Int → Int} (h : WF σ) : slQ σ 31 = 0 := by
  have hF := h.1
  unfold WF0 at hF
  have h2 := sm_r (f := slB σ 31) (lo := 0) (hi := σ 0 - 1) (M := 0) (by decide) (fun i _ _ => by
    have h3 := sm_r (f := fun r => bz (enB σ i r && decide (31 ≤ rnS σ i r))) (lo := 0) (hi := σ 4 + 1) (M := 0) (by decide) (fun r r0 r1 => by
      have := rnS_r σ i r0
      show 0 ≤ bz (enB σ i r && decide (31 ≤ rnS σ i r)) ∧ bz (enB σ i r && decide (31 ≤ rnS σ i r)) ≤ 0
      rw [decide_eq_false (by omega), Bool.and_false]
      exact ⟨Int.le_refl 0, Int.le_refl 0⟩) (by omega)
    have e : slB σ 31 i = sm (fun r => bz (enB σ i r && decide (31 ≤ rnS σ i r))) 0 (σ 4 + 1) := rfl
    omega) (by omega)
  have e : slQ σ 31 = sm (slB σ 31) 0 (σ 0 - 1) := rfl
  omega
theorem mx_l2 {f : Int → Int} {lo : Int} (h : ∀ z, 0 ≤ f z) : ∀ n : Nat, mxN (l2 f) lo n = if 2 ≤ mxN f lo n then mxN f lo n else 0
  | 0 => rfl
  | n + 1 => by
    have ih := mx_l2 (lo := lo) h n
    have h1 := h (lo + n)
    have h2 := mxN_0 f lo n
    show max (mxN (l2 f) lo n) (l2 f (lo + n)) = if 2 ≤ max (mxN f lo n) (f (lo + n)) then max (mxN f lo n) (f (lo + n)) else 0
    rw [ih]
    unfold l2
    split <;> split <;> split <;> omega
theorem sm_mx {g f : Int → Int} {lo : Int} (h0 : ∀ c, 0 ≤ g c) (h : ∀ c, g c = 0 ↔ ¬ 2 ≤ f c) : ∀ n : Nat, 0 ≤ smN g lo n ∧ (smN g lo n = 0 ↔ ¬ 2 ≤ mxN f lo n)
  | 0 => ⟨Int.le_refl 0, fun _ h1 => absurd (show (2 : Int) ≤ 0 from h1) (by decide), fun _ => rfl⟩
  | n + 1 => by
    have ih := sm_mx (lo := lo) h0 h n
    have h1 := h0 (lo + n)
    have h2 := h (lo + n)
    have e1 : smN g lo (n + 1) = smN g lo n + g (lo + n) := rfl
    have e2 : mxN f lo (n + 1) = max (mxN f lo n) (f (lo + n)) := rfl
    rw [e1, e2]
    refine ⟨by omega, ?_⟩
    by_cases a : 2 ≤ mxN f lo n
    · have : ¬ smN g lo n = 0 := fun z => ih.2.mp z a
      constructor <;> intro hh <;> omega
    · have : smN g lo n = 0 := ih.2.mpr a
      by_cases b : 2 ≤ f (lo + n)
      · have : ¬ g (lo + n) = 0 := fun z => h2.mp z b
        constructor <;> intro hh <;> omega
      · have : g (lo + n) = 0 := h2.mpr b
        constructor <;> intro hh <;> omega
theorem lhF_p {σ : Int → Int} {c : Int} (z : Int) (hz : 0 ≤ z) : 0 ≤ lhF σ c z := by
  have := rnS_r σ c hz
  unfold lhF
  split <;> omega
theorem rnN_p (σ : Int → Int) (c z : Int) : 0 ≤ rnS σ c z := (rnN_r σ c z.toNat).1
theorem lhF_p2 (σ : Int → Int) (c z : Int) : 0 ≤ lhF σ c z := by
  have := rnN_p σ c z
  unfold lhF
  split <;> omega
theorem lgB_p (σ : Int → Int) (c : Int) : 0 ≤ lgB σ c := mxN_0 _ _ _
theorem lT_e {σ : Int → Int} (h : 0 ≤ σ 4) : lT σ (σ 0 - 1) = if slQ σ 2 = 0 then 0 else lgQ σ := by
  have e1 : lT σ (σ 0 - 1) = mx (l2 (lgB σ)) 0 (σ 0 - 1) := mx_c (fun i _ _ => (mx_l2 (lo := 0) (lhF_p2 σ i) _ : mxN (l2 (lhF σ i)) 0 (σ 4 + 1 - 0).toNat = _))
  have e2 : mx (l2 (lgB σ)) 0 (σ 0 - 1) = if 2 ≤ lgQ σ then lgQ σ else 0 := mx_l2 (lo := 0) (lgB_p σ) _
  have hB : ∀ c, slB σ 2 c = 0 ↔ ¬ 2 ≤ lgB σ c := fun c => by
    have h3 := (sm_mx (g := fun r => bz (enB σ c r && decide (2 ≤ rnS σ c r))) (f := lhF σ c) (lo := 0) (fun z => (bz_r _).1) (fun z => by
      unfold lhF
      cases enB σ c z
      · exact ⟨fun _ z9 => absurd (show (2 : Int) ≤ 0 from z9) (by decide), fun _ => rfl⟩
      · simp only [Bool.true_and, if_true]
        by_cases h2 : 2 ≤ rnS σ c z
        · rw [decide_eq_true h2]; exact ⟨fun x => absurd x (by decide), fun x => absurd h2 x⟩
        · rw [decide_eq_false h2]; exact ⟨fun _ => h2, fun _ => rfl⟩) (σ 4 + 1 - 0).toNat).2
    exact h3
  have hQ : slQ σ 2 = 0 ↔ ¬ 2 ≤ lgQ σ := (sm_mx (g := slB σ 2) (f := lgB σ) (lo := 0) (fun c => (sm_mx (g := fun r => bz (enB σ c r && decide (2 ≤ rnS σ c r))) (f := fun r => if enB σ c r && decide (2 ≤ rnS σ c r) then 2 else 0) (lo := 0) (fun z => (bz_r _).1) (fun z => by
      cases (enB σ c z && decide (2 ≤ rnS σ c z))
      · exact ⟨fun _ z9 => absurd (show (2 : Int) ≤ 0 from z9) (by decide), fun _ => rfl⟩
      · exact ⟨fun x => absurd x (by decide), fun x => absurd (Int.le_refl 2) x⟩) (σ 4 + 1 - 0).toNat).1) hB (σ 0 - 1 - 0).toNat).2
  rw [e1, e2]
  by_cases h2 : 2 ≤ lgQ σ
  · rw [if_pos h2, if_neg (fun z => hQ.mp z h2)]
  · rw [if_neg h2, if_pos (hQ.mpr h2)]
theorem lT_r {σ : Int → Int} (h : WF σ) (k : Int) : 0 ≤ lT σ k ∧ lT σ k ≤ 31 := by
  have hF := h.1
  unfold WF0 at hF
  refine mx_r (by decide) (fun i _ _ => ?_)
  refine (mx_r (M := 31) (by decide) (fun r r0 r1 => ?_)).2
  have := rnS_r σ i r0
  unfold l2 lhF
  split <;> split <;> omega
theorem lhC_u {σ : Int → Int} (h : WF σ) (k r : Int) : lhC σ k r ≤ max 0 r := by
  by_cases hr : 0 ≤ r
  · have := (mx_r (f := l2 (lhF σ k)) (lo := 0) (hi := r) (M := r) hr (fun z z0 z1 => by
      have := rnS_r σ k z0
      unfold l2 lhF
      split <;> split <;> omega)).2
    unfold lhC
    omega
  · have e : lhC σ k r = 0 := by
      unfold lhC mx
      rw [show (r - 0).toNat = 0 by omega]
      rfl
    omega
theorem dc_0 {x : UInt64} {op : CmpOp} (h : vf_n64 x) : _root_.Jvm.Op.cmpValue (FP.dcmp x x) op = 0 := by
  have hn : FP.Core.dIsNaN x = false := by
    rcases hb : FP.Core.dIsNaN x with _ | _
    · rfl
    · have h1 := (FP.Core.isNaN_bits x).mp hb
      unfold vf_n64 at h
      rw [UInt64.le_iff_toNat_le, UInt64.toNat_and] at h
      have h2 : x.toNat &&& (2 ^ 63 - 1) ≤ 9218868437227405312 := h
      rw [Nat.and_two_pow_sub_one_eq_mod] at h2
      omega
  have e : FP.dcmp x x = some .eq := FP.Core.dcmp_refl hn
  rw [e]
  rfl
section LWS
variable {p : Program} {l : Launch} {e : Env} {R : Room} {s : State} {m : MethodId} {args : Array Value} {below : List Frame} {meth : Method} {c : Code} {H H0 : Heap} {locs : List Loc} {cells slots : Nat} {Q : State → Prop}
  {cc : ByteArray} {nL pc : Nat} {own : String} {ls : Array Slot} {rest : List Value} {X : Cx} {w : Wo} {lv0 : List (Nat × Value)}
theorem h_dsameN {x : UInt64} {off : Int} {tgt pc2 : Nat} {op : CmpOp} (F : Fx p m c cc nL s args own) (hx : vf_n64 x) (hd : decode cc pc = .ok (.dcmp op, 1)) (hp : pc + 1 = pc2) (hd2 : decode cc pc2 = .ok (.ifCond .ne off, 3)) (ht : (pc2 : Int) + off = (tgt : Int)) (kk : W p l e R s m args below meth c H locs cells slots Q (F0 m (pc2 + 3) ls rest)) : W p l e R s m args below meth c H locs cells slots Q (F0 m pc ls (.double x :: .double x :: rest)) := by
  subst hp
  refine lv_dcmp F.1 F.2.1 hd ?_
  rw [dc_0 hx]
  exact lv_if_ne F.1 F.2.1 hd2 ht (fun h => absurd rfl h) (fun _ => kk)
end LWS
