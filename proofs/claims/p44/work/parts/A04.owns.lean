/-! ===== the law's own cloth: what it holds, told by the same numbers as the loom ===== -/
/-- the world without the cells of N -/
noncomputable def wr (w : Wo) (N : Nat → Prop) : Wo := fun q => @ite _ (N q) (Classical.propDecidable _) none (w q)
theorem wr_some {w : Wo} {N : Nat → Prop} {q : Nat} {e : va_E} : wr w N q = some e ↔ ¬ N q ∧ w q = some e := by
  unfold wr
  by_cases h : N q
  · rw [if_pos h]
    exact ⟨fun z => (by cases z), fun z => absurd h z.1⟩
  · rw [if_neg h]
    exact ⟨fun z => ⟨h, z⟩, fun z => z.2⟩
theorem wr_sub (w : Wo) (N : Nat → Prop) : ext (wr w N) w := fun _ _ h => (wr_some.mp h).2
theorem wr_eq {w w2 : Wo} {N : Nat → Prop} (h : ∀ q, ¬ N q → w2 q = w q) : wr w2 N = wr w N := by
  funext q
  unfold wr
  by_cases g : N q
  · rw [if_pos g, if_pos g]
  · rw [if_neg g, if_neg g, h q g]
theorem wr_ex {w w2 : Wo} {N : Nat → Prop} (g : ext w w2) : ext (wr w N) (wr w2 N) := fun q e h => wr_some.mpr ⟨(wr_some.mp h).1, g q e (wr_some.mp h).2⟩
def ovC (wd sd x col : Int) : Int := (if sd = 0 then col else wd - 1 - col) - x
def ikB (n : Nat) (f : Int → Int) (ov dn : Int) : Bool := decide (0 ≤ ov ∧ ov < 4 * (n : Int) - 1) && decide (ov % 4 ≠ 3) && decide (0 ≤ dn ∧ dn ≤ 4) && hasBitS (gl (f (ov / 4) - 97)) dn (ov % 4)
def dzN (σ : Int → Int) (c r : Int) : Nat → Int
  | 0 => 0
  | m + 1 => if hitS σ c r m then cp σ m 4 else dzN σ c r m
theorem dz_val {σ : Int → Int} (h : WF σ) (c r : Int) : ∀ m : Nat, (m : Int) ≤ σ 5 → dzN σ c r m = if fi (hitS σ c r) 0 m < m then cp σ (fi (hitS σ c r) 0 m) 4 else 0
  | 0, _ => by
    have := fi_spec (hitS σ c r) (lo := 0) (hi := ((0 : Nat) : Int)) (by omega)
    rw [if_neg (by omega)]; rfl
  | m + 1, hm => by
    have ih := dz_val h c r m (by omega)
    have hok := h.2.2.1 m (by omega) (by omega)
    have f1 := fi_spec (hitS σ c r) (lo := 0) (hi := (m : Int)) (by omega)
    unfold dzN
    by_cases g : hitS σ c r m = true
    · rw [if_pos g]
      have hno : ∀ j, 0 ≤ j → j < (m : Int) → hitS σ c r j = false := by
        intro j j0 j1
        rcases hb : hitS σ c r j with _ | _
        · rfl
        · have e := hit_mt (h.2.2.1 j j0 (by omega)).2.1 hok.2.1 hb g
          rw [h.2.2.2.2.2 j m j0 (by omega) (by omega) (by omega) (by omega)] at e
          cases e
      rw [fi_hit (i := (m : Int)) (by omega) (by omega) hno g, if_pos (by omega)]
    · rw [if_neg g, ih]
      by_cases g2 : fi (hitS σ c r) 0 m < m
      · rw [if_pos g2]
        have e : fi (hitS σ c r) 0 ((m + 1 : Nat) : Int) = fi (hitS σ c r) 0 m := fi_hit f1.1 (by omega) f1.2.2.1 (f1.2.2.2 g2)
        rw [e, if_pos (by omega)]
      · rw [if_neg g2]
        have e : fi (hitS σ c r) 0 ((m + 1 : Nat) : Int) = ((m + 1 : Nat) : Int) := fi_none (by omega) (fun j j0 j1 => by
          by_cases g3 : j = (m : Int)
          · rw [g3]; exact Bool.eq_false_iff.mpr g
          · exact f1.2.2.1 j j0 (by omega))
        rw [e, if_neg (by omega)]
theorem dz_des {σ : Int → Int} (h : WF σ) (c r : Int) : dzN σ c r (σ 5).toNat = desS σ c r := by
  have h5 := h.1.2.2.2.2.2
  rw [dz_val h c r _ (by omega), show (((σ 5).toNat : Nat) : Int) = σ 5 by omega]
  rfl
theorem dz_s {σ : Int → Int} {c r k : Int} (hk : 0 ≤ k) : dzN σ c r (k + 1).toNat = if hitS σ c r k then cp σ k 4 else dzN σ c r k.toNat := by
  rw [show (k + 1).toNat = k.toNat + 1 by omega]
  show (if hitS σ c r ((k.toNat : Nat) : Int) then cp σ ((k.toNat : Nat) : Int) 4 else dzN σ c r k.toNat) = _
  rw [show ((k.toNat : Nat) : Int) = k by omega]
theorem ik_hit {σ : Int → Int} {c r k : Int} {f : Int → Int} (hk : capOK σ k) (hf : ∀ j, 0 ≤ j → j < cp σ k 0 → f j = cp σ k (5 + j) + 97) : ikB (cp σ k 0).toNat f (ovC (σ 0) (cp σ k 1) (cp σ k 2) c) (cp σ k 3 + 4 - r) = hitS σ c r k := by
  have hn := hk.1
  have e1 : ovC (σ 0) (cp σ k 1) (cp σ k 2) c = ovS σ c k := rfl
  rw [e1]
  unfold ikB hitS inkS
  rw [show (((cp σ k 0).toNat : Nat) : Int) = cp σ k 0 by omega]
  by_cases g1 : 0 ≤ ovS σ c k ∧ ovS σ c k ≤ 4 * cp σ k 0 - 2
  · by_cases g2 : ovS σ c k % 4 = 3
    · rw [if_pos g2, decide_eq_false (p := ovS σ c k % 4 ≠ 3) (fun z => z g2)]
      simp
    · rw [if_neg g2, decide_eq_true (p := ovS σ c k % 4 ≠ 3) g2, decide_eq_true g1, decide_eq_true (p := 0 ≤ ovS σ c k ∧ ovS σ c k < 4 * cp σ k 0 - 1) (by omega), hf (ovS σ c k / 4) (by omega) (by omega)]
      by_cases g3 : 0 ≤ r - cp σ k 3 ∧ r - cp σ k 3 ≤ 4
      · rw [decide_eq_true g3, decide_eq_true (p := 0 ≤ cp σ k 3 + 4 - r ∧ cp σ k 3 + 4 - r ≤ 4) (by omega), show cp σ k (5 + ovS σ c k / 4) + 97 - 97 = cp σ k (5 + ovS σ c k / 4) by omega, show cp σ k 3 + 4 - r = 4 - (r - cp σ k 3) by omega]
        simp
      · rw [decide_eq_false g3, decide_eq_false (p := 0 ≤ cp σ k 3 + 4 - r ∧ cp σ k 3 + 4 - r ≤ 4) (by omega)]
        simp
  · rw [decide_eq_false g1, decide_eq_false (p := 0 ≤ ovS σ c k ∧ ovS σ c k < 4 * cp σ k 0 - 1) (by omega)]
    simp
/-- the law's own cloth at h -/
def ownA (X : Cx) (w : Wo) (h : Nat) (σ : Int → Int) : Prop :=
  ∃ (st lc ec lr er : Nat) (mc mr : Int32) (kc kr : Nat) (gc gr : Nat → Option Nat) (cd rwa : Int → Nat) (fs : Int → Int) (nr : Int) (wh : Bool),
    w h = some (.inr (10, [.int (iI (σ 0)), .int (iI (σ 1)), .int (iI (σ 2)), .int (iI (σ 3)), .ref st, .ref lc, .ref lr, .int (iI (bz wh))])) ∧
    (w st = some (aZ X 7 fs) ∧ ∀ c, 0 ≤ c → c < 7 → fs c = σ (6 + c)) ∧
    (w lc = some (.inr (14, [.int mc, .ref ec, .int (iI (σ 5))])) ∧ ((ec = X.2.2 3 ∧ kc = 0) ∨ (w ec = some (aR X 5 kc gc) ∧ 1 ≤ kc)) ∧ σ 5 ≤ (kc : Int) ∧ (kc = 0 ∨ kc = 10)) ∧
    (∀ k, 0 ≤ k → k < σ 5 → gc k.toNat = some (cd k) ∧ ∃ f, capO X w (cd k) (cp σ k 0).toNat (cp σ k 1) (cp σ k 4) (cp σ k 2) (cp σ k 3) f ∧ ∀ j, 0 ≤ j → j < cp σ k 0 → f j = cp σ k (5 + j) + 97) ∧
    (w lr = some (.inr (14, [.int mr, .ref er, .int (iI nr)])) ∧ w er = some (aR X 5 kr gr) ∧ nr ≤ (kr : Int) ∧ (kr = 10 ∨ kr = 15)) ∧
    (∀ r, 0 ≤ r → r < nr → gr r.toNat = some (rwa r) ∧ ∃ f, w (rwa r) = some (aZ X (σ 0).toNat f) ∧ ∀ c, 0 ≤ c → c < σ 0 → f c = cellS σ c r) ∧
    (nr = (if σ 4 < σ 1 then σ 4 + 1 else σ 1) ∧ wh = decide (σ 4 = σ 1) ∧ (∀ c r, 0 ≤ c → c < σ 0 → nr ≤ r → r < σ 1 → cellS σ c r = -1)) ∧
    (WF σ ∧ σ 0 ≤ 19 ∧ σ 1 ≤ 13) ∧
    ((∀ r, 0 ≤ r → r < nr → rwa r ≠ st) ∧ (∀ r r2, 0 ≤ r → r < nr → 0 ≤ r2 → r2 < nr → rwa r = rwa r2 → r = r2) ∧ (∀ k k2, 0 ≤ k → k < σ 5 → 0 ≤ k2 → k2 < σ 5 → cd k = cd k2 → k = k2) ∧ lc ≠ lr ∧ (1 ≤ kc → ec ≠ er))
theorem ownA.ex {X : Cx} {w w2 : Wo} {h : Nat} {σ : Int → Int} (hO : ownA X w h σ) (g : ext w w2) : ownA X w2 h σ := by
  obtain ⟨st, lc, ec, lr, er, mc, mr, kc, kr, gc, gr, cd, rwa, fs, nr, wh, h1, h2, h3, h3k, h4, h4r, hn, hWF, hd⟩ := hO
  refine ⟨st, lc, ec, lr, er, mc, mr, kc, kr, gc, gr, cd, rwa, fs, nr, wh, g _ _ h1, ⟨g _ _ h2.1, h2.2⟩, ⟨g _ _ h3.1, h3.2.1.imp (fun z => z) (fun z => ⟨g _ _ z.1, z.2⟩), h3.2.2⟩, fun k k0 k1 => ?_, ⟨g _ _ h4.1, g _ _ h4.2.1, h4.2.2⟩, fun r r0 r1 => ?_, hn, hWF, hd⟩
  · obtain ⟨e1, f, e2, e3⟩ := h3k k k0 k1
    exact ⟨e1, f, e2.ex g, e3⟩
  · obtain ⟨e1, f, e2, e3⟩ := h4r r r0 r1
    exact ⟨e1, f, g _ _ e2, e3⟩
theorem nr_cases {a b n : Int} (h : n = if a < b then a + 1 else b) (h2 : a ≤ b) : (a < b ∧ n = a + 1) ∨ (a = b ∧ n = b) := by
  by_cases hz : a < b
  · rw [if_pos hz] at h
    exact Or.inl ⟨hz, h⟩
  · rw [if_neg hz] at h
    exact Or.inr ⟨by omega, h⟩
theorem ik_0 {n : Nat} {f : Int → Int} {ov dn : Int} (h : ¬ ((0 ≤ ov ∧ ov < 4 * (n : Int) - 1) ∧ ov % 4 ≠ 3 ∧ 0 ≤ dn ∧ dn ≤ 4)) : ikB n f ov dn = false := by
  unfold ikB
  by_cases h1 : 0 ≤ ov ∧ ov < 4 * (n : Int) - 1
  · by_cases h2 : ov % 4 ≠ 3
    · rw [decide_eq_false (p := 0 ≤ dn ∧ dn ≤ 4) (fun z => h ⟨h1, h2, z⟩)]
      simp
    · rw [decide_eq_false h2]
      simp
  · rw [decide_eq_false h1]
    simp
theorem ik_v {n : Nat} {f : Int → Int} {ov dn : Int} (h : (0 ≤ ov ∧ ov < 4 * (n : Int) - 1) ∧ ov % 4 ≠ 3 ∧ 0 ≤ dn ∧ dn ≤ 4) : ikB n f ov dn = decide (gl (f (ov / 4) - 97) / 2 ^ (14 - (3 * dn + ov % 4)).toNat % 2 = 1) := by
  unfold ikB hasBitS
  rw [decide_eq_true h.1, decide_eq_true h.2.1, decide_eq_true (p := 0 ≤ dn ∧ dn ≤ 4) h.2.2, show 14 - 3 * dn - ov % 4 = 14 - (3 * dn + ov % 4) by omega]
  rfl
theorem sh_half {g a b : Int} (h : b ≤ a) : g / 2 ^ (a + 1 - b).toNat = g / 2 ^ (a - b).toNat / 2 := by
  rw [show (a + 1 - b).toNat = (a - b).toNat + 1 by omega, Int.pow_succ, Int.ediv_ediv_of_nonneg (Int.le_of_lt (Int.pow_pos (by decide)))]
theorem sh_rng {g : Int} (h : 0 ≤ g ∧ g < 32768) (m : Nat) : 0 ≤ g / 2 ^ m ∧ g / 2 ^ m < 32768 := by
  have hp : (0 : Int) < 2 ^ m := Int.pow_pos (by decide)
  exact ⟨Int.ediv_nonneg h.1 (Int.le_of_lt hp), Int.lt_of_le_of_lt (Int.ediv_le_self _ h.1) h.2⟩
def dueS (σ : Int → Int) (b : Bool) (c r : Int) : Int := if 0 ≤ cellS σ c r then cellS σ c r else desS σ (if b then turnS σ c else c) r
def awS (σ : Int → Int) (b : Bool) (k : Int) : Int := sm (fun z => if b then (if seenS σ z then misRow σ z else 0) else misRow σ z) 0 k
theorem tkw_s {σ : Int → Int} {b : Bool} {co n : Int} (h : 0 ≤ n) : takeS σ b co (n + 1) = takeS σ b co n + takeR σ b co (σ 4 + n) := by
  unfold takeS
  rw [show σ 4 + (n + 1) = (σ 4 + n) + 1 by omega, sm_s _ (by omega)]
theorem tkw_r {σ : Int → Int} (hW : WF σ) (b : Bool) (co m : Int) (hm : 0 ≤ m ∧ σ 4 + m ≤ σ 1) (hw0 : σ 0 ≤ 19) (hw1 : σ 1 ≤ 13) : 0 ≤ takeS σ b co m ∧ takeS σ b co m ≤ 400 := by
  have h0 := hW.1.1
  have h4 := hW.1.2.2.2.2.1
  have := sm_r (f := takeR σ b co) (lo := σ 4) (hi := σ 4 + m) (M := 19) (by omega) (fun i _ _ => by
    unfold takeR
    have := cnt_r (fun c => decide (cellS σ c i = -1) && decide (desS σ (if b then turnS σ c else c) i = co)) (show (0 : Int) ≤ σ 0 by omega)
    omega) (by omega)
  unfold takeS
  omega
theorem picB_at {σ : Int → Int} {k j d z : Int} {g : Bool} (hz : 0 ≤ z ∧ z < 3) : picB σ k j g (3 * d + z) = decide (cellS σ (if g then turnS σ (capCol σ k (cp σ k 2 + 4 * j + z)) else capCol σ k (cp σ k 2 + 4 * j + z)) (cp σ k 3 + (4 - d)) = cp σ k 4) := by
  unfold picB
  rw [show (3 * d + z) % 3 = z by omega, show (3 * d + z) / 3 = d by omega]
def colB (σ : Int → Int) (n sd x k z : Int) : Bool := decide ((0 ≤ ovC (σ 0) sd x z ∧ ovC (σ 0) sd x z < 4 * n - 1) ∧ 0 ≤ ovC (σ 0) (cp σ k 1) (cp σ k 2) z ∧ ovC (σ 0) (cp σ k 1) (cp σ k 2) z < 4 * cp σ k 0 - 1)
theorem col_mt {σ : Int → Int} {n sd x y k : Int} (hk : capOK σ k) (hn : 1 ≤ n) (hs : sd = 0 ∨ sd = 1) (hx : 0 ≤ x ∧ x + 4 * n - 1 ≤ σ 0) : (ex (colB σ n sd x k) 0 (σ 0) && decide (cp σ k 3 - y ≤ 4 ∧ y - cp σ k 3 ≤ 4)) = mtS σ n sd x y k := by
  obtain ⟨k0, k1, k2, k3, -, -⟩ := hk
  have he : ex (colB σ n sd x k) 0 (σ 0) = (decide (lowC σ n sd x ≤ lowC σ (cp σ k 0) (cp σ k 1) (cp σ k 2) + 4 * cp σ k 0 - 2) && decide (lowC σ (cp σ k 0) (cp σ k 1) (cp σ k 2) ≤ lowC σ n sd x + 4 * n - 2)) := by
    by_cases h : lowC σ n sd x ≤ lowC σ (cp σ k 0) (cp σ k 1) (cp σ k 2) + 4 * cp σ k 0 - 2 ∧ lowC σ (cp σ k 0) (cp σ k 1) (cp σ k 2) ≤ lowC σ n sd x + 4 * n - 2
    · rw [decide_eq_true h.1, decide_eq_true h.2]
      have h1 := h.1
      have h2 := h.2
      rcases hb : ex (colB σ n sd x k) 0 (σ 0) with _ | _
      · exfalso
        have g := ex_f.mp hb
        unfold lowC at h1 h2
        rcases hs with hs | hs <;> rcases k1 with k1 | k1 <;> simp only [hs, k1, if_true, if_false, show ¬ ((1 : Int) = 0) by decide] at h1 h2
        · have := of_decide_eq_false (g (max x (cp σ k 2)) (by omega) (by omega))
          unfold ovC at this
          simp only [hs, k1, if_true] at this
          omega
        · have := of_decide_eq_false (g (max x (σ 0 + 1 - cp σ k 2 - 4 * cp σ k 0)) (by omega) (by omega))
          unfold ovC at this
          simp only [hs, k1, if_true, if_false, show ¬ ((1 : Int) = 0) by decide] at this
          omega
        · have := of_decide_eq_false (g (max (σ 0 + 1 - x - 4 * n) (cp σ k 2)) (by omega) (by omega))
          unfold ovC at this
          simp only [hs, k1, if_true, if_false, show ¬ ((1 : Int) = 0) by decide] at this
          omega
        · have := of_decide_eq_false (g (max (σ 0 + 1 - x - 4 * n) (σ 0 + 1 - cp σ k 2 - 4 * cp σ k 0)) (by omega) (by omega))
          unfold ovC at this
          simp only [hs, k1, if_true, if_false, show ¬ ((1 : Int) = 0) by decide] at this
          omega
      · rfl
    · have hf : ex (colB σ n sd x k) 0 (σ 0) = false := by
        refine ex_f.mpr (fun z z0 z1 => decide_eq_false (fun q => h ?_))
        unfold ovC at q
        unfold lowC
        rcases hs with hs | hs <;> rcases k1 with k1 | k1 <;> simp only [hs, k1, if_true, if_false, show ¬ ((1 : Int) = 0) by decide] at q ⊢ <;> omega
      rw [hf]
      by_cases h1 : lowC σ n sd x ≤ lowC σ (cp σ k 0) (cp σ k 1) (cp σ k 2) + 4 * cp σ k 0 - 2
      · rw [decide_eq_true h1, decide_eq_false (fun z => h ⟨h1, z⟩)]
        rfl
      · rw [decide_eq_false h1]
        rfl
  rw [he]
  unfold mtS
  congr 1
  rw [← Bool.decide_and]
  exact decide_eq_decide.mpr ⟨fun z => by omega, fun z => by omega⟩
/-- the caption k of the cloth at h is the object r -/
def cpIs (X : Cx) (w : Wo) (h : Nat) (k : Int) (r : Nat) : Prop := ∃ (a0 a1 a2 a3 a4 a5 a6 a7 mc n : Value) (lc ec kc : Nat) (gc : Nat → Option Nat), w h = some (.inr (10, [a0, a1, a2, a3, a4, a5, a6, a7])) ∧ a5 = .ref lc ∧ w lc = some (.inr (14, [mc, .ref ec, n])) ∧ w ec = some (aR X 5 kc gc) ∧ gc k.toNat = some r
def mtE (σ : Int → Int) (n sd x y bu k : Int) : Bool := ex (fun z => decide (z ≠ bu) && mtS σ n sd x y z) 0 k
section MA
variable {p : Program} {l : Launch} {e : Env} {R : Room} {s : State} {m : MethodId} {args : Array Value} {below : List Frame} {meth : Method} {c : Code} {H H0 : Heap} {locs : List Loc} {cells slots : Nat} {Q : State → Prop}
  {cc : ByteArray} {nL pc : Nat} {own : String} {ls : Array Slot} {rest : List Value}
theorem mt_acmp {v : Value} {r tgt : Nat} {off : Int} (F : Fx p m c cc nL s args own) (hd : decode cc pc = .ok (.if_acmp .eq off, 3)) (ht : (pc : Int) + off = (tgt : Int)) (hv : v = .null ∨ ∃ r9 : Nat, v = .ref r9)
    (kt : v = .ref r → W p l e R s m args below meth c H locs cells slots Q (F0 m tgt ls rest)) (kf : ¬ v = .ref r → W p l e R s m args below meth c H locs cells slots Q (F0 m (pc + 3) ls rest)) : W p l e R s m args below meth c H locs cells slots Q (F0 m pc ls (v :: .ref r :: rest)) := by
  rcases hv with rfl | ⟨r9, rfl⟩
  · exact lv_acmp_eq (rx := some r) (ry := none) F.1 F.2.1 hd ht (fun z => by cases z) (fun _ => kf (fun z => by cases z))
  · exact lv_acmp_eq (rx := some r) (ry := some r9) F.1 F.2.1 hd ht (fun z => kt (by cases z; rfl)) (fun z => kf (fun q => z (by cases q; rfl)))
end MA
theorem mt_bu {X : Cx} {w : Wo} {h lc ec kc : Nat} {bv : Value} {bu k : Int} {gc : Nat → Option Nat} {cd : Int → Nat} {σ : Int → Int} {a0 a1 a2 a3 a4 a6 a7 mc n : Value} (hbu : (bv = .null ∧ bu = -1) ∨ ∃ r, bv = .ref r ∧ 0 ≤ bu ∧ bu < σ 5 ∧ cpIs X w h bu r)
    (h1 : w h = some (.inr (10, [a0, a1, a2, a3, a4, .ref lc, a6, a7]))) (h3 : w ec = some (aR X 5 kc gc)) (h2 : w lc = some (.inr (14, [mc, .ref ec, n]))) (hcj : ∀ k k2, 0 ≤ k → k < σ 5 → 0 ≤ k2 → k2 < σ 5 → cd k = cd k2 → k = k2)
    (hk : k < σ 5) (hk0 : 0 ≤ k) (hg : gc k.toNat = some (cd k)) (hgb : ∀ k, 0 ≤ k → k < σ 5 → gc k.toNat = some (cd k)) : (bv = .ref (cd k)) = (k = bu) := by
  apply propext
  rcases hbu with ⟨rfl, rfl⟩ | ⟨r, rfl, hb0, hb1, b0, b1, b2, b3, b4, b5, b6, b7, mc2, n2, lc2, ec2, kc2, gc2, e1, e2, e3, e4, e5⟩
  · exact ⟨fun z => (by cases z), fun z => (by omega)⟩
  · have e6 := e1.symm.trans h1
    simp only [Option.some.injEq, Sum.inr.injEq, Prod.mk.injEq, List.cons.injEq, true_and, and_true] at e6
    obtain ⟨-, -, -, -, -, e7, -, -⟩ := e6
    rw [e2] at e7
    cases e7
    have e8 := e3.symm.trans h2
    simp only [Option.some.injEq, Sum.inr.injEq, Prod.mk.injEq, List.cons.injEq, true_and, and_true, Value.ref.injEq] at e8
    obtain ⟨-, e9, -⟩ := e8
    subst e9
    have e10 := e4.symm.trans h3
    simp only [Option.some.injEq, Sum.inl.injEq, Prod.mk.injEq, Sum.inr.injEq, true_and] at e10
    obtain ⟨-, e11⟩ := e10
    rw [e11, hgb bu hb0 hb1] at e5
    cases e5
    exact ⟨fun z => hcj k bu hk0 hk hb0 hb1 (Value.ref.inj z).symm, fun z => by rw [z]⟩
theorem ltr_at {p k : Int} (hk : 0 ≤ k ∧ k < 26) (hno : ∀ j, 0 ≤ j → j < k → decide (gl j = p) = false) (h : gl k = p) : ltrS p = k + 1 := by
  have e : fi (fun i => decide (gl i = p)) 0 26 = k := fi_hit hk.1 hk.2 hno (decide_eq_true h)
  unfold ltrS
  rw [e, if_pos hk.2]
theorem ltr_no {p : Int} (hno : ∀ j, 0 ≤ j → j < 26 → decide (gl j = p) = false) : ltrS p = 0 := by
  have e : fi (fun i => decide (gl i = p)) 0 26 = 26 := fi_none (by omega) hno
  unfold ltrS
  rw [e, if_neg (by omega)]
