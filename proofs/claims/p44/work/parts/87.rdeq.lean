/-! ===== what the class counts one way and the reference another ===== -/
theorem td_r {σ : Int → Int} {k j : Int} (h : capOK σ k) (hj : 0 ≤ j ∧ j < cp σ k 0) : 1 ≤ tdS σ k j ∧ tdS σ k j ≤ 26 := by
  have := h.2.2.2.2.2 j hj.1 hj.2
  unfold tdS
  omega
theorem rd_leg {σ : Int → Int} {k j : Int} {t : Bool} (h : capOK σ k) (hj : 0 ≤ j ∧ j < cp σ k 0) : decide (rdN σ k j t = tdS σ k j) = (legS σ k && decide (rdS σ k j t = tdS σ k j)) := by
  have := td_r h hj
  unfold rdN
  cases legS σ k
  · rw [Bool.false_and]
    exact decide_eq_false (by rw [if_neg (by decide)]; omega)
  · rw [Bool.true_and, if_pos rfl]
theorem rd_cnt {σ : Int → Int} {k : Int} {t : Bool} (h : capOK σ k) : cnt (fun z => decide (rdN σ k z t = tdS σ k z)) 0 (cp σ k 0) = cnt (fun z => legS σ k && decide (rdS σ k z t = tdS σ k z)) 0 (cp σ k 0) :=
  cnt_c (fun z z0 z1 => rd_leg h ⟨z0, z1⟩)
theorem gl_inj0 : ∀ i : Nat, i < 26 → ∀ j : Nat, j < 26 → gl (i : Int) = gl (j : Int) → i = j := by decide +kernel
theorem gl_inj {i j : Int} (hi : 0 ≤ i ∧ i < 26) (hj : 0 ≤ j ∧ j < 26) (h : gl i = gl j) : i = j := by
  have := gl_inj0 i.toNat (by omega) j.toNat (by omega) (by rw [show ((i.toNat : Nat) : Int) = i by omega, show ((j.toNat : Nat) : Int) = j by omega]; exact h)
  omega
theorem ltr_iff {p t : Int} (ht : 1 ≤ t ∧ t ≤ 26) : ltrS p = t ↔ p = gl (t - 1) := by
  have hs := fi_spec (fun i => decide (gl i = p)) (lo := 0) (hi := 26) (by decide)
  unfold ltrS
  constructor
  · intro h
    by_cases g : fi (fun i => decide (gl i = p)) 0 26 < 26
    · rw [if_pos g] at h
      have e := of_decide_eq_true (hs.2.2.2 g)
      rw [← e, show t - 1 = fi (fun i => decide (gl i = p)) 0 26 by omega]
    · rw [if_neg g] at h; omega
  · intro h
    have e : fi (fun i => decide (gl i = p)) 0 26 = t - 1 := fi_hit (by omega) (by omega) (fun j j0 j1 => decide_eq_false (fun z => by
      have := gl_inj (i := j) (j := t - 1) (by omega) (by omega) (by rw [z, h])
      omega)) (decide_eq_true h.symm)
    rw [e, if_pos (by omega)]; omega
theorem gh_cnt {σ : Int → Int} {k : Int} (h : capOK σ k) : thatG σ k = cnt (fun z => legS σ k && decide (ltrS (picS σ k z true) = tdS σ k z)) 0 (cp σ k 0) := by
  unfold thatG
  refine cnt_c (fun z z0 z1 => ?_)
  have ht := td_r h ⟨z0, z1⟩
  refine congrArg (fun b => legS σ k && b) (decide_eq_decide.mpr ?_)
  rw [ltr_iff ht]
  unfold tdS
  rw [show cp σ k (5 + z) + 1 - 1 = cp σ k (5 + z) by omega]
/-! sums of sums -/
theorem smN_add (f g : Int → Int) (lo : Int) : ∀ n : Nat, smN (fun i => f i + g i) lo n = smN f lo n + smN g lo n
  | 0 => rfl
  | n + 1 => by
    show smN (fun i => f i + g i) lo n + (f (lo + n) + g (lo + n)) = smN f lo n + f (lo + n) + (smN g lo n + g (lo + n))
    rw [smN_add f g lo n]; omega
theorem smN_zero (lo : Int) : ∀ n : Nat, smN (fun _ => 0) lo n = 0
  | 0 => rfl
  | n + 1 => by show smN (fun _ => 0) lo n + 0 = 0; rw [smN_zero lo n]; rfl
theorem smN_swap (f : Int → Int → Int) (a b : Int) (m : Nat) : ∀ n : Nat, smN (fun x => smN (f x) b m) a n = smN (fun y => smN (fun x => f x y) a n) b m
  | 0 => by
    show 0 = smN (fun _ => 0) b m
    rw [smN_zero]
  | n + 1 => by
    show smN (fun x => smN (f x) b m) a n + smN (f (a + n)) b m = smN (fun y => smN (fun x => f x y) a n + f (a + n) y) b m
    rw [smN_swap f a b m n, smN_add]
theorem smN_sh (f : Int → Int) (lo : Int) : ∀ n : Nat, smN f lo n = smN (fun i => f (lo + i)) 0 n
  | 0 => rfl
  | n + 1 => by
    show smN f lo n + f (lo + n) = smN (fun i => f (lo + i)) 0 n + f (lo + (0 + n))
    rw [smN_sh f lo n, Int.zero_add]
theorem smN_hd (g : Int → Int) : ∀ n : Nat, smN g 0 (n + 1) = g 0 + smN (fun i => g (i + 1)) 0 n
  | 0 => by show 0 + g (0 + 0) = g 0 + 0; simp
  | n + 1 => by
    have ih := smN_hd g n
    show smN g 0 (n + 1) + g (0 + ((n + 1 : Nat) : Int)) = g 0 + (smN (fun i => g (i + 1)) 0 n + g (0 + (n : Int) + 1))
    rw [ih, show (0 : Int) + ((n + 1 : Nat) : Int) = 0 + (n : Int) + 1 by omega]; omega
theorem smN_rv (f : Int → Int) : ∀ n : Nat, smN (fun i => f ((n : Int) - 1 - i)) 0 n = smN f 0 n
  | 0 => rfl
  | n + 1 => by
    rw [smN_hd]
    have ih := smN_rv f n
    have e : smN (fun i => f (((n + 1 : Nat) : Int) - 1 - (i + 1))) 0 n = smN (fun i => f ((n : Int) - 1 - i)) 0 n := smN_c n (fun i _ _ => by rw [show ((n + 1 : Nat) : Int) - 1 - (i + 1) = (n : Int) - 1 - i by omega])
    show f (((n + 1 : Nat) : Int) - 1 - 0) + smN (fun i => f (((n + 1 : Nat) : Int) - 1 - (i + 1))) 0 n = smN f 0 n + f (0 + (n : Int))
    rw [e, ih, show ((n + 1 : Nat) : Int) - 1 - 0 = 0 + (n : Int) by omega]; omega
theorem sm_N (f : Int → Int) {lo hi : Int} {n : Nat} (h : hi = lo + n) : sm f lo hi = smN f lo n := by
  unfold sm
  rw [show (hi - lo).toNat = n by omega]
/-- the mistakes in a box -/
theorem box_eq {σ : Int → Int} {k : Int} (h : capOK σ k) : sm (fun r => cnt (fun c => misS σ c r) (if cp σ k 1 = 0 then cp σ k 2 else σ 0 - cp σ k 2 - (4 * cp σ k 0 - 1)) ((if cp σ k 1 = 0 then cp σ k 2 else σ 0 - cp σ k 2 - (4 * cp σ k 0 - 1)) + (4 * cp σ k 0 - 1))) (cp σ k 3) (cp σ k 3 + 5) = sm (fun z => cnt (fun y => misS σ (capCol σ k (cp σ k 2 + z)) (cp σ k 3 + y)) 0 5) 0 (4 * cp σ k 0 - 1) := by
  have hn := h.1
  obtain ⟨B, hB⟩ : ∃ B : Nat, 4 * cp σ k 0 - 1 = (B : Int) := ⟨(4 * cp σ k 0 - 1).toNat, by omega⟩
  rw [hB, sm_N (lo := cp σ k 3) (hi := cp σ k 3 + 5) _ (n := 5) (by omega), sm_N (lo := 0) (hi := (B : Int)) _ (n := B) (by omega)]
  have e1 : ∀ r : Int, cnt (fun c => misS σ c r) (if cp σ k 1 = 0 then cp σ k 2 else σ 0 - cp σ k 2 - (B : Int)) ((if cp σ k 1 = 0 then cp σ k 2 else σ 0 - cp σ k 2 - (B : Int)) + (B : Int)) = smN (fun z => bz (misS σ (capCol σ k (cp σ k 2 + z)) r)) 0 B := by
    intro r
    show sm _ _ _ = _
    rw [sm_N _ (n := B) rfl, smN_sh]
    by_cases g : cp σ k 1 = 0
    · refine smN_c B (fun i _ _ => ?_)
      unfold capCol
      rw [if_pos g, if_pos g]
    · rw [← smN_rv]
      refine smN_c B (fun i _ _ => ?_)
      unfold capCol turnS
      rw [if_neg g, if_neg g, show σ 0 - cp σ k 2 - (B : Int) + ((B : Int) - 1 - i) = σ 0 - 1 - (cp σ k 2 + i) by omega]
  rw [smN_c 5 (fun r _ _ => e1 r), smN_swap]
  refine smN_c B (fun z _ _ => ?_)
  show _ = sm _ 0 5
  rw [sm_N (lo := 0) (hi := 5) _ (n := 5) (by omega), smN_sh]
/-! parts of sums -/
theorem sm_pre {f g : Int → Int} {lo m hi : Int} (h : lo ≤ m ∧ m ≤ hi) (h1 : ∀ i, lo ≤ i → i < m → f i = g i) (h2 : ∀ i, m ≤ i → i < hi → f i = 0) : sm f lo hi = sm g lo m := by
  obtain ⟨d, hd⟩ : ∃ d : Nat, hi = m + d := ⟨(hi - m).toNat, by omega⟩
  subst hd
  induction d with
  | zero => rw [show m + ((0 : Nat) : Int) = m by omega]; exact sm_c h1
  | succ d ih =>
    rw [show m + ((d + 1 : Nat) : Int) = m + d + 1 by omega, sm_s _ (by omega), ih (by omega) (fun i a b => h2 i a (by omega)), h2 (m + d) (by omega) (by omega)]
    omega
theorem sm_suf {f : Int → Int} {lo m hi : Int} (h : lo ≤ m ∧ m ≤ hi) (h2 : ∀ i, lo ≤ i → i < m → f i = 0) : sm f lo hi = sm f m hi := by
  obtain ⟨d, hd⟩ : ∃ d : Nat, hi = m + d := ⟨(hi - m).toNat, by omega⟩
  subst hd
  induction d with
  | zero =>
    rw [show m + ((0 : Nat) : Int) = m by omega, sm_0, sm_c (g := fun _ => 0) h2]
    exact smN_zero _ _
  | succ d ih => rw [show m + ((d + 1 : Nat) : Int) = m + d + 1 by omega, sm_s _ (by omega), sm_s _ (by omega), ih (by omega)]
theorem col1_eq {σ : Int → Int} (h : WF0 σ) (co : Int) : sm (wovR σ co) 0 (σ 4) = sm (fun y => if y < σ 4 then wovR σ co y else 0) 0 (σ 1) := by
  unfold WF0 at h
  exact (sm_pre (by omega) (fun i _ i1 => if_pos i1) (fun i i0 _ => if_neg (by omega))).symm
theorem col3_eq {σ : Int → Int} (h : WF σ) (co : Int) : sm (towR σ co) (σ 4) (σ 1) = sm (towR σ co) 0 (σ 1) := by
  have w0 := h.1
  unfold WF0 at w0
  refine (sm_suf (by omega) (fun r r0 r1 => ?_)).symm
  unfold towR
  rw [cnt_c (q := fun _ => false) (fun c c0 c1 => by
    have := h.2.2.2.2.1 c r c0 c1 r0 r1
    rw [decide_eq_false (p := cellS σ c r = -1) (by omega)]; rfl)]
  exact cnt_n _ _
/-! slits -/
theorem cnt_pos {p : Int → Bool} {lo hi : Int} (hl : lo ≤ hi) : cnt p lo hi = 0 ↔ ∀ i, lo ≤ i → i < hi → p i = false := by
  obtain ⟨d, hd⟩ : ∃ d : Nat, hi = lo + d := ⟨(hi - lo).toNat, by omega⟩
  subst hd
  induction d with
  | zero =>
    rw [show lo + ((0 : Nat) : Int) = lo by omega, cnt_0]
    exact ⟨fun _ i a b => by omega, fun _ => rfl⟩
  | succ d ih =>
    rw [show lo + ((d + 1 : Nat) : Int) = lo + d + 1 by omega, cnt_s _ (by omega)]
    have h1 := cnt_r p (lo := lo) (hi := lo + d) (by omega)
    have h2 := bz_r (p (lo + d))
    have ih := ih (by omega)
    constructor
    · intro z i a b
      by_cases g : i = lo + d
      · rw [g]; exact bz_0 (by omega)
      · exact ih.mp (by omega) i a (by omega)
    · intro z
      rw [ih.mpr (fun i a b => z i a (by omega)), z (lo + d) (by omega) (by omega)]; rfl
theorem sm_pos {f : Int → Int} {lo hi : Int} (hl : lo ≤ hi) (hf : ∀ i, 0 ≤ f i) : sm f lo hi = 0 ↔ ∀ i, lo ≤ i → i < hi → f i = 0 := by
  obtain ⟨d, hd⟩ : ∃ d : Nat, hi = lo + d := ⟨(hi - lo).toNat, by omega⟩
  subst hd
  induction d with
  | zero =>
    rw [show lo + ((0 : Nat) : Int) = lo by omega, sm_0]
    exact ⟨fun _ i a b => by omega, fun _ => rfl⟩
  | succ d ih =>
    rw [show lo + ((d + 1 : Nat) : Int) = lo + d + 1 by omega, sm_s _ (by omega)]
    have h1 : 0 ≤ sm f lo (lo + d) := by
      have := sm_mono hf (lo := lo) (i := lo) (hi := lo + d) (by omega)
      rw [sm_0] at this; exact this
    have h2 := hf (lo + d)
    have ih := ih (by omega)
    constructor
    · intro z i a b
      by_cases g : i = lo + d
      · rw [g]; omega
      · exact ih.mp (by omega) i a (by omega)
    · intro z
      rw [ih.mpr (fun i a b => z i a (by omega)), z (lo + d) (by omega) (by omega)]; rfl
theorem mx_ge {f : Int → Int} {lo hi : Int} (i : Int) (h0 : lo ≤ i) (h1 : i < hi) : f i ≤ mx f lo hi := by
  obtain ⟨d, hd⟩ : ∃ d : Nat, hi = lo + d := ⟨(hi - lo).toNat, by omega⟩
  subst hd
  induction d with
  | zero => omega
  | succ d ih =>
    rw [show lo + ((d + 1 : Nat) : Int) = lo + d + 1 by omega, mx_s _ (by omega)]
    by_cases g : i = lo + d
    · rw [g]; omega
    · have := ih (by omega); omega
theorem long_eq {σ : Int → Int} (h : WF σ) : (if mx (lgA σ) 0 (σ 0 - 1) < 2 then 0 else mx (lgA σ) 0 (σ 0 - 1)) = (if slQ σ 2 = 0 then 0 else lgQ σ) := by
  have w0 := h.1
  unfold WF0 at w0
  have e : mx (lgA σ) 0 (σ 0 - 1) = lgQ σ := mx_c (fun c _ _ => lg_eq (by omega) c)
  rw [e]
  have hz : slQ σ 2 = 0 ↔ lgQ σ < 2 := by
    unfold slQ
    rw [sm_pos (by omega) (fun c => by
      have := cnt_r (fun r => enB σ c r && decide (2 ≤ rnS σ c r)) (lo := 0) (hi := σ 4 + 1) (by omega)
      unfold slB; omega)]
    constructor
    · intro z
      have := mx_r (f := lgB σ) (lo := 0) (hi := σ 0 - 1) (M := 1) (by decide) (fun c c0 c1 => by
        have hc := z c c0 c1
        unfold slB at hc
        rw [cnt_pos (by omega)] at hc
        refine (mx_r (M := 1) (by decide) (fun r r0 r1 => ?_)).2
        have hr := hc r r0 r1
        show (if enB σ c r = true then rnS σ c r else 0) ≤ 1
        by_cases g : enB σ c r = true
        · rw [if_pos g]
          rw [g, Bool.true_and] at hr
          have := of_decide_eq_false hr
          omega
        · rw [if_neg g]; omega)
      unfold lgQ
      omega
    · intro z c c0 c1
      unfold slB
      rw [cnt_pos (by omega)]
      intro r r0 r1
      have h1 := mx_ge (f := lgB σ) (lo := 0) (hi := σ 0 - 1) c c0 c1
      have h2 := mx_ge (f := fun r => if enB σ c r then rnS σ c r else 0) (lo := 0) (hi := σ 4 + 1) r r0 r1
      have h3 : lgB σ c = mx (fun r => if enB σ c r then rnS σ c r else 0) 0 (σ 4 + 1) := rfl
      unfold lgQ at z
      cases hb : enB σ c r
      · rfl
      · simp only [hb, if_true] at h2
        rw [decide_eq_false (by omega)]; rfl
  by_cases g : lgQ σ < 2
  · rw [if_pos g, if_pos (hz.mpr g)]
  · rw [if_neg g, if_neg (fun z => g (hz.mp z))]
theorem slt_eq {σ : Int → Int} (h : 0 ≤ σ 4) {L : Int} (hL : 1 ≤ L) : sm (slA σ L) 0 (σ 0 - 1) = slQ σ L := sm_c (fun c _ _ => sl_eq h hL c)
/-! alike from both sides -/
theorem gl_lt (k : Int) : 0 ≤ gl k ∧ gl k < 32768 := by
  have h : ∀ k : Nat, k < 26 → 0 ≤ gl (k : Int) ∧ gl (k : Int) < 32768 := by decide +kernel
  by_cases g : k.toNat < 26
  · have e : gl k = gl ((k.toNat : Nat) : Int) := by unfold gl; rfl
    rw [e]; exact h _ g
  · have e : gl k = 0 := by
      unfold gl
      rw [List.getD_eq_getElem?_getD, List.getElem?_eq_none (by show 26 ≤ k.toNat; omega)]
      rfl
    rw [e]; decide
theorem rev_iff {p q : Int} (hp : 0 ≤ p ∧ p < 32768) (hq : 0 ≤ q ∧ q < 32768) : q = revS p ↔ ∀ d o : Int, 0 ≤ d → d ≤ 4 → 0 ≤ o → o ≤ 2 → hasBitS p d o = hasBitS q d (2 - o) := by
  obtain ⟨Q, hQ⟩ : ∃ Q : Nat, q = (Q : Int) := ⟨q.toNat, by omega⟩
  subst hQ
  have hr := revS_r p
  have hbit : ∀ i : Nat, i < 15 → (revS p).toNat.testBit i = revB p ((15 - 1 - i : Nat) : Int) := fun i hi => bsN_bit _ 15 i hi
  constructor
  · intro h d o d0 d1 o0 o1
    have h1 := hb_bit (P := Q) (d := d) (o := 2 - o) (by omega)
    rw [h1, show Q = (revS p).toNat by omega, hbit _ (by omega)]
    unfold revB
    rw [show ((15 - 1 - (14 - 3 * d - (2 - o)).toNat : Nat) : Int) = 3 * d + (2 - o) by omega, show (3 * d + (2 - o)) / 3 = d by omega, show 2 - (3 * d + (2 - o)) % 3 = o by omega]
  · intro h
    have key : Q = (revS p).toNat := by
      apply Nat.eq_of_testBit_eq
      intro i
      by_cases hi : i < 15
      · rw [hbit i hi]
        unfold revB
        rw [h (((15 - 1 - i : Nat) : Int) / 3) (2 - ((15 - 1 - i : Nat) : Int) % 3) (by omega) (by omega) (by omega) (by omega), hb_bit (by omega)]
        congr 1; omega
      · rw [Nat.testBit_lt_two_pow (Nat.lt_of_lt_of_le (show Q < 2 ^ 15 by omega) (Nat.pow_le_pow_right (by decide) (by omega))), Nat.testBit_lt_two_pow (Nat.lt_of_lt_of_le (show (revS p).toNat < 2 ^ 15 by omega) (Nat.pow_le_pow_right (by decide) (by omega)))]
    omega
theorem alk_eq {σ : Int → Int} {k : Int} (h : capOK σ k) : al (fun z => decide (gl (cp σ k (5 + (cp σ k 0 - 1 - z))) = revS (gl (cp σ k (5 + z))))) 0 (cp σ k 0) = alkQ σ k := by
  have hn := h.1
  rw [Bool.eq_iff_iff, al_iff]
  unfold alkQ
  rw [al_iff]
  constructor
  · intro H z z0 z1
    rw [al_iff]
    intro y y0 y1
    unfold inkS
    by_cases g : z % 4 = 3
    · rw [if_pos g, if_pos (by omega)]; rfl
    · rw [if_neg g, if_neg (by omega)]
      have e := of_decide_eq_true (H (z / 4) (by omega) (by omega))
      have e2 := (rev_iff (gl_lt _) (gl_lt _)).mp e (4 - y) (z % 4) (by omega) (by omega) (by omega) (by omega)
      rw [e2, show (4 * cp σ k 0 - 2 - z) / 4 = cp σ k 0 - 1 - z / 4 by omega, show (4 * cp σ k 0 - 2 - z) % 4 = 2 - z % 4 by omega]
      exact beq_self_eq_true _
  · intro H z z0 z1
    apply decide_eq_true
    rw [rev_iff (gl_lt _) (gl_lt _)]
    intro d o d0 d1 o0 o1
    have e := al_iff.mp (H (4 * z + o) (by omega) (by omega)) (4 - d) (by omega) (by omega)
    have e := eq_of_beq e
    unfold inkS at e
    rw [if_neg (by omega), if_neg (by omega), show (4 * z + o) / 4 = z by omega, show (4 * z + o) % 4 = o by omega, show 4 - (4 - d) = d by omega, show (4 * cp σ k 0 - 2 - (4 * z + o)) / 4 = cp σ k 0 - 1 - z by omega, show (4 * cp σ k 0 - 2 - (4 * z + o)) % 4 = 2 - o by omega] at e
    exact e
/-! joins of finished rows -/
theorem jc_eq {σ : Int → Int} (h : WF σ) {r : Int} (hr : 0 ≤ r ∧ r < σ 4) : jwS σ r = jcS σ r := by
  unfold jwS jcS
  refine cnt_c (fun z z0 z1 => ?_)
  have h1 := h.2.2.2.2.1 z r z0 (by omega) hr.1 hr.2
  have h2 := h.2.2.2.2.1 (z + 1) r (by omega) (by omega) hr.1 hr.2
  unfold wvS
  rw [if_neg (by omega), if_neg (by omega)]
