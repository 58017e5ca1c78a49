/-! ===== SPEC: sums, searches; the state s : Int → Int is the reference's row ===== -/
def smN (f : Int → Int) (lo : Int) : Nat → Int | 0 => 0 | n + 1 => smN f lo n + f (lo + n)
/-- the sum of f over lo ≤ i < hi -/
def sm (f : Int → Int) (lo hi : Int) : Int := smN f lo (hi - lo).toNat
theorem sm_0 (f : Int → Int) (lo : Int) : sm f lo lo = 0 := by simp [sm, smN]
theorem sm_e (f : Int → Int) {lo hi : Int} (h : hi ≤ lo) : sm f lo hi = 0 := by
  have : (hi - lo).toNat = 0 := by omega
  simp [sm, this, smN]
theorem sm_s (f : Int → Int) {lo i : Int} (h : lo ≤ i) : sm f lo (i + 1) = sm f lo i + f i := by
  unfold sm
  have h1 : (i + 1 - lo).toNat = (i - lo).toNat + 1 := by omega
  rw [h1]
  show smN f lo (i - lo).toNat + f (lo + ((i - lo).toNat : Int)) = _
  rw [show lo + ((i - lo).toNat : Int) = i by omega]
theorem smN_c {f g : Int → Int} {lo : Int} : ∀ n : Nat, (∀ i, lo ≤ i → i < lo + n → f i = g i) → smN f lo n = smN g lo n
  | 0, _ => rfl
  | n + 1, h => by
    show smN f lo n + f (lo + n) = smN g lo n + g (lo + n)
    rw [smN_c n (fun i h1 h2 => h i h1 (by omega)), h (lo + n) (by omega) (by omega)]
theorem sm_c {f g : Int → Int} {lo hi : Int} (h : ∀ i, lo ≤ i → i < hi → f i = g i) : sm f lo hi = sm g lo hi := smN_c _ (fun i h1 h2 => h i h1 (by omega))
theorem smN_r {f : Int → Int} {lo M : Int} (hM : 0 ≤ M) : ∀ n : Nat, (∀ i, lo ≤ i → i < lo + n → 0 ≤ f i ∧ f i ≤ M) → 0 ≤ smN f lo n ∧ smN f lo n ≤ M * n
  | 0, _ => by simp [smN]
  | n + 1, h => by
    have h1 := smN_r hM n (fun i h1 h2 => h i h1 (by omega))
    have h2 := h (lo + n) (by omega) (by omega)
    have h3 : smN f lo (n + 1) = smN f lo n + f (lo + n) := rfl
    have h4 : M * ((n + 1 : Nat) : Int) = M * (n : Int) + M := by rw [Int.natCast_add, Int.mul_add]; simp
    omega
theorem sm_r {f : Int → Int} {lo hi M : Int} (hM : 0 ≤ M) (h : ∀ i, lo ≤ i → i < hi → 0 ≤ f i ∧ f i ≤ M) (hl : lo ≤ hi) : 0 ≤ sm f lo hi ∧ sm f lo hi ≤ M * (hi - lo) := by
  have h1 := smN_r (lo := lo) hM (hi - lo).toNat (fun i h1 h2 => h i h1 (by omega))
  rw [show (((hi - lo).toNat : Nat) : Int) = hi - lo by omega] at h1
  exact h1
/-- a number of truths among lo ≤ i < hi -/
def cnt (p : Int → Bool) (lo hi : Int) : Int := sm (fun i => bz (p i)) lo hi
theorem cnt_0 (p : Int → Bool) (lo : Int) : cnt p lo lo = 0 := sm_0 _ _
theorem cnt_e (p : Int → Bool) {lo hi : Int} (h : hi ≤ lo) : cnt p lo hi = 0 := sm_e _ h
theorem cnt_s (p : Int → Bool) {lo i : Int} (h : lo ≤ i) : cnt p lo (i + 1) = cnt p lo i + bz (p i) := sm_s _ h
theorem cnt_t {p : Int → Bool} {lo i : Int} (h : lo ≤ i) (hp : p i = true) : cnt p lo (i + 1) = cnt p lo i + 1 := by rw [cnt_s p h, hp]; rfl
theorem cnt_f {p : Int → Bool} {lo i : Int} (h : lo ≤ i) (hp : p i = false) : cnt p lo (i + 1) = cnt p lo i := by rw [cnt_s p h, hp]; show _ + 0 = _; omega
theorem cnt_r (p : Int → Bool) {lo hi : Int} (h : lo ≤ hi) : 0 ≤ cnt p lo hi ∧ cnt p lo hi ≤ hi - lo := by
  have := sm_r (f := fun i => bz (p i)) (M := 1) (by decide) (fun i _ _ => bz_r (p i)) h
  unfold cnt; omega
theorem cnt_c {p q : Int → Bool} {lo hi : Int} (h : ∀ i, lo ≤ i → i < hi → p i = q i) : cnt p lo hi = cnt q lo hi := sm_c (fun i h1 h2 => by rw [h i h1 h2])
def alN (p : Int → Bool) (lo : Int) : Nat → Bool | 0 => true | n + 1 => alN p lo n && p (lo + n)
/-- all of lo ≤ i < hi -/
def al (p : Int → Bool) (lo hi : Int) : Bool := alN p lo (hi - lo).toNat
theorem al_0 (p : Int → Bool) (lo : Int) : al p lo lo = true := by simp [al, alN]
theorem al_s (p : Int → Bool) {lo i : Int} (h : lo ≤ i) : al p lo (i + 1) = (al p lo i && p i) := by
  unfold al
  have h1 : (i + 1 - lo).toNat = (i - lo).toNat + 1 := by omega
  rw [h1]
  show (alN p lo (i - lo).toNat && p (lo + ((i - lo).toNat : Int))) = _
  rw [show lo + ((i - lo).toNat : Int) = i by omega]
theorem alN_iff {p : Int → Bool} {lo : Int} : ∀ n : Nat, alN p lo n = true ↔ ∀ i, lo ≤ i → i < lo + n → p i = true
  | 0 => by simp [alN]; intro i h1 h2; omega
  | n + 1 => by
    show (alN p lo n && p (lo + n)) = true ↔ _
    rw [Bool.and_eq_true, alN_iff n]
    constructor
    · intro h i h1 h2
      by_cases hi : i = lo + n
      · rw [hi]; exact h.2
      · exact h.1 i h1 (by omega)
    · intro h
      exact ⟨fun i h1 h2 => h i h1 (by omega), h _ (by omega) (by omega)⟩
theorem al_iff {p : Int → Bool} {lo hi : Int} : al p lo hi = true ↔ ∀ i, lo ≤ i → i < hi → p i = true := by
  unfold al
  rw [alN_iff]
  constructor
  · intro h i h1 h2; exact h i h1 (by omega)
  · intro h i h1 h2; exact h i h1 (by omega)
theorem al_c {p q : Int → Bool} {lo hi : Int} (h : ∀ i, lo ≤ i → i < hi → p i = q i) : al p lo hi = al q lo hi := by
  rw [Bool.eq_iff_iff, al_iff, al_iff]
  constructor
  · intro g i h1 h2; rw [← h i h1 h2]; exact g i h1 h2
  · intro g i h1 h2; rw [h i h1 h2]; exact g i h1 h2
/-- some of lo ≤ i < hi -/
def ex (p : Int → Bool) (lo hi : Int) : Bool := !al (fun i => !p i) lo hi
theorem ex_0 (p : Int → Bool) (lo : Int) : ex p lo lo = false := by simp [ex, al_0]
theorem ex_s (p : Int → Bool) {lo i : Int} (h : lo ≤ i) : ex p lo (i + 1) = (ex p lo i || p i) := by
  unfold ex
  rw [al_s _ h]
  cases al (fun i => !p i) lo i <;> cases p i <;> rfl
theorem ex_f {p : Int → Bool} {lo hi : Int} : ex p lo hi = false ↔ ∀ i, lo ≤ i → i < hi → p i = false := by
  unfold ex
  rw [Bool.not_eq_false', al_iff]
  constructor
  · intro h i h1 h2; have := h i h1 h2; simpa using this
  · intro h i h1 h2; rw [h i h1 h2]; rfl
theorem ex_c {p q : Int → Bool} {lo hi : Int} (h : ∀ i, lo ≤ i → i < hi → p i = q i) : ex p lo hi = ex q lo hi := by
  unfold ex
  rw [al_c (fun i h1 h2 => by rw [h i h1 h2])]
def fiN (p : Int → Bool) (lo : Int) : Nat → Int | 0 => lo | n + 1 => if fiN p lo n < lo + n then fiN p lo n else if p (lo + n) then lo + n else lo + n + 1
/-- the first of lo ≤ i < hi, or hi -/
def fi (p : Int → Bool) (lo hi : Int) : Int := fiN p lo (hi - lo).toNat
theorem fiN_spec {p : Int → Bool} {lo : Int} : ∀ n : Nat, lo ≤ fiN p lo n ∧ fiN p lo n ≤ lo + n ∧ (∀ j, lo ≤ j → j < fiN p lo n → p j = false) ∧ (fiN p lo n < lo + n → p (fiN p lo n) = true)
  | 0 => by simp [fiN]; intro j h1 h2; omega
  | n + 1 => by
    obtain ⟨h1, h2, h3, h4⟩ := fiN_spec (p := p) (lo := lo) n
    have e : fiN p lo (n + 1) = if fiN p lo n < lo + n then fiN p lo n else if p (lo + n) then lo + n else lo + n + 1 := rfl
    by_cases c1 : fiN p lo n < lo + n
    · rw [if_pos c1] at e
      rw [e]
      exact ⟨h1, by omega, h3, fun _ => h4 c1⟩
    · rw [if_neg c1] at e
      have hn : fiN p lo n = lo + n := by omega
      by_cases c2 : p (lo + n) = true
      · rw [if_pos c2] at e
        rw [e]
        exact ⟨by omega, by omega, fun j g1 g2 => h3 j g1 (by omega), fun _ => c2⟩
      · rw [if_neg c2] at e
        rw [e]
        refine ⟨by omega, by omega, fun j g1 g2 => ?_, fun g => by omega⟩
        by_cases c3 : j = lo + n
        · rw [c3]; simpa using c2
        · exact h3 j g1 (by omega)
theorem fi_spec (p : Int → Bool) {lo hi : Int} (h : lo ≤ hi) : lo ≤ fi p lo hi ∧ fi p lo hi ≤ hi ∧ (∀ j, lo ≤ j → j < fi p lo hi → p j = false) ∧ (fi p lo hi < hi → p (fi p lo hi) = true) := by
  have := fiN_spec (p := p) (lo := lo) (hi - lo).toNat
  rw [show lo + (((hi - lo).toNat : Nat) : Int) = hi by omega] at this
  exact this
theorem fi_hit {p : Int → Bool} {lo hi i : Int} (h1 : lo ≤ i) (h2 : i < hi) (h3 : ∀ j, lo ≤ j → j < i → p j = false) (h4 : p i = true) : fi p lo hi = i := by
  obtain ⟨a, b, c, d⟩ := fi_spec p (lo := lo) (hi := hi) (by omega)
  rcases Int.lt_trichotomy (fi p lo hi) i with g | g | g
  · have := d (by omega); rw [h3 _ a g] at this; cases this
  · exact g
  · have := c i h1 g; rw [h4] at this; cases this
theorem fi_none {p : Int → Bool} {lo hi : Int} (h : lo ≤ hi) (h3 : ∀ j, lo ≤ j → j < hi → p j = false) : fi p lo hi = hi := by
  obtain ⟨a, b, c, d⟩ := fi_spec p h
  rcases (show fi p lo hi < hi ∨ hi ≤ fi p lo hi by omega) with g | g
  · have := d g; rw [h3 _ a g] at this; cases this
  · omega
theorem fi_c {p q : Int → Bool} {lo hi : Int} (hl : lo ≤ hi) (h : ∀ i, lo ≤ i → i < hi → p i = q i) : fi p lo hi = fi q lo hi := by
  obtain ⟨a, b, c, d⟩ := fi_spec p hl
  by_cases g : fi p lo hi < hi
  · exact (fi_hit a g (fun j h1 h2 => by rw [← h j h1 (by omega)]; exact c j h1 h2) (by rw [← h _ a g]; exact d g)).symm
  · have e : fi p lo hi = hi := by omega
    rw [e]
    exact (fi_none hl (fun j h1 h2 => by rw [← h j h1 h2]; exact c j h1 (by omega))).symm
