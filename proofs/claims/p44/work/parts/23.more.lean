/-! ===== maxima; runs of joins ===== -/
def mxN (f : Int → Int) (lo : Int) : Nat → Int | 0 => 0 | n + 1 => max (mxN f lo n) (f (lo + n))
def mx (f : Int → Int) (lo hi : Int) : Int := mxN f lo (hi - lo).toNat
theorem mx_0 (f : Int → Int) (lo : Int) : mx f lo lo = 0 := by simp [mx, mxN]
theorem mx_s (f : Int → Int) {lo i : Int} (h : lo ≤ i) : mx f lo (i + 1) = max (mx f lo i) (f i) := by
  unfold mx
  have h1 : (i + 1 - lo).toNat = (i - lo).toNat + 1 := by omega
  rw [h1]
  show max (mxN f lo (i - lo).toNat) (f (lo + ((i - lo).toNat : Int))) = _
  rw [show lo + ((i - lo).toNat : Int) = i by omega]
theorem mxN_r {f : Int → Int} {lo M : Int} (hM : 0 ≤ M) : ∀ n : Nat, (∀ i, lo ≤ i → i < lo + n → f i ≤ M) → 0 ≤ mxN f lo n ∧ mxN f lo n ≤ M
  | 0, _ => by simp [mxN]; omega
  | n + 1, h => by
    have h1 := mxN_r hM n (fun i h1 h2 => h i h1 (by omega))
    have h2 := h (lo + n) (by omega) (by omega)
    have h3 : mxN f lo (n + 1) = max (mxN f lo n) (f (lo + n)) := rfl
    omega
theorem mx_r {f : Int → Int} {lo hi M : Int} (hM : 0 ≤ M) (h : ∀ i, lo ≤ i → i < hi → f i ≤ M) : 0 ≤ mx f lo hi ∧ mx f lo hi ≤ M := mxN_r hM _ (fun i h1 h2 => h i h1 (by omega))
theorem mxN_0 (f : Int → Int) (lo : Int) : ∀ n : Nat, 0 ≤ mxN f lo n
  | 0 => by simp [mxN]
  | n + 1 => by
    have h1 := mxN_0 f lo n
    have h3 : mxN f lo (n + 1) = max (mxN f lo n) (f (lo + n)) := rfl
    omega
theorem mxN_c {f g : Int → Int} {lo : Int} : ∀ n : Nat, (∀ i, lo ≤ i → i < lo + n → f i = g i) → mxN f lo n = mxN g lo n
  | 0, _ => rfl
  | n + 1, h => by
    show max (mxN f lo n) (f (lo + n)) = max (mxN g lo n) (g (lo + n))
    rw [mxN_c n (fun i h1 h2 => h i h1 (by omega)), h (lo + n) (by omega) (by omega)]
theorem mx_c {f g : Int → Int} {lo hi : Int} (h : ∀ i, lo ≤ i → i < hi → f i = g i) : mx f lo hi = mx g lo hi := mxN_c _ (fun i h1 h2 => h i h1 (by omega))
def jnS (σ : Int → Int) (c r : Int) : Bool := decide (cellS σ c r ≠ cellS σ (c + 1) r)
def rnN (σ : Int → Int) (c : Int) : Nat → Int | 0 => 0 | n + 1 => if jnS σ c n then rnN σ c n + 1 else 0
/-- the rows of joins that end below the row r -/
def rnS (σ : Int → Int) (c r : Int) : Int := rnN σ c r.toNat
theorem rnS_0 (σ : Int → Int) (c : Int) : rnS σ c 0 = 0 := rfl
theorem rnS_s (σ : Int → Int) (c : Int) {r : Int} (h : 0 ≤ r) : rnS σ c (r + 1) = if jnS σ c r then rnS σ c r + 1 else 0 := by
  unfold rnS
  rw [show (r + 1).toNat = r.toNat + 1 by omega]
  show (if jnS σ c (r.toNat : Int) then rnN σ c r.toNat + 1 else 0) = _
  rw [show (r.toNat : Int) = r by omega]
theorem rnN_r (σ : Int → Int) (c : Int) : ∀ n : Nat, 0 ≤ rnN σ c n ∧ rnN σ c n ≤ n
  | 0 => by simp [rnN]
  | n + 1 => by
    have h1 := rnN_r σ c n
    have e : rnN σ c (n + 1) = if jnS σ c n then rnN σ c n + 1 else 0 := rfl
    rw [e]
    split <;> omega
theorem rnS_r (σ : Int → Int) (c : Int) {r : Int} (h : 0 ≤ r) : 0 ≤ rnS σ c r ∧ rnS σ c r ≤ r := by
  have := rnN_r σ c r.toNat
  unfold rnS
  omega
/-- slits of a column that have so many rows: told when they get so long; told at their ends -/
def slA (σ : Int → Int) (L c : Int) : Int := cnt (fun r => decide (rnS σ c (r + 1) = L)) 0 (σ 4)
def enB (σ : Int → Int) (c r : Int) : Bool := decide (r = σ 4) || !jnS σ c r
def slB (σ : Int → Int) (L c : Int) : Int := cnt (fun r => enB σ c r && decide (L ≤ rnS σ c r)) 0 (σ 4 + 1)
def lgA (σ : Int → Int) (c : Int) : Int := mx (fun r => rnS σ c (r + 1)) 0 (σ 4)
def lgB (σ : Int → Int) (c : Int) : Int := mx (fun r => if enB σ c r then rnS σ c r else 0) 0 (σ 4 + 1)
theorem sl_in {σ : Int → Int} {L c : Int} (hL : 1 ≤ L) : ∀ n : Nat, (n : Int) ≤ σ 4 → cnt (fun r => decide (rnS σ c (r + 1) = L)) 0 n = cnt (fun r => enB σ c r && decide (L ≤ rnS σ c r)) 0 n + (if L ≤ rnS σ c n then 1 else 0)
  | 0, _ => by
    rw [show ((0 : Nat) : Int) = 0 from rfl, cnt_0, cnt_0, rnS_0, if_neg (by omega)]
    rfl
  | n + 1, h => by
    have ih := sl_in (σ := σ) (c := c) hL n (by omega)
    have hr := rnS_r σ c (r := (n : Int)) (by omega)
    rw [show (((n + 1 : Nat)) : Int) = (n : Int) + 1 by omega, cnt_s _ (by omega), cnt_s _ (by omega), ih, rnS_s σ c (by omega)]
    have he : enB σ c n = !jnS σ c n := by unfold enB; rw [decide_eq_false (by omega)]; rfl
    rw [he]
    cases hj : jnS σ c n
    · simp only [Bool.not_false, Bool.true_and, Bool.false_eq_true, if_false]
      have e1 : decide ((0 : Int) = L) = false := decide_eq_false (by omega)
      have e2 : ¬ L ≤ 0 := by omega
      by_cases h2 : L ≤ rnS σ c n
      · simp only [if_pos h2, decide_eq_true h2, e1, if_neg e2, bz_t, bz_f] <;> omega
      · simp only [if_neg h2, decide_eq_false h2, e1, if_neg e2, bz_f]
    · simp only [Bool.not_true, Bool.false_and, if_true]
      by_cases h2 : L ≤ rnS σ c n
      · rw [if_pos h2, if_pos (by omega), decide_eq_false (by omega)]; simp [bz]
      · rw [if_neg h2]
        by_cases h3 : rnS σ c n + 1 = L
        · rw [if_pos (by omega), decide_eq_true h3]; simp [bz]
        · rw [if_neg (by omega), decide_eq_false h3]; simp [bz]
theorem sl_eq {σ : Int → Int} {L : Int} (h : 0 ≤ σ 4) (hL : 1 ≤ L) (c : Int) : slA σ L c = slB σ L c := by
  have h1 := sl_in (σ := σ) (c := c) hL (σ 4).toNat (by omega)
  rw [show (((σ 4).toNat : Nat) : Int) = σ 4 by omega] at h1
  unfold slA slB
  rw [h1, cnt_s _ (by omega)]
  have he : enB σ c (σ 4) = true := by unfold enB; rw [decide_eq_true rfl]; rfl
  rw [he]
  by_cases h2 : L ≤ rnS σ c (σ 4)
  · rw [if_pos h2, decide_eq_true h2]; rfl
  · rw [if_neg h2, decide_eq_false h2]; rfl
theorem lg_in {σ : Int → Int} {c : Int} : ∀ n : Nat, (n : Int) ≤ σ 4 → mx (fun r => rnS σ c (r + 1)) 0 n = max (mx (fun r => if enB σ c r then rnS σ c r else 0) 0 n) (rnS σ c n)
  | 0, _ => by
    rw [show ((0 : Nat) : Int) = 0 from rfl, mx_0, mx_0, rnS_0]
    rfl
  | n + 1, h => by
    have ih := lg_in (σ := σ) (c := c) n (by omega)
    have hr := rnS_r σ c (r := (n : Int)) (by omega)
    rw [show (((n + 1 : Nat)) : Int) = (n : Int) + 1 by omega, mx_s _ (by omega), mx_s _ (by omega), ih, rnS_s σ c (by omega)]
    have he : enB σ c n = !jnS σ c n := by unfold enB; rw [decide_eq_false (by omega)]; rfl
    rw [he]
    have hm := mxN_0 (fun r => if enB σ c r then rnS σ c r else 0) 0 ((n : Int) - 0).toNat
    have hm2 : 0 ≤ mx (fun r => if enB σ c r then rnS σ c r else 0) 0 n := hm
    cases hj : jnS σ c n
    · simp only [Bool.not_false, if_true, Bool.false_eq_true, if_false] <;> omega
    · simp only [Bool.not_true, Bool.false_eq_true, if_false, if_true] <;> omega
theorem lg_eq {σ : Int → Int} (h : 0 ≤ σ 4) (c : Int) : lgA σ c = lgB σ c := by
  have h1 := lg_in (σ := σ) (c := c) (σ 4).toNat (by omega)
  rw [show (((σ 4).toNat : Nat) : Int) = σ 4 by omega] at h1
  unfold lgA lgB
  rw [h1, mx_s _ (by omega)]
  have he : enB σ c (σ 4) = true := by unfold enB; rw [decide_eq_true rfl]; rfl
  rw [he]
  rfl
