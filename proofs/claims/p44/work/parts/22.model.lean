/-! ===== the reference's cells: the object at mo, its arrays behind it; its numbers are one function of the field's place ===== -/
def mL (mo : Nat) (v : Int → Int) : List Value := [.ref (mo + 1), .ref (mo + 2), .ref (mo + 3), .ref (mo + 4), .ref (mo + 5), .int (iI (v 5)), .int (iI (v 6)), .ref (mo + 6), .int (iI (v 8)), .int (iI (v 9)), .ref (mo + 7), .int (iI (v 11)), .int (iI (v 12)), .ref (mo + 8), .int (iI (v 14)), .int (iI (v 15)), .int (iI (v 16)), .int (iI (v 17)), .int (iI (v 18)), .int (iI (v 19)), .int (iI (v 20)), .int (iI (v 21)), .int (iI (v 22)), .int (iI (v 23)), .ref (mo + 9), .ref (mo + 10), .ref (mo + 11), .int (iI (v 27)), .int (iI (v 28)), .int (iI (v 29)), .ref (mo + 12), .int (iI (v 31))]
theorem mL_5 (mo : Nat) (v : Int → Int) (x : Int) : (mL mo v).set 5 (.int (iI x)) = mL mo (up v 5 x) := by simp [mL, up]
theorem mL_6 (mo : Nat) (v : Int → Int) (x : Int) : (mL mo v).set 6 (.int (iI x)) = mL mo (up v 6 x) := by simp [mL, up]
theorem mL_8 (mo : Nat) (v : Int → Int) (x : Int) : (mL mo v).set 8 (.int (iI x)) = mL mo (up v 8 x) := by simp [mL, up]
theorem mL_9 (mo : Nat) (v : Int → Int) (x : Int) : (mL mo v).set 9 (.int (iI x)) = mL mo (up v 9 x) := by simp [mL, up]
theorem mL_11 (mo : Nat) (v : Int → Int) (x : Int) : (mL mo v).set 11 (.int (iI x)) = mL mo (up v 11 x) := by simp [mL, up]
theorem mL_12 (mo : Nat) (v : Int → Int) (x : Int) : (mL mo v).set 12 (.int (iI x)) = mL mo (up v 12 x) := by simp [mL, up]
theorem mL_14 (mo : Nat) (v : Int → Int) (x : Int) : (mL mo v).set 14 (.int (iI x)) = mL mo (up v 14 x) := by simp [mL, up]
theorem mL_15 (mo : Nat) (v : Int → Int) (x : Int) : (mL mo v).set 15 (.int (iI x)) = mL mo (up v 15 x) := by simp [mL, up]
theorem mL_16 (mo : Nat) (v : Int → Int) (x : Int) : (mL mo v).set 16 (.int (iI x)) = mL mo (up v 16 x) := by simp [mL, up]
theorem mL_17 (mo : Nat) (v : Int → Int) (x : Int) : (mL mo v).set 17 (.int (iI x)) = mL mo (up v 17 x) := by simp [mL, up]
theorem mL_18 (mo : Nat) (v : Int → Int) (x : Int) : (mL mo v).set 18 (.int (iI x)) = mL mo (up v 18 x) := by simp [mL, up]
theorem mL_19 (mo : Nat) (v : Int → Int) (x : Int) : (mL mo v).set 19 (.int (iI x)) = mL mo (up v 19 x) := by simp [mL, up]
theorem mL_20 (mo : Nat) (v : Int → Int) (x : Int) : (mL mo v).set 20 (.int (iI x)) = mL mo (up v 20 x) := by simp [mL, up]
theorem mL_21 (mo : Nat) (v : Int → Int) (x : Int) : (mL mo v).set 21 (.int (iI x)) = mL mo (up v 21 x) := by simp [mL, up]
theorem mL_22 (mo : Nat) (v : Int → Int) (x : Int) : (mL mo v).set 22 (.int (iI x)) = mL mo (up v 22 x) := by simp [mL, up]
theorem mL_23 (mo : Nat) (v : Int → Int) (x : Int) : (mL mo v).set 23 (.int (iI x)) = mL mo (up v 23 x) := by simp [mL, up]
theorem mL_27 (mo : Nat) (v : Int → Int) (x : Int) : (mL mo v).set 27 (.int (iI x)) = mL mo (up v 27 x) := by simp [mL, up]
theorem mL_28 (mo : Nat) (v : Int → Int) (x : Int) : (mL mo v).set 28 (.int (iI x)) = mL mo (up v 28 x) := by simp [mL, up]
theorem mL_29 (mo : Nat) (v : Int → Int) (x : Int) : (mL mo v).set 29 (.int (iI x)) = mL mo (up v 29 x) := by simp [mL, up]
theorem mL_31 (mo : Nat) (v : Int → Int) (x : Int) : (mL mo v).set 31 (.int (iI x)) = mL mo (up v 31 x) := by simp [mL, up]
theorem iI_shrv {g n : Int} (hg : 0 ≤ g ∧ g < 2147483648) (hn : 0 ≤ n ∧ n < 31) : iI g >>> (iI n &&& 31) = iI (g / 2 ^ n.toNat) := by
  have h : ∀ k : Nat, k < 31 → ((iI (k : Int) &&& 31).toBitVec.smod 32).toNat = k := by decide +kernel
  have h2 := h n.toNat (by omega)
  rw [show ((n.toNat : Nat) : Int) = n by omega] at h2
  exact iI_shr n.toNat h2 hg.1 hg.2
theorem iI_and1 {a : Int} (h : 0 ≤ a) : iI a &&& iI 1 = iI (a % 2) := by
  rw [iI_and h (by decide)]
  congr 1
  rw [show (1 : Int).toNat = 1 from rfl, Nat.and_one_is_mod]
  omega
theorem pow_r {g : Int} (n : Nat) (h : 0 ≤ g ∧ g < 2147483648) : 0 ≤ g / 2 ^ n ∧ g / 2 ^ n < 2147483648 := by
  have h1 : (0 : Int) < 2 ^ n := Int.pow_pos (by decide)
  have h2 := Int.ediv_nonneg h.1 (Int.le_of_lt h1)
  have h3 := Int.ediv_le_self (2 ^ n) h.1
  omega
/-- how many cells of rows from the open one on want a colour -/
def takeR (σ : Int → Int) (b : Bool) (co r : Int) : Int := cnt (fun c => decide (cellS σ c r = -1) && decide (desS σ (if b then turnS σ c else c) r = co)) 0 (σ 0)
def takeS (σ : Int → Int) (b : Bool) (co rows : Int) : Int := sm (takeR σ b co) (σ 4) (σ 4 + rows)
def enoS (σ : Int → Int) (b : Bool) (rows : Int) : Bool := al (fun co => decide (takeS σ b co rows ≤ σ (6 + co))) 0 7
theorem takeR_r {σ : Int → Int} (h : WF σ) (b : Bool) (co r : Int) : 0 ≤ takeR σ b co r ∧ takeR σ b co r ≤ 40 := by
  have h1 := cnt_r (fun c => decide (cellS σ c r = -1) && decide (desS σ (if b then turnS σ c else c) r = co)) (lo := 0) (hi := σ 0) (by have := h.1.1; omega)
  have h2 := h.1.1
  unfold takeR
  omega
theorem takeS_r {σ : Int → Int} (h : WF σ) (b : Bool) (co rows : Int) (h0 : 0 ≤ rows ∧ rows ≤ 60) : 0 ≤ takeS σ b co rows ∧ takeS σ b co rows ≤ 2400 := by
  have h2 := sm_r (f := takeR σ b co) (lo := σ 4) (hi := σ 4 + rows) (M := 40) (by decide) (fun i _ _ => takeR_r h b co i) (by omega)
  unfold takeS
  omega
def whyS (σ : Int → Int) (n sd x y bu : Int) : Int := if liesS σ n x y = false then 5 else if meetS σ n sd x y bu = true then 6 else 0
def dnS (σ : Int → Int) (r : Int) : Int := if r = -1 then 0 else σ 4 - r
def misQ (σ : Int → Int) (wh : Int) : Int := if wh = 0 then misFrom σ 0 else if wh = 1 then misSeen σ else if wh = 2 then cnt (fun z => decide (0 < misRow σ z)) 0 (σ 4) else if wh = 3 then lowS σ true else dnS σ (lowS σ (decide (wh = 3 ∨ wh = 5)))
def cntQ (σ : Int → Int) (un wh : Int) : Int := if wh = 0 then σ 0 else if wh = 1 then σ 1 else if wh = 2 then σ 4 else if wh = 3 then opnS σ else if wh = 4 then σ 5 else if wh = 5 then σ 2 else if wh = 6 then σ 3 else if wh = 7 then sm (fun z => cp σ z 0) 0 (σ 5) else un
theorem lowS_r {σ : Int → Int} (h : WF0 σ) (b : Bool) : -1 ≤ lowS σ b ∧ lowS σ b < 30 := by
  unfold WF0 at h
  unfold lowS
  split
  · have := fi_spec (lowP σ b) (lo := 0) (hi := σ 4) (by omega)
    omega
  · omega
def thatQ (σ : Int → Int) (k : Int) (f : Int → Int) : Int := cnt (fun z => legS σ k && decide (f z = tdS σ k z)) 0 (cp σ k 0)
def capQ (σ : Int → Int) (k wh : Int) : Int := if wh = 5 then max 0 (min 5 (σ 4 - cp σ k 3)) else if wh = 6 then cnt (fun z => legS σ k && decide (rdS σ k z false = tdS σ k z)) 0 (cp σ k 0) else if wh = 7 then cnt (fun z => legS σ k && decide (rdS σ k z true = tdS σ k z)) 0 (cp σ k 0) else if wh = 8 then cnt (fun z => legS σ k && decide (ltrS (picS σ k z true) = tdS σ k z)) 0 (cp σ k 0) else if wh = 9 then sm (fun z => cnt (fun y => misS σ (capCol σ k (cp σ k 2 + z)) (cp σ k 3 + y)) 0 5) 0 (4 * cp σ k 0 - 1) else cp σ k wh
