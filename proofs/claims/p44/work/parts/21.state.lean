/-! ===== THE STATE: what is read off s (the reference's row of 1317 places) ===== -/
def cellS (σ : Int → Int) (c r : Int) : Int := σ (117 + 40 * r + c)
def cp (σ : Int → Int) (k j : Int) : Int := σ (13 + 13 * k + j)
def turnS (σ : Int → Int) (c : Int) : Int := σ 0 - 1 - c
def hasBitS (g d o : Int) : Bool := decide (g / 2 ^ (14 - 3 * d - o).toNat % 2 = 1)
def inkS (σ : Int → Int) (k ov u : Int) : Bool := if ov % 4 = 3 then false else hasBitS (gl (cp σ k (5 + ov / 4))) (4 - u) (ov % 4)
def ovS (σ : Int → Int) (c k : Int) : Int := (if cp σ k 1 = 0 then c else turnS σ c) - cp σ k 2
def hitS (σ : Int → Int) (c r k : Int) : Bool := decide (0 ≤ ovS σ c k ∧ ovS σ c k ≤ 4 * cp σ k 0 - 2) && decide (0 ≤ r - cp σ k 3 ∧ r - cp σ k 3 ≤ 4) && inkS σ k (ovS σ c k) (r - cp σ k 3)
def desS (σ : Int → Int) (c r : Int) : Int := if fi (hitS σ c r) 0 (σ 5) < σ 5 then cp σ (fi (hitS σ c r) 0 (σ 5)) 4 else 0
def misS (σ : Int → Int) (c r : Int) : Bool := decide (r < σ 4) && decide (cellS σ c r ≠ desS σ c r)
def misRow (σ : Int → Int) (r : Int) : Int := cnt (fun c => misS σ c r) 0 (σ 0)
def seenS (σ : Int → Int) (r : Int) : Bool := decide (r < σ 3) || decide (σ 2 ≤ σ 4 - 1 - r)
def misFrom (σ : Int → Int) (lo : Int) : Int := sm (misRow σ) lo (σ 4)
def misSeen (σ : Int → Int) : Int := sm (fun r => if seenS σ r then misRow σ r else 0) 0 (σ 4)
def lowP (σ : Int → Int) (seen : Bool) (r : Int) : Bool := (!seen || seenS σ r) && decide (0 < misRow σ r)
def lowS (σ : Int → Int) (seen : Bool) : Int := if fi (lowP σ seen) 0 (σ 4) < σ 4 then fi (lowP σ seen) 0 (σ 4) else -1
/-- bits, the first one highest -/
def bsN (f : Int → Bool) : Nat → Int | 0 => 0 | n + 1 => 2 * bsN f n + bz (f n)
def bs (f : Int → Bool) (n : Int) : Int := bsN f n.toNat
theorem bs_0 (f : Int → Bool) : bs f 0 = 0 := rfl
theorem bs_s (f : Int → Bool) {i : Int} (h : 0 ≤ i) : bs f (i + 1) = 2 * bs f i + bz (f i) := by
  unfold bs
  rw [show (i + 1).toNat = i.toNat + 1 by omega]
  show 2 * bsN f i.toNat + bz (f (i.toNat : Int)) = _
  rw [show (i.toNat : Int) = i by omega]
theorem bsN_r (f : Int → Bool) : ∀ n : Nat, 0 ≤ bsN f n ∧ bsN f n < 2 ^ n
  | 0 => by simp [bsN]
  | n + 1 => by
    have h1 := bsN_r f n
    have h2 := bz_r (f n)
    have e : bsN f (n + 1) = 2 * bsN f n + bz (f n) := rfl
    have e2 : (2 : Int) ^ (n + 1) = 2 * 2 ^ n := by rw [Int.pow_succ]; omega
    omega
theorem bsN_c {f g : Int → Bool} : ∀ n : Nat, (∀ i : Int, 0 ≤ i → i < n → f i = g i) → bsN f n = bsN g n
  | 0, _ => rfl
  | n + 1, h => by
    show 2 * bsN f n + bz (f n) = 2 * bsN g n + bz (g n)
    rw [bsN_c n (fun i h1 h2 => h i h1 (by omega)), h n (by omega) (by omega)]
def capCol (σ : Int → Int) (k pl : Int) : Int := if cp σ k 1 = 0 then pl else turnS σ pl
/-- the bit t (0 to 14) of the picture of the letter j of the caption k -/
def picB (σ : Int → Int) (k j : Int) (gh : Bool) (t : Int) : Bool := decide (cellS σ (if gh then turnS σ (capCol σ k (cp σ k 2 + 4 * j + t % 3)) else capCol σ k (cp σ k 2 + 4 * j + t % 3)) (cp σ k 3 + (4 - t / 3)) = cp σ k 4)
def picS (σ : Int → Int) (k j : Int) (gh : Bool) : Int := bs (picB σ k j gh) 15
theorem picS_r (σ : Int → Int) (k j : Int) (gh : Bool) : 0 ≤ picS σ k j gh ∧ picS σ k j gh < 32768 := bsN_r _ 15
def ltrS (p : Int) : Int := if fi (fun i => decide (gl i = p)) 0 26 < 26 then fi (fun i => decide (gl i = p)) 0 26 + 1 else 0
/-- a glyph's rows reversed -/
def revB (p t : Int) : Bool := hasBitS p (t / 3) (2 - t % 3)
def revS (p : Int) : Int := bs (revB p) 15
def legS (σ : Int → Int) (k : Int) : Bool := decide (cp σ k 3 + 4 < σ 4)
def rdS (σ : Int → Int) (k j : Int) (turned : Bool) : Int := ltrS (if turned then revS (picS σ k j false) else picS σ k j false)
def tdS (σ : Int → Int) (k j : Int) : Int := cp σ k (5 + j) + 1
/-- letters of a caption that are read as told -/
def thatS (σ : Int → Int) (k : Int) (f : Int → Int) : Int := if legS σ k then cnt (fun j => decide (f j = tdS σ k j)) 0 (cp σ k 0) else 0
/-- two boxes that lie on the loom: have they a cell in common; by columns -/
def lowC (σ : Int → Int) (n sd x : Int) : Int := if sd = 0 then x else σ 0 + 1 - x - 4 * n
def mtS (σ : Int → Int) (n sd x y k : Int) : Bool := decide (lowC σ n sd x ≤ lowC σ (cp σ k 0) (cp σ k 1) (cp σ k 2) + 4 * cp σ k 0 - 2) && decide (lowC σ (cp σ k 0) (cp σ k 1) (cp σ k 2) ≤ lowC σ n sd x + 4 * n - 2) && (decide (y ≤ cp σ k 3 + 4) && decide (cp σ k 3 ≤ y + 4))
def meetS (σ : Int → Int) (n sd x y but : Int) : Bool := ex (fun k => decide (k ≠ but) && mtS σ n sd x y k) 0 (σ 5)
def liesS (σ : Int → Int) (n x y : Int) : Bool := decide (0 ≤ x ∧ 0 ≤ y ∧ x + 4 * n - 2 < σ 0 ∧ y + 4 < σ 1)
def capOK (σ : Int → Int) (k : Int) : Prop := (1 ≤ cp σ k 0 ∧ cp σ k 0 ≤ 8) ∧ (cp σ k 1 = 0 ∨ cp σ k 1 = 1) ∧ (0 ≤ cp σ k 2 ∧ cp σ k 2 + 4 * cp σ k 0 - 1 ≤ σ 0) ∧ (0 ≤ cp σ k 3 ∧ cp σ k 3 + 5 ≤ σ 1) ∧ (1 ≤ cp σ k 4 ∧ cp σ k 4 ≤ 6) ∧ ∀ j, 0 ≤ j → j < cp σ k 0 → 0 ≤ cp σ k (5 + j) ∧ cp σ k (5 + j) ≤ 25
/-- the numbers of the state are in their ranges -/
def WF0 (σ : Int → Int) : Prop := (8 ≤ σ 0 ∧ σ 0 ≤ 40) ∧ (6 ≤ σ 1 ∧ σ 1 ≤ 30) ∧ (0 ≤ σ 2 ∧ σ 2 ≤ 30) ∧ (0 ≤ σ 3 ∧ σ 3 ≤ 30) ∧ (0 ≤ σ 4 ∧ σ 4 ≤ σ 1) ∧ (0 ≤ σ 5 ∧ σ 5 ≤ 8)
def WF (σ : Int → Int) : Prop := WF0 σ ∧ (∀ c, 0 ≤ c → c < 7 → 0 ≤ σ (6 + c) ∧ σ (6 + c) ≤ 9999) ∧ (∀ k, 0 ≤ k → k < σ 5 → capOK σ k) ∧ (∀ c r, 0 ≤ c → c < σ 0 → 0 ≤ r → r < σ 1 → -1 ≤ cellS σ c r ∧ cellS σ c r ≤ 6) ∧ (∀ c r, 0 ≤ c → c < σ 0 → 0 ≤ r → r < σ 4 → 0 ≤ cellS σ c r) ∧ (∀ i k, 0 ≤ i → i < σ 5 → 0 ≤ k → k < σ 5 → i ≠ k → mtS σ (cp σ i 0) (cp σ i 1) (cp σ i 2) (cp σ i 3) k = false)
theorem desS_r {σ : Int → Int} (h : WF σ) (c r : Int) : 0 ≤ desS σ c r ∧ desS σ c r ≤ 6 := by
  unfold desS
  split
  · rename_i g
    have h2 := fi_spec (hitS σ c r) (lo := 0) (hi := σ 5) h.1.2.2.2.2.2.1
    have h3 := (h.2.2.1 _ h2.1 g).2.2.2.2.1
    omega
  · omega
theorem misRow_r {σ : Int → Int} (h : WF σ) (r : Int) : 0 ≤ misRow σ r ∧ misRow σ r ≤ 40 := by
  have h1 := cnt_r (fun c => misS σ c r) (lo := 0) (hi := σ 0) (by have := h.1.1; omega)
  have h2 := h.1.1
  unfold misRow
  omega
theorem misFrom_r {σ : Int → Int} (h : WF σ) {lo : Int} (h0 : 0 ≤ lo) (h1 : lo ≤ σ 4) : 0 ≤ misFrom σ lo ∧ misFrom σ lo ≤ 1200 := by
  have h2 := sm_r (f := misRow σ) (lo := lo) (hi := σ 4) (M := 40) (by decide) (fun i _ _ => misRow_r h i) h1
  have h3 := h.1
  unfold WF0 at h3
  unfold misFrom
  omega
/-! the class's cells -/
def gcode (v : Int) : Int := if v = -1 then 7 else v
def gOK (g : Nat → Int64) (gr : Int → Int → Int) : Prop := ∀ c r, 0 ≤ c → c < 40 → 0 ≤ r → r < 30 → dig (g (2 * r + c / 20).toNat) (c % 20).toNat = gcode (gr c r) ∧ -1 ≤ gr c r ∧ gr c r ≤ 6
def gridAt (X : Cx) (w : Wo) (a : Nat) (gr : Int → Int → Int) : Prop := w a = some (.inr (3, [.ref (a + 1)])) ∧ ∃ g, w (a + 1) = some (aJ X 60 g) ∧ gOK g gr
/-- a Caption at q (its word behind it) that is the caption k of σ -/
def capV (X : Cx) (w : Wo) (q : Nat) (n sd x y co : Int) (f : Int → Int) : Prop := w q = some (.inr (1, [.ref (q + 1), .int (iI n), .int (iI sd), .int (iI x), .int (iI y), .int (iI co)])) ∧ w (q + 1) = some (aZ X 8 f)
def capAt (X : Cx) (w : Wo) (q : Nat) (σ : Int → Int) (k : Int) : Prop := ∃ f, capV X w q (cp σ k 0) (cp σ k 1) (cp σ k 2) (cp σ k 3) (cp σ k 4) f ∧ ∀ j, 0 ≤ j → j < cp σ k 0 → f j = cp σ k (5 + j) + 1
def lmF (σ : Int → Int) (a : Nat) : List Value := [.ref (a + 1), .ref (a + 3), .ref (a + 5), .ref (a + 6), .ref (a + 7), .int (iI (σ 5)), .int (iI (σ 0)), .int (iI (σ 1)), .int (iI (σ 4)), .int (iI (σ 3)), .int (iI (σ 2))]
/-- a Loom at a (25 cells) that holds σ, but for its plan -/
def lmA (X : Cx) (w : Wo) (a : Nat) (σ : Int → Int) : Prop :=
  w a = some (.inr (5, [.ref (a + 1), .ref (a + 3), .ref (a + 5), .ref (a + 6), .ref (a + 7), .int (iI (σ 5)), .int (iI (σ 0)), .int (iI (σ 1)), .int (iI (σ 4)), .int (iI (σ 3)), .int (iI (σ 2))])) ∧
  (∃ gr, gridAt X w (a + 1) gr ∧ ∀ c r, 0 ≤ c → c < σ 0 → 0 ≤ r → r < σ 1 → gr c r = cellS σ c r) ∧ (∃ gr, gridAt X w (a + 3) gr) ∧
  (∃ t, w (a + 5) = some (aZ X 7 t) ∧ ∀ c, 0 ≤ c → c < 7 → t c = σ (6 + c)) ∧
  w (a + 6) = some (aR X 3 8 (fun i => if i < 8 then some (a + 9 + 2 * i) else none)) ∧
  (∀ i : Nat, i < 9 → ∃ n sd x y co f, capV X w (a + 7 + 2 * i) n sd x y co f) ∧
  (∀ k : Int, 0 ≤ k → k < σ 5 → capAt X w (a + 9 + 2 * k.toNat) σ k)
/-- its plan is the design -/
def lmP (X : Cx) (w : Wo) (a : Nat) (σ : Int → Int) : Prop := ∃ gr, gridAt X w (a + 3) gr ∧ ∀ c r, 0 ≤ c → c < σ 0 → 0 ≤ r → r < σ 1 → gr c r = desS σ c r
def loomAt (X : Cx) (w : Wo) (a : Nat) (σ : Int → Int) : Prop := lmA X w a σ ∧ lmP X w a σ ∧ WF σ
theorem lmA.o {X : Cx} {w : Wo} {a : Nat} {σ : Int → Int} (h : lmA X w a σ) : w a = some (.inr (5, [.ref (a + 1), .ref (a + 3), .ref (a + 5), .ref (a + 6), .ref (a + 7), .int (iI (σ 5)), .int (iI (σ 0)), .int (iI (σ 1)), .int (iI (σ 4)), .int (iI (σ 3)), .int (iI (σ 2))])) := h.1
theorem lmA.g1 {X : Cx} {w : Wo} {a : Nat} {σ : Int → Int} (h : lmA X w a σ) : w (a + 1) = some (.inr (3, [.ref (a + 1 + 1)])) := by
  obtain ⟨gr, hg, -⟩ := h.2.1
  exact hg.1
theorem lmA.g3 {X : Cx} {w : Wo} {a : Nat} {σ : Int → Int} (h : lmA X w a σ) : w (a + 3) = some (.inr (3, [.ref (a + 3 + 1)])) := by
  obtain ⟨gr, hg⟩ := h.2.2.1
  exact hg.1
theorem capAt.o {X : Cx} {w : Wo} {q : Nat} {σ : Int → Int} {k : Int} (h : capAt X w q σ k) : w q = some (.inr (1, [.ref (q + 1), .int (iI (cp σ k 0)), .int (iI (cp σ k 1)), .int (iI (cp σ k 2)), .int (iI (cp σ k 3)), .int (iI (cp σ k 4))])) := by
  obtain ⟨f, hf, -⟩ := h
  exact hf.1
theorem lmA.cap {X : Cx} {w : Wo} {a : Nat} {σ : Int → Int} (h : lmA X w a σ) (k : Int) (h0 : 0 ≤ k) (h1 : k < σ 5) : capAt X w (a + 9 + 2 * k.toNat) σ k := h.2.2.2.2.2.2 k h0 h1
def rdN (σ : Int → Int) (k j : Int) (t : Bool) : Int := if legS σ k then rdS σ k j t else -1
def thatG (σ : Int → Int) (k : Int) : Int := cnt (fun j => legS σ k && decide (picS σ k j true = gl (cp σ k (5 + j)))) 0 (cp σ k 0)
def opnB (σ : Int → Int) (c : Int) : Bool := decide (σ 4 < σ 1) && decide (cellS σ c (σ 4) ≠ -1)
def opnS (σ : Int → Int) : Int := cnt (opnB σ) 0 (σ 0)
def wovR (σ : Int → Int) (co r : Int) : Int := cnt (fun c => decide (cellS σ c r = co)) 0 (σ 0)
def plnR (σ : Int → Int) (co r : Int) : Int := cnt (fun c => decide (desS σ c r = co)) 0 (σ 0)
def towR (σ : Int → Int) (co r : Int) : Int := cnt (fun c => decide (cellS σ c r = -1) && decide (desS σ c r = co)) 0 (σ 0)
def wvS (σ : Int → Int) (c r : Int) : Int := if cellS σ c r = -1 then desS σ c r else cellS σ c r
theorem wvS_r {σ : Int → Int} (h : WF σ) (c r : Int) (h1 : 0 ≤ c ∧ c < σ 0) (h2 : 0 ≤ r ∧ r < σ 1) : 0 ≤ wvS σ c r ∧ wvS σ c r ≤ 6 := by
  have a := desS_r h c r
  have b := h.2.2.2.1 c r h1.1 h1.2 h2.1 h2.2
  unfold wvS
  split <;> omega
theorem ltrS_r (p : Int) : 0 ≤ ltrS p ∧ ltrS p ≤ 26 := by
  unfold ltrS
  split
  · have := fi_spec (fun i => decide (gl i = p)) (lo := 0) (hi := 26) (by decide)
    omega
  · omega
theorem rdN_r (σ : Int → Int) (k j : Int) (t : Bool) : -1 ≤ rdN σ k j t ∧ rdN σ k j t ≤ 26 := by
  unfold rdN rdS
  split
  · have := ltrS_r (if t then revS (picS σ k j false) else picS σ k j false)
    omega
  · omega
theorem revS_r (p : Int) : 0 ≤ revS p ∧ revS p < 32768 := bsN_r _ 15
theorem ex_t {p : Int → Bool} {lo hi i : Int} (h1 : lo ≤ i) (h2 : i < hi) (h : p i = true) : ex p lo hi = true := by
  rcases hb : ex p lo hi with _ | _
  · have := ex_f.mp hb i h1 h2
    rw [h] at this; cases this
  · rfl
theorem capCol_r {σ : Int → Int} {k j o : Int} (h : WF σ) (hk : capOK σ k) (hj : 0 ≤ j ∧ j < cp σ k 0) (ho : 0 ≤ o ∧ o ≤ 2) : 0 ≤ capCol σ k (cp σ k 2 + 4 * j + o) ∧ capCol σ k (cp σ k 2 + 4 * j + o) < σ 0 := by
  obtain ⟨h1, h2, h3, h4, h5, h6⟩ := hk
  unfold capCol turnS
  split <;> omega
theorem cnt_n (lo hi : Int) : cnt (fun _ => false) lo hi = 0 := by
  show sm (fun _ => bz false) lo hi = 0
  by_cases h : lo ≤ hi
  · have := sm_r (f := fun _ => bz false) (lo := lo) (hi := hi) (M := 0) (by decide) (fun i _ _ => by decide) h
    omega
  · exact sm_e _ (by omega)
theorem mt_eq {σ : Int → Int} {n sd x y k : Int} (hn : 1 ≤ n ∧ n ≤ 8) (hs : sd = 0 ∨ sd = 1) (hk : cp σ k 1 = 0 ∨ cp σ k 1 = 1) : decide (x < (if sd = cp σ k 1 then cp σ k 2 else σ 0 - cp σ k 2 - (4 * cp σ k 0 - 1)) + (4 * cp σ k 0 - 1) ∧ (if sd = cp σ k 1 then cp σ k 2 else σ 0 - cp σ k 2 - (4 * cp σ k 0 - 1)) < x + (4 * n - 1) ∧ y < cp σ k 3 + 5 ∧ cp σ k 3 < y + 5) = mtS σ n sd x y k := by
  unfold mtS lowC
  rw [← Bool.decide_and, ← Bool.decide_and, ← Bool.decide_and]
  apply decide_eq_decide.mpr
  rcases hs with h | h <;> rcases hk with g | g <;> rw [h, g] <;> simp <;> omega
theorem iI_and {a b : Int} (ha : 0 ≤ a) (hb : 0 ≤ b) : iI a &&& iI b = iI ((a.toNat &&& b.toNat : Nat) : Int) := by
  have h : ∀ x y : Nat, nI x &&& nI y = nI (x &&& y) := by
    intro x y
    apply Int32.toBitVec_inj.1
    show BitVec.ofNat 32 x &&& BitVec.ofNat 32 y = BitVec.ofNat 32 (x &&& y)
    apply BitVec.eq_of_getLsbD_eq
    intro i hi
    simp [hi]
  rw [← iI_nI, ← h, iI_nI, iI_nI, show (a.toNat : Int) = a by omega, show (b.toNat : Int) = b by omega]
theorem iI_or {a b : Int} (ha : 0 ≤ a) (hb : 0 ≤ b) : iI a ||| iI b = iI ((a.toNat ||| b.toNat : Nat) : Int) := by
  have h : ∀ x y : Nat, nI x ||| nI y = nI (x ||| y) := by
    intro x y
    apply Int32.toBitVec_inj.1
    show BitVec.ofNat 32 x ||| BitVec.ofNat 32 y = BitVec.ofNat 32 (x ||| y)
    apply BitVec.eq_of_getLsbD_eq
    intro i hi
    simp [hi]
  rw [← iI_nI, ← h, iI_nI, iI_nI, show (a.toNat : Int) = a by omega, show (b.toNat : Int) = b by omega]
theorem iI_shl {a : Int} (k : Nat) {s : Int32} (hs : (s.toBitVec.smod 32).toNat = k) (ha : 0 ≤ a) (h : a * 2 ^ k < 2147483648) : iI a <<< s = iI (a * 2 ^ k) := by
  have e := pk_shlN (n := a.toNat) s k hs (by
    have : ((a.toNat * 2 ^ k : Nat) : Int) = a * 2 ^ k := by rw [Int.natCast_mul, show (a.toNat : Int) = a by omega]; simp
    omega)
  rw [iI_nI, iI_nI, Int.natCast_mul, show (a.toNat : Int) = a by omega] at e
  rw [e]
  simp
theorem iI_shr {a : Int} (k : Nat) {s : Int32} (hs : (s.toBitVec.smod 32).toNat = k) (ha : 0 ≤ a) (h : a < 2147483648) : iI a >>> s = iI (a / 2 ^ k) := by
  have e := pk_shrN (n := a.toNat) (by omega) s k hs
  rw [iI_nI, iI_nI, Int.natCast_ediv, show (a.toNat : Int) = a by omega] at e
  rw [e]
  simp
theorem bsN_bit (f : Int → Bool) : ∀ n i : Nat, i < n → (bsN f n).toNat.testBit i = f ((n - 1 - i : Nat) : Int)
  | 0, i, h => absurd h (Nat.not_lt_zero i)
  | n + 1, i, h => by
    have h1 := (bsN_r f n).1
    have e : (bsN f (n + 1)).toNat = 2 * (bsN f n).toNat + (f n).toNat := by
      have e1 : bsN f (n + 1) = 2 * bsN f n + bz (f n) := rfl
      rw [e1]
      cases f n <;> simp [bz] <;> omega
    rw [e]
    cases i with
    | zero =>
      rw [Nat.testBit_zero]
      cases hf : f n <;> simp [hf]
    | succ i =>
      rw [Nat.testBit_succ, show (2 * (bsN f n).toNat + (f n).toNat) / 2 = (bsN f n).toNat by cases f n <;> simp <;> omega, bsN_bit f n i (by omega)]
      congr 2
      omega
theorem hb_bit {P : Nat} {d o : Int} (h : 0 ≤ 14 - 3 * d - o) : hasBitS (P : Int) d o = P.testBit (14 - 3 * d - o).toNat := by
  unfold hasBitS
  rw [Nat.testBit_eq_decide_div_mod_eq]
  apply decide_eq_decide.mpr
  have e : (P : Int) / 2 ^ (14 - 3 * d - o).toNat % 2 = ((P / 2 ^ (14 - 3 * d - o).toNat % 2 : Nat) : Int) := by simp
  rw [e]
  omega
theorem mir_eq {P : Nat} (h : P < 32768) : ((((P &&& 4681) * 4 ||| (P &&& 9362)) ||| ((P / 4) &&& 4681) : Nat) : Int) = revS (P : Int) := by
  have hr := revS_r (P : Int)
  have key : (((P &&& 4681) * 4 ||| (P &&& 9362)) ||| ((P / 4) &&& 4681) : Nat) = (revS (P : Int)).toNat := by
    apply Nat.eq_of_testBit_eq
    intro i
    have hl : (((P &&& 4681) * 4 ||| (P &&& 9362)) ||| ((P / 4) &&& 4681) : Nat) < 2 ^ 15 := by
      have a1 : (P &&& 4681) * 4 < 2 ^ 15 := by have : P &&& 4681 ≤ 4681 := Nat.and_le_right; omega
      have a2 : (P &&& 9362) < 2 ^ 15 := by have : P &&& 9362 ≤ 9362 := Nat.and_le_right; omega
      have a3 : ((P / 4) &&& 4681) < 2 ^ 15 := by have : (P / 4) &&& 4681 ≤ 4681 := Nat.and_le_right; omega
      exact Nat.or_lt_two_pow (Nat.or_lt_two_pow a1 a2) a3
    by_cases hi : i < 15
    · unfold revS
      show _ = (bsN (revB (P : Int)) 15).toNat.testBit i
      rw [bsN_bit _ 15 i hi]
      unfold revB
      rw [hb_bit (by omega)]
      rw [show (P &&& 4681) * 4 = (P &&& 4681) <<< 2 by rw [Nat.shiftLeft_eq], show P / 4 = P >>> 2 by rw [Nat.shiftRight_eq_div_pow]]
      simp only [Nat.testBit_or, Nat.testBit_and, Nat.testBit_shiftLeft, Nat.testBit_shiftRight]
      rcases (show i = 0 ∨ i = 1 ∨ i = 2 ∨ i = 3 ∨ i = 4 ∨ i = 5 ∨ i = 6 ∨ i = 7 ∨ i = 8 ∨ i = 9 ∨ i = 10 ∨ i = 11 ∨ i = 12 ∨ i = 13 ∨ i = 14 by omega) with g | g | g | g | g | g | g | g | g | g | g | g | g | g | g <;> subst g <;> simp [Nat.testBit]
    · rw [Nat.testBit_lt_two_pow (Nat.lt_of_lt_of_le hl (Nat.pow_le_pow_right (by decide) (by omega))), Nat.testBit_lt_two_pow (Nat.lt_of_lt_of_le (show (revS (P : Int)).toNat < 2 ^ 15 by omega) (Nat.pow_le_pow_right (by decide) (by omega)))]
  rw [key]
  omega
