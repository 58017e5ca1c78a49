/-- n signs f lie at the head of cp bytes f0, C9 at most -/
def sbP (cp : Nat) (f0 : Int → Int) (n : Int) (f : Int → Int) (C9 : Nat) : Prop :=
  (0 ≤ n ∧ n ≤ (cp : Int) ∧ cp ≤ C9) ∧ (∀ j, 0 ≤ j → j < (cp : Int) → 0 ≤ f0 j ∧ f0 j < 128) ∧ ∀ j, 0 ≤ j → j < n → f0 j = f j
theorem sbP.ap {cp cp9 C9 : Nat} {f0 f9 f g : Int → Int} {n m : Int} (h : sbP cp f0 n f C9) (hm : 0 ≤ m) (h0 : n + m ≤ (cp9 : Int) ∧ cp9 ≤ C9) (h1 : ∀ j, 0 ≤ j → j < n → f9 j = f0 j) (h2 : ∀ j, 0 ≤ j → j < m → f9 (n + j) = g j) (h3 : ∀ j, 0 ≤ j → j < (cp9 : Int) → 0 ≤ f9 j ∧ f9 j < 128) : sbP cp9 f9 (n + m) (apS f n g) C9 := by
  refine ⟨⟨by have := h.1; omega, h0.1, h0.2⟩, h3, fun j j0 j1 => ?_⟩
  unfold apS
  by_cases hj : j < n
  · rw [if_pos hj, h1 j j0 hj, h.2.2 j j0 hj]
  · rw [if_neg hj, ← h2 (j - n) (by omega) (by omega)]
    congr 1
    omega
theorem sbP.rd {cp C9 : Nat} {f0 f : Int → Int} {n : Int} (h : sbP cp f0 n f C9) {j : Int} (h0 : 0 ≤ j) (h1 : j < n) : 0 ≤ f j ∧ f j < 128 := by
  rw [← h.2.2 j h0 h1]
  exact h.2.1 j h0 (by have := h.1; omega)
theorem sbP.z {cp C9 : Nat} {f : Int → Int} (h : cp ≤ C9) : sbP cp (fun _ => 0) 0 f C9 := ⟨⟨by omega, by omega, h⟩, fun _ _ _ => ⟨Int.le_refl 0, (by decide : (0 : Int) < 128)⟩, fun j h0 h1 => by omega⟩
theorem sbP.cg {cp C9 : Nat} {f0 f g : Int → Int} {n : Int} (h : sbP cp f0 n f C9) (e : ∀ j, 0 ≤ j → j < n → f j = g j) : sbP cp f0 n g C9 := ⟨h.1, h.2.1, fun j h0 h1 => (h.2.2 j h0 h1).trans (e j h0 h1)⟩
theorem str.W {X : Cx} {w : Wo} {q b n : Nat} {h z : Int32} {f : Int → Int} (h1 : w q = some (.inr (11, [.ref b, .int (iI 0), .int h, .int z]))) (h2 : w b = some (aY X n f)) : str X w q n f := Or.inl ⟨b, h, z, h1, h2⟩
theorem frq {w w1 : Wo} {a q : Nat} {e1 : va_E} (h : frs w1 q) (g : ∀ (p : Nat) (e : va_E), w p = some e → p ≠ a → w1 p = some e) (ho : w1 a = some e1) : frs w q := fun p e h9 =>
  if hp : p = a then (by rw [hp]; exact h _ _ ho) else h p e (g p e h9 hp)
theorem nkn.dn {w w1 : Wo} {a : Nat} (h : nkn w1 a) (g : ext w w1) : nkn w a := fun q e k => h q e (g q e k)
theorem frs.nk {w : Wo} {a : Nat} (h : frs w a) : nkn w a := fun q e k => Nat.ne_of_lt (h q e k)
theorem nkq {w w1 : Wo} {a q : Nat} {e1 : va_E} (h : nkn w1 q) (g : ∀ (p : Nat) (e : va_E), w p = some e → p ≠ a → w1 p = some e) (ho : w1 a = some e1) : nkn w q := fun p e h9 =>
  if hp : p = a then (by rw [hp]; exact h _ _ ho) else h p e (g p e h9 hp)
theorem nkn.un {w : Wo} {a : Nat} (h : nkn w a) : ¬ w a ≠ none := fun z => by
  cases h2 : w a with
  | none => exact z h2
  | some e => exact h a e h2 rfl
theorem frs.un {w : Wo} {a : Nat} (h : frs w a) : ¬ w a ≠ none := h.nk.un
theorem wr_sub2 {w : Wo} {K0 K1 : Nat → Prop} (h : ∀ q, K0 q → K1 q) : ext (wr w K1) (wr w K0) := fun q e h9 => wr_some.mpr ⟨fun z => (wr_some.mp h9).1 (h q z), (wr_some.mp h9).2⟩
theorem kn_of {w w1 : Wo} {a : Nat} {e1 : va_E} (g : ∀ (p : Nat) (e : va_E), w p = some e → p ≠ a → w1 p = some e) (ho : w1 a = some e1) : ∀ q, w q ≠ none → w1 q ≠ none := fun q hq => by
  by_cases hqa : q = a
  · rw [hqa, ho]; simp
  · cases h2 : w q with
    | none => exact absurd h2 hq
    | some e => rw [g q e h2 hqa]; simp
