/-! ===== the texts that the law makes of one act; what comes of the act ===== -/
theorem apS_l {f g : Int → Int} {n j : Int} (h : j < n) : apS f n g j = f j := if_pos h
theorem apS_g {f g : Int → Int} {n j : Int} (h : 0 ≤ j) : apS f n g (n + j) = g j := by
  unfold apS
  rw [if_neg (by omega), show n + j - n = j by omega]
theorem apS_e {f g : Int → Int} {n p j : Int} (h : n ≤ p) (e : p - n = j) : apS f n g p = g j := by
  unfold apS
  rw [if_neg (by omega), e]
theorem pas_t {F Z : Int → Int} {c a b : Int} (h : ∀ j, 0 ≤ j → j < 5 + dlN c + 1 + dlN a + 1 + dlN b + 1 → F j = apS (apS (apS (apS (apS (apS (apS Z 0 (lw 9)) 5 (dgC c)) (5 + dlN c) (lw 10)) (5 + dlN c + 1) (dgC a)) (5 + dlN c + 1 + dlN a) (lw 10)) (5 + dlN c + 1 + dlN a + 1) (dgC b)) (5 + dlN c + 1 + dlN a + 1 + dlN b) (lw 11) j) :
    (∀ j, 0 ≤ j → j < 5 → F j = lw 9 j) ∧ (∀ j, 0 ≤ j → j < dlN c → F (5 + j) = dgC c j) ∧ F (5 + dlN c) = 32 ∧ (∀ j, 0 ≤ j → j < dlN a → F (5 + dlN c + 1 + j) = dgC a j) ∧ F (5 + dlN c + 1 + dlN a) = 32 ∧ (∀ j, 0 ≤ j → j < dlN b → F (5 + dlN c + 1 + dlN a + 1 + j) = dgC b j) ∧ F (5 + dlN c + 1 + dlN a + 1 + dlN b) = 59 := by
  have d1 := dlN_p c
  have d2 := dlN_p a
  have d3 := dlN_p b
  refine ⟨fun j j0 j1 => ?_, fun j j0 j1 => ?_, ?_, fun j j0 j1 => ?_, ?_, fun j j0 j1 => ?_, ?_⟩
  · rw [h j j0 (by omega), apS_l (by omega), apS_l (by omega), apS_l (by omega), apS_l (by omega), apS_l (by omega), apS_l (by omega), apS_e (j := j) (by omega) (by omega)]
  · rw [h _ (by omega) (by omega), apS_l (by omega), apS_l (by omega), apS_l (by omega), apS_l (by omega), apS_l (by omega), apS_g j0]
  · rw [h _ (by omega) (by omega), apS_l (by omega), apS_l (by omega), apS_l (by omega), apS_l (by omega), apS_e (j := 0) (by omega) (by omega)]; rfl
  · rw [h _ (by omega) (by omega), apS_l (by omega), apS_l (by omega), apS_l (by omega), apS_g j0]
  · rw [h _ (by omega) (by omega), apS_l (by omega), apS_l (by omega), apS_e (j := 0) (by omega) (by omega)]; rfl
  · rw [h _ (by omega) (by omega), apS_l (by omega), apS_g j0]
  · rw [h _ (by omega) (by omega), apS_e (j := 0) (by omega) (by omega)]; rfl
theorem wea_t {F Z : Int → Int} {m : Int} {k : Nat} (hk : k = 11 ∨ k = 13) (h : ∀ j, 0 ≤ j → j < 6 + dlN m + ((lwN.getD k 0 : Nat) : Int) → F j = apS (apS (apS Z 0 (lw 12)) 6 (dgC m)) (6 + dlN m) (lw k) j) :
    (∀ j, 0 ≤ j → j < 6 → F j = lw 12 j) ∧ (∀ j, 0 ≤ j → j < dlN m → F (6 + j) = dgC m j) ∧ (∀ j, 0 ≤ j → j < ((lwN.getD k 0 : Nat) : Int) → F (6 + dlN m + j) = lw k j) := by
  have d1 := dlN_p m
  have hp : 1 ≤ ((lwN.getD k 0 : Nat) : Int) := by rcases hk with rfl | rfl <;> decide
  refine ⟨fun j j0 j1 => ?_, fun j j0 j1 => ?_, fun j j0 j1 => ?_⟩
  · rw [h j j0 (by omega), apS_l (by omega), apS_l (by omega), apS_e (j := j) (by omega) (by omega)]
  · rw [h _ (by omega) (by omega), apS_l (by omega), apS_g j0]
  · rw [h _ (by omega) (by omega), apS_g j0]
theorem ac_0 {af ac : Int → Int} {i : Int} (h : ∀ k, 0 ≤ k → k < 9 → af k = ac k) (hi : i = 0) : ∀ k, 0 ≤ k → k < 9 → up af i (af i + 1) k = up (up ac 0 (ac 0 + 1)) 8 (ac 8 + 0) k := fun k k0 k1 => by
  rw [hi, Int.add_zero]
  by_cases e8 : k = 8
  · rw [e8, up_n (by decide), up_s]; exact h 8 (by decide) (by decide)
  by_cases e : k = 0
  · rw [e, up_s, up_n (by decide), up_s, h 0 (by decide) (by decide)]
  · rw [up_n e, up_n e8, up_n e]; exact h k k0 k1
theorem pas_cs {σ τ af ac : Int → Int} {dc a b du : Int} (hacc : ∀ k, 0 ≤ k → k < 9 → af k = ac k) (hcs : (σ 4 = σ 1 ∧ du = -1 ∧ τ = σ) ∨ (σ 4 < σ 1 ∧ σ (6 + dc) < b - a + 1 ∧ du = -2 ∧ τ = σ) ∨ (σ 4 < σ 1 ∧ b - a + 1 ≤ σ (6 + dc) ∧ du = σ (6 + dc) - (b - a + 1) ∧ τ = passN σ dc a (b - a + 1).toNat)) :
    atO σ 0 dc a b = du ∧ dS σ 0 dc a b = τ ∧ (∀ k, 0 ≤ k → k < 9 → up af (if du < 0 then -du else 0) (af (if du < 0 then -du else 0) + 1) k = dA ac σ 0 dc a b k) ∧ (if du < 0 then -du else 0) ≠ 8 := by
  rcases hcs with ⟨h1, rfl, h3⟩ | ⟨h1, h2, rfl, h3⟩ | ⟨h1, h2, h3, h4⟩
  · have hr : atR σ 0 dc a b = 1 := by unfold atR; rw [if_pos rfl, if_pos h1]
    refine ⟨?_, ?_, ?_, by decide⟩
    · unfold atO; rw [hr]; rfl
    · unfold dS; rw [hr, h3]; rfl
    · unfold dA; rw [hr]; exact ac_is hacc rfl (by decide)
  · have hr : atR σ 0 dc a b = 2 := by unfold atR; rw [if_pos rfl, if_neg (by omega), if_pos h2]
    refine ⟨?_, ?_, ?_, by decide⟩
    · unfold atO; rw [hr]; rfl
    · unfold dS; rw [hr, h3]; rfl
    · unfold dA; rw [hr]; exact ac_is hacc rfl (by decide)
  · have hr : atR σ 0 dc a b = 0 := by unfold atR; rw [if_pos rfl, if_neg (by omega), if_neg (by omega)]
    refine ⟨?_, ?_, ?_, by rw [if_neg (by omega)]; decide⟩
    · unfold atO; rw [if_pos hr]; unfold atT; rw [if_pos rfl, h3]
    · unfold dS; rw [if_pos hr]; unfold atS; rw [if_pos rfl, h4]
    · unfold dA
      rw [if_pos hr]
      have hm : atM σ 0 dc a = 0 := by unfold atM; rw [if_neg (by decide), if_neg (by decide)]
      rw [hm]
      exact ac_0 hacc (if_neg (by omega))
theorem wea_cs {σ τ af ac : Int → Int} {m du : Int} {b : Bool} (hacc : ∀ k, 0 ≤ k → k < 9 → af k = ac k) (hcs : (σ 1 < σ 4 + m ∧ du = -3 ∧ τ = σ) ∨ (σ 4 + m ≤ σ 1 ∧ enoS σ b m = false ∧ du = -2 ∧ τ = σ)) :
    atO σ 2 m (bz b) 0 = du ∧ dS σ 2 m (bz b) 0 = τ ∧ (∀ k, 0 ≤ k → k < 9 → up af (if du < 0 then -du else 0) (af (if du < 0 then -du else 0) + 1) k = dA ac σ 2 m (bz b) 0 k) := by
  have hb : decide (bz b = 1) = b := by cases b <;> rfl
  rcases hcs with ⟨h1, rfl, h3⟩ | ⟨h1, h2, rfl, h3⟩
  · have hr : atR σ 2 m (bz b) 0 = 3 := by unfold atR; rw [if_neg (by decide), if_neg (by decide), if_pos rfl, if_pos h1]
    refine ⟨?_, ?_, ?_⟩
    · unfold atO; rw [hr]; rfl
    · unfold dS; rw [hr, h3]; rfl
    · unfold dA; rw [hr]; exact ac_is hacc rfl (by decide)
  · have hr : atR σ 2 m (bz b) 0 = 2 := by unfold atR; rw [if_neg (by decide), if_neg (by decide), if_pos rfl, if_neg (by omega), hb, if_pos h2]
    refine ⟨?_, ?_, ?_⟩
    · unfold atO; rw [hr]; rfl
    · unfold dS; rw [hr, h3]; rfl
    · unfold dA; rw [hr]; exact ac_is hacc rfl (by decide)
theorem wea_cd {σ af ac : Int → Int} {m du : Int} {b : Bool} (hacc : ∀ k, 0 ≤ k → k < 9 → af k = ac k) (h1 : σ 4 + m ≤ σ 1) (h2 : enoS σ b m = true) (hd : du = misFrom (weaveN σ b m.toNat) (σ 4)) (h0 : 0 ≤ du) :
    atO σ 2 m (bz b) 0 = du ∧ dS σ 2 m (bz b) 0 = weaveN σ b m.toNat ∧ (∀ k, 0 ≤ k → k < 9 → up (up af 8 (af 8 + macN σ b m.toNat)) (if du < 0 then -du else 0) (up af 8 (af 8 + macN σ b m.toNat) (if du < 0 then -du else 0) + 1) k = dA ac σ 2 m (bz b) 0 k) := by
  have hb : decide (bz b = 1) = b := by cases b <;> rfl
  have hr : atR σ 2 m (bz b) 0 = 0 := by unfold atR; rw [if_neg (by decide), if_neg (by decide), if_pos rfl, if_neg (by omega), hb, if_neg (by rw [h2]; decide)]
  refine ⟨?_, ?_, ?_⟩
  · unfold atO; rw [if_pos hr]; unfold atT; rw [if_neg (by decide), if_neg (by decide), if_pos rfl, hb, hd]
  · unfold dS; rw [if_pos hr]; unfold atS; rw [if_neg (by decide), if_neg (by decide), if_pos rfl, hb]
  · unfold dA
    rw [if_pos hr, if_neg (by omega)]
    have hm : atM σ 2 m (bz b) = macN σ b m.toNat := by unfold atM; rw [if_neg (by decide), if_pos rfl, hb]
    rw [hm]
    exact ac_8 hacc
