/-! ===== the class's walk through a whole script ===== -/
/-- as RC, with the first gap at most m -/
def RM (kd ar sc : Int → Int) (ln wd : Int) (m : Int) : List Int → Int → (Int → Int) → Prop
  | [], pr, tl => ∃ (R : Nat) (pr2 : Int) (tl2 : Int → Int), (R : Int) ≤ m ∧ Adv kd ar ln R pr tl false pr2 tl2
  | p :: L, pr, tl => ∃ (R : Nat) (tl2 : Int → Int), (R : Int) ≤ m ∧ Adv kd ar ln R pr tl true p tl2 ∧ okA kd ar sc wd p ∧ (0 ≤ p ∧ p < 60) ∧ RC kd ar sc ln wd L p tl2
theorem RM.le {kd ar sc tl : Int → Int} {ln wd m m2 pr : Int} : ∀ {L : List Int}, RM kd ar sc ln wd m L pr tl → m ≤ m2 → RM kd ar sc ln wd m2 L pr tl
  | [], ⟨R, pr2, tl2, h1, h2⟩, h => ⟨R, pr2, tl2, by omega, h2⟩
  | p :: L, ⟨R, tl2, h1, h2⟩, h => ⟨R, tl2, by omega, h2⟩
theorem RM.rc {kd ar sc tl : Int → Int} {ln wd m pr : Int} : ∀ {L : List Int}, RM kd ar sc ln wd m L pr tl → m ≤ 10000 → RC kd ar sc ln wd L pr tl
  | [], ⟨R, pr2, tl2, h1, h2⟩, h => ⟨R, pr2, tl2, by omega, h2⟩
  | p :: L, ⟨R, tl2, h1, h2⟩, h => ⟨R, tl2, by omega, h2⟩
/-- one round that is no act -/
theorem RM.st {kd ar sc tl tl' : Int → Int} {ln wd m pr pr' : Int} (hs : ∀ (R : Nat) (b : Bool) (pr2 : Int) (tl2 : Int → Int), Adv kd ar ln R pr' tl' b pr2 tl2 → Adv kd ar ln (R + 1) pr tl b pr2 tl2) : ∀ {L : List Int}, RM kd ar sc ln wd m L pr' tl' → RM kd ar sc ln wd (m + 1) L pr tl
  | [], ⟨R, pr2, tl2, h1, h2⟩ => ⟨R + 1, pr2, tl2, by omega, hs _ _ _ _ h2⟩
  | p :: L, ⟨R, tl2, h1, h2, h3⟩ => ⟨R + 1, tl2, by omega, hs _ _ _ _ h2, h3⟩
theorem Sg.rc {kd ar sc : Int → Int} {ln wd lo hi n : Int} {L : List Int} (h : Sg kd ar sc wd lo hi n L) (h60 : ln ≤ 60) (h0 : 0 ≤ lo) (hh : hi ≤ ln) {m : Int} {tl : Int → Int} {L3 : List Int} (hm : 0 ≤ m ∧ m + (hi - lo) ≤ 9000) (hk : ∀ tl' : Int → Int, (∀ i, (i < lo ∨ hi ≤ i) → tl' i = tl i) → RM kd ar sc ln wd m L3 (hi - 1) tl') : RM kd ar sc ln wd (if L = [] then m + (hi - lo) else hi - lo) (L ++ L3) (lo - 1) tl := by
  refine Sg.ind (P := fun lo hi _ L => 0 ≤ lo → hi ≤ ln → ∀ (m : Int) (tl : Int → Int) (L3 : List Int), (0 ≤ m ∧ m + (hi - lo) ≤ 9000) → (∀ tl' : Int → Int, (∀ i, (i < lo ∨ hi ≤ i) → tl' i = tl i) → RM kd ar sc ln wd m L3 (hi - 1) tl') → RM kd ar sc ln wd (if L = [] then m + (hi - lo) else hi - lo) (L ++ L3) (lo - 1) tl) (fun lo _ _ m tl L3 hm hk => ?_) (fun lo hi n L ho hs ih g0 g1 m tl L3 hm hk => ?_) (fun lo c hi n1 n2 L1 L2 h1 h2 h3 h4 h5 h6 h7 h8 h9 h10 ih1 ih2 g0 g1 m tl L3 hm hk => ?_) h h0 hh m tl L3 hm hk
  · rw [if_pos rfl]
    exact (hk tl (fun _ _ => rfl)).le (by omega)
  · have l := hs.le
    have k := okP_k (okA_P ho)
    have hkd : kd lo = sc (4 * lo) := ho.1
    rw [if_neg (by simp)]
    have hr := ih (by omega) g1 m tl L3 (by omega) (fun tl' ha => hk tl' (fun i hi9 => ha i (by omega)))
    rw [show lo + 1 - 1 = lo by omega] at hr
    refine ⟨1, tl, by omega, ⟨by omega, .inr ⟨by omega, .inr (.inr ⟨?_, rfl, by omega, rfl⟩)⟩⟩, ho, by omega, hr.rc (by split <;> omega)⟩
    rw [show lo - 1 + 1 = lo by omega]
    omega
  · have l4 := h4.le
    have l10 := h10.le
    have hz := h4.z
    by_cases hn : n1 = 0
    · have hL1 := hz.mp hn
      have hF : (List.replicate (sc (4 * lo + 1)).toNat L1).flatten ++ L2 = L2 := by rw [hL1]; simp
      rw [hF]
      rw [if_pos hn] at h9
      have hr := ih2 (by omega) g1 m (up tl lo 0) L3 (by omega) (fun tl' ha => ?_)
      · rw [show c + 1 - 1 = c by omega] at hr
        refine (RM.st (fun R b pr2 tl2 hA => ⟨by omega, .inr ⟨by omega, .inl ⟨?_, ?_, ?_⟩⟩⟩) hr).le (by split <;> omega)
        · rw [show lo - 1 + 1 = lo by omega]; exact h1
        · rw [show 3 * (lo - 1 + 1) + 0 = 3 * lo by omega, h9]; omega
        · rw [show 3 * (lo - 1 + 1) + 0 = 3 * lo by omega, show 3 * (lo - 1 + 1) + 1 = 3 * lo + 1 by omega, show lo - 1 + 1 = lo by omega, h9, if_pos rfl, h8]
          exact hA
      · exact hk tl' (fun i hi9 => by
          have a1 := ha i (by omega)
          rw [up_n (by omega)] at a1
          exact a1)
    · have hL1 : L1 ≠ [] := fun z => hn (hz.mpr z)
      rw [if_neg hn] at h9
      have cls : ∀ (t2 : Int → Int) (m2 : Int) (L9 : List Int), (1 ≤ t2 lo ∧ t2 lo ≤ 20) → RM kd ar sc ln wd m2 L9 (if 0 < t2 lo - 1 then lo else c) (up t2 lo (t2 lo - 1)) → RM kd ar sc ln wd (m2 + 1) L9 (c - 1) t2 := fun t2 m2 L9 ht hr => RM.st (fun R b pr2 tl2 hA => ⟨by omega, .inr ⟨by omega, .inr (.inl ⟨by rw [show c - 1 + 1 = c by omega]; exact h5, by rw [show 3 * (c - 1 + 1) + 0 = 3 * c by omega, h7]; omega, by rw [show 3 * (c - 1 + 1) + 0 = 3 * c by omega, h7]; exact ht, by rw [show 3 * (c - 1 + 1) + 0 = 3 * c by omega, h7, show c - 1 + 1 = c by omega]; exact hA⟩)⟩⟩) hr
      have inner : ∀ (j : Nat), (j : Int) + 1 ≤ 20 → ∀ t2 : Int → Int, t2 lo = (j : Int) + 1 → (∀ i, (i < lo ∨ hi ≤ i) → t2 i = tl i) → RM kd ar sc ln wd (c - (lo + 1)) ((List.replicate (j + 1) L1).flatten ++ (L2 ++ L3)) lo t2 := by
        intro j
        induction j with
        | zero =>
          intro hj t2 ht hag
          rw [show (List.replicate (0 + 1) L1).flatten ++ (L2 ++ L3) = L1 ++ (L2 ++ L3) by simp]
          have hr := ih1 (by omega) (by omega) (m + (hi - c)) t2 (L2 ++ L3) (by omega) (fun t3 ha => ?_)
          · rw [if_neg hL1, show lo + 1 - 1 = lo by omega] at hr
            exact hr
          · have h3l := ha lo (by omega)
            have hr2 := ih2 (by omega) g1 m (up t3 lo (t3 lo - 1)) L3 (by omega) (fun t4 h4' => hk t4 (fun i hi9 => by
              have a1 := h4' i (by omega)
              rw [up_n (by omega), ha i (by omega), hag i hi9] at a1
              exact a1))
            rw [show c + 1 - 1 = c by omega] at hr2
            exact (cls t3 _ _ (by omega) (by rw [if_neg (by omega)]; exact hr2)).le (by split <;> omega)
        | succ j ihj =>
          intro hj t2 ht hag
          rw [show (List.replicate (j + 1 + 1) L1).flatten ++ (L2 ++ L3) = L1 ++ ((List.replicate (j + 1) L1).flatten ++ (L2 ++ L3)) by rw [List.replicate_succ, List.flatten_cons, List.append_assoc]]
          have hr := ih1 (by omega) (by omega) (c - (lo + 1) + 1) t2 ((List.replicate (j + 1) L1).flatten ++ (L2 ++ L3)) (by omega) (fun t3 ha => ?_)
          · rw [if_neg hL1, show lo + 1 - 1 = lo by omega] at hr
            exact hr
          · have h3l := ha lo (by omega)
            exact cls t3 _ _ (by omega) (by
              rw [if_pos (by omega)]
              exact ihj (by omega) _ (by rw [up_s]; omega) (fun i hi9 => by rw [up_n (by omega), ha i (by omega), hag i hi9]))
      have hr := inner ((sc (4 * lo + 1)).toNat - 1) (by omega) (up tl lo (sc (4 * lo + 1))) (by rw [up_s]; omega) (fun i hi9 => up_n (by omega))
      rw [show (sc (4 * lo + 1)).toNat - 1 + 1 = (sc (4 * lo + 1)).toNat by omega] at hr
      rw [List.append_assoc]
      refine (RM.st (fun R b pr2 tl2 hA => ⟨by omega, .inr ⟨by omega, .inl ⟨?_, ?_, ?_⟩⟩⟩) hr).le (by split <;> omega)
      · rw [show lo - 1 + 1 = lo by omega]; exact h1
      · rw [show 3 * (lo - 1 + 1) + 0 = 3 * lo by omega, h9]; omega
      · rw [show 3 * (lo - 1 + 1) + 0 = 3 * lo by omega, show lo - 1 + 1 = lo by omega, h9, if_neg (by omega)]
        exact hA
theorem Sg.RC {kd ar sc : Int → Int} {ln wd n : Int} {L : List Int} (h : Sg kd ar sc wd 0 ln n L) (h60 : 0 ≤ ln ∧ ln ≤ 60) (tl : Int → Int) : RC kd ar sc ln wd L (-1) tl := by
  have hr := h.rc h60.2 (Int.le_refl 0) (Int.le_refl ln) (m := 1) (tl := tl) (L3 := []) (by omega) (fun tl' _ => ⟨1, ln - 1 + 1, tl', by omega, ⟨by omega, .inl ⟨by omega, rfl, rfl, rfl⟩⟩⟩)
  rw [List.append_nil] at hr
  exact hr.rc (by split <;> omega)
