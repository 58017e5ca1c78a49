/-! ===== the reference's walk through a whole script ends ===== -/
/-- how many repeats are open ahead of the line p -/
def dep (sc : Int → Int) (p : Int) : Int := cnt (fun q => decide (sc (4 * q) = 5)) 0 p - cnt (fun q => decide (sc (4 * q) = 6)) 0 p
theorem dep_s {sc : Int → Int} {p : Int} (h : 0 ≤ p) : dep sc (p + 1) = dep sc p + (if sc (4 * p) = 5 then 1 else 0) - (if sc (4 * p) = 6 then 1 else 0) := by
  unfold dep
  rw [cnt_s _ h, cnt_s _ h]
  by_cases h5 : sc (4 * p) = 5
  · rw [decide_eq_true h5, decide_eq_false (by omega), if_pos h5, if_neg (by omega), bz_t, bz_f]
    omega
  · by_cases h6 : sc (4 * p) = 6
    · rw [decide_eq_false h5, decide_eq_true h6, if_neg h5, if_pos h6, bz_t, bz_f]
      omega
    · rw [decide_eq_false h5, decide_eq_false h6, if_neg h5, if_neg h6, bz_f]
      omega
theorem Sg.dpe {kd ar sc : Int → Int} {wd lo hi n : Int} {L : List Int} (h : Sg kd ar sc wd lo hi n L) (h0 : 0 ≤ lo) : dep sc hi = dep sc lo := by
  refine Sg.ind (P := fun lo hi _ _ => 0 ≤ lo → dep sc hi = dep sc lo) (fun lo _ => rfl) (fun lo hi n L ho hs ih g => ?_) (fun lo m hi n1 n2 L1 L2 h1 h2 h3 h4 h5 h6 h7 h8 h9 h10 ih1 ih2 g => ?_) h h0
  · have k := okP_k (okA_P ho)
    have := ih (by omega)
    rw [dep_s g, if_neg (by omega), if_neg (by omega)] at this
    omega
  · have l4 := h4.le
    have e1 := ih1 (by omega)
    have e2 := ih2 (by omega)
    rw [dep_s g, if_pos h2, if_neg (by omega)] at e1
    rw [dep_s (by omega), if_neg (by omega), if_pos h6] at e2
    omega
theorem Sg.rem {kd ar sc : Int → Int} {ln wd lo hi n : Int} {L : List Int} (h : Sg kd ar sc wd lo hi n L) (h60 : ln ≤ 60) (hdep : ∀ p, 0 ≤ p → p < ln → sc (4 * p) = 5 → dep sc p < 3) (h0 : 0 ≤ lo) (hh : hi ≤ ln) {dp : Int} {be la : Int → Int} {L3 : List Int} (hd : dp = dep sc lo) (hd0 : 0 ≤ dp ∧ dp ≤ 3) (hk : ∀ be' la' : Int → Int, (∀ i, i < dp → be' i = be i ∧ la' i = la i) → ∃ R, Rem sc ln wd R hi dp be' la' L3) : ∃ R, Rem sc ln wd R lo dp be la (L ++ L3) := by
  refine Sg.ind (P := fun lo hi _ L => 0 ≤ lo → hi ≤ ln → ∀ (dp : Int) (be la : Int → Int) (L3 : List Int), dp = dep sc lo → (0 ≤ dp ∧ dp ≤ 3) → (∀ be' la' : Int → Int, (∀ i, i < dp → be' i = be i ∧ la' i = la i) → ∃ R, Rem sc ln wd R hi dp be' la' L3) → ∃ R, Rem sc ln wd R lo dp be la (L ++ L3)) (fun lo _ _ dp be la L3 _ _ hk => hk be la (fun i _ => ⟨rfl, rfl⟩)) (fun lo hi n L ho hs ih g0 g1 dp be la L3 hd hd0 hk => ?_) (fun lo c hi n1 n2 L1 L2 h1 h2 h3 h4 h5 h6 h7 h8 h9 h10 ih1 ih2 g0 g1 dp be la L3 hd hd0 hk => ?_) h h0 hh dp be la L3 hd hd0 hk
  · have k := okP_k (okA_P ho)
    have l := hs.le
    obtain ⟨R, hR⟩ := ih (by omega) g1 dp be la L3 (by rw [dep_s g0, if_neg (by omega), if_neg (by omega)]; omega) hd0 hk
    exact ⟨R + 1, ⟨g0, by omega, by omega⟩, .inr (.inr ⟨okA_P ho, _, rfl, hR⟩)⟩
  · have l4 := h4.le
    have l10 := h10.le
    have hd3 := hdep lo g0 (by omega) h2
    have hdc := h4.dpe (by omega)
    have e1 : dep sc (lo + 1) = dep sc lo + 1 := by rw [dep_s g0, if_pos h2, if_neg (by omega)]; omega
    have e2 : dep sc (c + 1) = dep sc lo := by rw [dep_s (by omega), if_neg (by omega), if_pos h6]; omega
    have inner : ∀ (j : Nat), (j : Int) + 1 ≤ 20 → ∀ be2 la2 : Int → Int, be2 dp = lo → la2 dp = (j : Int) + 1 → (∀ i, i < dp → be2 i = be i ∧ la2 i = la i) → ∃ R, Rem sc ln wd R (lo + 1) (dp + 1) be2 la2 ((List.replicate (j + 1) L1).flatten ++ (L2 ++ L3)) := by
      intro j
      induction j with
      | zero =>
        intro hj be2 la2 hb hl hag
        rw [show (List.replicate (0 + 1) L1).flatten ++ (L2 ++ L3) = L1 ++ (L2 ++ L3) by simp]
        refine ih1 (by omega) (by omega) (dp + 1) be2 la2 (L2 ++ L3) (by omega) (by omega) (fun be' la' ha => ?_)
        have hb' := ha dp (by omega)
        obtain ⟨R, hR⟩ := ih2 (by omega) g1 dp be' (up la' dp (la' dp - 1)) L3 (by omega) hd0 (fun be3 la3 h3' => hk be3 la3 (fun i hi => by
          have a1 := h3' i hi
          have a2 := ha i (by omega)
          have a3 := hag i hi
          rw [up_n (by omega)] at a1
          exact ⟨by rw [a1.1, a2.1, a3.1], by rw [a1.2, a2.2, a3.2]⟩))
        refine ⟨R + 1, ⟨by omega, by omega, by omega⟩, .inr (.inl ⟨h6, by omega, ?_, ?_, ?_⟩)⟩
        · rw [show dp + 1 - 1 = dp by omega]; omega
        · rw [show dp + 1 - 1 = dp by omega]; omega
        · rw [show dp + 1 - 1 = dp by omega]
          exact ⟨fun z => by exfalso; omega, fun _ => hR⟩
      | succ j ihj =>
        intro hj be2 la2 hb hl hag
        rw [show (List.replicate (j + 1 + 1) L1).flatten ++ (L2 ++ L3) = L1 ++ ((List.replicate (j + 1) L1).flatten ++ (L2 ++ L3)) by rw [List.replicate_succ, List.flatten_cons, List.append_assoc]]
        refine ih1 (by omega) (by omega) (dp + 1) be2 la2 _ (by omega) (by omega) (fun be' la' ha => ?_)
        have hb' := ha dp (by omega)
        obtain ⟨R, hR⟩ := ihj (by omega) be' (up la' dp (la' dp - 1)) (by omega) (by rw [up_s]; omega) (fun i hi => by
          have a2 := ha i (by omega)
          have a3 := hag i hi
          rw [up_n (by omega)]
          exact ⟨by rw [a2.1, a3.1], by rw [a2.2, a3.2]⟩)
        refine ⟨R + 1, ⟨by omega, by omega, by omega⟩, .inr (.inl ⟨h6, by omega, ?_, ?_, ?_⟩)⟩
        · rw [show dp + 1 - 1 = dp by omega]; omega
        · rw [show dp + 1 - 1 = dp by omega]; omega
        · rw [show dp + 1 - 1 = dp by omega]
          exact ⟨fun _ => by rw [show be' dp + 1 = lo + 1 by omega]; exact hR, fun z => by exfalso; omega⟩
    obtain ⟨R, hR⟩ := inner ((sc (4 * lo + 1)).toNat - 1) (by omega) (up be dp lo) (up la dp (sc (4 * lo + 1))) (up_s _ _ _) (by rw [up_s]; omega) (fun i hi => ⟨up_n (by omega), up_n (by omega)⟩)
    rw [show (sc (4 * lo + 1)).toNat - 1 + 1 = (sc (4 * lo + 1)).toNat by omega] at hR
    refine ⟨R + 1, ⟨g0, by omega, by omega⟩, .inl ⟨h2, by omega, h3, ?_⟩⟩
    rw [List.append_assoc]
    exact hR
