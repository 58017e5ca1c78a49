theorem misSeen_rr {σ : Int → Int} (h : WF σ) : 0 ≤ misSeen σ ∧ misSeen σ ≤ 1200 := by
  have w0 := h.1
  unfold WF0 at w0
  have h1 := sm_r (f := fun r => if seenS σ r then misRow σ r else 0) (lo := 0) (hi := σ 4) (M := 40) (by decide) (fun i _ _ => by
    have := misRow_r h i
    show 0 ≤ (if seenS σ i then misRow σ i else 0) ∧ (if seenS σ i then misRow σ i else 0) ≤ 40
    split <;> omega) (by omega)
  unfold misSeen
  omega
theorem atR_r (σ : Int → Int) (k a b c : Int) : 0 ≤ atR σ k a b c ∧ atR σ k a b c ≤ 3 := by
  unfold atR
  (repeat' split) <;> decide
theorem atO_r {σ : Int → Int} {k a b c : Int} (h : WF σ) (ho : actOK σ k a b c) : -100000 ≤ atO σ k a b c ∧ atO σ k a b c ≤ 100000 := by
  have w0 := h.1
  unfold WF0 at w0
  have hr := atR_r σ k a b c
  by_cases hR : atR σ k a b c = 0
  · rw [atO_0 hR]
    have hW := (atS_W h ho hR).1
    rcases ho with ⟨hk, ha, hb⟩ | hk | ⟨hk, ha, hb⟩ | ⟨hk, ha⟩ | hk
    · have e : atT σ k a b c = σ (6 + a) - (c - b + 1) := by unfold atT; rw [if_pos hk]
      have := h.2.1 a (by omega) (by omega)
      omega
    · have e : atT σ k a b c = misRow (btS σ) (σ 4) := by unfold atT; rw [if_neg (by omega), if_pos hk]
      have e2 : atS σ k a b c = btS σ := by unfold atS; rw [if_neg (by omega), if_pos hk]
      rw [e2] at hW
      have := misRow_r hW (σ 4)
      omega
    · have e : atT σ k a b c = misFrom (weaveN σ (decide (b = 1)) a.toNat) (σ 4) := by unfold atT; rw [if_neg (by omega), if_neg (by omega), if_pos hk]
      have e2 : atS σ k a b c = weaveN σ (decide (b = 1)) a.toNat := by unfold atS; rw [if_neg (by omega), if_neg (by omega), if_pos hk]
      rw [e2] at hW
      have h1 : σ 4 + a ≤ σ 1 := by
        unfold atR at hR
        rw [if_neg (by omega), if_neg (by omega), if_pos hk] at hR
        split at hR
        · exact absurd hR (by decide)
        · omega
      have hen : enoS σ (decide (b = 1)) a = true := by
        unfold atR at hR
        rw [if_neg (by omega), if_neg (by omega), if_pos hk, if_neg (by omega)] at hR
        cases hz : enoS σ (decide (b = 1)) a
        · rw [hz] at hR; exact absurd hR (by decide)
        · rfl
      have hw := wea_all (b := decide (b = 1)) h a.toNat (by omega) (fun co c0 c1 => by rw [show ((a.toNat : Nat) : Int) = a by omega]; exact eno_he hen co c0 c1) a.toNat (Nat.le_refl _)
      have h4 := hw.2.2.1
      have := misFrom_r hW (lo := σ 4) (by omega) (by omega)
      omega
    · have e : atT σ k a b c = sm (wvnS σ (σ 4 - a)) 0 7 := by unfold atT; rw [if_neg (by omega), if_neg (by omega), if_neg (by omega), if_pos hk]
      have h1 : a ≤ σ 4 := by
        unfold atR at hR
        rw [if_neg (by omega), if_neg (by omega), if_neg (by omega), if_pos hk] at hR
        split at hR
        · exact absurd hR (by decide)
        · omega
      have := sm_r (f := wvnS σ (σ 4 - a)) (lo := 0) (hi := 7) (M := 1200) (by decide) (fun i _ _ => wvn_r h.1 (by omega) i) (by decide)
      omega
    · have e : atT σ k a b c = misSeen (up σ 3 (σ 4)) - misSeen σ := by unfold atT; rw [if_neg (by omega), if_neg (by omega), if_neg (by omega), if_neg (by omega)]
      have e2 : atS σ k a b c = up σ 3 (σ 4) := by unfold atS; rw [if_neg (by omega), if_neg (by omega), if_neg (by omega), if_neg (by omega)]
      rw [e2] at hW
      have h1 := misSeen_rr hW
      have h2 := misSeen_rr h
      omega
  · rw [atO_n rfl hR]
    omega
theorem or_1 {P Q R : Prop} (h : P ∨ Q ∨ R) (hq : ¬ Q) (hr : ¬ R) : P := h.elim id (fun z => z.elim (fun x => absurd x hq) (fun x => absurd x hr))
theorem or_2 {P Q R : Prop} (h : P ∨ Q ∨ R) (hp : ¬ P) (hr : ¬ R) : Q := h.elim (fun x => absurd x hp) (fun z => z.elim id (fun x => absurd x hr))
theorem or_3 {P Q R : Prop} (h : P ∨ Q ∨ R) (hp : ¬ P) (hq : ¬ Q) : R := h.elim (fun x => absurd x hp) (fun z => z.elim (fun x => absurd x hq) id)
theorem okP_k {sc : Int → Int} {wd p : Int} (h : okP sc wd p) : 0 ≤ sc (4 * p) ∧ sc (4 * p) ≤ 4 := by
  rcases h with h | h | h | h | h
  · omega
  · omega
  · have := h.1; omega
  · omega
  · omega
theorem rem_e {sc be la : Int → Int} {ln wd i dp : Int} {L : List Int} : ∀ {R : Nat}, Rem sc ln wd R i dp be la L → ln ≤ i → L = []
  | 0, h, _ => h.2
  | R + 1, h, g => by
    have := h.1
    omega
theorem rem_p {sc be la : Int → Int} {ln wd i dp : Int} {L : List Int} : ∀ {R : Nat}, Rem sc ln wd R i dp be la L → i < ln → ∃ r : Nat, R = r + 1 ∧ (0 ≤ i ∧ i < ln ∧ i < 60) ∧ ((sc (4 * i) = 5 ∧ (0 ≤ dp ∧ dp < 3) ∧ (1 ≤ sc (4 * i + 1) ∧ sc (4 * i + 1) ≤ 20) ∧ Rem sc ln wd r (i + 1) (dp + 1) (up be dp i) (up la dp (sc (4 * i + 1))) L) ∨ (sc (4 * i) = 6 ∧ (1 ≤ dp ∧ dp ≤ 3) ∧ (1 ≤ la (dp - 1) ∧ la (dp - 1) ≤ 20) ∧ (0 ≤ be (dp - 1) ∧ be (dp - 1) < 60) ∧ ((0 < la (dp - 1) - 1 → Rem sc ln wd r (be (dp - 1) + 1) dp be (up la (dp - 1) (la (dp - 1) - 1)) L) ∧ (¬ (0 < la (dp - 1) - 1) → Rem sc ln wd r (i + 1) (dp - 1) be (up la (dp - 1) (la (dp - 1) - 1)) L))) ∨ (okP sc wd i ∧ ∃ L2, L = i :: L2 ∧ Rem sc ln wd r (i + 1) dp be la L2))
  | 0, h, g => by
    have := h.1
    omega
  | R + 1, h, g => ⟨R, rfl, h⟩
theorem rem_k {sc : Int → Int} {wd i : Int} {P Q R : Prop} (h : (sc (4 * i) = 5 ∧ P) ∨ (sc (4 * i) = 6 ∧ Q) ∨ (okP sc wd i ∧ R)) : 0 ≤ sc (4 * i) ∧ sc (4 * i) ≤ 6 := by
  rcases h with h | h | h
  · omega
  · omega
  · have := okP_k h.1
    omega
theorem dV_n {v σ : Int → Int} {k a b c p : Int} (hp : p ≠ 5 ∧ p ≠ 8 ∧ p ≠ 9) : dV v σ k a b c p = v p := by
  unfold dV
  split
  · rw [up_n hp.2.2, up_n hp.2.1, up_n hp.1]
  · rfl
theorem dV_5 {v σ : Int → Int} {k a b c : Int} (h : 0 ≤ v 5 ∧ v 5 ≤ 8) : 0 ≤ dV v σ k a b c 5 ∧ dV v σ k a b c 5 ≤ 8 := by
  unfold dV
  split
  · rw [up_n (by decide), up_n (by decide), up_s]
    omega
  · exact h
theorem sgG_I {f : Int → Int} {wd : Int} : ∀ (n : Nat) (v sc : Int → Int), sI f v → sI f (sgG f wd n v sc).1 ∧ ∀ k, (k < 14 ∨ 19 < k) → k ≠ 27 ∧ k ≠ 28 ∧ k ≠ 29 → (sgG f wd n v sc).1 k = v k
  | 0, v, sc, h => ⟨h, fun _ _ _ => rfl⟩
  | n + 1, v, sc, h => by
    by_cases g : v 18 = 0 ∧ v 16 ≠ 0
    · have e : sgG f wd (n + 1) v sc = sgG f wd n (csV f v wd) (csS f v sc wd) := if_pos g
      have ih := sgG_I (wd := wd) n (csV f v wd) (csS f v sc wd) (csV_I (wd := wd) h)
      rw [e]
      exact ⟨ih.1, fun k k1 k2 => (ih.2 k k1 k2).trans (csV_n h.1 k1 k2)⟩
    · rw [sgG_e g]
      exact ⟨h, fun _ _ _ => rfl⟩
theorem sgV_P {f v sc : Int → Int} {wd : Int} (h : vP f v) : vP f (sgV f v sc wd) := by
  have h1 := (sgG_I (wd := wd) 402 (sc0 v) sc (sc0_I h)).1.1
  unfold sgV
  split
  · exact h1.fa (by decide)
  · exact h1
theorem sgV_n {f v sc : Int → Int} {wd k : Int} (h : vP f v) (hk : k < 14 ∨ 19 < k) (h2 : k ≠ 27 ∧ k ≠ 28 ∧ k ≠ 29) : sgV f v sc wd k = v k := by
  have h1 := (sgG_I (wd := wd) 402 (sc0 v) sc (sc0_I h)).2 k hk h2
  have h3 : sc0 v k = v k := by
    unfold sc0
    rw [up_n h2.2.2, up_n h2.2.1, up_n h2.1]
  unfold sgV
  split
  · rw [fa_n (by omega) (by omega)]
    exact h1.trans h3
  · exact h1.trans h3
set_option maxHeartbeats 4000000 in
set_option maxRecDepth 100000 in
theorem c_X9_play_x (l : Launch) (X : Cx) (w : Wo) (mo : Nat) (v tx σ sc : Int → Int) (hM : w mo = some (.inr (9, mL mo v))) (htx : w (mo + 7) = some (aZ X 400 tx)) (hun : 0 ≤ v 11 ∧ v 11 ≤ 400) (hfb : ∀ i, 0 ≤ i → i < v 11 → 0 ≤ tx i ∧ tx i ≤ 255) (hs : w (mo + 1) = some (aZ X 1317 σ)) (hwf : WF σ) (hsc : w (mo + 9) = some (aZ X 240 sc)) (hq : (sgV tx (ld0 tx (up v 6 0)) sc (σ 0)) 18 ≠ 0) : CM l X yX9_play cX9_play 6 (some (.int)) (rmk 8 222) [.ref mo] w (some (.int (iI (-1)))) (fun w' => w' mo = some (.inr (9, mL mo (enV (sgV tx (ld0 tx (up v 6 0)) sc (σ 0))))) ∧ w' (mo + 9) = some (aZ X 240 ((sgF tx (ld0 tx (up v 6 0)) sc (σ 0)).2)) ∧ ∀ q : Nat, q ≠ mo → q ≠ mo + 9 → w' q = w q) := by
  refine CM.of (lv := [(0, .ref mo)]) (by decide) (Nat.le_of_ble_eq_true rfl) rfl (fun p e s m below meth c ls F hr hlk hin hW hS hl => ?_)
  have hZ0 := hW.2.2
  have hB9 := hW.1.2
  clear hin
  have hp0 := ld0_P (v := up v 6 0) hun hfb rfl
  have hsV : vP tx (sgV tx (ld0 tx (up v 6 0)) sc (σ 0)) := sgV_P hp0
  have h181 := hsV.2
  refine lv_aload_n F.1 F.2.1 dX9_play_0 rfl (lv_at hl 0 rfl) ?_
  refine h_iconst F dX9_play_1 ?_
  refine pf_RX9_58 F hW hS hM (Nat.le_of_ble_eq_true rfl) dX9_play_2 (fun w1 H locs ho3 hn2 hW hS => ?_)
  rw [mL_6] at ho3
  have htx := (hn2 _ (by omega)).trans htx
  have hs := (hn2 _ (by omega)).trans hs
  have hsc := (hn2 _ (by omega)).trans hsc
  refine lv_aload_n F.1 F.2.1 dX9_play_5 rfl (lv_at hl 0 rfl) ?_
  refine cl_RX9_366 (As := []) (rest := []) F hl (c_X9_startsText l X w1 mo (up v 6 0) tx ho3 htx hun hfb) hW hS ho3 rfl rfl ⟨Nat.le_of_ble_eq_true rfl, Nat.le_of_ble_eq_true rfl⟩ (Nat.le_of_ble_eq_true rfl) ⟨Nat.zero_le _, Nat.zero_le _⟩ dX9_play_6 (fun w4 H locs hp5 hW hS => ?_)
  obtain ⟨ho6, hn7⟩ := hp5
  have htx := (hn7 _ (by omega)).trans htx
  have hs := (hn7 _ (by omega)).trans hs
  have hsc := (hn7 _ (by omega)).trans hsc
  have hX8 : w4 mo = some (.inr (9, mL mo (ld0 tx (up v 6 0)))) := ho6
  refine lv_aload_n F.1 F.2.1 dX9_play_9 rfl (lv_at hl 0 rfl) ?_
  refine cl_RX9_410 (As := []) (rest := []) F hl (c_X9_readsScript l X w4 mo (ld0 tx (up v 6 0)) tx σ sc hX8 htx hs hwf hp0 hsc) hW hS hX8 rfl rfl ⟨Nat.le_of_ble_eq_true rfl, Nat.le_of_ble_eq_true rfl⟩ (Nat.le_of_ble_eq_true rfl) ⟨Nat.zero_le _, Nat.zero_le _⟩ dX9_play_10 (fun w9 H locs hp10 hW hS => ?_)
  obtain ⟨ho11, ha12, hn13⟩ := hp10
  have htx := (hn13 _ (by omega) (by omega)).trans htx
  have hs := (hn13 _ (by omega) (by omega)).trans hs
  refine lv_aload_n F.1 F.2.1 dX9_play_13 rfl (lv_at hl 0 rfl) ?_
  refine cl_RX9_372 (As := []) (rest := []) F hl (c_X9_endsText l X w9 mo (sgV tx (ld0 tx (up v 6 0)) sc (σ 0)) ho11 h181) hW hS ho11 rfl rfl ⟨Nat.le_of_ble_eq_true rfl, Nat.le_of_ble_eq_true rfl⟩ (Nat.le_of_ble_eq_true rfl) ⟨Nat.zero_le _, Nat.zero_le _⟩ dX9_play_14 (fun w14 H locs hp15 hW hS => ?_)
  obtain ⟨ho16, hn17⟩ := hp15
  have htx := (hn17 _ (by omega)).trans htx
  have hs := (hn17 _ (by omega)).trans hs
  have ha12 := (hn17 _ (by omega)).trans ha12
  refine h_top (show (bz (decide ((sgV tx (ld0 tx (up v 6 0)) sc (σ 0)) 18 = 0)) : Int) = bz false from congrArg bz (decide_eq_false hq)) ?_
  refine h_ifneb (tgt := 22) F dX9_play_17 (by decide) (fun c9 => absurd c9 (by decide)) (fun _ => ?_)
  refine h_iconst F dX9_play_20 ?_
  refine h_top (show ((-1) : Int) = -1 from by first | rfl | omega | (simp_all; done)) ?_
  exact h_ireti F hr hlk hW hS ⟨(by (rw [ho16]) <;> (rfl)), ha12, (fun q h09 h19 => by rw [hn17 q (by omega), hn13 q (by omega) (by omega), hn7 q (by omega), hn2 q (by omega)])⟩ dX9_play_21
set_option maxHeartbeats 4000000 in
set_option maxRecDepth 100000 in
theorem c_X9_play (l : Launch) (X : Cx) (w : Wo) (mo : Nat) (v tx σ sc : Int → Int) (pa rf tk be la s2 : Int → Int) (ln : Int) (R0 : Nat) (L0 : List Int) (hM : w mo = some (.inr (9, mL mo v))) (htx : w (mo + 7) = some (aZ X 400 tx)) (hun : 0 ≤ v 11 ∧ v 11 ≤ 400) (hfb : ∀ i, 0 ≤ i → i < v 11 → 0 ≤ tx i ∧ tx i ≤ 255) (hs : w (mo + 1) = some (aZ X 1317 σ)) (hwf : WF σ) (hsc : w (mo + 9) = some (aZ X 240 sc)) (hpa : w (mo + 3) = some (aZ X 10536 pa)) (h5 : 0 ≤ v 5 ∧ v 5 ≤ 8) (hrf : w (mo + 6) = some (aZ X 8 rf)) (htk : w (mo + 8) = some (aZ X 7 tk)) (hbe : w (mo + 10) = some (aZ X 3 be)) (hla : w (mo + 11) = some (aZ X 3 la)) (hq : (sgV tx (ld0 tx (up v 6 0)) sc (σ 0)) 18 = 0) (hs2 : s2 = (sgF tx (ld0 tx (up v 6 0)) sc (σ 0)).2) (hln : ln = (sgV tx (ld0 tx (up v 6 0)) sc (σ 0)) 27) (hl60 : 0 ≤ ln ∧ ln ≤ 60) (hRem : Rem s2 ln (σ 0) R0 0 0 be la L0) : CM l X yX9_play cX9_play 6 (some (.int)) (rmk 8 222) [.ref mo] w (some (.int (iI ((runL (okR s2) (stR s2) L0 0 ((enV (sgV tx (ld0 tx (up v 6 0)) sc (σ 0)), σ, pa, rf) : SR)).1)))) (fun w' => w' mo = some (.inr (9, mL mo ((runL (okR s2) (stR s2) L0 0 ((enV (sgV tx (ld0 tx (up v 6 0)) sc (σ 0)), σ, pa, rf) : SR)).2.1))) ∧ w' (mo + 1) = some (aZ X 1317 ((runL (okR s2) (stR s2) L0 0 ((enV (sgV tx (ld0 tx (up v 6 0)) sc (σ 0)), σ, pa, rf) : SR)).2.2.1)) ∧ w' (mo + 3) = some (aZ X 10536 ((runL (okR s2) (stR s2) L0 0 ((enV (sgV tx (ld0 tx (up v 6 0)) sc (σ 0)), σ, pa, rf) : SR)).2.2.2.1)) ∧ w' (mo + 6) = some (aZ X 8 ((runL (okR s2) (stR s2) L0 0 ((enV (sgV tx (ld0 tx (up v 6 0)) sc (σ 0)), σ, pa, rf) : SR)).2.2.2.2)) ∧ w' (mo + 9) = some (aZ X 240 s2) ∧ (∃ f1 f2 f3, w' (mo + 8) = some (aZ X 7 f1) ∧ w' (mo + 10) = some (aZ X 3 f2) ∧ w' (mo + 11) = some (aZ X 3 f3)) ∧ ∀ q : Nat, q ≠ mo → q ≠ mo + 1 → q ≠ mo + 3 → q ≠ mo + 6 → q ≠ mo + 8 → q ≠ mo + 10 → q ≠ mo + 11 → q ≠ mo + 9 → w' q = w q) := by
  refine CM.of (lv := [(0, .ref mo)]) (by decide) (Nat.le_of_ble_eq_true rfl) rfl (fun p e s m below meth c ls F hr hlk hin hW hS hl => ?_)
  have hZ0 := hW.2.2
  have hB9 := hW.1.2
  clear hin
  have hp0 := ld0_P (v := up v 6 0) hun hfb rfl
  have hsV : vP tx (sgV tx (ld0 tx (up v 6 0)) sc (σ 0)) := sgV_P hp0
  have h181 := hsV.2
  have hw0 := hwf.1
  unfold WF0 at hw0
  have h15 : (sgV tx (ld0 tx (up v 6 0)) sc (σ 0)) 5 = v 5 := (sgV_n hp0 (by omega) (by decide)).trans (go_n (by decide))
  have h16 : (sgV tx (ld0 tx (up v 6 0)) sc (σ 0)) 6 = 0 := (sgV_n hp0 (by omega) (by decide)).trans ((go_n (by decide)).trans rfl)
  refine lv_aload_n F.1 F.2.1 dX9_play_0 rfl (lv_at hl 0 rfl) ?_
  refine h_iconst F dX9_play_1 ?_
  refine pf_RX9_58 F hW hS hM (Nat.le_of_ble_eq_true rfl) dX9_play_2 (fun w1 H locs ho3 hn2 hW hS => ?_)
  rw [mL_6] at ho3
  have htx := (hn2 _ (by omega)).trans htx
  have hs := (hn2 _ (by omega)).trans hs
  have hsc := (hn2 _ (by omega)).trans hsc
  have hpa := (hn2 _ (by omega)).trans hpa
  have hrf := (hn2 _ (by omega)).trans hrf
  have htk := (hn2 _ (by omega)).trans htk
  have hbe := (hn2 _ (by omega)).trans hbe
  have hla := (hn2 _ (by omega)).trans hla
  refine lv_aload_n F.1 F.2.1 dX9_play_5 rfl (lv_at hl 0 rfl) ?_
  refine cl_RX9_366 (As := []) (rest := []) F hl (c_X9_startsText l X w1 mo (up v 6 0) tx ho3 htx hun hfb) hW hS ho3 rfl rfl ⟨Nat.le_of_ble_eq_true rfl, Nat.le_of_ble_eq_true rfl⟩ (Nat.le_of_ble_eq_true rfl) ⟨Nat.zero_le _, Nat.zero_le _⟩ dX9_play_6 (fun w4 H locs hp5 hW hS => ?_)
  obtain ⟨ho6, hn7⟩ := hp5
  have htx := (hn7 _ (by omega)).trans htx
  have hs := (hn7 _ (by omega)).trans hs
  have hsc := (hn7 _ (by omega)).trans hsc
  have hpa := (hn7 _ (by omega)).trans hpa
  have hrf := (hn7 _ (by omega)).trans hrf
  have htk := (hn7 _ (by omega)).trans htk
  have hbe := (hn7 _ (by omega)).trans hbe
  have hla := (hn7 _ (by omega)).trans hla
  have hX8 : w4 mo = some (.inr (9, mL mo (ld0 tx (up v 6 0)))) := ho6
  refine lv_aload_n F.1 F.2.1 dX9_play_9 rfl (lv_at hl 0 rfl) ?_
  refine cl_RX9_410 (As := []) (rest := []) F hl (c_X9_readsScript l X w4 mo (ld0 tx (up v 6 0)) tx σ sc hX8 htx hs hwf hp0 hsc) hW hS hX8 rfl rfl ⟨Nat.le_of_ble_eq_true rfl, Nat.le_of_ble_eq_true rfl⟩ (Nat.le_of_ble_eq_true rfl) ⟨Nat.zero_le _, Nat.zero_le _⟩ dX9_play_10 (fun w9 H locs hp10 hW hS => ?_)
  obtain ⟨ho11, ha12, hn13⟩ := hp10
  have htx := (hn13 _ (by omega) (by omega)).trans htx
  have hs := (hn13 _ (by omega) (by omega)).trans hs
  have hpa := (hn13 _ (by omega) (by omega)).trans hpa
  have hrf := (hn13 _ (by omega) (by omega)).trans hrf
  have htk := (hn13 _ (by omega) (by omega)).trans htk
  have hbe := (hn13 _ (by omega) (by omega)).trans hbe
  have hla := (hn13 _ (by omega) (by omega)).trans hla
  refine lv_aload_n F.1 F.2.1 dX9_play_13 rfl (lv_at hl 0 rfl) ?_
  refine cl_RX9_372 (As := []) (rest := []) F hl (c_X9_endsText l X w9 mo (sgV tx (ld0 tx (up v 6 0)) sc (σ 0)) ho11 h181) hW hS ho11 rfl rfl ⟨Nat.le_of_ble_eq_true rfl, Nat.le_of_ble_eq_true rfl⟩ (Nat.le_of_ble_eq_true rfl) ⟨Nat.zero_le _, Nat.zero_le _⟩ dX9_play_14 (fun w14 H locs hp15 hW hS => ?_)
  obtain ⟨ho16, hn17⟩ := hp15
  have htx := (hn17 _ (by omega)).trans htx
  have hs := (hn17 _ (by omega)).trans hs
  have ha12 := (hn17 _ (by omega)).trans ha12
  have hpa := (hn17 _ (by omega)).trans hpa
  have hrf := (hn17 _ (by omega)).trans hrf
  have htk := (hn17 _ (by omega)).trans htk
  have hbe := (hn17 _ (by omega)).trans hbe
  have hla := (hn17 _ (by omega)).trans hla
  refine h_top (show (bz (decide ((sgV tx (ld0 tx (up v 6 0)) sc (σ 0)) 18 = 0)) : Int) = bz true from congrArg bz (decide_eq_true hq)) ?_
  refine h_ifneb (tgt := 22) F dX9_play_17 (by decide) (fun _ => ?_) (fun c9 => absurd c9 (by decide))
  have hX19 : w14 mo = some (.inr (9, mL mo (enV (sgV tx (ld0 tx (up v 6 0)) sc (σ 0))))) := ho16
  have hX20 : w14 (mo + 9) = some (aZ X 240 s2) := by rw [show (s2 : Int → Int) = ((sgF tx (ld0 tx (up v 6 0)) sc (σ 0)).2) from hs2]; exact ha12
  refine h_iconst F dX9_play_22 ?_
  refine lv_istore_n (lv' := [(1, .int (iI 0)), (0, .ref mo)]) F.1 F.2.1 dX9_play_23 rfl hl (by decide) rfl (fun ls hl => ?_)
  refine h_iconst F dX9_play_24 ?_
  refine lv_istore_n (lv' := [(2, .int (iI 0)), (1, .int (iI 0)), (0, .ref mo)]) F.1 F.2.1 dX9_play_25 rfl hl (by decide) rfl (fun ls hl => ?_)
  refine h_iconst F dX9_play_26 ?_
  refine lv_istore_n (lv' := [(3, .int (iI 0)), (2, .int (iI 0)), (1, .int (iI 0)), (0, .ref mo)]) F.1 F.2.1 dX9_play_27 rfl hl (by decide) rfl (fun ls hl => ?_)
  have loop28 : ∀ (n9 : Nat) (R9 : Nat) (ii dn dp : Int) (be9 la9 v9 σ9 pa9 rf9 : Int → Int) (L9 : List Int), (hrg : True) → (hms : ((R9 : Nat) : Int) < (n9 : Int)) → (wz9 : Wo) → (hO28_0 : wz9 mo = some (.inr (9, mL mo v9))) → (hA28_0 : wz9 (mo + 1) = some (aZ X 1317 σ9)) → (hA28_1 : wz9 (mo + 3) = some (aZ X 10536 pa9)) → (hA28_2 : wz9 (mo + 6) = some (aZ X 8 rf9)) → (hA28_3 : wz9 (mo + 10) = some (aZ X 3 be9)) → (hA28_4 : wz9 (mo + 11) = some (aZ X 3 la9)) → (hF28 : ∀ q : Nat, q ≠ mo → q ≠ mo + 1 → q ≠ mo + 3 → q ≠ mo + 6 → q ≠ mo + 8 → q ≠ mo + 10 → q ≠ mo + 11 → wz9 q = w14 q) → (hRm : Rem s2 ln (σ 0) R9 ii dp be9 la9 L9) → (hw9 : WF σ9) → (h09 : σ9 0 = σ 0) → (h59 : 0 ≤ v9 5 ∧ v9 5 ≤ 8) → (h69 : v9 6 = 0) → (h279 : v9 27 = ln) → (hdn : 0 ≤ dn ∧ dn ≤ 200) → (hG : runL (okR s2) (stR s2) L9 dn ((v9, σ9, pa9, rf9) : SR) = (runL (okR s2) (stR s2) L0 0 ((enV (sgV tx (ld0 tx (up v 6 0)) sc (σ 0)), σ, pa, rf) : SR))) → (htk9 : ∃ tk9, wz9 (mo + 8) = some (aZ X 7 tk9)) → (hii : 0 ≤ ii ∧ ii ≤ 60) → (H : Heap) → (locs : List Loc) → (ls : Array Slot) → Wd X wz9 s H → va_S (cxA X) s.heap H locs → lv_has ls 6 [(1, .int (iI dn)), (2, .int (iI dp)), (3, .int (iI ii)), (0, .ref mo)] → W p l e (rmk 8 222) s m (List.toArray [.ref mo]) below meth c H locs 0 0 (MX X below (List.toArray [.ref mo]) s 0 0 (some (.int (iI ((runL (okR s2) (stR s2) L0 0 ((enV (sgV tx (ld0 tx (up v 6 0)) sc (σ 0)), σ, pa, rf) : SR)).1)))) (fun w' => w' mo = some (.inr (9, mL mo ((runL (okR s2) (stR s2) L0 0 ((enV (sgV tx (ld0 tx (up v 6 0)) sc (σ 0)), σ, pa, rf) : SR)).2.1))) ∧ w' (mo + 1) = some (aZ X 1317 ((runL (okR s2) (stR s2) L0 0 ((enV (sgV tx (ld0 tx (up v 6 0)) sc (σ 0)), σ, pa, rf) : SR)).2.2.1)) ∧ w' (mo + 3) = some (aZ X 10536 ((runL (okR s2) (stR s2) L0 0 ((enV (sgV tx (ld0 tx (up v 6 0)) sc (σ 0)), σ, pa, rf) : SR)).2.2.2.1)) ∧ w' (mo + 6) = some (aZ X 8 ((runL (okR s2) (stR s2) L0 0 ((enV (sgV tx (ld0 tx (up v 6 0)) sc (σ 0)), σ, pa, rf) : SR)).2.2.2.2)) ∧ w' (mo + 9) = some (aZ X 240 s2) ∧ (∃ f1 f2 f3, w' (mo + 8) = some (aZ X 7 f1) ∧ w' (mo + 10) = some (aZ X 3 f2) ∧ w' (mo + 11) = some (aZ X 3 f3)) ∧ ∀ q : Nat, q ≠ mo → q ≠ mo + 1 → q ≠ mo + 3 → q ≠ mo + 6 → q ≠ mo + 8 → q ≠ mo + 10 → q ≠ mo + 11 → q ≠ mo + 9 → w' q = w q)) (F0 m 28 ls []) := by
    intro n9
    induction n9 with
    | zero => intro  R9  ii dn dp  be9 la9 v9 σ9 pa9 rf9  L9  hrg hms; exfalso; omega
    | succ n9 ih28 =>
      intro  R9  ii dn dp  be9 la9 v9 σ9 pa9 rf9  L9  hrg hms wz9 hO28_0 hA28_0 hA28_1 hA28_2 hA28_3 hA28_4 hF28 hRm hw9 h09 h59 h69 h279 hdn hG htk9 hii H locs ls hW hS hl
      have htx := (hF28 _ (by omega) (by omega) (by omega) (by omega) (by omega) (by omega) (by omega)).trans htx
      have hX20 := (hF28 _ (by omega) (by omega) (by omega) (by omega) (by omega) (by omega) (by omega)).trans hX20
      obtain ⟨tk9, htk8⟩ := htk9
      refine lv_iload_n F.1 F.2.1 dX9_play_28 rfl (lv_at hl 2 rfl) ?_
      refine lv_aload_n F.1 F.2.1 dX9_play_29 rfl (lv_at hl 3 rfl) ?_
      refine gf_RX9_387 F hW hO28_0 rfl dX9_play_30 ?_
      refine h_top (show (v9 27 : Int) = ln from h279) ?_
      refine h_icge (tgt := 187) F dX9_play_33 (by decide) (by omega) (fun c21 => ?_) (fun c21 => ?_)
      · have hL9 : L9 = [] := rem_e hRm (by omega)
        rw [hL9] at hG
        have hG2 : ((dn, ((v9, σ9, pa9, rf9) : SR)) : Int × SR) = _ := hG
        refine lv_iload_n F.1 F.2.1 dX9_play_187 rfl (lv_at hl 0 rfl) ?_
        refine h_top (show (dn : Int) = (runL (okR s2) (stR s2) L0 0 ((enV (sgV tx (ld0 tx (up v 6 0)) sc (σ 0)), σ, pa, rf) : SR)).1 from by rw [← hG2]) ?_
        exact h_ireti F hr hlk hW hS ⟨(by (rw [hO28_0]) <;> ((rw [← hG2]) <;> rfl)), (by (rw [hA28_0]) <;> ((rw [← hG2]) <;> rfl)), (by (rw [hA28_1]) <;> ((rw [← hG2]) <;> rfl)), (by (rw [hA28_2]) <;> ((rw [← hG2]) <;> rfl)), hX20, ⟨_, _, _, htk8, hA28_3, hA28_4⟩, (fun q h09 h19 h29 h39 h49 h59 h69 h79 => by rw [hF28 q (by omega) (by omega) (by omega) (by omega) (by omega) (by omega) (by omega), hn17 q (by omega), hn13 q (by omega) (by omega), hn7 q (by omega), hn2 q (by omega)])⟩ dX9_play_188
      · refine lv_iload_n F.1 F.2.1 dX9_play_36 rfl (lv_at hl 0 rfl) ?_
        refine h_sipush F dX9_play_37 rfl ?_
        refine h_icge (tgt := 187) F dX9_play_40 (by decide) (by omega) (fun c22 => ?_) (fun c22 => ?_)
        · have hG2 := (runL_e (ok := okR s2) (st := stR s2) (s := ((v9, σ9, pa9, rf9) : SR)) (by omega) L9).symm.trans hG
          refine lv_iload_n F.1 F.2.1 dX9_play_187 rfl (lv_at hl 0 rfl) ?_
          refine h_top (show (dn : Int) = (runL (okR s2) (stR s2) L0 0 ((enV (sgV tx (ld0 tx (up v 6 0)) sc (σ 0)), σ, pa, rf) : SR)).1 from by rw [← hG2]) ?_
          exact h_ireti F hr hlk hW hS ⟨(by (rw [hO28_0]) <;> ((rw [← hG2]) <;> rfl)), (by (rw [hA28_0]) <;> ((rw [← hG2]) <;> rfl)), (by (rw [hA28_1]) <;> ((rw [← hG2]) <;> rfl)), (by (rw [hA28_2]) <;> ((rw [← hG2]) <;> rfl)), hX20, ⟨_, _, _, htk8, hA28_3, hA28_4⟩, (fun q h09 h19 h29 h39 h49 h59 h69 h79 => by rw [hF28 q (by omega) (by omega) (by omega) (by omega) (by omega) (by omega) (by omega), hn17 q (by omega), hn13 q (by omega) (by omega), hn7 q (by omega), hn2 q (by omega)])⟩ dX9_play_188
        · obtain ⟨r8, hR8, hi9, hcs⟩ := rem_p hRm (by omega)
          refine lv_aload_n F.1 F.2.1 dX9_play_43 rfl (lv_at hl 3 rfl) ?_
          refine gf_RX9_42 F hW hO28_0 rfl dX9_play_44 ?_
          refine h_iconst F dX9_play_47 ?_
          refine lv_iload_n F.1 F.2.1 dX9_play_48 rfl (lv_at hl 2 rfl) ?_
          refine h_imul (a := 4) (b := ii) F dX9_play_49 ?_
          refine h_iald F hW hX20 (by omega) (by omega) dX9_play_50 ?_
          refine lv_istore (lv' := [(4, .int (iI (s2 (4 * ii)))), (1, .int (iI dn)), (2, .int (iI dp)), (3, .int (iI ii)), (0, .ref mo)]) F.1 F.2.1 dX9_play_51 hl (by decide) rfl (fun ls hl => ?_)
          refine lv_iload F.1 F.2.1 dX9_play_53 (lv_at hl 0 rfl) ?_
          refine h_iconst F dX9_play_55 ?_
          have hkr := rem_k hcs
          refine h_icne (tgt := 91) F dX9_play_56 (by decide) (by omega) (fun c23 => ?_) (fun c23 => ?_)
          · refine lv_iload F.1 F.2.1 dX9_play_91 (lv_at hl 0 rfl) ?_
            refine h_bipush F dX9_play_93 rfl ?_
            refine h_icne (tgt := 166) F dX9_play_95 (by decide) (by omega) (fun c24 => ?_) (fun c24 => ?_)
            · obtain ⟨hP9, L8, hL9, hRn⟩ := or_3 hcs (fun z => by have := z.1; omega) (fun z => by have := z.1; omega)
              have hin : 0 ≤ ii + 1 ∧ ii + 1 ≤ 60 := by omega
              have hOK := okP_A hP9 h09
              obtain ⟨hwn, h0n9⟩ := dS_W hw9 hOK
              have h0n := h0n9.trans h09
              have h5n := dV_5 (σ := σ9) (k := s2 (4 * ii)) (a := s2 (4 * ii + 1)) (b := s2 (4 * ii + 2)) (c := s2 (4 * ii + 3)) h59
              have h6n := (dV_n (σ := σ9) (k := s2 (4 * ii)) (a := s2 (4 * ii + 1)) (b := s2 (4 * ii + 2)) (c := s2 (4 * ii + 3)) (v := v9) (p := 6) (by decide)).trans h69
              have h27n := (dV_n (σ := σ9) (k := s2 (4 * ii)) (a := s2 (4 * ii + 1)) (b := s2 (4 * ii + 2)) (c := s2 (4 * ii + 3)) (v := v9) (p := 27) (by decide)).trans h279
              rw [hL9] at hG
              refine lv_aload_n F.1 F.2.1 dX9_play_166 rfl (lv_at hl 4 rfl) ?_
              refine h_iconst F dX9_play_167 ?_
              refine lv_iload_n F.1 F.2.1 dX9_play_168 rfl (lv_at hl 3 rfl) ?_
              refine h_imul (a := 4) (b := ii) F dX9_play_169 ?_
              refine cl_RX9_413 (As := [.int (iI (4 * ii))]) (rest := []) F hl (c_does l X wz9 mo v9 σ9 pa9 rf9 tk9 s2 (4 * ii) hO28_0 hA28_0 hw9 hA28_1 h59 hA28_2 htk8 hX20 (by omega) h69 hOK) hW hS hO28_0 rfl rfl ⟨Nat.le_of_ble_eq_true rfl, Nat.le_of_ble_eq_true rfl⟩ (Nat.le_of_ble_eq_true rfl) ⟨Nat.zero_le _, Nat.zero_le _⟩ dX9_play_170 (fun w25 H locs hp26 hW hS => ?_)
              obtain ⟨ho27, ha28, ha29, ha30, htn, hn31⟩ := hp26
              have htx := (hn31 _ (by omega) (by omega) (by omega) (by omega) (by omega)).trans htx
              have hX20 := (hn31 _ (by omega) (by omega) (by omega) (by omega) (by omega)).trans hX20
              have hA28_3 := (hn31 _ (by omega) (by omega) (by omega) (by omega) (by omega)).trans hA28_3
              have hA28_4 := (hn31 _ (by omega) (by omega) (by omega) (by omega) (by omega)).trans hA28_4
              obtain ⟨tk8, htk7⟩ := htn
              have hor := atO_r hw9 hOK
              refine h_ifge (tgt := 178) F dX9_play_173 (by decide) (by omega) (fun c32 => ?_) (fun c32 => ?_)
              · have hGn := (runL_s (ok := okR s2) (st := stR s2) (p := ii) (L := L8) (n := dn) (s := ((v9, σ9, pa9, rf9) : SR)) (by omega) (decide_eq_true (by show 0 ≤ atO σ9 (s2 (4 * ii)) (s2 (4 * ii + 1)) (s2 (4 * ii + 2)) (s2 (4 * ii + 3)); omega))).symm.trans hG
                refine h_iinc (k := 1) (a := dn) (lv' := [(1, .int (iI (dn + 1))), (4, .int (iI (s2 (4 * ii)))), (2, .int (iI dp)), (3, .int (iI ii)), (0, .ref mo)]) F dX9_play_178 hl rfl (by decide) rfl (fun ls hl => ?_)
                refine h_iinc (k := 3) (a := ii) (lv' := [(3, .int (iI (ii + 1))), (1, .int (iI (dn + 1))), (4, .int (iI (s2 (4 * ii)))), (2, .int (iI dp)), (0, .ref mo)]) F dX9_play_181 hl rfl (by decide) rfl (fun ls hl => ?_)
                refine h_goto (tgt := 28) F dX9_play_184 (by decide) ?_
                have eq33 : ((dn + 1) : Int) = dn + 1 := by first | rfl | omega | simp
                have eq34 : ((ii + 1) : Int) = ii + 1 := by first | rfl | omega | simp
                exact ih28  r8 (ii + 1) (dn + 1) dp be9 la9 (dV v9 σ9 (s2 (4 * ii)) (s2 (4 * ii + 1)) (s2 (4 * ii + 2)) (s2 (4 * ii + 3))) (dS σ9 (s2 (4 * ii)) (s2 (4 * ii + 1)) (s2 (4 * ii + 2)) (s2 (4 * ii + 3))) (dP (v9 5) pa9 σ9 (s2 (4 * ii)) (s2 (4 * ii + 1)) (s2 (4 * ii + 2)) (s2 (4 * ii + 3))) (dF rf9 σ9 (s2 (4 * ii)) (s2 (4 * ii + 1)) (s2 (4 * ii + 2)) (s2 (4 * ii + 3))) L8 trivial (by omega) w25 (by rw [show ((dV v9 σ9 (s2 (4 * ii)) (s2 (4 * ii + 1)) (s2 (4 * ii + 2)) (s2 (4 * ii + 3))) : Int → Int) = dV v9 σ9 (s2 (4 * ii)) (s2 ((4 * ii) + 1)) (s2 ((4 * ii) + 2)) (s2 ((4 * ii) + 3)) from rfl]; exact ho27) (by rw [show ((dS σ9 (s2 (4 * ii)) (s2 (4 * ii + 1)) (s2 (4 * ii + 2)) (s2 (4 * ii + 3))) : Int → Int) = dS σ9 (s2 (4 * ii)) (s2 ((4 * ii) + 1)) (s2 ((4 * ii) + 2)) (s2 ((4 * ii) + 3)) from rfl]; exact ha28) (by rw [show ((dP (v9 5) pa9 σ9 (s2 (4 * ii)) (s2 (4 * ii + 1)) (s2 (4 * ii + 2)) (s2 (4 * ii + 3))) : Int → Int) = dP (v9 5) pa9 σ9 (s2 (4 * ii)) (s2 ((4 * ii) + 1)) (s2 ((4 * ii) + 2)) (s2 ((4 * ii) + 3)) from rfl]; exact ha29) (by rw [show ((dF rf9 σ9 (s2 (4 * ii)) (s2 (4 * ii + 1)) (s2 (4 * ii + 2)) (s2 (4 * ii + 3))) : Int → Int) = dF rf9 σ9 (s2 (4 * ii)) (s2 ((4 * ii) + 1)) (s2 ((4 * ii) + 2)) (s2 ((4 * ii) + 3)) from rfl]; exact ha30) hA28_3 hA28_4 (fun q h09 h19 h29 h39 h49 h59 h69 => by rw [hn31 q (by omega) (by omega) (by omega) (by omega) (by omega), hF28 q (by omega) (by omega) (by omega) (by omega) (by omega) (by omega) (by omega)]) hRn hwn h0n h5n h6n h27n (by omega) hGn (⟨_, htk7⟩) hin _ _ ls hW hS (by rw [eq33, eq34]; exact lv_sub hl [1, 3, 0, 4] rfl)
              · have hG2 := (runL_f (ok := okR s2) (st := stR s2) (p := ii) (L := L8) (n := dn) (s := ((v9, σ9, pa9, rf9) : SR)) (by omega) (decide_eq_false (by show ¬ (0 ≤ atO σ9 (s2 (4 * ii)) (s2 (4 * ii + 1)) (s2 (4 * ii + 2)) (s2 (4 * ii + 3))); omega))).symm.trans hG
                refine lv_iload_n F.1 F.2.1 dX9_play_176 rfl (lv_at hl 1 rfl) ?_
                refine h_top (show (dn : Int) = (runL (okR s2) (stR s2) L0 0 ((enV (sgV tx (ld0 tx (up v 6 0)) sc (σ 0)), σ, pa, rf) : SR)).1 from by rw [← hG2]) ?_
                exact h_ireti F hr hlk hW hS ⟨(by (rw [ho27]) <;> ((rw [← hG2]) <;> rfl)), (by (rw [ha28]) <;> ((rw [← hG2]) <;> rfl)), (by (rw [ha29]) <;> ((rw [← hG2]) <;> rfl)), (by (rw [ha30]) <;> ((rw [← hG2]) <;> rfl)), hX20, ⟨_, _, _, htk7, hA28_3, hA28_4⟩, (fun q h09 h19 h29 h39 h49 h59 h69 h79 => by rw [hn31 q (by omega) (by omega) (by omega) (by omega) (by omega), hF28 q (by omega) (by omega) (by omega) (by omega) (by omega) (by omega) (by omega), hn17 q (by omega), hn13 q (by omega) (by omega), hn7 q (by omega), hn2 q (by omega)])⟩ dX9_play_177
            · obtain ⟨hk9, hd9, ht9, hb9, hRy, hRz⟩ := or_2 hcs (fun z => by have := z.1; omega) (fun z => by have := okP_k z.1; omega)
              have hwn := hw9
              have h0n := h09
              have h5n := h59
              have h6n := h69
              have h27n := h279
              have hGn := hG
              refine lv_aload_n F.1 F.2.1 dX9_play_98 rfl (lv_at hl 4 rfl) ?_
              refine gf_RX9_48 F hW hO28_0 rfl dX9_play_99 ?_
              refine lv_iload_n F.1 F.2.1 dX9_play_102 rfl (lv_at hl 2 rfl) ?_
              refine h_iconst F dX9_play_103 ?_
              refine h_isub (a := dp) (b := 1) F dX9_play_104 ?_
              refine lv_dup2_11 F.1 F.2.1 dX9_play_105 rfl rfl ?_
              refine h_iald F hW hA28_4 (by omega) (by omega) dX9_play_106 ?_
              refine h_iconst F dX9_play_107 ?_
              refine h_isub (a := la9 (dp - 1)) (b := 1) F dX9_play_108 ?_
              refine h_iast F hW hS hA28_4 (by omega) (by omega) dX9_play_109 (fun w35 H locs ho37 hn36 hW hS => ?_)
              have hO28_0 := (hn36 _ (by omega)).trans hO28_0
              have htx := (hn36 _ (by omega)).trans htx
              have hA28_0 := (hn36 _ (by omega)).trans hA28_0
              have hX20 := (hn36 _ (by omega)).trans hX20
              have hA28_1 := (hn36 _ (by omega)).trans hA28_1
              have hA28_2 := (hn36 _ (by omega)).trans hA28_2
              have hA28_3 := (hn36 _ (by omega)).trans hA28_3
              have htk8 := (hn36 _ (by omega)).trans htk8
              refine lv_aload_n F.1 F.2.1 dX9_play_110 rfl (lv_at hl 4 rfl) ?_
              refine gf_RX9_48 F hW hO28_0 rfl dX9_play_111 ?_
              refine lv_iload_n F.1 F.2.1 dX9_play_114 rfl (lv_at hl 2 rfl) ?_
              refine h_iconst F dX9_play_115 ?_
              refine h_isub (a := dp) (b := 1) F dX9_play_116 ?_
              refine h_iald F hW ho37 (by omega) (by omega) dX9_play_117 ?_
              refine h_top (show ((up la9 (dp - 1) ((la9 (dp - 1)) - 1)) (dp - 1) : Int) = la9 (dp - 1) - 1 from up_s _ _ _) ?_
              refine h_ifle (tgt := 125) F dX9_play_118 (by decide) (by omega) (fun c38 => ?_) (fun c38 => ?_)
              · have hRn := hRz (by omega)
                have hin : 0 ≤ ii + 1 ∧ ii + 1 ≤ 60 := by omega
                refine h_iconst F dX9_play_125 ?_
                refine lv_istore (lv' := [(5, .int (iI 0)), (4, .int (iI (s2 (4 * ii)))), (1, .int (iI dn)), (2, .int (iI dp)), (3, .int (iI ii)), (0, .ref mo)]) F.1 F.2.1 dX9_play_126 hl (by decide) rfl (fun ls hl => ?_)
                refine lv_iload F.1 F.2.1 dX9_play_128 (lv_at hl 0 rfl) ?_
                refine h_ifeq (tgt := 146) F dX9_play_130 (by decide) (by decide) (fun _ => ?_) (fun c9 => absurd c9 (by decide))
                refine lv_iload_n F.1 F.2.1 dX9_play_146 rfl (lv_at hl 4 rfl) ?_
                refine h_iconst F dX9_play_147 ?_
                refine h_iadd (a := ii) (b := 1) F dX9_play_148 ?_
                refine lv_istore_n (lv' := [(3, .int (iI (ii + 1))), (5, .int (iI 0)), (4, .int (iI (s2 (4 * ii)))), (1, .int (iI dn)), (2, .int (iI dp)), (0, .ref mo)]) F.1 F.2.1 dX9_play_149 rfl hl (by decide) rfl (fun ls hl => ?_)
                refine lv_iload_n F.1 F.2.1 dX9_play_150 rfl (lv_at hl 4 rfl) ?_
                refine lv_iload F.1 F.2.1 dX9_play_151 (lv_at hl 1 rfl) ?_
                refine h_ifeq (tgt := 160) F dX9_play_153 (by decide) (by decide) (fun _ => ?_) (fun c9 => absurd c9 (by decide))
                refine h_iconst F dX9_play_160 ?_
                refine h_isub (a := dp) (b := 1) F dX9_play_161 ?_
                refine lv_istore_n (lv' := [(2, .int (iI (dp - 1))), (3, .int (iI (ii + 1))), (5, .int (iI 0)), (4, .int (iI (s2 (4 * ii)))), (1, .int (iI dn)), (0, .ref mo)]) F.1 F.2.1 dX9_play_162 rfl hl (by decide) rfl (fun ls hl => ?_)
                refine h_goto (tgt := 184) F dX9_play_163 (by decide) ?_
                refine h_goto (tgt := 28) F dX9_play_184 (by decide) ?_
                have eq41 : ((dp - 1) : Int) = dp - 1 := by first | rfl | omega | simp
                have eq42 : ((ii + 1) : Int) = ii + 1 := by first | rfl | omega | simp
                exact ih28  r8 (ii + 1) dn (dp - 1) be9 (up la9 (dp - 1) (la9 (dp - 1) - 1)) v9 σ9 pa9 rf9 L9 trivial (by omega) w35 hO28_0 hA28_0 hA28_1 hA28_2 hA28_3 (by rw [show ((up la9 (dp - 1) (la9 (dp - 1) - 1)) : Int → Int) = up la9 (dp - 1) ((la9 (dp - 1)) - 1) from rfl]; exact ho37) (fun q h09 h19 h29 h39 h49 h59 h69 => by rw [hn36 q (by omega), hF28 q (by omega) (by omega) (by omega) (by omega) (by omega) (by omega) (by omega)]) hRn hwn h0n h5n h6n h27n (by omega) hGn (⟨_, htk8⟩) hin _ _ ls hW hS (by rw [eq41, eq42]; exact lv_sub hl [4, 0, 1, 5] rfl)
              · have hRn := hRy (by omega)
                have hin : 0 ≤ be9 (dp - 1) + 1 ∧ be9 (dp - 1) + 1 ≤ 60 := by omega
                refine h_iconst F dX9_play_121 ?_
                refine h_goto (tgt := 126) F dX9_play_122 (by decide) ?_
                refine lv_istore (lv' := [(5, .int (iI 1)), (4, .int (iI (s2 (4 * ii)))), (1, .int (iI dn)), (2, .int (iI dp)), (3, .int (iI ii)), (0, .ref mo)]) F.1 F.2.1 dX9_play_126 hl (by decide) rfl (fun ls hl => ?_)
                refine lv_iload F.1 F.2.1 dX9_play_128 (lv_at hl 0 rfl) ?_
                refine h_ifeq (tgt := 146) F dX9_play_130 (by decide) (by decide) (fun c9 => absurd c9 (by decide)) (fun _ => ?_)
                refine lv_aload_n F.1 F.2.1 dX9_play_133 rfl (lv_at hl 5 rfl) ?_
                refine gf_RX9_45 F hW hO28_0 rfl dX9_play_134 ?_
                refine lv_iload_n F.1 F.2.1 dX9_play_137 rfl (lv_at hl 3 rfl) ?_
                refine h_iconst F dX9_play_138 ?_
                refine h_isub (a := dp) (b := 1) F dX9_play_139 ?_
                refine h_iald F hW hA28_3 (by omega) (by omega) dX9_play_140 ?_
                refine h_iconst F dX9_play_141 ?_
                refine h_iadd (a := be9 (dp - 1)) (b := 1) F dX9_play_142 ?_
                refine h_goto (tgt := 149) F dX9_play_143 (by decide) ?_
                refine lv_istore_n (lv' := [(3, .int (iI ((be9 (dp - 1)) + 1))), (5, .int (iI 1)), (4, .int (iI (s2 (4 * ii)))), (1, .int (iI dn)), (2, .int (iI dp)), (0, .ref mo)]) F.1 F.2.1 dX9_play_149 rfl hl (by decide) rfl (fun ls hl => ?_)
                refine lv_iload_n F.1 F.2.1 dX9_play_150 rfl (lv_at hl 4 rfl) ?_
                refine lv_iload F.1 F.2.1 dX9_play_151 (lv_at hl 1 rfl) ?_
                refine h_ifeq (tgt := 160) F dX9_play_153 (by decide) (by decide) (fun c9 => absurd c9 (by decide)) (fun _ => ?_)
                refine h_iconst F dX9_play_156 ?_
                refine h_goto (tgt := 161) F dX9_play_157 (by decide) ?_
                refine h_isub (a := dp) (b := 0) F dX9_play_161 ?_
                refine h_top (show (dp - 0 : Int) = dp from by omega) ?_
                refine lv_istore_n (lv' := [(2, .int (iI dp)), (3, .int (iI ((be9 (dp - 1)) + 1))), (5, .int (iI 1)), (4, .int (iI (s2 (4 * ii)))), (1, .int (iI dn)), (0, .ref mo)]) F.1 F.2.1 dX9_play_162 rfl hl (by decide) rfl (fun ls hl => ?_)
                refine h_goto (tgt := 184) F dX9_play_163 (by decide) ?_
                refine h_goto (tgt := 28) F dX9_play_184 (by decide) ?_
                have eq45 : ((be9 (dp - 1) + 1) : Int) = (be9 (dp - 1)) + 1 := by first | rfl | omega | simp
                exact ih28  r8 (be9 (dp - 1) + 1) dn dp be9 (up la9 (dp - 1) (la9 (dp - 1) - 1)) v9 σ9 pa9 rf9 L9 trivial (by omega) w35 hO28_0 hA28_0 hA28_1 hA28_2 hA28_3 (by rw [show ((up la9 (dp - 1) (la9 (dp - 1) - 1)) : Int → Int) = up la9 (dp - 1) ((la9 (dp - 1)) - 1) from rfl]; exact ho37) (fun q h09 h19 h29 h39 h49 h59 h69 => by rw [hn36 q (by omega), hF28 q (by omega) (by omega) (by omega) (by omega) (by omega) (by omega) (by omega)]) hRn hwn h0n h5n h6n h27n (by omega) hGn (⟨_, htk8⟩) hin _ _ ls hW hS (by rw [eq45]; exact lv_sub hl [4, 0, 1, 5] rfl)
          · obtain ⟨hk9, hd9, ht9, hRn⟩ := or_1 hcs (fun z => by have := z.1; omega) (fun z => by have := okP_k z.1; omega)
            have hin : 0 ≤ ii + 1 ∧ ii + 1 ≤ 60 := by omega
            have hwn := hw9
            have h0n := h09
            have h5n := h59
            have h6n := h69
            have h27n := h279
            have hGn := hG
            refine lv_aload_n F.1 F.2.1 dX9_play_59 rfl (lv_at hl 4 rfl) ?_
            refine gf_RX9_45 F hW hO28_0 rfl dX9_play_60 ?_
            refine lv_iload_n F.1 F.2.1 dX9_play_63 rfl (lv_at hl 2 rfl) ?_
            refine lv_iload_n F.1 F.2.1 dX9_play_64 rfl (lv_at hl 3 rfl) ?_
            refine h_iast F hW hS hA28_3 (by omega) (by omega) dX9_play_65 (fun w46 H locs ho48 hn47 hW hS => ?_)
            have hO28_0 := (hn47 _ (by omega)).trans hO28_0
            have htx := (hn47 _ (by omega)).trans htx
            have hA28_0 := (hn47 _ (by omega)).trans hA28_0
            have hX20 := (hn47 _ (by omega)).trans hX20
            have hA28_1 := (hn47 _ (by omega)).trans hA28_1
            have hA28_2 := (hn47 _ (by omega)).trans hA28_2
            have hA28_4 := (hn47 _ (by omega)).trans hA28_4
            have htk8 := (hn47 _ (by omega)).trans htk8
            refine lv_aload_n F.1 F.2.1 dX9_play_66 rfl (lv_at hl 4 rfl) ?_
            refine gf_RX9_48 F hW hO28_0 rfl dX9_play_67 ?_
            refine lv_iload_n F.1 F.2.1 dX9_play_70 rfl (lv_at hl 2 rfl) ?_
            refine lv_aload_n F.1 F.2.1 dX9_play_71 rfl (lv_at hl 4 rfl) ?_
            refine gf_RX9_42 F hW hO28_0 rfl dX9_play_72 ?_
            refine h_iconst F dX9_play_75 ?_
            refine lv_iload_n F.1 F.2.1 dX9_play_76 rfl (lv_at hl 3 rfl) ?_
            refine h_imul (a := 4) (b := ii) F dX9_play_77 ?_
            refine h_iconst F dX9_play_78 ?_
            refine h_iadd (a := 4 * ii) (b := 1) F dX9_play_79 ?_
            refine h_iald F hW hX20 (by omega) (by omega) dX9_play_80 ?_
            refine h_iast F hW hS hA28_4 (by omega) (by omega) dX9_play_81 (fun w49 H locs ho51 hn50 hW hS => ?_)
            have hO28_0 := (hn50 _ (by omega)).trans hO28_0
            have htx := (hn50 _ (by omega)).trans htx
            have hA28_0 := (hn50 _ (by omega)).trans hA28_0
            have hX20 := (hn50 _ (by omega)).trans hX20
            have hA28_1 := (hn50 _ (by omega)).trans hA28_1
            have hA28_2 := (hn50 _ (by omega)).trans hA28_2
            have ho48 := (hn50 _ (by omega)).trans ho48
            have htk8 := (hn50 _ (by omega)).trans htk8
            refine h_iinc (k := 2) (a := dp) (lv' := [(2, .int (iI (dp + 1))), (4, .int (iI (s2 (4 * ii)))), (1, .int (iI dn)), (3, .int (iI ii)), (0, .ref mo)]) F dX9_play_82 hl rfl (by decide) rfl (fun ls hl => ?_)
            refine h_iinc (k := 3) (a := ii) (lv' := [(3, .int (iI (ii + 1))), (2, .int (iI (dp + 1))), (4, .int (iI (s2 (4 * ii)))), (1, .int (iI dn)), (0, .ref mo)]) F dX9_play_85 hl rfl (by decide) rfl (fun ls hl => ?_)
            refine h_goto (tgt := 184) F dX9_play_88 (by decide) ?_
            refine h_goto (tgt := 28) F dX9_play_184 (by decide) ?_
            have eq52 : ((dp + 1) : Int) = dp + 1 := by first | rfl | omega | simp
            have eq53 : ((ii + 1) : Int) = ii + 1 := by first | rfl | omega | simp
            exact ih28  r8 (ii + 1) dn (dp + 1) (up be9 dp ii) (up la9 dp (s2 (4 * ii + 1))) v9 σ9 pa9 rf9 L9 trivial (by omega) w49 hO28_0 hA28_0 hA28_1 hA28_2 ho48 (by rw [show ((up la9 dp (s2 (4 * ii + 1))) : Int → Int) = up la9 dp (s2 ((4 * ii) + 1)) from rfl]; exact ho51) (fun q h09 h19 h29 h39 h49 h59 h69 => by rw [hn50 q (by omega), hn47 q (by omega), hF28 q (by omega) (by omega) (by omega) (by omega) (by omega) (by omega) (by omega)]) hRn hwn h0n h5n h6n h27n (by omega) hGn (⟨_, htk8⟩) hin _ _ ls hW hS (by rw [eq52, eq53]; exact lv_sub hl [3, 1, 0, 4] rfl)
  exact loop28 (((R0 : Nat) : Int) + 1 : Int).toNat  R0 0 0 0 be la (enV (sgV tx (ld0 tx (up v 6 0)) sc (σ 0))) σ pa rf L0  trivial (by omega) w14 hX19 hs hpa hrf hbe hla (fun q _ _ _ _ _ _ _ => rfl) hRem hwf rfl (by (show 0 ≤ (sgV tx (ld0 tx (up v 6 0)) sc (σ 0)) 5 ∧ (sgV tx (ld0 tx (up v 6 0)) sc (σ 0)) 5 ≤ 8); omega) h16 hln.symm (by decide) rfl (⟨_, htk⟩) (by decide) _ _ ls hW hS (lv_sub hl [2, 1, 0, 3] rfl)
