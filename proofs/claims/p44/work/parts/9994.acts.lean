/-! ===== an act of a script, for both ===== -/
def atR (σ : Int → Int) (k a b c : Int) : Int := if k = 0 then (if σ 4 = σ 1 then 1 else if σ (6 + a) < c - b + 1 then 2 else 0) else if k = 1 then (if σ 4 = σ 1 then 1 else if σ 6 < σ 0 - opnS σ then 2 else 0) else if k = 2 then (if σ 1 < σ 4 + a then 3 else if enoS σ (decide (b = 1)) a = false then 2 else 0) else if k = 3 then (if σ 4 < a then 3 else 0) else 0
def atS (σ : Int → Int) (k a b c : Int) : Int → Int := if k = 0 then passN σ a b (c - b + 1).toNat else if k = 1 then btS σ else if k = 2 then weaveN σ (decide (b = 1)) a.toNat else if k = 3 then uqS σ (σ 4 - a) else up σ 3 (σ 4)
def atT (σ : Int → Int) (k a b c : Int) : Int := if k = 0 then σ (6 + a) - (c - b + 1) else if k = 1 then misRow (btS σ) (σ 4) else if k = 2 then misFrom (weaveN σ (decide (b = 1)) a.toNat) (σ 4) else if k = 3 then sm (wvnS σ (σ 4 - a)) 0 7 else misSeen (up σ 3 (σ 4)) - misSeen σ
def atM (σ : Int → Int) (k a b : Int) : Int := if k = 1 then mnS (beatN σ (σ 0).toNat) (σ 4) else if k = 2 then macN σ (decide (b = 1)) a.toNat else 0
def actOK (σ : Int → Int) (k a b c : Int) : Prop := (k = 0 ∧ (0 ≤ a ∧ a ≤ 6) ∧ (0 ≤ b ∧ b ≤ c ∧ c < σ 0)) ∨ k = 1 ∨ (k = 2 ∧ (1 ≤ a ∧ a ≤ 30) ∧ (b = 0 ∨ b = 1)) ∨ (k = 3 ∧ (0 ≤ a ∧ a ≤ 30)) ∨ k = 4
def atO (σ : Int → Int) (k a b c : Int) : Int := if atR σ k a b c = 0 then atT σ k a b c else -atR σ k a b c
def dS (σ : Int → Int) (k a b c : Int) : Int → Int := if atR σ k a b c = 0 then atS σ k a b c else σ
def dV (v σ : Int → Int) (k a b c : Int) : Int → Int := if atR σ k a b c = 0 then up (up (up v 5 (min 8 (v 5 + 1))) 8 (v 8 + 1)) 9 (v 9 + atM σ k a b) else v
def dP (n : Int) (pa σ : Int → Int) (k a b c : Int) : Int → Int := if atR σ k a b c = 0 then actP n pa σ else pa
def dF (rf σ : Int → Int) (k a b c : Int) : Int → Int := if atR σ k a b c = 0 then rf else up rf (atR σ k a b c) (rf (atR σ k a b c) + 1)
def dA (ac σ : Int → Int) (k a b c : Int) : Int → Int := if atR σ k a b c = 0 then up (up ac 0 (ac 0 + 1)) 8 (ac 8 + atM σ k a b) else up ac (atR σ k a b c) (ac (atR σ k a b c) + 1)
def dN (nx : Int) (σ : Int → Int) (k a b c : Int) : Int := if atR σ k a b c = 0 then (if nx = 8 then 0 else nx) + 1 else nx
def dZ (sz : Int) (σ : Int → Int) (k a b c : Int) : Int := if atR σ k a b c = 0 then min 8 (sz + 1) else sz
def dH (sz : Int) (pas : Int → Int → Int) (σ : Int → Int) (k a b c : Int) : Int → Int → Int := if atR σ k a b c = 0 then keepP sz pas σ else pas
theorem up_9 (v : Int → Int) (x y : Int) : up (up (up v 5 x) 8 y) 9 (v 9 + 0) = up (up v 5 x) 8 y := by
  rw [Int.add_zero]
  exact up_self (up (up v 5 x) 8 y) 9
theorem up_8 (v : Int → Int) (x : Int) : up (up v 0 x) 8 (v 8 + 0) = up v 0 x := by
  rw [Int.add_zero]
  exact up_self (up v 0 x) 8
theorem doR_ok {X : Cx} {w w2 : Wo} {mo : Nat} {v σ pa rf tk S2 V2 : Int → Int} {k a b c : Int} (hR : atR σ k a b c = 0) (hS : atS σ k a b c = S2) (hV : up (up (up v 5 (min 8 (v 5 + 1))) 8 (v 8 + 1)) 9 (v 9 + atM σ k a b) = V2) (hrf : w (mo + 6) = some (aZ X 8 rf)) (h1 : w2 mo = some (.inr (9, mL mo V2))) (h2 : w2 (mo + 1) = some (aZ X 1317 S2)) (h3 : w2 (mo + 3) = some (aZ X 10536 (actP (v 5) pa σ))) (h8 : ∃ tk9, w2 (mo + 8) = some (aZ X 7 tk9)) (hq : ∀ q : Nat, q ≠ mo → q ≠ mo + 1 → q ≠ mo + 3 → q ≠ mo + 8 → w2 q = w q) : w2 mo = some (.inr (9, mL mo (dV v σ k a b c))) ∧ w2 (mo + 1) = some (aZ X 1317 (dS σ k a b c)) ∧ w2 (mo + 3) = some (aZ X 10536 (dP (v 5) pa σ k a b c)) ∧ w2 (mo + 6) = some (aZ X 8 (dF rf σ k a b c)) ∧ (∃ tk9, w2 (mo + 8) = some (aZ X 7 tk9)) ∧ ∀ q : Nat, q ≠ mo → q ≠ mo + 1 → q ≠ mo + 3 → q ≠ mo + 6 → q ≠ mo + 8 → w2 q = w q := by
  unfold dV dS dP dF
  rw [if_pos hR, if_pos hR, if_pos hR, if_pos hR, hV, hS]
  exact ⟨h1, h2, h3, (hq _ (by omega) (by omega) (by omega) (by omega)).trans hrf, h8, fun q q1 q2 q3 _ q5 => hq q q1 q2 q3 q5⟩
theorem doR_no {X : Cx} {w w2 : Wo} {mo : Nat} {v σ pa rf tk : Int → Int} {k a b c r : Int} (hR : atR σ k a b c = r) (hr : r ≠ 0) (hM : w mo = some (.inr (9, mL mo v))) (hs : w (mo + 1) = some (aZ X 1317 σ)) (hpa : w (mo + 3) = some (aZ X 10536 pa)) (htk : w (mo + 8) = some (aZ X 7 tk)) (h0 : w2 mo = w mo) (h6 : w2 (mo + 6) = some (aZ X 8 (up rf r (rf r + 1)))) (hq : ∀ q : Nat, q ≠ mo → q ≠ mo + 6 → w2 q = w q) : w2 mo = some (.inr (9, mL mo (dV v σ k a b c))) ∧ w2 (mo + 1) = some (aZ X 1317 (dS σ k a b c)) ∧ w2 (mo + 3) = some (aZ X 10536 (dP (v 5) pa σ k a b c)) ∧ w2 (mo + 6) = some (aZ X 8 (dF rf σ k a b c)) ∧ (∃ tk9, w2 (mo + 8) = some (aZ X 7 tk9)) ∧ ∀ q : Nat, q ≠ mo → q ≠ mo + 1 → q ≠ mo + 3 → q ≠ mo + 6 → q ≠ mo + 8 → w2 q = w q := by
  have hz : ¬ (atR σ k a b c = 0) := by rw [hR]; exact hr
  unfold dV dS dP dF
  rw [if_neg hz, if_neg hz, if_neg hz, if_neg hz, hR]
  exact ⟨h0.trans hM, (hq _ (by omega) (by omega)).trans hs, (hq _ (by omega) (by omega)).trans hpa, h6, ⟨_, (hq _ (by omega) (by omega)).trans htk⟩, fun q q1 _ _ q4 _ => hq q q1 q4⟩
theorem atO_0 {σ : Int → Int} {k a b c : Int} (hR : atR σ k a b c = 0) : atO σ k a b c = atT σ k a b c := if_pos hR
theorem atO_n {σ : Int → Int} {k a b c r : Int} (hR : atR σ k a b c = r) (hr : r ≠ 0) : atO σ k a b c = -r := by
  unfold atO
  rw [if_neg (by rw [hR]; exact hr), hR]
theorem doC_ok {X : Cx} {w w2 : Wo} {y : Nat} {ac am σ S2 A2 : Int → Int} {nx sz : Int} {pas : Int → Int → Int} {k a b c : Int} (hR : atR σ k a b c = 0) (hS : atS σ k a b c = S2) (hA : up (up ac 0 (ac 0 + 1)) 8 (ac 8 + atM σ k a b) = A2) (h1 : w2 (y + 305) = some (aZ X 9 A2)) (h2 : hisAt X w2 (y + 53) ((if nx = 8 then 0 else nx) + 1) (min 8 (sz + 1)) (keepP sz pas σ)) (h3 : loomAt X w2 (y + 1) S2) (h8 : ∃ am9, w2 (y + 306) = some (aZ X 7 am9)) (hq : ∀ q : Nat, q ≠ y + 305 → q ≠ y + 306 → (q < y + 1 ∨ y + 26 ≤ q) → (q < y + 53 ∨ y + 255 ≤ q) → w2 q = w q) : w2 (y + 305) = some (aZ X 9 (dA ac σ k a b c)) ∧ hisAt X w2 (y + 53) (dN nx σ k a b c) (dZ sz σ k a b c) (dH sz pas σ k a b c) ∧ loomAt X w2 (y + 1) (dS σ k a b c) ∧ (∃ am9, w2 (y + 306) = some (aZ X 7 am9)) ∧ ∀ q : Nat, q ≠ y + 305 → q ≠ y + 306 → (q < y + 1 ∨ y + 26 ≤ q) → (q < y + 53 ∨ y + 255 ≤ q) → w2 q = w q := by
  unfold dA dN dZ dH dS
  rw [if_pos hR, if_pos hR, if_pos hR, if_pos hR, if_pos hR, hA, hS]
  exact ⟨h1, h2, h3, h8, hq⟩
theorem doC_no {X : Cx} {w w2 : Wo} {y : Nat} {ac σ : Int → Int} {nx sz : Int} {pas : Int → Int → Int} {k a b c r : Int} (hR : atR σ k a b c = r) (hr : r ≠ 0) (hL : loomAt X w (y + 1) σ) (hH : hisAt X w (y + 53) nx sz pas) (h1 : w2 (y + 305) = some (aZ X 9 (up ac r (ac r + 1)))) (h8 : ∃ am9, w2 (y + 306) = some (aZ X 7 am9)) (hq : ∀ q : Nat, q ≠ y + 305 → q ≠ y + 306 → w2 q = w q) : w2 (y + 305) = some (aZ X 9 (dA ac σ k a b c)) ∧ hisAt X w2 (y + 53) (dN nx σ k a b c) (dZ sz σ k a b c) (dH sz pas σ k a b c) ∧ loomAt X w2 (y + 1) (dS σ k a b c) ∧ (∃ am9, w2 (y + 306) = some (aZ X 7 am9)) ∧ ∀ q : Nat, q ≠ y + 305 → q ≠ y + 306 → (q < y + 1 ∨ y + 26 ≤ q) → (q < y + 53 ∨ y + 255 ≤ q) → w2 q = w q := by
  have hz : ¬ (atR σ k a b c = 0) := by rw [hR]; exact hr
  unfold dA dN dZ dH dS
  rw [if_neg hz, if_neg hz, if_neg hz, if_neg hz, if_neg hz, hR]
  exact ⟨h1, hH.mv (fun q q0 q1 => hq q (by omega) (by omega)), hL.mv (fun q q0 q1 => hq q (by omega) (by omega)), h8, fun q q1 q2 _ _ => hq q q1 q2⟩
theorem c_docm (l : Launch) (X : Cx) (w : Wo) (y : Nat) (su : Int) (ac am : Int → Int) (σ : Int → Int) (nx sz : Int) (pas : Int → Int → Int) (st cm acx dp pr : Int) (kd ar tl op ah : Int → Int) (hY : clO X w y su) (hac : w (y + 305) = some (aZ X 9 ac)) (ham : w (y + 306) = some (aZ X 7 am)) (hL : loomAt X w (y + 1) σ) (hH : hisAt X w (y + 53) nx sz pas) (hSO : scO X w y st cm acx dp pr kd ar tl op ah) (hpr : 0 ≤ pr ∧ pr < 60) (ho : actOK σ (kd pr) (ar (3 * pr + 0)) (ar (3 * pr + 1)) (ar (3 * pr + 2))) : CM l X yX8_doCommand cX8_doCommand 2 (some (.int)) (rmk 6 153) [.ref y] w (some (.int (iI (atO σ (kd pr) (ar (3 * pr + 0)) (ar (3 * pr + 1)) (ar (3 * pr + 2)))))) (fun w' => w' (y + 305) = some (aZ X 9 (dA ac σ (kd pr) (ar (3 * pr + 0)) (ar (3 * pr + 1)) (ar (3 * pr + 2)))) ∧ hisAt X w' (y + 53) (dN nx σ (kd pr) (ar (3 * pr + 0)) (ar (3 * pr + 1)) (ar (3 * pr + 2))) (dZ sz σ (kd pr) (ar (3 * pr + 0)) (ar (3 * pr + 1)) (ar (3 * pr + 2))) (dH sz pas σ (kd pr) (ar (3 * pr + 0)) (ar (3 * pr + 1)) (ar (3 * pr + 2))) ∧ loomAt X w' (y + 1) (dS σ (kd pr) (ar (3 * pr + 0)) (ar (3 * pr + 1)) (ar (3 * pr + 2))) ∧ (∃ am9, w' (y + 306) = some (aZ X 7 am9)) ∧ ∀ q : Nat, q ≠ y + 305 → q ≠ y + 306 → (q < y + 1 ∨ y + 26 ≤ q) → (q < y + 53 ∨ y + 255 ≤ q) → w' q = w q) := by
  have w4 := hL.2.2.1.2.2.2.2.1
  rcases ho with ⟨hk, ha, hb⟩ | hk | ⟨hk, ha, hb⟩ | ⟨hk, ha⟩ | hk
  · by_cases h1 : σ 4 = σ 1
    · have hR : atR σ (kd pr) (ar (3 * pr + 0)) (ar (3 * pr + 1)) (ar (3 * pr + 2)) = 1 := by unfold atR; rw [if_pos hk, if_pos h1]
      rw [atO_n hR (by decide)]
      exact (c_docm_p1 l X w y su ac am σ nx sz pas st cm acx dp pr kd ar tl op ah hY hac ham hL hH hSO hpr hk (by omega) hb h1).imp (fun w2 h => doC_no hR (by decide) hL hH h.1 ⟨_, (h.2 _ (by omega)).trans ham⟩ (fun q q1 _ => h.2 q q1))
    · by_cases h2 : σ (6 + ar (3 * pr + 0)) < ar (3 * pr + 2) - ar (3 * pr + 1) + 1
      · have hR : atR σ (kd pr) (ar (3 * pr + 0)) (ar (3 * pr + 1)) (ar (3 * pr + 2)) = 2 := by unfold atR; rw [if_pos hk, if_neg h1, if_pos h2]
        rw [atO_n hR (by decide)]
        exact (c_docm_p2 l X w y su ac am σ nx sz pas st cm acx dp pr kd ar tl op ah hY hac ham hL hH hSO hpr hk (by omega) hb (by omega) h2).imp (fun w2 h => doC_no hR (by decide) hL hH h.1 ⟨_, (h.2 _ (by omega)).trans ham⟩ (fun q q1 _ => h.2 q q1))
      · have hR : atR σ (kd pr) (ar (3 * pr + 0)) (ar (3 * pr + 1)) (ar (3 * pr + 2)) = 0 := by unfold atR; rw [if_pos hk, if_neg h1, if_neg h2]
        have hS : atS σ (kd pr) (ar (3 * pr + 0)) (ar (3 * pr + 1)) (ar (3 * pr + 2)) = passN σ (ar (3 * pr + 0)) (ar (3 * pr + 1)) (ar (3 * pr + 2) - ar (3 * pr + 1) + 1).toNat := by unfold atS; rw [if_pos hk]
        have hT : atT σ (kd pr) (ar (3 * pr + 0)) (ar (3 * pr + 1)) (ar (3 * pr + 2)) = σ (6 + ar (3 * pr + 0)) - (ar (3 * pr + 2) - ar (3 * pr + 1) + 1) := by unfold atT; rw [if_pos hk]
        rw [atO_0 hR, hT]
        exact (c_docm_p0 l X w y su ac am σ nx sz pas st cm acx dp pr kd ar tl op ah hY hac ham hL hH hSO hpr hk (by omega) hb (by omega) (by omega)).imp (fun w2 h => doC_ok (am := am) hR hS (by unfold atM; rw [if_neg (by omega), if_neg (by omega)]; exact up_8 _ _) h.1 h.2.1 h.2.2.1 ⟨_, (h.2.2.2 _ (by omega) (by omega) (by omega)).trans ham⟩ (fun q q1 _ q3 q4 => h.2.2.2 q q1 q3 q4))
  · by_cases h1 : σ 4 = σ 1
    · have hR : atR σ (kd pr) (ar (3 * pr + 0)) (ar (3 * pr + 1)) (ar (3 * pr + 2)) = 1 := by unfold atR; rw [if_neg (by omega), if_pos hk, if_pos h1]
      rw [atO_n hR (by decide)]
      exact (c_docm_b1 l X w y su ac am σ nx sz pas st cm acx dp pr kd ar tl op ah hY hac ham hL hH hSO hpr hk h1).imp (fun w2 h => doC_no hR (by decide) hL hH h.1 ⟨_, (h.2 _ (by omega)).trans ham⟩ (fun q q1 _ => h.2 q q1))
    · by_cases h2 : σ 6 < σ 0 - opnS σ
      · have hR : atR σ (kd pr) (ar (3 * pr + 0)) (ar (3 * pr + 1)) (ar (3 * pr + 2)) = 2 := by unfold atR; rw [if_neg (by omega), if_pos hk, if_neg h1, if_pos h2]
        rw [atO_n hR (by decide)]
        exact (c_docm_b2 l X w y su ac am σ nx sz pas st cm acx dp pr kd ar tl op ah hY hac ham hL hH hSO hpr hk (by omega) h2).imp (fun w2 h => doC_no hR (by decide) hL hH h.1 ⟨_, (h.2 _ (by omega)).trans ham⟩ (fun q q1 _ => h.2 q q1))
      · have hR : atR σ (kd pr) (ar (3 * pr + 0)) (ar (3 * pr + 1)) (ar (3 * pr + 2)) = 0 := by unfold atR; rw [if_neg (by omega), if_pos hk, if_neg h1, if_neg h2]
        have hS : atS σ (kd pr) (ar (3 * pr + 0)) (ar (3 * pr + 1)) (ar (3 * pr + 2)) = btS σ := by unfold atS; rw [if_neg (by omega), if_pos hk]
        have hT : atT σ (kd pr) (ar (3 * pr + 0)) (ar (3 * pr + 1)) (ar (3 * pr + 2)) = misRow (btS σ) (σ 4) := by unfold atT; rw [if_neg (by omega), if_pos hk]
        rw [atO_0 hR, hT]
        exact (c_docm_b0 l X w y su ac am σ nx sz pas st cm acx dp pr kd ar tl op ah hY hac ham hL hH hSO hpr hk (by omega) (by omega)).imp (fun w2 h => doC_ok (am := am) hR hS (by unfold atM; rw [if_pos hk]) h.1 h.2.1 h.2.2.1 ⟨_, (h.2.2.2 _ (by omega) (by omega) (by omega)).trans ham⟩ (fun q q1 _ q3 q4 => h.2.2.2 q q1 q3 q4))
  · have hbb : ar (3 * pr + 1) = bz (decide (ar (3 * pr + 1) = 1)) := by rcases hb with g | g <;> (rw [g]; decide)
    by_cases h1 : σ 1 < σ 4 + ar (3 * pr + 0)
    · have hR : atR σ (kd pr) (ar (3 * pr + 0)) (ar (3 * pr + 1)) (ar (3 * pr + 2)) = 3 := by unfold atR; rw [if_neg (by omega), if_neg (by omega), if_pos hk, if_pos h1]
      rw [atO_n hR (by decide)]
      exact (c_docm_w3 l X w y su ac am σ nx sz pas st cm acx dp pr kd ar tl op ah (decide (ar (3 * pr + 1) = 1)) hY hac ham hL hH hSO hpr hk ha hbb h1).imp (fun w2 h => doC_no hR (by decide) hL hH h.1 ⟨_, (h.2 _ (by omega)).trans ham⟩ (fun q q1 _ => h.2 q q1))
    · by_cases h2 : enoS σ (decide (ar (3 * pr + 1) = 1)) (ar (3 * pr + 0)) = false
      · have hR : atR σ (kd pr) (ar (3 * pr + 0)) (ar (3 * pr + 1)) (ar (3 * pr + 2)) = 2 := by unfold atR; rw [if_neg (by omega), if_neg (by omega), if_pos hk, if_neg h1, if_pos h2]
        rw [atO_n hR (by decide)]
        exact (c_docm_w2 l X w y su ac am σ nx sz pas st cm acx dp pr kd ar tl op ah (decide (ar (3 * pr + 1) = 1)) hY hac ham hL hH hSO hpr hk ha hbb (by omega) h2).imp (fun w2 h => doC_no hR (by decide) hL hH h.1 ⟨_, h.2.1⟩ (fun q q1 q2 => h.2.2 q q1 q2))
      · have hR : atR σ (kd pr) (ar (3 * pr + 0)) (ar (3 * pr + 1)) (ar (3 * pr + 2)) = 0 := by unfold atR; rw [if_neg (by omega), if_neg (by omega), if_pos hk, if_neg h1, if_neg h2]
        have hS : atS σ (kd pr) (ar (3 * pr + 0)) (ar (3 * pr + 1)) (ar (3 * pr + 2)) = weaveN σ (decide (ar (3 * pr + 1) = 1)) (ar (3 * pr + 0)).toNat := by unfold atS; rw [if_neg (by omega), if_neg (by omega), if_pos hk]
        have hT : atT σ (kd pr) (ar (3 * pr + 0)) (ar (3 * pr + 1)) (ar (3 * pr + 2)) = misFrom (weaveN σ (decide (ar (3 * pr + 1) = 1)) (ar (3 * pr + 0)).toNat) (σ 4) := by unfold atT; rw [if_neg (by omega), if_neg (by omega), if_pos hk]
        rw [atO_0 hR, hT]
        exact (c_docm_w0 l X w y su ac am σ nx sz pas st cm acx dp pr kd ar tl op ah (decide (ar (3 * pr + 1) = 1)) hY hac ham hL hH hSO hpr hk ha hbb (by omega) (by cases h9 : enoS σ (decide (ar (3 * pr + 1) = 1)) (ar (3 * pr + 0)) <;> first | rfl | exact absurd h9 h2)).imp (fun w2 h => doC_ok (am := am) hR hS (by unfold atM; rw [if_neg (by omega), if_pos hk]; rfl) h.1 h.2.2.1 h.2.2.2.1 ⟨_, h.2.1⟩ h.2.2.2.2)
  · by_cases h1 : σ 4 < ar (3 * pr + 0)
    · have hR : atR σ (kd pr) (ar (3 * pr + 0)) (ar (3 * pr + 1)) (ar (3 * pr + 2)) = 3 := by unfold atR; rw [if_neg (by omega), if_neg (by omega), if_neg (by omega), if_pos hk, if_pos h1]
      rw [atO_n hR (by decide)]
      exact (c_docm_u3 l X w y su ac am σ nx sz pas st cm acx dp pr kd ar tl op ah hY hac ham hL hH hSO hpr hk ha h1).imp (fun w2 h => doC_no hR (by decide) hL hH h.1 ⟨_, (h.2 _ (by omega)).trans ham⟩ (fun q q1 _ => h.2 q q1))
    · have hR : atR σ (kd pr) (ar (3 * pr + 0)) (ar (3 * pr + 1)) (ar (3 * pr + 2)) = 0 := by unfold atR; rw [if_neg (by omega), if_neg (by omega), if_neg (by omega), if_pos hk, if_neg h1]
      have hS : atS σ (kd pr) (ar (3 * pr + 0)) (ar (3 * pr + 1)) (ar (3 * pr + 2)) = uqS σ (σ 4 - ar (3 * pr + 0)) := by unfold atS; rw [if_neg (by omega), if_neg (by omega), if_neg (by omega), if_pos hk]
      have hT : atT σ (kd pr) (ar (3 * pr + 0)) (ar (3 * pr + 1)) (ar (3 * pr + 2)) = sm (wvnS σ (σ 4 - ar (3 * pr + 0))) 0 7 := by unfold atT; rw [if_neg (by omega), if_neg (by omega), if_neg (by omega), if_pos hk]
      rw [atO_0 hR, hT]
      exact (c_docm_u0 l X w y su ac am σ nx sz pas st cm acx dp pr kd ar tl op ah hY hac ham hL hH hSO hpr hk ha (by omega)).imp (fun w2 h => doC_ok (am := am) hR hS (by unfold atM; rw [if_neg (by omega), if_neg (by omega)]; exact up_8 _ _) h.1 h.2.1 (h.2.2.1.to (uq_eq hL.2.2 (by omega))) ⟨_, (h.2.2.2 _ (by omega) (by omega) (by omega)).trans ham⟩ (fun q q1 _ q3 q4 => h.2.2.2 q q1 q3 q4))
  · have hR : atR σ (kd pr) (ar (3 * pr + 0)) (ar (3 * pr + 1)) (ar (3 * pr + 2)) = 0 := by unfold atR; rw [if_neg (by omega), if_neg (by omega), if_neg (by omega), if_neg (by omega)]
    have hS : atS σ (kd pr) (ar (3 * pr + 0)) (ar (3 * pr + 1)) (ar (3 * pr + 2)) = up σ 3 (σ 4) := by unfold atS; rw [if_neg (by omega), if_neg (by omega), if_neg (by omega), if_neg (by omega)]
    have hT : atT σ (kd pr) (ar (3 * pr + 0)) (ar (3 * pr + 1)) (ar (3 * pr + 2)) = misSeen (up σ 3 (σ 4)) - misSeen σ := by unfold atT; rw [if_neg (by omega), if_neg (by omega), if_neg (by omega), if_neg (by omega)]
    rw [atO_0 hR, hT]
    exact (c_docm_l0 l X w y su ac am σ nx sz pas st cm acx dp pr kd ar tl op ah hY hac ham hL hH hSO hpr hk).imp (fun w2 h => doC_ok (am := am) hR hS (by unfold atM; rw [if_neg (by omega), if_neg (by omega)]; exact up_8 _ _) h.1 h.2.1 h.2.2.1 ⟨_, (h.2.2.2 _ (by omega) (by omega) (by omega)).trans ham⟩ (fun q q1 _ q3 q4 => h.2.2.2 q q1 q3 q4))
