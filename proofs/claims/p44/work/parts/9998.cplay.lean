theorem at_eq {kd ar sc σ : Int → Int} {wd p : Int} (h : okA kd ar sc wd p) : atR σ (kd p) (ar (3 * p + 0)) (ar (3 * p + 1)) (ar (3 * p + 2)) = atR σ (sc (4 * p)) (sc (4 * p + 1)) (sc (4 * p + 2)) (sc (4 * p + 3)) ∧ atS σ (kd p) (ar (3 * p + 0)) (ar (3 * p + 1)) (ar (3 * p + 2)) = atS σ (sc (4 * p)) (sc (4 * p + 1)) (sc (4 * p + 2)) (sc (4 * p + 3)) ∧ atT σ (kd p) (ar (3 * p + 0)) (ar (3 * p + 1)) (ar (3 * p + 2)) = atT σ (sc (4 * p)) (sc (4 * p + 1)) (sc (4 * p + 2)) (sc (4 * p + 3)) ∧ atM σ (kd p) (ar (3 * p + 0)) (ar (3 * p + 1)) = atM σ (sc (4 * p)) (sc (4 * p + 1)) (sc (4 * p + 2)) := by
  obtain ⟨hk, h⟩ := h
  rw [hk, show 3 * p + 0 = 3 * p by omega]
  rcases h with ⟨g, g1, g2, g3, _⟩ | g | ⟨g, g1, g2, _⟩ | ⟨g, g1, _⟩ | g
  · rw [g1, g2, g3]
    exact ⟨rfl, rfl, rfl, rfl⟩
  · unfold atR atS atT atM
    rw [g]
    refine ⟨?_, ?_, ?_, ?_⟩ <;> simp
  · unfold atR atS atT atM
    rw [g, g1, g2]
    refine ⟨?_, ?_, ?_, ?_⟩ <;> simp
  · unfold atR atS atT atM
    rw [g, g1]
    refine ⟨?_, ?_, ?_, ?_⟩ <;> simp
  · unfold atR atS atT atM
    rw [g]
    refine ⟨?_, ?_, ?_, ?_⟩ <;> simp
theorem ok_eq {kd ar sc σ : Int → Int} {wd p : Int} (h : okA kd ar sc wd p) (h0 : σ 0 = wd) : actOK σ (kd p) (ar (3 * p + 0)) (ar (3 * p + 1)) (ar (3 * p + 2)) := by
  obtain ⟨hk, h⟩ := h
  unfold actOK
  rw [hk, h0, show 3 * p + 0 = 3 * p by omega]
  rcases h with ⟨g, g1, g2, g3, g4, g5⟩ | g | ⟨g, g1, g2, g3, g4⟩ | ⟨g, g1, g2⟩ | g
  · rw [g1, g2, g3]
    exact .inl ⟨g, g4, g5⟩
  · exact .inr (.inl g)
  · rw [g1, g2]
    exact .inr (.inr (.inl ⟨g, g3, g4⟩))
  · rw [g1]
    exact .inr (.inr (.inr (.inl ⟨g, g2⟩)))
  · exact .inr (.inr (.inr (.inr g)))
theorem okD_eq {kd ar sc σ : Int → Int} {wd p : Int} (h : okA kd ar sc wd p) : actOK σ (kd p) (ar (3 * p + 0)) (ar (3 * p + 1)) (ar (3 * p + 2)) = actOK σ (sc (4 * p)) (sc (4 * p + 1)) (sc (4 * p + 2)) (sc (4 * p + 3)) := by
  obtain ⟨hk, h⟩ := h
  rw [hk, show 3 * p + 0 = 3 * p by omega]
  unfold actOK
  rcases h with ⟨g, g1, g2, g3, _⟩ | g | ⟨g, g1, g2, _⟩ | ⟨g, g1, _⟩ | g
  · rw [g1, g2, g3]
  · rw [g]; simp
  · rw [g, g1, g2]; simp
  · rw [g, g1]; simp
  · rw [g]; simp
/-- the class's state while it plays: the loom, the accounts, the history -/
def SC : Type := (Int → Int) × (Int → Int) × Int × Int × (Int → Int → Int)
def okC (sc : Int → Int) (s : SC) (p : Int) : Bool := decide (0 ≤ atO s.1 (sc (4 * p)) (sc (4 * p + 1)) (sc (4 * p + 2)) (sc (4 * p + 3)))
def stC (sc : Int → Int) (s : SC) (p : Int) : SC := (dS s.1 (sc (4 * p)) (sc (4 * p + 1)) (sc (4 * p + 2)) (sc (4 * p + 3)), dA s.2.1 s.1 (sc (4 * p)) (sc (4 * p + 1)) (sc (4 * p + 2)) (sc (4 * p + 3)), dN s.2.2.1 s.1 (sc (4 * p)) (sc (4 * p + 1)) (sc (4 * p + 2)) (sc (4 * p + 3)), dZ s.2.2.2.1 s.1 (sc (4 * p)) (sc (4 * p + 1)) (sc (4 * p + 2)) (sc (4 * p + 3)), dH s.2.2.2.1 s.2.2.2.2 s.1 (sc (4 * p)) (sc (4 * p + 1)) (sc (4 * p + 2)) (sc (4 * p + 3)))
/-- the class's walk from the step pr on finds the acts L one after another, and then none -/
def RC (kd ar sc : Int → Int) (ln wd : Int) : List Int → Int → (Int → Int) → Prop
  | [], pr, tl => ∃ (R : Nat) (pr2 : Int) (tl2 : Int → Int), R ≤ 10000 ∧ Adv kd ar ln R pr tl false pr2 tl2
  | p :: L, pr, tl => ∃ (R : Nat) (tl2 : Int → Int), R ≤ 10000 ∧ Adv kd ar ln R pr tl true p tl2 ∧ okA kd ar sc wd p ∧ (0 ≤ p ∧ p < 60) ∧ RC kd ar sc ln wd L p tl2
theorem rc_c {kd ar sc tl : Int → Int} {ln wd pr : Int} : ∀ {L : List Int}, RC kd ar sc ln wd L pr tl → ∃ (R : Nat) (b : Bool) (p : Int) (t : Int → Int), R ≤ 10000 ∧ Adv kd ar ln R pr tl b p t ∧ ((b = false ∧ L = []) ∨ (b = true ∧ ∃ L8, L = p :: L8 ∧ okA kd ar sc wd p ∧ (0 ≤ p ∧ p < 60) ∧ RC kd ar sc ln wd L8 p t))
  | [], ⟨R, pr2, tl2, h1, h2⟩ => ⟨R, false, pr2, tl2, h1, h2, .inl ⟨rfl, rfl⟩⟩
  | p :: L, ⟨R, tl2, h1, h2, h3, h4, h5⟩ => ⟨R, true, p, tl2, h1, h2, .inr ⟨rfl, L, rfl, h3, h4, h5⟩⟩
theorem c_docs (l : Launch) (X : Cx) (w : Wo) (y : Nat) (su : Int) (ac am : Int → Int) (σ : Int → Int) (nx sz : Int) (pas : Int → Int → Int) (st cm acx dp pr : Int) (kd ar tl op ah : Int → Int) (sc : Int → Int) (wd : Int) (hY : clO X w y su) (hac : w (y + 305) = some (aZ X 9 ac)) (ham : w (y + 306) = some (aZ X 7 am)) (hL : loomAt X w (y + 1) σ) (hH : hisAt X w (y + 53) nx sz pas) (hSO : scO X w y st cm acx dp pr kd ar tl op ah) (hpr : 0 ≤ pr ∧ pr < 60) (hoA : okA kd ar sc wd pr) (h0 : σ 0 = wd) : CM l X yX8_doCommand cX8_doCommand 2 (some (.int)) (rmk 6 153) [.ref y] w (some (.int (iI (atO σ (sc (4 * pr)) (sc (4 * pr + 1)) (sc (4 * pr + 2)) (sc (4 * pr + 3)))))) (fun w' => w' (y + 305) = some (aZ X 9 (dA ac σ (sc (4 * pr)) (sc (4 * pr + 1)) (sc (4 * pr + 2)) (sc (4 * pr + 3)))) ∧ hisAt X w' (y + 53) (dN nx σ (sc (4 * pr)) (sc (4 * pr + 1)) (sc (4 * pr + 2)) (sc (4 * pr + 3))) (dZ sz σ (sc (4 * pr)) (sc (4 * pr + 1)) (sc (4 * pr + 2)) (sc (4 * pr + 3))) (dH sz pas σ (sc (4 * pr)) (sc (4 * pr + 1)) (sc (4 * pr + 2)) (sc (4 * pr + 3))) ∧ loomAt X w' (y + 1) (dS σ (sc (4 * pr)) (sc (4 * pr + 1)) (sc (4 * pr + 2)) (sc (4 * pr + 3))) ∧ (∃ am9, w' (y + 306) = some (aZ X 7 am9)) ∧ ∀ q : Nat, q ≠ y + 305 → q ≠ y + 306 → (q < y + 1 ∨ y + 26 ≤ q) → (q < y + 53 ∨ y + 255 ≤ q) → w' q = w q) := by
  obtain ⟨eR, eS, eT, eM⟩ := at_eq (σ := σ) hoA
  have hc := c_docm l X w y su ac am σ nx sz pas st cm acx dp pr kd ar tl op ah hY hac ham hL hH hSO hpr (ok_eq hoA h0)
  unfold atO dA dN dZ dH dS at hc ⊢
  rw [eR, eS, eT, eM] at hc
  exact hc
set_option maxHeartbeats 4000000 in
set_option maxRecDepth 100000 in
theorem c_play_x (l : Launch) (X : Cx) (w : Wo) (y : Nat) (su : Int) (ac am : Int → Int) (σ : Int → Int) (nx sz : Int) (pas : Int → Int → Int) (N : Int) (f v sc rv : Int → Int) (hY : clO X w y su) (hac : w (y + 305) = some (aZ X 9 ac)) (ham : w (y + 306) = some (aZ X 7 am)) (hL : loomAt X w (y + 1) σ) (hH : hisAt X w (y + 53) nx sz pas) (hR : w (y + 311) = some (.inr (6, rL (y + 307) rv))) (hB : w (y + 307) = some (.inr (0, [.ref (y + 308), .int (iI N)]))) (hT : w (y + 308) = some (aZ X 400 f)) (hN : v 11 = N) (hN4 : 0 ≤ N ∧ N ≤ 400) (hfb : ∀ i, 0 ≤ i → i < N → 0 ≤ f i ∧ f i ≤ 255) (hse : scE X w y) (hq : (sgV f (ld0 f v) sc (σ 0)) 18 ≠ 0) : CM l X yX8_play cX8_play 3 (some (.int)) (rmk 9 195) [.ref y] w (some (.int (iI (-1)))) (fun w' => w' (y + 307) = some (.inr (0, [.ref (y + 308), .int (iI 0)])) ∧ (∃ m : Int, w' (y + 311) = some (.inr (6, rL (y + 307) (cR f N ((sgV f (ld0 f v) sc (σ 0))) m)))) ∧ scE X w' y ∧ ∀ q : Nat, q ≠ y + 311 → (q < y + 315 ∨ y + 321 ≤ q) → q ≠ y + 307 → w' q = w q) := by
  refine CM.of (lv := [(0, .ref y)]) (by decide) (Nat.le_of_ble_eq_true rfl) rfl (fun p e s m below meth c ls F hr hlk hin hW hS hl => ?_)
  have hZ0 := hW.2.2
  have hB9 := hW.1.2
  clear hin
  unfold clO at hY
  have hO := hL.1.o
  have hA := hL.1
  have hwf := hL.2.2
  have hF := hwf.1
  unfold WF0 at hF
  have hse0 := hse
  obtain ⟨st0, cm0, ac0, dp0, pr0, kd0, ar0, tl0, op0, ah0, hSc, -, -, -, -, -⟩ := hse0
  refine lv_aload_n F.1 F.2.1 dX8_play_0 rfl (lv_at hl 0 rfl) ?_
  refine gf_RX8_77 F hW hY rfl dX8_play_1 ?_
  refine lv_aload_n F.1 F.2.1 dX8_play_4 rfl (lv_at hl 0 rfl) ?_
  refine gf_RX8_10 F hW hY rfl dX8_play_5 ?_
  refine gf_RX8_122 F hW hO rfl dX8_play_8 ?_
  refine cl_RX8_125 (As := [.int (iI (σ 0))]) (rest := []) F hl (c_X7_compile l X w y N f v sc rv (σ 0) hR hB hT hN (by omega) hfb hse (by omega)) hW hS hSc rfl rfl ⟨Nat.le_of_ble_eq_true rfl, Nat.le_of_ble_eq_true rfl⟩ (Nat.le_of_ble_eq_true rfl) ⟨Nat.zero_le _, Nat.zero_le _⟩ dX8_play_11 (fun w1 H locs hp2 hW hS => ?_)
  obtain ⟨hRL, hCX, hn3⟩ := hp2
  have hY := (hn3 _ (by omega) (by omega)).trans hY
  have hO := (hn3 _ (by omega) (by omega)).trans hO
  have hB := (hn3 _ (by omega) (by omega)).trans hB
  have hT := (hn3 _ (by omega) (by omega)).trans hT
  have hac := (hn3 _ (by omega) (by omega)).trans hac
  have hL := hL.mv (w2 := w1) (fun q h1 h2 => hn3 q (by omega) (by omega))
  have hH := hH.mv (w2 := w1) (fun q h1 h2 => hn3 q (by omega) (by omega))
  have hCE : scE X w1 y := hCX.1
  refine h_top (show (bz (decide (sgV f (ld0 f v) sc (σ 0) 18 = 0)) : Int) = bz false from congrArg bz (decide_eq_false hq)) ?_
  obtain ⟨m8, hrd⟩ := hRL
  refine lv_istore_n (lv' := [(1, .int (iI (bz false))), (0, .ref y)]) F.1 F.2.1 dX8_play_14 rfl hl (by decide) rfl (fun ls hl => ?_)
  refine lv_aload_n F.1 F.2.1 dX8_play_15 rfl (lv_at hl 1 rfl) ?_
  refine gf_RX8_49 F hW hY rfl dX8_play_16 ?_
  refine h_iconst F dX8_play_19 ?_
  refine cl_RX8_101 (As := [.int (iI 0)]) (rest := []) F hl (c_X0_cutTo l X w1 (y + 307) (y + 308) N f 0 hB hT (by omega)) hW hS hB rfl rfl ⟨Nat.le_of_ble_eq_true rfl, Nat.le_of_ble_eq_true rfl⟩ (Nat.le_of_ble_eq_true rfl) ⟨Nat.zero_le _, Nat.zero_le _⟩ dX8_play_20 (fun w4 H locs hp5 hW hS => ?_)
  obtain ⟨ho6, hn7⟩ := hp5
  have hY := (hn7 _ (by omega)).trans hY
  have hO := (hn7 _ (by omega)).trans hO
  have hrd := (hn7 _ (by omega)).trans hrd
  have hT := (hn7 _ (by omega)).trans hT
  have hac := (hn7 _ (by omega)).trans hac
  have hL := hL.mv (w2 := w4) (fun q h1 h2 => hn7 q (by omega))
  have hH := hH.mv (w2 := w4) (fun q h1 h2 => hn7 q (by omega))
  have hCE := hCE.mv (w2 := w4) (fun q h1 h2 => hn7 q (by omega))
  refine lv_iload_n F.1 F.2.1 dX8_play_23 rfl (lv_at hl 0 rfl) ?_
  refine h_top (show (bz false : Int) = 0 from rfl) ?_
  refine h_ifne (tgt := 29) F dX8_play_24 (by decide) (by decide) (fun c9 => absurd c9 (by decide)) (fun _ => ?_)
  have hRL9 : (∃ m : Int, w4 (y + 311) = some (.inr (6, rL (y + 307) (cR f N ((sgV f (ld0 f v) sc (σ 0))) m)))) := ⟨_, hrd⟩
  refine h_iconst F dX8_play_27 ?_
  refine h_top (show ((-1) : Int) = -1 from by first | rfl | omega | (simp_all; done)) ?_
  exact h_ireti F hr hlk hW hS ⟨ho6, hRL9, hCE, (fun q h09 h19 h29 => by rw [hn7 q (by omega), hn3 q (by omega) (by omega)])⟩ dX8_play_28
set_option maxHeartbeats 4000000 in
set_option maxRecDepth 100000 in
theorem c_X8_play (l : Launch) (X : Cx) (w : Wo) (y : Nat) (su : Int) (ac am : Int → Int) (σ : Int → Int) (nx sz : Int) (pas : Int → Int → Int) (N : Int) (f v sc rv : Int → Int) (s2 : Int → Int) (ln : Int) (L0 : List Int) (hY : clO X w y su) (hac : w (y + 305) = some (aZ X 9 ac)) (ham : w (y + 306) = some (aZ X 7 am)) (hL : loomAt X w (y + 1) σ) (hH : hisAt X w (y + 53) nx sz pas) (hR : w (y + 311) = some (.inr (6, rL (y + 307) rv))) (hB : w (y + 307) = some (.inr (0, [.ref (y + 308), .int (iI N)]))) (hT : w (y + 308) = some (aZ X 400 f)) (hN : v 11 = N) (hN4 : 0 ≤ N ∧ N ≤ 400) (hfb : ∀ i, 0 ≤ i → i < N → 0 ≤ f i ∧ f i ≤ 255) (hse : scE X w y) (hq : (sgV f (ld0 f v) sc (σ 0)) 18 = 0) (hs2 : s2 = (sgF f (ld0 f v) sc (σ 0)).2) (hln : ln = (sgV f (ld0 f v) sc (σ 0)) 27) (hl60 : 0 ≤ ln ∧ ln ≤ 60) (hRC : ∀ (kd ar : Int → Int) (n : Int) (L : List Int), Sg kd ar s2 (σ 0) 0 ln n L → L = L0 ∧ ∀ tl, RC kd ar s2 ln (σ 0) L (-1) tl) : CM l X yX8_play cX8_play 3 (some (.int)) (rmk 9 195) [.ref y] w (some (.int (iI ((runL (okC s2) (stC s2) L0 0 ((σ, ac, nx, sz, pas) : SC)).1)))) (fun w' => w' (y + 307) = some (.inr (0, [.ref (y + 308), .int (iI 0)])) ∧ w' (y + 305) = some (aZ X 9 ((runL (okC s2) (stC s2) L0 0 ((σ, ac, nx, sz, pas) : SC)).2.2.1)) ∧ (∃ m : Int, w' (y + 311) = some (.inr (6, rL (y + 307) (cR f N ((sgV f (ld0 f v) sc (σ 0))) m)))) ∧ scE X w' y ∧ hisAt X w' (y + 53) (runL (okC s2) (stC s2) L0 0 ((σ, ac, nx, sz, pas) : SC)).2.2.2.1 (runL (okC s2) (stC s2) L0 0 ((σ, ac, nx, sz, pas) : SC)).2.2.2.2.1 (runL (okC s2) (stC s2) L0 0 ((σ, ac, nx, sz, pas) : SC)).2.2.2.2.2 ∧ loomAt X w' (y + 1) (runL (okC s2) (stC s2) L0 0 ((σ, ac, nx, sz, pas) : SC)).2.1 ∧ (∃ am9, w' (y + 306) = some (aZ X 7 am9)) ∧ ∀ q : Nat, q ≠ y + 311 → (q < y + 315 ∨ y + 321 ≤ q) → q ≠ y + 307 → q ≠ y + 305 → q ≠ y + 306 → (q < y + 1 ∨ y + 26 ≤ q) → (q < y + 53 ∨ y + 255 ≤ q) → w' q = w q) := by
  refine CM.of (lv := [(0, .ref y)]) (by decide) (Nat.le_of_ble_eq_true rfl) rfl (fun p e s m below meth c ls F hr hlk hin hW hS hl => ?_)
  have hZ0 := hW.2.2
  have hB9 := hW.1.2
  clear hin
  unfold clO at hY
  have hO := hL.1.o
  have hA := hL.1
  have hwf := hL.2.2
  have hF := hwf.1
  unfold WF0 at hF
  have hse0 := hse
  obtain ⟨st0, cm0, ac0, dp0, pr0, kd0, ar0, tl0, op0, ah0, hSc, -, -, -, -, -⟩ := hse0
  refine lv_aload_n F.1 F.2.1 dX8_play_0 rfl (lv_at hl 0 rfl) ?_
  refine gf_RX8_77 F hW hY rfl dX8_play_1 ?_
  refine lv_aload_n F.1 F.2.1 dX8_play_4 rfl (lv_at hl 0 rfl) ?_
  refine gf_RX8_10 F hW hY rfl dX8_play_5 ?_
  refine gf_RX8_122 F hW hO rfl dX8_play_8 ?_
  refine cl_RX8_125 (As := [.int (iI (σ 0))]) (rest := []) F hl (c_X7_compile l X w y N f v sc rv (σ 0) hR hB hT hN (by omega) hfb hse (by omega)) hW hS hSc rfl rfl ⟨Nat.le_of_ble_eq_true rfl, Nat.le_of_ble_eq_true rfl⟩ (Nat.le_of_ble_eq_true rfl) ⟨Nat.zero_le _, Nat.zero_le _⟩ dX8_play_11 (fun w1 H locs hp2 hW hS => ?_)
  obtain ⟨hRL, hCX, hn3⟩ := hp2
  have hY := (hn3 _ (by omega) (by omega)).trans hY
  have hO := (hn3 _ (by omega) (by omega)).trans hO
  have hB := (hn3 _ (by omega) (by omega)).trans hB
  have hT := (hn3 _ (by omega) (by omega)).trans hT
  have hac := (hn3 _ (by omega) (by omega)).trans hac
  have ham := (hn3 _ (by omega) (by omega)).trans ham
  have hL := hL.mv (w2 := w1) (fun q h1 h2 => hn3 q (by omega) (by omega))
  have hH := hH.mv (w2 := w1) (fun q h1 h2 => hn3 q (by omega) (by omega))
  refine h_top (show (bz (decide (sgV f (ld0 f v) sc (σ 0) 18 = 0)) : Int) = bz true from congrArg bz (decide_eq_true hq)) ?_
  obtain ⟨m8, hrd⟩ := hRL
  obtain ⟨-, hCY⟩ := hCX
  obtain ⟨hsr, h290, hsI⟩ := hCY hq
  obtain ⟨ax9, pr9, kd9, ar9, tl9, op9, ah9, ⟨hSc9, hkd9, har9, htl9, hop9, hah9⟩, hOp, -⟩ := hsr
  rw [h290] at hSc9 hOp
  rw [← hln] at hSc9 hOp
  rw [← hs2] at hOp
  obtain ⟨L7, hSg⟩ := hOp
  obtain ⟨hL70, hRC8⟩ := hRC _ _ _ _ hSg
  rw [hL70] at hRC8
  obtain ⟨cm9, hcm9⟩ : ∃ z, z = (sgV f (ld0 f v) sc (σ 0)) 28 := ⟨_, rfl⟩
  rw [← hcm9] at hSc9
  refine lv_istore_n (lv' := [(1, .int (iI (bz true))), (0, .ref y)]) F.1 F.2.1 dX8_play_14 rfl hl (by decide) rfl (fun ls hl => ?_)
  refine lv_aload_n F.1 F.2.1 dX8_play_15 rfl (lv_at hl 1 rfl) ?_
  refine gf_RX8_49 F hW hY rfl dX8_play_16 ?_
  refine h_iconst F dX8_play_19 ?_
  refine cl_RX8_101 (As := [.int (iI 0)]) (rest := []) F hl (c_X0_cutTo l X w1 (y + 307) (y + 308) N f 0 hB hT (by omega)) hW hS hB rfl rfl ⟨Nat.le_of_ble_eq_true rfl, Nat.le_of_ble_eq_true rfl⟩ (Nat.le_of_ble_eq_true rfl) ⟨Nat.zero_le _, Nat.zero_le _⟩ dX8_play_20 (fun w4 H locs hp5 hW hS => ?_)
  obtain ⟨ho6, hn7⟩ := hp5
  have hY := (hn7 _ (by omega)).trans hY
  have hO := (hn7 _ (by omega)).trans hO
  have hrd := (hn7 _ (by omega)).trans hrd
  have hSc9 := (hn7 _ (by omega)).trans hSc9
  have hT := (hn7 _ (by omega)).trans hT
  have hac := (hn7 _ (by omega)).trans hac
  have ham := (hn7 _ (by omega)).trans ham
  have hkd9 := (hn7 _ (by omega)).trans hkd9
  have har9 := (hn7 _ (by omega)).trans har9
  have htl9 := (hn7 _ (by omega)).trans htl9
  have hop9 := (hn7 _ (by omega)).trans hop9
  have hah9 := (hn7 _ (by omega)).trans hah9
  have hL := hL.mv (w2 := w4) (fun q h1 h2 => hn7 q (by omega))
  have hH := hH.mv (w2 := w4) (fun q h1 h2 => hn7 q (by omega))
  refine lv_iload_n F.1 F.2.1 dX8_play_23 rfl (lv_at hl 0 rfl) ?_
  refine h_top (show (bz true : Int) = 1 from rfl) ?_
  refine h_ifne (tgt := 29) F dX8_play_24 (by decide) (by decide) (fun _ => ?_) (fun c9 => absurd c9 (by decide))
  refine h_iconst F dX8_play_29 ?_
  refine lv_istore_n (lv' := [(2, .int (iI 0)), (1, .int (iI (bz true))), (0, .ref y)]) F.1 F.2.1 dX8_play_30 rfl hl (by decide) rfl (fun ls hl => ?_)
  refine lv_aload_n F.1 F.2.1 dX8_play_31 rfl (lv_at hl 2 rfl) ?_
  refine gf_RX8_77 F hW hY rfl dX8_play_32 ?_
  refine cl_RX8_129 (As := []) (rest := []) F hl (c_X7_rewind l X w4 y ln cm9 ax9 0 pr9 hSc9) hW hS hSc9 rfl rfl ⟨Nat.le_of_ble_eq_true rfl, Nat.le_of_ble_eq_true rfl⟩ (Nat.le_of_ble_eq_true rfl) ⟨Nat.zero_le _, Nat.zero_le _⟩ dX8_play_35 (fun w9 H locs hp10 hW hS => ?_)
  obtain ⟨ho11, hn12⟩ := hp10
  have hY := (hn12 _ (by omega)).trans hY
  have hO := (hn12 _ (by omega)).trans hO
  have ho6 := (hn12 _ (by omega)).trans ho6
  have hrd := (hn12 _ (by omega)).trans hrd
  have hT := (hn12 _ (by omega)).trans hT
  have hac := (hn12 _ (by omega)).trans hac
  have ham := (hn12 _ (by omega)).trans ham
  have hkd9 := (hn12 _ (by omega)).trans hkd9
  have har9 := (hn12 _ (by omega)).trans har9
  have htl9 := (hn12 _ (by omega)).trans htl9
  have hop9 := (hn12 _ (by omega)).trans hop9
  have hah9 := (hn12 _ (by omega)).trans hah9
  have hL := hL.mv (w2 := w9) (fun q h1 h2 => hn12 q (by omega))
  have hH := hH.mv (w2 := w9) (fun q h1 h2 => hn12 q (by omega))
  have loop38 : ∀ (n9 : Nat) (dn prx : Int) (tlx σ9 ac9 : Int → Int) (nx9 sz9 : Int) (pas9 : Int → Int → Int) (L9 : List Int), (hrg : True) → (hms : ((L9.length : Nat) : Int) < (n9 : Int)) → (wz9 : Wo) → (hO38_0 : wz9 (y + 315) = some (.inr (7, [.ref (y + 311), .ref (y + 316), .ref (y + 317), .ref (y + 318), .int (iI ln), .int (iI cm9), .int (iI ax9), .ref (y + 319), .ref (y + 320), .int (iI 0), .int (iI prx)]))) → (hA38_0 : wz9 (y + 318) = some (aZ X 60 tlx)) → (hA38_1 : wz9 (y + 305) = some (aZ X 9 ac9)) → (hF38 : ∀ q : Nat, q ≠ y + 315 → q ≠ y + 318 → q ≠ y + 305 → q ≠ y + 306 → (q < y + 1 ∨ y + 26 ≤ q) → (q < y + 53 ∨ y + 255 ≤ q) → wz9 q = w9 q) → (hRC9 : RC kd9 ar9 s2 ln (σ 0) L9 prx tlx) → (hL9 : loomAt X wz9 (y + 1) σ9) → (hH9 : hisAt X wz9 (y + 53) nx9 sz9 pas9) → (ham9 : ∃ am9, wz9 (y + 306) = some (aZ X 7 am9)) → (h09 : σ9 0 = σ 0) → (hdn : 0 ≤ dn ∧ dn ≤ 200) → (hG : runL (okC s2) (stC s2) L9 dn ((σ9, ac9, nx9, sz9, pas9) : SC) = (runL (okC s2) (stC s2) L0 0 ((σ, ac, nx, sz, pas) : SC))) → (H : Heap) → (locs : List Loc) → (ls : Array Slot) → Wd X wz9 s H → va_S (cxA X) s.heap H locs → lv_has ls 3 [(2, .int (iI dn)), (1, .int (iI (bz true))), (0, .ref y)] → W p l e (rmk 9 195) s m (List.toArray [.ref y]) below meth c H locs 0 0 (MX X below (List.toArray [.ref y]) s 0 0 (some (.int (iI ((runL (okC s2) (stC s2) L0 0 ((σ, ac, nx, sz, pas) : SC)).1)))) (fun w' => w' (y + 307) = some (.inr (0, [.ref (y + 308), .int (iI 0)])) ∧ w' (y + 305) = some (aZ X 9 ((runL (okC s2) (stC s2) L0 0 ((σ, ac, nx, sz, pas) : SC)).2.2.1)) ∧ (∃ m : Int, w' (y + 311) = some (.inr (6, rL (y + 307) (cR f N ((sgV f (ld0 f v) sc (σ 0))) m)))) ∧ scE X w' y ∧ hisAt X w' (y + 53) (runL (okC s2) (stC s2) L0 0 ((σ, ac, nx, sz, pas) : SC)).2.2.2.1 (runL (okC s2) (stC s2) L0 0 ((σ, ac, nx, sz, pas) : SC)).2.2.2.2.1 (runL (okC s2) (stC s2) L0 0 ((σ, ac, nx, sz, pas) : SC)).2.2.2.2.2 ∧ loomAt X w' (y + 1) (runL (okC s2) (stC s2) L0 0 ((σ, ac, nx, sz, pas) : SC)).2.1 ∧ (∃ am9, w' (y + 306) = some (aZ X 7 am9)) ∧ ∀ q : Nat, q ≠ y + 311 → (q < y + 315 ∨ y + 321 ≤ q) → q ≠ y + 307 → q ≠ y + 305 → q ≠ y + 306 → (q < y + 1 ∨ y + 26 ≤ q) → (q < y + 53 ∨ y + 255 ≤ q) → w' q = w q)) (F0 m 38 ls []) := by
    intro n9
    induction n9 with
    | zero => intro  dn prx  tlx σ9 ac9  nx9 sz9  pas9  L9  hrg hms; exfalso; omega
    | succ n9 ih38 =>
      intro  dn prx  tlx σ9 ac9  nx9 sz9  pas9  L9  hrg hms wz9 hO38_0 hA38_0 hA38_1 hF38 hRC9 hL9 hH9 ham9 h09 hdn hG H locs ls hW hS hl
      have hY := (hF38 _ (by omega) (by omega) (by omega) (by omega) (by omega) (by omega)).trans hY
      have ho6 := (hF38 _ (by omega) (by omega) (by omega) (by omega) (by omega) (by omega)).trans ho6
      have hrd := (hF38 _ (by omega) (by omega) (by omega) (by omega) (by omega) (by omega)).trans hrd
      have hT := (hF38 _ (by omega) (by omega) (by omega) (by omega) (by omega) (by omega)).trans hT
      have hkd9 := (hF38 _ (by omega) (by omega) (by omega) (by omega) (by omega) (by omega)).trans hkd9
      have har9 := (hF38 _ (by omega) (by omega) (by omega) (by omega) (by omega) (by omega)).trans har9
      have hop9 := (hF38 _ (by omega) (by omega) (by omega) (by omega) (by omega) (by omega)).trans hop9
      have hah9 := (hF38 _ (by omega) (by omega) (by omega) (by omega) (by omega) (by omega)).trans hah9
      obtain ⟨am8, ham8⟩ := ham9
      refine lv_iload_n F.1 F.2.1 dX8_play_38 rfl (lv_at hl 0 rfl) ?_
      refine h_sipush F dX8_play_39 rfl ?_
      refine h_icge (tgt := 68) F dX8_play_42 (by decide) (by omega) (fun c13 => ?_) (fun c13 => ?_)
      · have hG2 := (runL_e (ok := okC s2) (st := stC s2) (s := ((σ9, ac9, nx9, sz9, pas9) : SC)) (by omega) L9).symm.trans hG
        have hHe := hH9
        have hLe := hL9
        have hAe : ∃ am9, wz9 (y + 306) = some (aZ X 7 am9) := ⟨_, ham8⟩
        refine lv_iload_n F.1 F.2.1 dX8_play_68 rfl (lv_at hl 0 rfl) ?_
        refine h_top (show (dn : Int) = (runL (okC s2) (stC s2) L0 0 ((σ, ac, nx, sz, pas) : SC)).1 from by rw [← hG2]) ?_
        exact h_ireti F hr hlk hW hS ⟨ho6, (by (rw [hA38_1]) <;> ((rw [← hG2]) <;> rfl)), ⟨_, hrd⟩, ⟨_, _, _, _, _, _, _, _, _, _, hO38_0, hkd9, har9, hA38_0, hop9, hah9⟩, (by rw [← hG2]; exact hHe), (by rw [← hG2]; exact hLe), hAe, (fun q h09 h19 h29 h39 h49 h59 h69 => by rw [hF38 q (by omega) (by omega) (by omega) (by omega) (by omega) (by omega), hn12 q (by omega), hn7 q (by omega), hn3 q (by omega) (by omega)])⟩ dX8_play_69
      · obtain ⟨R8, b8, p8, t8, hR8, hA8, hcase⟩ := rc_c hRC9
        have hSO9 : scO X wz9 y ln cm9 ax9 0 prx kd9 ar9 tlx op9 ah9 := ⟨hO38_0, hkd9, har9, hA38_0, hop9, hah9⟩
        refine lv_aload_n F.1 F.2.1 dX8_play_45 rfl (lv_at hl 2 rfl) ?_
        refine gf_RX8_77 F hW hY rfl dX8_play_46 ?_
        refine cl_RX8_132 (As := []) (rest := []) F hl (c_X7_advance l X wz9 y ln cm9 ax9 0 prx kd9 ar9 tlx op9 ah9 R8 b8 p8 t8 hSO9 (by omega) hA8 hR8) hW hS hO38_0 rfl rfl ⟨Nat.le_of_ble_eq_true rfl, Nat.le_of_ble_eq_true rfl⟩ (Nat.le_of_ble_eq_true rfl) ⟨Nat.zero_le _, Nat.zero_le _⟩ dX8_play_49 (fun w14 H locs hp15 hW hS => ?_)
        obtain ⟨ho16, ha17, hn18⟩ := hp15
        have hY := (hn18 _ (by omega) (by omega)).trans hY
        have ho6 := (hn18 _ (by omega) (by omega)).trans ho6
        have hrd := (hn18 _ (by omega) (by omega)).trans hrd
        have hT := (hn18 _ (by omega) (by omega)).trans hT
        have hA38_1 := (hn18 _ (by omega) (by omega)).trans hA38_1
        have hkd9 := (hn18 _ (by omega) (by omega)).trans hkd9
        have har9 := (hn18 _ (by omega) (by omega)).trans har9
        have hop9 := (hn18 _ (by omega) (by omega)).trans hop9
        have hah9 := (hn18 _ (by omega) (by omega)).trans hah9
        have ham8 := (hn18 _ (by omega) (by omega)).trans ham8
        have hL9 := hL9.mv (w2 := w14) (fun q h1 h2 => hn18 q (by omega) (by omega))
        have hH9 := hH9.mv (w2 := w14) (fun q h1 h2 => hn18 q (by omega) (by omega))
        refine h_ifeqb (tgt := 68) F dX8_play_52 (by decide) (fun c19 => ?_) (fun c19 => ?_)
        · have hL0 : L9 = [] := hcase.elim (fun z => z.2) (fun z => absurd z.1 (by rw [‹b8 = false›]; decide))
          rw [hL0] at hG
          have hG2 : ((dn, ((σ9, ac9, nx9, sz9, pas9) : SC)) : Int × SC) = _ := hG
          have hHe := hH9
          have hLe := hL9
          have hAe : ∃ am9, w14 (y + 306) = some (aZ X 7 am9) := ⟨_, ham8⟩
          refine lv_iload_n F.1 F.2.1 dX8_play_68 rfl (lv_at hl 0 rfl) ?_
          refine h_top (show (dn : Int) = (runL (okC s2) (stC s2) L0 0 ((σ, ac, nx, sz, pas) : SC)).1 from by rw [← hG2]) ?_
          exact h_ireti F hr hlk hW hS ⟨ho6, (by (rw [hA38_1]) <;> ((rw [← hG2]) <;> rfl)), ⟨_, hrd⟩, ⟨_, _, _, _, _, _, _, _, _, _, ho16, hkd9, har9, ha17, hop9, hah9⟩, (by rw [← hG2]; exact hHe), (by rw [← hG2]; exact hLe), hAe, (fun q h09 h19 h29 h39 h49 h59 h69 => by rw [hn18 q (by omega) (by omega), hF38 q (by omega) (by omega) (by omega) (by omega) (by omega) (by omega), hn12 q (by omega), hn7 q (by omega), hn3 q (by omega) (by omega)])⟩ dX8_play_69
        · obtain ⟨-, L8, hL8, hoA, hp8, hRn⟩ := hcase.resolve_left (fun z => absurd z.1 (by rw [‹b8 = true›]; decide))
          have hlen9 : L9.length = L8.length + 1 := by rw [hL8]; rfl
          rw [hL8] at hG
          have hSO8 : scO X w14 y ln cm9 ax9 0 p8 kd9 ar9 t8 op9 ah9 := ⟨ho16, hkd9, har9, ha17, hop9, hah9⟩
          have hY9 : clO X w14 y su := hY
          have hOK := ok_eq (σ := σ9) hoA h09
          rw [okD_eq hoA] at hOK
          have hL9s := hL9.2.2
          refine lv_aload_n F.1 F.2.1 dX8_play_55 rfl (lv_at hl 2 rfl) ?_
          refine cl_RX8_136 (As := []) (rest := []) F hl (c_docs l X w14 y su ac9 am8 σ9 nx9 sz9 pas9 ln cm9 ax9 0 p8 kd9 ar9 t8 op9 ah9 s2 (σ 0) hY9 hA38_1 ham8 hL9 hH9 hSO8 hp8 hoA h09) hW hS hY rfl rfl ⟨Nat.le_of_ble_eq_true rfl, Nat.le_of_ble_eq_true rfl⟩ (Nat.le_of_ble_eq_true rfl) ⟨Nat.zero_le _, Nat.zero_le _⟩ dX8_play_56 (fun w20 H locs hp21 hW hS => ?_)
          obtain ⟨ha22, hHn, hLn, hAn, hn23⟩ := hp21
          have hY := (hn23 _ (by omega) (by omega) (by omega) (by omega)).trans hY
          have ho6 := (hn23 _ (by omega) (by omega) (by omega) (by omega)).trans ho6
          have hrd := (hn23 _ (by omega) (by omega) (by omega) (by omega)).trans hrd
          have ho16 := (hn23 _ (by omega) (by omega) (by omega) (by omega)).trans ho16
          have hT := (hn23 _ (by omega) (by omega) (by omega) (by omega)).trans hT
          have hkd9 := (hn23 _ (by omega) (by omega) (by omega) (by omega)).trans hkd9
          have har9 := (hn23 _ (by omega) (by omega) (by omega) (by omega)).trans har9
          have ha17 := (hn23 _ (by omega) (by omega) (by omega) (by omega)).trans ha17
          have hop9 := (hn23 _ (by omega) (by omega) (by omega) (by omega)).trans hop9
          have hah9 := (hn23 _ (by omega) (by omega) (by omega) (by omega)).trans hah9
          have hor := atO_r hL9s hOK
          refine h_iflt (tgt := 68) F dX8_play_59 (by decide) (by omega) (fun c24 => ?_) (fun c24 => ?_)
          · have hG2 := (runL_f (ok := okC s2) (st := stC s2) (p := p8) (L := L8) (n := dn) (s := ((σ9, ac9, nx9, sz9, pas9) : SC)) (by omega) (decide_eq_false (by show ¬ (0 ≤ atO σ9 (s2 (4 * p8)) (s2 (4 * p8 + 1)) (s2 (4 * p8 + 2)) (s2 (4 * p8 + 3))); omega))).symm.trans hG
            have hHe := hHn
            have hLe := hLn
            have hAe := hAn
            refine lv_iload_n F.1 F.2.1 dX8_play_68 rfl (lv_at hl 0 rfl) ?_
            refine h_top (show (dn : Int) = (runL (okC s2) (stC s2) L0 0 ((σ, ac, nx, sz, pas) : SC)).1 from by rw [← hG2]) ?_
            exact h_ireti F hr hlk hW hS ⟨ho6, (by (rw [ha22]) <;> ((rw [← hG2]) <;> rfl)), ⟨_, hrd⟩, ⟨_, _, _, _, _, _, _, _, _, _, ho16, hkd9, har9, ha17, hop9, hah9⟩, (by rw [← hG2]; exact hHe), (by rw [← hG2]; exact hLe), hAe, (fun q h09 h19 h29 h39 h49 h59 h69 => by rw [hn23 q (by omega) (by omega) (by omega) (by omega), hn18 q (by omega) (by omega), hF38 q (by omega) (by omega) (by omega) (by omega) (by omega) (by omega), hn12 q (by omega), hn7 q (by omega), hn3 q (by omega) (by omega)])⟩ dX8_play_69
          · have hGn := (runL_s (ok := okC s2) (st := stC s2) (p := p8) (L := L8) (n := dn) (s := ((σ9, ac9, nx9, sz9, pas9) : SC)) (by omega) (decide_eq_true (by show 0 ≤ atO σ9 (s2 (4 * p8)) (s2 (4 * p8 + 1)) (s2 (4 * p8 + 2)) (s2 (4 * p8 + 3)); omega))).symm.trans hG
            have h0n := (dS_W hL9s hOK).2.trans h09
            refine h_iinc (k := 0) (a := dn) (lv' := [(2, .int (iI (dn + 1))), (1, .int (iI (bz true))), (0, .ref y)]) F dX8_play_62 hl rfl (by decide) rfl (fun ls hl => ?_)
            refine h_goto (tgt := 38) F dX8_play_65 (by decide) ?_
            have eq25 : ((dn + 1) : Int) = dn + 1 := by first | rfl | omega | simp
            exact ih38  (dn + 1) p8 t8 (dS σ9 (s2 (4 * p8)) (s2 (4 * p8 + 1)) (s2 (4 * p8 + 2)) (s2 (4 * p8 + 3))) (dA ac9 σ9 (s2 (4 * p8)) (s2 (4 * p8 + 1)) (s2 (4 * p8 + 2)) (s2 (4 * p8 + 3))) (dN nx9 σ9 (s2 (4 * p8)) (s2 (4 * p8 + 1)) (s2 (4 * p8 + 2)) (s2 (4 * p8 + 3))) (dZ sz9 σ9 (s2 (4 * p8)) (s2 (4 * p8 + 1)) (s2 (4 * p8 + 2)) (s2 (4 * p8 + 3))) (dH sz9 pas9 σ9 (s2 (4 * p8)) (s2 (4 * p8 + 1)) (s2 (4 * p8 + 2)) (s2 (4 * p8 + 3))) L8 trivial (by omega) w20 ho16 ha17 ha22 (fun q h09 h19 h29 h39 h49 h59 => by rw [hn23 q (by omega) (by omega) (by omega) (by omega), hn18 q (by omega) (by omega), hF38 q (by omega) (by omega) (by omega) (by omega) (by omega) (by omega)]) hRn hLn hHn hAn h0n (by omega) hGn _ _ ls hW hS (by rw [eq25]; exact lv_sub hl [0, 1, 2] rfl)
  exact loop38 (((L0.length : Nat) : Int) + 1 : Int).toNat  0 (-1) tl9 σ ac nx sz pas L0  trivial (by omega) w9 ho11 htl9 hac (fun q _ _ _ _ _ _ => rfl) (hRC8 tl9) hL hH (⟨_, ham⟩) rfl (by decide) rfl _ _ ls hW hS (lv_sub hl [0, 1, 2] rfl)
