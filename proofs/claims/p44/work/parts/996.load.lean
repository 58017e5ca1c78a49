theorem rdG_I {f : Int → Int} : ∀ (n : Nat) (v d : Int → Int), vI f v → WF d → vI f (rdG f n v d).1 ∧ WF (rdG f n v d).2
  | 0, v, d, h, hd => ⟨h, hd⟩
  | n + 1, v, d, h, hd => by
    show vI f (if v 18 = 0 ∧ v 16 ≠ 0 then rdG f n (bdV f v d) (bdD f v d) else (v, d)).1 ∧ WF (if v 18 = 0 ∧ v 16 ≠ 0 then rdG f n (bdV f v d) (bdD f v d) else (v, d)).2
    split
    · exact rdG_I n _ _ (bd_I h) (bdD_W h.1 hd)
    · exact ⟨h, hd⟩
theorem rdF_I {f v d : Int → Int} (h : vI f v) : vI f (rdF f v d).1 ∧ WF (rdF f v d).2 := by
  have e := (rd4_E h.1).1
  exact rdG_I _ _ _ ⟨rd4_P h.1, by rw [e 22 (by omega)]; exact h.2.1, by rw [e 23 (by omega)]; exact h.2.2⟩ (rdD_W f v d)
/-- what the class's reading of designs needs to be there -/
def dsA (X : Cx) (w : Wo) (y : Nat) : Prop := (∃ τ, dlA X w (y + 26) τ) ∧ (∃ c1 d1 : Int, w (y + 312) = some (.inr (2, [.ref (y + 311), .ref (y + 313), .int (iI c1), .int (iI d1)]))) ∧ bxA X w y
theorem dsA.mv {X : Cx} {w w2 : Wo} {y : Nat} (h : dsA X w y) (hf : ∀ q : Nat, y + 26 ≤ q → q < y + 315 → (q < y + 51 ∨ y + 312 ≤ q) → w2 q = w q) : dsA X w2 y := by
  obtain ⟨⟨τ, h1⟩, ⟨c1, d1, h2⟩, h3⟩ := h
  exact ⟨⟨τ, h1.mv (fun q q0 q1 => hf q (by omega) (by omega) (by omega))⟩, ⟨c1, d1, (hf _ (by omega) (by omega) (by omega)).trans h2⟩, h3.mv (fun q q0 q1 => hf q (by omega) (by omega) (by omega))⟩
def lv0 (v : Int → Int) : Int → Int := up (up (up v 6 0) 22 0) 23 0
def enV (u : Int → Int) : Int → Int := up (up (up u 11 0) 20 (u 18)) 21 (u 19)
set_option maxHeartbeats 4000000 in
set_option maxRecDepth 100000 in
theorem c_load_x (l : Launch) (X : Cx) (w : Wo) (y : Nat) (su : Int) (σ : Int → Int) (nx sz : Int) (pas : Int → Int → Int) (N : Int) (f v d rv : Int → Int) (hY : clO X w y su) (hL : loomAt X w (y + 1) σ) (hH : hisAt X w (y + 53) nx sz pas) (hds : dsA X w y) (hR : w (y + 311) = some (.inr (6, rL (y + 307) rv))) (hB : w (y + 307) = some (.inr (0, [.ref (y + 308), .int (iI N)]))) (hT : w (y + 308) = some (aZ X 400 f)) (hN : v 11 = N) (hN4 : 0 ≤ N ∧ N ≤ 400) (hfb : ∀ i, 0 ≤ i → i < N → 0 ≤ f i ∧ f i ≤ 255) (h22 : v 22 = 0) (h23 : v 23 = 0) (hq : (rdF f (ld0 f v) d).1 18 ≠ 0) : CM l X yX8_load cX8_load 2 (some (.int)) (rmk 10 214) [.ref y] w (some (.int (iI (-1)))) (fun w' => w' (y + 307) = some (.inr (0, [.ref (y + 308), .int (iI 0)])) ∧ (∃ m : Int, w' (y + 311) = some (.inr (6, rL (y + 307) (cR f N ((rdF f (ld0 f v) d).1) m)))) ∧ dsA X w' y ∧ ∀ q : Nat, q ≠ y + 311 → q ≠ y + 312 → q ≠ y + 313 → q ≠ y + 313 + 1 → q ≠ y + 307 → (q < y + 26 ∨ y + 51 ≤ q) → w' q = w q) := by
  refine CM.of (lv := [(0, .ref y)]) (by decide) (Nat.le_of_ble_eq_true rfl) rfl (fun p e s m below meth c ls F hr hlk hin hW hS hl => ?_)
  have hZ0 := hW.2.2
  have hB9 := hW.1.2
  clear hin
  unfold clO at hY
  have hO := hL.1.o
  have hA := hL.1
  have hwf := hL.2.2
  have hF := hwf.1
  unfold WF0 at hF
  obtain ⟨⟨τ0, hD⟩, ⟨ct, dt, hE⟩, bn, bsd, bx, by9, bc, bf, hv⟩ := hds
  have hLo := hD.1.o
  have hHo := hH.1
  have hv1 := hv.1
  have hv2 := hv.2
  refine lv_aload_n F.1 F.2.1 dX8_load_0 rfl (lv_at hl 0 rfl) ?_
  refine gf_RX8_70 F hW hY rfl dX8_load_1 ?_
  refine lv_aload_n F.1 F.2.1 dX8_load_4 rfl (lv_at hl 0 rfl) ?_
  refine gf_RX8_16 F hW hY rfl dX8_load_5 ?_
  refine cl_RX8_104 (As := [.ref (y + 26)]) (rest := []) F hl (c_X2_readInto l X w y N f v d rv τ0 ct dt bn bsd bx by9 bc bf hR hB hT hN (by omega) hfb h22 h23 hE hv hD) hW hS hE rfl rfl ⟨Nat.le_of_ble_eq_true rfl, Nat.le_of_ble_eq_true rfl⟩ (Nat.le_of_ble_eq_true rfl) ⟨Nat.zero_le _, Nat.zero_le _⟩ dX8_load_8 (fun w1 H locs hp2 hW hS => ?_)
  obtain ⟨hRL, hEX, hBX, hLX, hn3⟩ := hp2
  have hY := (hn3 _ (by omega) (by omega) (by omega) (by omega) (by omega)).trans hY
  have hO := (hn3 _ (by omega) (by omega) (by omega) (by omega) (by omega)).trans hO
  have hB := (hn3 _ (by omega) (by omega) (by omega) (by omega) (by omega)).trans hB
  have hHo := (hn3 _ (by omega) (by omega) (by omega) (by omega) (by omega)).trans hHo
  have hT := (hn3 _ (by omega) (by omega) (by omega) (by omega) (by omega)).trans hT
  have hL := hL.mv (w2 := w1) (fun q h1 h2 => hn3 q (by omega) (by omega) (by omega) (by omega) (by omega))
  have hH := hH.mv (w2 := w1) (fun q h1 h2 => hn3 q (by omega) (by omega) (by omega) (by omega) (by omega))
  obtain ⟨m8, hrd⟩ := hRL
  obtain ⟨c1, d1, hE8⟩ := hEX
  have hBX : bxA X w1 y := hBX
  obtain ⟨τ1, hD, hτ⟩ := hLX
  have hLo := hD.1.o
  refine h_top (show (bz (decide ((rdF f (ld0 f v) d).1 18 = 0)) : Int) = bz false from congrArg bz (decide_eq_false hq)) ?_
  refine lv_istore_n (lv' := [(1, .int (iI (bz false))), (0, .ref y)]) F.1 F.2.1 dX8_load_11 rfl hl (by decide) rfl (fun ls hl => ?_)
  refine lv_aload_n F.1 F.2.1 dX8_load_12 rfl (lv_at hl 1 rfl) ?_
  refine gf_RX8_49 F hW hY rfl dX8_load_13 ?_
  refine h_iconst F dX8_load_16 ?_
  refine cl_RX8_101 (As := [.int (iI 0)]) (rest := []) F hl (c_X0_cutTo l X w1 (y + 307) (y + 308) N f 0 hB hT (by omega)) hW hS hB rfl rfl ⟨Nat.le_of_ble_eq_true rfl, Nat.le_of_ble_eq_true rfl⟩ (Nat.le_of_ble_eq_true rfl) ⟨Nat.zero_le _, Nat.zero_le _⟩ dX8_load_17 (fun w4 H locs hp5 hW hS => ?_)
  obtain ⟨ho6, hn7⟩ := hp5
  have hY := (hn7 _ (by omega)).trans hY
  have hO := (hn7 _ (by omega)).trans hO
  have hHo := (hn7 _ (by omega)).trans hHo
  have hrd := (hn7 _ (by omega)).trans hrd
  have hE8 := (hn7 _ (by omega)).trans hE8
  have hLo := (hn7 _ (by omega)).trans hLo
  have hT := (hn7 _ (by omega)).trans hT
  have hL := hL.mv (w2 := w4) (fun q h1 h2 => hn7 q (by omega))
  have hH := hH.mv (w2 := w4) (fun q h1 h2 => hn7 q (by omega))
  have hD := hD.mv (w2 := w4) (fun q h1 h2 => hn7 q (by omega))
  have hBX := hBX.mv (w2 := w4) (fun q h1 h2 => hn7 q (by omega))
  refine lv_iload_n F.1 F.2.1 dX8_load_20 rfl (lv_at hl 0 rfl) ?_
  refine h_top (show (bz false : Int) = 0 from rfl) ?_
  refine h_ifne (tgt := 26) F dX8_load_21 (by decide) (by decide) (fun c9 => absurd c9 (by decide)) (fun _ => ?_)
  refine h_iconst F dX8_load_24 ?_
  refine h_top (show ((-1) : Int) = -1 from by first | rfl | omega | (simp_all; done)) ?_
  exact h_ireti F hr hlk hW hS ⟨ho6, ⟨_, hrd⟩, ⟨⟨_, hD⟩, ⟨_, _, hE8⟩, hBX⟩, (fun q h09 h19 h29 h39 h49 h59 => by rw [hn7 q (by omega), hn3 q (by omega) (by omega) (by omega) (by omega) (by omega)])⟩ dX8_load_25
set_option maxHeartbeats 4000000 in
set_option maxRecDepth 100000 in
theorem c_X8_load (l : Launch) (X : Cx) (w : Wo) (y : Nat) (su : Int) (σ : Int → Int) (nx sz : Int) (pas : Int → Int → Int) (N : Int) (f v d rv : Int → Int) (pas2 : Int → Int → Int) (hY : clO X w y su) (hL : loomAt X w (y + 1) σ) (hH : hisAt X w (y + 53) nx sz pas) (hds : dsA X w y) (hR : w (y + 311) = some (.inr (6, rL (y + 307) rv))) (hB : w (y + 307) = some (.inr (0, [.ref (y + 308), .int (iI N)]))) (hT : w (y + 308) = some (aZ X 400 f)) (hN : v 11 = N) (hN4 : 0 ≤ N ∧ N ≤ 400) (hfb : ∀ i, 0 ≤ i → i < N → 0 ≤ f i ∧ f i ≤ 255) (h22 : v 22 = 0) (h23 : v 23 = 0) (hq : (rdF f (ld0 f v) d).1 18 = 0) : CM l X yX8_load cX8_load 2 (some (.int)) (rmk 10 214) [.ref y] w (some (.int (iI ((rdF f (ld0 f v) d).2 5)))) (fun w' => w' (y + 307) = some (.inr (0, [.ref (y + 308), .int (iI 0)])) ∧ (∃ m : Int, w' (y + 311) = some (.inr (6, rL (y + 307) (cR f N ((rdF f (ld0 f v) d).1) m)))) ∧ hisAt X w' (y + 53) nx 0 pas2 ∧ loomAt X w' (y + 1) (rdF f (ld0 f v) d).2 ∧ dsA X w' y ∧ ∀ q : Nat, q ≠ y + 311 → q ≠ y + 312 → q ≠ y + 313 → q ≠ y + 313 + 1 → q ≠ y + 307 → (q < y + 26 ∨ y + 51 ≤ q) → q ≠ y + 53 → (q < y + 1 ∨ y + 26 ≤ q) → w' q = w q) := by
  refine CM.of (lv := [(0, .ref y)]) (by decide) (Nat.le_of_ble_eq_true rfl) rfl (fun p e s m below meth c ls F hr hlk hin hW hS hl => ?_)
  have hZ0 := hW.2.2
  have hB9 := hW.1.2
  clear hin
  unfold clO at hY
  have hO := hL.1.o
  have hA := hL.1
  have hwf := hL.2.2
  have hF := hwf.1
  unfold WF0 at hF
  obtain ⟨⟨τ0, hD⟩, ⟨ct, dt, hE⟩, bn, bsd, bx, by9, bc, bf, hv⟩ := hds
  have hLo := hD.1.o
  have hHo := hH.1
  have hv1 := hv.1
  have hv2 := hv.2
  have hFI := rdF_I (d := d) (ld0_I hN4 hfb hN h22 h23)
  refine lv_aload_n F.1 F.2.1 dX8_load_0 rfl (lv_at hl 0 rfl) ?_
  refine gf_RX8_70 F hW hY rfl dX8_load_1 ?_
  refine lv_aload_n F.1 F.2.1 dX8_load_4 rfl (lv_at hl 0 rfl) ?_
  refine gf_RX8_16 F hW hY rfl dX8_load_5 ?_
  refine cl_RX8_104 (As := [.ref (y + 26)]) (rest := []) F hl (c_X2_readInto l X w y N f v d rv τ0 ct dt bn bsd bx by9 bc bf hR hB hT hN (by omega) hfb h22 h23 hE hv hD) hW hS hE rfl rfl ⟨Nat.le_of_ble_eq_true rfl, Nat.le_of_ble_eq_true rfl⟩ (Nat.le_of_ble_eq_true rfl) ⟨Nat.zero_le _, Nat.zero_le _⟩ dX8_load_8 (fun w1 H locs hp2 hW hS => ?_)
  obtain ⟨hRL, hEX, hBX, hLX, hn3⟩ := hp2
  have hY := (hn3 _ (by omega) (by omega) (by omega) (by omega) (by omega)).trans hY
  have hO := (hn3 _ (by omega) (by omega) (by omega) (by omega) (by omega)).trans hO
  have hB := (hn3 _ (by omega) (by omega) (by omega) (by omega) (by omega)).trans hB
  have hHo := (hn3 _ (by omega) (by omega) (by omega) (by omega) (by omega)).trans hHo
  have hT := (hn3 _ (by omega) (by omega) (by omega) (by omega) (by omega)).trans hT
  have hL := hL.mv (w2 := w1) (fun q h1 h2 => hn3 q (by omega) (by omega) (by omega) (by omega) (by omega))
  have hH := hH.mv (w2 := w1) (fun q h1 h2 => hn3 q (by omega) (by omega) (by omega) (by omega) (by omega))
  obtain ⟨m8, hrd⟩ := hRL
  obtain ⟨c1, d1, hE8⟩ := hEX
  have hBX : bxA X w1 y := hBX
  obtain ⟨τ1, hD, hτ⟩ := hLX
  have hLo := hD.1.o
  refine h_top (show (bz (decide ((rdF f (ld0 f v) d).1 18 = 0)) : Int) = bz true from congrArg bz (decide_eq_true hq)) ?_
  refine lv_istore_n (lv' := [(1, .int (iI (bz true))), (0, .ref y)]) F.1 F.2.1 dX8_load_11 rfl hl (by decide) rfl (fun ls hl => ?_)
  refine lv_aload_n F.1 F.2.1 dX8_load_12 rfl (lv_at hl 1 rfl) ?_
  refine gf_RX8_49 F hW hY rfl dX8_load_13 ?_
  refine h_iconst F dX8_load_16 ?_
  refine cl_RX8_101 (As := [.int (iI 0)]) (rest := []) F hl (c_X0_cutTo l X w1 (y + 307) (y + 308) N f 0 hB hT (by omega)) hW hS hB rfl rfl ⟨Nat.le_of_ble_eq_true rfl, Nat.le_of_ble_eq_true rfl⟩ (Nat.le_of_ble_eq_true rfl) ⟨Nat.zero_le _, Nat.zero_le _⟩ dX8_load_17 (fun w4 H locs hp5 hW hS => ?_)
  obtain ⟨ho6, hn7⟩ := hp5
  have hY := (hn7 _ (by omega)).trans hY
  have hO := (hn7 _ (by omega)).trans hO
  have hHo := (hn7 _ (by omega)).trans hHo
  have hrd := (hn7 _ (by omega)).trans hrd
  have hE8 := (hn7 _ (by omega)).trans hE8
  have hLo := (hn7 _ (by omega)).trans hLo
  have hT := (hn7 _ (by omega)).trans hT
  have hL := hL.mv (w2 := w4) (fun q h1 h2 => hn7 q (by omega))
  have hH := hH.mv (w2 := w4) (fun q h1 h2 => hn7 q (by omega))
  have hD := hD.mv (w2 := w4) (fun q h1 h2 => hn7 q (by omega))
  have hBX := hBX.mv (w2 := w4) (fun q h1 h2 => hn7 q (by omega))
  refine lv_iload_n F.1 F.2.1 dX8_load_20 rfl (lv_at hl 0 rfl) ?_
  refine h_top (show (bz true : Int) = 1 from rfl) ?_
  refine h_ifne (tgt := 26) F dX8_load_21 (by decide) (by decide) (fun _ => ?_) (fun c9 => absurd c9 (by decide))
  rw [hτ hq] at hD
  refine lv_aload_n F.1 F.2.1 dX8_load_26 rfl (lv_at hl 1 rfl) ?_
  refine gf_RX8_16 F hW hY rfl dX8_load_27 ?_
  refine cl_RX8_108 (As := []) (rest := []) F hl (c_X5_paint l X w4 (y + 26) ((rdF f (ld0 f v) d).2) hD.1 hFI.2) hW hS hLo rfl rfl ⟨Nat.le_of_ble_eq_true rfl, Nat.le_of_ble_eq_true rfl⟩ (Nat.le_of_ble_eq_true rfl) ⟨Nat.zero_le _, Nat.zero_le _⟩ dX8_load_30 (fun w9 H locs hp10 hW hS => ?_)
  obtain ⟨hDl, hn11⟩ := hp10
  have hY := (hn11 _ (by omega)).trans hY
  have hO := (hn11 _ (by omega)).trans hO
  have ho6 := (hn11 _ (by omega)).trans ho6
  have hHo := (hn11 _ (by omega)).trans hHo
  have hrd := (hn11 _ (by omega)).trans hrd
  have hE8 := (hn11 _ (by omega)).trans hE8
  have hLo := (hn11 _ (by omega)).trans hLo
  have hT := (hn11 _ (by omega)).trans hT
  have hL := hL.mv (w2 := w9) (fun q h1 h2 => hn11 q (by omega))
  have hH := hH.mv (w2 := w9) (fun q h1 h2 => hn11 q (by omega))
  have hBX := hBX.mv (w2 := w9) (fun q h1 h2 => hn11 q (by omega))
  refine lv_aload_n F.1 F.2.1 dX8_load_33 rfl (lv_at hl 1 rfl) ?_
  refine gf_RX8_10 F hW hY rfl dX8_load_34 ?_
  refine lv_aload_n F.1 F.2.1 dX8_load_37 rfl (lv_at hl 1 rfl) ?_
  refine gf_RX8_16 F hW hY rfl dX8_load_38 ?_
  refine cl_RX8_111 (As := [.ref (y + 26)]) (rest := []) F hl (c_X5_copyFrom l X w9 (y + 1) σ ((rdF f (ld0 f v) d).2) (y + 26) hL.1 hDl (by omega)) hW hS hO rfl rfl ⟨Nat.le_of_ble_eq_true rfl, Nat.le_of_ble_eq_true rfl⟩ (Nat.le_of_ble_eq_true rfl) ⟨Nat.zero_le _, Nat.zero_le _⟩ dX8_load_41 (fun w12 H locs hp13 hW hS => ?_)
  obtain ⟨hNw, hn14⟩ := hp13
  have hY := (hn14 _ (by omega)).trans hY
  have ho6 := (hn14 _ (by omega)).trans ho6
  have hHo := (hn14 _ (by omega)).trans hHo
  have hrd := (hn14 _ (by omega)).trans hrd
  have hE8 := (hn14 _ (by omega)).trans hE8
  have hLo := (hn14 _ (by omega)).trans hLo
  have hT := (hn14 _ (by omega)).trans hT
  have hH := hH.mv (w2 := w12) (fun q h1 h2 => hn14 q (by omega))
  have hBX := hBX.mv (w2 := w12) (fun q h1 h2 => hn14 q (by omega))
  have hDl := hDl.mv (w2 := w12) (fun q h1 h2 => hn14 q (by omega))
  have hO2 := hNw.1.o
  refine lv_aload_n F.1 F.2.1 dX8_load_44 rfl (lv_at hl 1 rfl) ?_
  refine gf_RX8_29 F hW hY rfl dX8_load_45 ?_
  refine cl_RX8_115 (As := []) (rest := []) F hl (c_X4_clear l X w12 (y + 53) nx sz pas pas2 hH) hW hS hHo rfl rfl ⟨Nat.le_of_ble_eq_true rfl, Nat.le_of_ble_eq_true rfl⟩ (Nat.le_of_ble_eq_true rfl) ⟨Nat.zero_le _, Nat.zero_le _⟩ dX8_load_48 (fun w15 H locs hp16 hW hS => ?_)
  obtain ⟨hcl, hn17⟩ := hp16
  have hY := (hn17 _ (by omega)).trans hY
  have ho6 := (hn17 _ (by omega)).trans ho6
  have hrd := (hn17 _ (by omega)).trans hrd
  have hE8 := (hn17 _ (by omega)).trans hE8
  have hLo := (hn17 _ (by omega)).trans hLo
  have hO2 := (hn17 _ (by omega)).trans hO2
  have hT := (hn17 _ (by omega)).trans hT
  have hBX := hBX.mv (w2 := w15) (fun q h1 h2 => hn17 q (by omega))
  have hDl := hDl.mv (w2 := w15) (fun q h1 h2 => hn17 q (by omega))
  have hNw := hNw.mv (w2 := w15) (fun q h1 h2 => hn17 q (by omega))
  refine lv_aload_n F.1 F.2.1 dX8_load_51 rfl (lv_at hl 1 rfl) ?_
  refine gf_RX8_10 F hW hY rfl dX8_load_52 ?_
  refine gf_RX8_118 F hW hO2 rfl dX8_load_55 ?_
  refine h_top (show (((rdF f (ld0 f v) d).2) 5 : Int) = (rdF f (ld0 f v) d).2 5 from by first | rfl | omega | (simp_all; done)) ?_
  exact h_ireti F hr hlk hW hS ⟨ho6, ⟨_, hrd⟩, hcl, hNw, ⟨⟨_, hDl.1, hFI.2.cap8⟩, ⟨_, _, hE8⟩, hBX⟩, (fun q h09 h19 h29 h39 h49 h59 h69 h79 => by rw [hn17 q (by omega), hn14 q (by omega), hn11 q (by omega), hn7 q (by omega), hn3 q (by omega) (by omega) (by omega) (by omega) (by omega)])⟩ dX8_load_58
