theorem rdG_I {f : Int → Int} : ∀ (n : Nat) (v d : Int → Int), vI f v → WF d → vI f (rdG f n v d).1 ∧ WF (rdG f n v d).2
  | 0, v, d, h, hd => ⟨h, hd⟩
  | n + 1, v, d, h, hd => by
    show vI f (if v 18 = 0 ∧ v 16 ≠ 0 then rdG f n (bdV f v d) (bdD f v d) else (v, d)).1 ∧ WF (if v 18 = 0 ∧ v 16 ≠ 0 then rdG f n (bdV f v d) (bdD f v d) else (v, d)).2
    split
    · exact rdG_I n _ _ (bd_I h) (bdD_W h.1 hd)
    · exact ⟨h, hd⟩
theorem rdF_I {f v d : Int → Int} (h : vI f v) : vI f (rdF f v d).1 ∧ WF (rdF f v d).2 := by
  have e := (rd4_E h.1).1
  exact rdG_I _ _ _ ⟨rd4_P h.1, by rw [e 22 (by omega)]; exact h.2.1, by rw [e 23 (by omega)]; exact h.2.2⟩ (rdD_W f v d)
/-- what the class's reading of designs needs to be there -/
def dsA (X : Cx) (w : Wo) (y : Nat) : Prop := (∃ τ, dlA X w (y + 26) τ) ∧ (∃ c1 d1 : Int, w (y + 312) = some (.inr (2, [.ref (y + 311), .ref (y + 313), .int (iI c1), .int (iI d1)]))) ∧ bxA X w y
theorem dsA.mv {X : Cx} {w w2 : Wo} {y : Nat} (h : dsA X w y) (hf : ∀ q : Nat, y + 26 ≤ q → q < y + 315 → (q < y + 51 ∨ y + 312 ≤ q) → w2 q = w q) : dsA X w2 y := by
  obtain ⟨⟨τ, h1⟩, ⟨c1, d1, h2⟩, h3⟩ := h
  exact ⟨⟨τ, h1.mv (fun q q0 q1 => hf q (by omega) (by omega) (by omega))⟩, ⟨c1, d1, (hf _ (by omega) (by omega) (by omega)).trans h2⟩, h3.mv (fun q q0 q1 => hf q (by omega) (by omega) (by omega))⟩
def lv0 (v : Int → Int) : Int → Int := up (up (up v 6 0) 22 0) 23 0
def enV (u : Int → Int) : Int → Int := up (up (up u 11 0) 20 (u 18)) 21 (u 19)
set_option maxHeartbeats 4000000 in
set_option maxRecDepth 100000 in
theorem c_load_x (l : Launch) (X : Cx) (w : Wo) (y : Nat) (su : Int) (σ : Int → Int) (nx sz : Int) (pas : Int → Int → Int) (N : Int) (f v d rv : Int → Int) (hY : clO X w y su) (hL : loomAt X w (y + 1) σ) (hH : hisAt X w (y + 53) nx sz pas) (hds : dsA X w y) (hR : w (y + 311) = some (.inr (6, rL (y + 307) rv))) (hB : w (y + 307) = some (.inr (0, [.ref (y + 308), .int (iI N)]))) (hT : w (y + 308) = some (aZ X 400 f)) (hN : v 11 = N) (hN4 : 0 ≤ N ∧ N ≤ 400) (hfb : ∀ i, 0 ≤ i → i < N → 0 ≤ f i ∧ f i ≤ 255) (h22 : v 22 = 0) (h23 : v 23 = 0) (hq : (rdF f (ld0 f v) d).1 18 ≠ 0) : CM l X yX8_load cX8_load 2 (some (.int)) (rmk 10 214) [.ref y] w (some (.int (iI (-1)))) (fun w' => w' (y + 307) = some (.inr (0, [.ref (y + 308), .int (iI 0)])) ∧ (∃ m : Int, w' (y + 311) = some (.inr (6, rL (y + 307) (cR f N ((rdF f (ld0 f v) d).1) m)))) ∧ dsA X w' y ∧ ∀ q : Nat, q ≠ y + 311 → q ≠ y + 312 → q ≠ y + 313 → q ≠ y + 313 + 1 → q ≠ y + 307 → (q < y + 26 ∨ y + 51 ≤ q) → w' q = w q) := by
  refine CM.of (lv := [(0, .ref y)]) (by decide) (Nat.le_of_ble_eq_true rfl) rfl (fun p e s m below meth c ls F hr hlk hin hW hS hl => ?_)
  have hZ0 := hW.2.2
  have hB9 := hW.1.2
  clear hin
  unfold clO at hY
  have hO := hL.1.o
  have hA := hL.1
  have hwf := hL.2.2
  have hF := hwf.1
  unfold WF0 at hF
  obtain ⟨⟨τ0, hD⟩, ⟨ct, dt, hE⟩, bn, bsd, bx, by9, bc, bf, hv⟩ := hds
  have hLo := hD.1.o
  have hHo := hH.1
  have hv1 := hv.1
  have hv2 := hv.2
  refine lv_aload_n F.1 F.2.1 dX8_load_0 rfl (lv_at hl 0 rfl) ?_
  refine gf_RX8_70 F hW hY rfl dX8_load_1 ?_
  refine lv_aload_n F.1 F.2.1 dX8_load_4 rfl (lv_at hl 0 rfl) ?_
  refine gf_RX8_16 F hW hY rfl dX8_load_5 ?_
  refine cl_RX8_104 (As := [.ref (y + 26)]) (rest := []) F hl (c_X2_readInto l X w y N f v d rv τ0 ct dt bn bsd bx by9 bc bf hR hB hT hN (by omega) hfb h22 h23 hE hv hD) hW hS hE rfl rfl ⟨Nat.le_of_ble_eq_true rfl, Nat.le_of_ble_eq_true rfl⟩ (Nat.le_of_ble_eq_true rfl) ⟨Nat.zero_le _, Nat.zero_le _⟩ dX8_load_8 (fun w1 H locs hp2 hW hS => ?_)
  obtain ⟨hRL, hEX, hBX, hLX, hn3⟩ := hp2
  have hY := (hn3 _ (by omega) (by omega) (by omega) (by omega) (by omega)).trans hY
  have hO := (hn3 _ (by omega) (by omega) (by omega) (by omega) (by omega)).trans hO
  have hB := (hn3 _ (by omega) (by omega) (by omega) (by omega) (by omega)).trans hB
  have hHo := (hn3 _ (by omega) (by omega) (by omega) (by omega) (by omega)).trans hHo
  have hT := (hn3 _ (by omega) (by omega) (by omega) (by omega) (by omega)).trans hT
  have hL := hL.mv (w2 := w1) (fun q h1 h2 => hn3 q (by omega) (by omega) (by omega) (by omega) (by omega))
  have hH := hH.mv (w2 := w1) (fun q h1 h2 => hn3 q (by omega) (by omega) (by omega) (by omega) (by omega))
  obtain ⟨m8, hrd⟩ := hRL
  obtain ⟨c1, d1, hE8⟩ := hEX
  have hBX : bxA X w1 y := hBX
  obtain ⟨τ1, hD, hτ⟩ := hLX
  have hLo := hD.1.o
  refine h_top (show (bz (decide ((rdF f (ld0 f v) d).1 18 = 0)) : Int) = bz false from congrArg bz (decide_eq_false hq)) ?_
  refine lv_istore_n (lv' := [(1, .int (iI (bz false))), (0, .ref y)]) F.1 F.2.1 dX8_load_11 rfl hl (by decide) rfl (fun ls hl => ?_)
  refine lv_aload_n F.1 F.2.1 dX8_load_12 rfl (lv_at hl 1 rfl) ?_
  refine gf_RX8_49 F hW hY rfl dX8_load_13 ?_
  refine h_iconst F dX8_load_16 ?_
  refine cl_RX8_101 (As := [.int (iI 0)]) (rest := []) F hl (c_X0_cutTo l X w1 (y + 307) (y + 308) N f 0 hB hT (by omega)) hW hS hB rfl rfl ⟨Nat.le_of_ble_eq_true rfl, Nat.le_of_ble_eq_true rfl⟩ (Nat.le_of_ble_eq_true rfl) ⟨Nat.zero_le _, Nat.zero_le _⟩ dX8_load_17 (fun w4 H locs hp5 hW hS => ?_)
  obtain ⟨ho6, hn7⟩ := hp5
  have hY := (hn7 _ (by omega)).trans hY
  have hO := (hn7 _ (by omega)).trans hO
  have hHo := (hn7 _ (by omega)).trans hHo
  have hrd := (hn7 _ (by omega)).trans hrd
  have hE8 := (hn7 _ (by omega)).trans hE8
  have hLo := (hn7 _ (by omega)).trans hLo
  have hT := (hn7 _ (by omega)).trans hT
  have hL := hL.mv (w2 := w4) (fun q h1 h2 => hn7 q (by omega))
  have hH := hH.mv (w2 := w4) (fun q h1 h2 => hn7 q (by omega))
  have hD := hD.mv (w2 := w4) (fun q h1 h2 => hn7 q (by omega))
  have hBX := hBX.mv (w2 := w4) (fun q h1 h2 => hn7 q (by omega))
  refine lv_iload_n F.1 F.2.1 dX8_load_20 rfl (lv_at hl 0 rfl) ?_
  refine h_top (show (bz false : Int) = 0 from rfl) ?_
  refine h_ifne (tgt := 26) F dX8_load_21 (by decide) (by decide) (fun c9 => absurd c9 (by decide)) (fun _ => ?_)
  refine h_iconst F dX8_load_24 ?_
  refine h_top (show ((-1) : Int) = -1 from by first | rfl | omega | (simp_all; done)) ?_
  exact h_ireti F hr hlk hW hS ⟨ho6, ⟨_, hrd⟩, ⟨⟨_, hD⟩, ⟨_, _, hE8⟩, hBX⟩, (fun q h09 h19 h29 h39 h49 h59 => by rw [hn7 q (by omega), hn3 q (by omega) (by omega) (by omega) (by omega) (by omega)])⟩ dX8_load_25
set_option maxHeartbeats 4000000 in
set_option maxRecDepth 100000 in
theorem c_X8_load (l : Launch) (X : Cx) (w : Wo) (y : Nat) (su : Int) (σ : Int → Int) (nx sz : Int) (pas : Int → Int → Int) (N : Int) (f v d rv : Int → Int) (pas2 : Int → Int → Int) (hY : clO X w y su) (hL : loomAt X w (y + 1) σ) (hH : hisAt X w (y + 53) nx sz pas) (hds : dsA X w y) (hR : w (y + 311) = some (.inr (6, rL (y + 307) rv))) (hB : w (y + 307) = some (.inr (0, [.ref (y + 308), .int (iI N)]))) (hT : w (y + 308) = some (aZ X 400 f)) (hN : v 11 = N) (hN4 : 0 ≤ N ∧ N ≤ 400) (hfb : ∀ i, 0 ≤ i → i < N → 0 ≤ f i ∧ f i ≤ 255) (h22 : v 22 = 0) (h23 : v 23 = 0) (hq : (rdF f (ld0 f v) d).1 18 = 0) : CM l X yX8_load cX8_load 2 (some (.int)) (rmk 10 214) [.ref y] w (some (.int (iI ((rdF f (ld0 f v) d).2 5)))) (fun w' => w' (y + 307) = some (.inr (0, [.ref (y + 308), .int (iI 0)])) ∧ (∃ m : Int, w' (y + 311) = some (.inr (6, rL (y + 307) (cR f N ((rdF f (ld0 f v) d).1) m)))) ∧ hisAt X w' (y + 53) nx 0 pas2 ∧ loomAt X w' (y + 1) (rdF f (ld0 f v) d).2 ∧ dsA X w' y ∧ ∀ q : Nat, q ≠ y + 311 → q ≠ y + 312 → q ≠ y + 313 → q ≠ y + 313 + 1 → q ≠ y + 307 → (q < y + 26 ∨ y + 51 ≤ q) → q ≠ y + 53 → (q < y + 1 ∨ y + 26 ≤ q) → w' q = w q) := by
  refine CM.of (lv := [(0, .ref y)]) (by decide) (Nat.le_of_ble_eq_true rfl) rfl (fun p e s m below meth c ls F hr hlk hin hW hS hl => ?_)
  have hZ0 := hW.2.2
  have hB9 := hW.1.2
  clear hin
  unfold clO at hY
  have hO := hL.1.o
  have hA := hL.1
  have hwf := hL.2.2
  have hF := hwf.1
  unfold WF0 at hF
  obtain ⟨⟨τ0, hD⟩, ⟨ct, dt, hE⟩, bn, bsd, bx, by9, bc, bf, hv⟩ := hds
  have hLo := hD.1.o
  have hHo := hH.1
  have hv1 := hv.1
  have hv2 := hv.2
  have hFI := rdF_I (d := d) (ld0_I hN4 hfb hN h22 h23)
  refine lv_aload_n F.1 F.2.1 dX8_load_0 rfl (lv_at hl 0 rfl) ?_
  refine gf_RX8_70 F hW hY rfl dX8_load_1 ?_
  refine lv_aload_n F.1 F.2.1 dX8_load_4 rfl (lv_at hl 0 rfl) ?_
  refine gf_RX8_16 F hW hY rfl dX8_load_5 ?_
  refine cl_RX8_104 (As := [.ref (y + 26)]) (rest := []) F hl (c_X2_readInto l X w y N f v d rv τ0 ct dt bn bsd bx by9 bc bf hR hB hT hN (by omega) hfb h22 h23 hE hv hD) hW hS hE rfl rfl ⟨Nat.le_of_ble_eq_true rfl, Nat.le_of_ble_eq_true rfl⟩ (Nat.le_of_ble_eq_true rfl) ⟨Nat.zero_le _, Nat.zero_le _⟩ dX8_load_8 (fun w1 H locs hp2 hW hS => ?_)
  obtain ⟨hRL, hEX, hBX, hLX, hn3⟩ := hp2
  have hY := (hn3 _ (by omega) (by omega) (by omega) (by omega) (by omega)).trans hY
  have hO := (hn3 _ (by omega) (by omega) (by omega) (by omega) (by omega)).trans hO
  have hB := (hn3 _ (by omega) (by omega) (by omega) (by omega) (by omega)).trans hB
  have hHo := (hn3 _ (by omega) (by omega) (by omega) (by omega) (by omega)).trans hHo
  have hT := (hn3 _ (by omega) (by omega) (by omega) (by omega) (by omega)).trans hT
  have hL := hL.mv (w2 := w1) (fun q h1 h2 => hn3 q (by omega) (by omega) (by omega) (by omega) (by omega))
  have hH := hH.mv (w2 := w1) (fun q h1 h2 => hn3 q (by omega) (by omega) (by omega) (by omega) (by omega))
  obtain ⟨m8, hrd⟩ := hRL
  obtain ⟨c1, d1, hE8⟩ := hEX
  have hBX : bxA X w1 y := hBX
  obtain ⟨τ1, hD, hτ⟩ := hLX
  have hLo := hD.1.o
  refine h_top (show (bz (decide ((rdF f (ld0 f v) d).1 18 = 0)) : Int) = bz true from congrArg bz (decide_eq_true hq)) ?_
  refine lv_istore_n (lv' := [(1, .int (iI (bz true))), (0, .ref y)]) F.1 F.2.1 dX8_load_11 rfl hl (by decide) rfl (fun ls hl => ?_)
  refine lv_aload_n F.1 F.2.1 dX8_load_12 rfl (lv_at hl 1 rfl) ?_
  refine gf_RX8_49 F hW hY rfl dX8_load_13 ?_
  refine h_iconst F dX8_load_16 ?_
  refine cl_RX8_101 (As := [.int (iI 0)]) (rest := []) F hl (c_X0_cutTo l X w1 (y + 307) (y + 308) N f 0 hB hT (by omega)) hW hS hB rfl rfl ⟨Nat.le_of_ble_eq_true rfl, Nat.le_of_ble_eq_true rfl⟩ (Nat.le_of_ble_eq_true rfl) ⟨Nat.zero_le _, Nat.zero_le _⟩ dX8_load_17 (fun w4 H locs hp5 hW hS => ?_)
  obtain ⟨ho6, hn7⟩ := hp5
  have hY := (hn7 _ (by omega)).trans hY
  have hO := (hn7 _ (by omega)).trans hO
  have hHo := (hn7 _ (by omega)).trans hHo
  have hrd := (hn7 _ (by omega)).trans hrd
  have hE8 := (hn7 _ (by omega)).trans hE8
  have hLo := (hn7 _ (by omega)).trans hLo
  have hT := (hn7 _ (by omega)).trans hT
  have hL := hL.mv (w2 := w4) (fun q h1 h2 => hn7 q (by omega))
  have hH := hH.mv (w2 := w4) (fun q h1 h2 => hn7 q (by omega))
  have hD := hD.mv (w2 := w4) (fun q h1 h2 => hn7 q (by omega))
  have hBX := hBX.mv (w2 := w4) (fun q h1 h2 => hn7 q (by omega))
  refine lv_iload_n F.1 F.2.1 dX8_load_20 rfl (lv_at hl 0 rfl) ?_
  refine h_top (show (bz true : Int) = 1 from rfl) ?_
  refine h_ifne (tgt := 26) F dX8_load_21 (by decide) (by decide) (fun _ => ?_) (fun c9 => absurd c9 (by decide))
  rw [hτ hq] at hD
  refine lv_aload_n F.1 F.2.1 dX8_load_26 rfl (lv_at hl 1 rfl) ?_
  refine gf_RX8_16 F hW hY rfl dX8_load_27 ?_
  refine cl_RX8_108 (As := []) (rest := []) F hl (c_X5_paint l X w4 (y + 26) ((rdF f (ld0 f v) d).2) hD.1 hFI.2) hW hS hLo rfl rfl ⟨Nat.le_of_ble_eq_true rfl, Nat.le_of_ble_eq_true rfl⟩ (Nat.le_of_ble_eq_true rfl) ⟨Nat.zero_le _, Nat.zero_le _⟩ dX8_load_30 (fun w9 H locs hp10 hW hS => ?_)
  obtain ⟨hDl, hn11⟩ := hp10
  have hY := (hn11 _ (by omega)).trans hY
  have hO := (hn11 _ (by omega)).trans hO
  have ho6 := (hn11 _ (by omega)).trans ho6
  have hHo := (hn11 _ (by omega)).trans hHo
  have hrd := (hn11 _ (by omega)).trans hrd
  have hE8 := (hn11 _ (by omega)).trans hE8
  have hLo := (hn11 _ (by omega)).trans hLo
  have hT := (hn11 _ (by omega)).trans hT
  have hL := hL.mv (w2 := w9) (fun q h1 h2 => hn11 q (by omega))
  have hH := hH.mv (w2 := w9) (fun q h1 h2 => hn11 q (by omega))
  have hBX := hBX.mv (w2 := w9) (fun q h1 h2 => hn11 q (by omega))
  refine lv_aload_n F.1 F.2.1 dX8_load_33 rfl (lv_at hl 1 rfl) ?_
  refine gf_RX8_10 F hW hY rfl dX8_load_34 ?_
  refine lv_aload_n F.1 F.2.1 dX8_load_37 rfl (lv_at hl 1 rfl) ?_
  refine gf_RX8_16 F hW hY rfl dX8_load_38 ?_
  refine cl_RX8_111 (As := [.ref (y + 26)]) (rest := []) F hl (c_X5_copyFrom l X w9 (y + 1) σ ((rdF f (ld0 f v) d).2) (y + 26) hL.1 hDl (by omega)) hW hS hO rfl rfl ⟨Nat.le_of_ble_eq_true rfl, Nat.le_of_ble_eq_true rfl⟩ (Nat.le_of_ble_eq_true rfl) ⟨Nat.zero_le _, Nat.zero_le _⟩ dX8_load_41 (fun w12 H locs hp13 hW hS => ?_)
  obtain ⟨hNw, hn14⟩ := hp13
  have hY := (hn14 _ (by omega)).trans hY
  have ho6 := (hn14 _ (by omega)).trans ho6
  have hHo := (hn14 _ (by omega)).trans hHo
  have hrd := (hn14 _ (by omega)).trans hrd
  have hE8 := (hn14 _ (by omega)).trans hE8
  have hLo := (hn14 _ (by omega)).trans hLo
  have hT := (hn14 _ (by omega)).trans hT
  have hH := hH.mv (w2 := w12) (fun q h1 h2 => hn14 q (by omega))
  have hBX := hBX.mv (w2 := w12) (fun q h1 h2 => hn14 q (by omega))
  have hDl := hDl.mv (w2 := w12) (fun q h1 h2 => hn14 q (by omega))
  have hO2 := hNw.1.o
  refine lv_aload_n F.1 F.2.1 dX8_load_44 rfl (lv_at hl 1 rfl) ?_
  refine gf_RX8_29 F hW hY rfl dX8_load_45 ?_
  refine cl_RX8_115 (As := []) (rest := []) F hl (c_X4_clear l X w12 (y + 53) nx sz pas pas2 hH) hW hS hHo rfl rfl ⟨Nat.le_of_ble_eq_true rfl, Nat.le_of_ble_eq_true rfl⟩ (Nat.le_of_ble_eq_true rfl) ⟨Nat.zero_le _, Nat.zero_le _⟩ dX8_load_48 (fun w15 H locs hp16 hW hS => ?_)
  obtain ⟨hcl, hn17⟩ := hp16
  have hY := (hn17 _ (by omega)).trans hY
  have ho6 := (hn17 _ (by omega)).trans ho6
  have hrd := (hn17 _ (by omega)).trans hrd
  have hE8 := (hn17 _ (by omega)).trans hE8
  have hLo := (hn17 _ (by omega)).trans hLo
  have hO2 := (hn17 _ (by omega)).trans hO2
  have hT := (hn17 _ (by omega)).trans hT
  have hBX := hBX.mv (w2 := w15) (fun q h1 h2 => hn17 q (by omega))
  have hDl := hDl.mv (w2 := w15) (fun q h1 h2 => hn17 q (by omega))
  have hNw := hNw.mv (w2 := w15) (fun q h1 h2 => hn17 q (by omega))
  refine lv_aload_n F.1 F.2.1 dX8_load_51 rfl (lv_at hl 1 rfl) ?_
  refine gf_RX8_10 F hW hY rfl dX8_load_52 ?_
  refine gf_RX8_118 F hW hO2 rfl dX8_load_55 ?_
  refine h_top (show (((rdF f (ld0 f v) d).2) 5 : Int) = (rdF f (ld0 f v) d).2 5 from by first | rfl | omega | (simp_all; done)) ?_
  exact h_ireti F hr hlk hW hS ⟨ho6, ⟨_, hrd⟩, hcl, hNw, ⟨⟨_, hDl.1, hFI.2.cap8⟩, ⟨_, _, hE8⟩, hBX⟩, (fun q h09 h19 h29 h39 h49 h59 h69 h79 => by rw [hn17 q (by omega), hn14 q (by omega), hn11 q (by omega), hn7 q (by omega), hn3 q (by omega) (by omega) (by omega) (by omega) (by omega)])⟩ dX8_load_58
set_option maxHeartbeats 4000000 in
set_option maxRecDepth 100000 in
theorem c_X9_load_x (l : Launch) (X : Cx) (w : Wo) (mo : Nat) (v tx σ d : Int → Int) (hM : w mo = some (.inr (9, mL mo v))) (htx : w (mo + 7) = some (aZ X 400 tx)) (hun : 0 ≤ v 11 ∧ v 11 ≤ 400) (hfb : ∀ i, 0 ≤ i → i < v 11 → 0 ≤ tx i ∧ tx i ≤ 255) (hs : w (mo + 1) = some (aZ X 1317 σ)) (hd : w (mo + 2) = some (aZ X 1317 d)) (hq : (rdF tx (ld0 tx (lv0 v)) d).1 18 ≠ 0) : CM l X yX9_load cX9_load 1 (some (.int)) (rmk 7 156) [.ref mo] w (some (.int (iI (-1)))) (fun w' => w' mo = some (.inr (9, mL mo (enV (rdF tx (ld0 tx (lv0 v)) d).1))) ∧ w' (mo + 2) = some (aZ X 1317 ((rdF tx (ld0 tx (lv0 v)) d).2)) ∧ ∀ q : Nat, q ≠ mo → q ≠ mo + 2 → w' q = w q) := by
  refine CM.of (lv := [(0, .ref mo)]) (by decide) (Nat.le_of_ble_eq_true rfl) rfl (fun p e s m below meth c ls F hr hlk hin hW hS hl => ?_)
  have hZ0 := hW.2.2
  have hB9 := hW.1.2
  clear hin
  have hi0 : vI tx (ld0 tx (lv0 v)) := ld0_I hun hfb rfl rfl rfl
  have hFI := rdF_I (d := d) hi0
  have hq18 := hFI.1.1.2
  refine lv_aload_n F.1 F.2.1 dX9_load_0 rfl (lv_at hl 0 rfl) ?_
  refine h_iconst F dX9_load_1 ?_
  refine pf_RX9_58 F hW hS hM (Nat.le_of_ble_eq_true rfl) dX9_load_2 (fun w1 H locs ho3 hn2 hW hS => ?_)
  rw [mL_6] at ho3
  have htx := (hn2 _ (by omega)).trans htx
  have hs := (hn2 _ (by omega)).trans hs
  have hd := (hn2 _ (by omega)).trans hd
  refine lv_aload_n F.1 F.2.1 dX9_load_5 rfl (lv_at hl 0 rfl) ?_
  refine h_iconst F dX9_load_6 ?_
  refine pf_RX9_339 F hW hS ho3 (Nat.le_of_ble_eq_true rfl) dX9_load_7 (fun w4 H locs ho6 hn5 hW hS => ?_)
  rw [mL_22] at ho6
  have htx := (hn5 _ (by omega)).trans htx
  have hs := (hn5 _ (by omega)).trans hs
  have hd := (hn5 _ (by omega)).trans hd
  refine lv_aload_n F.1 F.2.1 dX9_load_10 rfl (lv_at hl 0 rfl) ?_
  refine h_iconst F dX9_load_11 ?_
  refine h_top (show (0 : Int) = bz false from rfl) ?_
  refine pf_RX9_342 F hW hS ho6 (Nat.le_of_ble_eq_true rfl) dX9_load_12 (fun w7 H locs ho9 hn8 hW hS => ?_)
  rw [mL_23] at ho9
  have htx := (hn8 _ (by omega)).trans htx
  have hs := (hn8 _ (by omega)).trans hs
  have hd := (hn8 _ (by omega)).trans hd
  refine lv_aload_n F.1 F.2.1 dX9_load_15 rfl (lv_at hl 0 rfl) ?_
  have hX10 : w7 mo = some (.inr (9, mL mo (lv0 v))) := ho9
  refine cl_RX9_366 (As := []) (rest := []) F hl (c_X9_startsText l X w7 mo (lv0 v) tx hX10 htx hun hfb) hW hS hX10 rfl rfl ⟨Nat.le_of_ble_eq_true rfl, Nat.le_of_ble_eq_true rfl⟩ (Nat.le_of_ble_eq_true rfl) ⟨Nat.zero_le _, Nat.zero_le _⟩ dX9_load_16 (fun w11 H locs hp12 hW hS => ?_)
  obtain ⟨ho13, hn14⟩ := hp12
  have htx := (hn14 _ (by omega)).trans htx
  have hs := (hn14 _ (by omega)).trans hs
  have hd := (hn14 _ (by omega)).trans hd
  have hX15 : w11 mo = some (.inr (9, mL mo (ld0 tx (lv0 v)))) := ho13
  refine lv_aload_n F.1 F.2.1 dX9_load_19 rfl (lv_at hl 0 rfl) ?_
  refine cl_RX9_369 (As := []) (rest := []) F hl (c_X9_readsDesign l X w11 mo (ld0 tx (lv0 v)) tx d hX15 htx hi0 hd) hW hS hX15 rfl rfl ⟨Nat.le_of_ble_eq_true rfl, Nat.le_of_ble_eq_true rfl⟩ (Nat.le_of_ble_eq_true rfl) ⟨Nat.zero_le _, Nat.zero_le _⟩ dX9_load_20 (fun w16 H locs hp17 hW hS => ?_)
  obtain ⟨ho18, ha19, hn20⟩ := hp17
  have htx := (hn20 _ (by omega) (by omega)).trans htx
  have hs := (hn20 _ (by omega) (by omega)).trans hs
  refine lv_aload_n F.1 F.2.1 dX9_load_23 rfl (lv_at hl 0 rfl) ?_
  refine cl_RX9_372 (As := []) (rest := []) F hl (c_X9_endsText l X w16 mo ((rdF tx (ld0 tx (lv0 v)) d).1) ho18 hq18) hW hS ho18 rfl rfl ⟨Nat.le_of_ble_eq_true rfl, Nat.le_of_ble_eq_true rfl⟩ (Nat.le_of_ble_eq_true rfl) ⟨Nat.zero_le _, Nat.zero_le _⟩ dX9_load_24 (fun w21 H locs hp22 hW hS => ?_)
  obtain ⟨ho23, hn24⟩ := hp22
  have htx := (hn24 _ (by omega)).trans htx
  have hs := (hn24 _ (by omega)).trans hs
  have ha19 := (hn24 _ (by omega)).trans ha19
  refine h_top (show (bz (decide (((rdF tx (ld0 tx (lv0 v)) d).1) 18 = 0)) : Int) = bz false from congrArg bz (decide_eq_false hq)) ?_
  refine h_ifneb (tgt := 32) F dX9_load_27 (by decide) (fun c9 => absurd c9 (by decide)) (fun _ => ?_)
  refine h_iconst F dX9_load_30 ?_
  refine h_top (show ((-1) : Int) = -1 from by first | rfl | omega | (simp_all; done)) ?_
  exact h_ireti F hr hlk hW hS ⟨(by (rw [ho23]) <;> (rfl)), ha19, (fun q h09 h19 => by rw [hn24 q (by omega), hn20 q (by omega) (by omega), hn14 q (by omega), hn8 q (by omega), hn5 q (by omega), hn2 q (by omega)])⟩ dX9_load_31
set_option maxHeartbeats 4000000 in
set_option maxRecDepth 100000 in
theorem c_X9_load (l : Launch) (X : Cx) (w : Wo) (mo : Nat) (v tx σ d : Int → Int) (hM : w mo = some (.inr (9, mL mo v))) (htx : w (mo + 7) = some (aZ X 400 tx)) (hun : 0 ≤ v 11 ∧ v 11 ≤ 400) (hfb : ∀ i, 0 ≤ i → i < v 11 → 0 ≤ tx i ∧ tx i ≤ 255) (hs : w (mo + 1) = some (aZ X 1317 σ)) (hd : w (mo + 2) = some (aZ X 1317 d)) (hq : (rdF tx (ld0 tx (lv0 v)) d).1 18 = 0) : CM l X yX9_load cX9_load 1 (some (.int)) (rmk 7 156) [.ref mo] w (some (.int (iI ((rdF tx (ld0 tx (lv0 v)) d).2 5)))) (fun w' => w' mo = some (.inr (9, mL mo (up (enV (rdF tx (ld0 tx (lv0 v)) d).1) 5 0))) ∧ w' (mo + 2) = some (aZ X 1317 ((rdF tx (ld0 tx (lv0 v)) d).2)) ∧ w' (mo + 1) = some (aZ X 1317 (cpN (rdF tx (ld0 tx (lv0 v)) d).2 σ 0 0 1317)) ∧ ∀ q : Nat, q ≠ mo → q ≠ mo + 2 → q ≠ mo + 1 → w' q = w q) := by
  refine CM.of (lv := [(0, .ref mo)]) (by decide) (Nat.le_of_ble_eq_true rfl) rfl (fun p e s m below meth c ls F hr hlk hin hW hS hl => ?_)
  have hZ0 := hW.2.2
  have hB9 := hW.1.2
  clear hin
  have hi0 : vI tx (ld0 tx (lv0 v)) := ld0_I hun hfb rfl rfl rfl
  have hFI := rdF_I (d := d) hi0
  have hq18 := hFI.1.1.2
  refine lv_aload_n F.1 F.2.1 dX9_load_0 rfl (lv_at hl 0 rfl) ?_
  refine h_iconst F dX9_load_1 ?_
  refine pf_RX9_58 F hW hS hM (Nat.le_of_ble_eq_true rfl) dX9_load_2 (fun w1 H locs ho3 hn2 hW hS => ?_)
  rw [mL_6] at ho3
  have htx := (hn2 _ (by omega)).trans htx
  have hs := (hn2 _ (by omega)).trans hs
  have hd := (hn2 _ (by omega)).trans hd
  refine lv_aload_n F.1 F.2.1 dX9_load_5 rfl (lv_at hl 0 rfl) ?_
  refine h_iconst F dX9_load_6 ?_
  refine pf_RX9_339 F hW hS ho3 (Nat.le_of_ble_eq_true rfl) dX9_load_7 (fun w4 H locs ho6 hn5 hW hS => ?_)
  rw [mL_22] at ho6
  have htx := (hn5 _ (by omega)).trans htx
  have hs := (hn5 _ (by omega)).trans hs
  have hd := (hn5 _ (by omega)).trans hd
  refine lv_aload_n F.1 F.2.1 dX9_load_10 rfl (lv_at hl 0 rfl) ?_
  refine h_iconst F dX9_load_11 ?_
  refine h_top (show (0 : Int) = bz false from rfl) ?_
  refine pf_RX9_342 F hW hS ho6 (Nat.le_of_ble_eq_true rfl) dX9_load_12 (fun w7 H locs ho9 hn8 hW hS => ?_)
  rw [mL_23] at ho9
  have htx := (hn8 _ (by omega)).trans htx
  have hs := (hn8 _ (by omega)).trans hs
  have hd := (hn8 _ (by omega)).trans hd
  refine lv_aload_n F.1 F.2.1 dX9_load_15 rfl (lv_at hl 0 rfl) ?_
  have hX10 : w7 mo = some (.inr (9, mL mo (lv0 v))) := ho9
  refine cl_RX9_366 (As := []) (rest := []) F hl (c_X9_startsText l X w7 mo (lv0 v) tx hX10 htx hun hfb) hW hS hX10 rfl rfl ⟨Nat.le_of_ble_eq_true rfl, Nat.le_of_ble_eq_true rfl⟩ (Nat.le_of_ble_eq_true rfl) ⟨Nat.zero_le _, Nat.zero_le _⟩ dX9_load_16 (fun w11 H locs hp12 hW hS => ?_)
  obtain ⟨ho13, hn14⟩ := hp12
  have htx := (hn14 _ (by omega)).trans htx
  have hs := (hn14 _ (by omega)).trans hs
  have hd := (hn14 _ (by omega)).trans hd
  have hX15 : w11 mo = some (.inr (9, mL mo (ld0 tx (lv0 v)))) := ho13
  refine lv_aload_n F.1 F.2.1 dX9_load_19 rfl (lv_at hl 0 rfl) ?_
  refine cl_RX9_369 (As := []) (rest := []) F hl (c_X9_readsDesign l X w11 mo (ld0 tx (lv0 v)) tx d hX15 htx hi0 hd) hW hS hX15 rfl rfl ⟨Nat.le_of_ble_eq_true rfl, Nat.le_of_ble_eq_true rfl⟩ (Nat.le_of_ble_eq_true rfl) ⟨Nat.zero_le _, Nat.zero_le _⟩ dX9_load_20 (fun w16 H locs hp17 hW hS => ?_)
  obtain ⟨ho18, ha19, hn20⟩ := hp17
  have htx := (hn20 _ (by omega) (by omega)).trans htx
  have hs := (hn20 _ (by omega) (by omega)).trans hs
  refine lv_aload_n F.1 F.2.1 dX9_load_23 rfl (lv_at hl 0 rfl) ?_
  refine cl_RX9_372 (As := []) (rest := []) F hl (c_X9_endsText l X w16 mo ((rdF tx (ld0 tx (lv0 v)) d).1) ho18 hq18) hW hS ho18 rfl rfl ⟨Nat.le_of_ble_eq_true rfl, Nat.le_of_ble_eq_true rfl⟩ (Nat.le_of_ble_eq_true rfl) ⟨Nat.zero_le _, Nat.zero_le _⟩ dX9_load_24 (fun w21 H locs hp22 hW hS => ?_)
  obtain ⟨ho23, hn24⟩ := hp22
  have htx := (hn24 _ (by omega)).trans htx
  have hs := (hn24 _ (by omega)).trans hs
  have ha19 := (hn24 _ (by omega)).trans ha19
  refine h_top (show (bz (decide (((rdF tx (ld0 tx (lv0 v)) d).1) 18 = 0)) : Int) = bz true from congrArg bz (decide_eq_true hq)) ?_
  refine h_ifneb (tgt := 32) F dX9_load_27 (by decide) (fun _ => ?_) (fun c9 => absurd c9 (by decide))
  refine lv_aload_n F.1 F.2.1 dX9_load_32 rfl (lv_at hl 0 rfl) ?_
  refine gf_RX9_13 F hW ho23 rfl dX9_load_33 ?_
  refine h_iconst F dX9_load_36 ?_
  refine lv_aload_n F.1 F.2.1 dX9_load_37 rfl (lv_at hl 0 rfl) ?_
  refine gf_RX9_7 F hW ho23 rfl dX9_load_38 ?_
  refine h_iconst F dX9_load_41 ?_
  refine cl_RX9_64 (As := [.ref (mo + 2), .int (iI 0), .ref (mo + 1), .int (iI 0)]) (rest := []) F hl (c_X9_copies l X w21 (mo + 2) (mo + 1) 1317 1317 ((rdF tx (ld0 tx (lv0 v)) d).2) σ 0 0 ha19 hs (by omega) (by omega) (by omega)) hW hS rfl rfl ⟨Nat.le_of_ble_eq_true rfl, Nat.le_of_ble_eq_true rfl⟩ (Nat.le_of_ble_eq_true rfl) ⟨Nat.zero_le _, Nat.zero_le _⟩ dX9_load_42 (fun w26 H locs hp27 hW hS => ?_)
  obtain ⟨ha28, hn29⟩ := hp27
  have ho23 := (hn29 _ (by omega)).trans ho23
  have htx := (hn29 _ (by omega)).trans htx
  have ha19 := (hn29 _ (by omega)).trans ha19
  refine lv_aload_n F.1 F.2.1 dX9_load_45 rfl (lv_at hl 0 rfl) ?_
  refine h_iconst F dX9_load_46 ?_
  refine pf_RX9_61 F hW hS ho23 (Nat.le_of_ble_eq_true rfl) dX9_load_47 (fun w30 H locs ho32 hn31 hW hS => ?_)
  rw [mL_5] at ho32
  have htx := (hn31 _ (by omega)).trans htx
  have ha28 := (hn31 _ (by omega)).trans ha28
  have ha19 := (hn31 _ (by omega)).trans ha19
  refine lv_aload_n F.1 F.2.1 dX9_load_50 rfl (lv_at hl 0 rfl) ?_
  refine gf_RX9_7 F hW ho32 rfl dX9_load_51 ?_
  refine h_iconst F dX9_load_54 ?_
  refine h_iald F hW ha28 (by omega) (by omega) dX9_load_55 ?_
  refine h_top (show ((cpN ((rdF tx (ld0 tx (lv0 v)) d).2) σ 0 0 1317) 5 : Int) = (rdF tx (ld0 tx (lv0 v)) d).2 5 from by first | rfl | omega | (simp_all; done)) ?_
  exact h_ireti F hr hlk hW hS ⟨(by (rw [ho32]) <;> (rfl)), ha19, (by (rw [ha28]) <;> (rfl)), (fun q h09 h19 h29 => by rw [hn31 q (by omega), hn29 q (by omega), hn24 q (by omega), hn20 q (by omega) (by omega), hn14 q (by omega), hn8 q (by omega), hn5 q (by omega), hn2 q (by omega)])⟩ dX9_load_56
