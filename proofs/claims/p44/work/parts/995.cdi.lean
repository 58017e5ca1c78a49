def bxA (X : Cx) (w : Wo) (y : Nat) : Prop := ∃ n s9 x9 y9 c9 g, capV X w (y + 313) n s9 x9 y9 c9 g
theorem bxA.mv {X : Cx} {w w2 : Wo} {y : Nat} (h : bxA X w y) (hf : ∀ q : Nat, y + 313 ≤ q → q < y + 313 + 2 → w2 q = w q) : bxA X w2 y := by
  obtain ⟨n, s9, x9, y9, c9, g, h1, h2⟩ := h
  exact ⟨n, s9, x9, y9, c9, g, (hf _ (by omega) (by omega)).trans h1, (hf _ (by omega) (by omega)).trans h2⟩
/-- where the reading of a design begins -/
def ld0 (f v : Int → Int) : Int → Int := goV f (up (up (up v 14 0) 18 0) 19 (-1))
theorem ld0_P {f v : Int → Int} {N : Int} (hN4 : 0 ≤ N ∧ N ≤ 400) (hfb : ∀ i, 0 ≤ i → i < N → 0 ≤ f i ∧ f i ≤ 255) (hN : v 11 = N) : vP f (ld0 f v) := by
  subst hN
  refine ⟨vTok.st hN4 hfb (by show 0 ≤ (0 : Int) ∧ (0 : Int) ≤ v 11; omega), ?_⟩
  have e : ld0 f v 18 = 0 := go_n (by decide)
  rw [e]
  decide
theorem ld0_I {f v : Int → Int} {N : Int} (hN4 : 0 ≤ N ∧ N ≤ 400) (hfb : ∀ i, 0 ≤ i → i < N → 0 ≤ f i ∧ f i ≤ 255) (hN : v 11 = N) (h22 : v 22 = 0) (h23 : v 23 = 0) : vI f (ld0 f v) := by
  have e2 : ld0 f v 22 = 0 := (go_n (by decide)).trans h22
  have e3 : ld0 f v 23 = 0 := (go_n (by decide)).trans h23
  exact ⟨ld0_P hN4 hfb hN, by rw [e2]; decide, by rw [e3]; decide⟩
set_option maxHeartbeats 4000000 in
set_option maxRecDepth 100000 in
theorem c_X2_readInto (l : Launch) (X : Cx) (w : Wo) (y : Nat) (N : Int) (f v d rv τ0 : Int → Int) (ct dt : Int) (bn bsd bx by9 bc : Int) (bf : Int → Int) (hR : w (y + 311) = some (.inr (6, rL (y + 307) rv))) (hB : w (y + 307) = some (.inr (0, [.ref (y + 308), .int (iI N)]))) (hT : w (y + 308) = some (aZ X 400 f)) (hN : v 11 = N) (hN4 : 0 ≤ N ∧ N ≤ 400) (hfb : ∀ i, 0 ≤ i → i < N → 0 ≤ f i ∧ f i ≤ 255) (h22 : v 22 = 0) (h23 : v 23 = 0) (hE : w (y + 312) = some (.inr (2, [.ref (y + 311), .ref (y + 313), .int (iI ct), .int (iI dt)]))) (hv : capV X w (y + 313) bn bsd bx by9 bc bf) (hL : dlA X w (y + 26) τ0) : CM l X yX2_readInto cX2_readInto 3 (some (.boolean)) (rmk 9 192) [.ref (y + 312), .ref (y + 26)] w (some (.int (iI (bz (decide ((rdF f (ld0 f v) d).1 18 = 0)))))) (fun w' => (∃ m : Int, w' (y + 311) = some (.inr (6, rL (y + 307) (cR f N ((rdF f (ld0 f v) d).1) m)))) ∧ (∃ c1 d1 : Int, w' (y + 312) = some (.inr (2, [.ref (y + 311), .ref (y + 313), .int (iI c1), .int (iI d1)]))) ∧ (∃ n s9 x9 y9 c9 g, capV X w' (y + 313) n s9 x9 y9 c9 g) ∧ (∃ τ, dlA X w' (y + 26) τ ∧ ((rdF f (ld0 f v) d).1 18 = 0 → τ = (rdF f (ld0 f v) d).2)) ∧ ∀ q : Nat, q ≠ y + 311 → q ≠ y + 312 → q ≠ y + 313 → q ≠ y + 313 + 1 → (q < y + 26 ∨ y + 51 ≤ q) → w' q = w q) := by
  refine CM.of (lv := [(0, .ref (y + 312)), (1, .ref (y + 26))]) (by decide) (Nat.le_of_ble_eq_true rfl) rfl (fun p e s m below meth c ls F hr hlk hin hW hS hl => ?_)
  have hZ0 := hW.2.2
  have hB9 := hW.1.2
  clear hin
  have hi0 : vI f (ld0 f v) := ld0_I hN4 hfb hN h22 h23
  have hp0 := hi0.1
  have hM0 : ld0 f v 11 = N := (go_n (by decide)).trans hN
  have hl0 : ld0 f v 18 = 0 := go_n (by decide)
  have hp4 := rd4_P hp0
  have hE4 := (rd4_E hp0).1
  have hr4 := hp4.1.r
  have h420 : rd4 f (ld0 f v) 22 = 0 := (hE4 22 (by omega)).trans ((go_n (by decide)).trans h22)
  have h430 : rd4 f (ld0 f v) 23 = 0 := (hE4 23 (by omega)).trans ((go_n (by decide)).trans h23)
  have hLo := hL.1.o
  have hv1 := hv.1
  have hv2 := hv.2
  refine lv_aload_n F.1 F.2.1 dX2_readInto_0 rfl (lv_at hl 0 rfl) ?_
  refine h_iconst F dX2_readInto_1 ?_
  refine pf_RX2_22 F hW hS hE (Nat.le_of_ble_eq_true rfl) dX2_readInto_2 (fun w1 H locs ho3 hn2 hW hS => ?_)
  have ho3 : w1 (y + 312) = some (.inr (2, [.ref (y + 311), .ref (y + 313), .int (iI 0), .int (iI dt)])) := ho3
  have hR := (hn2 _ (by omega)).trans hR
  have hB := (hn2 _ (by omega)).trans hB
  have hv1 := (hn2 _ (by omega)).trans hv1
  have hLo := (hn2 _ (by omega)).trans hLo
  have hT := (hn2 _ (by omega)).trans hT
  have hv2 := (hn2 _ (by omega)).trans hv2
  have hL := hL.mv (w2 := w1) (fun q h1 h2 => hn2 q (by omega))
  refine lv_aload_n F.1 F.2.1 dX2_readInto_5 rfl (lv_at hl 0 rfl) ?_
  refine h_iconst F dX2_readInto_6 ?_
  refine h_top (show (0 : Int) = bz false from rfl) ?_
  refine pf_RX2_26 F hW hS ho3 (Nat.le_of_ble_eq_true rfl) dX2_readInto_7 (fun w4 H locs ho6 hn5 hW hS => ?_)
  have ho6 : w4 (y + 312) = some (.inr (2, [.ref (y + 311), .ref (y + 313), .int (iI 0), .int (iI (bz false))])) := ho6
  have hR := (hn5 _ (by omega)).trans hR
  have hB := (hn5 _ (by omega)).trans hB
  have hv1 := (hn5 _ (by omega)).trans hv1
  have hLo := (hn5 _ (by omega)).trans hLo
  have hT := (hn5 _ (by omega)).trans hT
  have hv2 := (hn5 _ (by omega)).trans hv2
  have hL := hL.mv (w2 := w4) (fun q h1 h2 => hn5 q (by omega))
  refine lv_aload_n F.1 F.2.1 dX2_readInto_10 rfl (lv_at hl 0 rfl) ?_
  refine gf_RX2_18 F hW ho6 rfl dX2_readInto_11 ?_
  refine cl_RX2_30 (As := []) (rest := []) F hl (k_begin l X w4 (y + 311) (y + 307) (y + 308) N f v rv hR hB hT hN (by omega) (by omega) hfb) hW hS hR rfl rfl ⟨Nat.le_of_ble_eq_true rfl, Nat.le_of_ble_eq_true rfl⟩ (Nat.le_of_ble_eq_true rfl) ⟨Nat.zero_le _, Nat.zero_le _⟩ dX2_readInto_14 (fun w7 H locs hp8 hW hS => ?_)
  obtain ⟨ho9, hn10⟩ := hp8
  have hB := (hn10 _ (by omega)).trans hB
  have ho6 := (hn10 _ (by omega)).trans ho6
  have hv1 := (hn10 _ (by omega)).trans hv1
  have hLo := (hn10 _ (by omega)).trans hLo
  have hT := (hn10 _ (by omega)).trans hT
  have hv2 := (hn10 _ (by omega)).trans hv2
  have hL := hL.mv (w2 := w7) (fun q h1 h2 => hn10 q (by omega))
  have hX11 : w7 (y + 311) = some (.inr (6, rL (y + 307) (cR f N (ld0 f v) (rv 5)))) := by rw [show (ld0 f v : Int → Int) = goV f (up (up (up v 14 0) 18 0) 19 (-1)) from rfl]; exact ho9
  refine lv_aload_n F.1 F.2.1 dX2_readInto_17 rfl (lv_at hl 0 rfl) ?_
  refine lv_aload_n F.1 F.2.1 dX2_readInto_18 rfl (lv_at hl 1 rfl) ?_
  refine cl_RX2_35 (As := [.ref (y + 26)]) (rest := []) F hl (c_X2_readSize l X w7 y N (rv 5) f (ld0 f v) d 0 (bz false) τ0 hX11 hB hT hp0 hM0 ho6 hL hl0) hW hS ho6 rfl rfl ⟨Nat.le_of_ble_eq_true rfl, Nat.le_of_ble_eq_true rfl⟩ (Nat.le_of_ble_eq_true rfl) ⟨Nat.zero_le _, Nat.zero_le _⟩ dX2_readInto_19 (fun w12 H locs hp13 hW hS => ?_)
  obtain ⟨hRL, hLO, hn14⟩ := hp13
  have hB := (hn14 _ (by omega) (by omega)).trans hB
  have ho6 := (hn14 _ (by omega) (by omega)).trans ho6
  have hv1 := (hn14 _ (by omega) (by omega)).trans hv1
  have hT := (hn14 _ (by omega) (by omega)).trans hT
  have hv2 := (hn14 _ (by omega) (by omega)).trans hv2
  obtain ⟨m8, hrd⟩ := hRL
  obtain ⟨τ1, hL, hτ⟩ := hLO
  refine h_ifneb (tgt := 27) F dX2_readInto_22 (by decide) (fun c15 => ?_) (fun c15 => ?_)
  · have c15d := of_decide_eq_true c15
    have hl4 : rd4 f (ld0 f v) 18 = 0 := by assumption
    have hM4 : rd4 f (ld0 f v) 11 = N := (hE4 11 (by omega)).trans hM0
    rw [hτ hl4] at hL
    refine h_iconst F dX2_readInto_27 ?_
    refine lv_istore_n (lv' := [(2, .int (iI 0)), (0, .ref (y + 312)), (1, .ref (y + 26))]) F.1 F.2.1 dX2_readInto_28 rfl hl (by decide) rfl (fun ls hl => ?_)
    have loop29 : ∀ (n9 : Nat) (i : Int) (v9 d9 : Int → Int) (m9 : Int), (hrg : 0 ≤ i ∧ i ≤ 402) → (hms : 402 - i < (n9 : Int)) → (wz9 : Wo) → (hO29_0 : wz9 (y + 311) = some (.inr (6, rL (y + 307) (cR f N v9 m9)))) → (hO29_1 : wz9 (y + 312) = some (.inr (2, [.ref (y + 311), .ref (y + 313), .int (iI (v9 22)), .int (iI (v9 23))]))) → (hF29 : ∀ q : Nat, q ≠ y + 311 → q ≠ y + 312 → q ≠ y + 313 → q ≠ y + 313 + 1 → (q < y + 26 ∨ y + 51 ≤ q) → wz9 q = w12 q) → (hi9 : vI f v9) → (hl9 : v9 18 = 0) → (hM9 : v9 11 = N) → (hw9 : WF d9) → (hm9 : i ≤ v9 15) → (hG : rdG f (402 - i).toNat v9 d9 = rdF f (ld0 f v) d) → (hbx : bxA X wz9 y) → (hL9 : dlA X wz9 (y + 26) d9) → (H : Heap) → (locs : List Loc) → (ls : Array Slot) → Wd X wz9 s H → va_S (cxA X) s.heap H locs → lv_has ls 3 [(2, .int (iI i)), (0, .ref (y + 312)), (1, .ref (y + 26))] → W p l e (rmk 9 192) s m (List.toArray [.ref (y + 312), .ref (y + 26)]) below meth c H locs 0 0 (MX X below (List.toArray [.ref (y + 312), .ref (y + 26)]) s 0 0 (some (.int (iI (bz (decide ((rdF f (ld0 f v) d).1 18 = 0)))))) (fun w' => (∃ m : Int, w' (y + 311) = some (.inr (6, rL (y + 307) (cR f N ((rdF f (ld0 f v) d).1) m)))) ∧ (∃ c1 d1 : Int, w' (y + 312) = some (.inr (2, [.ref (y + 311), .ref (y + 313), .int (iI c1), .int (iI d1)]))) ∧ (∃ n s9 x9 y9 c9 g, capV X w' (y + 313) n s9 x9 y9 c9 g) ∧ (∃ τ, dlA X w' (y + 26) τ ∧ ((rdF f (ld0 f v) d).1 18 = 0 → τ = (rdF f (ld0 f v) d).2)) ∧ ∀ q : Nat, q ≠ y + 311 → q ≠ y + 312 → q ≠ y + 313 → q ≠ y + 313 + 1 → (q < y + 26 ∨ y + 51 ≤ q) → w' q = w q)) (F0 m 29 ls []) := by
      intro n9
      induction n9 with
      | zero => intro i v9 d9  m9  hrg hms; exfalso; omega
      | succ n9 ih29 =>
        intro i v9 d9  m9  hrg hms wz9 hO29_0 hO29_1 hF29 hi9 hl9 hM9 hw9 hm9 hG hbx hL9 H locs ls hW hS hl
        have hB := (hF29 _ (by omega) (by omega) (by omega) (by omega) (by omega)).trans hB
        have hT := (hF29 _ (by omega) (by omega) (by omega) (by omega) (by omega)).trans hT
        have hp9 := hi9.1
        have hr9 := hp9.1.r
        have hk0 := (cR_1N (num := m9) hp9 hM9).2.2
        have hB1 := bd1_I (d := d9) hi9
        have hM1 : bd1 f v9 d9 11 = N := (bd1_n hp9 (by omega) (by decide)).trans hM9
        have hkr := cR_rN (num := m9) hp9 hM9
        refine lv_iload_n F.1 F.2.1 dX2_readInto_29 rfl (lv_at hl 0 rfl) ?_
        refine h_sipush F dX2_readInto_30 rfl ?_
        refine h_icgt (tgt := 74) F dX2_readInto_33 (by decide) (by omega) (fun c16 => ?_) (fun c16 => ?_)
        · have hk8 : v9 16 = 0 := by first | assumption | (exfalso; have := hp9.1.1; omega)
          have eF : rdF f (ld0 f v) d = (v9, d9) := by rw [← hG, rdG_e (fun z => z.2 hk8)]
          have hxF : (rdF f (ld0 f v) d).1 18 = 0 := by rw [eF]; exact hl9
          have hRL : (∃ m : Int, wz9 (y + 311) = some (.inr (6, rL (y + 307) (cR f N ((rdF f (ld0 f v) d).1) m)))) := ⟨_, by rw [eF]; exact hO29_0⟩
          have hEX : (∃ c1 d1 : Int, wz9 (y + 312) = some (.inr (2, [.ref (y + 311), .ref (y + 313), .int (iI c1), .int (iI d1)]))) := ⟨_, _, hO29_1⟩
          have hBX := hbx
          have hLX : (∃ τ, dlA X wz9 (y + 26) τ ∧ ((rdF f (ld0 f v) d).1 18 = 0 → τ = (rdF f (ld0 f v) d).2)) := ⟨_, hL9, fun _ => by rw [eF]⟩
          refine h_iconst F dX2_readInto_74 ?_
          refine h_top (show (1 : Int) = bz (decide ((rdF f (ld0 f v) d).1 18 = 0)) from by first | exact bzt (decide_eq_true hxF) | exact bzf (decide_eq_false hxF)) ?_
          exact h_iretz F hr hlk hW hS ⟨hRL, hEX, hBX, hLX, (fun q h09 h19 h29 h39 h49 => by rw [hF29 q (by omega) (by omega) (by omega) (by omega) (by omega), hn14 q (by omega) (by omega), hn10 q (by omega), hn5 q (by omega), hn2 q (by omega)])⟩ dX2_readInto_75
        · refine lv_aload_n F.1 F.2.1 dX2_readInto_36 rfl (lv_at hl 1 rfl) ?_
          refine gf_RX2_18 F hW hO29_1 rfl dX2_readInto_37 ?_
          refine gf_RX2_39 F hW hO29_0 rfl dX2_readInto_40 ?_
          refine h_ifeq (tgt := 74) F dX2_readInto_43 (by decide) (by omega) (fun c17 => ?_) (fun c17 => ?_)
          · have hk9 : v9 16 = 0 := hk0.mp (by assumption)
            have hk8 : v9 16 = 0 := by first | assumption | (exfalso; have := hp9.1.1; omega)
            have eF : rdF f (ld0 f v) d = (v9, d9) := by rw [← hG, rdG_e (fun z => z.2 hk8)]
            have hxF : (rdF f (ld0 f v) d).1 18 = 0 := by rw [eF]; exact hl9
            have hRL : (∃ m : Int, wz9 (y + 311) = some (.inr (6, rL (y + 307) (cR f N ((rdF f (ld0 f v) d).1) m)))) := ⟨_, by rw [eF]; exact hO29_0⟩
            have hEX : (∃ c1 d1 : Int, wz9 (y + 312) = some (.inr (2, [.ref (y + 311), .ref (y + 313), .int (iI c1), .int (iI d1)]))) := ⟨_, _, hO29_1⟩
            have hBX := hbx
            have hLX : (∃ τ, dlA X wz9 (y + 26) τ ∧ ((rdF f (ld0 f v) d).1 18 = 0 → τ = (rdF f (ld0 f v) d).2)) := ⟨_, hL9, fun _ => by rw [eF]⟩
            refine h_iconst F dX2_readInto_74 ?_
            refine h_top (show (1 : Int) = bz (decide ((rdF f (ld0 f v) d).1 18 = 0)) from by first | exact bzt (decide_eq_true hxF) | exact bzf (decide_eq_false hxF)) ?_
            exact h_iretz F hr hlk hW hS ⟨hRL, hEX, hBX, hLX, (fun q h09 h19 h29 h39 h49 => by rw [hF29 q (by omega) (by omega) (by omega) (by omega) (by omega), hn14 q (by omega) (by omega), hn10 q (by omega), hn5 q (by omega), hn2 q (by omega)])⟩ dX2_readInto_75
          · have hk9 : v9 16 ≠ 0 := fun z => absurd (hk0.mpr z) (by assumption)
            obtain ⟨n, s9, x9, y9, c9, g, hv9⟩ := hbx
            refine lv_aload_n F.1 F.2.1 dX2_readInto_46 rfl (lv_at hl 1 rfl) ?_
            refine lv_aload_n F.1 F.2.1 dX2_readInto_47 rfl (lv_at hl 2 rfl) ?_
            refine cl_RX2_42 (As := [.ref (y + 26)]) (rest := []) F hl (c_X2_readStatement l X wz9 y N m9 f v9 d9 n s9 x9 y9 c9 g hO29_0 hB hT hi9 hM9 hw9 hO29_1 hv9 hL9 hl9) hW hS hO29_1 rfl rfl ⟨Nat.le_of_ble_eq_true rfl, Nat.le_of_ble_eq_true rfl⟩ (Nat.le_of_ble_eq_true rfl) ⟨Nat.zero_le _, Nat.zero_le _⟩ dX2_readInto_48 (fun w18 H locs hp19 hW hS => ?_)
            obtain ⟨hRL, hE9, hBX9, hLO, hn20⟩ := hp19
            have hB := (hn20 _ (by omega) (by omega) (by omega) (by omega) (by omega)).trans hB
            have hT := (hn20 _ (by omega) (by omega) (by omega) (by omega) (by omega)).trans hT
            obtain ⟨m7, hrd⟩ := hRL
            obtain ⟨c1, d1, hE8, hcd⟩ := hE9
            obtain ⟨τ1, hL9, hτ⟩ := hLO
            have hBX9 : bxA X w18 y := hBX9
            refine h_ifeqb (tgt := 66) F dX2_readInto_51 (by decide) (fun c21 => ?_) (fun c21 => ?_)
            · have c21d := of_decide_eq_false c21
              have hx : bd1 f v9 d9 18 ≠ 0 := by assumption
              have eV : bdV f v9 d9 = bd1 f v9 d9 := mu_d hx
              have eF : rdF f (ld0 f v) d = (bd1 f v9 d9, bdD f v9 d9) := by rw [← hG, rdG_s (by omega) ⟨hl9, hk9⟩, rdG_e (fun z => hx (by rw [← eV]; exact z.1)), eV]
              have hxF : (rdF f (ld0 f v) d).1 18 ≠ 0 := by rw [eF]; exact hx
              have hRL : (∃ m : Int, w18 (y + 311) = some (.inr (6, rL (y + 307) (cR f N ((rdF f (ld0 f v) d).1) m)))) := ⟨_, by rw [eF]; exact hrd⟩
              have hEX : (∃ c1 d1 : Int, w18 (y + 312) = some (.inr (2, [.ref (y + 311), .ref (y + 313), .int (iI c1), .int (iI d1)]))) := ⟨_, _, hE8⟩
              have hBX := hBX9
              have hLX : (∃ τ, dlA X w18 (y + 26) τ ∧ ((rdF f (ld0 f v) d).1 18 = 0 → τ = (rdF f (ld0 f v) d).2)) := ⟨_, hL9, fun z => absurd z hxF⟩
              refine h_iconst F dX2_readInto_66 ?_
              refine h_top (show (0 : Int) = bz (decide ((rdF f (ld0 f v) d).1 18 = 0)) from by first | exact bzt (decide_eq_true hxF) | exact bzf (decide_eq_false hxF)) ?_
              exact h_iretz F hr hlk hW hS ⟨hRL, hEX, hBX, hLX, (fun q h09 h19 h29 h39 h49 => by rw [hn20 q (by omega) (by omega) (by omega) (by omega) (by omega), hF29 q (by omega) (by omega) (by omega) (by omega) (by omega), hn14 q (by omega) (by omega), hn10 q (by omega), hn5 q (by omega), hn2 q (by omega)])⟩ dX2_readInto_67
            · have c21d := of_decide_eq_true c21
              have hl1 : bd1 f v9 d9 18 = 0 := by assumption
              obtain ⟨hc1, hd1⟩ := hcd hl1
              rw [hτ hl1] at hL9
              rw [hc1, hd1] at hE8
              refine lv_aload_n F.1 F.2.1 dX2_readInto_54 rfl (lv_at hl 1 rfl) ?_
              refine gf_RX2_18 F hW hE8 rfl dX2_readInto_55 ?_
              refine h_bipush F dX2_readInto_58 rfl ?_
              refine cl_RX2_45 (As := [.int (iI 59)]) (rest := []) F hl (k_takeMark l X w18 (y + 311) (y + 307) (y + 308) N f (bd1 f v9 d9) m7 59 hrd hB hT hB1.1 hM1 (by omega) hl1 (by omega)) hW hS hrd rfl rfl ⟨Nat.le_of_ble_eq_true rfl, Nat.le_of_ble_eq_true rfl⟩ (Nat.le_of_ble_eq_true rfl) ⟨Nat.zero_le _, Nat.zero_le _⟩ dX2_readInto_60 (fun w22 H locs hp23 hW hS => ?_)
              obtain ⟨ho24, hn25⟩ := hp23
              have hB := (hn25 _ (by omega)).trans hB
              have hE8 := (hn25 _ (by omega)).trans hE8
              have hT := (hn25 _ (by omega)).trans hT
              have hL9 := hL9.mv (w2 := w22) (fun q h1 h2 => hn25 q (by omega))
              have hBX9 := hBX9.mv (w2 := w22) (fun q h1 h2 => hn25 q (by omega))
              have hX26 : w22 (y + 311) = some (.inr (6, rL (y + 307) (cR f N (bdV f v9 d9) m7))) := by rw [show (bdV f v9 d9 : Int → Int) = muV f (isSR f (bd1 f v9 d9) 59) (bd1 f v9 d9) from rfl]; exact ho24
              refine h_ifneb (tgt := 68) F dX2_readInto_63 (by decide) (fun c27 => ?_) (fun c27 => ?_)
              · have hl7 : bdV f v9 d9 18 = 0 := by (show muV f (isSR f (bd1 f v9 d9) 59) (bd1 f v9 d9) 18 = 0; rw [‹isSR f (bd1 f v9 d9) 59 = true›, mu_t hl1, go_n (by decide)]; exact hl1)
                refine h_iinc (k := 0) (a := i) (lv' := [(2, .int (iI (i + 1))), (0, .ref (y + 312)), (1, .ref (y + 26))]) F dX2_readInto_68 hl rfl (by decide) rfl (fun ls hl => ?_)
                refine h_goto (tgt := 29) F dX2_readInto_71 (by decide) ?_
                have eq28 : ((i + 1) : Int) = i + 1 := by first | rfl | omega | simp
                exact ih29 (i + 1) (bdV f v9 d9) (bdD f v9 d9) m7 (by omega) (by omega) w22 hX26 (by rw [show bdV f v9 d9 22 = bd1 f v9 d9 22 from mu_n (by omega), show bdV f v9 d9 23 = bd1 f v9 d9 23 from mu_n (by omega)]; exact hE8) (fun q h09 h19 h29 h39 h49 => by rw [hn25 q (by omega), hn20 q (by omega) (by omega) (by omega) (by omega) (by omega), hF29 q (by omega) (by omega) (by omega) (by omega) (by omega)]) (bd_I hi9) hl7 ((bd_n hi9.1 (by omega) (by decide)).trans hM9) (bdD_W hi9.1 hw9) (Int.le_trans (show i + 1 ≤ v9 15 + 1 by omega) (bd_m hi9 hl7)) ((rdG_s (by omega) ⟨hl9, by assumption⟩).symm.trans hG) hBX9 hL9 _ _ ls hW hS (by rw [eq28]; exact lv_sub hl [0, 1, 2] rfl)
              · have hx : bdV f v9 d9 18 ≠ 0 := by (show muV f (isSR f (bd1 f v9 d9) 59) (bd1 f v9 d9) 18 ≠ 0; rw [‹isSR f (bd1 f v9 d9) 59 = false›, mu_f hl1]; exact fa_ne (by decide))
                have eF : rdF f (ld0 f v) d = (bdV f v9 d9, bdD f v9 d9) := by rw [← hG, rdG_s (by omega) ⟨hl9, hk9⟩, rdG_e (fun z => hx z.1)]
                have hxF : (rdF f (ld0 f v) d).1 18 ≠ 0 := by rw [eF]; exact hx
                have hRL : (∃ m : Int, w22 (y + 311) = some (.inr (6, rL (y + 307) (cR f N ((rdF f (ld0 f v) d).1) m)))) := ⟨_, by rw [eF]; exact hX26⟩
                have hEX : (∃ c1 d1 : Int, w22 (y + 312) = some (.inr (2, [.ref (y + 311), .ref (y + 313), .int (iI c1), .int (iI d1)]))) := ⟨_, _, hE8⟩
                have hBX := hBX9
                have hLX : (∃ τ, dlA X w22 (y + 26) τ ∧ ((rdF f (ld0 f v) d).1 18 = 0 → τ = (rdF f (ld0 f v) d).2)) := ⟨_, hL9, fun z => absurd z hxF⟩
                refine h_iconst F dX2_readInto_66 ?_
                refine h_top (show (0 : Int) = bz (decide ((rdF f (ld0 f v) d).1 18 = 0)) from by first | exact bzt (decide_eq_true hxF) | exact bzf (decide_eq_false hxF)) ?_
                exact h_iretz F hr hlk hW hS ⟨hRL, hEX, hBX, hLX, (fun q h09 h19 h29 h39 h49 => by rw [hn25 q (by omega), hn20 q (by omega) (by omega) (by omega) (by omega) (by omega), hF29 q (by omega) (by omega) (by omega) (by omega) (by omega), hn14 q (by omega) (by omega), hn10 q (by omega), hn5 q (by omega), hn2 q (by omega)])⟩ dX2_readInto_67
    exact loop29 ((402 - 0) + 1 : Int).toNat 0 (rd4 f (ld0 f v)) (rdD f (ld0 f v) d) m8  (by omega) (by omega) w12 hrd (by rw [h420, h430]; exact ho6) (fun q _ _ _ _ _ => rfl) (⟨hp4, by rw [h420]; decide, by rw [h430]; decide⟩) hl4 hM4 (rdD_W f (ld0 f v) d) hr4.1.1 rfl (⟨_, _, _, _, _, _, ⟨hv1, hv2⟩⟩) hL _ _ ls hW hS (lv_sub hl [0, 1, 2] rfl)
  · have c15d := of_decide_eq_false c15
    have hx : rd4 f (ld0 f v) 18 ≠ 0 := by assumption
    have eF : rdF f (ld0 f v) d = (rd4 f (ld0 f v), rdD f (ld0 f v) d) := rdG_e (fun z => hx z.1) _
    have hxF : (rdF f (ld0 f v) d).1 18 ≠ 0 := by rw [eF]; exact hx
    have hRL : (∃ m : Int, w12 (y + 311) = some (.inr (6, rL (y + 307) (cR f N ((rdF f (ld0 f v) d).1) m)))) := ⟨_, by rw [eF]; exact hrd⟩
    have hEX : (∃ c1 d1 : Int, w12 (y + 312) = some (.inr (2, [.ref (y + 311), .ref (y + 313), .int (iI c1), .int (iI d1)]))) := ⟨_, _, ho6⟩
    have hBX : (∃ n s9 x9 y9 c9 g, capV X w12 (y + 313) n s9 x9 y9 c9 g) := ⟨_, _, _, _, _, _, ⟨hv1, hv2⟩⟩
    have hLX : (∃ τ, dlA X w12 (y + 26) τ ∧ ((rdF f (ld0 f v) d).1 18 = 0 → τ = (rdF f (ld0 f v) d).2)) := ⟨_, hL, fun z => absurd z hxF⟩
    refine h_iconst F dX2_readInto_25 ?_
    refine h_top (show (0 : Int) = bz (decide ((rdF f (ld0 f v) d).1 18 = 0)) from by first | exact bzt (decide_eq_true hxF) | exact bzf (decide_eq_false hxF)) ?_
    exact h_iretz F hr hlk hW hS ⟨hRL, hEX, hBX, hLX, (fun q h09 h19 h29 h39 h49 => by rw [hn14 q (by omega) (by omega), hn10 q (by omega), hn5 q (by omega), hn2 q (by omega)])⟩ dX2_readInto_26
