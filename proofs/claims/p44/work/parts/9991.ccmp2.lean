theorem cR_mN {f v : Int → Int} {num N mk : Int} (h : vP f v) (hN : v 11 = N) (hm : mk = 59 ∨ mk = 123 ∨ mk = 125) : cR f N v num 1 = mk ↔ (v 16 = 3 ∧ f (v 15) = mk) := by
  subst hN
  exact cR_m h hm
theorem csV_n {f v : Int → Int} {wd k : Int} (h : vP f v) (hk : k < 14 ∨ 19 < k) (h2 : k ≠ 27 ∧ k ≠ 28 ∧ k ≠ 29) : csV f v wd k = v k := by
  unfold csV
  split
  · rw [clV_n hk]
    unfold cl1
    rw [up_n h2.1, up_n h2.2.2]
  · unfold rmV
    split
    · split
      · unfold rmX
        split
        · rw [up_n h2.2.2]
          unfold rm9
          rw [up_n h2.1, rm8_n h hk h2.2.1]
        · rw [mu_n hk]
          unfold rm9
          rw [up_n h2.1, rm8_n h hk h2.2.1]
      · exact rm8_n h hk h2.2.1
    · exact rm2_E.1 k hk
theorem rm_dead {f v : Int → Int} {wd : Int} (h : v 16 = 0) : rmV f v wd 18 ≠ 0 := by
  by_cases hc : cmR f v = -1
  · exact (rmd_1 hc).2
  · have := (cm_0 hc).2
    omega
theorem cs_dead {f v0 v sc sc0' : Int → Int} {wd i : Int} (hl : v 18 = 0) (hi : i < 402) (hd : csV f v wd 18 ≠ 0) (ho : v 16 ≠ 0 ∨ (v 16 = 0 ∧ 0 < v 29 ∧ csV f v wd 18 ≠ 0)) (hG : sgG f wd (402 - i).toNat v sc = sgF f v0 sc0' wd) : sgV f v0 sc0' wd = csV f v wd ∧ sgV f v0 sc0' wd 18 ≠ 0 := by
  rcases ho with h | ⟨h, h29, _⟩
  · have e : sgF f v0 sc0' wd = (csV f v wd, csS f v sc wd) := by rw [← hG, sgG_s hi ⟨hl, h⟩, sgG_e (fun z => hd z.1)]
    have e2 : sgV f v0 sc0' wd = csV f v wd := by
      unfold sgV
      rw [e]
      show (if 0 < csV f v wd 29 then faV 1 (csV f v wd) else csV f v wd) = _
      rw [fa_d hd]
      split <;> rfl
    exact ⟨e2, by rw [e2]; exact hd⟩
  · have e : sgF f v0 sc0' wd = (v, sc) := by rw [← hG, sgG_e (fun z => z.2 h)]
    have hcl : ¬ (clB f v = true) := by
      intro z
      have := (clB_0 z).2.2.1
      omega
    have hc : cmR f v = -1 := by
      by_cases hc : cmR f v = -1
      · exact hc
      · have := (cm_0 hc).2
        omega
    have e3 : csV f v wd = faV 1 v := (if_neg hcl).trans (rmd_1 hc).1
    have e2 : sgV f v0 sc0' wd = faV 1 v := by
      unfold sgV
      rw [e]
      exact if_pos h29
    rw [e2, e3]
    exact ⟨rfl, fa_ne (by decide)⟩
theorem sc_E {X : Cx} {w : Wo} {y : Nat} {v sc : Int → Int} {wd : Int} (h : scR X w y v sc wd) : scE X w y := by
  obtain ⟨ac, pr, kd, ar, tl, op, ah, h1, -⟩ := h
  exact ⟨_, _, _, _, _, _, _, _, _, _, h1⟩
set_option maxHeartbeats 4000000 in
set_option maxRecDepth 100000 in
theorem c_X7_compile (l : Launch) (X : Cx) (w : Wo) (y : Nat) (N : Int) (f v sc rv : Int → Int) (wd : Int) (hR : w (y + 311) = some (.inr (6, rL (y + 307) rv))) (hB : w (y + 307) = some (.inr (0, [.ref (y + 308), .int (iI N)]))) (hT : w (y + 308) = some (aZ X 400 f)) (hN : v 11 = N) (hN4 : 0 ≤ N ∧ N ≤ 400) (hfb : ∀ i, 0 ≤ i → i < N → 0 ≤ f i ∧ f i ≤ 255) (hse : scE X w y) (hwd9 : 8 ≤ wd ∧ wd ≤ 40) : CM l X yX7_compile cX7_compile 4 (some (.boolean)) (rmk 8 172) [.ref (y + 315), .int (iI wd)] w (some (.int (iI (bz (decide (sgV f (ld0 f v) sc wd 18 = 0)))))) (fun w' => (∃ m : Int, w' (y + 311) = some (.inr (6, rL (y + 307) (cR f N (sgV f (ld0 f v) sc wd) m)))) ∧ (scE X w' y ∧ (sgV f (ld0 f v) sc wd 18 = 0 → scR X w' y (sgV f (ld0 f v) sc wd) (sgF f (ld0 f v) sc wd).2 wd ∧ (sgV f (ld0 f v) sc wd) 29 = 0 ∧ sI f (sgV f (ld0 f v) sc wd))) ∧ ∀ q : Nat, q ≠ y + 311 → (q < y + 315 ∨ y + 321 ≤ q) → w' q = w q) := by
  refine CM.of (lv := [(0, .ref (y + 315)), (1, .int (iI wd))]) (by decide) (Nat.le_of_ble_eq_true rfl) rfl (fun p e s m below meth c ls F hr hlk hin hW hS hl => ?_)
  have hZ0 := hW.2.2
  have hB9 := hW.1.2
  clear hin
  have hp0 := ld0_P hN4 hfb hN
  have hM0 : ld0 f v 11 = N := (go_n (by decide)).trans hN
  have hl0 : ld0 f v 18 = 0 := go_n (by decide)
  have hi0 := sc0_I hp0
  have hr0 := hp0.1.r
  obtain ⟨st, cm, ac, dp, pr, kd, ar, tl, op, ah, hSc, hkd, har, htl, hop, hah⟩ := hse
  refine lv_aload_n F.1 F.2.1 dX7_compile_0 rfl (lv_at hl 0 rfl) ?_
  refine h_iconst F dX7_compile_1 ?_
  refine pf_RX7_31 F hW hS hSc (Nat.le_of_ble_eq_true rfl) dX7_compile_2 (fun w1 H locs ho3 hn2 hW hS => ?_)
  have ho3 : w1 (y + 315) = some (.inr (7, [.ref (y + 311), .ref (y + 316), .ref (y + 317), .ref (y + 318), .int (iI 0), .int (iI cm), .int (iI ac), .ref (y + 319), .ref (y + 320), .int (iI dp), .int (iI pr)])) := ho3
  have hR := (hn2 _ (by omega)).trans hR
  have hB := (hn2 _ (by omega)).trans hB
  have hT := (hn2 _ (by omega)).trans hT
  have hkd := (hn2 _ (by omega)).trans hkd
  have har := (hn2 _ (by omega)).trans har
  have htl := (hn2 _ (by omega)).trans htl
  have hop := (hn2 _ (by omega)).trans hop
  have hah := (hn2 _ (by omega)).trans hah
  refine lv_aload_n F.1 F.2.1 dX7_compile_5 rfl (lv_at hl 0 rfl) ?_
  refine h_iconst F dX7_compile_6 ?_
  refine pf_RX7_35 F hW hS ho3 (Nat.le_of_ble_eq_true rfl) dX7_compile_7 (fun w4 H locs ho6 hn5 hW hS => ?_)
  have ho6 : w4 (y + 315) = some (.inr (7, [.ref (y + 311), .ref (y + 316), .ref (y + 317), .ref (y + 318), .int (iI 0), .int (iI 0), .int (iI ac), .ref (y + 319), .ref (y + 320), .int (iI dp), .int (iI pr)])) := ho6
  have hR := (hn5 _ (by omega)).trans hR
  have hB := (hn5 _ (by omega)).trans hB
  have hT := (hn5 _ (by omega)).trans hT
  have hkd := (hn5 _ (by omega)).trans hkd
  have har := (hn5 _ (by omega)).trans har
  have htl := (hn5 _ (by omega)).trans htl
  have hop := (hn5 _ (by omega)).trans hop
  have hah := (hn5 _ (by omega)).trans hah
  refine lv_aload_n F.1 F.2.1 dX7_compile_10 rfl (lv_at hl 0 rfl) ?_
  refine h_iconst F dX7_compile_11 ?_
  refine pf_RX7_38 F hW hS ho6 (Nat.le_of_ble_eq_true rfl) dX7_compile_12 (fun w7 H locs ho9 hn8 hW hS => ?_)
  have ho9 : w7 (y + 315) = some (.inr (7, [.ref (y + 311), .ref (y + 316), .ref (y + 317), .ref (y + 318), .int (iI 0), .int (iI 0), .int (iI 0), .ref (y + 319), .ref (y + 320), .int (iI dp), .int (iI pr)])) := ho9
  have hR := (hn8 _ (by omega)).trans hR
  have hB := (hn8 _ (by omega)).trans hB
  have hT := (hn8 _ (by omega)).trans hT
  have hkd := (hn8 _ (by omega)).trans hkd
  have har := (hn8 _ (by omega)).trans har
  have htl := (hn8 _ (by omega)).trans htl
  have hop := (hn8 _ (by omega)).trans hop
  have hah := (hn8 _ (by omega)).trans hah
  refine lv_aload_n F.1 F.2.1 dX7_compile_15 rfl (lv_at hl 0 rfl) ?_
  refine h_iconst F dX7_compile_16 ?_
  refine pf_RX7_41 F hW hS ho9 (Nat.le_of_ble_eq_true rfl) dX7_compile_17 (fun w10 H locs ho12 hn11 hW hS => ?_)
  have ho12 : w10 (y + 315) = some (.inr (7, [.ref (y + 311), .ref (y + 316), .ref (y + 317), .ref (y + 318), .int (iI 0), .int (iI 0), .int (iI 0), .ref (y + 319), .ref (y + 320), .int (iI 0), .int (iI pr)])) := ho12
  have hR := (hn11 _ (by omega)).trans hR
  have hB := (hn11 _ (by omega)).trans hB
  have hT := (hn11 _ (by omega)).trans hT
  have hkd := (hn11 _ (by omega)).trans hkd
  have har := (hn11 _ (by omega)).trans har
  have htl := (hn11 _ (by omega)).trans htl
  have hop := (hn11 _ (by omega)).trans hop
  have hah := (hn11 _ (by omega)).trans hah
  refine lv_aload_n F.1 F.2.1 dX7_compile_20 rfl (lv_at hl 0 rfl) ?_
  refine gf_RX7_27 F hW ho12 rfl dX7_compile_21 ?_
  refine cl_RX7_44 (As := []) (rest := []) F hl (k_begin l X w10 (y + 311) (y + 307) (y + 308) N f v rv hR hB hT hN (by omega) (by omega) hfb) hW hS hR rfl rfl ⟨Nat.le_of_ble_eq_true rfl, Nat.le_of_ble_eq_true rfl⟩ (Nat.le_of_ble_eq_true rfl) ⟨Nat.zero_le _, Nat.zero_le _⟩ dX7_compile_24 (fun w13 H locs hp14 hW hS => ?_)
  obtain ⟨ho15, hn16⟩ := hp14
  have hB := (hn16 _ (by omega)).trans hB
  have ho12 := (hn16 _ (by omega)).trans ho12
  have hT := (hn16 _ (by omega)).trans hT
  have hkd := (hn16 _ (by omega)).trans hkd
  have har := (hn16 _ (by omega)).trans har
  have htl := (hn16 _ (by omega)).trans htl
  have hop := (hn16 _ (by omega)).trans hop
  have hah := (hn16 _ (by omega)).trans hah
  refine h_iconst F dX7_compile_27 ?_
  refine lv_istore_n (lv' := [(2, .int (iI 0)), (0, .ref (y + 315)), (1, .int (iI wd))]) F.1 F.2.1 dX7_compile_28 rfl hl (by decide) rfl (fun ls hl => ?_)
  have loop29 : ∀ (n9 : Nat) (i : Int) (v9 s9 : Int → Int) (m9 : Int), (hrg : 0 ≤ i ∧ i ≤ 402) → (hms : 402 - i < (n9 : Int)) → (wz9 : Wo) → (hO29_0 : wz9 (y + 311) = some (.inr (6, rL (y + 307) (cR f N v9 m9)))) → (hF29 : ∀ q : Nat, q ≠ y + 311 → (q < y + 315 ∨ y + 321 ≤ q) → wz9 q = w13 q) → (hi9 : sI f v9) → (hl9 : v9 18 = 0) → (hM9 : v9 11 = N) → (hm9 : i ≤ v9 15) → (hG : sgG f wd (402 - i).toNat v9 s9 = sgF f (ld0 f v) sc wd) → (hsr : scR X wz9 y v9 s9 wd) → (H : Heap) → (locs : List Loc) → (ls : Array Slot) → Wd X wz9 s H → va_S (cxA X) s.heap H locs → lv_has ls 4 [(2, .int (iI i)), (0, .ref (y + 315)), (1, .int (iI wd))] → W p l e (rmk 8 172) s m (List.toArray [.ref (y + 315), .int (iI wd)]) below meth c H locs 0 0 (MX X below (List.toArray [.ref (y + 315), .int (iI wd)]) s 0 0 (some (.int (iI (bz (decide (sgV f (ld0 f v) sc wd 18 = 0)))))) (fun w' => (∃ m : Int, w' (y + 311) = some (.inr (6, rL (y + 307) (cR f N (sgV f (ld0 f v) sc wd) m)))) ∧ (scE X w' y ∧ (sgV f (ld0 f v) sc wd 18 = 0 → scR X w' y (sgV f (ld0 f v) sc wd) (sgF f (ld0 f v) sc wd).2 wd ∧ (sgV f (ld0 f v) sc wd) 29 = 0 ∧ sI f (sgV f (ld0 f v) sc wd))) ∧ ∀ q : Nat, q ≠ y + 311 → (q < y + 315 ∨ y + 321 ≤ q) → w' q = w q)) (F0 m 29 ls []) := by
    intro n9
    induction n9 with
    | zero => intro i v9 s9  m9  hrg hms; exfalso; omega
    | succ n9 ih29 =>
      intro i v9 s9  m9  hrg hms wz9 hO29_0 hF29 hi9 hl9 hM9 hm9 hG hsr H locs ls hW hS hl
      have hB := (hF29 _ (by omega) (by omega)).trans hB
      have hT := (hF29 _ (by omega) (by omega)).trans hT
      have hp9 := hi9.1
      have hj9 := hi9.2
      have hr9 := hp9.1.r
      have hN9 := hp9.1.1
      have hk0 := (cR_1N (num := m9) hp9 hM9).2.2
      have hkm := cR_mN (num := m9) hp9 hM9 (mk := 125) (by decide)
      have hkr := cR_rN (num := m9) hp9 hM9
      have hsrx := hsr
      obtain ⟨ac9, pr9, kd9, ar9, tl9, op9, ah9, ⟨hSc9, -, -, -, -, -⟩, -⟩ := hsrx
      have hcs := csV_I (wd := wd) hi9
      refine lv_iload_n F.1 F.2.1 dX7_compile_29 rfl (lv_at hl 0 rfl) ?_
      refine h_sipush F dX7_compile_30 rfl ?_
      refine h_icgt (tgt := 99) F dX7_compile_33 (by decide) (by omega) (fun c17 => ?_) (fun c17 => ?_)
      · exfalso; have := hp9.1.1; omega
      · refine lv_aload_n F.1 F.2.1 dX7_compile_36 rfl (lv_at hl 1 rfl) ?_
        refine gf_RX7_41 F hW hSc9 rfl dX7_compile_37 ?_
        refine h_ifne (tgt := 55) F dX7_compile_40 (by decide) (by omega) (fun c18 => ?_) (fun c18 => ?_)
        · refine lv_aload_n F.1 F.2.1 dX7_compile_55 rfl (lv_at hl 1 rfl) ?_
          refine gf_RX7_41 F hW hSc9 rfl dX7_compile_56 ?_
          refine h_ifle (tgt := 81) F dX7_compile_59 (by decide) (by omega) (fun c19 => ?_) (fun c19 => ?_)
          · refine lv_aload_n F.1 F.2.1 dX7_compile_81 rfl (lv_at hl 1 rfl) ?_
            refine lv_iload_n F.1 F.2.1 dX7_compile_82 rfl (lv_at hl 2 rfl) ?_
            refine cl_RX7_56 (As := [.int (iI wd)]) (rest := []) F hl (c_X7_readCommand l X wz9 y N m9 f v9 s9 wd hO29_0 hB hT hM9 hi9 hsr hl9 (by omega)) hW hS hSc9 rfl rfl ⟨Nat.le_of_ble_eq_true rfl, Nat.le_of_ble_eq_true rfl⟩ (Nat.le_of_ble_eq_true rfl) ⟨Nat.zero_le _, Nat.zero_le _⟩ dX7_compile_83 (fun w20 H locs hp21 hW hS => ?_)
            obtain ⟨hRL, hS9, hn22⟩ := hp21
            have hB := (hn22 _ (by omega) (by omega)).trans hB
            have hT := (hn22 _ (by omega) (by omega)).trans hT
            obtain ⟨m7, hrd⟩ := hRL
            have hcl : ¬ (clB f v9 = true) := by (intro z; have hz := clB_0 z; first | omega | exact absurd (hkm.mpr ⟨hz.2.2.1, hz.2.2.2⟩) (by assumption))
            have eV : csV f v9 wd = rmV f v9 wd := if_neg hcl
            have eS : csS f v9 s9 wd = rmS f v9 s9 wd := if_neg hcl
            rw [← eV] at hS9
            rw [← eS] at hS9
            have hk9o : v9 16 ≠ 0 ∨ (v9 16 = 0 ∧ 0 < v9 29 ∧ csV f v9 wd 18 ≠ 0) := by (by_cases hk8 : v9 16 = 0; (exact .inr ⟨hk8, by first | omega | (have h99 := hk0.mpr hk8; exfalso; first | omega | exact absurd h99 (by assumption)), by rw [eV]; exact rm_dead hk8⟩); exact .inl hk8)
            have hX23 : w20 (y + 311) = some (.inr (6, rL (y + 307) (cR f N (csV f v9 wd) m7))) := by rw [show (csV f v9 wd : Int → Int) = rmV f v9 wd from eV]; exact hrd
            refine h_top (show (bz (decide (rmV f v9 wd 18 = 0)) : Int) = bz (decide (csV f v9 wd 18 = 0)) from congrArg bz (by rw [eV])) ?_
            refine lv_istore_n (lv' := [(3, .int (iI (bz (decide (csV f v9 wd 18 = 0))))), (2, .int (iI i)), (0, .ref (y + 315)), (1, .int (iI wd))]) F.1 F.2.1 dX7_compile_86 rfl hl (by decide) rfl (fun ls hl => ?_)
            refine lv_iload_n F.1 F.2.1 dX7_compile_87 rfl (lv_at hl 0 rfl) ?_
            refine h_ifneb (tgt := 93) F dX7_compile_88 (by decide) (fun c24 => ?_) (fun c24 => ?_)
            · have c24d := of_decide_eq_true c24
              have hl7 : csV f v9 wd 18 = 0 := by assumption
              have hk9 : v9 16 ≠ 0 := hk9o.elim id (fun z => absurd hl7 z.2.2)
              have hsr7 := hS9.2 hl7
              refine h_iinc (k := 1) (a := i) (lv' := [(2, .int (iI (i + 1))), (3, .int (iI (bz (decide (csV f v9 wd 18 = 0))))), (0, .ref (y + 315)), (1, .int (iI wd))]) F dX7_compile_93 hl rfl (by decide) rfl (fun ls hl => ?_)
              refine h_goto (tgt := 29) F dX7_compile_96 (by decide) ?_
              have eq25 : ((i + 1) : Int) = i + 1 := by first | rfl | omega | simp
              exact ih29 (i + 1) (csV f v9 wd) (csS f v9 s9 wd) m7 (by omega) (by omega) w20 hX23 (fun q h09 h19 => by rw [hn22 q (by omega) (by omega), hF29 q (by omega) (by omega)]) (csV_I hi9) hl7 ((csV_n hi9.1 (by omega) (by decide)).trans hM9) (Int.le_trans (show i + 1 ≤ v9 15 + 1 by omega) (csV_m hi9.1 hl7)) ((sgG_s (by omega) ⟨hl9, hk9⟩).symm.trans hG) hsr7 _ _ ls hW hS (by rw [eq25]; exact lv_sub hl [0, 2, 3] rfl)
            · have c24d := of_decide_eq_false c24
              have hl1 : csV f v9 wd 18 ≠ 0 := by assumption
              obtain ⟨eF, hx⟩ := cs_dead (f := f) (v := v9) (sc := s9) hl9 (by omega) hl1 hk9o hG
              have hRL : (∃ m : Int, w20 (y + 311) = some (.inr (6, rL (y + 307) (cR f N (sgV f (ld0 f v) sc wd) m)))) := ⟨_, by rw [eF]; exact hX23⟩
              have hSX : (scE X w20 y ∧ (sgV f (ld0 f v) sc wd 18 = 0 → scR X w20 y (sgV f (ld0 f v) sc wd) (sgF f (ld0 f v) sc wd).2 wd ∧ (sgV f (ld0 f v) sc wd) 29 = 0 ∧ sI f (sgV f (ld0 f v) sc wd))) := ⟨hS9.1, fun z => absurd z hx⟩
              refine h_iconst F dX7_compile_91 ?_
              refine h_top (show (0 : Int) = bz (decide (sgV f (ld0 f v) sc wd 18 = 0)) from by first | exact bzt (decide_eq_true hx) | exact bzf (decide_eq_false hx)) ?_
              exact h_iretz F hr hlk hW hS ⟨hRL, hSX, (fun q h09 h19 => by rw [hn22 q (by omega) (by omega), hF29 q (by omega) (by omega), hn16 q (by omega), hn11 q (by omega), hn8 q (by omega), hn5 q (by omega), hn2 q (by omega)])⟩ dX7_compile_92
          · refine lv_aload_n F.1 F.2.1 dX7_compile_62 rfl (lv_at hl 1 rfl) ?_
            refine gf_RX7_27 F hW hSc9 rfl dX7_compile_63 ?_
            refine gf_RX7_49 F hW hO29_0 rfl dX7_compile_66 ?_
            refine h_bipush F dX7_compile_69 rfl ?_
            refine h_icne (tgt := 81) F dX7_compile_71 (by decide) (by omega) (fun c26 => ?_) (fun c26 => ?_)
            · refine lv_aload_n F.1 F.2.1 dX7_compile_81 rfl (lv_at hl 1 rfl) ?_
              refine lv_iload_n F.1 F.2.1 dX7_compile_82 rfl (lv_at hl 2 rfl) ?_
              refine cl_RX7_56 (As := [.int (iI wd)]) (rest := []) F hl (c_X7_readCommand l X wz9 y N m9 f v9 s9 wd hO29_0 hB hT hM9 hi9 hsr hl9 (by omega)) hW hS hSc9 rfl rfl ⟨Nat.le_of_ble_eq_true rfl, Nat.le_of_ble_eq_true rfl⟩ (Nat.le_of_ble_eq_true rfl) ⟨Nat.zero_le _, Nat.zero_le _⟩ dX7_compile_83 (fun w27 H locs hp28 hW hS => ?_)
              obtain ⟨hRL, hS9, hn29⟩ := hp28
              have hB := (hn29 _ (by omega) (by omega)).trans hB
              have hT := (hn29 _ (by omega) (by omega)).trans hT
              obtain ⟨m7, hrd⟩ := hRL
              have hcl : ¬ (clB f v9 = true) := by (intro z; have hz := clB_0 z; first | omega | exact absurd (hkm.mpr ⟨hz.2.2.1, hz.2.2.2⟩) (by assumption))
              have eV : csV f v9 wd = rmV f v9 wd := if_neg hcl
              have eS : csS f v9 s9 wd = rmS f v9 s9 wd := if_neg hcl
              rw [← eV] at hS9
              rw [← eS] at hS9
              have hk9o : v9 16 ≠ 0 ∨ (v9 16 = 0 ∧ 0 < v9 29 ∧ csV f v9 wd 18 ≠ 0) := by (by_cases hk8 : v9 16 = 0; (exact .inr ⟨hk8, by first | omega | (have h99 := hk0.mpr hk8; exfalso; first | omega | exact absurd h99 (by assumption)), by rw [eV]; exact rm_dead hk8⟩); exact .inl hk8)
              have hX30 : w27 (y + 311) = some (.inr (6, rL (y + 307) (cR f N (csV f v9 wd) m7))) := by rw [show (csV f v9 wd : Int → Int) = rmV f v9 wd from eV]; exact hrd
              refine h_top (show (bz (decide (rmV f v9 wd 18 = 0)) : Int) = bz (decide (csV f v9 wd 18 = 0)) from congrArg bz (by rw [eV])) ?_
              refine lv_istore_n (lv' := [(3, .int (iI (bz (decide (csV f v9 wd 18 = 0))))), (2, .int (iI i)), (0, .ref (y + 315)), (1, .int (iI wd))]) F.1 F.2.1 dX7_compile_86 rfl hl (by decide) rfl (fun ls hl => ?_)
              refine lv_iload_n F.1 F.2.1 dX7_compile_87 rfl (lv_at hl 0 rfl) ?_
              refine h_ifneb (tgt := 93) F dX7_compile_88 (by decide) (fun c31 => ?_) (fun c31 => ?_)
              · have c31d := of_decide_eq_true c31
                have hl7 : csV f v9 wd 18 = 0 := by assumption
                have hk9 : v9 16 ≠ 0 := hk9o.elim id (fun z => absurd hl7 z.2.2)
                have hsr7 := hS9.2 hl7
                refine h_iinc (k := 1) (a := i) (lv' := [(2, .int (iI (i + 1))), (3, .int (iI (bz (decide (csV f v9 wd 18 = 0))))), (0, .ref (y + 315)), (1, .int (iI wd))]) F dX7_compile_93 hl rfl (by decide) rfl (fun ls hl => ?_)
                refine h_goto (tgt := 29) F dX7_compile_96 (by decide) ?_
                have eq32 : ((i + 1) : Int) = i + 1 := by first | rfl | omega | simp
                exact ih29 (i + 1) (csV f v9 wd) (csS f v9 s9 wd) m7 (by omega) (by omega) w27 hX30 (fun q h09 h19 => by rw [hn29 q (by omega) (by omega), hF29 q (by omega) (by omega)]) (csV_I hi9) hl7 ((csV_n hi9.1 (by omega) (by decide)).trans hM9) (Int.le_trans (show i + 1 ≤ v9 15 + 1 by omega) (csV_m hi9.1 hl7)) ((sgG_s (by omega) ⟨hl9, hk9⟩).symm.trans hG) hsr7 _ _ ls hW hS (by rw [eq32]; exact lv_sub hl [0, 2, 3] rfl)
              · have c31d := of_decide_eq_false c31
                have hl1 : csV f v9 wd 18 ≠ 0 := by assumption
                obtain ⟨eF, hx⟩ := cs_dead (f := f) (v := v9) (sc := s9) hl9 (by omega) hl1 hk9o hG
                have hRL : (∃ m : Int, w27 (y + 311) = some (.inr (6, rL (y + 307) (cR f N (sgV f (ld0 f v) sc wd) m)))) := ⟨_, by rw [eF]; exact hX30⟩
                have hSX : (scE X w27 y ∧ (sgV f (ld0 f v) sc wd 18 = 0 → scR X w27 y (sgV f (ld0 f v) sc wd) (sgF f (ld0 f v) sc wd).2 wd ∧ (sgV f (ld0 f v) sc wd) 29 = 0 ∧ sI f (sgV f (ld0 f v) sc wd))) := ⟨hS9.1, fun z => absurd z hx⟩
                refine h_iconst F dX7_compile_91 ?_
                refine h_top (show (0 : Int) = bz (decide (sgV f (ld0 f v) sc wd 18 = 0)) from by first | exact bzt (decide_eq_true hx) | exact bzf (decide_eq_false hx)) ?_
                exact h_iretz F hr hlk hW hS ⟨hRL, hSX, (fun q h09 h19 => by rw [hn29 q (by omega) (by omega), hF29 q (by omega) (by omega), hn16 q (by omega), hn11 q (by omega), hn8 q (by omega), hn5 q (by omega), hn2 q (by omega)])⟩ dX7_compile_92
            · refine lv_aload_n F.1 F.2.1 dX7_compile_74 rfl (lv_at hl 1 rfl) ?_
              refine cl_RX7_52 (As := []) (rest := []) F hl (c_X7_readClose l X wz9 y N m9 f v9 s9 wd hO29_0 hB hT hM9 hi9 hsr hl9 (by omega)) hW hS hSc9 rfl rfl ⟨Nat.le_of_ble_eq_true rfl, Nat.le_of_ble_eq_true rfl⟩ (Nat.le_of_ble_eq_true rfl) ⟨Nat.zero_le _, Nat.zero_le _⟩ dX7_compile_75 (fun w33 H locs hp34 hW hS => ?_)
              obtain ⟨hRL, hS9, hn35⟩ := hp34
              have hB := (hn35 _ (by omega) (by omega)).trans hB
              have hT := (hn35 _ (by omega) (by omega)).trans hT
              obtain ⟨m7, hrd⟩ := hRL
              have hcl : clB f v9 = true := by unfold clB isSR; rw [decide_eq_true (p := 0 < v9 29) (by omega), decide_eq_true hl9, decide_eq_true (hkm.mp (by assumption)).1, decide_eq_true (hkm.mp (by assumption)).2]; rfl
              have eV : csV f v9 wd = clV f v9 := if_pos hcl
              have eS : csS f v9 s9 wd = laS s9 (v9 27) 6 0 0 0 := if_pos hcl
              have hk9 : v9 16 ≠ 0 := by have := (hkm.mp (by assumption)).1; omega
              rw [← eV] at hS9
              rw [← eS] at hS9
              have hX36 : w33 (y + 311) = some (.inr (6, rL (y + 307) (cR f N (csV f v9 wd) m7))) := by rw [show (csV f v9 wd : Int → Int) = clV f v9 from eV]; exact hrd
              refine h_goto (tgt := 86) F dX7_compile_78 (by decide) ?_
              have hk9o : v9 16 ≠ 0 ∨ (v9 16 = 0 ∧ 0 < v9 29 ∧ csV f v9 wd 18 ≠ 0) := .inl hk9
              refine h_top (show (bz (decide (clV f v9 18 = 0)) : Int) = bz (decide (csV f v9 wd 18 = 0)) from congrArg bz (by rw [eV])) ?_
              refine lv_istore_n (lv' := [(3, .int (iI (bz (decide (csV f v9 wd 18 = 0))))), (2, .int (iI i)), (0, .ref (y + 315)), (1, .int (iI wd))]) F.1 F.2.1 dX7_compile_86 rfl hl (by decide) rfl (fun ls hl => ?_)
              refine lv_iload_n F.1 F.2.1 dX7_compile_87 rfl (lv_at hl 0 rfl) ?_
              refine h_ifneb (tgt := 93) F dX7_compile_88 (by decide) (fun c37 => ?_) (fun c37 => ?_)
              · have c37d := of_decide_eq_true c37
                have hl7 : csV f v9 wd 18 = 0 := by assumption
                have hk9 : v9 16 ≠ 0 := hk9o.elim id (fun z => absurd hl7 z.2.2)
                have hsr7 := hS9.2 hl7
                refine h_iinc (k := 1) (a := i) (lv' := [(2, .int (iI (i + 1))), (3, .int (iI (bz (decide (csV f v9 wd 18 = 0))))), (0, .ref (y + 315)), (1, .int (iI wd))]) F dX7_compile_93 hl rfl (by decide) rfl (fun ls hl => ?_)
                refine h_goto (tgt := 29) F dX7_compile_96 (by decide) ?_
                have eq38 : ((i + 1) : Int) = i + 1 := by first | rfl | omega | simp
                exact ih29 (i + 1) (csV f v9 wd) (csS f v9 s9 wd) m7 (by omega) (by omega) w33 hX36 (fun q h09 h19 => by rw [hn35 q (by omega) (by omega), hF29 q (by omega) (by omega)]) (csV_I hi9) hl7 ((csV_n hi9.1 (by omega) (by decide)).trans hM9) (Int.le_trans (show i + 1 ≤ v9 15 + 1 by omega) (csV_m hi9.1 hl7)) ((sgG_s (by omega) ⟨hl9, hk9⟩).symm.trans hG) hsr7 _ _ ls hW hS (by rw [eq38]; exact lv_sub hl [0, 2, 3] rfl)
              · have c37d := of_decide_eq_false c37
                have hl1 : csV f v9 wd 18 ≠ 0 := by assumption
                obtain ⟨eF, hx⟩ := cs_dead (f := f) (v := v9) (sc := s9) hl9 (by omega) hl1 hk9o hG
                have hRL : (∃ m : Int, w33 (y + 311) = some (.inr (6, rL (y + 307) (cR f N (sgV f (ld0 f v) sc wd) m)))) := ⟨_, by rw [eF]; exact hX36⟩
                have hSX : (scE X w33 y ∧ (sgV f (ld0 f v) sc wd 18 = 0 → scR X w33 y (sgV f (ld0 f v) sc wd) (sgF f (ld0 f v) sc wd).2 wd ∧ (sgV f (ld0 f v) sc wd) 29 = 0 ∧ sI f (sgV f (ld0 f v) sc wd))) := ⟨hS9.1, fun z => absurd z hx⟩
                refine h_iconst F dX7_compile_91 ?_
                refine h_top (show (0 : Int) = bz (decide (sgV f (ld0 f v) sc wd 18 = 0)) from by first | exact bzt (decide_eq_true hx) | exact bzf (decide_eq_false hx)) ?_
                exact h_iretz F hr hlk hW hS ⟨hRL, hSX, (fun q h09 h19 => by rw [hn35 q (by omega) (by omega), hF29 q (by omega) (by omega), hn16 q (by omega), hn11 q (by omega), hn8 q (by omega), hn5 q (by omega), hn2 q (by omega)])⟩ dX7_compile_92
        · have h290 : v9 29 = 0 := by omega
          refine lv_aload_n F.1 F.2.1 dX7_compile_43 rfl (lv_at hl 1 rfl) ?_
          refine gf_RX7_27 F hW hSc9 rfl dX7_compile_44 ?_
          refine gf_RX7_49 F hW hO29_0 rfl dX7_compile_47 ?_
          refine h_ifne (tgt := 55) F dX7_compile_50 (by decide) (by omega) (fun c39 => ?_) (fun c39 => ?_)
          · refine lv_aload_n F.1 F.2.1 dX7_compile_55 rfl (lv_at hl 1 rfl) ?_
            refine gf_RX7_41 F hW hSc9 rfl dX7_compile_56 ?_
            refine h_ifle (tgt := 81) F dX7_compile_59 (by decide) (by omega) (fun c40 => ?_) (fun c40 => ?_)
            · refine lv_aload_n F.1 F.2.1 dX7_compile_81 rfl (lv_at hl 1 rfl) ?_
              refine lv_iload_n F.1 F.2.1 dX7_compile_82 rfl (lv_at hl 2 rfl) ?_
              refine cl_RX7_56 (As := [.int (iI wd)]) (rest := []) F hl (c_X7_readCommand l X wz9 y N m9 f v9 s9 wd hO29_0 hB hT hM9 hi9 hsr hl9 (by omega)) hW hS hSc9 rfl rfl ⟨Nat.le_of_ble_eq_true rfl, Nat.le_of_ble_eq_true rfl⟩ (Nat.le_of_ble_eq_true rfl) ⟨Nat.zero_le _, Nat.zero_le _⟩ dX7_compile_83 (fun w41 H locs hp42 hW hS => ?_)
              obtain ⟨hRL, hS9, hn43⟩ := hp42
              have hB := (hn43 _ (by omega) (by omega)).trans hB
              have hT := (hn43 _ (by omega) (by omega)).trans hT
              obtain ⟨m7, hrd⟩ := hRL
              have hcl : ¬ (clB f v9 = true) := by (intro z; have hz := clB_0 z; first | omega | exact absurd (hkm.mpr ⟨hz.2.2.1, hz.2.2.2⟩) (by assumption))
              have eV : csV f v9 wd = rmV f v9 wd := if_neg hcl
              have eS : csS f v9 s9 wd = rmS f v9 s9 wd := if_neg hcl
              rw [← eV] at hS9
              rw [← eS] at hS9
              have hk9o : v9 16 ≠ 0 ∨ (v9 16 = 0 ∧ 0 < v9 29 ∧ csV f v9 wd 18 ≠ 0) := by (by_cases hk8 : v9 16 = 0; (exact .inr ⟨hk8, by first | omega | (have h99 := hk0.mpr hk8; exfalso; first | omega | exact absurd h99 (by assumption)), by rw [eV]; exact rm_dead hk8⟩); exact .inl hk8)
              have hX44 : w41 (y + 311) = some (.inr (6, rL (y + 307) (cR f N (csV f v9 wd) m7))) := by rw [show (csV f v9 wd : Int → Int) = rmV f v9 wd from eV]; exact hrd
              refine h_top (show (bz (decide (rmV f v9 wd 18 = 0)) : Int) = bz (decide (csV f v9 wd 18 = 0)) from congrArg bz (by rw [eV])) ?_
              refine lv_istore_n (lv' := [(3, .int (iI (bz (decide (csV f v9 wd 18 = 0))))), (2, .int (iI i)), (0, .ref (y + 315)), (1, .int (iI wd))]) F.1 F.2.1 dX7_compile_86 rfl hl (by decide) rfl (fun ls hl => ?_)
              refine lv_iload_n F.1 F.2.1 dX7_compile_87 rfl (lv_at hl 0 rfl) ?_
              refine h_ifneb (tgt := 93) F dX7_compile_88 (by decide) (fun c45 => ?_) (fun c45 => ?_)
              · have c45d := of_decide_eq_true c45
                have hl7 : csV f v9 wd 18 = 0 := by assumption
                have hk9 : v9 16 ≠ 0 := hk9o.elim id (fun z => absurd hl7 z.2.2)
                have hsr7 := hS9.2 hl7
                refine h_iinc (k := 1) (a := i) (lv' := [(2, .int (iI (i + 1))), (3, .int (iI (bz (decide (csV f v9 wd 18 = 0))))), (0, .ref (y + 315)), (1, .int (iI wd))]) F dX7_compile_93 hl rfl (by decide) rfl (fun ls hl => ?_)
                refine h_goto (tgt := 29) F dX7_compile_96 (by decide) ?_
                have eq46 : ((i + 1) : Int) = i + 1 := by first | rfl | omega | simp
                exact ih29 (i + 1) (csV f v9 wd) (csS f v9 s9 wd) m7 (by omega) (by omega) w41 hX44 (fun q h09 h19 => by rw [hn43 q (by omega) (by omega), hF29 q (by omega) (by omega)]) (csV_I hi9) hl7 ((csV_n hi9.1 (by omega) (by decide)).trans hM9) (Int.le_trans (show i + 1 ≤ v9 15 + 1 by omega) (csV_m hi9.1 hl7)) ((sgG_s (by omega) ⟨hl9, hk9⟩).symm.trans hG) hsr7 _ _ ls hW hS (by rw [eq46]; exact lv_sub hl [0, 2, 3] rfl)
              · have c45d := of_decide_eq_false c45
                have hl1 : csV f v9 wd 18 ≠ 0 := by assumption
                obtain ⟨eF, hx⟩ := cs_dead (f := f) (v := v9) (sc := s9) hl9 (by omega) hl1 hk9o hG
                have hRL : (∃ m : Int, w41 (y + 311) = some (.inr (6, rL (y + 307) (cR f N (sgV f (ld0 f v) sc wd) m)))) := ⟨_, by rw [eF]; exact hX44⟩
                have hSX : (scE X w41 y ∧ (sgV f (ld0 f v) sc wd 18 = 0 → scR X w41 y (sgV f (ld0 f v) sc wd) (sgF f (ld0 f v) sc wd).2 wd ∧ (sgV f (ld0 f v) sc wd) 29 = 0 ∧ sI f (sgV f (ld0 f v) sc wd))) := ⟨hS9.1, fun z => absurd z hx⟩
                refine h_iconst F dX7_compile_91 ?_
                refine h_top (show (0 : Int) = bz (decide (sgV f (ld0 f v) sc wd 18 = 0)) from by first | exact bzt (decide_eq_true hx) | exact bzf (decide_eq_false hx)) ?_
                exact h_iretz F hr hlk hW hS ⟨hRL, hSX, (fun q h09 h19 => by rw [hn43 q (by omega) (by omega), hF29 q (by omega) (by omega), hn16 q (by omega), hn11 q (by omega), hn8 q (by omega), hn5 q (by omega), hn2 q (by omega)])⟩ dX7_compile_92
            · refine lv_aload_n F.1 F.2.1 dX7_compile_62 rfl (lv_at hl 1 rfl) ?_
              refine gf_RX7_27 F hW hSc9 rfl dX7_compile_63 ?_
              refine gf_RX7_49 F hW hO29_0 rfl dX7_compile_66 ?_
              refine h_bipush F dX7_compile_69 rfl ?_
              refine h_icne (tgt := 81) F dX7_compile_71 (by decide) (by omega) (fun c47 => ?_) (fun c47 => ?_)
              · refine lv_aload_n F.1 F.2.1 dX7_compile_81 rfl (lv_at hl 1 rfl) ?_
                refine lv_iload_n F.1 F.2.1 dX7_compile_82 rfl (lv_at hl 2 rfl) ?_
                refine cl_RX7_56 (As := [.int (iI wd)]) (rest := []) F hl (c_X7_readCommand l X wz9 y N m9 f v9 s9 wd hO29_0 hB hT hM9 hi9 hsr hl9 (by omega)) hW hS hSc9 rfl rfl ⟨Nat.le_of_ble_eq_true rfl, Nat.le_of_ble_eq_true rfl⟩ (Nat.le_of_ble_eq_true rfl) ⟨Nat.zero_le _, Nat.zero_le _⟩ dX7_compile_83 (fun w48 H locs hp49 hW hS => ?_)
                obtain ⟨hRL, hS9, hn50⟩ := hp49
                have hB := (hn50 _ (by omega) (by omega)).trans hB
                have hT := (hn50 _ (by omega) (by omega)).trans hT
                obtain ⟨m7, hrd⟩ := hRL
                have hcl : ¬ (clB f v9 = true) := by (intro z; have hz := clB_0 z; first | omega | exact absurd (hkm.mpr ⟨hz.2.2.1, hz.2.2.2⟩) (by assumption))
                have eV : csV f v9 wd = rmV f v9 wd := if_neg hcl
                have eS : csS f v9 s9 wd = rmS f v9 s9 wd := if_neg hcl
                rw [← eV] at hS9
                rw [← eS] at hS9
                have hk9o : v9 16 ≠ 0 ∨ (v9 16 = 0 ∧ 0 < v9 29 ∧ csV f v9 wd 18 ≠ 0) := by (by_cases hk8 : v9 16 = 0; (exact .inr ⟨hk8, by first | omega | (have h99 := hk0.mpr hk8; exfalso; first | omega | exact absurd h99 (by assumption)), by rw [eV]; exact rm_dead hk8⟩); exact .inl hk8)
                have hX51 : w48 (y + 311) = some (.inr (6, rL (y + 307) (cR f N (csV f v9 wd) m7))) := by rw [show (csV f v9 wd : Int → Int) = rmV f v9 wd from eV]; exact hrd
                refine h_top (show (bz (decide (rmV f v9 wd 18 = 0)) : Int) = bz (decide (csV f v9 wd 18 = 0)) from congrArg bz (by rw [eV])) ?_
                refine lv_istore_n (lv' := [(3, .int (iI (bz (decide (csV f v9 wd 18 = 0))))), (2, .int (iI i)), (0, .ref (y + 315)), (1, .int (iI wd))]) F.1 F.2.1 dX7_compile_86 rfl hl (by decide) rfl (fun ls hl => ?_)
                refine lv_iload_n F.1 F.2.1 dX7_compile_87 rfl (lv_at hl 0 rfl) ?_
                refine h_ifneb (tgt := 93) F dX7_compile_88 (by decide) (fun c52 => ?_) (fun c52 => ?_)
                · have c52d := of_decide_eq_true c52
                  have hl7 : csV f v9 wd 18 = 0 := by assumption
                  have hk9 : v9 16 ≠ 0 := hk9o.elim id (fun z => absurd hl7 z.2.2)
                  have hsr7 := hS9.2 hl7
                  refine h_iinc (k := 1) (a := i) (lv' := [(2, .int (iI (i + 1))), (3, .int (iI (bz (decide (csV f v9 wd 18 = 0))))), (0, .ref (y + 315)), (1, .int (iI wd))]) F dX7_compile_93 hl rfl (by decide) rfl (fun ls hl => ?_)
                  refine h_goto (tgt := 29) F dX7_compile_96 (by decide) ?_
                  have eq53 : ((i + 1) : Int) = i + 1 := by first | rfl | omega | simp
                  exact ih29 (i + 1) (csV f v9 wd) (csS f v9 s9 wd) m7 (by omega) (by omega) w48 hX51 (fun q h09 h19 => by rw [hn50 q (by omega) (by omega), hF29 q (by omega) (by omega)]) (csV_I hi9) hl7 ((csV_n hi9.1 (by omega) (by decide)).trans hM9) (Int.le_trans (show i + 1 ≤ v9 15 + 1 by omega) (csV_m hi9.1 hl7)) ((sgG_s (by omega) ⟨hl9, hk9⟩).symm.trans hG) hsr7 _ _ ls hW hS (by rw [eq53]; exact lv_sub hl [0, 2, 3] rfl)
                · have c52d := of_decide_eq_false c52
                  have hl1 : csV f v9 wd 18 ≠ 0 := by assumption
                  obtain ⟨eF, hx⟩ := cs_dead (f := f) (v := v9) (sc := s9) hl9 (by omega) hl1 hk9o hG
                  have hRL : (∃ m : Int, w48 (y + 311) = some (.inr (6, rL (y + 307) (cR f N (sgV f (ld0 f v) sc wd) m)))) := ⟨_, by rw [eF]; exact hX51⟩
                  have hSX : (scE X w48 y ∧ (sgV f (ld0 f v) sc wd 18 = 0 → scR X w48 y (sgV f (ld0 f v) sc wd) (sgF f (ld0 f v) sc wd).2 wd ∧ (sgV f (ld0 f v) sc wd) 29 = 0 ∧ sI f (sgV f (ld0 f v) sc wd))) := ⟨hS9.1, fun z => absurd z hx⟩
                  refine h_iconst F dX7_compile_91 ?_
                  refine h_top (show (0 : Int) = bz (decide (sgV f (ld0 f v) sc wd 18 = 0)) from by first | exact bzt (decide_eq_true hx) | exact bzf (decide_eq_false hx)) ?_
                  exact h_iretz F hr hlk hW hS ⟨hRL, hSX, (fun q h09 h19 => by rw [hn50 q (by omega) (by omega), hF29 q (by omega) (by omega), hn16 q (by omega), hn11 q (by omega), hn8 q (by omega), hn5 q (by omega), hn2 q (by omega)])⟩ dX7_compile_92
              · refine lv_aload_n F.1 F.2.1 dX7_compile_74 rfl (lv_at hl 1 rfl) ?_
                refine cl_RX7_52 (As := []) (rest := []) F hl (c_X7_readClose l X wz9 y N m9 f v9 s9 wd hO29_0 hB hT hM9 hi9 hsr hl9 (by omega)) hW hS hSc9 rfl rfl ⟨Nat.le_of_ble_eq_true rfl, Nat.le_of_ble_eq_true rfl⟩ (Nat.le_of_ble_eq_true rfl) ⟨Nat.zero_le _, Nat.zero_le _⟩ dX7_compile_75 (fun w54 H locs hp55 hW hS => ?_)
                obtain ⟨hRL, hS9, hn56⟩ := hp55
                have hB := (hn56 _ (by omega) (by omega)).trans hB
                have hT := (hn56 _ (by omega) (by omega)).trans hT
                obtain ⟨m7, hrd⟩ := hRL
                have hcl : clB f v9 = true := by unfold clB isSR; rw [decide_eq_true (p := 0 < v9 29) (by omega), decide_eq_true hl9, decide_eq_true (hkm.mp (by assumption)).1, decide_eq_true (hkm.mp (by assumption)).2]; rfl
                have eV : csV f v9 wd = clV f v9 := if_pos hcl
                have eS : csS f v9 s9 wd = laS s9 (v9 27) 6 0 0 0 := if_pos hcl
                have hk9 : v9 16 ≠ 0 := by have := (hkm.mp (by assumption)).1; omega
                rw [← eV] at hS9
                rw [← eS] at hS9
                have hX57 : w54 (y + 311) = some (.inr (6, rL (y + 307) (cR f N (csV f v9 wd) m7))) := by rw [show (csV f v9 wd : Int → Int) = clV f v9 from eV]; exact hrd
                refine h_goto (tgt := 86) F dX7_compile_78 (by decide) ?_
                have hk9o : v9 16 ≠ 0 ∨ (v9 16 = 0 ∧ 0 < v9 29 ∧ csV f v9 wd 18 ≠ 0) := .inl hk9
                refine h_top (show (bz (decide (clV f v9 18 = 0)) : Int) = bz (decide (csV f v9 wd 18 = 0)) from congrArg bz (by rw [eV])) ?_
                refine lv_istore_n (lv' := [(3, .int (iI (bz (decide (csV f v9 wd 18 = 0))))), (2, .int (iI i)), (0, .ref (y + 315)), (1, .int (iI wd))]) F.1 F.2.1 dX7_compile_86 rfl hl (by decide) rfl (fun ls hl => ?_)
                refine lv_iload_n F.1 F.2.1 dX7_compile_87 rfl (lv_at hl 0 rfl) ?_
                refine h_ifneb (tgt := 93) F dX7_compile_88 (by decide) (fun c58 => ?_) (fun c58 => ?_)
                · have c58d := of_decide_eq_true c58
                  have hl7 : csV f v9 wd 18 = 0 := by assumption
                  have hk9 : v9 16 ≠ 0 := hk9o.elim id (fun z => absurd hl7 z.2.2)
                  have hsr7 := hS9.2 hl7
                  refine h_iinc (k := 1) (a := i) (lv' := [(2, .int (iI (i + 1))), (3, .int (iI (bz (decide (csV f v9 wd 18 = 0))))), (0, .ref (y + 315)), (1, .int (iI wd))]) F dX7_compile_93 hl rfl (by decide) rfl (fun ls hl => ?_)
                  refine h_goto (tgt := 29) F dX7_compile_96 (by decide) ?_
                  have eq59 : ((i + 1) : Int) = i + 1 := by first | rfl | omega | simp
                  exact ih29 (i + 1) (csV f v9 wd) (csS f v9 s9 wd) m7 (by omega) (by omega) w54 hX57 (fun q h09 h19 => by rw [hn56 q (by omega) (by omega), hF29 q (by omega) (by omega)]) (csV_I hi9) hl7 ((csV_n hi9.1 (by omega) (by decide)).trans hM9) (Int.le_trans (show i + 1 ≤ v9 15 + 1 by omega) (csV_m hi9.1 hl7)) ((sgG_s (by omega) ⟨hl9, hk9⟩).symm.trans hG) hsr7 _ _ ls hW hS (by rw [eq59]; exact lv_sub hl [0, 2, 3] rfl)
                · have c58d := of_decide_eq_false c58
                  have hl1 : csV f v9 wd 18 ≠ 0 := by assumption
                  obtain ⟨eF, hx⟩ := cs_dead (f := f) (v := v9) (sc := s9) hl9 (by omega) hl1 hk9o hG
                  have hRL : (∃ m : Int, w54 (y + 311) = some (.inr (6, rL (y + 307) (cR f N (sgV f (ld0 f v) sc wd) m)))) := ⟨_, by rw [eF]; exact hX57⟩
                  have hSX : (scE X w54 y ∧ (sgV f (ld0 f v) sc wd 18 = 0 → scR X w54 y (sgV f (ld0 f v) sc wd) (sgF f (ld0 f v) sc wd).2 wd ∧ (sgV f (ld0 f v) sc wd) 29 = 0 ∧ sI f (sgV f (ld0 f v) sc wd))) := ⟨hS9.1, fun z => absurd z hx⟩
                  refine h_iconst F dX7_compile_91 ?_
                  refine h_top (show (0 : Int) = bz (decide (sgV f (ld0 f v) sc wd 18 = 0)) from by first | exact bzt (decide_eq_true hx) | exact bzf (decide_eq_false hx)) ?_
                  exact h_iretz F hr hlk hW hS ⟨hRL, hSX, (fun q h09 h19 => by rw [hn56 q (by omega) (by omega), hF29 q (by omega) (by omega), hn16 q (by omega), hn11 q (by omega), hn8 q (by omega), hn5 q (by omega), hn2 q (by omega)])⟩ dX7_compile_92
          · have hk8 : v9 16 = 0 := hk0.mp (by assumption)
            have eG : sgF f (ld0 f v) sc wd = (v9, s9) := by rw [← hG, sgG_e (fun z => z.2 hk8)]
            have eF : sgV f (ld0 f v) sc wd = v9 := by unfold sgV; rw [eG]; exact if_neg (by show ¬ (0 < v9 29); omega)
            have hx : sgV f (ld0 f v) sc wd 18 = 0 := by rw [eF]; exact hl9
            have hRL : (∃ m : Int, wz9 (y + 311) = some (.inr (6, rL (y + 307) (cR f N (sgV f (ld0 f v) sc wd) m)))) := ⟨_, by rw [eF]; exact hO29_0⟩
            have hsr9 : scR X wz9 y v9 s9 wd := hsr
            have hSX : (scE X wz9 y ∧ (sgV f (ld0 f v) sc wd 18 = 0 → scR X wz9 y (sgV f (ld0 f v) sc wd) (sgF f (ld0 f v) sc wd).2 wd ∧ (sgV f (ld0 f v) sc wd) 29 = 0 ∧ sI f (sgV f (ld0 f v) sc wd))) := ⟨sc_E hsr9, fun _ => by rw [eF, eG]; exact ⟨hsr9, h290, hi9⟩⟩
            refine h_iconst F dX7_compile_53 ?_
            refine h_top (show (1 : Int) = bz (decide (sgV f (ld0 f v) sc wd 18 = 0)) from by first | exact bzt (decide_eq_true hx) | exact bzf (decide_eq_false hx)) ?_
            exact h_iretz F hr hlk hW hS ⟨hRL, hSX, (fun q h09 h19 => by rw [hF29 q (by omega) (by omega), hn16 q (by omega), hn11 q (by omega), hn8 q (by omega), hn5 q (by omega), hn2 q (by omega)])⟩ dX7_compile_54
  exact loop29 ((402 - 0) + 1 : Int).toNat 0 (sc0 (ld0 f v)) sc (rv 5)  (by omega) (by omega) w13 (by rw [show (cR f N (sc0 (ld0 f v)) (rv 5) : Int → Int) = cR f N (goV f (up (up (up v 14 0) 18 0) 19 (-1))) (rv 5) from rfl]; exact ho15) (fun q _ _ => rfl) hi0 hl0 hM0 hr0.1.1 rfl (⟨_, _, _, _, _, _, _, ⟨ho12, hkd, har, htl, hop, hah⟩, ⟨[], Sg.nil 0⟩, by show (0 : Int) ≤ 0; decide⟩) _ _ ls hW hS (lv_sub hl [0, 1, 2] rfl)
