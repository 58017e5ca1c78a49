set_option maxHeartbeats 4000000 in
set_option maxRecDepth 100000 in
theorem c_L_feeds (l : Launch) (X : Cx) (w : Wo) (y z n : Nat) (su : Int) (g fb : Int → Int) (hY : clO X w y su) (hB : w (y + 307) = some (.inr (0, [.ref (y + 308), .int (iI 0)]))) (hT : w (y + 308) = some (aZ X 400 fb)) (hs : str X w z n g) (hg : ∀ j, 0 ≤ j → j < ((n : Nat) : Int) → 0 ≤ g j ∧ g j < 128) (hn9 : n ≤ 380) : CM l X yL_feeds cL_feeds 5 (some (.boolean)) (rmG 4 25 120 90) [.ref y, .ref z] w (some (.int (iI (bz true)))) (fun w' => ∃ (fb9 : Int → Int), w' (y + 307) = some (.inr (0, [.ref (y + 308), .int (iI ((n : Nat) : Int))])) ∧ w' (y + 308) = some (aZ X 400 fb9) ∧ (∀ j, 0 ≤ j → j < ((n : Nat) : Int) → fb9 j = g j) ∧ ∀ (q : Nat) (e : va_E), w q = some e → q ≠ y + 307 → q ≠ y + 308 → w' q = some e) := by
  refine CM.of (lv := [(0, .ref y), (1, .ref z)]) (by decide) (Nat.le_of_ble_eq_true rfl) rfl (fun p e s m below meth c ls F hr hlk hin hW hS hl => ?_)
  have hZ0 := hW.2.2
  have hB9 := hW.1.2
  clear hin
  have hB0 := hB
  have hT0 := hT
  have hXY := hW.zy
  unfold clO at hY
  refine h_iconst F dL_feeds_0 ?_
  refine lv_istore_n (lv' := [(2, .int (iI 0)), (0, .ref y), (1, .ref z)]) F.1 F.2.1 dL_feeds_1 rfl hl (by decide) rfl (fun ls hl => ?_)
  have loop2 : ∀ (n9 : Nat) (r : Int) (kc2 ks2 : Nat) (fb : Int → Int), (hrg : 0 ≤ r ∧ r ≤ (((n : Nat) : Int) + 19) / 20) → (hms : (((n : Nat) : Int) + 19) / 20 - r < (n9 : Int)) → (w6 : Wo) → (hO2_0 : w6 (y + 307) = some (.inr (0, [.ref (y + 308), .int (iI (20 * r))]))) → (hA2_0 : w6 (y + 308) = some (aZ X 400 fb)) → (hF2 : ∀ (q : Nat) (e : va_E), w q = some e → q ≠ y + 307 → q ≠ y + 308 → w6 q = some e) → (hkc2 : ((kc2 : Nat) : Int) ≤ ((0 : Nat) : Int) + 1 * r) → (hks2 : ((ks2 : Nat) : Int) ≤ ((0 : Nat) : Int) + 5 * r) → (hfb : ∀ j, 0 ≤ j → j < 20 * r → fb j = fch g ((n : Nat) : Int) j) → (H : Heap) → (locs : List Loc) → (ls : Array Slot) → Wd X w6 s H → va_S (cxA X) s.heap H locs → lv_has ls 5 [(2, .int (iI (20 * r))), (0, .ref y), (1, .ref z)] → W p l e (rmG 4 25 120 90) s m (List.toArray [.ref y, .ref z]) below meth c H locs kc2 ks2 (MX X below (List.toArray [.ref y, .ref z]) s 25 120 (some (.int (iI (bz true)))) (fun w' => ∃ (fb9 : Int → Int), w' (y + 307) = some (.inr (0, [.ref (y + 308), .int (iI ((n : Nat) : Int))])) ∧ w' (y + 308) = some (aZ X 400 fb9) ∧ (∀ j, 0 ≤ j → j < ((n : Nat) : Int) → fb9 j = g j) ∧ ∀ (q : Nat) (e : va_E), w q = some e → q ≠ y + 307 → q ≠ y + 308 → w' q = some e)) (F0 m 2 ls []) := by
    intro n9
    induction n9 with
    | zero => intro r kc2 ks2  fb  hrg hms; exfalso; omega
    | succ n9 ih2 =>
      intro r kc2 ks2  fb  hrg hms w6 hO2_0 hA2_0 hF2 hkc2 hks2 hfb H locs ls hW hS hl
      have hY := hF2 _ _ hY (by omega) (by omega)
      have hsk : str X w6 z n g := hs.k (P := (fun q => q = y + 307 ∨ q = y + 308)) (fun q e h9 hP9 => by have h9 := hF2 q e h9 (by omega) (by omega); exact h9) (fun q fs z9 e9 => e9.elim (fun e9 => by rw [e9, hB0] at z9; cases z9) (fun e9 => by rw [e9, hT0] at z9; cases z9)) (fun q n9 f9 z9 e9 => e9.elim (fun e9 => by rw [e9, hB0] at z9; cases z9) (fun e9 => by rw [e9, hT0] at z9; exact aZ_aY hXY (Option.some.inj z9)))
      refine lv_iload_n F.1 F.2.1 dL_feeds_2 rfl (lv_at hl 0 rfl) ?_
      refine lv_aload_n F.1 F.2.1 dL_feeds_3 rfl (lv_at hl 2 rfl) ?_
      refine cs_RL_7 (As := []) (rest := [.int (iI (20 * r))]) F hl (cS_len l X w6 z n g hsk (by omega)) hW hS (str.rc (n := n) (f := g) hsk hW hZ0 hS) rfl rfl ⟨Nat.le_of_ble_eq_true rfl, Nat.le_of_ble_eq_true rfl⟩ (Nat.le_of_ble_eq_true rfl) ⟨(by show kc2 + 0 ≤ 25; omega), (by show ks2 + 0 ≤ 120; omega)⟩ dL_feeds_4 (fun w1 H locs hp1 hW hS => ?_)
      rw [hp1] at hW; clear hp1; clear w1
      refine h_icge (tgt := 104) F dL_feeds_7 (by decide) (by omega) (fun c2 => ?_) (fun c2 => ?_)
      · refine lv_aload_n F.1 F.2.1 dL_feeds_104 rfl (lv_at hl 1 rfl) ?_
        refine lv_aload_n F.1 F.2.1 dL_feeds_105 rfl (lv_at hl 2 rfl) ?_
        refine cs_RL_7 (As := []) (rest := [.ref y]) F hl (cS_len l X w6 z n g hsk (by omega)) hW hS (str.rc (n := n) (f := g) hsk hW hZ0 hS) rfl rfl ⟨Nat.le_of_ble_eq_true rfl, Nat.le_of_ble_eq_true rfl⟩ (Nat.le_of_ble_eq_true rfl) ⟨(by show kc2 + 0 + 0 ≤ 25; omega), (by show ks2 + 0 + 0 ≤ 120; omega)⟩ dL_feeds_106 (fun w1 H locs hp3 hW hS => ?_)
        rw [hp3] at hW; clear hp3; clear w1
        refine cl_RL_23 (As := [.int (iI ((n : Nat) : Int))]) (rest := []) F hl (c_X8_truncate l X w6 y su (20 * r) fb ((n : Nat) : Int) hY hO2_0 hA2_0 (by omega) (by omega)) hW hS hY rfl rfl ⟨Nat.le_of_ble_eq_true rfl, Nat.le_of_ble_eq_true rfl⟩ (Nat.le_of_ble_eq_true rfl) ⟨(by show kc2 + 0 + 0 + 0 ≤ 25; omega), (by show ks2 + 0 + 0 + 0 ≤ 120; omega)⟩ dL_feeds_109 (fun w4 H locs hp5 hW hS => ?_)
        obtain ⟨ho6, hn7⟩ := hp5
        have hY := (hn7 _ (by omega)).trans hY
        have hA2_0 := (hn7 _ (by omega)).trans hA2_0
        have hs9 : str X w4 z n g := hs.k (P := (fun q => q = y + 307 ∨ q = y + 308)) (fun q e h9 hP9 => by have h9 := hF2 q e h9 (by omega) (by omega); have h9 := (hn7 q (by omega)).trans h9; exact h9) (fun q fs z9 e9 => e9.elim (fun e9 => by rw [e9, hB0] at z9; cases z9) (fun e9 => by rw [e9, hT0] at z9; cases z9)) (fun q n9 f9 z9 e9 => e9.elim (fun e9 => by rw [e9, hB0] at z9; cases z9) (fun e9 => by rw [e9, hT0] at z9; exact aZ_aY hXY (Option.some.inj z9)))
        refine lv_aload_n F.1 F.2.1 dL_feeds_112 rfl (lv_at hl 2 rfl) ?_
        refine cs_RL_7 (As := []) (rest := [.int (iI ((n : Nat) : Int))]) F hl (cS_len l X w4 z n g hs9 (by omega)) hW hS (str.rc (n := n) (f := g) hs9 hW hZ0 hS) rfl rfl ⟨Nat.le_of_ble_eq_true rfl, Nat.le_of_ble_eq_true rfl⟩ (Nat.le_of_ble_eq_true rfl) ⟨(by show kc2 + 0 + 0 + 0 + 0 ≤ 25; omega), (by show ks2 + 0 + 0 + 0 + 0 ≤ 120; omega)⟩ dL_feeds_113 (fun w1 H locs hp8 hW hS => ?_)
        rw [hp8] at hW; clear hp8; clear w1
        refine h_icne (tgt := 123) F dL_feeds_116 (by decide) (by omega) (fun c9 => ?_) (fun c9 => ?_)
        · exact absurd rfl c9
        · refine h_iconst F dL_feeds_119 ?_
          refine h_goto (tgt := 124) F dL_feeds_120 (by decide) ?_
          refine W.wd (mc := 25) (ms := 120) (by omega) (by omega) ?_
          have hX9 : ∀ (q : Nat) (e : va_E), w q = some e → q ≠ y + 307 → q ≠ y + 308 → w4 q = some e := fun q e h9 h09 h19 => by
            have h9 := hF2 q e h9 (by omega) (by omega)
            have h9 := (hn7 q (by omega)).trans h9
            exact h9
          refine h_top (show (1 : Int) = bz true from by first | rfl | omega) ?_
          exact h_iretz F hr hlk hW hS ⟨_, ho6, (by (rw [hA2_0]) <;> (rfl)), (fun j h1 h2 => by rw [hfb j h1 (by omega)]; unfold fch; rw [if_pos h2]), hX9⟩ dL_feeds_124
      · refine h_iconst F dL_feeds_10 ?_
        refine q_newP (N := 5) (k := 0) (atype := .int) (x := .inl (fun j : Nat => iI ((fun _ : Int => 0) (j : Int)))) F hW hS haCI rfl (hxI _) rfl (by omega) ⟨(by show kc2 + 0 + 1 ≤ 25; omega), (by show ks2 + 0 + 5 ≤ 120; omega)⟩ dL_feeds_11 (fun v w10 H hfr13 hcx14 ha12 hn11 hW hS => ?_)
        have ha12 : w10 v = some (aZ X 5 (fun _ => 0)) := ha12
        have hb15 := hfr13 _ _ hY
        have hb16 := hfr13 _ _ hO2_0
        have hb17 := hfr13 _ _ hA2_0
        have hY := (hn11 _ (by omega)).trans hY
        have hO2_0 := (hn11 _ (by omega)).trans hO2_0
        have hA2_0 := (hn11 _ (by omega)).trans hA2_0
        refine lv_astore_n (lv' := [(3, .ref v), (2, .int (iI (20 * r))), (0, .ref y), (1, .ref z)]) F.1 F.2.1 dL_feeds_13 rfl hl (by decide) rfl (fun ls hl => ?_)
        refine h_iconst F dL_feeds_14 ?_
        refine lv_istore (lv' := [(4, .int (iI 0)), (3, .ref v), (2, .int (iI (20 * r))), (0, .ref y), (1, .ref z)]) F.1 F.2.1 dL_feeds_15 hl (by decide) rfl (fun ls hl => ?_)
        have loop17 : ∀ (n9 : Nat) (j : Int) (vf : Int → Int), (hrg : 0 ≤ j ∧ j ≤ 20) → (hms : 20 - j < (n9 : Int)) → (w7 : Wo) → (hA17_0 : w7 v = some (aZ X 5 vf)) → (hF17 : ∀ q : Nat, q ≠ v → w7 q = w10 q) → (hvf : ∀ q, 0 ≤ q → q < 5 → vf q = fp g ((n : Nat) : Int) (20 * r + 4 * q) (j - 4 * q)) → (H : Heap) → (locs : List Loc) → (ls : Array Slot) → Wd X w7 s H → va_S (cxA X) s.heap H locs → lv_has ls 5 [(4, .int (iI j)), (3, .ref v), (2, .int (iI (20 * r))), (0, .ref y), (1, .ref z)] → W p l e (rmG 4 25 120 90) s m (List.toArray [.ref y, .ref z]) below meth c H locs (kc2 + 0 + 1) (ks2 + 0 + 5) (MX X below (List.toArray [.ref y, .ref z]) s 25 120 (some (.int (iI (bz true)))) (fun w' => ∃ (fb9 : Int → Int), w' (y + 307) = some (.inr (0, [.ref (y + 308), .int (iI ((n : Nat) : Int))])) ∧ w' (y + 308) = some (aZ X 400 fb9) ∧ (∀ j, 0 ≤ j → j < ((n : Nat) : Int) → fb9 j = g j) ∧ ∀ (q : Nat) (e : va_E), w q = some e → q ≠ y + 307 → q ≠ y + 308 → w' q = some e)) (F0 m 17 ls []) := by
          intro n9
          induction n9 with
          | zero => intro j vf  hrg hms; exfalso; omega
          | succ n9 ih17 =>
            intro j vf  hrg hms w7 hA17_0 hF17 hvf H locs ls hW hS hl
            have hY := (hF17 _ (by omega)).trans hY
            have hO2_0 := (hF17 _ (by omega)).trans hO2_0
            have hA2_0 := (hF17 _ (by omega)).trans hA2_0
            have hsj : str X w7 z n g := hs.k (P := (fun q => q = y + 307 ∨ q = y + 308)) (fun q e h9 hP9 => by have h9 := hF2 q e h9 (by omega) (by omega); have z9_1 := hfr13 q e h9; have h9 := (hn11 q (by omega)).trans h9; have h9 := (hF17 q (by omega)).trans h9; exact h9) (fun q fs z9 e9 => e9.elim (fun e9 => by rw [e9, hB0] at z9; cases z9) (fun e9 => by rw [e9, hT0] at z9; cases z9)) (fun q n9 f9 z9 e9 => e9.elim (fun e9 => by rw [e9, hB0] at z9; cases z9) (fun e9 => by rw [e9, hT0] at z9; exact aZ_aY hXY (Option.some.inj z9)))
            refine lv_iload F.1 F.2.1 dL_feeds_17 (lv_at hl 0 rfl) ?_
            refine h_bipush F dL_feeds_19 rfl ?_
            refine h_icge (tgt := 70) F dL_feeds_21 (by decide) (by omega) (fun c18 => ?_) (fun c18 => ?_)
            · have hje : j = 20 := by omega
              refine lv_aload_n F.1 F.2.1 dL_feeds_70 rfl (lv_at hl 3 rfl) ?_
              refine lv_aload_n F.1 F.2.1 dL_feeds_71 rfl (lv_at hl 1 rfl) ?_
              refine h_iconst F dL_feeds_72 ?_
              refine h_iald F hW hA17_0 (by omega) (by omega) dL_feeds_73 ?_
              refine lv_aload_n F.1 F.2.1 dL_feeds_74 rfl (lv_at hl 1 rfl) ?_
              refine h_iconst F dL_feeds_75 ?_
              refine h_iald F hW hA17_0 (by omega) (by omega) dL_feeds_76 ?_
              refine lv_aload_n F.1 F.2.1 dL_feeds_77 rfl (lv_at hl 1 rfl) ?_
              refine h_iconst F dL_feeds_78 ?_
              refine h_iald F hW hA17_0 (by omega) (by omega) dL_feeds_79 ?_
              refine lv_aload_n F.1 F.2.1 dL_feeds_80 rfl (lv_at hl 1 rfl) ?_
              refine h_iconst F dL_feeds_81 ?_
              refine h_iald F hW hA17_0 (by omega) (by omega) dL_feeds_82 ?_
              refine lv_aload_n F.1 F.2.1 dL_feeds_83 rfl (lv_at hl 1 rfl) ?_
              refine h_iconst F dL_feeds_84 ?_
              refine h_iald F hW hA17_0 (by omega) (by omega) dL_feeds_85 ?_
              refine cl_RL_17 (As := [.int (iI (vf 0)), .int (iI (vf 1)), .int (iI (vf 2)), .int (iI (vf 3)), .int (iI (vf 4))]) (rest := []) F hl (c_X8_append l X w7 y su (20 * r) fb (vf 0) (vf 1) (vf 2) (vf 3) (vf 4) hY hO2_0 hA2_0 (by omega)) hW hS hY rfl rfl ⟨Nat.le_of_ble_eq_true rfl, Nat.le_of_ble_eq_true rfl⟩ (Nat.le_of_ble_eq_true rfl) ⟨(by show kc2 + 0 + 1 + 0 ≤ 25; omega), (by show ks2 + 0 + 5 + 0 ≤ 120; omega)⟩ dL_feeds_86 (fun w19 H locs hp20 hW hS => ?_)
              obtain ⟨ho21, ha22, hn23⟩ := hp20
              have hY := (hn23 _ (by omega) (by omega)).trans hY
              have hA17_0 := (hn23 _ (by omega) (by omega)).trans hA17_0
              refine lv_iload_n F.1 F.2.1 dL_feeds_89 rfl (lv_at hl 2 rfl) ?_
              refine h_bipush F dL_feeds_90 rfl ?_
              refine h_iadd (a := 20 * r) (b := 20) F dL_feeds_92 ?_
              refine h_iceq (tgt := 98) F dL_feeds_93 (by decide) (by omega) (fun c24 => ?_) (fun c24 => ?_)
              · refine h_iinc (k := 2) (a := 20 * r) (lv' := [(2, .int (iI ((20 * r) + 20))), (4, .int (iI j)), (3, .ref v), (0, .ref y), (1, .ref z)]) F dL_feeds_98 hl rfl (by decide) rfl (fun ls hl => ?_)
                refine h_goto (tgt := 2) F dL_feeds_101 (by decide) ?_
                have eq25 : (20 * (r + 1) : Int) = (20 * r) + 20 := by first | rfl | omega | simp
                exact ih2 (r + 1) (kc2 + 0 + 1 + 0) (ks2 + 0 + 5 + 0)  (ap20 fb (20 * r) (vf 0) (vf 1) (vf 2) (vf 3) (vf 4)) (by omega) (by omega) w19 (by rw [show 20 * (r + 1) = 20 * r + 20 by omega]; exact ho21) ha22 (fun q e h9 h09 h19 => by
                    have h9 := hF2 q e h9 (by omega) (by omega)
                    have z9_1 := hfr13 q e h9
                    have h9 := (hn11 q (by omega)).trans h9
                    have h9 := (hF17 q (by omega)).trans h9
                    have h9 := (hn23 q (by omega) (by omega)).trans h9
                    exact h9) (by omega) (by omega) (fun j9 h1 h2 => by rw [ap20_ch hg (by omega) (fun q q0 q1 => (hvf q q0 q1).trans (fp_4 (by omega))) (by omega)]; exact (if h3 : j9 < 20 * r then (by rw [if_pos h3]; exact hfb j9 h1 h3) else (by rw [if_neg h3]))) _ _ ls hW hS (by rw [eq25]; exact lv_sub hl [0, 3, 4] rfl)
              · exfalso; omega
            · refine lv_aload_n F.1 F.2.1 dL_feeds_24 rfl (lv_at hl 1 rfl) ?_
              refine lv_iload F.1 F.2.1 dL_feeds_25 (lv_at hl 0 rfl) ?_
              refine h_iconst F dL_feeds_27 ?_
              refine h_idiv F dL_feeds_28 (by omega) ?_
              refine lv_aload_n F.1 F.2.1 dL_feeds_29 rfl (lv_at hl 1 rfl) ?_
              refine lv_iload F.1 F.2.1 dL_feeds_30 (lv_at hl 0 rfl) ?_
              refine h_iconst F dL_feeds_32 ?_
              refine h_idiv F dL_feeds_33 (by omega) ?_
              refine h_iald F hW hA17_0 (by omega) (by omega) dL_feeds_34 ?_
              refine h_top (show (vf (j / 4) : Int) = fp g ((n : Nat) : Int) (20 * r + 4 * (j / 4)) (j - 4 * (j / 4)) from hvf (j / 4) (by omega) (by omega)) ?_
              refine h_bipush F dL_feeds_35 rfl ?_
              refine h_ishl (z := iI (fp g ((n : Nat) : Int) (20 * r + 4 * (j / 4)) (j - 4 * (j / 4)) * 256)) F dL_feeds_37 (shl8 (fp_r hg (by omega) (by omega))) ?_
              have join62 : ∀ (H : Heap) (locs : List Loc) (ls : Array Slot), Wd X w7 s H → va_S (cxA X) s.heap H locs → lv_has ls 5 [(4, .int (iI j)), (3, .ref v), (2, .int (iI (20 * r))), (0, .ref y), (1, .ref z)] → W p l e (rmG 4 25 120 90) s m (List.toArray [.ref y, .ref z]) below meth c H locs (kc2 + 0 + 1) (ks2 + 0 + 5) (MX X below (List.toArray [.ref y, .ref z]) s 25 120 (some (.int (iI (bz true)))) (fun w' => ∃ (fb9 : Int → Int), w' (y + 307) = some (.inr (0, [.ref (y + 308), .int (iI ((n : Nat) : Int))])) ∧ w' (y + 308) = some (aZ X 400 fb9) ∧ (∀ j, 0 ≤ j → j < ((n : Nat) : Int) → fb9 j = g j) ∧ ∀ (q : Nat) (e : va_E), w q = some e → q ≠ y + 307 → q ≠ y + 308 → w' q = some e)) (F0 m 62 ls [.int (iI (fch g ((n : Nat) : Int) (20 * r + j))), .int (iI (fp g ((n : Nat) : Int) (20 * r + 4 * (j / 4)) (j - 4 * (j / 4)) * 256)), .int (iI (j / 4)), .ref v]) := by
                intro  H locs ls  hW hS hl
                refine h_ior (z := iI (fp g ((n : Nat) : Int) (20 * r + 4 * (j / 4)) (j - 4 * (j / 4)) * 256 + fch g ((n : Nat) : Int) (20 * r + j))) F dL_feeds_62 (or8 (fp_r hg (by omega) (by omega)) (by have := fch_r hg (i := 20 * r + j) (by omega); omega)) ?_
                refine h_iast F hW hS hA17_0 (by omega) (by omega) dL_feeds_63 (fun w26 H locs ho28 hn27 hW hS => ?_)
                have hY := (hn27 _ (by omega)).trans hY
                have hO2_0 := (hn27 _ (by omega)).trans hO2_0
                have hA2_0 := (hn27 _ (by omega)).trans hA2_0
                refine h_iinc (k := 0) (a := j) (lv' := [(4, .int (iI (j + 1))), (3, .ref v), (2, .int (iI (20 * r))), (0, .ref y), (1, .ref z)]) F dL_feeds_64 hl rfl (by decide) rfl (fun ls hl => ?_)
                refine h_goto (tgt := 17) F dL_feeds_67 (by decide) ?_
                have eq29 : ((j + 1) : Int) = j + 1 := by first | rfl | omega | simp
                exact ih17 (j + 1)  (up vf (j / 4) (fp g ((n : Nat) : Int) (20 * r + 4 * (j / 4)) (j - 4 * (j / 4)) * 256 + fch g ((n : Nat) : Int) (20 * r + j))) (by omega) (by omega) w26 ho28 (fun q h09 => by rw [hn27 q (by omega), hF17 q (by omega)]) (fun q h1 h2 => if hq : q = j / 4 then (by rw [hq, up_s, show j + 1 - 4 * (j / 4) = (j - 4 * (j / 4)) + 1 by omega, fp_s (by omega), show 20 * r + 4 * (j / 4) + (j - 4 * (j / 4)) = 20 * r + j by omega]) else (by rw [up_n hq, hvf q h1 h2, show j + 1 - 4 * q = (j - 4 * q) + 1 by omega, fp_o (by omega)])) _ _ ls hW hS (by rw [eq29]; exact lv_sub hl [0, 1, 2, 3, 4] rfl)
              refine lv_iload_n F.1 F.2.1 dL_feeds_38 rfl (lv_at hl 2 rfl) ?_
              refine lv_iload F.1 F.2.1 dL_feeds_39 (lv_at hl 0 rfl) ?_
              refine h_iadd (a := 20 * r) (b := j) F dL_feeds_41 ?_
              refine lv_aload_n F.1 F.2.1 dL_feeds_42 rfl (lv_at hl 4 rfl) ?_
              refine cs_RL_7 (As := []) (rest := [.int (iI ((20 * r) + j)), .int (iI (fp g ((n : Nat) : Int) (20 * r + 4 * (j / 4)) (j - 4 * (j / 4)) * 256)), .int (iI (j / 4)), .ref v]) F hl (cS_len l X w7 z n g hsj (by omega)) hW hS (str.rc (n := n) (f := g) hsj hW hZ0 hS) rfl rfl ⟨Nat.le_of_ble_eq_true rfl, Nat.le_of_ble_eq_true rfl⟩ (Nat.le_of_ble_eq_true rfl) ⟨(by show kc2 + 0 + 1 + 0 ≤ 25; omega), (by show ks2 + 0 + 5 + 0 ≤ 120; omega)⟩ dL_feeds_43 (fun w1 H locs hp30 hW hS => ?_)
              rw [hp30] at hW; clear hp30; clear w1
              refine h_icge (tgt := 60) F dL_feeds_46 (by decide) (by omega) (fun c31 => ?_) (fun c31 => ?_)
              · refine h_bipush F dL_feeds_60 rfl ?_
                refine h_top (show (32 : Int) = fch g ((n : Nat) : Int) (20 * r + j) from by unfold fch; first | rw [if_pos (by omega)] | rw [if_neg (by omega)]) ?_
                exact join62  _ _ ls  hW hS (lv_sub hl [0, 1, 2, 3, 4] rfl)
              · refine lv_aload_n F.1 F.2.1 dL_feeds_49 rfl (lv_at hl 4 rfl) ?_
                refine lv_iload_n F.1 F.2.1 dL_feeds_50 rfl (lv_at hl 2 rfl) ?_
                refine lv_iload F.1 F.2.1 dL_feeds_51 (lv_at hl 0 rfl) ?_
                refine h_iadd (a := 20 * r) (b := j) F dL_feeds_53 ?_
                refine cs_RL_13 (As := [.int (iI ((20 * r) + j))]) (rest := [.int (iI (fp g ((n : Nat) : Int) (20 * r + 4 * (j / 4)) (j - 4 * (j / 4)) * 256)), .int (iI (j / 4)), .ref v]) F hl (cS_chr l X w7 z n g ((20 * r) + j) hsj hg (by omega)) hW hS (str.rc (n := n) (f := g) hsj hW hZ0 hS) rfl rfl ⟨Nat.le_of_ble_eq_true rfl, Nat.le_of_ble_eq_true rfl⟩ (Nat.le_of_ble_eq_true rfl) ⟨(by show kc2 + 0 + 1 + 0 + 0 ≤ 25; omega), (by show ks2 + 0 + 5 + 0 + 0 ≤ 120; omega)⟩ dL_feeds_54 (fun w1 H locs hp32 hW hS => ?_)
                rw [hp32] at hW; clear hp32; clear w1
                refine h_goto (tgt := 62) F dL_feeds_57 (by decide) ?_
                refine h_top (show (g ((20 * r) + j) : Int) = fch g ((n : Nat) : Int) (20 * r + j) from by unfold fch; first | rw [if_pos (by omega)] | rw [if_neg (by omega)]) ?_
                exact join62  _ _ ls  hW hS (lv_sub hl [0, 1, 2, 3, 4] rfl)
        exact loop17 ((20 - 0) + 1 : Int).toNat 0  (fun _ => 0) (by omega) (by omega) w10 ha12 (fun q _ => rfl) (fun q h1 h2 => by unfold fp; rw [if_pos (by omega)]) _ _ ls hW hS (lv_sub hl [0, 1, 2, 3, 4] rfl)
  have eq33 : (20 * 0 : Int) = 0 := by first | rfl | omega | simp
  exact loop2 (((((n : Nat) : Int) + 19) / 20 - 0) + 1 : Int).toNat 0 (0) (0)  fb (by omega) (by omega) w (by skip; exact hB) hT (fun q e h9 h09 h19 => by
      exact h9) (by omega) (by omega) (fun j h1 h2 => by omega) _ _ ls hW hS (by rw [eq33]; exact lv_sub hl [0, 1, 2] rfl)
