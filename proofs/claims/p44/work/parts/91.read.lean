set_option maxHeartbeats 4000000 in
set_option maxRecDepth 100000 in
theorem c_X6_isBlank (l : Launch) (X : Cx) (w : Wo) (x : Int) (hx : -2147483648 ≤ x ∧ x < 2147483648) : CM l X yX6_isBlank cX6_isBlank 1 (some (.boolean)) (rmk 0 0) [.int (iI x)] w (some (.int (iI (bz (blB x))))) (fun w' => w' = w) := by
  refine CM.of (lv := [(0, .int (iI x))]) (by decide) (Nat.le_of_ble_eq_true rfl) rfl (fun p e s m below meth c ls F hr hlk hin hW hS hl => ?_)
  have hZ0 := hW.2.2
  have hB9 := hW.1.2
  clear hin
  refine lv_iload_n F.1 F.2.1 dX6_isBlank_0 rfl (lv_at hl 0 rfl) ?_
  refine h_bipush F dX6_isBlank_1 rfl ?_
  refine h_iceq (tgt := 12) F dX6_isBlank_3 (by decide) (by omega) (fun c1 => ?_) (fun c1 => ?_)
  · refine h_iconst F dX6_isBlank_12 ?_
    refine h_goto (tgt := 17) F dX6_isBlank_13 (by decide) ?_
    refine h_top (show (1 : Int) = bz (blB x) from by unfold blB; first | exact bzt (decide_eq_true (by omega)) | exact bzf (decide_eq_false (by omega))) ?_
    exact h_iretz F hr hlk hW hS rfl dX6_isBlank_17
  · refine lv_iload_n F.1 F.2.1 dX6_isBlank_6 rfl (lv_at hl 0 rfl) ?_
    refine h_bipush F dX6_isBlank_7 rfl ?_
    refine h_icne (tgt := 16) F dX6_isBlank_9 (by decide) (by omega) (fun c2 => ?_) (fun c2 => ?_)
    · refine h_iconst F dX6_isBlank_16 ?_
      refine h_top (show (0 : Int) = bz (blB x) from by unfold blB; first | exact bzt (decide_eq_true (by omega)) | exact bzf (decide_eq_false (by omega))) ?_
      exact h_iretz F hr hlk hW hS rfl dX6_isBlank_17
    · refine h_iconst F dX6_isBlank_12 ?_
      refine h_goto (tgt := 17) F dX6_isBlank_13 (by decide) ?_
      refine h_top (show (1 : Int) = bz (blB x) from by unfold blB; first | exact bzt (decide_eq_true (by omega)) | exact bzf (decide_eq_false (by omega))) ?_
      exact h_iretz F hr hlk hW hS rfl dX6_isBlank_17
set_option maxHeartbeats 4000000 in
set_option maxRecDepth 100000 in
theorem c_step0 (l : Launch) (X : Cx) (w : Wo) (a b t : Nat) (N : Int) (f : Int → Int) (r1 r2 r3 r4 r5 r6 r7 : Int) (hR : w a = some (.inr (6, [.ref b, .int (iI r1), .int (iI r2), .int (iI r3), .int (iI r4), .int (iI r5), .int (iI r6), .int (iI r7)]))) (hB : w b = some (.inr (0, [.ref t, .int (iI N)]))) (hT : w t = some (aZ X 400 f)) (hN : 0 ≤ N ∧ N ≤ 400) (hfb : ∀ i, 0 ≤ i → i < N → 0 ≤ f i ∧ f i ≤ 255) (h3 : 0 ≤ r3 ∧ r3 ≤ N) (hne : a ≠ b ∧ a ≠ t) : CM l X yX6_step cX6_step 2 none (rmk 1 24) [.ref a] w none (fun w' => w' a = some (.inr (6, [.ref b, .int (iI (kdT f N (skT f N r3))), .int (iI (skT f N r3)), .int (iI (enT f N (skT f N r3))), .int (iI (vaT 100000 f N (skT f N r3))), .int (iI r5), .int (iI r6), .int (iI r7)])) ∧ ∀ q : Nat, q ≠ a → w' q = w q) := by
  refine CM.of (lv := [(0, .ref a)]) (by decide) (Nat.le_of_ble_eq_true rfl) rfl (fun p e s m below meth c ls F hr hlk hin hW hS hl => ?_)
  have hZ0 := hW.2.2
  have hB9 := hW.1.2
  clear hin
  refine lv_aload_n F.1 F.2.1 dX6_step_0 rfl (lv_at hl 0 rfl) ?_
  refine lv_aload_n F.1 F.2.1 dX6_step_1 rfl (lv_at hl 0 rfl) ?_
  refine gf_RX6_22 F hW hR rfl dX6_step_2 ?_
  refine pf_RX6_28 F hW hS hR (Nat.le_of_ble_eq_true rfl) dX6_step_5 (fun w1 H locs ho3 hn2 hW hS => ?_)
  have ho3 : w1 a = some (.inr (6, [.ref b, .int (iI r1), .int (iI r3), .int (iI r3), .int (iI r4), .int (iI r5), .int (iI r6), .int (iI r7)])) := ho3
  have hB := (hn2 _ (by omega)).trans hB
  have hT := (hn2 _ (by omega)).trans hT
  have loop8 : ∀ (n9 : Nat) (i : Int), (hrg : r3 ≤ i ∧ i ≤ N) → (hms : N - i < (n9 : Int)) → (wz8 : Wo) → (hO8_0 : wz8 a = some (.inr (6, [.ref b, .int (iI r1), .int (iI i), .int (iI r3), .int (iI r4), .int (iI r5), .int (iI r6), .int (iI r7)]))) → (hF8 : ∀ q : Nat, q ≠ a → wz8 q = w1 q) → (hno : ∀ z, r3 ≤ z → z < i → blB (f z) = true) → (H : Heap) → (locs : List Loc) → (ls : Array Slot) → Wd X wz8 s H → va_S (cxA X) s.heap H locs → lv_has ls 2 [(0, .ref a)] → W p l e (rmk 1 24) s m (List.toArray [.ref a]) below meth c H locs 0 0 (MX X below (List.toArray [.ref a]) s 0 0 none (fun w' => w' a = some (.inr (6, [.ref b, .int (iI (kdT f N (skT f N r3))), .int (iI (skT f N r3)), .int (iI (enT f N (skT f N r3))), .int (iI (vaT 100000 f N (skT f N r3))), .int (iI r5), .int (iI r6), .int (iI r7)])) ∧ ∀ q : Nat, q ≠ a → w' q = w q)) (F0 m 8 ls []) := by
    intro n9
    induction n9 with
    | zero => intro i  hrg hms; exfalso; omega
    | succ n9 ih8 =>
      intro i  hrg hms wz8 hO8_0 hF8 hno H locs ls hW hS hl
      have hB := (hF8 _ (by omega)).trans hB
      have hT := (hF8 _ (by omega)).trans hT
      refine lv_aload_n F.1 F.2.1 dX6_step_8 rfl (lv_at hl 0 rfl) ?_
      have join52 : ∀ (H : Heap) (locs : List Loc) (ls : Array Slot), (hs : skT f N r3 = i) → Wd X wz8 s H → va_S (cxA X) s.heap H locs → lv_has ls 2 [(0, .ref a)] → W p l e (rmk 1 24) s m (List.toArray [.ref a]) below meth c H locs 0 0 (MX X below (List.toArray [.ref a]) s 0 0 none (fun w' => w' a = some (.inr (6, [.ref b, .int (iI (kdT f N (skT f N r3))), .int (iI (skT f N r3)), .int (iI (enT f N (skT f N r3))), .int (iI (vaT 100000 f N (skT f N r3))), .int (iI r5), .int (iI r6), .int (iI r7)])) ∧ ∀ q : Nat, q ≠ a → w' q = w q)) (F0 m 52 ls []) := by
        intro  H locs ls hs hW hS hl
        refine lv_aload_n F.1 F.2.1 dX6_step_52 rfl (lv_at hl 0 rfl) ?_
        refine gf_RX6_15 F hW hO8_0 rfl dX6_step_53 ?_
        refine lv_aload_n F.1 F.2.1 dX6_step_56 rfl (lv_at hl 0 rfl) ?_
        refine gf_RX6_28 F hW hO8_0 rfl dX6_step_57 ?_
        refine cl_RX6_37 (As := [.int (iI i)]) (rest := []) F hl (c_X0_byteAt l X wz8 b t N f i hB hT (by omega) (by omega)) hW hS hB rfl rfl ⟨Nat.le_of_ble_eq_true rfl, Nat.le_of_ble_eq_true rfl⟩ (Nat.le_of_ble_eq_true rfl) ⟨Nat.zero_le _, Nat.zero_le _⟩ dX6_step_60 (fun w1 H locs hp4 hW hS => ?_)
        rw [hp4] at hW; clear hp4; clear w1
        refine lv_istore_n (lv' := [(1, .int (iI (byS f N i))), (0, .ref a)]) F.1 F.2.1 dX6_step_63 rfl hl (by decide) rfl (fun ls hl => ?_)
        refine lv_aload_n F.1 F.2.1 dX6_step_64 rfl (lv_at hl 1 rfl) ?_
        refine lv_aload_n F.1 F.2.1 dX6_step_65 rfl (lv_at hl 1 rfl) ?_
        refine gf_RX6_28 F hW hO8_0 rfl dX6_step_66 ?_
        refine pf_RX6_22 F hW hS hO8_0 (Nat.le_of_ble_eq_true rfl) dX6_step_69 (fun w5 H locs ho7 hn6 hW hS => ?_)
        have ho7 : w5 a = some (.inr (6, [.ref b, .int (iI r1), .int (iI i), .int (iI i), .int (iI r4), .int (iI r5), .int (iI r6), .int (iI r7)])) := ho7
        have hB := (hn6 _ (by omega)).trans hB
        have hT := (hn6 _ (by omega)).trans hT
        refine lv_aload_n F.1 F.2.1 dX6_step_72 rfl (lv_at hl 1 rfl) ?_
        refine h_iconst F dX6_step_73 ?_
        refine pf_RX6_45 F hW hS ho7 (Nat.le_of_ble_eq_true rfl) dX6_step_74 (fun w8 H locs ho10 hn9 hW hS => ?_)
        have ho10 : w8 a = some (.inr (6, [.ref b, .int (iI r1), .int (iI i), .int (iI i), .int (iI 0), .int (iI r5), .int (iI r6), .int (iI r7)])) := ho10
        have hB := (hn9 _ (by omega)).trans hB
        have hT := (hn9 _ (by omega)).trans hT
        refine lv_iload_n F.1 F.2.1 dX6_step_77 rfl (lv_at hl 0 rfl) ?_
        refine h_iconst F dX6_step_78 ?_
        refine h_icne (tgt := 90) F dX6_step_79 (by decide) (by have := byS_r (f := f) (N := N) (i := i) hfb; omega) (fun c11 => ?_) (fun c11 => ?_)
        · obtain ⟨hi0, hiN, hbs⟩ := byS_1 (f := f) (N := N) (i := i) (by omega) c11
          have hbi : 0 ≤ f i ∧ f i ≤ 255 := hfb i (by omega) (by omega)
          refine lv_iload_n F.1 F.2.1 dX6_step_90 rfl (lv_at hl 0 rfl) ?_
          refine cl_RX6_51 (As := [.int (iI (byS f N i))]) (rest := []) F hl (c_X8_isLetter l X w8 (byS f N i) (by omega)) hW hS rfl rfl ⟨Nat.le_of_ble_eq_true rfl, Nat.le_of_ble_eq_true rfl⟩ (Nat.le_of_ble_eq_true rfl) ⟨Nat.zero_le _, Nat.zero_le _⟩ dX6_step_91 (fun w1 H locs hp12 hW hS => ?_)
          rw [hp12] at hW; clear hp12; clear w1
          refine h_top (show (bz (decide (97 ≤ (byS f N i) ∧ (byS f N i) ≤ 122)) : Int) = bz (ltB (f i)) from by rw [hbs]; rfl) ?_
          refine h_ifeqb (tgt := 146) F dX6_step_94 (by decide) (fun c13 => ?_) (fun c13 => ?_)
          · refine lv_iload_n F.1 F.2.1 dX6_step_146 rfl (lv_at hl 0 rfl) ?_
            refine cl_RX6_54 (As := [.int (iI (byS f N i))]) (rest := []) F hl (c_X8_isDigit l X w8 (byS f N i) (by omega)) hW hS rfl rfl ⟨Nat.le_of_ble_eq_true rfl, Nat.le_of_ble_eq_true rfl⟩ (Nat.le_of_ble_eq_true rfl) ⟨Nat.zero_le _, Nat.zero_le _⟩ dX6_step_147 (fun w1 H locs hp14 hW hS => ?_)
            rw [hp14] at hW; clear hp14; clear w1
            refine h_top (show (bz (decide (48 ≤ (byS f N i) ∧ (byS f N i) ≤ 57)) : Int) = bz (dgB (f i)) from by rw [hbs]; rfl) ?_
            refine h_ifeqb (tgt := 233) F dX6_step_150 (by decide) (fun c15 => ?_) (fun c15 => ?_)
            · have hkd : kdT f N i = if f i = 59 ∨ f i = 123 ∨ f i = 125 then f i else -1 := by unfold kdT; rw [if_pos (by omega), if_neg (by rw [‹ltB (f i) = false›]; decide), if_neg (by rw [‹dgB (f i) = false›]; decide)]
              have he : enT f N i = i + 1 := by unfold enT; rw [if_pos (by omega), if_neg (by rw [‹ltB (f i) = false›]; decide), if_neg (by rw [‹dgB (f i) = false›]; decide)]
              have hv : vaT 100000 f N i = 0 := by unfold vaT; exact if_neg (by intro z; rw [‹dgB (f i) = false›] at z; exact absurd z.2.2 (by decide))
              have hk : kdT f N i = kdT f N i := rfl
              refine lv_aload_n F.1 F.2.1 dX6_step_233 rfl (lv_at hl 1 rfl) ?_
              have join257 : ∀ (H : Heap) (locs : List Loc) (ls : Array Slot), Wd X w8 s H → va_S (cxA X) s.heap H locs → lv_has ls 2 [(1, .int (iI (byS f N i))), (0, .ref a)] → W p l e (rmk 1 24) s m (List.toArray [.ref a]) below meth c H locs 0 0 (MX X below (List.toArray [.ref a]) s 0 0 none (fun w' => w' a = some (.inr (6, [.ref b, .int (iI (kdT f N (skT f N r3))), .int (iI (skT f N r3)), .int (iI (enT f N (skT f N r3))), .int (iI (vaT 100000 f N (skT f N r3))), .int (iI r5), .int (iI r6), .int (iI r7)])) ∧ ∀ q : Nat, q ≠ a → w' q = w q)) (F0 m 257 ls [.int (iI (kdT f N i)), .ref a]) := by
                intro  H locs ls  hW hS hl
                refine pf_RX6_48 F hW hS ho10 (Nat.le_of_ble_eq_true rfl) dX6_step_257 (fun w16 H locs ho18 hn17 hW hS => ?_)
                have ho18 : w16 a = some (.inr (6, [.ref b, .int (iI (kdT f N i)), .int (iI i), .int (iI i), .int (iI 0), .int (iI r5), .int (iI r6), .int (iI r7)])) := ho18
                have hB := (hn17 _ (by omega)).trans hB
                have hT := (hn17 _ (by omega)).trans hT
                refine lv_aload_n F.1 F.2.1 dX6_step_260 rfl (lv_at hl 1 rfl) ?_
                refine lv_dup F.1 F.2.1 dX6_step_261 rfl ?_
                refine gf_RX6_22 F hW ho18 rfl dX6_step_262 ?_
                refine h_iconst F dX6_step_265 ?_
                refine h_iadd (a := i) (b := 1) F dX6_step_266 ?_
                refine pf_RX6_22 F hW hS ho18 (Nat.le_of_ble_eq_true rfl) dX6_step_267 (fun w19 H locs ho21 hn20 hW hS => ?_)
                have ho21 : w19 a = some (.inr (6, [.ref b, .int (iI (kdT f N i)), .int (iI i), .int (iI (i + 1)), .int (iI 0), .int (iI r5), .int (iI r6), .int (iI r7)])) := ho21
                have hB := (hn20 _ (by omega)).trans hB
                have hT := (hn20 _ (by omega)).trans hT
                exact h_vret F hr hlk hW hS ⟨(by (rw [ho21]) <;> (first | rw [hs, hk, he, hv] | rw [hs, he, hv])), (fun q h09 => by rw [hn20 q (by omega), hn17 q (by omega), hn9 q (by omega), hn6 q (by omega), hF8 q (by omega), hn2 q (by omega)])⟩ dX6_step_270
              refine lv_iload_n F.1 F.2.1 dX6_step_234 rfl (lv_at hl 0 rfl) ?_
              refine h_bipush F dX6_step_235 rfl ?_
              refine h_iceq (tgt := 252) F dX6_step_237 (by decide) (by omega) (fun c22 => ?_) (fun c22 => ?_)
              · refine lv_iload_n F.1 F.2.1 dX6_step_252 rfl (lv_at hl 0 rfl) ?_
                refine h_goto (tgt := 257) F dX6_step_253 (by decide) ?_
                refine h_top (show (byS f N i : Int) = kdT f N i from by first | (rw [hkd, if_pos (by omega)]; omega) | rw [hkd, if_neg (by omega)]) ?_
                exact join257  _ _ ls  hW hS (lv_sub hl [0, 1] rfl)
              · refine lv_iload_n F.1 F.2.1 dX6_step_240 rfl (lv_at hl 0 rfl) ?_
                refine h_bipush F dX6_step_241 rfl ?_
                refine h_iceq (tgt := 252) F dX6_step_243 (by decide) (by omega) (fun c23 => ?_) (fun c23 => ?_)
                · refine lv_iload_n F.1 F.2.1 dX6_step_252 rfl (lv_at hl 0 rfl) ?_
                  refine h_goto (tgt := 257) F dX6_step_253 (by decide) ?_
                  refine h_top (show (byS f N i : Int) = kdT f N i from by first | (rw [hkd, if_pos (by omega)]; omega) | rw [hkd, if_neg (by omega)]) ?_
                  exact join257  _ _ ls  hW hS (lv_sub hl [0, 1] rfl)
                · refine lv_iload_n F.1 F.2.1 dX6_step_246 rfl (lv_at hl 0 rfl) ?_
                  refine h_bipush F dX6_step_247 rfl ?_
                  refine h_icne (tgt := 256) F dX6_step_249 (by decide) (by omega) (fun c24 => ?_) (fun c24 => ?_)
                  · refine h_iconst F dX6_step_256 ?_
                    refine h_top (show ((-1) : Int) = kdT f N i from by first | (rw [hkd, if_pos (by omega)]; omega) | rw [hkd, if_neg (by omega)]) ?_
                    exact join257  _ _ ls  hW hS (lv_sub hl [0, 1] rfl)
                  · refine lv_iload_n F.1 F.2.1 dX6_step_252 rfl (lv_at hl 0 rfl) ?_
                    refine h_goto (tgt := 257) F dX6_step_253 (by decide) ?_
                    refine h_top (show (byS f N i : Int) = kdT f N i from by first | (rw [hkd, if_pos (by omega)]; omega) | rw [hkd, if_neg (by omega)]) ?_
                    exact join257  _ _ ls  hW hS (lv_sub hl [0, 1] rfl)
            · refine lv_aload_n F.1 F.2.1 dX6_step_153 rfl (lv_at hl 1 rfl) ?_
              refine h_iconst F dX6_step_154 ?_
              refine pf_RX6_48 F hW hS ho10 (Nat.le_of_ble_eq_true rfl) dX6_step_155 (fun w25 H locs ho27 hn26 hW hS => ?_)
              have ho27 : w25 a = some (.inr (6, [.ref b, .int (iI 2), .int (iI i), .int (iI i), .int (iI 0), .int (iI r5), .int (iI r6), .int (iI r7)])) := ho27
              have hB := (hn26 _ (by omega)).trans hB
              have hT := (hn26 _ (by omega)).trans hT
              have loop158 : ∀ (n9 : Nat) (j : Int), (hrg : i ≤ j ∧ j ≤ N) → (hms : N - j < (n9 : Int)) → (wz7 : Wo) → (hO158_0 : wz7 a = some (.inr (6, [.ref b, .int (iI 2), .int (iI i), .int (iI j), .int (iI (nvN 100000 f i (j - i).toNat)), .int (iI r5), .int (iI r6), .int (iI r7)]))) → (hF158 : ∀ q : Nat, q ≠ a → wz7 q = w25 q) → (hnd : ∀ z, i ≤ z → z < j → dgB (f z) = true) → (H : Heap) → (locs : List Loc) → (ls : Array Slot) → Wd X wz7 s H → va_S (cxA X) s.heap H locs → lv_has ls 2 [(1, .int (iI (byS f N i))), (0, .ref a)] → W p l e (rmk 1 24) s m (List.toArray [.ref a]) below meth c H locs 0 0 (MX X below (List.toArray [.ref a]) s 0 0 none (fun w' => w' a = some (.inr (6, [.ref b, .int (iI (kdT f N (skT f N r3))), .int (iI (skT f N r3)), .int (iI (enT f N (skT f N r3))), .int (iI (vaT 100000 f N (skT f N r3))), .int (iI r5), .int (iI r6), .int (iI r7)])) ∧ ∀ q : Nat, q ≠ a → w' q = w q)) (F0 m 158 ls []) := by
                intro n9
                induction n9 with
                | zero => intro j  hrg hms; exfalso; omega
                | succ n9 ih158 =>
                  intro j  hrg hms wz7 hO158_0 hF158 hnd H locs ls hW hS hl
                  have hB := (hF158 _ (by omega)).trans hB
                  have hT := (hF158 _ (by omega)).trans hT
                  have hnv := nvN_r (cap := 100000) (f := f) (s := i) (by decide) (j - i).toNat (fun z hz => by have := of_decide_eq_true (hnd (i + z) (by omega) (by omega)); omega)
                  refine lv_aload_n F.1 F.2.1 dX6_step_158 rfl (lv_at hl 1 rfl) ?_
                  refine gf_RX6_22 F hW hO158_0 rfl dX6_step_159 ?_
                  refine lv_aload_n F.1 F.2.1 dX6_step_162 rfl (lv_at hl 1 rfl) ?_
                  refine gf_RX6_15 F hW hO158_0 rfl dX6_step_163 ?_
                  refine cl_RX6_31 (As := []) (rest := [.int (iI j)]) F hl (c_X0_size l X wz7 b t N f hB hT) hW hS hB rfl rfl ⟨Nat.le_of_ble_eq_true rfl, Nat.le_of_ble_eq_true rfl⟩ (Nat.le_of_ble_eq_true rfl) ⟨Nat.zero_le _, Nat.zero_le _⟩ dX6_step_166 (fun w1 H locs hp28 hW hS => ?_)
                  rw [hp28] at hW; clear hp28; clear w1
                  refine h_icge (tgt := 270) F dX6_step_169 (by decide) (by omega) (fun c29 => ?_) (fun c29 => ?_)
                  · have hde : dgE f N i = j := by unfold dgE; rw [fi_none (by omega) (fun z z0 z1 => by rw [hnd z z0 (by omega)]; rfl)]; omega
                    have hk : kdT f N i = 2 := by unfold kdT; rw [if_pos (by omega), if_neg (by rw [‹ltB (f i) = false›]; decide), if_pos ‹dgB (f i) = true›]
                    have he : enT f N i = j := by unfold enT; rw [if_pos (by omega), if_neg (by rw [‹ltB (f i) = false›]; decide), if_pos ‹dgB (f i) = true›]; exact hde
                    have hv : vaT 100000 f N i = nvN 100000 f i (j - i).toNat := by unfold vaT; rw [if_pos ⟨by omega, ‹ltB (f i) = false›, ‹dgB (f i) = true›⟩, hde]
                    exact h_vret F hr hlk hW hS ⟨(by (rw [hO158_0]) <;> (first | rw [hs, hk, he, hv] | rw [hs, he, hv])), (fun q h09 => by rw [hF158 q (by omega), hn26 q (by omega), hn9 q (by omega), hn6 q (by omega), hF8 q (by omega), hn2 q (by omega)])⟩ dX6_step_270
                  · refine lv_aload_n F.1 F.2.1 dX6_step_172 rfl (lv_at hl 1 rfl) ?_
                    refine gf_RX6_15 F hW hO158_0 rfl dX6_step_173 ?_
                    refine lv_aload_n F.1 F.2.1 dX6_step_176 rfl (lv_at hl 1 rfl) ?_
                    refine gf_RX6_22 F hW hO158_0 rfl dX6_step_177 ?_
                    refine cl_RX6_37 (As := [.int (iI j)]) (rest := []) F hl (c_X0_byteAt l X wz7 b t N f j hB hT (by omega) (by omega)) hW hS hB rfl rfl ⟨Nat.le_of_ble_eq_true rfl, Nat.le_of_ble_eq_true rfl⟩ (Nat.le_of_ble_eq_true rfl) ⟨Nat.zero_le _, Nat.zero_le _⟩ dX6_step_180 (fun w1 H locs hp30 hW hS => ?_)
                    rw [hp30] at hW; clear hp30; clear w1
                    refine h_top (show (byS f N j : Int) = f j from byS_i (by omega) (by omega)) ?_
                    have hbj : 0 ≤ f j ∧ f j ≤ 255 := hfb j (by omega) (by omega)
                    refine cl_RX6_54 (As := [.int (iI (f j))]) (rest := []) F hl (c_X8_isDigit l X wz7 (f j) (by omega)) hW hS rfl rfl ⟨Nat.le_of_ble_eq_true rfl, Nat.le_of_ble_eq_true rfl⟩ (Nat.le_of_ble_eq_true rfl) ⟨Nat.zero_le _, Nat.zero_le _⟩ dX6_step_183 (fun w1 H locs hp31 hW hS => ?_)
                    rw [hp31] at hW; clear hp31; clear w1
                    refine h_top (show (bz (decide (48 ≤ (f j) ∧ (f j) ≤ 57)) : Int) = bz (dgB (f j)) from rfl) ?_
                    refine h_ifeqb (tgt := 270) F dX6_step_186 (by decide) (fun c32 => ?_) (fun c32 => ?_)
                    · have hde : dgE f N i = j := by unfold dgE; exact fi_hit (by omega) (by omega) (fun z z0 z1 => by rw [hnd z z0 z1]; rfl) (by rw [c32]; rfl)
                      have hk : kdT f N i = 2 := by unfold kdT; rw [if_pos (by omega), if_neg (by rw [‹ltB (f i) = false›]; decide), if_pos ‹dgB (f i) = true›]
                      have he : enT f N i = j := by unfold enT; rw [if_pos (by omega), if_neg (by rw [‹ltB (f i) = false›]; decide), if_pos ‹dgB (f i) = true›]; exact hde
                      have hv : vaT 100000 f N i = nvN 100000 f i (j - i).toNat := by unfold vaT; rw [if_pos ⟨by omega, ‹ltB (f i) = false›, ‹dgB (f i) = true›⟩, hde]
                      exact h_vret F hr hlk hW hS ⟨(by (rw [hO158_0]) <;> (first | rw [hs, hk, he, hv] | rw [hs, he, hv])), (fun q h09 => by rw [hF158 q (by omega), hn26 q (by omega), hn9 q (by omega), hn6 q (by omega), hF8 q (by omega), hn2 q (by omega)])⟩ dX6_step_270
                    · refine lv_aload_n F.1 F.2.1 dX6_step_189 rfl (lv_at hl 1 rfl) ?_
                      refine h_ldc (n := 100000) F kk_RX6_57 dX6_step_190 ?_
                      refine h_bipush F dX6_step_192 rfl ?_
                      refine lv_aload_n F.1 F.2.1 dX6_step_194 rfl (lv_at hl 1 rfl) ?_
                      refine gf_RX6_45 F hW hO158_0 rfl dX6_step_195 ?_
                      refine h_imul (a := 10) (b := nvN 100000 f i (j - i).toNat) F dX6_step_198 ?_
                      refine lv_aload_n F.1 F.2.1 dX6_step_199 rfl (lv_at hl 1 rfl) ?_
                      refine gf_RX6_15 F hW hO158_0 rfl dX6_step_200 ?_
                      refine lv_aload_n F.1 F.2.1 dX6_step_203 rfl (lv_at hl 1 rfl) ?_
                      refine gf_RX6_22 F hW hO158_0 rfl dX6_step_204 ?_
                      refine cl_RX6_37 (As := [.int (iI j)]) (rest := [.int (iI (10 * (nvN 100000 f i (j - i).toNat))), .int (iI 100000), .ref a]) F hl (c_X0_byteAt l X wz7 b t N f j hB hT (by omega) (by omega)) hW hS hB rfl rfl ⟨Nat.le_of_ble_eq_true rfl, Nat.le_of_ble_eq_true rfl⟩ (Nat.le_of_ble_eq_true rfl) ⟨Nat.zero_le _, Nat.zero_le _⟩ dX6_step_207 (fun w1 H locs hp33 hW hS => ?_)
                      rw [hp33] at hW; clear hp33; clear w1
                      refine h_top (show (byS f N j : Int) = f j from byS_i (by omega) (by omega)) ?_
                      refine h_iadd (a := 10 * (nvN 100000 f i (j - i).toNat)) (b := f j) F dX6_step_210 ?_
                      refine h_bipush F dX6_step_211 rfl ?_
                      refine h_isub (a := (10 * (nvN 100000 f i (j - i).toNat)) + (f j)) (b := 48) F dX6_step_213 ?_
                      refine h_mmin (index := 58) (a := 100000) (b := ((10 * (nvN 100000 f i (j - i).toNat)) + (f j)) - 48) F hl km_RX6_58 (Nat.le_of_ble_eq_true rfl) (Nat.le_of_ble_eq_true rfl) (Nat.zero_le _) (Nat.zero_le _) (by omega) dX6_step_214 ?_
                      refine h_top (show (min 100000 (((10 * (nvN 100000 f i (j - i).toNat)) + (f j)) - 48) : Int) = nvN 100000 f i (j + 1 - i).toNat from (nvN_s 100000 f i (by omega)).symm) ?_
                      refine pf_RX6_45 F hW hS hO158_0 (Nat.le_of_ble_eq_true rfl) dX6_step_217 (fun w34 H locs ho36 hn35 hW hS => ?_)
                      have ho36 : w34 a = some (.inr (6, [.ref b, .int (iI 2), .int (iI i), .int (iI j), .int (iI (nvN 100000 f i (j + 1 - i).toNat)), .int (iI r5), .int (iI r6), .int (iI r7)])) := ho36
                      have hB := (hn35 _ (by omega)).trans hB
                      have hT := (hn35 _ (by omega)).trans hT
                      refine lv_aload_n F.1 F.2.1 dX6_step_220 rfl (lv_at hl 1 rfl) ?_
                      refine lv_dup F.1 F.2.1 dX6_step_221 rfl ?_
                      refine gf_RX6_22 F hW ho36 rfl dX6_step_222 ?_
                      refine h_iconst F dX6_step_225 ?_
                      refine h_iadd (a := j) (b := 1) F dX6_step_226 ?_
                      refine pf_RX6_22 F hW hS ho36 (Nat.le_of_ble_eq_true rfl) dX6_step_227 (fun w37 H locs ho39 hn38 hW hS => ?_)
                      have ho39 : w37 a = some (.inr (6, [.ref b, .int (iI 2), .int (iI i), .int (iI (j + 1)), .int (iI (nvN 100000 f i (j + 1 - i).toNat)), .int (iI r5), .int (iI r6), .int (iI r7)])) := ho39
                      have hB := (hn38 _ (by omega)).trans hB
                      have hT := (hn38 _ (by omega)).trans hT
                      refine h_goto (tgt := 158) F dX6_step_230 (by decide) ?_
                      exact ih158 (j + 1)  (by omega) (by omega) w37 (by skip; exact ho39) (fun q h09 => by rw [hn38 q (by omega), hn35 q (by omega), hF158 q (by omega)]) (fun z h1 h2 => (by by_cases hj : z = j; (rw [hj]; assumption); exact hnd z h1 (by omega))) _ _ ls hW hS (lv_sub hl [0, 1] rfl)
              exact loop158 ((N - i) + 1 : Int).toNat i  (by omega) (by omega) w25 (by rw [show nvN 100000 f i (i - i).toNat = 0 by rw [show (i - i).toNat = 0 by omega]; rfl]; exact ho27) (fun q _ => rfl) (fun z h1 h2 => by omega) _ _ ls hW hS (lv_sub hl [0, 1] rfl)
          · refine lv_aload_n F.1 F.2.1 dX6_step_97 rfl (lv_at hl 1 rfl) ?_
            refine h_iconst F dX6_step_98 ?_
            refine pf_RX6_48 F hW hS ho10 (Nat.le_of_ble_eq_true rfl) dX6_step_99 (fun w40 H locs ho42 hn41 hW hS => ?_)
            have ho42 : w40 a = some (.inr (6, [.ref b, .int (iI 1), .int (iI i), .int (iI i), .int (iI 0), .int (iI r5), .int (iI r6), .int (iI r7)])) := ho42
            have hB := (hn41 _ (by omega)).trans hB
            have hT := (hn41 _ (by omega)).trans hT
            have loop102 : ∀ (n9 : Nat) (j : Int), (hrg : i ≤ j ∧ j ≤ N) → (hms : N - j < (n9 : Int)) → (wz9 : Wo) → (hO102_0 : wz9 a = some (.inr (6, [.ref b, .int (iI 1), .int (iI i), .int (iI j), .int (iI 0), .int (iI r5), .int (iI r6), .int (iI r7)]))) → (hF102 : ∀ q : Nat, q ≠ a → wz9 q = w40 q) → (hnl : ∀ z, i ≤ z → z < j → ltB (f z) = true) → (H : Heap) → (locs : List Loc) → (ls : Array Slot) → Wd X wz9 s H → va_S (cxA X) s.heap H locs → lv_has ls 2 [(1, .int (iI (byS f N i))), (0, .ref a)] → W p l e (rmk 1 24) s m (List.toArray [.ref a]) below meth c H locs 0 0 (MX X below (List.toArray [.ref a]) s 0 0 none (fun w' => w' a = some (.inr (6, [.ref b, .int (iI (kdT f N (skT f N r3))), .int (iI (skT f N r3)), .int (iI (enT f N (skT f N r3))), .int (iI (vaT 100000 f N (skT f N r3))), .int (iI r5), .int (iI r6), .int (iI r7)])) ∧ ∀ q : Nat, q ≠ a → w' q = w q)) (F0 m 102 ls []) := by
              intro n9
              induction n9 with
              | zero => intro j  hrg hms; exfalso; omega
              | succ n9 ih102 =>
                intro j  hrg hms wz9 hO102_0 hF102 hnl H locs ls hW hS hl
                have hB := (hF102 _ (by omega)).trans hB
                have hT := (hF102 _ (by omega)).trans hT
                refine lv_aload_n F.1 F.2.1 dX6_step_102 rfl (lv_at hl 1 rfl) ?_
                refine gf_RX6_22 F hW hO102_0 rfl dX6_step_103 ?_
                refine lv_aload_n F.1 F.2.1 dX6_step_106 rfl (lv_at hl 1 rfl) ?_
                refine gf_RX6_15 F hW hO102_0 rfl dX6_step_107 ?_
                refine cl_RX6_31 (As := []) (rest := [.int (iI j)]) F hl (c_X0_size l X wz9 b t N f hB hT) hW hS hB rfl rfl ⟨Nat.le_of_ble_eq_true rfl, Nat.le_of_ble_eq_true rfl⟩ (Nat.le_of_ble_eq_true rfl) ⟨Nat.zero_le _, Nat.zero_le _⟩ dX6_step_110 (fun w1 H locs hp43 hW hS => ?_)
                rw [hp43] at hW; clear hp43; clear w1
                refine h_icge (tgt := 270) F dX6_step_113 (by decide) (by omega) (fun c44 => ?_) (fun c44 => ?_)
                · have hk : kdT f N i = 1 := by unfold kdT; rw [if_pos (by omega), if_pos ‹ltB (f i) = true›]
                  have he : enT f N i = j := by unfold enT; rw [if_pos (by omega), if_pos ‹ltB (f i) = true›]; exact (by unfold wdE; rw [fi_none (by omega) (fun z z0 z1 => by rw [hnl z z0 (by omega)]; rfl)]; omega)
                  have hv : vaT 100000 f N i = 0 := by unfold vaT; rw [if_neg (by intro z; rw [‹ltB (f i) = true›] at z; exact absurd z.2.1 (by decide))]
                  exact h_vret F hr hlk hW hS ⟨(by (rw [hO102_0]) <;> (first | rw [hs, hk, he, hv] | rw [hs, he, hv])), (fun q h09 => by rw [hF102 q (by omega), hn41 q (by omega), hn9 q (by omega), hn6 q (by omega), hF8 q (by omega), hn2 q (by omega)])⟩ dX6_step_270
                · refine lv_aload_n F.1 F.2.1 dX6_step_116 rfl (lv_at hl 1 rfl) ?_
                  refine gf_RX6_15 F hW hO102_0 rfl dX6_step_117 ?_
                  refine lv_aload_n F.1 F.2.1 dX6_step_120 rfl (lv_at hl 1 rfl) ?_
                  refine gf_RX6_22 F hW hO102_0 rfl dX6_step_121 ?_
                  refine cl_RX6_37 (As := [.int (iI j)]) (rest := []) F hl (c_X0_byteAt l X wz9 b t N f j hB hT (by omega) (by omega)) hW hS hB rfl rfl ⟨Nat.le_of_ble_eq_true rfl, Nat.le_of_ble_eq_true rfl⟩ (Nat.le_of_ble_eq_true rfl) ⟨Nat.zero_le _, Nat.zero_le _⟩ dX6_step_124 (fun w1 H locs hp45 hW hS => ?_)
                  rw [hp45] at hW; clear hp45; clear w1
                  refine h_top (show (byS f N j : Int) = f j from byS_i (by omega) (by omega)) ?_
                  have hbj : 0 ≤ f j ∧ f j ≤ 255 := hfb j (by omega) (by omega)
                  refine cl_RX6_51 (As := [.int (iI (f j))]) (rest := []) F hl (c_X8_isLetter l X wz9 (f j) (by omega)) hW hS rfl rfl ⟨Nat.le_of_ble_eq_true rfl, Nat.le_of_ble_eq_true rfl⟩ (Nat.le_of_ble_eq_true rfl) ⟨Nat.zero_le _, Nat.zero_le _⟩ dX6_step_127 (fun w1 H locs hp46 hW hS => ?_)
                  rw [hp46] at hW; clear hp46; clear w1
                  refine h_top (show (bz (decide (97 ≤ (f j) ∧ (f j) ≤ 122)) : Int) = bz (ltB (f j)) from rfl) ?_
                  refine h_ifeqb (tgt := 270) F dX6_step_130 (by decide) (fun c47 => ?_) (fun c47 => ?_)
                  · have hk : kdT f N i = 1 := by unfold kdT; rw [if_pos (by omega), if_pos ‹ltB (f i) = true›]
                    have he : enT f N i = j := by unfold enT; rw [if_pos (by omega), if_pos ‹ltB (f i) = true›]; exact (by unfold wdE; exact fi_hit (by omega) (by omega) (fun z z0 z1 => by rw [hnl z z0 z1]; rfl) (by rw [‹ltB (f j) = false›]; rfl))
                    have hv : vaT 100000 f N i = 0 := by unfold vaT; rw [if_neg (by intro z; rw [‹ltB (f i) = true›] at z; exact absurd z.2.1 (by decide))]
                    exact h_vret F hr hlk hW hS ⟨(by (rw [hO102_0]) <;> (first | rw [hs, hk, he, hv] | rw [hs, he, hv])), (fun q h09 => by rw [hF102 q (by omega), hn41 q (by omega), hn9 q (by omega), hn6 q (by omega), hF8 q (by omega), hn2 q (by omega)])⟩ dX6_step_270
                  · refine lv_aload_n F.1 F.2.1 dX6_step_133 rfl (lv_at hl 1 rfl) ?_
                    refine lv_dup F.1 F.2.1 dX6_step_134 rfl ?_
                    refine gf_RX6_22 F hW hO102_0 rfl dX6_step_135 ?_
                    refine h_iconst F dX6_step_138 ?_
                    refine h_iadd (a := j) (b := 1) F dX6_step_139 ?_
                    refine pf_RX6_22 F hW hS hO102_0 (Nat.le_of_ble_eq_true rfl) dX6_step_140 (fun w48 H locs ho50 hn49 hW hS => ?_)
                    have ho50 : w48 a = some (.inr (6, [.ref b, .int (iI 1), .int (iI i), .int (iI (j + 1)), .int (iI 0), .int (iI r5), .int (iI r6), .int (iI r7)])) := ho50
                    have hB := (hn49 _ (by omega)).trans hB
                    have hT := (hn49 _ (by omega)).trans hT
                    refine h_goto (tgt := 102) F dX6_step_143 (by decide) ?_
                    exact ih102 (j + 1)  (by omega) (by omega) w48 ho50 (fun q h09 => by rw [hn49 q (by omega), hF102 q (by omega)]) (fun z h1 h2 => (by by_cases hj : z = j; (rw [hj]; assumption); exact hnl z h1 (by omega))) _ _ ls hW hS (lv_sub hl [0, 1] rfl)
            exact loop102 ((N - i) + 1 : Int).toNat i  (by omega) (by omega) w40 ho42 (fun q _ => rfl) (fun z h1 h2 => by omega) _ _ ls hW hS (lv_sub hl [0, 1] rfl)
        · have hiN := byS_0 (f := f) (N := N) (i := i) (by omega) (by omega) hfb c11
          have hk : kdT f N i = 0 := by unfold kdT; exact if_neg (by omega)
          have he : enT f N i = i := by unfold enT; exact if_neg (by omega)
          have hv : vaT 100000 f N i = 0 := by unfold vaT; exact if_neg (by omega)
          refine lv_aload_n F.1 F.2.1 dX6_step_82 rfl (lv_at hl 1 rfl) ?_
          refine h_iconst F dX6_step_83 ?_
          refine pf_RX6_48 F hW hS ho10 (Nat.le_of_ble_eq_true rfl) dX6_step_84 (fun w51 H locs ho53 hn52 hW hS => ?_)
          have ho53 : w51 a = some (.inr (6, [.ref b, .int (iI 0), .int (iI i), .int (iI i), .int (iI 0), .int (iI r5), .int (iI r6), .int (iI r7)])) := ho53
          have hB := (hn52 _ (by omega)).trans hB
          have hT := (hn52 _ (by omega)).trans hT
          refine h_goto (tgt := 270) F dX6_step_87 (by decide) ?_
          exact h_vret F hr hlk hW hS ⟨(by (rw [ho53]) <;> (first | rw [hs, hk, he, hv] | rw [hs, he, hv])), (fun q h09 => by rw [hn52 q (by omega), hn9 q (by omega), hn6 q (by omega), hF8 q (by omega), hn2 q (by omega)])⟩ dX6_step_270
      refine gf_RX6_28 F hW hO8_0 rfl dX6_step_9 ?_
      refine lv_aload_n F.1 F.2.1 dX6_step_12 rfl (lv_at hl 0 rfl) ?_
      refine gf_RX6_15 F hW hO8_0 rfl dX6_step_13 ?_
      refine cl_RX6_31 (As := []) (rest := [.int (iI i)]) F hl (c_X0_size l X wz8 b t N f hB hT) hW hS hB rfl rfl ⟨Nat.le_of_ble_eq_true rfl, Nat.le_of_ble_eq_true rfl⟩ (Nat.le_of_ble_eq_true rfl) ⟨Nat.zero_le _, Nat.zero_le _⟩ dX6_step_16 (fun w1 H locs hp54 hW hS => ?_)
      rw [hp54] at hW; clear hp54; clear w1
      refine h_icge (tgt := 52) F dX6_step_19 (by decide) (by omega) (fun c55 => ?_) (fun c55 => ?_)
      · have hs9 : skT f N r3 = i := by unfold skT; rw [fi_none (by omega) (fun z z0 z1 => by rw [hno z z0 (by omega)]; rfl)]; omega
        exact join52  _ _ ls hs9 hW hS (lv_sub hl [0] rfl)
      · refine lv_aload_n F.1 F.2.1 dX6_step_22 rfl (lv_at hl 0 rfl) ?_
        refine gf_RX6_15 F hW hO8_0 rfl dX6_step_23 ?_
        refine lv_aload_n F.1 F.2.1 dX6_step_26 rfl (lv_at hl 0 rfl) ?_
        refine gf_RX6_28 F hW hO8_0 rfl dX6_step_27 ?_
        have hbi : 0 ≤ f i ∧ f i ≤ 255 := hfb i (by omega) (by omega)
        refine cl_RX6_37 (As := [.int (iI i)]) (rest := []) F hl (c_X0_byteAt l X wz8 b t N f i hB hT (by omega) (by omega)) hW hS hB rfl rfl ⟨Nat.le_of_ble_eq_true rfl, Nat.le_of_ble_eq_true rfl⟩ (Nat.le_of_ble_eq_true rfl) ⟨Nat.zero_le _, Nat.zero_le _⟩ dX6_step_30 (fun w1 H locs hp56 hW hS => ?_)
        rw [hp56] at hW; clear hp56; clear w1
        refine h_top (show (byS f N i : Int) = f i from byS_i (by omega) (by omega)) ?_
        refine cl_RX6_41 (As := [.int (iI (f i))]) (rest := []) F hl (c_X6_isBlank l X wz8 (f i) (by omega)) hW hS rfl rfl ⟨Nat.le_of_ble_eq_true rfl, Nat.le_of_ble_eq_true rfl⟩ (Nat.le_of_ble_eq_true rfl) ⟨Nat.zero_le _, Nat.zero_le _⟩ dX6_step_33 (fun w1 H locs hp57 hW hS => ?_)
        rw [hp57] at hW; clear hp57; clear w1
        refine h_ifeqb (tgt := 52) F dX6_step_36 (by decide) (fun c58 => ?_) (fun c58 => ?_)
        · have hs9 : skT f N r3 = i := by unfold skT; exact fi_hit (by omega) (by omega) (fun z z0 z1 => by rw [hno z z0 z1]; rfl) (by rw [c58]; rfl)
          exact join52  _ _ ls hs9 hW hS (lv_sub hl [0] rfl)
        · refine lv_aload_n F.1 F.2.1 dX6_step_39 rfl (lv_at hl 0 rfl) ?_
          refine lv_dup F.1 F.2.1 dX6_step_40 rfl ?_
          refine gf_RX6_28 F hW hO8_0 rfl dX6_step_41 ?_
          refine h_iconst F dX6_step_44 ?_
          refine h_iadd (a := i) (b := 1) F dX6_step_45 ?_
          refine pf_RX6_28 F hW hS hO8_0 (Nat.le_of_ble_eq_true rfl) dX6_step_46 (fun w59 H locs ho61 hn60 hW hS => ?_)
          have ho61 : w59 a = some (.inr (6, [.ref b, .int (iI r1), .int (iI (i + 1)), .int (iI r3), .int (iI r4), .int (iI r5), .int (iI r6), .int (iI r7)])) := ho61
          have hB := (hn60 _ (by omega)).trans hB
          have hT := (hn60 _ (by omega)).trans hT
          refine h_goto (tgt := 8) F dX6_step_49 (by decide) ?_
          exact ih8 (i + 1)  (by omega) (by omega) w59 ho61 (fun q h09 => by rw [hn60 q (by omega), hF8 q (by omega)]) (fun z h1 h2 => (by by_cases hj : z = i; (rw [hj]; assumption); exact hno z h1 (by omega))) _ _ ls hW hS (lv_sub hl [0] rfl)
  exact loop8 ((N - r3) + 1 : Int).toNat r3  (by omega) (by omega) w1 ho3 (fun q _ => rfl) (fun z h1 h2 => by omega) _ _ ls hW hS (lv_sub hl [0] rfl)
theorem c_X6_step (l : Launch) (X : Cx) (w : Wo) (a b t : Nat) (N : Int) (f rv : Int → Int) (hR : w a = some (.inr (6, rL b rv))) (hB : w b = some (.inr (0, [.ref t, .int (iI N)]))) (hT : w t = some (aZ X 400 f)) (hN : 0 ≤ N ∧ N ≤ 400) (hfb : ∀ i, 0 ≤ i → i < N → 0 ≤ f i ∧ f i ≤ 255) (h3 : 0 ≤ rv 3 ∧ rv 3 ≤ N) (hne : a ≠ b ∧ a ≠ t) : CM l X yX6_step cX6_step 2 none (rmk 1 24) [.ref a] w none (fun w' => w' a = some (.inr (6, rL b (stV f N rv))) ∧ ∀ q : Nat, q ≠ a → w' q = w q) := c_step0 l X w a b t N f (rv 1) (rv 2) (rv 3) (rv 4) (rv 5) (rv 6) (rv 7) hR hB hT hN hfb h3 hne
set_option maxHeartbeats 4000000 in
set_option maxRecDepth 100000 in
theorem c_X6_begin (l : Launch) (X : Cx) (w : Wo) (a b t : Nat) (N : Int) (f rv : Int → Int) (hR : w a = some (.inr (6, rL b rv))) (hB : w b = some (.inr (0, [.ref t, .int (iI N)]))) (hT : w t = some (aZ X 400 f)) (hN : 0 ≤ N ∧ N ≤ 400) (hfb : ∀ i, 0 ≤ i → i < N → 0 ≤ f i ∧ f i ≤ 255) (hne : a ≠ b ∧ a ≠ t) : CM l X yX6_begin cX6_begin 1 none (rmk 2 45) [.ref a] w none (fun w' => w' a = some (.inr (6, rL b (stV f N (up (up (up rv 6 0) 7 (-1)) 3 0)))) ∧ ∀ q : Nat, q ≠ a → w' q = w q) := by
  refine CM.of (lv := [(0, .ref a)]) (by decide) (Nat.le_of_ble_eq_true rfl) rfl (fun p e s m below meth c ls F hr hlk hin hW hS hl => ?_)
  have hZ0 := hW.2.2
  have hB9 := hW.1.2
  clear hin
  refine lv_aload_n F.1 F.2.1 dX6_begin_0 rfl (lv_at hl 0 rfl) ?_
  refine h_iconst F dX6_begin_1 ?_
  refine pf_RX6_19 F hW hS hR (Nat.le_of_ble_eq_true rfl) dX6_begin_2 (fun w1 H locs ho3 hn2 hW hS => ?_)
  rw [rL_6] at ho3
  have hB := (hn2 _ (by omega)).trans hB
  have hT := (hn2 _ (by omega)).trans hT
  refine lv_aload_n F.1 F.2.1 dX6_begin_5 rfl (lv_at hl 0 rfl) ?_
  refine h_iconst F dX6_begin_6 ?_
  refine pf_RX6_9 F hW hS ho3 (Nat.le_of_ble_eq_true rfl) dX6_begin_7 (fun w4 H locs ho6 hn5 hW hS => ?_)
  rw [rL_7] at ho6
  have hB := (hn5 _ (by omega)).trans hB
  have hT := (hn5 _ (by omega)).trans hT
  refine lv_aload_n F.1 F.2.1 dX6_begin_10 rfl (lv_at hl 0 rfl) ?_
  refine h_iconst F dX6_begin_11 ?_
  refine pf_RX6_22 F hW hS ho6 (Nat.le_of_ble_eq_true rfl) dX6_begin_12 (fun w7 H locs ho9 hn8 hW hS => ?_)
  rw [rL_3] at ho9
  have hB := (hn8 _ (by omega)).trans hB
  have hT := (hn8 _ (by omega)).trans hT
  refine lv_aload_n F.1 F.2.1 dX6_begin_15 rfl (lv_at hl 0 rfl) ?_
  refine cl_RX6_25 (As := []) (rest := []) F hl (c_X6_step l X w7 a b t N f (up (up (up rv 6 0) 7 (-1)) 3 0) ho9 hB hT (by omega) hfb (by show 0 ≤ (0 : Int) ∧ (0 : Int) ≤ N; omega) (by omega)) hW hS ho9 rfl rfl ⟨Nat.le_of_ble_eq_true rfl, Nat.le_of_ble_eq_true rfl⟩ (Nat.le_of_ble_eq_true rfl) ⟨Nat.zero_le _, Nat.zero_le _⟩ dX6_begin_16 (fun w10 H locs hp11 hW hS => ?_)
  obtain ⟨ho12, hn13⟩ := hp11
  have hB := (hn13 _ (by omega)).trans hB
  have hT := (hn13 _ (by omega)).trans hT
  exact h_vret F hr hlk hW hS ⟨ho12, (fun q h09 => by rw [hn13 q (by omega), hn8 q (by omega), hn5 q (by omega), hn2 q (by omega)])⟩ dX6_begin_19
set_option maxHeartbeats 4000000 in
set_option maxRecDepth 100000 in
theorem c_X6_fail (l : Launch) (X : Cx) (w : Wo) (a b t : Nat) (N : Int) (f rv : Int → Int) (c9 : Int) (hR : w a = some (.inr (6, rL b rv))) : CM l X yX6_fail cX6_fail 2 (some (.boolean)) (rmk 0 0) [.ref a, .int (iI c9)] w (some (.int (iI (bz false)))) (fun w' => w' a = some (.inr (6, rL b (flV c9 rv))) ∧ ∀ q : Nat, q ≠ a → w' q = w q) := by
  refine CM.of (lv := [(0, .ref a), (1, .int (iI c9))]) (by decide) (Nat.le_of_ble_eq_true rfl) rfl (fun p e s m below meth c ls F hr hlk hin hW hS hl => ?_)
  have hZ0 := hW.2.2
  have hB9 := hW.1.2
  clear hin
  refine lv_aload_n F.1 F.2.1 dX6_fail_0 rfl (lv_at hl 0 rfl) ?_
  refine lv_iload_n F.1 F.2.1 dX6_fail_1 rfl (lv_at hl 1 rfl) ?_
  refine pf_RX6_19 F hW hS hR (Nat.le_of_ble_eq_true rfl) dX6_fail_2 (fun w1 H locs ho3 hn2 hW hS => ?_)
  rw [rL_6] at ho3
  refine lv_aload_n F.1 F.2.1 dX6_fail_5 rfl (lv_at hl 0 rfl) ?_
  refine lv_aload_n F.1 F.2.1 dX6_fail_6 rfl (lv_at hl 0 rfl) ?_
  refine gf_RX6_28 F hW ho3 rfl dX6_fail_7 ?_
  refine h_top (show ((up rv 6 c9) 2 : Int) = rv 2 from rfl) ?_
  refine pf_RX6_9 F hW hS ho3 (Nat.le_of_ble_eq_true rfl) dX6_fail_10 (fun w4 H locs ho6 hn5 hW hS => ?_)
  rw [rL_7] at ho6
  refine h_iconst F dX6_fail_13 ?_
  refine h_top (show (0 : Int) = bz false from rfl) ?_
  exact h_iretz F hr hlk hW hS ⟨(by (rw [ho6]) <;> (rfl)), (fun q h09 => by rw [hn5 q (by omega), hn2 q (by omega)])⟩ dX6_fail_14
set_option maxHeartbeats 4000000 in
set_option maxRecDepth 100000 in
theorem c_X6_isWord (l : Launch) (X : Cx) (w : Wo) (a b t : Nat) (N : Int) (f rv : Int → Int) (k : Nat) (hR : w a = some (.inr (6, rL b rv))) (hB : w b = some (.inr (0, [.ref t, .int (iI N)]))) (hT : w t = some (aZ X 400 f)) (htk : rTok f N rv) (hk : k < 14) : CM l X yX6_isWord cX6_isWord 3 (some (.boolean)) (rmk 4 85) [.ref a, .ref (X.2.2 (10 + k))] w (some (.int (iI (bz (isWB f rv k))))) (fun w' => w' = w) := by
  refine CM.of (lv := [(0, .ref a), (1, .ref (X.2.2 (10 + k)))]) (by decide) (Nat.le_of_ble_eq_true rfl) rfl (fun p e s m below meth c ls F hr hlk hin hW hS hl => ?_)
  have hZ0 := hW.2.2
  have hB9 := hW.1.2
  clear hin
  have hN := htk.1
  have hfb := htk.2.1
  have htr := htk.r
  have hwl := wl_r k hk
  refine lv_aload_n F.1 F.2.1 dX6_isWord_0 rfl (lv_at hl 0 rfl) ?_
  refine gf_RX6_48 F hW hR rfl dX6_isWord_1 ?_
  refine h_iconst F dX6_isWord_4 ?_
  refine h_icne (tgt := 24) F dX6_isWord_5 (by decide) (by omega) (fun c1 => ?_) (fun c1 => ?_)
  · refine h_iconst F dX6_isWord_24 ?_
    refine h_top (show (0 : Int) = bz (isWB f rv k) from bzf (by unfold isWB wdB9; first | (rw [decide_eq_false (p := rv 1 = 1) (by omega)]; rfl) | (rw [decide_eq_false (p := rv 3 - rv 2 = wl k) (by omega), Bool.false_and, Bool.and_false]))) ?_
    exact h_iretz F hr hlk hW hS rfl dX6_isWord_25
  · refine lv_aload_n F.1 F.2.1 dX6_isWord_8 rfl (lv_at hl 0 rfl) ?_
    refine gf_RX6_22 F hW hR rfl dX6_isWord_9 ?_
    refine lv_aload_n F.1 F.2.1 dX6_isWord_12 rfl (lv_at hl 0 rfl) ?_
    refine gf_RX6_28 F hW hR rfl dX6_isWord_13 ?_
    refine h_isub (a := rv 3) (b := rv 2) F dX6_isWord_16 ?_
    refine lv_aload_n F.1 F.2.1 dX6_isWord_17 rfl (lv_at hl 1 rfl) ?_
    refine cl_RX6_64 (As := []) (rest := [.int (iI ((rv 3) - (rv 2)))]) F hl (c_J0_length_8abf5 l X w k hk) hW hS (vk_recv (i := k) hZ0.2.2.2.1 hk hS) rfl rfl ⟨Nat.le_of_ble_eq_true rfl, Nat.le_of_ble_eq_true rfl⟩ (Nat.le_of_ble_eq_true rfl) ⟨Nat.zero_le _, Nat.zero_le _⟩ dX6_isWord_18 (fun w1 H locs hp2 hW hS => ?_)
    rw [hp2] at hW; clear hp2; clear w1
    refine h_iceq (tgt := 26) F dX6_isWord_21 (by decide) (by omega) (fun c3 => ?_) (fun c3 => ?_)
    · refine h_iconst F dX6_isWord_26 ?_
      refine lv_istore_n (lv' := [(2, .int (iI 0)), (0, .ref a), (1, .ref (X.2.2 (10 + k)))]) F.1 F.2.1 dX6_isWord_27 rfl hl (by decide) rfl (fun ls hl => ?_)
      have loop28 : ∀ (n9 : Nat) (i : Int), (hrg : 0 ≤ i ∧ i ≤ wl k) → (hms : wl k - i < (n9 : Int)) → (hno : ∀ j, 0 ≤ j → j < i → decide (f (rv 2 + j) = wc k j) = true) → (H : Heap) → (locs : List Loc) → (ls : Array Slot) → Wd X w s H → va_S (cxA X) s.heap H locs → lv_has ls 3 [(2, .int (iI i)), (0, .ref a), (1, .ref (X.2.2 (10 + k)))] → W p l e (rmk 4 85) s m (List.toArray [.ref a, .ref (X.2.2 (10 + k))]) below meth c H locs 0 0 (MX X below (List.toArray [.ref a, .ref (X.2.2 (10 + k))]) s 0 0 (some (.int (iI (bz (isWB f rv k))))) (fun w' => w' = w)) (F0 m 28 ls []) := by
        intro n9
        induction n9 with
        | zero => intro i  hrg hms; exfalso; omega
        | succ n9 ih28 =>
          intro i  hrg hms  hno H locs ls hW hS hl
          refine lv_iload_n F.1 F.2.1 dX6_isWord_28 rfl (lv_at hl 0 rfl) ?_
          refine lv_aload_n F.1 F.2.1 dX6_isWord_29 rfl (lv_at hl 2 rfl) ?_
          refine cl_RX6_64 (As := []) (rest := [.int (iI i)]) F hl (c_J0_length_8abf5 l X w k hk) hW hS (vk_recv (i := k) hZ0.2.2.2.1 hk hS) rfl rfl ⟨Nat.le_of_ble_eq_true rfl, Nat.le_of_ble_eq_true rfl⟩ (Nat.le_of_ble_eq_true rfl) ⟨Nat.zero_le _, Nat.zero_le _⟩ dX6_isWord_30 (fun w1 H locs hp4 hW hS => ?_)
          rw [hp4] at hW; clear hp4; clear w1
          refine h_icge (tgt := 65) F dX6_isWord_33 (by decide) (by omega) (fun c5 => ?_) (fun c5 => ?_)
          · refine h_iconst F dX6_isWord_65 ?_
            refine h_top (show (1 : Int) = bz (isWB f rv k) from bzt (by unfold isWB wdB9; rw [decide_eq_true (p := rv 1 = 1) (by omega), decide_eq_true (p := rv 3 - rv 2 = wl k) (by omega), al_iff.mpr (fun j h1 h2 => hno j h1 (by omega))]; rfl)) ?_
            exact h_iretz F hr hlk hW hS rfl dX6_isWord_66
          · refine lv_aload_n F.1 F.2.1 dX6_isWord_36 rfl (lv_at hl 1 rfl) ?_
            refine gf_RX6_15 F hW hR rfl dX6_isWord_37 ?_
            refine lv_aload_n F.1 F.2.1 dX6_isWord_40 rfl (lv_at hl 1 rfl) ?_
            refine gf_RX6_28 F hW hR rfl dX6_isWord_41 ?_
            refine lv_iload_n F.1 F.2.1 dX6_isWord_44 rfl (lv_at hl 0 rfl) ?_
            refine h_iadd (a := rv 2) (b := i) F dX6_isWord_45 ?_
            refine cl_RX6_37 (As := [.int (iI ((rv 2) + i))]) (rest := []) F hl (c_X0_byteAt l X w b t N f ((rv 2) + i) hB hT (by omega) (by omega)) hW hS hB rfl rfl ⟨Nat.le_of_ble_eq_true rfl, Nat.le_of_ble_eq_true rfl⟩ (Nat.le_of_ble_eq_true rfl) ⟨Nat.zero_le _, Nat.zero_le _⟩ dX6_isWord_46 (fun w1 H locs hp6 hW hS => ?_)
            rw [hp6] at hW; clear hp6; clear w1
            refine h_top (show (byS f N ((rv 2) + i) : Int) = f (rv 2 + i) from byS_i (by omega) (by omega)) ?_
            refine lv_aload_n F.1 F.2.1 dX6_isWord_49 rfl (lv_at hl 2 rfl) ?_
            refine lv_iload_n F.1 F.2.1 dX6_isWord_50 rfl (lv_at hl 0 rfl) ?_
            refine cl_RX6_69 (As := [.int (iI i)]) (rest := [.int (iI (f (rv 2 + i)))]) F hl (c_J0_charAt_5068e l X w k i hk (by omega)) hW hS (vk_recv (i := k) hZ0.2.2.2.1 hk hS) rfl rfl ⟨Nat.le_of_ble_eq_true rfl, Nat.le_of_ble_eq_true rfl⟩ (Nat.le_of_ble_eq_true rfl) ⟨Nat.zero_le _, Nat.zero_le _⟩ dX6_isWord_51 (fun w1 H locs hp7 hW hS => ?_)
            rw [hp7] at hW; clear hp7; clear w1
            have hbi := hfb (rv 2 + i) (by omega) (by omega)
            have hci := (wc_at (k := k) (j := i) hk (by omega)).2.2.2.2
            refine h_iceq (tgt := 59) F dX6_isWord_54 (by decide) (by omega) (fun c8 => ?_) (fun c8 => ?_)
            · refine h_iinc (k := 0) (a := i) (lv' := [(2, .int (iI (i + 1))), (0, .ref a), (1, .ref (X.2.2 (10 + k)))]) F dX6_isWord_59 hl rfl (by decide) rfl (fun ls hl => ?_)
              refine h_goto (tgt := 28) F dX6_isWord_62 (by decide) ?_
              have eq9 : ((i + 1) : Int) = i + 1 := by first | rfl | omega | simp
              exact ih28 (i + 1)  (by omega) (by omega)  (fun j h1 h2 => (by by_cases hj : j = i; (rw [hj]; exact decide_eq_true (by assumption)); exact hno j h1 (by omega))) _ _ ls hW hS (by rw [eq9]; exact lv_sub hl [0, 1, 2] rfl)
            · refine h_iconst F dX6_isWord_57 ?_
              refine h_top (show (0 : Int) = bz (isWB f rv k) from bzf (by unfold isWB wdB9; rw [Bool.and_eq_false_iff]; right; rw [Bool.and_eq_false_iff]; right; rw [← Bool.not_eq_true, al_iff]; intro g; exact absurd (of_decide_eq_true (g i (by omega) (by omega))) (by assumption))) ?_
              exact h_iretz F hr hlk hW hS rfl dX6_isWord_58
      exact loop28 ((wl k - 0) + 1 : Int).toNat 0  (by omega) (by omega)  (fun j h1 h2 => by omega) _ _ ls hW hS (lv_sub hl [0, 1, 2] rfl)
    · refine h_iconst F dX6_isWord_24 ?_
      refine h_top (show (0 : Int) = bz (isWB f rv k) from bzf (by unfold isWB wdB9; first | (rw [decide_eq_false (p := rv 1 = 1) (by omega)]; rfl) | (rw [decide_eq_false (p := rv 3 - rv 2 = wl k) (by omega), Bool.false_and, Bool.and_false]))) ?_
      exact h_iretz F hr hlk hW hS rfl dX6_isWord_25
set_option maxHeartbeats 4000000 in
set_option maxRecDepth 100000 in
theorem c_X6_takeWord (l : Launch) (X : Cx) (w : Wo) (a b t : Nat) (N : Int) (f rv : Int → Int) (k : Nat) (hR : w a = some (.inr (6, rL b rv))) (hB : w b = some (.inr (0, [.ref t, .int (iI N)]))) (hT : w t = some (aZ X 400 f)) (htk : rTok f N rv) (hne : a ≠ b ∧ a ≠ t) (hk : k < 14) : CM l X yX6_takeWord cX6_takeWord 2 (some (.boolean)) (rmk 5 107) [.ref a, .ref (X.2.2 (10 + k))] w (some (.int (iI (bz (isWB f rv k))))) (fun w' => w' a = some (.inr (6, rL b (twV f N k rv))) ∧ ∀ q : Nat, q ≠ a → w' q = w q) := by
  refine CM.of (lv := [(0, .ref a), (1, .ref (X.2.2 (10 + k)))]) (by decide) (Nat.le_of_ble_eq_true rfl) rfl (fun p e s m below meth c ls F hr hlk hin hW hS hl => ?_)
  have hZ0 := hW.2.2
  have hB9 := hW.1.2
  clear hin
  have hN := htk.1
  have hfb := htk.2.1
  have htr := htk.r
  refine lv_aload_n F.1 F.2.1 dX6_takeWord_0 rfl (lv_at hl 0 rfl) ?_
  refine lv_aload_n F.1 F.2.1 dX6_takeWord_1 rfl (lv_at hl 1 rfl) ?_
  refine cl_RX6_73 (As := [.ref (X.2.2 (10 + k))]) (rest := []) F hl (c_X6_isWord l X w a b t N f rv k hR hB hT htk hk) hW hS hR rfl rfl ⟨Nat.le_of_ble_eq_true rfl, Nat.le_of_ble_eq_true rfl⟩ (Nat.le_of_ble_eq_true rfl) ⟨Nat.zero_le _, Nat.zero_le _⟩ dX6_takeWord_2 (fun w1 H locs hp1 hW hS => ?_)
  rw [hp1] at hW; clear hp1; clear w1
  refine h_ifneb (tgt := 14) F dX6_takeWord_5 (by decide) (fun c2 => ?_) (fun c2 => ?_)
  · refine lv_aload_n F.1 F.2.1 dX6_takeWord_14 rfl (lv_at hl 0 rfl) ?_
    refine cl_RX6_25 (As := []) (rest := []) F hl (c_X6_step l X w a b t N f rv hR hB hT (by omega) hfb (by omega) (by omega)) hW hS hR rfl rfl ⟨Nat.le_of_ble_eq_true rfl, Nat.le_of_ble_eq_true rfl⟩ (Nat.le_of_ble_eq_true rfl) ⟨Nat.zero_le _, Nat.zero_le _⟩ dX6_takeWord_15 (fun w3 H locs hp4 hW hS => ?_)
    obtain ⟨ho5, hn6⟩ := hp4
    have hB := (hn6 _ (by omega)).trans hB
    have hT := (hn6 _ (by omega)).trans hT
    refine h_iconst F dX6_takeWord_18 ?_
    refine h_top (show (1 : Int) = bz (isWB f rv k) from by first | exact bzt (by assumption) | exact bzf (by assumption) | exact congrArg bz (by simp_all)) ?_
    exact h_iretz F hr hlk hW hS ⟨(by (rw [ho5]) <;> (unfold twV; first | rw [if_pos (by assumption)] | rw [if_neg (by rw [‹isWB f rv k = false›]; decide)])), (fun q h09 => by rw [hn6 q (by omega)])⟩ dX6_takeWord_19
  · refine lv_aload_n F.1 F.2.1 dX6_takeWord_8 rfl (lv_at hl 0 rfl) ?_
    refine h_iconst F dX6_takeWord_9 ?_
    refine cl_RX6_77 (As := [.int (iI 1)]) (rest := []) F hl (c_X6_fail l X w a b t N f rv 1 hR) hW hS hR rfl rfl ⟨Nat.le_of_ble_eq_true rfl, Nat.le_of_ble_eq_true rfl⟩ (Nat.le_of_ble_eq_true rfl) ⟨Nat.zero_le _, Nat.zero_le _⟩ dX6_takeWord_10 (fun w7 H locs hp8 hW hS => ?_)
    obtain ⟨ho9, hn10⟩ := hp8
    have hB := (hn10 _ (by omega)).trans hB
    have hT := (hn10 _ (by omega)).trans hT
    refine h_top (show (bz false : Int) = bz (isWB f rv k) from by first | exact bzt (by assumption) | exact bzf (by assumption) | exact congrArg bz (by simp_all)) ?_
    exact h_iretz F hr hlk hW hS ⟨(by (rw [ho9]) <;> (unfold twV; first | rw [if_pos (by assumption)] | rw [if_neg (by rw [‹isWB f rv k = false›]; decide)])), (fun q h09 => by rw [hn10 q (by omega)])⟩ dX6_takeWord_13
set_option maxHeartbeats 4000000 in
set_option maxRecDepth 100000 in
theorem c_X6_takeMark (l : Launch) (X : Cx) (w : Wo) (a b t : Nat) (N : Int) (f rv : Int → Int) (mk : Int) (hR : w a = some (.inr (6, rL b rv))) (hB : w b = some (.inr (0, [.ref t, .int (iI N)]))) (hT : w t = some (aZ X 400 f)) (htk : rTok f N rv) (hne : a ≠ b ∧ a ≠ t) (hmk : 0 ≤ mk ∧ mk ≤ 255) : CM l X yX6_takeMark cX6_takeMark 2 (some (.boolean)) (rmk 2 45) [.ref a, .int (iI mk)] w (some (.int (iI (bz (decide (rv 1 = mk)))))) (fun w' => w' a = some (.inr (6, rL b (tmV f N mk rv))) ∧ ∀ q : Nat, q ≠ a → w' q = w q) := by
  refine CM.of (lv := [(0, .ref a), (1, .int (iI mk))]) (by decide) (Nat.le_of_ble_eq_true rfl) rfl (fun p e s m below meth c ls F hr hlk hin hW hS hl => ?_)
  have hZ0 := hW.2.2
  have hB9 := hW.1.2
  clear hin
  have hN := htk.1
  have hfb := htk.2.1
  have htr := htk.r
  refine lv_aload_n F.1 F.2.1 dX6_takeMark_0 rfl (lv_at hl 0 rfl) ?_
  refine gf_RX6_48 F hW hR rfl dX6_takeMark_1 ?_
  refine lv_iload_n F.1 F.2.1 dX6_takeMark_4 rfl (lv_at hl 1 rfl) ?_
  refine h_iceq (tgt := 14) F dX6_takeMark_5 (by decide) (by omega) (fun c1 => ?_) (fun c1 => ?_)
  · refine lv_aload_n F.1 F.2.1 dX6_takeMark_14 rfl (lv_at hl 0 rfl) ?_
    refine cl_RX6_25 (As := []) (rest := []) F hl (c_X6_step l X w a b t N f rv hR hB hT (by omega) hfb (by omega) (by omega)) hW hS hR rfl rfl ⟨Nat.le_of_ble_eq_true rfl, Nat.le_of_ble_eq_true rfl⟩ (Nat.le_of_ble_eq_true rfl) ⟨Nat.zero_le _, Nat.zero_le _⟩ dX6_takeMark_15 (fun w2 H locs hp3 hW hS => ?_)
    obtain ⟨ho4, hn5⟩ := hp3
    have hB := (hn5 _ (by omega)).trans hB
    have hT := (hn5 _ (by omega)).trans hT
    refine h_iconst F dX6_takeMark_18 ?_
    refine h_top (show (1 : Int) = bz (decide (rv 1 = mk)) from bzt (by first | exact decide_eq_true (by omega) | (simp only [Bool.and_eq_true, Bool.or_eq_true, decide_eq_true_eq]; omega) | simp_all)) ?_
    exact h_iretz F hr hlk hW hS ⟨(by (rw [ho4]) <;> (unfold tmV; first | rw [if_pos (by assumption)] | rw [if_neg (by omega)])), (fun q h09 => by rw [hn5 q (by omega)])⟩ dX6_takeMark_19
  · refine lv_aload_n F.1 F.2.1 dX6_takeMark_8 rfl (lv_at hl 0 rfl) ?_
    refine h_iconst F dX6_takeMark_9 ?_
    refine cl_RX6_77 (As := [.int (iI 1)]) (rest := []) F hl (c_X6_fail l X w a b t N f rv 1 hR) hW hS hR rfl rfl ⟨Nat.le_of_ble_eq_true rfl, Nat.le_of_ble_eq_true rfl⟩ (Nat.le_of_ble_eq_true rfl) ⟨Nat.zero_le _, Nat.zero_le _⟩ dX6_takeMark_10 (fun w6 H locs hp7 hW hS => ?_)
    obtain ⟨ho8, hn9⟩ := hp7
    have hB := (hn9 _ (by omega)).trans hB
    have hT := (hn9 _ (by omega)).trans hT
    refine h_top (show (bz false : Int) = bz (decide (rv 1 = mk)) from congrArg bz (by first | rfl | simp_all)) ?_
    exact h_iretz F hr hlk hW hS ⟨(by (rw [ho8]) <;> (unfold tmV; first | rw [if_pos (by assumption)] | rw [if_neg (by omega)])), (fun q h09 => by rw [hn9 q (by omega)])⟩ dX6_takeMark_13
set_option maxHeartbeats 4000000 in
set_option maxRecDepth 100000 in
theorem c_X6_seesNumber (l : Launch) (X : Cx) (w : Wo) (a b t : Nat) (N : Int) (f rv : Int → Int) (lo hi : Int) (hR : w a = some (.inr (6, rL b rv))) (hB : w b = some (.inr (0, [.ref t, .int (iI N)]))) (hT : w t = some (aZ X 400 f)) (htk : rTok f N rv) (hne : a ≠ b ∧ a ≠ t) (hlo : 0 ≤ lo ∧ lo < 100000) (hhi : 0 ≤ hi ∧ hi < 100000) : CM l X yX6_seesNumber cX6_seesNumber 3 (some (.boolean)) (rmk 1 21) [.ref a, .int (iI lo), .int (iI hi)] w (some (.int (iI (bz (snB lo hi rv))))) (fun w' => w' a = some (.inr (6, rL b (snV lo hi rv))) ∧ ∀ q : Nat, q ≠ a → w' q = w q) := by
  refine CM.of (lv := [(0, .ref a), (1, .int (iI lo)), (2, .int (iI hi))]) (by decide) (Nat.le_of_ble_eq_true rfl) rfl (fun p e s m below meth c ls F hr hlk hin hW hS hl => ?_)
  have hZ0 := hW.2.2
  have hB9 := hW.1.2
  clear hin
  have hN := htk.1
  have hfb := htk.2.1
  have htr := htk.r
  refine lv_aload_n F.1 F.2.1 dX6_seesNumber_0 rfl (lv_at hl 0 rfl) ?_
  refine gf_RX6_48 F hW hR rfl dX6_seesNumber_1 ?_
  refine h_iconst F dX6_seesNumber_4 ?_
  refine h_iceq (tgt := 14) F dX6_seesNumber_5 (by decide) (by omega) (fun c1 => ?_) (fun c1 => ?_)
  · refine lv_aload_n F.1 F.2.1 dX6_seesNumber_14 rfl (lv_at hl 0 rfl) ?_
    refine gf_RX6_45 F hW hR rfl dX6_seesNumber_15 ?_
    refine lv_iload_n F.1 F.2.1 dX6_seesNumber_18 rfl (lv_at hl 1 rfl) ?_
    refine h_iclt (tgt := 30) F dX6_seesNumber_19 (by decide) (by omega) (fun c2 => ?_) (fun c2 => ?_)
    · refine lv_aload_n F.1 F.2.1 dX6_seesNumber_30 rfl (lv_at hl 0 rfl) ?_
      refine h_iconst F dX6_seesNumber_31 ?_
      refine cl_RX6_77 (As := [.int (iI 2)]) (rest := []) F hl (c_X6_fail l X w a b t N f rv 2 hR) hW hS hR rfl rfl ⟨Nat.le_of_ble_eq_true rfl, Nat.le_of_ble_eq_true rfl⟩ (Nat.le_of_ble_eq_true rfl) ⟨Nat.zero_le _, Nat.zero_le _⟩ dX6_seesNumber_32 (fun w3 H locs hp4 hW hS => ?_)
      obtain ⟨ho5, hn6⟩ := hp4
      have hB := (hn6 _ (by omega)).trans hB
      have hT := (hn6 _ (by omega)).trans hT
      refine h_top (show (bz false : Int) = bz (snB lo hi rv) from by first | exact bzt (by unfold snB; rw [decide_eq_true (p := rv 1 = 2) (by omega), decide_eq_true (by omega)]; rfl) | exact congrArg bz (show false = snB lo hi rv from by unfold snB; rw [decide_eq_false (p := rv 1 = 2) (by omega)]; rfl) | exact congrArg bz (show false = snB lo hi rv from by unfold snB; rw [decide_eq_false (p := lo ≤ rv 4 ∧ rv 4 ≤ hi) (by omega), Bool.and_false])) ?_
      exact h_iretz F hr hlk hW hS ⟨(by (rw [ho5]) <;> (unfold snV; first | rw [if_pos (by omega), if_pos (by omega)] | rw [if_pos (by omega), if_neg (by omega)] | rw [if_neg (by omega)])), (fun q h09 => by rw [hn6 q (by omega)])⟩ dX6_seesNumber_35
    · refine lv_aload_n F.1 F.2.1 dX6_seesNumber_22 rfl (lv_at hl 0 rfl) ?_
      refine gf_RX6_45 F hW hR rfl dX6_seesNumber_23 ?_
      refine lv_iload_n F.1 F.2.1 dX6_seesNumber_26 rfl (lv_at hl 2 rfl) ?_
      refine h_icle (tgt := 36) F dX6_seesNumber_27 (by decide) (by omega) (fun c7 => ?_) (fun c7 => ?_)
      · refine lv_aload_n F.1 F.2.1 dX6_seesNumber_36 rfl (lv_at hl 0 rfl) ?_
        refine lv_aload_n F.1 F.2.1 dX6_seesNumber_37 rfl (lv_at hl 0 rfl) ?_
        refine gf_RX6_45 F hW hR rfl dX6_seesNumber_38 ?_
        refine pf_RX6_80 F hW hS hR (Nat.le_of_ble_eq_true rfl) dX6_seesNumber_41 (fun w8 H locs ho10 hn9 hW hS => ?_)
        rw [rL_5] at ho10
        have hB := (hn9 _ (by omega)).trans hB
        have hT := (hn9 _ (by omega)).trans hT
        refine h_iconst F dX6_seesNumber_44 ?_
        refine h_top (show (1 : Int) = bz (snB lo hi rv) from by first | exact bzt (by unfold snB; rw [decide_eq_true (p := rv 1 = 2) (by omega), decide_eq_true (by omega)]; rfl) | exact congrArg bz (show false = snB lo hi rv from by unfold snB; rw [decide_eq_false (p := rv 1 = 2) (by omega)]; rfl) | exact congrArg bz (show false = snB lo hi rv from by unfold snB; rw [decide_eq_false (p := lo ≤ rv 4 ∧ rv 4 ≤ hi) (by omega), Bool.and_false])) ?_
        exact h_iretz F hr hlk hW hS ⟨(by (rw [ho10]) <;> (unfold snV; first | rw [if_pos (by omega), if_pos (by omega)] | rw [if_pos (by omega), if_neg (by omega)] | rw [if_neg (by omega)])), (fun q h09 => by rw [hn9 q (by omega)])⟩ dX6_seesNumber_45
      · refine lv_aload_n F.1 F.2.1 dX6_seesNumber_30 rfl (lv_at hl 0 rfl) ?_
        refine h_iconst F dX6_seesNumber_31 ?_
        refine cl_RX6_77 (As := [.int (iI 2)]) (rest := []) F hl (c_X6_fail l X w a b t N f rv 2 hR) hW hS hR rfl rfl ⟨Nat.le_of_ble_eq_true rfl, Nat.le_of_ble_eq_true rfl⟩ (Nat.le_of_ble_eq_true rfl) ⟨Nat.zero_le _, Nat.zero_le _⟩ dX6_seesNumber_32 (fun w11 H locs hp12 hW hS => ?_)
        obtain ⟨ho13, hn14⟩ := hp12
        have hB := (hn14 _ (by omega)).trans hB
        have hT := (hn14 _ (by omega)).trans hT
        refine h_top (show (bz false : Int) = bz (snB lo hi rv) from by first | exact bzt (by unfold snB; rw [decide_eq_true (p := rv 1 = 2) (by omega), decide_eq_true (by omega)]; rfl) | exact congrArg bz (show false = snB lo hi rv from by unfold snB; rw [decide_eq_false (p := rv 1 = 2) (by omega)]; rfl) | exact congrArg bz (show false = snB lo hi rv from by unfold snB; rw [decide_eq_false (p := lo ≤ rv 4 ∧ rv 4 ≤ hi) (by omega), Bool.and_false])) ?_
        exact h_iretz F hr hlk hW hS ⟨(by (rw [ho13]) <;> (unfold snV; first | rw [if_pos (by omega), if_pos (by omega)] | rw [if_pos (by omega), if_neg (by omega)] | rw [if_neg (by omega)])), (fun q h09 => by rw [hn14 q (by omega)])⟩ dX6_seesNumber_35
  · refine lv_aload_n F.1 F.2.1 dX6_seesNumber_8 rfl (lv_at hl 0 rfl) ?_
    refine h_iconst F dX6_seesNumber_9 ?_
    refine cl_RX6_77 (As := [.int (iI 1)]) (rest := []) F hl (c_X6_fail l X w a b t N f rv 1 hR) hW hS hR rfl rfl ⟨Nat.le_of_ble_eq_true rfl, Nat.le_of_ble_eq_true rfl⟩ (Nat.le_of_ble_eq_true rfl) ⟨Nat.zero_le _, Nat.zero_le _⟩ dX6_seesNumber_10 (fun w15 H locs hp16 hW hS => ?_)
    obtain ⟨ho17, hn18⟩ := hp16
    have hB := (hn18 _ (by omega)).trans hB
    have hT := (hn18 _ (by omega)).trans hT
    refine h_top (show (bz false : Int) = bz (snB lo hi rv) from by first | exact bzt (by unfold snB; rw [decide_eq_true (p := rv 1 = 2) (by omega), decide_eq_true (by omega)]; rfl) | exact congrArg bz (show false = snB lo hi rv from by unfold snB; rw [decide_eq_false (p := rv 1 = 2) (by omega)]; rfl) | exact congrArg bz (show false = snB lo hi rv from by unfold snB; rw [decide_eq_false (p := lo ≤ rv 4 ∧ rv 4 ≤ hi) (by omega), Bool.and_false])) ?_
    exact h_iretz F hr hlk hW hS ⟨(by (rw [ho17]) <;> (unfold snV; first | rw [if_pos (by omega), if_pos (by omega)] | rw [if_pos (by omega), if_neg (by omega)] | rw [if_neg (by omega)])), (fun q h09 => by rw [hn18 q (by omega)])⟩ dX6_seesNumber_13
set_option maxHeartbeats 4000000 in
set_option maxRecDepth 100000 in
theorem c_X6_takeNumber (l : Launch) (X : Cx) (w : Wo) (a b t : Nat) (N : Int) (f rv : Int → Int) (lo hi : Int) (hR : w a = some (.inr (6, rL b rv))) (hB : w b = some (.inr (0, [.ref t, .int (iI N)]))) (hT : w t = some (aZ X 400 f)) (htk : rTok f N rv) (hne : a ≠ b ∧ a ≠ t) (hlo : 0 ≤ lo ∧ lo < 100000) (hhi : 0 ≤ hi ∧ hi < 100000) : CM l X yX6_takeNumber cX6_takeNumber 3 (some (.boolean)) (rmk 2 45) [.ref a, .int (iI lo), .int (iI hi)] w (some (.int (iI (bz (snB lo hi rv))))) (fun w' => w' a = some (.inr (6, rL b (tnuV f N lo hi rv))) ∧ ∀ q : Nat, q ≠ a → w' q = w q) := by
  refine CM.of (lv := [(0, .ref a), (1, .int (iI lo)), (2, .int (iI hi))]) (by decide) (Nat.le_of_ble_eq_true rfl) rfl (fun p e s m below meth c ls F hr hlk hin hW hS hl => ?_)
  have hZ0 := hW.2.2
  have hB9 := hW.1.2
  clear hin
  have hN := htk.1
  have hfb := htk.2.1
  have htr := htk.r
  refine lv_aload_n F.1 F.2.1 dX6_takeNumber_0 rfl (lv_at hl 0 rfl) ?_
  refine lv_iload_n F.1 F.2.1 dX6_takeNumber_1 rfl (lv_at hl 1 rfl) ?_
  refine lv_iload_n F.1 F.2.1 dX6_takeNumber_2 rfl (lv_at hl 2 rfl) ?_
  refine cl_RX6_83 (As := [.int (iI lo), .int (iI hi)]) (rest := []) F hl (c_X6_seesNumber l X w a b t N f rv lo hi hR hB hT htk (by omega) (by omega) (by omega)) hW hS hR rfl rfl ⟨Nat.le_of_ble_eq_true rfl, Nat.le_of_ble_eq_true rfl⟩ (Nat.le_of_ble_eq_true rfl) ⟨Nat.zero_le _, Nat.zero_le _⟩ dX6_takeNumber_3 (fun w1 H locs hp2 hW hS => ?_)
  obtain ⟨ho3, hn4⟩ := hp2
  have hB := (hn4 _ (by omega)).trans hB
  have hT := (hn4 _ (by omega)).trans hT
  refine h_ifneb (tgt := 11) F dX6_takeNumber_6 (by decide) (fun c5 => ?_) (fun c5 => ?_)
  · refine lv_aload_n F.1 F.2.1 dX6_takeNumber_11 rfl (lv_at hl 0 rfl) ?_
    refine cl_RX6_25 (As := []) (rest := []) F hl (c_X6_step l X w1 a b t N f (snV lo hi rv) ho3 hB hT (by omega) hfb (by have := htk.sn (lo := lo) (hi := hi) |>.r; omega) (by omega)) hW hS ho3 rfl rfl ⟨Nat.le_of_ble_eq_true rfl, Nat.le_of_ble_eq_true rfl⟩ (Nat.le_of_ble_eq_true rfl) ⟨Nat.zero_le _, Nat.zero_le _⟩ dX6_takeNumber_12 (fun w6 H locs hp7 hW hS => ?_)
    obtain ⟨ho8, hn9⟩ := hp7
    have hB := (hn9 _ (by omega)).trans hB
    have hT := (hn9 _ (by omega)).trans hT
    refine h_iconst F dX6_takeNumber_15 ?_
    refine h_top (show (1 : Int) = bz (snB lo hi rv) from by first | exact bzt (by assumption) | exact bzf (by assumption)) ?_
    exact h_iretz F hr hlk hW hS ⟨(by (rw [ho8]) <;> (unfold tnuV; first | rw [if_pos (by assumption)] | rw [if_neg (by rw [‹snB lo hi rv = false›]; decide)])), (fun q h09 => by rw [hn9 q (by omega), hn4 q (by omega)])⟩ dX6_takeNumber_16
  · refine h_iconst F dX6_takeNumber_9 ?_
    refine h_top (show (0 : Int) = bz (snB lo hi rv) from by first | exact bzt (by assumption) | exact bzf (by assumption)) ?_
    exact h_iretz F hr hlk hW hS ⟨(by (rw [ho3]) <;> (unfold tnuV; first | rw [if_pos (by assumption)] | rw [if_neg (by rw [‹snB lo hi rv = false›]; decide)])), (fun q h09 => by rw [hn4 q (by omega)])⟩ dX6_takeNumber_10
