set_option maxHeartbeats 4000000 in
set_option maxRecDepth 100000 in
theorem c_X8_writeRow (l : Launch) (X : Cx) (w : Wo) (y : Nat) (su : Int) (σ : Int → Int) (M : Int) (ob : Int → Int) (rn : Int) (b : Bool) (hY : clO X w y su) (hL : loomAt X w (y + 1) σ) (hWB : w (y + 309) = some (.inr (0, [.ref (y + 310), .int (iI M)]))) (hWT : w (y + 310) = some (aZ X 400 ob)) (hr : 0 ≤ rn ∧ rn < σ 1) : CM l X yX8_writeRow cX8_writeRow 6 (some (.int)) (rmk 3 68) [.ref y, .int (iI rn), .int (iI (bz b))] w (some (.int (iI (wrL σ rn b (σ 0).toNat)))) (fun w' => w' (y + 309) = some (.inr (0, [.ref (y + 310), .int (iI (wrL σ rn b (σ 0).toNat))])) ∧ w' (y + 310) = some (aZ X 400 (wrF ob σ rn b (σ 0).toNat)) ∧ ∀ q : Nat, q ≠ y + 309 → q ≠ y + 310 → w' q = w q) := by
  refine CM.of (lv := [(0, .ref y), (1, .int (iI rn)), (2, .int (iI (bz b)))]) (by decide) (Nat.le_of_ble_eq_true rfl) rfl (fun p e s m below meth c ls F hr hlk hin hW hS hl => ?_)
  have hZ0 := hW.2.2
  have hB9 := hW.1.2
  clear hin
  unfold clO at hY
  have hO := hL.1.o
  have hA := hL.1
  have hwf := hL.2.2
  have hF := hwf.1
  unfold WF0 at hF
  have hg1 := hL.1.g1
  refine lv_aload_n F.1 F.2.1 dX8_writeRow_0 rfl (lv_at hl 0 rfl) ?_
  refine lv_iload_n F.1 F.2.1 dX8_writeRow_1 rfl (lv_at hl 1 rfl) ?_
  refine cl_RX8_283 (As := [.int (iI rn)]) (rest := []) F hl (c_X8_checkRow l X w y su σ rn hY hL (by omega)) hW hS hY rfl rfl ⟨Nat.le_of_ble_eq_true rfl, Nat.le_of_ble_eq_true rfl⟩ (Nat.le_of_ble_eq_true rfl) ⟨Nat.zero_le _, Nat.zero_le _⟩ dX8_writeRow_2 (fun w1 H locs hp1 hW hS => ?_)
  rw [hp1] at hW; clear hp1; clear w1
  refine lv_aload_n F.1 F.2.1 dX8_writeRow_5 rfl (lv_at hl 0 rfl) ?_
  refine gf_RX8_53 F hW hY rfl dX8_writeRow_6 ?_
  refine h_iconst F dX8_writeRow_9 ?_
  refine cl_RX8_101 (As := [.int (iI 0)]) (rest := []) F hl (c_X0_cutTo l X w (y + 309) (y + 310) M ob 0 hWB hWT (by omega)) hW hS hWB rfl rfl ⟨Nat.le_of_ble_eq_true rfl, Nat.le_of_ble_eq_true rfl⟩ (Nat.le_of_ble_eq_true rfl) ⟨Nat.zero_le _, Nat.zero_le _⟩ dX8_writeRow_10 (fun w2 H locs hp3 hW hS => ?_)
  obtain ⟨ho4, hn5⟩ := hp3
  have hY := (hn5 _ (by omega)).trans hY
  have hO := (hn5 _ (by omega)).trans hO
  have hg1 := (hn5 _ (by omega)).trans hg1
  have hWT := (hn5 _ (by omega)).trans hWT
  have hL := hL.mv (w2 := w2) (fun q h1 h2 => hn5 q (by omega))
  refine h_iconst F dX8_writeRow_13 ?_
  refine lv_istore_n (lv' := [(3, .int (iI 0)), (0, .ref y), (1, .int (iI rn)), (2, .int (iI (bz b)))]) F.1 F.2.1 dX8_writeRow_14 rfl hl (by decide) rfl (fun ls hl => ?_)
  have loop15 : ∀ (n9 : Nat) (i : Int), (hrg : 0 ≤ i ∧ i ≤ σ 0) → (hms : σ 0 - i < (n9 : Int)) → (wz9 : Wo) → (hO15_0 : wz9 (y + 309) = some (.inr (0, [.ref (y + 310), .int (iI (wrL σ rn b i.toNat))]))) → (hA15_0 : wz9 (y + 310) = some (aZ X 400 (wrF ob σ rn b i.toNat))) → (hF15 : ∀ q : Nat, q ≠ y + 309 → q ≠ y + 310 → wz9 q = w2 q) → (H : Heap) → (locs : List Loc) → (ls : Array Slot) → Wd X wz9 s H → va_S (cxA X) s.heap H locs → lv_has ls 6 [(3, .int (iI i)), (0, .ref y), (1, .int (iI rn)), (2, .int (iI (bz b)))] → W p l e (rmk 3 68) s m (List.toArray [.ref y, .int (iI rn), .int (iI (bz b))]) below meth c H locs 0 0 (MX X below (List.toArray [.ref y, .int (iI rn), .int (iI (bz b))]) s 0 0 (some (.int (iI (wrL σ rn b (σ 0).toNat)))) (fun w' => w' (y + 309) = some (.inr (0, [.ref (y + 310), .int (iI (wrL σ rn b (σ 0).toNat))])) ∧ w' (y + 310) = some (aZ X 400 (wrF ob σ rn b (σ 0).toNat)) ∧ ∀ q : Nat, q ≠ y + 309 → q ≠ y + 310 → w' q = w q)) (F0 m 15 ls []) := by
    intro n9
    induction n9 with
    | zero => intro i  hrg hms; exfalso; omega
    | succ n9 ih15 =>
      intro i  hrg hms wz9 hO15_0 hA15_0 hF15  H locs ls hW hS hl
      have hY := (hF15 _ (by omega) (by omega)).trans hY
      have hO := (hF15 _ (by omega) (by omega)).trans hO
      have hg1 := (hF15 _ (by omega) (by omega)).trans hg1
      have hL := hL.mv (w2 := wz9) (fun q h1 h2 => hF15 q (by omega) (by omega))
      have hwl := wrL_r σ rn b i.toNat
      refine lv_iload_n F.1 F.2.1 dX8_writeRow_15 rfl (lv_at hl 0 rfl) ?_
      refine lv_aload_n F.1 F.2.1 dX8_writeRow_16 rfl (lv_at hl 1 rfl) ?_
      refine gf_RX8_10 F hW hY rfl dX8_writeRow_17 ?_
      refine gf_RX8_122 F hW hO rfl dX8_writeRow_20 ?_
      refine h_icge (tgt := 121) F dX8_writeRow_23 (by decide) (by omega) (fun c6 => ?_) (fun c6 => ?_)
      · refine lv_aload_n F.1 F.2.1 dX8_writeRow_121 rfl (lv_at hl 1 rfl) ?_
        refine gf_RX8_53 F hW hY rfl dX8_writeRow_122 ?_
        refine cl_RX8_81 (As := []) (rest := []) F hl (c_X0_size l X wz9 (y + 309) (y + 310) (wrL σ rn b i.toNat) (wrF ob σ rn b i.toNat) hO15_0 hA15_0) hW hS hO15_0 rfl rfl ⟨Nat.le_of_ble_eq_true rfl, Nat.le_of_ble_eq_true rfl⟩ (Nat.le_of_ble_eq_true rfl) ⟨Nat.zero_le _, Nat.zero_le _⟩ dX8_writeRow_125 (fun w1 H locs hp7 hW hS => ?_)
        rw [hp7] at hW; clear hp7; clear w1
        refine h_top (show ((wrL σ rn b i.toNat) : Int) = wrL σ rn b (σ 0).toNat from by rw [show i = σ 0 by omega]) ?_
        exact h_ireti F hr hlk hW hS ⟨(by (rw [hO15_0]) <;> (rw [show i = σ 0 by omega])), (by (rw [hA15_0]) <;> (rw [show i = σ 0 by omega])), (fun q h09 h19 => by rw [hF15 q (by omega) (by omega), hn5 q (by omega)])⟩ dX8_writeRow_128
      · have join42 : ∀ (H : Heap) (locs : List Loc) (ls : Array Slot), Wd X wz9 s H → va_S (cxA X) s.heap H locs → lv_has ls 6 [(3, .int (iI i)), (0, .ref y), (1, .int (iI rn)), (2, .int (iI (bz b)))] → W p l e (rmk 3 68) s m (List.toArray [.ref y, .int (iI rn), .int (iI (bz b))]) below meth c H locs 0 0 (MX X below (List.toArray [.ref y, .int (iI rn), .int (iI (bz b))]) s 0 0 (some (.int (iI (wrL σ rn b (σ 0).toNat)))) (fun w' => w' (y + 309) = some (.inr (0, [.ref (y + 310), .int (iI (wrL σ rn b (σ 0).toNat))])) ∧ w' (y + 310) = some (aZ X 400 (wrF ob σ rn b (σ 0).toNat)) ∧ ∀ q : Nat, q ≠ y + 309 → q ≠ y + 310 → w' q = w q)) (F0 m 42 ls [.int (iI (wcol σ b i))]) := by
          intro  H locs ls  hW hS hl
          refine lv_istore (lv' := [(4, .int (iI (wcol σ b i))), (3, .int (iI i)), (0, .ref y), (1, .int (iI rn)), (2, .int (iI (bz b)))]) F.1 F.2.1 dX8_writeRow_42 hl (by decide) rfl (fun ls hl => ?_)
          have hcol : 0 ≤ wcol σ b i ∧ wcol σ b i < σ 0 := by unfold wcol turnS; split <;> omega
          have hce := hwf.2.2.2.1 (wcol σ b i) rn (by omega) (by omega) (by omega) (by omega)
          refine lv_aload_n F.1 F.2.1 dX8_writeRow_44 rfl (lv_at hl 2 rfl) ?_
          refine gf_RX8_10 F hW hY rfl dX8_writeRow_45 ?_
          refine gf_RX8_232 F hW hO rfl dX8_writeRow_48 ?_
          refine lv_iload F.1 F.2.1 dX8_writeRow_51 (lv_at hl 0 rfl) ?_
          refine lv_iload_n F.1 F.2.1 dX8_writeRow_53 rfl (lv_at hl 3 rfl) ?_
          refine cl_RX8_236 (As := [.int (iI (wcol σ b i)), .int (iI rn)]) (rest := []) F hl (c_get_cl l X wz9 (y + 1) σ (wcol σ b i) rn hL.1 hwf (by omega)) hW hS hg1 rfl rfl ⟨Nat.le_of_ble_eq_true rfl, Nat.le_of_ble_eq_true rfl⟩ (Nat.le_of_ble_eq_true rfl) ⟨Nat.zero_le _, Nat.zero_le _⟩ dX8_writeRow_54 (fun w1 H locs hp8 hW hS => ?_)
          rw [hp8] at hW; clear hp8; clear w1
          refine lv_istore (lv' := [(5, .int (iI (cellS σ (wcol σ b i) rn))), (4, .int (iI (wcol σ b i))), (3, .int (iI i)), (0, .ref y), (1, .int (iI rn)), (2, .int (iI (bz b)))]) F.1 F.2.1 dX8_writeRow_57 hl (by decide) rfl (fun ls hl => ?_)
          refine lv_aload_n F.1 F.2.1 dX8_writeRow_59 rfl (lv_at hl 3 rfl) ?_
          refine gf_RX8_53 F hW hY rfl dX8_writeRow_60 ?_
          have join79 : ∀ (H : Heap) (locs : List Loc) (ls : Array Slot), Wd X wz9 s H → va_S (cxA X) s.heap H locs → lv_has ls 6 [(5, .int (iI (cellS σ (wcol σ b i) rn))), (4, .int (iI (wcol σ b i))), (3, .int (iI i)), (0, .ref y), (1, .int (iI rn)), (2, .int (iI (bz b)))] → W p l e (rmk 3 68) s m (List.toArray [.ref y, .int (iI rn), .int (iI (bz b))]) below meth c H locs 0 0 (MX X below (List.toArray [.ref y, .int (iI rn), .int (iI (bz b))]) s 0 0 (some (.int (iI (wrL σ rn b (σ 0).toNat)))) (fun w' => w' (y + 309) = some (.inr (0, [.ref (y + 310), .int (iI (wrL σ rn b (σ 0).toNat))])) ∧ w' (y + 310) = some (aZ X 400 (wrF ob σ rn b (σ 0).toNat)) ∧ ∀ q : Nat, q ≠ y + 309 → q ≠ y + 310 → w' q = w q)) (F0 m 79 ls [.int (iI (wchr (cellS σ (wcol σ b i) rn))), .ref (y + 309)]) := by
            intro  H locs ls  hW hS hl
            refine cl_RX8_406 (As := [.int (iI (wchr (cellS σ (wcol σ b i) rn)))]) (rest := []) F hl (c_X0_addByte l X wz9 (y + 309) (y + 310) (wrL σ rn b i.toNat) (wrF ob σ rn b i.toNat) (wchr (cellS σ (wcol σ b i) rn)) hO15_0 hA15_0 (by omega) (by omega)) hW hS hO15_0 rfl rfl ⟨Nat.le_of_ble_eq_true rfl, Nat.le_of_ble_eq_true rfl⟩ (Nat.le_of_ble_eq_true rfl) ⟨Nat.zero_le _, Nat.zero_le _⟩ dX8_writeRow_79 (fun w9 H locs hp10 hW hS => ?_)
            obtain ⟨ho11, ha12, hn13⟩ := hp10
            have hY := (hn13 _ (by omega) (by omega)).trans hY
            have hO := (hn13 _ (by omega) (by omega)).trans hO
            have hg1 := (hn13 _ (by omega) (by omega)).trans hg1
            have hL := hL.mv (w2 := w9) (fun q h1 h2 => hn13 q (by omega) (by omega))
            refine lv_aload_n F.1 F.2.1 dX8_writeRow_82 rfl (lv_at hl 3 rfl) ?_
            refine gf_RX8_10 F hW hY rfl dX8_writeRow_83 ?_
            refine lv_iload_n F.1 F.2.1 dX8_writeRow_86 rfl (lv_at hl 4 rfl) ?_
            refine cl_RX8_409 (As := [.int (iI rn)]) (rest := []) F hl (c_X5_isSeen l X w9 (y + 1) σ rn hL.1 hwf (by omega)) hW hS hO rfl rfl ⟨Nat.le_of_ble_eq_true rfl, Nat.le_of_ble_eq_true rfl⟩ (Nat.le_of_ble_eq_true rfl) ⟨Nat.zero_le _, Nat.zero_le _⟩ dX8_writeRow_87 (fun w1 H locs hp14 hW hS => ?_)
            rw [hp14] at hW; clear hp14; clear w1
            refine h_ifeqb (tgt := 115) F dX8_writeRow_90 (by decide) (fun c15 => ?_) (fun c15 => ?_)
            · have hfl : wflg σ rn b i = false := by unfold wflg; rw [c15]; first | rfl | exact Bool.and_false _
              have hLs : wrL σ rn b (i + 1).toNat = wrL σ rn b i.toNat + 1 := by rw [wrL_s _ _ _ (by omega), hfl]; exact Int.add_zero _
              have hFs := wrF_f ob σ rn b (i := i) (by omega) hfl
              refine h_iinc (k := 2) (a := i) (lv' := [(3, .int (iI (i + 1))), (5, .int (iI (cellS σ (wcol σ b i) rn))), (4, .int (iI (wcol σ b i))), (0, .ref y), (1, .int (iI rn)), (2, .int (iI (bz b)))]) F dX8_writeRow_115 hl rfl (by decide) rfl (fun ls hl => ?_)
              refine h_goto (tgt := 15) F dX8_writeRow_118 (by decide) ?_
              have eq16 : ((i + 1) : Int) = i + 1 := by first | rfl | omega | simp
              exact ih15 (i + 1)  (by omega) (by omega) w9 (by rw [hLs]; exact ho11) (by rw [show (wrF ob σ rn b (i + 1).toNat : Int → Int) = up (wrF ob σ rn b i.toNat) (wrL σ rn b i.toNat) (wchr (cellS σ (wcol σ b i) rn)) from hFs]; exact ha12) (fun q h09 h19 => by rw [hn13 q (by omega) (by omega), hF15 q (by omega) (by omega)])  _ _ ls hW hS (by rw [eq16]; exact lv_sub hl [0, 3, 4, 5] rfl)
            · refine lv_aload_n F.1 F.2.1 dX8_writeRow_93 rfl (lv_at hl 3 rfl) ?_
              refine gf_RX8_10 F hW hY rfl dX8_writeRow_94 ?_
              refine lv_iload F.1 F.2.1 dX8_writeRow_97 (lv_at hl 1 rfl) ?_
              refine lv_iload_n F.1 F.2.1 dX8_writeRow_99 rfl (lv_at hl 4 rfl) ?_
              refine cl_RX8_412 (As := [.int (iI (wcol σ b i)), .int (iI rn)]) (rest := []) F hl (c_X5_isMistake l X w9 (y + 1) σ (wcol σ b i) rn hL (by omega)) hW hS hO rfl rfl ⟨Nat.le_of_ble_eq_true rfl, Nat.le_of_ble_eq_true rfl⟩ (Nat.le_of_ble_eq_true rfl) ⟨Nat.zero_le _, Nat.zero_le _⟩ dX8_writeRow_100 (fun w1 H locs hp17 hW hS => ?_)
              rw [hp17] at hW; clear hp17; clear w1
              refine h_ifeqb (tgt := 115) F dX8_writeRow_103 (by decide) (fun c18 => ?_) (fun c18 => ?_)
              · have hfl : wflg σ rn b i = false := by unfold wflg; rw [c18]; first | rfl | exact Bool.and_false _
                have hLs : wrL σ rn b (i + 1).toNat = wrL σ rn b i.toNat + 1 := by rw [wrL_s _ _ _ (by omega), hfl]; exact Int.add_zero _
                have hFs := wrF_f ob σ rn b (i := i) (by omega) hfl
                refine h_iinc (k := 2) (a := i) (lv' := [(3, .int (iI (i + 1))), (5, .int (iI (cellS σ (wcol σ b i) rn))), (4, .int (iI (wcol σ b i))), (0, .ref y), (1, .int (iI rn)), (2, .int (iI (bz b)))]) F dX8_writeRow_115 hl rfl (by decide) rfl (fun ls hl => ?_)
                refine h_goto (tgt := 15) F dX8_writeRow_118 (by decide) ?_
                have eq19 : ((i + 1) : Int) = i + 1 := by first | rfl | omega | simp
                exact ih15 (i + 1)  (by omega) (by omega) w9 (by rw [hLs]; exact ho11) (by rw [show (wrF ob σ rn b (i + 1).toNat : Int → Int) = up (wrF ob σ rn b i.toNat) (wrL σ rn b i.toNat) (wchr (cellS σ (wcol σ b i) rn)) from hFs]; exact ha12) (fun q h09 h19 => by rw [hn13 q (by omega) (by omega), hF15 q (by omega) (by omega)])  _ _ ls hW hS (by rw [eq19]; exact lv_sub hl [0, 3, 4, 5] rfl)
              · have hfl : wflg σ rn b i = true := by unfold wflg; rw [‹seenS σ rn = true›, ‹misS σ (wcol σ b i) rn = true›]; rfl
                have hLs : wrL σ rn b (i + 1).toNat = wrL σ rn b i.toNat + 1 + 1 := by rw [wrL_s _ _ _ (by omega), hfl]; rfl
                have hFs := wrF_t ob σ rn b (i := i) (by omega) hfl
                refine lv_aload_n F.1 F.2.1 dX8_writeRow_106 rfl (lv_at hl 3 rfl) ?_
                refine gf_RX8_53 F hW hY rfl dX8_writeRow_107 ?_
                refine h_bipush F dX8_writeRow_110 rfl ?_
                refine cl_RX8_406 (As := [.int (iI 33)]) (rest := []) F hl (c_X0_addByte l X w9 (y + 309) (y + 310) ((wrL σ rn b i.toNat) + 1) (up (wrF ob σ rn b i.toNat) (wrL σ rn b i.toNat) (wchr (cellS σ (wcol σ b i) rn))) 33 ho11 ha12 (by omega) (by omega)) hW hS ho11 rfl rfl ⟨Nat.le_of_ble_eq_true rfl, Nat.le_of_ble_eq_true rfl⟩ (Nat.le_of_ble_eq_true rfl) ⟨Nat.zero_le _, Nat.zero_le _⟩ dX8_writeRow_112 (fun w20 H locs hp21 hW hS => ?_)
                obtain ⟨ho22, ha23, hn24⟩ := hp21
                have hY := (hn24 _ (by omega) (by omega)).trans hY
                have hO := (hn24 _ (by omega) (by omega)).trans hO
                have hg1 := (hn24 _ (by omega) (by omega)).trans hg1
                have hL := hL.mv (w2 := w20) (fun q h1 h2 => hn24 q (by omega) (by omega))
                refine h_iinc (k := 2) (a := i) (lv' := [(3, .int (iI (i + 1))), (5, .int (iI (cellS σ (wcol σ b i) rn))), (4, .int (iI (wcol σ b i))), (0, .ref y), (1, .int (iI rn)), (2, .int (iI (bz b)))]) F dX8_writeRow_115 hl rfl (by decide) rfl (fun ls hl => ?_)
                refine h_goto (tgt := 15) F dX8_writeRow_118 (by decide) ?_
                have eq25 : ((i + 1) : Int) = i + 1 := by first | rfl | omega | simp
                exact ih15 (i + 1)  (by omega) (by omega) w20 (by rw [hLs]; exact ho22) (by rw [show (wrF ob σ rn b (i + 1).toNat : Int → Int) = up (up (wrF ob σ rn b i.toNat) (wrL σ rn b i.toNat) (wchr (cellS σ (wcol σ b i) rn))) ((wrL σ rn b i.toNat) + 1) 33 from hFs]; exact ha23) (fun q h09 h19 => by rw [hn24 q (by omega) (by omega), hn13 q (by omega) (by omega), hF15 q (by omega) (by omega)])  _ _ ls hW hS (by rw [eq25]; exact lv_sub hl [0, 3, 4, 5] rfl)
          refine lv_iload F.1 F.2.1 dX8_writeRow_63 (lv_at hl 0 rfl) ?_
          refine h_iconst F dX8_writeRow_65 ?_
          refine h_icne (tgt := 74) F dX8_writeRow_66 (by decide) (by omega) (fun c26 => ?_) (fun c26 => ?_)
          · refine h_bipush F dX8_writeRow_74 rfl ?_
            refine lv_iload F.1 F.2.1 dX8_writeRow_76 (lv_at hl 0 rfl) ?_
            refine h_iadd (a := 48) (b := cellS σ (wcol σ b i) rn) F dX8_writeRow_78 ?_
            refine h_top (show (48 + (cellS σ (wcol σ b i) rn) : Int) = wchr (cellS σ (wcol σ b i) rn) from by unfold wchr; first | rw [if_pos (by omega)] | rw [if_neg (by omega)]) ?_
            exact join79  _ _ ls  hW hS (lv_sub hl [0, 1, 2, 3, 4, 5] rfl)
          · refine h_bipush F dX8_writeRow_69 rfl ?_
            refine h_goto (tgt := 79) F dX8_writeRow_71 (by decide) ?_
            refine h_top (show (46 : Int) = wchr (cellS σ (wcol σ b i) rn) from by unfold wchr; first | rw [if_pos (by omega)] | rw [if_neg (by omega)]) ?_
            exact join79  _ _ ls  hW hS (lv_sub hl [0, 1, 2, 3, 4, 5] rfl)
        refine lv_iload_n F.1 F.2.1 dX8_writeRow_26 rfl (lv_at hl 3 rfl) ?_
        refine h_ifeqb (tgt := 41) F dX8_writeRow_27 (by decide) (fun c27 => ?_) (fun c27 => ?_)
        · refine lv_iload_n F.1 F.2.1 dX8_writeRow_41 rfl (lv_at hl 0 rfl) ?_
          refine h_top (show (i : Int) = wcol σ b i from by unfold wcol; first | (rw [‹b = true›]; rfl) | (rw [‹b = false›]; rfl)) ?_
          exact join42  _ _ ls  hW hS (lv_sub hl [0, 1, 2, 3] rfl)
        · refine lv_aload_n F.1 F.2.1 dX8_writeRow_30 rfl (lv_at hl 1 rfl) ?_
          refine gf_RX8_10 F hW hY rfl dX8_writeRow_31 ?_
          refine lv_iload_n F.1 F.2.1 dX8_writeRow_34 rfl (lv_at hl 0 rfl) ?_
          refine cl_RX8_403 (As := [.int (iI i)]) (rest := []) F hl (c_X5_turned l X wz9 (y + 1) σ i hL.1 hwf) hW hS hO rfl rfl ⟨Nat.le_of_ble_eq_true rfl, Nat.le_of_ble_eq_true rfl⟩ (Nat.le_of_ble_eq_true rfl) ⟨Nat.zero_le _, Nat.zero_le _⟩ dX8_writeRow_35 (fun w1 H locs hp28 hW hS => ?_)
          rw [hp28] at hW; clear hp28; clear w1
          refine h_goto (tgt := 42) F dX8_writeRow_38 (by decide) ?_
          refine h_top (show (turnS σ i : Int) = wcol σ b i from by unfold wcol; first | (rw [‹b = true›]; rfl) | (rw [‹b = false›]; rfl)) ?_
          exact join42  _ _ ls  hW hS (lv_sub hl [0, 1, 2, 3] rfl)
  exact loop15 ((σ 0 - 0) + 1 : Int).toNat 0  (by omega) (by omega) w2 (by rw [show wrL σ rn b (0 : Int).toNat = 0 from rfl]; exact ho4) (by rw [show (wrF ob σ rn b (0 : Int).toNat : Int → Int) = ob from rfl]; exact hWT) (fun q _ _ => rfl)  _ _ ls hW hS (lv_sub hl [0, 1, 2, 3] rfl)
set_option maxHeartbeats 4000000 in
set_option maxRecDepth 100000 in
theorem c_X8_output (l : Launch) (X : Cx) (w : Wo) (y : Nat) (su : Int) (M : Int) (ob : Int → Int) (ix : Int) (hY : clO X w y su) (hWB : w (y + 309) = some (.inr (0, [.ref (y + 310), .int (iI M)]))) (hWT : w (y + 310) = some (aZ X 400 ob)) (hM : 0 ≤ M ∧ M ≤ 80) (hix : -2147483648 ≤ ix ∧ ix < 2147483648) : CM l X yX8_output cX8_output 2 (some (.int)) (rmk 1 21) [.ref y, .int (iI ix)] w (some (.int (iI (byS ob M ix)))) (fun w' => w' = w) := by
  refine CM.of (lv := [(0, .ref y), (1, .int (iI ix))]) (by decide) (Nat.le_of_ble_eq_true rfl) rfl (fun p e s m below meth c ls F hr hlk hin hW hS hl => ?_)
  have hZ0 := hW.2.2
  have hB9 := hW.1.2
  clear hin
  unfold clO at hY
  refine lv_aload_n F.1 F.2.1 dX8_output_0 rfl (lv_at hl 0 rfl) ?_
  refine gf_RX8_53 F hW hY rfl dX8_output_1 ?_
  refine lv_iload_n F.1 F.2.1 dX8_output_4 rfl (lv_at hl 1 rfl) ?_
  refine cl_RX8_419 (As := [.int (iI ix)]) (rest := []) F hl (c_X0_byteAt l X w (y + 309) (y + 310) M ob ix hWB hWT (by omega) (by omega)) hW hS hWB rfl rfl ⟨Nat.le_of_ble_eq_true rfl, Nat.le_of_ble_eq_true rfl⟩ (Nat.le_of_ble_eq_true rfl) ⟨Nat.zero_le _, Nat.zero_le _⟩ dX8_output_5 (fun w1 H locs hp1 hW hS => ?_)
  rw [hp1] at hW; clear hp1; clear w1
  exact h_ireti F hr hlk hW hS rfl dX8_output_8
