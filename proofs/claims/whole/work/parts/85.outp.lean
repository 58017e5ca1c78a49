set_option maxHeartbeats 4000000 in
set_option maxRecDepth 100000 in
theorem c_X8_writeRow (l : Launch) (X : Cx) (w : Wo) (y : Nat) (su : Int) (σ : Int → Int) (M : Int) (ob : Int → Int) (rn : Int) (b : Bool) (hY : clO X w y su) (hL : loomAt X w (y + 1) σ) (hWB : w (y + 309) = some (.inr (0, [.ref (y + 310), .int (iI M)]))) (hWT : w (y + 310) = some (aZ X 400 ob)) (hr : 0 ≤ rn ∧ rn < σ 1) : CM l X yX8_writeRow cX8_writeRow 6 (some (.int)) (rmk 3 68) [.ref y, .int (iI rn), .int (iI (bz b))] w (some (.int (iI (wrL σ rn b (σ 0).toNat)))) (fun w' => w' (y + 309) = some (.inr (0, [.ref (y + 310), .int (iI (wrL σ rn b (σ 0).toNat))])) ∧ w' (y + 310) = some (aZ X 400 (wrF ob σ rn b (σ 0).toNat)) ∧ ∀ q : Nat, q ≠ y + 309 → q ≠ y + 310 → w' q = w q) := by
  refine CM.of (lv := [(0, .ref y), (1, .int (iI rn)), (2, .int (iI (bz b)))]) (by decide) (Nat.le_of_ble_eq_true rfl) rfl (fun p e s m below meth c ls F hr hlk hin hW hS hl => ?_)
  have hZ0 := hW.2.2
  have hB9 := hW.1.2
  clear hin
  unfold clO at hY
  have hO := hL.1.o
  have hA := hL.1
  have hwf := hL.2.2
  have hF := hwf.1
  unfold WF0 at hF
  have hg1 := hL.1.g1
  refine lv_aload_n F.1 F.2.1 dX8_writeRow_0 rfl (lv_at hl 0 rfl) ?_
  refine lv_iload_n F.1 F.2.1 dX8_writeRow_1 rfl (lv_at hl 1 rfl) ?_
  refine cl_RX8_283 (As := [.int (iI rn)]) (rest := []) F hl (c_X8_checkRow l X w y su σ rn hY hL (by omega)) hW hS hY rfl rfl ⟨Nat.le_of_ble_eq_true rfl, Nat.le_of_ble_eq_true rfl⟩ (Nat.le_of_ble_eq_true rfl) ⟨Nat.zero_le _, Nat.zero_le _⟩ dX8_writeRow_2 (fun w1 H locs hp1 hW hS => ?_)
  rw [hp1] at hW; clear hp1; clear w1
  refine lv_aload_n F.1 F.2.1 dX8_writeRow_5 rfl (lv_at hl 0 rfl) ?_
  refine gf_RX8_53 F hW hY rfl dX8_writeRow_6 ?_
  refine h_iconst F dX8_writeRow_9 ?_
  refine cl_RX8_101 (As := [.int (iI 0)]) (rest := []) F hl (c_X0_cutTo l X w (y + 309) (y + 310) M ob 0 hWB hWT (by omega)) hW hS hWB rfl rfl ⟨Nat.le_of_ble_eq_true rfl, Nat.le_of_ble_eq_true rfl⟩ (Nat.le_of_ble_eq_true rfl) ⟨Nat.zero_le _, Nat.zero_le _⟩ dX8_writeRow_10 (fun w2 H locs hp3 hW hS => ?_)
  obtain ⟨ho4, hn5⟩ := hp3
  have hY := (hn5 _ (by omega)).trans hY
  have hO := (hn5 _ (by omega)).trans hO
  have hg1 := (hn5 _ (by omega)).trans hg1
  have hWT := (hn5 _ (by omega)).trans hWT
  have hL := hL.mv (w2 := w2) (fun q h1 h2 => hn5 q (by omega))
  refine h_iconst F dX8_writeRow_13 ?_
  refine lv_istore_n (lv' := [(3, .int (iI 0)), (0, .ref y), (1, .int (iI rn)), (2, .int (iI (bz b)))]) F.1 F.2.1 dX8_writeRow_14 rfl hl (by decide) rfl (fun ls hl => ?_)
  have loop15 : ∀ (n9 : Nat) (i : Int), (hrg : 0 ≤ i ∧ i ≤ σ 0) → (hms : σ 0 - i < (n9 : Int)) → (wz9 : Wo) → (hO15_0 : wz9 (y + 309) = some (.inr (0, [.ref (y + 310), .int (iI (wrL σ rn b i.toNat))]))) → (hA15_0 : wz9 (y + 310) = some (aZ X 400 (wrF ob σ rn b i.toNat))) → (hF15 : ∀ q : Nat, q ≠ y + 309 → q ≠ y + 310 → wz9 q = w2 q) → (H : Heap) → (locs : List Loc) → (ls : Array Slot) → Wd X wz9 s H → va_S (cxA X) s.heap H locs → lv_has ls 6 [(3, .int (iI i)), (0, .ref y), (1, .int (iI rn)), (2, .int (iI (bz b)))] → W p l e (rmk 3 68) s m (List.toArray [.ref y, .int (iI rn), .int (iI (bz b))]) below meth c H locs 0 0 (MX X below (List.toArray [.ref y, .int (iI rn), .int (iI (bz b))]) s 0 0 (some (.int (iI (wrL σ rn b (σ 0).toNat)))) (fun w' => w' (y + 309) = some (.inr (0, [.ref (y + 310), .int (iI (wrL σ rn b (σ 0).toNat))])) ∧ w' (y + 310) = some (aZ X 400 (wrF ob σ rn b (σ 0).toNat)) ∧ ∀ q : Nat, q ≠ y + 309 → q ≠ y + 310 → w' q = w q)) (F0 m 15 ls []) := by
    intro n9
    induction n9 with
    | zero => intro i  hrg hms; exfalso; omega
    | succ n9 ih15 =>
      intro i  hrg hms wz9 hO15_0 hA15_0 hF15  H locs ls hW hS hl
      have hY := (hF15 _ (by omega) (by omega)).trans hY
      have hO := (hF15 _ (by omega) (by omega)).trans hO
      have hg1 := (hF15 _ (by omega) (by omega)).trans hg1
      have hL := hL.mv (w2 := wz9) (fun q h1 h2 => hF15 q (by omega) (by omega))
      have hwl := wrL_r σ rn b i.toNat
      refine lv_iload_n F.1 F.2.1 dX8_writeRow_15 rfl (lv_at hl 0 rfl) ?_
      refine lv_aload_n F.1 F.2.1 dX8_writeRow_16 rfl (lv_at hl 1 rfl) ?_
      refine gf_RX8_10 F hW hY rfl dX8_writeRow_17 ?_
      refine gf_RX8_122 F hW hO rfl dX8_writeRow_20 ?_
      refine h_icge (tgt := 121) F dX8_writeRow_23 (by decide) (by omega) (fun c6 => ?_) (fun c6 => ?_)
      · refine lv_aload_n F.1 F.2.1 dX8_writeRow_121 rfl (lv_at hl 1 rfl) ?_
        refine gf_RX8_53 F hW hY rfl dX8_writeRow_122 ?_
        refine cl_RX8_81 (As := []) (rest := []) F hl (c_X0_size l X wz9 (y + 309) (y + 310) (wrL σ rn b i.toNat) (wrF ob σ rn b i.toNat) hO15_0 hA15_0) hW hS hO15_0 rfl rfl ⟨Nat.le_of_ble_eq_true rfl, Nat.le_of_ble_eq_true rfl⟩ (Nat.le_of_ble_eq_true rfl) ⟨Nat.zero_le _, Nat.zero_le _⟩ dX8_writeRow_125 (fun w1 H locs hp7 hW hS => ?_)
        rw [hp7] at hW; clear hp7; clear w1
        refine h_top (show ((wrL σ rn b i.toNat) : Int) = wrL σ rn b (σ 0).toNat from by rw [show i = σ 0 by omega]) ?_
        exact h_ireti F hr hlk hW hS ⟨(by (rw [hO15_0]) <;> (rw [show i = σ 0 by omega])), (by (rw [hA15_0]) <;> (rw [show i = σ 0 by omega])), (fun q h09 h19 => by rw [hF15 q (by omega) (by omega), hn5 q (by omega)])⟩ dX8_writeRow_128
      · have join42 : ∀ (H : Heap) (locs : List Loc) (ls : Array Slot), Wd X wz9 s H → va_S (cxA X) s.heap H locs → lv_has ls 6 [(3, .int (iI i)), (0, .ref y), (1, .int (iI rn)), (2, .int (iI (bz b)))] → W p l e (rmk 3 68) s m (List.toArray [.ref y, .int (iI rn), .int (iI (bz b))]) below meth c H locs 0 0 (MX X below (List.toArray [.ref y, .int (iI rn), .int (iI (bz b))]) s 0 0 (some (.int (iI (wrL σ rn b (σ 0).toNat)))) (fun w' => w' (y + 309) = some (.inr (0, [.ref (y + 310), .int (iI (wrL σ rn b (σ 0).toNat))])) ∧ w' (y + 310) = some (aZ X 400 (wrF ob σ rn b (σ 0).toNat)) ∧ ∀ q : Nat, q ≠ y + 309 → q ≠ y + 310 → w' q = w q)) (F0 m 42 ls [.int (iI (wcol σ b i))]) := by
          intro  H locs ls  hW hS hl
          refine lv_istore (lv' := [(4, .int (iI (wcol σ b i))), (3, .int (iI i)), (0, .ref y), (1, .int (iI rn)), (2, .int (iI (bz b)))]) F.1 F.2.1 dX8_writeRow_42 hl (by decide) rfl (fun ls hl => ?_)
          have hcol : 0 ≤ wcol σ b i ∧ wcol σ b i < σ 0 := by unfold wcol turnS; split <;> omega
          have hce := hwf.2.2.2.1 (wcol σ b i) rn (by omega) (by omega) (by omega) (by omega)
          refine lv_aload_n F.1 F.2.1 dX8_writeRow_44 rfl (lv_at hl 2 rfl) ?_
          refine gf_RX8_10 F hW hY rfl dX8_writeRow_45 ?_
          refine gf_RX8_232 F hW hO rfl dX8_writeRow_48 ?_
          refine lv_iload F.1 F.2.1 dX8_writeRow_51 (lv_at hl 0 rfl) ?_
          refine lv_iload_n F.1 F.2.1 dX8_writeRow_53 rfl (lv_at hl 3 rfl) ?_
          refine cl_RX8_236 (As := [.int (iI (wcol σ b i)), .int (iI rn)]) (rest := []) F hl (c_get_cl l X wz9 (y + 1) σ (wcol σ b i) rn hL.1 hwf (by omega)) hW hS hg1 rfl rfl ⟨Nat.le_of_ble_eq_true rfl, Nat.le_of_ble_eq_true rfl⟩ (Nat.le_of_ble_eq_true rfl) ⟨Nat.zero_le _, Nat.zero_le _⟩ dX8_writeRow_54 (fun w1 H locs hp8 hW hS => ?_)
          rw [hp8] at hW; clear hp8; clear w1
          refine lv_istore (lv' := [(5, .int (iI (cellS σ (wcol σ b i) rn))), (4, .int (iI (wcol σ b i))), (3, .int (iI i)), (0, .ref y), (1, .int (iI rn)), (2, .int (iI (bz b)))]) F.1 F.2.1 dX8_writeRow_57 hl (by decide) rfl (fun ls hl => ?_)
          refine lv_aload_n F.1 F.2.1 dX8_writeRow_59 rfl (lv_at hl 3 rfl) ?_
          refine gf_RX8_53 F hW hY rfl dX8_writeRow_60 ?_
          have join79 : ∀ (H : Heap) (locs : List Loc) (ls : Array Slot), Wd X wz9 s H → va_S (cxA X) s.heap H locs → lv_has ls 6 [(5, .int (iI (cellS σ (wcol σ b i) rn))), (4, .int (iI (wcol σ b i))), (3, .int (iI i)), (0, .ref y), (1, .int (iI rn)), (2, .int (iI (bz b)))] → W p l e (rmk 3 68) s m (List.toArray [.ref y, .int (iI rn), .int (iI (bz b))]) below meth c H locs 0 0 (MX X below (List.toArray [.ref y, .int (iI rn), .int (iI (bz b))]) s 0 0 (some (.int (iI (wrL σ rn b (σ 0).toNat)))) (fun w' => w' (y + 309) = some (.inr (0, [.ref (y + 310), .int (iI (wrL σ rn b (σ 0).toNat))])) ∧ w' (y + 310) = some (aZ X 400 (wrF ob σ rn b (σ 0).toNat)) ∧ ∀ q : Nat, q ≠ y + 309 → q ≠ y + 310 → w' q = w q)) (F0 m 79 ls [.int (iI (wchr (cellS σ (wcol σ b i) rn))), .ref (y + 309)]) := by
            intro  H locs ls  hW hS hl
            refine cl_RX8_406 (As := [.int (iI (wchr (cellS σ (wcol σ b i) rn)))]) (rest := []) F hl (c_X0_addByte l X wz9 (y + 309) (y + 310) (wrL σ rn b i.toNat) (wrF ob σ rn b i.toNat) (wchr (cellS σ (wcol σ b i) rn)) hO15_0 hA15_0 (by omega) (by omega)) hW hS hO15_0 rfl rfl ⟨Nat.le_of_ble_eq_true rfl, Nat.le_of_ble_eq_true rfl⟩ (Nat.le_of_ble_eq_true rfl) ⟨Nat.zero_le _, Nat.zero_le _⟩ dX8_writeRow_79 (fun w9 H locs hp10 hW hS => ?_)
            obtain ⟨ho11, ha12, hn13⟩ := hp10
            have hY := (hn13 _ (by omega) (by omega)).trans hY
            have hO := (hn13 _ (by omega) (by omega)).trans hO
            have hg1 := (hn13 _ (by omega) (by omega)).trans hg1
            have hL := hL.mv (w2 := w9) (fun q h1 h2 => hn13 q (by omega) (by omega))
            refine lv_aload_n F.1 F.2.1 dX8_writeRow_82 rfl (lv_at hl 3 rfl) ?_
            refine gf_RX8_10 F hW hY rfl dX8_writeRow_83 ?_
            refine lv_iload_n F.1 F.2.1 dX8_writeRow_86 rfl (lv_at hl 4 rfl) ?_
            refine cl_RX8_409 (As := [.int (iI rn)]) (rest := []) F hl (c_X5_isSeen l X w9 (y + 1) σ rn hL.1 hwf (by omega)) hW hS hO rfl rfl ⟨Nat.le_of_ble_eq_true rfl, Nat.le_of_ble_eq_true rfl⟩ (Nat.le_of_ble_eq_true rfl) ⟨Nat.zero_le _, Nat.zero_le _⟩ dX8_writeRow_87 (fun w1 H locs hp14 hW hS => ?_)
            rw [hp14] at hW; clear hp14; clear w1
            refine h_ifeqb (tgt := 115) F dX8_writeRow_90 (by decide) (fun c15 => ?_) (fun c15 => ?_)
            · have hfl : wflg σ rn b i = false := by unfold wflg; rw [c15]; first | rfl | exact Bool.and_false _
              have hLs : wrL σ rn b (i + 1).toNat = wrL σ rn b i.toNat + 1 := by rw [wrL_s _ _ _ (by omega), hfl]; exact Int.add_zero _
              have hFs := wrF_f ob σ rn b (i := i) (by omega) hfl
              refine h_iinc (k := 2) (a := i) (lv' := [(3, .int (iI (i + 1))), (5, .int (iI (cellS σ (wcol σ b i) rn))), (4, .int (iI (wcol σ b i))), (0, .ref y), (1, .int (iI rn)), (2, .int (iI (bz b)))]) F dX8_writeRow_115 hl rfl (by decide) rfl (fun ls hl => ?_)
              refine h_goto (tgt := 15) F dX8_writeRow_118 (by decide) ?_
              have eq16 : ((i + 1) : Int) = i + 1 := by first | rfl | omega | simp
              exact ih15 (i + 1)  (by omega) (by omega) w9 (by rw [hLs]; exact ho11) (by rw [show (wrF ob σ rn b (i + 1).toNat : Int → Int) = up (wrF ob σ rn b i.toNat) (wrL σ rn b i.toNat) (wchr (cellS σ (wcol σ b i) rn)) from hFs]; exact ha12) (fun q h09 h19 => by rw [hn13 q (by omega) (by omega), hF15 q (by omega) (by omega)])  _ _ ls hW hS (by rw [eq16]; exact lv_sub hl [0, 3, 4, 5] rfl)
            · refine lv_aload_n F.1 F.2.1 dX8_writeRow_93 rfl (lv_at hl 3 rfl) ?_
              refine gf_RX8_10 F hW hY rfl dX8_writeRow_94 ?_
              refine lv_iload F.1 F.2.1 dX8_writeRow_97 (lv_at hl 1 rfl) ?_
              refine lv_iload_n F.1 F.2.1 dX8_writeRow_99 rfl (lv_at hl 4 rfl) ?_
              refine cl_RX8_412 (As := [.int (iI (wcol σ b i)), .int (iI rn)]) (rest := []) F hl (c_X5_isMistake l X w9 (y + 1) σ (wcol σ b i) rn hL (by omega)) hW hS hO rfl rfl ⟨Nat.le_of_ble_eq_true rfl, Nat.le_of_ble_eq_true rfl⟩ (Nat.le_of_ble_eq_true rfl) ⟨Nat.zero_le _, Nat.zero_le _⟩ dX8_writeRow_100 (fun w1 H locs hp17 hW hS => ?_)
              rw [hp17] at hW; clear hp17; clear w1
              refine h_ifeqb (tgt := 115) F dX8_writeRow_103 (by decide) (fun c18 => ?_) (fun c18 => ?_)
              · have hfl : wflg σ rn b i = false := by unfold wflg; rw [c18]; first | rfl | exact Bool.and_false _
                have hLs : wrL σ rn b (i + 1).toNat = wrL σ rn b i.toNat + 1 := by rw [wrL_s _ _ _ (by omega), hfl]; exact Int.add_zero _
                have hFs := wrF_f ob σ rn b (i := i) (by omega) hfl
                refine h_iinc (k := 2) (a := i) (lv' := [(3, .int (iI (i + 1))), (5, .int (iI (cellS σ (wcol σ b i) rn))), (4, .int (iI (wcol σ b i))), (0, .ref y), (1, .int (iI rn)), (2, .int (iI (bz b)))]) F dX8_writeRow_115 hl rfl (by decide) rfl (fun ls hl => ?_)
                refine h_goto (tgt := 15) F dX8_writeRow_118 (by decide) ?_
                have eq19 : ((i + 1) : Int) = i + 1 := by first | rfl | omega | simp
                exact ih15 (i + 1)  (by omega) (by omega) w9 (by rw [hLs]; exact ho11) (by rw [show (wrF ob σ rn b (i + 1).toNat : Int → Int) = up (wrF ob σ rn b i.toNat) (wrL σ rn b i.toNat) (wchr (cellS σ (wcol σ b i) rn)) from hFs]; exact ha12) (fun q h09 h19 => by rw [hn13 q (by omega) (by omega), hF15 q (by omega) (by omega)])  _ _ ls hW hS (by rw [eq19]; exact lv_sub hl [0, 3, 4, 5] rfl)
              · have hfl : wflg σ rn b i = true := by unfold wflg; rw [‹seenS σ rn = true›, ‹misS σ (wcol σ b i) rn = true›]; rfl
                have hLs : wrL σ rn b (i + 1).toNat = wrL σ rn b i.toNat + 1 + 1 := by rw [wrL_s _ _ _ (by omega), hfl]; rfl
                have hFs := wrF_t ob σ rn b (i := i) (by omega) hfl
                refine lv_aload_n F.1 F.2.1 dX8_writeRow_106 rfl (lv_at hl 3 rfl) ?_
                refine gf_RX8_53 F hW hY rfl dX8_writeRow_107 ?_
                refine h_bipush F dX8_writeRow_110 rfl ?_
                refine cl_RX8_406 (As := [.int (iI 33)]) (rest := []) F hl (c_X0_addByte l X w9 (y + 309) (y + 310) ((wrL σ rn b i.toNat) + 1) (up (wrF ob σ rn b i.toNat) (wrL σ rn b i.toNat) (wchr (cellS σ (wcol σ b i) rn))) 33 ho11 ha12 (by omega) (by omega)) hW hS ho11 rfl rfl ⟨Nat.le_of_ble_eq_true rfl, Nat.le_of_ble_eq_true rfl⟩ (Nat.le_of_ble_eq_true rfl) ⟨Nat.zero_le _, Nat.zero_le _⟩ dX8_writeRow_112 (fun w20 H locs hp21 hW hS => ?_)
                obtain ⟨ho22, ha23, hn24⟩ := hp21
                have hY := (hn24 _ (by omega) (by omega)).trans hY
                have hO := (hn24 _ (by omega) (by omega)).trans hO
                have hg1 := (hn24 _ (by omega) (by omega)).trans hg1
                have hL := hL.mv (w2 := w20) (fun q h1 h2 => hn24 q (by omega) (by omega))
                refine h_iinc (k := 2) (a := i) (lv' := [(3, .int (iI (i + 1))), (5, .int (iI (cellS σ (wcol σ b i) rn))), (4, .int (iI (wcol σ b i))), (0, .ref y), (1, .int (iI rn)), (2, .int (iI (bz b)))]) F dX8_writeRow_115 hl rfl (by decide) rfl (fun ls hl => ?_)
                refine h_goto (tgt := 15) F dX8_writeRow_118 (by decide) ?_
                have eq25 : ((i + 1) : Int) = i + 1 := by first | rfl | omega | simp
                exact ih15 (i + 1)  (by omega) (by omega) w20 (by rw [hLs]; exact ho22) (by rw [show (wrF ob σ rn b (i + 1).toNat : Int → Int) = up (up (wrF ob σ rn b i.toNat) (wrL σ rn b i.toNat) (wchr (cellS σ (wcol σ b i) rn))) ((wrL σ rn b i.toNat) + 1) 33 from hFs]; exact ha23) (fun q h09 h19 => by rw [hn24 q (by omega) (by omega), hn13 q (by omega) (by omega), hF15 q (by omega) (by omega)])  _ _ ls hW hS (by rw [eq25]; exact lv_sub hl [0, 3, 4, 5] rfl)
          refine lv_iload F.1 F.2.1 dX8_writeRow_63 (lv_at hl 0 rfl) ?_
          refine h_iconst F dX8_writeRow_65 ?_
          refine h_icne (tgt := 74) F dX8_writeRow_66 (by decide) (by omega) (fun c26 => ?_) (fun c26 => ?_)
          · refine h_bipush F dX8_writeRow_74 rfl ?_
            refine lv_iload F.1 F.2.1 dX8_writeRow_76 (lv_at hl 0 rfl) ?_
            refine h_iadd (a := 48) (b := cellS σ (wcol σ b i) rn) F dX8_writeRow_78 ?_
            refine h_top (show (48 + (cellS σ (wcol σ b i) rn) : Int) = wchr (cellS σ (wcol σ b i) rn) from by unfold wchr; first | rw [if_pos (by omega)] | rw [if_neg (by omega)]) ?_
            exact join79  _ _ ls  hW hS (lv_sub hl [0, 1, 2, 3, 4, 5] rfl)
          · refine h_bipush F dX8_writeRow_69 rfl ?_
            refine h_goto (tgt := 79) F dX8_writeRow_71 (by decide) ?_
            refine h_top (show (46 : Int) = wchr (cellS σ (wcol σ b i) rn) from by unfold wchr; first | rw [if_pos (by omega)] | rw [if_neg (by omega)]) ?_
            exact join79  _ _ ls  hW hS (lv_sub hl [0, 1, 2, 3, 4, 5] rfl)
        refine lv_iload_n F.1 F.2.1 dX8_writeRow_26 rfl (lv_at hl 3 rfl) ?_
        refine h_ifeqb (tgt := 41) F dX8_writeRow_27 (by decide) (fun c27 => ?_) (fun c27 => ?_)
        · refine lv_iload_n F.1 F.2.1 dX8_writeRow_41 rfl (lv_at hl 0 rfl) ?_
          refine h_top (show (i : Int) = wcol σ b i from by unfold wcol; first | (rw [‹b = true›]; rfl) | (rw [‹b = false›]; rfl)) ?_
          exact join42  _ _ ls  hW hS (lv_sub hl [0, 1, 2, 3] rfl)
        · refine lv_aload_n F.1 F.2.1 dX8_writeRow_30 rfl (lv_at hl 1 rfl) ?_
          refine gf_RX8_10 F hW hY rfl dX8_writeRow_31 ?_
          refine lv_iload_n F.1 F.2.1 dX8_writeRow_34 rfl (lv_at hl 0 rfl) ?_
          refine cl_RX8_403 (As := [.int (iI i)]) (rest := []) F hl (c_X5_turned l X wz9 (y + 1) σ i hL.1 hwf) hW hS hO rfl rfl ⟨Nat.le_of_ble_eq_true rfl, Nat.le_of_ble_eq_true rfl⟩ (Nat.le_of_ble_eq_true rfl) ⟨Nat.zero_le _, Nat.zero_le _⟩ dX8_writeRow_35 (fun w1 H locs hp28 hW hS => ?_)
          rw [hp28] at hW; clear hp28; clear w1
          refine h_goto (tgt := 42) F dX8_writeRow_38 (by decide) ?_
          refine h_top (show (turnS σ i : Int) = wcol σ b i from by unfold wcol; first | (rw [‹b = true›]; rfl) | (rw [‹b = false›]; rfl)) ?_
          exact join42  _ _ ls  hW hS (lv_sub hl [0, 1, 2, 3] rfl)
  exact loop15 ((σ 0 - 0) + 1 : Int).toNat 0  (by omega) (by omega) w2 (by rw [show wrL σ rn b (0 : Int).toNat = 0 from rfl]; exact ho4) (by rw [show (wrF ob σ rn b (0 : Int).toNat : Int → Int) = ob from rfl]; exact hWT) (fun q _ _ => rfl)  _ _ ls hW hS (lv_sub hl [0, 1, 2, 3] rfl)
set_option maxHeartbeats 4000000 in
set_option maxRecDepth 100000 in
theorem c_X8_signFor (l : Launch) (X : Cx) (w : Wo) (x : Int) (hx : -1 ≤ x ∧ x ≤ 26) : CM l X yX8_signFor cX8_signFor 1 (some (.int)) (rmk 0 0) [.int (iI x)] w (some (.int (iI (sgS x)))) (fun w' => w' = w) := by
  refine CM.of (lv := [(0, .int (iI x))]) (by decide) (Nat.le_of_ble_eq_true rfl) rfl (fun p e s m below meth c ls F hr hlk hin hW hS hl => ?_)
  have hZ0 := hW.2.2
  have hB9 := hW.1.2
  clear hin
  refine lv_iload_n F.1 F.2.1 dX8_signFor_0 rfl (lv_at hl 0 rfl) ?_
  refine h_iconst F dX8_signFor_1 ?_
  refine h_icne (tgt := 8) F dX8_signFor_2 (by decide) (by omega) (fun c1 => ?_) (fun c1 => ?_)
  · refine lv_iload_n F.1 F.2.1 dX8_signFor_8 rfl (lv_at hl 0 rfl) ?_
    refine h_ifne (tgt := 17) F dX8_signFor_9 (by decide) (by omega) (fun c2 => ?_) (fun c2 => ?_)
    · refine h_bipush F dX8_signFor_17 rfl ?_
      refine lv_iload_n F.1 F.2.1 dX8_signFor_19 rfl (lv_at hl 0 rfl) ?_
      refine h_iadd (a := 96) (b := x) F dX8_signFor_20 ?_
      refine h_top (show (96 + x : Int) = sgS x from by unfold sgS; (repeat first | rw [if_pos (by omega)] | rw [if_neg (by omega)]) <;> omega) ?_
      exact h_ireti F hr hlk hW hS rfl dX8_signFor_21
    · refine h_bipush F dX8_signFor_12 rfl ?_
      refine h_goto (tgt := 21) F dX8_signFor_14 (by decide) ?_
      refine h_top (show (63 : Int) = sgS x from by unfold sgS; (repeat first | rw [if_pos (by omega)] | rw [if_neg (by omega)]) <;> omega) ?_
      exact h_ireti F hr hlk hW hS rfl dX8_signFor_21
  · refine h_bipush F dX8_signFor_5 rfl ?_
    refine h_top (show (45 : Int) = sgS x from by unfold sgS; (repeat first | rw [if_pos (by omega)] | rw [if_neg (by omega)]) <;> omega) ?_
    exact h_ireti F hr hlk hW hS rfl dX8_signFor_7
set_option maxHeartbeats 4000000 in
set_option maxRecDepth 100000 in
theorem c_X8_writeCaption (l : Launch) (X : Cx) (w : Wo) (y : Nat) (su : Int) (σ : Int → Int) (M : Int) (ob : Int → Int) (k : Int) (hY : clO X w y su) (hL : loomAt X w (y + 1) σ) (hWB : w (y + 309) = some (.inr (0, [.ref (y + 310), .int (iI M)]))) (hWT : w (y + 310) = some (aZ X 400 ob)) (hk : 0 ≤ k ∧ k < σ 5) : CM l X yX8_writeCaption cX8_writeCaption 4 (some (.int)) (rmk 4 93) [.ref y, .int (iI k)] w (some (.int (iI (cp σ k 0)))) (fun w' => w' (y + 309) = some (.inr (0, [.ref (y + 310), .int (iI (cp σ k 0))])) ∧ w' (y + 310) = some (aZ X 400 (wcF ob σ k (cp σ k 0).toNat)) ∧ ∀ q : Nat, q ≠ y + 309 → q ≠ y + 310 → w' q = w q) := by
  refine CM.of (lv := [(0, .ref y), (1, .int (iI k))]) (by decide) (Nat.le_of_ble_eq_true rfl) rfl (fun p e s m below meth c ls F hr hlk hin hW hS hl => ?_)
  have hZ0 := hW.2.2
  have hB9 := hW.1.2
  clear hin
  unfold clO at hY
  have hO := hL.1.o
  have hA := hL.1
  have hwf := hL.2.2
  have hF := hwf.1
  unfold WF0 at hF
  have hcok := hwf.2.2.1 k (by omega) (by omega)
  have hcn := hcok.1
  refine lv_aload_n F.1 F.2.1 dX8_writeCaption_0 rfl (lv_at hl 0 rfl) ?_
  refine lv_iload_n F.1 F.2.1 dX8_writeCaption_1 rfl (lv_at hl 1 rfl) ?_
  refine cl_RX8_167 (As := [.int (iI k)]) (rest := []) F hl (c_X8_checkCaption l X w y su σ k hY hL (by omega)) hW hS hY rfl rfl ⟨Nat.le_of_ble_eq_true rfl, Nat.le_of_ble_eq_true rfl⟩ (Nat.le_of_ble_eq_true rfl) ⟨Nat.zero_le _, Nat.zero_le _⟩ dX8_writeCaption_2 (fun w1 H locs hp1 hW hS => ?_)
  rw [hp1] at hW; clear hp1; clear w1
  refine lv_aload_n F.1 F.2.1 dX8_writeCaption_5 rfl (lv_at hl 0 rfl) ?_
  refine gf_RX8_10 F hW hY rfl dX8_writeCaption_6 ?_
  refine lv_iload_n F.1 F.2.1 dX8_writeCaption_9 rfl (lv_at hl 1 rfl) ?_
  refine cl_RX8_170 (As := [.int (iI k)]) (rest := []) F hl (c_X5_captionAt l X w (y + 1) σ k hA hwf (by omega)) hW hS hO rfl rfl ⟨Nat.le_of_ble_eq_true rfl, Nat.le_of_ble_eq_true rfl⟩ (Nat.le_of_ble_eq_true rfl) ⟨Nat.zero_le _, Nat.zero_le _⟩ dX8_writeCaption_10 (fun w1 H locs hp2 hW hS => ?_)
  rw [hp2] at hW; clear hp2; clear w1
  have hqo := (hL.1.cap k (by omega) (by omega)).o
  refine lv_astore_n (lv' := [(2, .ref ((y + 1) + 9 + 2 * k.toNat)), (0, .ref y), (1, .int (iI k))]) F.1 F.2.1 dX8_writeCaption_13 rfl hl (by decide) rfl (fun ls hl => ?_)
  refine lv_aload_n F.1 F.2.1 dX8_writeCaption_14 rfl (lv_at hl 1 rfl) ?_
  refine gf_RX8_53 F hW hY rfl dX8_writeCaption_15 ?_
  refine h_iconst F dX8_writeCaption_18 ?_
  refine cl_RX8_101 (As := [.int (iI 0)]) (rest := []) F hl (c_X0_cutTo l X w (y + 309) (y + 310) M ob 0 hWB hWT (by omega)) hW hS hWB rfl rfl ⟨Nat.le_of_ble_eq_true rfl, Nat.le_of_ble_eq_true rfl⟩ (Nat.le_of_ble_eq_true rfl) ⟨Nat.zero_le _, Nat.zero_le _⟩ dX8_writeCaption_19 (fun w3 H locs hp4 hW hS => ?_)
  obtain ⟨ho5, hn6⟩ := hp4
  have hY := (hn6 _ (by omega)).trans hY
  have hO := (hn6 _ (by omega)).trans hO
  have hqo := (hn6 _ (by omega)).trans hqo
  have hWT := (hn6 _ (by omega)).trans hWT
  have hL := hL.mv (w2 := w3) (fun q h1 h2 => hn6 q (by omega))
  refine h_iconst F dX8_writeCaption_22 ?_
  refine lv_istore_n (lv' := [(3, .int (iI 0)), (2, .ref ((y + 1) + 9 + 2 * k.toNat)), (0, .ref y), (1, .int (iI k))]) F.1 F.2.1 dX8_writeCaption_23 rfl hl (by decide) rfl (fun ls hl => ?_)
  have loop24 : ∀ (n9 : Nat) (i : Int), (hrg : 0 ≤ i ∧ i ≤ cp σ k 0) → (hms : cp σ k 0 - i < (n9 : Int)) → (wz9 : Wo) → (hO24_0 : wz9 (y + 309) = some (.inr (0, [.ref (y + 310), .int (iI i)]))) → (hA24_0 : wz9 (y + 310) = some (aZ X 400 (wcF ob σ k i.toNat))) → (hF24 : ∀ q : Nat, q ≠ y + 309 → q ≠ y + 310 → wz9 q = w3 q) → (H : Heap) → (locs : List Loc) → (ls : Array Slot) → Wd X wz9 s H → va_S (cxA X) s.heap H locs → lv_has ls 4 [(3, .int (iI i)), (2, .ref ((y + 1) + 9 + 2 * k.toNat)), (0, .ref y), (1, .int (iI k))] → W p l e (rmk 4 93) s m (List.toArray [.ref y, .int (iI k)]) below meth c H locs 0 0 (MX X below (List.toArray [.ref y, .int (iI k)]) s 0 0 (some (.int (iI (cp σ k 0)))) (fun w' => w' (y + 309) = some (.inr (0, [.ref (y + 310), .int (iI (cp σ k 0))])) ∧ w' (y + 310) = some (aZ X 400 (wcF ob σ k (cp σ k 0).toNat)) ∧ ∀ q : Nat, q ≠ y + 309 → q ≠ y + 310 → w' q = w q)) (F0 m 24 ls []) := by
    intro n9
    induction n9 with
    | zero => intro i  hrg hms; exfalso; omega
    | succ n9 ih24 =>
      intro i  hrg hms wz9 hO24_0 hA24_0 hF24  H locs ls hW hS hl
      have hY := (hF24 _ (by omega) (by omega)).trans hY
      have hO := (hF24 _ (by omega) (by omega)).trans hO
      have hqo := (hF24 _ (by omega) (by omega)).trans hqo
      have hL := hL.mv (w2 := wz9) (fun q h1 h2 => hF24 q (by omega) (by omega))
      have hqz := hL.1.cap k (by omega) (by omega)
      have hrr := rdN_r σ k i false
      refine lv_iload_n F.1 F.2.1 dX8_writeCaption_24 rfl (lv_at hl 0 rfl) ?_
      refine lv_aload_n F.1 F.2.1 dX8_writeCaption_25 rfl (lv_at hl 1 rfl) ?_
      refine gf_RX8_174 F hW hqo rfl dX8_writeCaption_26 ?_
      refine h_icge (tgt := 57) F dX8_writeCaption_29 (by decide) (by omega) (fun c7 => ?_) (fun c7 => ?_)
      · refine lv_aload_n F.1 F.2.1 dX8_writeCaption_57 rfl (lv_at hl 2 rfl) ?_
        refine gf_RX8_53 F hW hY rfl dX8_writeCaption_58 ?_
        refine cl_RX8_81 (As := []) (rest := []) F hl (c_X0_size l X wz9 (y + 309) (y + 310) i (wcF ob σ k i.toNat) hO24_0 hA24_0) hW hS hO24_0 rfl rfl ⟨Nat.le_of_ble_eq_true rfl, Nat.le_of_ble_eq_true rfl⟩ (Nat.le_of_ble_eq_true rfl) ⟨Nat.zero_le _, Nat.zero_le _⟩ dX8_writeCaption_61 (fun w1 H locs hp8 hW hS => ?_)
        rw [hp8] at hW; clear hp8; clear w1
        refine h_top (show (i : Int) = cp σ k 0 from by first | rfl | omega | (simp_all; done)) ?_
        exact h_ireti F hr hlk hW hS ⟨(by (rw [hO24_0]) <;> (rw [show i = cp σ k 0 by omega])), (by (rw [hA24_0]) <;> (rw [show i = cp σ k 0 by omega])), (fun q h09 h19 => by rw [hF24 q (by omega) (by omega), hn6 q (by omega)])⟩ dX8_writeCaption_64
      · refine lv_aload_n F.1 F.2.1 dX8_writeCaption_32 rfl (lv_at hl 2 rfl) ?_
        refine gf_RX8_53 F hW hY rfl dX8_writeCaption_33 ?_
        refine lv_aload_n F.1 F.2.1 dX8_writeCaption_36 rfl (lv_at hl 2 rfl) ?_
        refine gf_RX8_10 F hW hY rfl dX8_writeCaption_37 ?_
        refine lv_aload_n F.1 F.2.1 dX8_writeCaption_40 rfl (lv_at hl 1 rfl) ?_
        refine lv_iload_n F.1 F.2.1 dX8_writeCaption_41 rfl (lv_at hl 0 rfl) ?_
        refine cl_RX8_214 (As := [.ref ((y + 1) + 9 + 2 * k.toNat), .int (iI i)]) (rest := [.ref (y + 309)]) F hl (c_X5_read l X wz9 (y + 1) σ ((y + 1) + 9 + 2 * k.toNat) k i hL hqz hcok (by omega)) hW hS hO rfl rfl ⟨Nat.le_of_ble_eq_true rfl, Nat.le_of_ble_eq_true rfl⟩ (Nat.le_of_ble_eq_true rfl) ⟨Nat.zero_le _, Nat.zero_le _⟩ dX8_writeCaption_42 (fun w1 H locs hp9 hW hS => ?_)
        rw [hp9] at hW; clear hp9; clear w1
        refine cl_RX8_416 (As := [.int (iI (rdN σ k i false))]) (rest := [.ref (y + 309)]) F hl (c_X8_signFor l X wz9 (rdN σ k i false) (by omega)) hW hS rfl rfl ⟨Nat.le_of_ble_eq_true rfl, Nat.le_of_ble_eq_true rfl⟩ (Nat.le_of_ble_eq_true rfl) ⟨Nat.zero_le _, Nat.zero_le _⟩ dX8_writeCaption_45 (fun w1 H locs hp10 hW hS => ?_)
        rw [hp10] at hW; clear hp10; clear w1
        refine cl_RX8_406 (As := [.int (iI (sgS (rdN σ k i false)))]) (rest := []) F hl (c_X0_addByte l X wz9 (y + 309) (y + 310) i (wcF ob σ k i.toNat) (sgS (rdN σ k i false)) hO24_0 hA24_0 (by omega) (by omega)) hW hS hO24_0 rfl rfl ⟨Nat.le_of_ble_eq_true rfl, Nat.le_of_ble_eq_true rfl⟩ (Nat.le_of_ble_eq_true rfl) ⟨Nat.zero_le _, Nat.zero_le _⟩ dX8_writeCaption_48 (fun w11 H locs hp12 hW hS => ?_)
        obtain ⟨ho13, ha14, hn15⟩ := hp12
        have hY := (hn15 _ (by omega) (by omega)).trans hY
        have hO := (hn15 _ (by omega) (by omega)).trans hO
        have hqo := (hn15 _ (by omega) (by omega)).trans hqo
        have hL := hL.mv (w2 := w11) (fun q h1 h2 => hn15 q (by omega) (by omega))
        refine h_iinc (k := 0) (a := i) (lv' := [(3, .int (iI (i + 1))), (2, .ref ((y + 1) + 9 + 2 * k.toNat)), (0, .ref y), (1, .int (iI k))]) F dX8_writeCaption_51 hl rfl (by decide) rfl (fun ls hl => ?_)
        refine h_goto (tgt := 24) F dX8_writeCaption_54 (by decide) ?_
        have eq16 : ((i + 1) : Int) = i + 1 := by first | rfl | omega | simp
        exact ih24 (i + 1)  (by omega) (by omega) w11 ho13 (by rw [show (wcF ob σ k (i + 1).toNat : Int → Int) = up (wcF ob σ k i.toNat) i (sgS (rdN σ k i false)) from wcF_s _ _ _ (by omega)]; exact ha14) (fun q h09 h19 => by rw [hn15 q (by omega) (by omega), hF24 q (by omega) (by omega)])  _ _ ls hW hS (by rw [eq16]; exact lv_sub hl [0, 1, 2, 3] rfl)
  exact loop24 ((cp σ k 0 - 0) + 1 : Int).toNat 0  (by omega) (by omega) w3 ho5 (by rw [show (wcF ob σ k (0 : Int).toNat : Int → Int) = ob from rfl]; exact hWT) (fun q _ _ => rfl)  _ _ ls hW hS (lv_sub hl [0, 1, 2, 3] rfl)
set_option maxHeartbeats 4000000 in
set_option maxRecDepth 100000 in
theorem c_X8_output (l : Launch) (X : Cx) (w : Wo) (y : Nat) (su : Int) (M : Int) (ob : Int → Int) (ix : Int) (hY : clO X w y su) (hWB : w (y + 309) = some (.inr (0, [.ref (y + 310), .int (iI M)]))) (hWT : w (y + 310) = some (aZ X 400 ob)) (hM : 0 ≤ M ∧ M ≤ 80) (hix : -2147483648 ≤ ix ∧ ix < 2147483648) : CM l X yX8_output cX8_output 2 (some (.int)) (rmk 1 21) [.ref y, .int (iI ix)] w (some (.int (iI (byS ob M ix)))) (fun w' => w' = w) := by
  refine CM.of (lv := [(0, .ref y), (1, .int (iI ix))]) (by decide) (Nat.le_of_ble_eq_true rfl) rfl (fun p e s m below meth c ls F hr hlk hin hW hS hl => ?_)
  have hZ0 := hW.2.2
  have hB9 := hW.1.2
  clear hin
  unfold clO at hY
  refine lv_aload_n F.1 F.2.1 dX8_output_0 rfl (lv_at hl 0 rfl) ?_
  refine gf_RX8_53 F hW hY rfl dX8_output_1 ?_
  refine lv_iload_n F.1 F.2.1 dX8_output_4 rfl (lv_at hl 1 rfl) ?_
  refine cl_RX8_419 (As := [.int (iI ix)]) (rest := []) F hl (c_X0_byteAt l X w (y + 309) (y + 310) M ob ix hWB hWT (by omega) (by omega)) hW hS hWB rfl rfl ⟨Nat.le_of_ble_eq_true rfl, Nat.le_of_ble_eq_true rfl⟩ (Nat.le_of_ble_eq_true rfl) ⟨Nat.zero_le _, Nat.zero_le _⟩ dX8_output_5 (fun w1 H locs hp1 hW hS => ?_)
  rw [hp1] at hW; clear hp1; clear w1
  exact h_ireti F hr hlk hW hS rfl dX8_output_8
set_option maxHeartbeats 4000000 in
set_option maxRecDepth 100000 in
theorem c_X9_says (l : Launch) (X : Cx) (w : Wo) (mo : Nat) (v oo : Int → Int) (sg : Int) (hM : w mo = some (.inr (9, mL mo v))) (hoo : w (mo + 12) = some (aZ X 80 oo)) (hv31 : 0 ≤ v 31 ∧ v 31 < 80) : CM l X yX9_says cX9_says 2 none (rmk 0 0) [.ref mo, .int (iI sg)] w none (fun w' => w' mo = some (.inr (9, mL mo (up v 31 (v 31 + 1)))) ∧ w' (mo + 12) = some (aZ X 80 (up oo (v 31) sg)) ∧ ∀ q : Nat, q ≠ mo → q ≠ mo + 12 → w' q = w q) := by
  refine CM.of (lv := [(0, .ref mo), (1, .int (iI sg))]) (by decide) (Nat.le_of_ble_eq_true rfl) rfl (fun p e s m below meth c ls F hr hlk hin hW hS hl => ?_)
  have hZ0 := hW.2.2
  have hB9 := hW.1.2
  clear hin
  refine lv_aload_n F.1 F.2.1 dX9_says_0 rfl (lv_at hl 0 rfl) ?_
  refine gf_RX9_51 F hW hM rfl dX9_says_1 ?_
  refine lv_aload_n F.1 F.2.1 dX9_says_4 rfl (lv_at hl 0 rfl) ?_
  refine gf_RX9_416 F hW hM rfl dX9_says_5 ?_
  refine lv_iload_n F.1 F.2.1 dX9_says_8 rfl (lv_at hl 1 rfl) ?_
  refine h_iast F hW hS hoo (by omega) (by omega) dX9_says_9 (fun w1 H locs ho3 hn2 hW hS => ?_)
  have hM := (hn2 _ (by omega)).trans hM
  refine lv_aload_n F.1 F.2.1 dX9_says_10 rfl (lv_at hl 0 rfl) ?_
  refine lv_dup F.1 F.2.1 dX9_says_11 rfl ?_
  refine gf_RX9_416 F hW hM rfl dX9_says_12 ?_
  refine h_iconst F dX9_says_15 ?_
  refine h_iadd (a := v 31) (b := 1) F dX9_says_16 ?_
  refine pf_RX9_416 F hW hS hM (Nat.le_of_ble_eq_true rfl) dX9_says_17 (fun w4 H locs ho6 hn5 hW hS => ?_)
  rw [mL_31] at ho6
  have ho3 := (hn5 _ (by omega)).trans ho3
  exact h_vret F hr hlk hW hS ⟨(by (rw [ho6]) <;> (rfl)), ho3, (fun q h09 h19 => by rw [hn5 q (by omega), hn2 q (by omega)])⟩ dX9_says_20
set_option maxHeartbeats 4000000 in
set_option maxRecDepth 100000 in
theorem c_X9_writeRow (l : Launch) (X : Cx) (w : Wo) (mo : Nat) (v σ : Int → Int) (oo : Int → Int) (rn : Int) (b : Bool) (hM : w mo = some (.inr (9, mL mo v))) (hs : w (mo + 1) = some (aZ X 1317 σ)) (hwf : WF σ) (hoo : w (mo + 12) = some (aZ X 80 oo)) (hr : 0 ≤ rn ∧ rn < σ 1) : CM l X yX9_writeRow cX9_writeRow 6 (some (.int)) (rmk 4 92) [.ref mo, .int (iI rn), .int (iI (bz b))] w (some (.int (iI (wrL σ rn b (σ 0).toNat)))) (fun w' => w' mo = some (.inr (9, mL mo (up (up v 6 0) 31 (wrL σ rn b (σ 0).toNat)))) ∧ w' (mo + 12) = some (aZ X 80 (wrF oo σ rn b (σ 0).toNat)) ∧ ∀ q : Nat, q ≠ mo → q ≠ mo + 12 → w' q = w q) := by
  refine CM.of (lv := [(0, .ref mo), (1, .int (iI rn)), (2, .int (iI (bz b)))]) (by decide) (Nat.le_of_ble_eq_true rfl) rfl (fun p e s m below meth c ls F hr hlk hin hW hS hl => ?_)
  have hZ0 := hW.2.2
  have hB9 := hW.1.2
  clear hin
  have hF := hwf.1
  unfold WF0 at hF
  refine lv_aload_n F.1 F.2.1 dX9_writeRow_0 rfl (lv_at hl 0 rfl) ?_
  refine lv_aload_n F.1 F.2.1 dX9_writeRow_1 rfl (lv_at hl 0 rfl) ?_
  refine lv_iload_n F.1 F.2.1 dX9_writeRow_2 rfl (lv_at hl 1 rfl) ?_
  refine cl_RX9_189 (As := [.int (iI rn)]) (rest := [.ref mo]) F hl (c_X9_isRow l X w mo v σ rn hM hs hwf (by omega)) hW hS hM rfl rfl ⟨Nat.le_of_ble_eq_true rfl, Nat.le_of_ble_eq_true rfl⟩ (Nat.le_of_ble_eq_true rfl) ⟨Nat.zero_le _, Nat.zero_le _⟩ dX9_writeRow_3 (fun w1 H locs hp1 hW hS => ?_)
  rw [hp1] at hW; clear hp1; clear w1
  refine h_top (show (bz (decide (0 ≤ rn ∧ rn ≤ σ 1 - 1)) : Int) = bz true from congrArg bz (decide_eq_true (by omega))) ?_
  refine cl_RX9_74 (As := [.int (iI (bz true))]) (rest := []) F hl (c_pass_t l X w mo v σ hM hs hwf) hW hS hM rfl rfl ⟨Nat.le_of_ble_eq_true rfl, Nat.le_of_ble_eq_true rfl⟩ (Nat.le_of_ble_eq_true rfl) ⟨Nat.zero_le _, Nat.zero_le _⟩ dX9_writeRow_6 (fun w2 H locs hp3 hW hS => ?_)
  obtain ⟨ho4, hn5⟩ := hp3
  have hs := (hn5 _ (by omega)).trans hs
  have hoo := (hn5 _ (by omega)).trans hoo
  refine h_ifneb (tgt := 14) F dX9_writeRow_9 (by decide) (fun _ => ?_) (fun c9 => absurd c9 (by decide))
  refine lv_aload_n F.1 F.2.1 dX9_writeRow_14 rfl (lv_at hl 0 rfl) ?_
  refine h_iconst F dX9_writeRow_15 ?_
  refine pf_RX9_416 F hW hS ho4 (Nat.le_of_ble_eq_true rfl) dX9_writeRow_16 (fun w7 H locs ho9 hn8 hW hS => ?_)
  rw [mL_31] at ho9
  have hs := (hn8 _ (by omega)).trans hs
  have hoo := (hn8 _ (by omega)).trans hoo
  refine h_iconst F dX9_writeRow_19 ?_
  refine lv_istore_n (lv' := [(3, .int (iI 0)), (0, .ref mo), (1, .int (iI rn)), (2, .int (iI (bz b)))]) F.1 F.2.1 dX9_writeRow_20 rfl hl (by decide) rfl (fun ls hl => ?_)
  have loop21 : ∀ (n9 : Nat) (i : Int), (hrg : 0 ≤ i ∧ i ≤ σ 0) → (hms : σ 0 - i < (n9 : Int)) → (wz9 : Wo) → (hO21_0 : wz9 mo = some (.inr (9, mL mo (up (up v 6 0) 31 (wrL σ rn b i.toNat))))) → (hA21_0 : wz9 (mo + 12) = some (aZ X 80 (wrF oo σ rn b i.toNat))) → (hF21 : ∀ q : Nat, q ≠ mo → q ≠ mo + 12 → wz9 q = w7 q) → (H : Heap) → (locs : List Loc) → (ls : Array Slot) → Wd X wz9 s H → va_S (cxA X) s.heap H locs → lv_has ls 6 [(3, .int (iI i)), (0, .ref mo), (1, .int (iI rn)), (2, .int (iI (bz b)))] → W p l e (rmk 4 92) s m (List.toArray [.ref mo, .int (iI rn), .int (iI (bz b))]) below meth c H locs 0 0 (MX X below (List.toArray [.ref mo, .int (iI rn), .int (iI (bz b))]) s 0 0 (some (.int (iI (wrL σ rn b (σ 0).toNat)))) (fun w' => w' mo = some (.inr (9, mL mo (up (up v 6 0) 31 (wrL σ rn b (σ 0).toNat)))) ∧ w' (mo + 12) = some (aZ X 80 (wrF oo σ rn b (σ 0).toNat)) ∧ ∀ q : Nat, q ≠ mo → q ≠ mo + 12 → w' q = w q)) (F0 m 21 ls []) := by
    intro n9
    induction n9 with
    | zero => intro i  hrg hms; exfalso; omega
    | succ n9 ih21 =>
      intro i  hrg hms wz9 hO21_0 hA21_0 hF21  H locs ls hW hS hl
      have hs := (hF21 _ (by omega) (by omega)).trans hs
      have hwl := wrL_r σ rn b i.toNat
      have hv3 : (up (up v 6 0) 31 (wrL σ rn b i.toNat)) 31 = wrL σ rn b i.toNat := rfl
      refine lv_iload_n F.1 F.2.1 dX9_writeRow_21 rfl (lv_at hl 0 rfl) ?_
      refine lv_aload_n F.1 F.2.1 dX9_writeRow_22 rfl (lv_at hl 1 rfl) ?_
      refine gf_RX9_7 F hW hO21_0 rfl dX9_writeRow_23 ?_
      refine h_iconst F dX9_writeRow_26 ?_
      refine h_iald F hW hs (by omega) (by omega) dX9_writeRow_27 ?_
      refine h_icge (tgt := 105) F dX9_writeRow_28 (by decide) (by omega) (fun c10 => ?_) (fun c10 => ?_)
      · refine lv_aload_n F.1 F.2.1 dX9_writeRow_105 rfl (lv_at hl 1 rfl) ?_
        refine gf_RX9_416 F hW hO21_0 rfl dX9_writeRow_106 ?_
        refine h_top (show ((up (up v 6 0) 31 (wrL σ rn b i.toNat)) 31 : Int) = wrL σ rn b i.toNat from rfl) ?_
        refine h_top (show (wrL σ rn b i.toNat : Int) = wrL σ rn b (σ 0).toNat from by rw [show i = σ 0 by omega]) ?_
        exact h_ireti F hr hlk hW hS ⟨(by (rw [hO21_0]) <;> (rw [show i = σ 0 by omega])), (by (rw [hA21_0]) <;> (rw [show i = σ 0 by omega])), (fun q h09 h19 => by rw [hF21 q (by omega) (by omega), hn8 q (by omega), hn5 q (by omega)])⟩ dX9_writeRow_109
      · have join44 : ∀ (H : Heap) (locs : List Loc) (ls : Array Slot), Wd X wz9 s H → va_S (cxA X) s.heap H locs → lv_has ls 6 [(3, .int (iI i)), (0, .ref mo), (1, .int (iI rn)), (2, .int (iI (bz b)))] → W p l e (rmk 4 92) s m (List.toArray [.ref mo, .int (iI rn), .int (iI (bz b))]) below meth c H locs 0 0 (MX X below (List.toArray [.ref mo, .int (iI rn), .int (iI (bz b))]) s 0 0 (some (.int (iI (wrL σ rn b (σ 0).toNat)))) (fun w' => w' mo = some (.inr (9, mL mo (up (up v 6 0) 31 (wrL σ rn b (σ 0).toNat)))) ∧ w' (mo + 12) = some (aZ X 80 (wrF oo σ rn b (σ 0).toNat)) ∧ ∀ q : Nat, q ≠ mo → q ≠ mo + 12 → w' q = w q)) (F0 m 44 ls [.int (iI (wcol σ b i))]) := by
          intro  H locs ls  hW hS hl
          refine lv_istore (lv' := [(4, .int (iI (wcol σ b i))), (3, .int (iI i)), (0, .ref mo), (1, .int (iI rn)), (2, .int (iI (bz b)))]) F.1 F.2.1 dX9_writeRow_44 hl (by decide) rfl (fun ls hl => ?_)
          have hcol : 0 ≤ wcol σ b i ∧ wcol σ b i < σ 0 := by unfold wcol turnS; split <;> omega
          have hce := hwf.2.2.2.1 (wcol σ b i) rn (by omega) (by omega) (by omega) (by omega)
          refine lv_aload_n F.1 F.2.1 dX9_writeRow_46 rfl (lv_at hl 2 rfl) ?_
          refine lv_iload F.1 F.2.1 dX9_writeRow_47 (lv_at hl 0 rfl) ?_
          refine lv_iload_n F.1 F.2.1 dX9_writeRow_49 rfl (lv_at hl 3 rfl) ?_
          refine cl_RX9_113 (As := [.int (iI (wcol σ b i)), .int (iI rn)]) (rest := []) F hl (c_X9_colourAt l X wz9 mo (up (up v 6 0) 31 (wrL σ rn b i.toNat)) σ (wcol σ b i) rn hO21_0 hs hwf (by omega)) hW hS hO21_0 rfl rfl ⟨Nat.le_of_ble_eq_true rfl, Nat.le_of_ble_eq_true rfl⟩ (Nat.le_of_ble_eq_true rfl) ⟨Nat.zero_le _, Nat.zero_le _⟩ dX9_writeRow_50 (fun w1 H locs hp11 hW hS => ?_)
          rw [hp11] at hW; clear hp11; clear w1
          refine lv_istore (lv' := [(5, .int (iI (cellS σ (wcol σ b i) rn))), (4, .int (iI (wcol σ b i))), (3, .int (iI i)), (0, .ref mo), (1, .int (iI rn)), (2, .int (iI (bz b)))]) F.1 F.2.1 dX9_writeRow_53 hl (by decide) rfl (fun ls hl => ?_)
          refine lv_aload_n F.1 F.2.1 dX9_writeRow_55 rfl (lv_at hl 3 rfl) ?_
          have join72 : ∀ (H : Heap) (locs : List Loc) (ls : Array Slot), Wd X wz9 s H → va_S (cxA X) s.heap H locs → lv_has ls 6 [(5, .int (iI (cellS σ (wcol σ b i) rn))), (4, .int (iI (wcol σ b i))), (3, .int (iI i)), (0, .ref mo), (1, .int (iI rn)), (2, .int (iI (bz b)))] → W p l e (rmk 4 92) s m (List.toArray [.ref mo, .int (iI rn), .int (iI (bz b))]) below meth c H locs 0 0 (MX X below (List.toArray [.ref mo, .int (iI rn), .int (iI (bz b))]) s 0 0 (some (.int (iI (wrL σ rn b (σ 0).toNat)))) (fun w' => w' mo = some (.inr (9, mL mo (up (up v 6 0) 31 (wrL σ rn b (σ 0).toNat)))) ∧ w' (mo + 12) = some (aZ X 80 (wrF oo σ rn b (σ 0).toNat)) ∧ ∀ q : Nat, q ≠ mo → q ≠ mo + 12 → w' q = w q)) (F0 m 72 ls [.int (iI (wchr (cellS σ (wcol σ b i) rn))), .ref mo]) := by
            intro  H locs ls  hW hS hl
            refine cl_RX9_419 (As := [.int (iI (wchr (cellS σ (wcol σ b i) rn)))]) (rest := []) F hl (c_X9_says l X wz9 mo (up (up v 6 0) 31 (wrL σ rn b i.toNat)) (wrF oo σ rn b i.toNat) (wchr (cellS σ (wcol σ b i) rn)) hO21_0 hA21_0 (by rw [hv3]; omega)) hW hS hO21_0 rfl rfl ⟨Nat.le_of_ble_eq_true rfl, Nat.le_of_ble_eq_true rfl⟩ (Nat.le_of_ble_eq_true rfl) ⟨Nat.zero_le _, Nat.zero_le _⟩ dX9_writeRow_72 (fun w12 H locs hp13 hW hS => ?_)
            obtain ⟨ho14, ha15, hn16⟩ := hp13
            have hs := (hn16 _ (by omega) (by omega)).trans hs
            refine lv_aload_n F.1 F.2.1 dX9_writeRow_75 rfl (lv_at hl 3 rfl) ?_
            refine lv_iload F.1 F.2.1 dX9_writeRow_76 (lv_at hl 1 rfl) ?_
            refine lv_iload_n F.1 F.2.1 dX9_writeRow_78 rfl (lv_at hl 4 rfl) ?_
            refine cl_RX9_119 (As := [.int (iI (wcol σ b i)), .int (iI rn)]) (rest := []) F hl (c_X9_isMistake l X w12 mo (up (up (up v 6 0) 31 (wrL σ rn b i.toNat)) 31 ((up (up v 6 0) 31 (wrL σ rn b i.toNat)) 31 + 1)) σ (wcol σ b i) rn ho14 hs hwf (by omega)) hW hS ho14 rfl rfl ⟨Nat.le_of_ble_eq_true rfl, Nat.le_of_ble_eq_true rfl⟩ (Nat.le_of_ble_eq_true rfl) ⟨Nat.zero_le _, Nat.zero_le _⟩ dX9_writeRow_79 (fun w1 H locs hp17 hW hS => ?_)
            rw [hp17] at hW; clear hp17; clear w1
            refine h_ifeqb (tgt := 99) F dX9_writeRow_82 (by decide) (fun c18 => ?_) (fun c18 => ?_)
            · have hfl : wflg σ rn b i = false := by unfold wflg; rw [c18]; first | rfl | exact Bool.and_false _
              have hLs : wrL σ rn b (i + 1).toNat = wrL σ rn b i.toNat + 1 := by rw [wrL_s _ _ _ (by omega), hfl]; exact Int.add_zero _
              have hFs := wrF_f oo σ rn b (i := i) (by omega) hfl
              refine h_iinc (k := 2) (a := i) (lv' := [(3, .int (iI (i + 1))), (5, .int (iI (cellS σ (wcol σ b i) rn))), (4, .int (iI (wcol σ b i))), (0, .ref mo), (1, .int (iI rn)), (2, .int (iI (bz b)))]) F dX9_writeRow_99 hl rfl (by decide) rfl (fun ls hl => ?_)
              refine h_goto (tgt := 21) F dX9_writeRow_102 (by decide) ?_
              have eq19 : ((i + 1) : Int) = i + 1 := by first | rfl | omega | simp
              exact ih21 (i + 1)  (by omega) (by omega) w12 (by rw [show (up (up v 6 0) 31 (wrL σ rn b (i + 1).toNat) : Int → Int) = up (up (up v 6 0) 31 (wrL σ rn b i.toNat)) 31 ((up (up v 6 0) 31 (wrL σ rn b i.toNat)) 31 + 1) from by first | (rw [hLs]; simp only [up_up]; done) | (rw [hLs]; simp only [up_up]; rfl)]; exact ho14) (by rw [show (wrF oo σ rn b (i + 1).toNat : Int → Int) = up (wrF oo σ rn b i.toNat) ((up (up v 6 0) 31 (wrL σ rn b i.toNat)) 31) (wchr (cellS σ (wcol σ b i) rn)) from hFs]; exact ha15) (fun q h09 h19 => by rw [hn16 q (by omega) (by omega), hF21 q (by omega) (by omega)])  _ _ ls hW hS (by rw [eq19]; exact lv_sub hl [0, 3, 4, 5] rfl)
            · refine lv_aload_n F.1 F.2.1 dX9_writeRow_85 rfl (lv_at hl 3 rfl) ?_
              refine lv_iload_n F.1 F.2.1 dX9_writeRow_86 rfl (lv_at hl 4 rfl) ?_
              refine cl_RX9_123 (As := [.int (iI rn)]) (rest := []) F hl (c_X9_isSeen l X w12 mo (up (up (up v 6 0) 31 (wrL σ rn b i.toNat)) 31 ((up (up v 6 0) 31 (wrL σ rn b i.toNat)) 31 + 1)) σ rn ho14 hs hwf (by omega)) hW hS ho14 rfl rfl ⟨Nat.le_of_ble_eq_true rfl, Nat.le_of_ble_eq_true rfl⟩ (Nat.le_of_ble_eq_true rfl) ⟨Nat.zero_le _, Nat.zero_le _⟩ dX9_writeRow_87 (fun w1 H locs hp20 hW hS => ?_)
              rw [hp20] at hW; clear hp20; clear w1
              refine h_ifeqb (tgt := 99) F dX9_writeRow_90 (by decide) (fun c21 => ?_) (fun c21 => ?_)
              · have hfl : wflg σ rn b i = false := by unfold wflg; rw [c21]; first | rfl | exact Bool.and_false _
                have hLs : wrL σ rn b (i + 1).toNat = wrL σ rn b i.toNat + 1 := by rw [wrL_s _ _ _ (by omega), hfl]; exact Int.add_zero _
                have hFs := wrF_f oo σ rn b (i := i) (by omega) hfl
                refine h_iinc (k := 2) (a := i) (lv' := [(3, .int (iI (i + 1))), (5, .int (iI (cellS σ (wcol σ b i) rn))), (4, .int (iI (wcol σ b i))), (0, .ref mo), (1, .int (iI rn)), (2, .int (iI (bz b)))]) F dX9_writeRow_99 hl rfl (by decide) rfl (fun ls hl => ?_)
                refine h_goto (tgt := 21) F dX9_writeRow_102 (by decide) ?_
                have eq22 : ((i + 1) : Int) = i + 1 := by first | rfl | omega | simp
                exact ih21 (i + 1)  (by omega) (by omega) w12 (by rw [show (up (up v 6 0) 31 (wrL σ rn b (i + 1).toNat) : Int → Int) = up (up (up v 6 0) 31 (wrL σ rn b i.toNat)) 31 ((up (up v 6 0) 31 (wrL σ rn b i.toNat)) 31 + 1) from by first | (rw [hLs]; simp only [up_up]; done) | (rw [hLs]; simp only [up_up]; rfl)]; exact ho14) (by rw [show (wrF oo σ rn b (i + 1).toNat : Int → Int) = up (wrF oo σ rn b i.toNat) ((up (up v 6 0) 31 (wrL σ rn b i.toNat)) 31) (wchr (cellS σ (wcol σ b i) rn)) from hFs]; exact ha15) (fun q h09 h19 => by rw [hn16 q (by omega) (by omega), hF21 q (by omega) (by omega)])  _ _ ls hW hS (by rw [eq22]; exact lv_sub hl [0, 3, 4, 5] rfl)
              · have hfl : wflg σ rn b i = true := by unfold wflg; rw [‹seenS σ rn = true›, ‹misS σ (wcol σ b i) rn = true›]; rfl
                have hLs : wrL σ rn b (i + 1).toNat = wrL σ rn b i.toNat + 1 + 1 := by rw [wrL_s _ _ _ (by omega), hfl]; rfl
                have hFs := wrF_t oo σ rn b (i := i) (by omega) hfl
                refine lv_aload_n F.1 F.2.1 dX9_writeRow_93 rfl (lv_at hl 3 rfl) ?_
                refine h_bipush F dX9_writeRow_94 rfl ?_
                refine cl_RX9_419 (As := [.int (iI 33)]) (rest := []) F hl (c_X9_says l X w12 mo (up (up (up v 6 0) 31 (wrL σ rn b i.toNat)) 31 ((up (up v 6 0) 31 (wrL σ rn b i.toNat)) 31 + 1)) (up (wrF oo σ rn b i.toNat) ((up (up v 6 0) 31 (wrL σ rn b i.toNat)) 31) (wchr (cellS σ (wcol σ b i) rn))) 33 ho14 ha15 (by show 0 ≤ wrL σ rn b i.toNat + 1 ∧ wrL σ rn b i.toNat + 1 < 80; omega)) hW hS ho14 rfl rfl ⟨Nat.le_of_ble_eq_true rfl, Nat.le_of_ble_eq_true rfl⟩ (Nat.le_of_ble_eq_true rfl) ⟨Nat.zero_le _, Nat.zero_le _⟩ dX9_writeRow_96 (fun w23 H locs hp24 hW hS => ?_)
                obtain ⟨ho25, ha26, hn27⟩ := hp24
                have hs := (hn27 _ (by omega) (by omega)).trans hs
                refine h_iinc (k := 2) (a := i) (lv' := [(3, .int (iI (i + 1))), (5, .int (iI (cellS σ (wcol σ b i) rn))), (4, .int (iI (wcol σ b i))), (0, .ref mo), (1, .int (iI rn)), (2, .int (iI (bz b)))]) F dX9_writeRow_99 hl rfl (by decide) rfl (fun ls hl => ?_)
                refine h_goto (tgt := 21) F dX9_writeRow_102 (by decide) ?_
                have eq28 : ((i + 1) : Int) = i + 1 := by first | rfl | omega | simp
                exact ih21 (i + 1)  (by omega) (by omega) w23 (by rw [show (up (up v 6 0) 31 (wrL σ rn b (i + 1).toNat) : Int → Int) = up (up (up (up v 6 0) 31 (wrL σ rn b i.toNat)) 31 ((up (up v 6 0) 31 (wrL σ rn b i.toNat)) 31 + 1)) 31 ((up (up (up v 6 0) 31 (wrL σ rn b i.toNat)) 31 ((up (up v 6 0) 31 (wrL σ rn b i.toNat)) 31 + 1)) 31 + 1) from by first | (rw [hLs]; simp only [up_up]; done) | (rw [hLs]; simp only [up_up]; rfl)]; exact ho25) (by rw [show (wrF oo σ rn b (i + 1).toNat : Int → Int) = up (up (wrF oo σ rn b i.toNat) ((up (up v 6 0) 31 (wrL σ rn b i.toNat)) 31) (wchr (cellS σ (wcol σ b i) rn))) ((up (up (up v 6 0) 31 (wrL σ rn b i.toNat)) 31 ((up (up v 6 0) 31 (wrL σ rn b i.toNat)) 31 + 1)) 31) 33 from hFs]; exact ha26) (fun q h09 h19 => by rw [hn27 q (by omega) (by omega), hn16 q (by omega) (by omega), hF21 q (by omega) (by omega)])  _ _ ls hW hS (by rw [eq28]; exact lv_sub hl [0, 3, 4, 5] rfl)
          refine lv_iload F.1 F.2.1 dX9_writeRow_56 (lv_at hl 0 rfl) ?_
          refine h_iconst F dX9_writeRow_58 ?_
          refine h_icne (tgt := 67) F dX9_writeRow_59 (by decide) (by omega) (fun c29 => ?_) (fun c29 => ?_)
          · refine h_bipush F dX9_writeRow_67 rfl ?_
            refine lv_iload F.1 F.2.1 dX9_writeRow_69 (lv_at hl 0 rfl) ?_
            refine h_iadd (a := 48) (b := cellS σ (wcol σ b i) rn) F dX9_writeRow_71 ?_
            refine h_top (show (48 + (cellS σ (wcol σ b i) rn) : Int) = wchr (cellS σ (wcol σ b i) rn) from by unfold wchr; first | rw [if_pos (by omega)] | rw [if_neg (by omega)]) ?_
            exact join72  _ _ ls  hW hS (lv_sub hl [0, 1, 2, 3, 4, 5] rfl)
          · refine h_bipush F dX9_writeRow_62 rfl ?_
            refine h_goto (tgt := 72) F dX9_writeRow_64 (by decide) ?_
            refine h_top (show (46 : Int) = wchr (cellS σ (wcol σ b i) rn) from by unfold wchr; first | rw [if_pos (by omega)] | rw [if_neg (by omega)]) ?_
            exact join72  _ _ ls  hW hS (lv_sub hl [0, 1, 2, 3, 4, 5] rfl)
        refine lv_iload_n F.1 F.2.1 dX9_writeRow_31 rfl (lv_at hl 3 rfl) ?_
        refine h_ifeqb (tgt := 43) F dX9_writeRow_32 (by decide) (fun c30 => ?_) (fun c30 => ?_)
        · refine lv_iload_n F.1 F.2.1 dX9_writeRow_43 rfl (lv_at hl 0 rfl) ?_
          refine h_top (show (i : Int) = wcol σ b i from by unfold wcol; first | (rw [‹b = true›]; rfl) | (rw [‹b = false›]; rfl)) ?_
          exact join44  _ _ ls  hW hS (lv_sub hl [0, 1, 2, 3] rfl)
        · refine lv_aload_n F.1 F.2.1 dX9_writeRow_35 rfl (lv_at hl 1 rfl) ?_
          refine lv_iload_n F.1 F.2.1 dX9_writeRow_36 rfl (lv_at hl 0 rfl) ?_
          refine cl_RX9_102 (As := [.int (iI i)]) (rest := []) F hl (c_X9_turned l X wz9 mo (up (up v 6 0) 31 (wrL σ rn b i.toNat)) σ i hO21_0 hs hwf) hW hS hO21_0 rfl rfl ⟨Nat.le_of_ble_eq_true rfl, Nat.le_of_ble_eq_true rfl⟩ (Nat.le_of_ble_eq_true rfl) ⟨Nat.zero_le _, Nat.zero_le _⟩ dX9_writeRow_37 (fun w1 H locs hp31 hW hS => ?_)
          rw [hp31] at hW; clear hp31; clear w1
          refine h_goto (tgt := 44) F dX9_writeRow_40 (by decide) ?_
          refine h_top (show (turnS σ i : Int) = wcol σ b i from by unfold wcol; first | (rw [‹b = true›]; rfl) | (rw [‹b = false›]; rfl)) ?_
          exact join44  _ _ ls  hW hS (lv_sub hl [0, 1, 2, 3] rfl)
  exact loop21 ((σ 0 - 0) + 1 : Int).toNat 0  (by omega) (by omega) w7 (by rw [show (up (up v 6 0) 31 (wrL σ rn b (0 : Int).toNat) : Int → Int) = up (up v 6 0) 31 0 from rfl]; exact ho9) (by rw [show (wrF oo σ rn b (0 : Int).toNat : Int → Int) = oo from rfl]; exact hoo) (fun q _ _ => rfl)  _ _ ls hW hS (lv_sub hl [0, 1, 2, 3] rfl)
set_option maxHeartbeats 4000000 in
set_option maxRecDepth 100000 in
theorem c_X9_writeRow_x (l : Launch) (X : Cx) (w : Wo) (mo : Nat) (v σ : Int → Int) (rn : Int) (b : Bool) (hM : w mo = some (.inr (9, mL mo v))) (hs : w (mo + 1) = some (aZ X 1317 σ)) (hwf : WF σ) (hr : -2147483648 ≤ rn ∧ rn < 2147483648) (hb : ¬ (0 ≤ rn ∧ rn < σ 1)) : CM l X yX9_writeRow cX9_writeRow 6 (some (.int)) (rmk 4 92) [.ref mo, .int (iI rn), .int (iI (bz b))] w (some (.int (iI 0))) (fun w' => w' mo = some (.inr (9, mL mo (up v 6 1))) ∧ ∀ q : Nat, q ≠ mo → w' q = w q) := by
  refine CM.of (lv := [(0, .ref mo), (1, .int (iI rn)), (2, .int (iI (bz b)))]) (by decide) (Nat.le_of_ble_eq_true rfl) rfl (fun p e s m below meth c ls F hr hlk hin hW hS hl => ?_)
  have hZ0 := hW.2.2
  have hB9 := hW.1.2
  clear hin
  have hF := hwf.1
  unfold WF0 at hF
  refine lv_aload_n F.1 F.2.1 dX9_writeRow_0 rfl (lv_at hl 0 rfl) ?_
  refine lv_aload_n F.1 F.2.1 dX9_writeRow_1 rfl (lv_at hl 0 rfl) ?_
  refine lv_iload_n F.1 F.2.1 dX9_writeRow_2 rfl (lv_at hl 1 rfl) ?_
  refine cl_RX9_189 (As := [.int (iI rn)]) (rest := [.ref mo]) F hl (c_X9_isRow l X w mo v σ rn hM hs hwf (by omega)) hW hS hM rfl rfl ⟨Nat.le_of_ble_eq_true rfl, Nat.le_of_ble_eq_true rfl⟩ (Nat.le_of_ble_eq_true rfl) ⟨Nat.zero_le _, Nat.zero_le _⟩ dX9_writeRow_3 (fun w1 H locs hp1 hW hS => ?_)
  rw [hp1] at hW; clear hp1; clear w1
  refine h_top (show (bz (decide (0 ≤ rn ∧ rn ≤ σ 1 - 1)) : Int) = bz false from congrArg bz (decide_eq_false (by omega))) ?_
  refine cl_RX9_74 (As := [.int (iI (bz false))]) (rest := []) F hl (c_pass_f l X w mo v σ hM hs hwf) hW hS hM rfl rfl ⟨Nat.le_of_ble_eq_true rfl, Nat.le_of_ble_eq_true rfl⟩ (Nat.le_of_ble_eq_true rfl) ⟨Nat.zero_le _, Nat.zero_le _⟩ dX9_writeRow_6 (fun w2 H locs hp3 hW hS => ?_)
  obtain ⟨ho4, hn5⟩ := hp3
  have hs := (hn5 _ (by omega)).trans hs
  refine h_ifneb (tgt := 14) F dX9_writeRow_9 (by decide) (fun c9 => absurd c9 (by decide)) (fun _ => ?_)
  refine h_iconst F dX9_writeRow_12 ?_
  exact h_ireti F hr hlk hW hS ⟨ho4, (fun q h09 => by rw [hn5 q (by omega)])⟩ dX9_writeRow_13
set_option maxHeartbeats 4000000 in
set_option maxRecDepth 100000 in
theorem c_X9_writeCaption (l : Launch) (X : Cx) (w : Wo) (mo : Nat) (v σ : Int → Int) (oo : Int → Int) (k : Int) (hM : w mo = some (.inr (9, mL mo v))) (hs : w (mo + 1) = some (aZ X 1317 σ)) (hwf : WF σ) (hoo : w (mo + 12) = some (aZ X 80 oo)) (hk : 0 ≤ k ∧ k < σ 5) : CM l X yX9_writeCaption cX9_writeCaption 4 (some (.int)) (rmk 4 97) [.ref mo, .int (iI k)] w (some (.int (iI (cp σ k 0)))) (fun w' => w' mo = some (.inr (9, mL mo (up (up v 6 0) 31 (cp σ k 0)))) ∧ w' (mo + 12) = some (aZ X 80 (wcF oo σ k (cp σ k 0).toNat)) ∧ ∀ q : Nat, q ≠ mo → q ≠ mo + 12 → w' q = w q) := by
  refine CM.of (lv := [(0, .ref mo), (1, .int (iI k))]) (by decide) (Nat.le_of_ble_eq_true rfl) rfl (fun p e s m below meth c ls F hr hlk hin hW hS hl => ?_)
  have hZ0 := hW.2.2
  have hB9 := hW.1.2
  clear hin
  have hF := hwf.1
  unfold WF0 at hF
  obtain ⟨m1, m2, m3, m4, m5, m6⟩ := hwf.2.2.1 k (by omega) (by omega)
  refine lv_aload_n F.1 F.2.1 dX9_writeCaption_0 rfl (lv_at hl 0 rfl) ?_
  refine lv_aload_n F.1 F.2.1 dX9_writeCaption_1 rfl (lv_at hl 0 rfl) ?_
  refine lv_iload_n F.1 F.2.1 dX9_writeCaption_2 rfl (lv_at hl 1 rfl) ?_
  refine cl_RX9_158 (As := [.int (iI k)]) (rest := [.ref mo]) F hl (c_X9_isCaption l X w mo v σ k hM hs hwf (by omega)) hW hS hM rfl rfl ⟨Nat.le_of_ble_eq_true rfl, Nat.le_of_ble_eq_true rfl⟩ (Nat.le_of_ble_eq_true rfl) ⟨Nat.zero_le _, Nat.zero_le _⟩ dX9_writeCaption_3 (fun w1 H locs hp1 hW hS => ?_)
  rw [hp1] at hW; clear hp1; clear w1
  refine h_top (show (bz (decide (0 ≤ k ∧ k ≤ σ 5 - 1)) : Int) = bz true from congrArg bz (decide_eq_true (by omega))) ?_
  refine cl_RX9_74 (As := [.int (iI (bz true))]) (rest := []) F hl (c_pass_t l X w mo v σ hM hs hwf) hW hS hM rfl rfl ⟨Nat.le_of_ble_eq_true rfl, Nat.le_of_ble_eq_true rfl⟩ (Nat.le_of_ble_eq_true rfl) ⟨Nat.zero_le _, Nat.zero_le _⟩ dX9_writeCaption_6 (fun w2 H locs hp3 hW hS => ?_)
  obtain ⟨ho4, hn5⟩ := hp3
  have hs := (hn5 _ (by omega)).trans hs
  have hoo := (hn5 _ (by omega)).trans hoo
  refine h_ifneb (tgt := 14) F dX9_writeCaption_9 (by decide) (fun _ => ?_) (fun c9 => absurd c9 (by decide))
  refine lv_aload_n F.1 F.2.1 dX9_writeCaption_14 rfl (lv_at hl 0 rfl) ?_
  refine h_iconst F dX9_writeCaption_15 ?_
  refine pf_RX9_416 F hW hS ho4 (Nat.le_of_ble_eq_true rfl) dX9_writeCaption_16 (fun w7 H locs ho9 hn8 hW hS => ?_)
  rw [mL_31] at ho9
  have hs := (hn8 _ (by omega)).trans hs
  have hoo := (hn8 _ (by omega)).trans hoo
  refine h_iconst F dX9_writeCaption_19 ?_
  refine lv_istore_n (lv' := [(2, .int (iI 0)), (0, .ref mo), (1, .int (iI k))]) F.1 F.2.1 dX9_writeCaption_20 rfl hl (by decide) rfl (fun ls hl => ?_)
  have loop21 : ∀ (n9 : Nat) (i : Int), (hrg : 0 ≤ i ∧ i ≤ cp σ k 0) → (hms : cp σ k 0 - i < (n9 : Int)) → (wz9 : Wo) → (hO21_0 : wz9 mo = some (.inr (9, mL mo (up (up v 6 0) 31 (i))))) → (hA21_0 : wz9 (mo + 12) = some (aZ X 80 (wcF oo σ k i.toNat))) → (hF21 : ∀ q : Nat, q ≠ mo → q ≠ mo + 12 → wz9 q = w7 q) → (H : Heap) → (locs : List Loc) → (ls : Array Slot) → Wd X wz9 s H → va_S (cxA X) s.heap H locs → lv_has ls 4 [(2, .int (iI i)), (0, .ref mo), (1, .int (iI k))] → W p l e (rmk 4 97) s m (List.toArray [.ref mo, .int (iI k)]) below meth c H locs 0 0 (MX X below (List.toArray [.ref mo, .int (iI k)]) s 0 0 (some (.int (iI (cp σ k 0)))) (fun w' => w' mo = some (.inr (9, mL mo (up (up v 6 0) 31 (cp σ k 0)))) ∧ w' (mo + 12) = some (aZ X 80 (wcF oo σ k (cp σ k 0).toNat)) ∧ ∀ q : Nat, q ≠ mo → q ≠ mo + 12 → w' q = w q)) (F0 m 21 ls []) := by
    intro n9
    induction n9 with
    | zero => intro i  hrg hms; exfalso; omega
    | succ n9 ih21 =>
      intro i  hrg hms wz9 hO21_0 hA21_0 hF21  H locs ls hW hS hl
      have hs := (hF21 _ (by omega) (by omega)).trans hs
      have hrr := rdN_r σ k i false
      refine lv_iload_n F.1 F.2.1 dX9_writeCaption_21 rfl (lv_at hl 0 rfl) ?_
      refine lv_aload_n F.1 F.2.1 dX9_writeCaption_22 rfl (lv_at hl 1 rfl) ?_
      refine lv_iload_n F.1 F.2.1 dX9_writeCaption_23 rfl (lv_at hl 2 rfl) ?_
      refine h_iconst F dX9_writeCaption_24 ?_
      refine cl_RX9_95 (As := [.int (iI k), .int (iI 0)]) (rest := [.int (iI i)]) F hl (c_X9_cap l X wz9 mo (up (up v 6 0) 31 (i)) σ k 0 hO21_0 hs hwf (by omega)) hW hS hO21_0 rfl rfl ⟨Nat.le_of_ble_eq_true rfl, Nat.le_of_ble_eq_true rfl⟩ (Nat.le_of_ble_eq_true rfl) ⟨Nat.zero_le _, Nat.zero_le _⟩ dX9_writeCaption_25 (fun w1 H locs hp10 hW hS => ?_)
      rw [hp10] at hW; clear hp10; clear w1
      refine h_icge (tgt := 86) F dX9_writeCaption_28 (by decide) (by omega) (fun c11 => ?_) (fun c11 => ?_)
      · refine lv_aload_n F.1 F.2.1 dX9_writeCaption_86 rfl (lv_at hl 1 rfl) ?_
        refine gf_RX9_416 F hW hO21_0 rfl dX9_writeCaption_87 ?_
        refine h_top (show ((up (up v 6 0) 31 (i)) 31 : Int) = i from rfl) ?_
        refine h_top (show (i : Int) = cp σ k 0 from by first | rfl | omega | (simp_all; done)) ?_
        exact h_ireti F hr hlk hW hS ⟨(by (rw [hO21_0]) <;> (rw [show i = cp σ k 0 by omega])), (by (rw [hA21_0]) <;> (rw [show i = cp σ k 0 by omega])), (fun q h09 h19 => by rw [hF21 q (by omega) (by omega), hn8 q (by omega), hn5 q (by omega)])⟩ dX9_writeCaption_90
      · have join50 : ∀ (H : Heap) (locs : List Loc) (ls : Array Slot), Wd X wz9 s H → va_S (cxA X) s.heap H locs → lv_has ls 4 [(2, .int (iI i)), (0, .ref mo), (1, .int (iI k))] → W p l e (rmk 4 97) s m (List.toArray [.ref mo, .int (iI k)]) below meth c H locs 0 0 (MX X below (List.toArray [.ref mo, .int (iI k)]) s 0 0 (some (.int (iI (cp σ k 0)))) (fun w' => w' mo = some (.inr (9, mL mo (up (up v 6 0) 31 (cp σ k 0)))) ∧ w' (mo + 12) = some (aZ X 80 (wcF oo σ k (cp σ k 0).toNat)) ∧ ∀ q : Nat, q ≠ mo → q ≠ mo + 12 → w' q = w q)) (F0 m 50 ls [.int (iI (rdN σ k i false))]) := by
          intro  H locs ls  hW hS hl
          refine lv_istore_n (lv' := [(3, .int (iI (rdN σ k i false))), (2, .int (iI i)), (0, .ref mo), (1, .int (iI k))]) F.1 F.2.1 dX9_writeCaption_50 rfl hl (by decide) rfl (fun ls hl => ?_)
          refine lv_aload_n F.1 F.2.1 dX9_writeCaption_51 rfl (lv_at hl 2 rfl) ?_
          have join77 : ∀ (H : Heap) (locs : List Loc) (ls : Array Slot), Wd X wz9 s H → va_S (cxA X) s.heap H locs → lv_has ls 4 [(3, .int (iI (rdN σ k i false))), (2, .int (iI i)), (0, .ref mo), (1, .int (iI k))] → W p l e (rmk 4 97) s m (List.toArray [.ref mo, .int (iI k)]) below meth c H locs 0 0 (MX X below (List.toArray [.ref mo, .int (iI k)]) s 0 0 (some (.int (iI (cp σ k 0)))) (fun w' => w' mo = some (.inr (9, mL mo (up (up v 6 0) 31 (cp σ k 0)))) ∧ w' (mo + 12) = some (aZ X 80 (wcF oo σ k (cp σ k 0).toNat)) ∧ ∀ q : Nat, q ≠ mo → q ≠ mo + 12 → w' q = w q)) (F0 m 77 ls [.int (iI (sgS (rdN σ k i false))), .ref mo]) := by
            intro  H locs ls  hW hS hl
            refine cl_RX9_419 (As := [.int (iI (sgS (rdN σ k i false)))]) (rest := []) F hl (c_X9_says l X wz9 mo (up (up v 6 0) 31 (i)) (wcF oo σ k i.toNat) (sgS (rdN σ k i false)) hO21_0 hA21_0 (by show 0 ≤ i ∧ i < 80; omega)) hW hS hO21_0 rfl rfl ⟨Nat.le_of_ble_eq_true rfl, Nat.le_of_ble_eq_true rfl⟩ (Nat.le_of_ble_eq_true rfl) ⟨Nat.zero_le _, Nat.zero_le _⟩ dX9_writeCaption_77 (fun w12 H locs hp13 hW hS => ?_)
            obtain ⟨ho14, ha15, hn16⟩ := hp13
            have hs := (hn16 _ (by omega) (by omega)).trans hs
            refine h_iinc (k := 1) (a := i) (lv' := [(2, .int (iI (i + 1))), (3, .int (iI (rdN σ k i false))), (0, .ref mo), (1, .int (iI k))]) F dX9_writeCaption_80 hl rfl (by decide) rfl (fun ls hl => ?_)
            refine h_goto (tgt := 21) F dX9_writeCaption_83 (by decide) ?_
            have eq17 : ((i + 1) : Int) = i + 1 := by first | rfl | omega | simp
            exact ih21 (i + 1)  (by omega) (by omega) w12 (by rw [show (up (up v 6 0) 31 ((i + 1)) : Int → Int) = up (up (up v 6 0) 31 (i)) 31 ((up (up v 6 0) 31 (i)) 31 + 1) from by first | (simp only [up_up]; done) | (simp only [up_up]; rfl)]; exact ho14) (by rw [show (wcF oo σ k (i + 1).toNat : Int → Int) = up (wcF oo σ k i.toNat) ((up (up v 6 0) 31 (i)) 31) (sgS (rdN σ k i false)) from wcF_s _ _ _ (by omega)]; exact ha15) (fun q h09 h19 => by rw [hn16 q (by omega) (by omega), hF21 q (by omega) (by omega)])  _ _ ls hW hS (by rw [eq17]; exact lv_sub hl [0, 2, 3] rfl)
          refine lv_iload_n F.1 F.2.1 dX9_writeCaption_52 rfl (lv_at hl 0 rfl) ?_
          refine h_iconst F dX9_writeCaption_53 ?_
          refine h_icne (tgt := 62) F dX9_writeCaption_54 (by decide) (by omega) (fun c18 => ?_) (fun c18 => ?_)
          · refine lv_iload_n F.1 F.2.1 dX9_writeCaption_62 rfl (lv_at hl 0 rfl) ?_
            refine h_ifne (tgt := 71) F dX9_writeCaption_63 (by decide) (by omega) (fun c19 => ?_) (fun c19 => ?_)
            · refine h_bipush F dX9_writeCaption_71 rfl ?_
              refine lv_iload_n F.1 F.2.1 dX9_writeCaption_73 rfl (lv_at hl 0 rfl) ?_
              refine h_iadd (a := 97) (b := rdN σ k i false) F dX9_writeCaption_74 ?_
              refine h_iconst F dX9_writeCaption_75 ?_
              refine h_isub (a := 97 + (rdN σ k i false)) (b := 1) F dX9_writeCaption_76 ?_
              refine h_top (show ((97 + (rdN σ k i false)) - 1 : Int) = sgS (rdN σ k i false) from by unfold sgS; (repeat first | rw [if_pos (by omega)] | rw [if_neg (by omega)]) <;> omega) ?_
              exact join77  _ _ ls  hW hS (lv_sub hl [0, 1, 2, 3] rfl)
            · refine h_bipush F dX9_writeCaption_66 rfl ?_
              refine h_goto (tgt := 77) F dX9_writeCaption_68 (by decide) ?_
              refine h_top (show (63 : Int) = sgS (rdN σ k i false) from by unfold sgS; (repeat first | rw [if_pos (by omega)] | rw [if_neg (by omega)]) <;> omega) ?_
              exact join77  _ _ ls  hW hS (lv_sub hl [0, 1, 2, 3] rfl)
          · refine h_bipush F dX9_writeCaption_57 rfl ?_
            refine h_goto (tgt := 77) F dX9_writeCaption_59 (by decide) ?_
            refine h_top (show (45 : Int) = sgS (rdN σ k i false) from by unfold sgS; (repeat first | rw [if_pos (by omega)] | rw [if_neg (by omega)]) <;> omega) ?_
            exact join77  _ _ ls  hW hS (lv_sub hl [0, 1, 2, 3] rfl)
        refine lv_aload_n F.1 F.2.1 dX9_writeCaption_31 rfl (lv_at hl 1 rfl) ?_
        refine lv_iload_n F.1 F.2.1 dX9_writeCaption_32 rfl (lv_at hl 2 rfl) ?_
        refine cl_RX9_149 (As := [.int (iI k)]) (rest := []) F hl (c_X9_isLegible l X wz9 mo (up (up v 6 0) 31 (i)) σ k hO21_0 hs hwf (by omega)) hW hS hO21_0 rfl rfl ⟨Nat.le_of_ble_eq_true rfl, Nat.le_of_ble_eq_true rfl⟩ (Nat.le_of_ble_eq_true rfl) ⟨Nat.zero_le _, Nat.zero_le _⟩ dX9_writeCaption_33 (fun w1 H locs hp20 hW hS => ?_)
        rw [hp20] at hW; clear hp20; clear w1
        refine h_ifeqb (tgt := 49) F dX9_writeCaption_36 (by decide) (fun c21 => ?_) (fun c21 => ?_)
        · refine h_iconst F dX9_writeCaption_49 ?_
          refine h_top (show ((-1) : Int) = rdN σ k i false from by unfold rdN; first | (rw [‹legS σ k = true›]; rfl) | (rw [‹legS σ k = false›]; rfl)) ?_
          exact join50  _ _ ls  hW hS (lv_sub hl [0, 1, 2] rfl)
        · refine lv_aload_n F.1 F.2.1 dX9_writeCaption_39 rfl (lv_at hl 1 rfl) ?_
          refine lv_iload_n F.1 F.2.1 dX9_writeCaption_40 rfl (lv_at hl 2 rfl) ?_
          refine lv_iload_n F.1 F.2.1 dX9_writeCaption_41 rfl (lv_at hl 0 rfl) ?_
          refine h_iconst F dX9_writeCaption_42 ?_
          refine cl_RX9_152 (As := [.int (iI k), .int (iI i), .int (iI 0)]) (rest := []) F hl (c_rd_f l X wz9 mo (up (up v 6 0) 31 (i)) σ k i hO21_0 hs hwf (by omega) (by omega) (by assumption)) hW hS hO21_0 rfl rfl ⟨Nat.le_of_ble_eq_true rfl, Nat.le_of_ble_eq_true rfl⟩ (Nat.le_of_ble_eq_true rfl) ⟨Nat.zero_le _, Nat.zero_le _⟩ dX9_writeCaption_43 (fun w1 H locs hp22 hW hS => ?_)
          rw [hp22] at hW; clear hp22; clear w1
          refine h_goto (tgt := 50) F dX9_writeCaption_46 (by decide) ?_
          refine h_top (show (rdS σ k i false : Int) = rdN σ k i false from by unfold rdN; first | (rw [‹legS σ k = true›]; rfl) | (rw [‹legS σ k = false›]; rfl)) ?_
          exact join50  _ _ ls  hW hS (lv_sub hl [0, 1, 2] rfl)
  exact loop21 ((cp σ k 0 - 0) + 1 : Int).toNat 0  (by omega) (by omega) w7 (by rw [show (up (up v 6 0) 31 (0) : Int → Int) = up (up v 6 0) 31 0 from rfl]; exact ho9) (by rw [show (wcF oo σ k (0 : Int).toNat : Int → Int) = oo from rfl]; exact hoo) (fun q _ _ => rfl)  _ _ ls hW hS (lv_sub hl [0, 1, 2] rfl)
set_option maxHeartbeats 4000000 in
set_option maxRecDepth 100000 in
theorem c_X9_writeCaption_x (l : Launch) (X : Cx) (w : Wo) (mo : Nat) (v σ : Int → Int) (k : Int) (hM : w mo = some (.inr (9, mL mo v))) (hs : w (mo + 1) = some (aZ X 1317 σ)) (hwf : WF σ) (hk : -2147483648 ≤ k ∧ k < 2147483648) (hb : ¬ (0 ≤ k ∧ k < σ 5)) : CM l X yX9_writeCaption cX9_writeCaption 4 (some (.int)) (rmk 4 97) [.ref mo, .int (iI k)] w (some (.int (iI 0))) (fun w' => w' mo = some (.inr (9, mL mo (up v 6 1))) ∧ ∀ q : Nat, q ≠ mo → w' q = w q) := by
  refine CM.of (lv := [(0, .ref mo), (1, .int (iI k))]) (by decide) (Nat.le_of_ble_eq_true rfl) rfl (fun p e s m below meth c ls F hr hlk hin hW hS hl => ?_)
  have hZ0 := hW.2.2
  have hB9 := hW.1.2
  clear hin
  have hF := hwf.1
  unfold WF0 at hF
  refine lv_aload_n F.1 F.2.1 dX9_writeCaption_0 rfl (lv_at hl 0 rfl) ?_
  refine lv_aload_n F.1 F.2.1 dX9_writeCaption_1 rfl (lv_at hl 0 rfl) ?_
  refine lv_iload_n F.1 F.2.1 dX9_writeCaption_2 rfl (lv_at hl 1 rfl) ?_
  refine cl_RX9_158 (As := [.int (iI k)]) (rest := [.ref mo]) F hl (c_X9_isCaption l X w mo v σ k hM hs hwf (by omega)) hW hS hM rfl rfl ⟨Nat.le_of_ble_eq_true rfl, Nat.le_of_ble_eq_true rfl⟩ (Nat.le_of_ble_eq_true rfl) ⟨Nat.zero_le _, Nat.zero_le _⟩ dX9_writeCaption_3 (fun w1 H locs hp1 hW hS => ?_)
  rw [hp1] at hW; clear hp1; clear w1
  refine h_top (show (bz (decide (0 ≤ k ∧ k ≤ σ 5 - 1)) : Int) = bz false from congrArg bz (decide_eq_false (by omega))) ?_
  refine cl_RX9_74 (As := [.int (iI (bz false))]) (rest := []) F hl (c_pass_f l X w mo v σ hM hs hwf) hW hS hM rfl rfl ⟨Nat.le_of_ble_eq_true rfl, Nat.le_of_ble_eq_true rfl⟩ (Nat.le_of_ble_eq_true rfl) ⟨Nat.zero_le _, Nat.zero_le _⟩ dX9_writeCaption_6 (fun w2 H locs hp3 hW hS => ?_)
  obtain ⟨ho4, hn5⟩ := hp3
  have hs := (hn5 _ (by omega)).trans hs
  refine h_ifneb (tgt := 14) F dX9_writeCaption_9 (by decide) (fun c9 => absurd c9 (by decide)) (fun _ => ?_)
  refine h_iconst F dX9_writeCaption_12 ?_
  exact h_ireti F hr hlk hW hS ⟨ho4, (fun q h09 => by rw [hn5 q (by omega)])⟩ dX9_writeCaption_13
set_option maxHeartbeats 4000000 in
set_option maxRecDepth 100000 in
theorem c_X9_output (l : Launch) (X : Cx) (w : Wo) (mo : Nat) (v oo : Int → Int) (ix : Int) (hM : w mo = some (.inr (9, mL mo v))) (hoo : w (mo + 12) = some (aZ X 80 oo)) (hv31 : 0 ≤ v 31 ∧ v 31 ≤ 80) (hix : -2147483648 ≤ ix ∧ ix < 2147483648) : CM l X yX9_output cX9_output 2 (some (.int)) (rmk 1 25) [.ref mo, .int (iI ix)] w (some (.int (iI (byS oo (v 31) ix)))) (fun w' => w' mo = some (.inr (9, mL mo (up v 6 0))) ∧ ∀ q : Nat, q ≠ mo → w' q = w q) := by
  refine CM.of (lv := [(0, .ref mo), (1, .int (iI ix))]) (by decide) (Nat.le_of_ble_eq_true rfl) rfl (fun p e s m below meth c ls F hr hlk hin hW hS hl => ?_)
  have hZ0 := hW.2.2
  have hB9 := hW.1.2
  clear hin
  refine lv_aload_n F.1 F.2.1 dX9_output_0 rfl (lv_at hl 0 rfl) ?_
  refine h_iconst F dX9_output_1 ?_
  refine pf_RX9_58 F hW hS hM (Nat.le_of_ble_eq_true rfl) dX9_output_2 (fun w1 H locs ho3 hn2 hW hS => ?_)
  rw [mL_6] at ho3
  have hoo := (hn2 _ (by omega)).trans hoo
  refine lv_iload_n F.1 F.2.1 dX9_output_5 rfl (lv_at hl 1 rfl) ?_
  refine h_i2l F dX9_output_6 (by omega) ?_
  refine h_lconst (n := 0) (z := 0) F dX9_output_7 rfl ?_
  refine lv_aload_n F.1 F.2.1 dX9_output_8 rfl (lv_at hl 0 rfl) ?_
  refine gf_RX9_416 F hW ho3 rfl dX9_output_9 ?_
  refine h_top (show ((up v 6 0) 31 : Int) = v 31 from rfl) ?_
  refine h_iconst F dX9_output_12 ?_
  refine h_isub (a := v 31) (b := 1) F dX9_output_13 ?_
  refine h_i2l F dX9_output_14 (by omega) ?_
  refine cl_RX9_82 (As := [.long (lI ix), .long (lI 0), .long (lI ((v 31) - 1))]) (rest := []) F hl (c_X9_isIn l X w1 ix 0 ((v 31) - 1) (by omega) (by omega) (by omega)) hW hS rfl rfl ⟨Nat.le_of_ble_eq_true rfl, Nat.le_of_ble_eq_true rfl⟩ (Nat.le_of_ble_eq_true rfl) ⟨Nat.zero_le _, Nat.zero_le _⟩ dX9_output_15 (fun w1 H locs hp4 hW hS => ?_)
  rw [hp4] at hW; clear hp4; clear w1
  refine h_ifeqb (tgt := 30) F dX9_output_18 (by decide) (fun c5 => ?_) (fun c5 => ?_)
  · have c5d := of_decide_eq_false c5
    refine h_iconst F dX9_output_30 ?_
    refine h_top (show ((-1) : Int) = byS oo (v 31) ix from by unfold byS; first | rw [if_pos (by omega)] | rw [if_neg (by omega)]) ?_
    exact h_ireti F hr hlk hW hS ⟨ho3, (fun q h09 => by rw [hn2 q (by omega)])⟩ dX9_output_31
  · have c5d := of_decide_eq_true c5
    refine lv_aload_n F.1 F.2.1 dX9_output_21 rfl (lv_at hl 0 rfl) ?_
    refine gf_RX9_51 F hW ho3 rfl dX9_output_22 ?_
    refine lv_iload_n F.1 F.2.1 dX9_output_25 rfl (lv_at hl 1 rfl) ?_
    refine h_iald F hW hoo (by omega) (by omega) dX9_output_26 ?_
    refine h_goto (tgt := 31) F dX9_output_27 (by decide) ?_
    refine h_top (show (oo ix : Int) = byS oo (v 31) ix from by unfold byS; first | rw [if_pos (by omega)] | rw [if_neg (by omega)]) ?_
    exact h_ireti F hr hlk hW hS ⟨ho3, (fun q h09 => by rw [hn2 q (by omega)])⟩ dX9_output_31
set_option maxHeartbeats 4000000 in
set_option maxRecDepth 100000 in
theorem c_X9_save (l : Launch) (X : Cx) (w : Wo) (mo : Nat) (v σ : Int → Int) (sv bs9 : Int → Int) (k : Int) (hM : w mo = some (.inr (9, mL mo v))) (hs : w (mo + 1) = some (aZ X 1317 σ)) (hwf : WF σ) (hsv : w (mo + 4) = some (aZ X 2634 sv)) (hbs : w (mo + 5) = some (aB X 2 bs9)) (hk : 0 ≤ k ∧ k ≤ 1) : CM l X yX9_save cX9_save 2 none (rmk 1 25) [.ref mo, .int (iI k)] w none (fun w' => w' mo = some (.inr (9, mL mo (up v 6 0))) ∧ w' (mo + 4) = some (aZ X 2634 (cpN σ sv 0 (1317 * k) 1317)) ∧ w' (mo + 5) = some (aB X 2 (up bs9 k (bz true))) ∧ ∀ q : Nat, q ≠ mo → q ≠ mo + 4 → q ≠ mo + 5 → w' q = w q) := by
  refine CM.of (lv := [(0, .ref mo), (1, .int (iI k))]) (by decide) (Nat.le_of_ble_eq_true rfl) rfl (fun p e s m below meth c ls F hr hlk hin hW hS hl => ?_)
  have hZ0 := hW.2.2
  have hB9 := hW.1.2
  clear hin
  have hF := hwf.1
  unfold WF0 at hF
  refine lv_aload_n F.1 F.2.1 dX9_save_0 rfl (lv_at hl 0 rfl) ?_
  refine lv_iload_n F.1 F.2.1 dX9_save_1 rfl (lv_at hl 1 rfl) ?_
  refine h_i2l F dX9_save_2 (by omega) ?_
  refine h_lconst (n := 0) (z := 0) F dX9_save_3 rfl ?_
  refine h_lconst (n := 1) (z := 1) F dX9_save_4 rfl ?_
  refine cl_RX9_82 (As := [.long (lI k), .long (lI 0), .long (lI 1)]) (rest := [.ref mo]) F hl (c_X9_isIn l X w k 0 1 (by omega) (by omega) (by omega)) hW hS rfl rfl ⟨Nat.le_of_ble_eq_true rfl, Nat.le_of_ble_eq_true rfl⟩ (Nat.le_of_ble_eq_true rfl) ⟨Nat.zero_le _, Nat.zero_le _⟩ dX9_save_5 (fun w1 H locs hp1 hW hS => ?_)
  rw [hp1] at hW; clear hp1; clear w1
  refine h_top (show (bz (decide (0 ≤ k ∧ k ≤ 1)) : Int) = bz true from congrArg bz (decide_eq_true (by omega))) ?_
  refine cl_RX9_74 (As := [.int (iI (bz true))]) (rest := []) F hl (c_pass_t l X w mo v σ hM hs hwf) hW hS hM rfl rfl ⟨Nat.le_of_ble_eq_true rfl, Nat.le_of_ble_eq_true rfl⟩ (Nat.le_of_ble_eq_true rfl) ⟨Nat.zero_le _, Nat.zero_le _⟩ dX9_save_8 (fun w2 H locs hp3 hW hS => ?_)
  obtain ⟨ho4, hn5⟩ := hp3
  have hs := (hn5 _ (by omega)).trans hs
  have hsv := (hn5 _ (by omega)).trans hsv
  have hbs := (hn5 _ (by omega)).trans hbs
  refine h_ifeqb (tgt := 38) F dX9_save_11 (by decide) (fun c9 => absurd c9 (by decide)) (fun _ => ?_)
  refine lv_aload_n F.1 F.2.1 dX9_save_14 rfl (lv_at hl 0 rfl) ?_
  refine gf_RX9_7 F hW ho4 rfl dX9_save_15 ?_
  refine h_iconst F dX9_save_18 ?_
  refine lv_aload_n F.1 F.2.1 dX9_save_19 rfl (lv_at hl 0 rfl) ?_
  refine gf_RX9_19 F hW ho4 rfl dX9_save_20 ?_
  refine h_sipush F dX9_save_23 rfl ?_
  refine lv_iload_n F.1 F.2.1 dX9_save_26 rfl (lv_at hl 1 rfl) ?_
  refine h_imul (a := 1317) (b := k) F dX9_save_27 ?_
  refine cl_RX9_64 (As := [.ref (mo + 1), .int (iI 0), .ref (mo + 4), .int (iI (1317 * k))]) (rest := []) F hl (c_X9_copies l X w2 (mo + 1) (mo + 4) 1317 2634 σ sv 0 (1317 * k) hs hsv (by omega) (by omega) (by omega)) hW hS rfl rfl ⟨Nat.le_of_ble_eq_true rfl, Nat.le_of_ble_eq_true rfl⟩ (Nat.le_of_ble_eq_true rfl) ⟨Nat.zero_le _, Nat.zero_le _⟩ dX9_save_28 (fun w7 H locs hp8 hW hS => ?_)
  obtain ⟨ha9, hn10⟩ := hp8
  have ho4 := (hn10 _ (by omega)).trans ho4
  have hs := (hn10 _ (by omega)).trans hs
  have hbs := (hn10 _ (by omega)).trans hbs
  refine lv_aload_n F.1 F.2.1 dX9_save_31 rfl (lv_at hl 0 rfl) ?_
  refine gf_RX9_22 F hW ho4 rfl dX9_save_32 ?_
  refine lv_iload_n F.1 F.2.1 dX9_save_35 rfl (lv_at hl 1 rfl) ?_
  refine h_iconst F dX9_save_36 ?_
  refine h_top (show (1 : Int) = bz true from rfl) ?_
  refine h_zast F hW hS hbs (by omega) (by omega) dX9_save_37 (fun w11 H locs ho13 hn12 hW hS => ?_)
  have ho4 := (hn12 _ (by omega)).trans ho4
  have hs := (hn12 _ (by omega)).trans hs
  have ha9 := (hn12 _ (by omega)).trans ha9
  exact h_vret F hr hlk hW hS ⟨ho4, ha9, ho13, (fun q h09 h19 h29 => by rw [hn12 q (by omega), hn10 q (by omega), hn5 q (by omega)])⟩ dX9_save_38
set_option maxHeartbeats 4000000 in
set_option maxRecDepth 100000 in
theorem c_X9_save_x (l : Launch) (X : Cx) (w : Wo) (mo : Nat) (v σ : Int → Int) (k : Int) (hM : w mo = some (.inr (9, mL mo v))) (hs : w (mo + 1) = some (aZ X 1317 σ)) (hwf : WF σ) (hk : -2147483648 ≤ k ∧ k < 2147483648) (hb : ¬ (0 ≤ k ∧ k ≤ 1)) : CM l X yX9_save cX9_save 2 none (rmk 1 25) [.ref mo, .int (iI k)] w none (fun w' => w' mo = some (.inr (9, mL mo (up v 6 1))) ∧ ∀ q : Nat, q ≠ mo → w' q = w q) := by
  refine CM.of (lv := [(0, .ref mo), (1, .int (iI k))]) (by decide) (Nat.le_of_ble_eq_true rfl) rfl (fun p e s m below meth c ls F hr hlk hin hW hS hl => ?_)
  have hZ0 := hW.2.2
  have hB9 := hW.1.2
  clear hin
  have hF := hwf.1
  unfold WF0 at hF
  refine lv_aload_n F.1 F.2.1 dX9_save_0 rfl (lv_at hl 0 rfl) ?_
  refine lv_iload_n F.1 F.2.1 dX9_save_1 rfl (lv_at hl 1 rfl) ?_
  refine h_i2l F dX9_save_2 (by omega) ?_
  refine h_lconst (n := 0) (z := 0) F dX9_save_3 rfl ?_
  refine h_lconst (n := 1) (z := 1) F dX9_save_4 rfl ?_
  refine cl_RX9_82 (As := [.long (lI k), .long (lI 0), .long (lI 1)]) (rest := [.ref mo]) F hl (c_X9_isIn l X w k 0 1 (by omega) (by omega) (by omega)) hW hS rfl rfl ⟨Nat.le_of_ble_eq_true rfl, Nat.le_of_ble_eq_true rfl⟩ (Nat.le_of_ble_eq_true rfl) ⟨Nat.zero_le _, Nat.zero_le _⟩ dX9_save_5 (fun w1 H locs hp1 hW hS => ?_)
  rw [hp1] at hW; clear hp1; clear w1
  refine h_top (show (bz (decide (0 ≤ k ∧ k ≤ 1)) : Int) = bz false from congrArg bz (decide_eq_false (by omega))) ?_
  refine cl_RX9_74 (As := [.int (iI (bz false))]) (rest := []) F hl (c_pass_f l X w mo v σ hM hs hwf) hW hS hM rfl rfl ⟨Nat.le_of_ble_eq_true rfl, Nat.le_of_ble_eq_true rfl⟩ (Nat.le_of_ble_eq_true rfl) ⟨Nat.zero_le _, Nat.zero_le _⟩ dX9_save_8 (fun w2 H locs hp3 hW hS => ?_)
  obtain ⟨ho4, hn5⟩ := hp3
  have hs := (hn5 _ (by omega)).trans hs
  refine h_ifeqb (tgt := 38) F dX9_save_11 (by decide) (fun _ => ?_) (fun c9 => absurd c9 (by decide))
  exact h_vret F hr hlk hW hS ⟨ho4, (fun q h09 => by rw [hn5 q (by omega)])⟩ dX9_save_38
set_option maxHeartbeats 4000000 in
set_option maxRecDepth 100000 in
theorem c_X9_restore (l : Launch) (X : Cx) (w : Wo) (mo : Nat) (v σ : Int → Int) (sv bs9 : Int → Int) (k : Int) (hM : w mo = some (.inr (9, mL mo v))) (hs : w (mo + 1) = some (aZ X 1317 σ)) (hwf : WF σ) (hsv : w (mo + 4) = some (aZ X 2634 sv)) (hbs : w (mo + 5) = some (aB X 2 bs9)) (hk : 0 ≤ k ∧ k ≤ 1) (hb1 : bs9 k = 1) : CM l X yX9_restore cX9_restore 3 none (rmk 1 25) [.ref mo, .int (iI k)] w none (fun w' => w' mo = some (.inr (9, mL mo (up (up v 6 0) 5 0))) ∧ w' (mo + 1) = some (aZ X 1317 (cpN sv σ (1317 * k) 0 1317)) ∧ ∀ q : Nat, q ≠ mo → q ≠ mo + 1 → w' q = w q) := by
  refine CM.of (lv := [(0, .ref mo), (1, .int (iI k))]) (by decide) (Nat.le_of_ble_eq_true rfl) rfl (fun p e s m below meth c ls F hr hlk hin hW hS hl => ?_)
  have hZ0 := hW.2.2
  have hB9 := hW.1.2
  clear hin
  have hF := hwf.1
  unfold WF0 at hF
  refine lv_iload_n F.1 F.2.1 dX9_restore_0 rfl (lv_at hl 1 rfl) ?_
  refine h_i2l F dX9_restore_1 (by omega) ?_
  refine h_lconst (n := 0) (z := 0) F dX9_restore_2 rfl ?_
  refine h_lconst (n := 1) (z := 1) F dX9_restore_3 rfl ?_
  refine cl_RX9_82 (As := [.long (lI k), .long (lI 0), .long (lI 1)]) (rest := []) F hl (c_X9_isIn l X w k 0 1 (by omega) (by omega) (by omega)) hW hS rfl rfl ⟨Nat.le_of_ble_eq_true rfl, Nat.le_of_ble_eq_true rfl⟩ (Nat.le_of_ble_eq_true rfl) ⟨Nat.zero_le _, Nat.zero_le _⟩ dX9_restore_4 (fun w1 H locs hp1 hW hS => ?_)
  rw [hp1] at hW; clear hp1; clear w1
  refine h_top (show (bz (decide (0 ≤ k ∧ k ≤ 1)) : Int) = bz true from congrArg bz (decide_eq_true (by omega))) ?_
  refine lv_istore_n (lv' := [(2, .int (iI (bz true))), (0, .ref mo), (1, .int (iI k))]) F.1 F.2.1 dX9_restore_7 rfl hl (by decide) rfl (fun ls hl => ?_)
  refine lv_aload_n F.1 F.2.1 dX9_restore_8 rfl (lv_at hl 1 rfl) ?_
  refine lv_iload_n F.1 F.2.1 dX9_restore_9 rfl (lv_at hl 0 rfl) ?_
  refine h_top (show (bz true : Int) = 1 from rfl) ?_
  refine lv_iload_n F.1 F.2.1 dX9_restore_10 rfl (lv_at hl 0 rfl) ?_
  refine h_top (show (bz true : Int) = 1 from rfl) ?_
  refine h_ifeq (tgt := 27) F dX9_restore_11 (by decide) (by decide) (fun c9 => absurd c9 (by decide)) (fun _ => ?_)
  refine lv_aload_n F.1 F.2.1 dX9_restore_14 rfl (lv_at hl 1 rfl) ?_
  refine gf_RX9_22 F hW hM rfl dX9_restore_15 ?_
  refine lv_iload_n F.1 F.2.1 dX9_restore_18 rfl (lv_at hl 2 rfl) ?_
  refine h_zald F hW hbs (by omega) (by omega) dX9_restore_19 ?_
  refine h_top (show (bs9 k : Int) = 1 from hb1) ?_
  refine h_ifeq (tgt := 27) F dX9_restore_20 (by decide) (by decide) (fun c9 => absurd c9 (by decide)) (fun _ => ?_)
  refine h_iconst F dX9_restore_23 ?_
  refine h_goto (tgt := 28) F dX9_restore_24 (by decide) ?_
  refine cl_RX9_163 (As := [.int (iI 1), .int (iI 1)]) (rest := []) F hl (c_both_tt l X w mo v σ hM hs hwf) hW hS hM rfl rfl ⟨Nat.le_of_ble_eq_true rfl, Nat.le_of_ble_eq_true rfl⟩ (Nat.le_of_ble_eq_true rfl) ⟨Nat.zero_le _, Nat.zero_le _⟩ dX9_restore_28 (fun w4 H locs hp5 hW hS => ?_)
  obtain ⟨ho6, hn7⟩ := hp5
  have hs := (hn7 _ (by omega)).trans hs
  have hsv := (hn7 _ (by omega)).trans hsv
  have hbs := (hn7 _ (by omega)).trans hbs
  refine h_ifneb (tgt := 35) F dX9_restore_31 (by decide) (fun _ => ?_) (fun c9 => absurd c9 (by decide))
  refine lv_aload_n F.1 F.2.1 dX9_restore_35 rfl (lv_at hl 1 rfl) ?_
  refine gf_RX9_19 F hW ho6 rfl dX9_restore_36 ?_
  refine h_sipush F dX9_restore_39 rfl ?_
  refine lv_iload_n F.1 F.2.1 dX9_restore_42 rfl (lv_at hl 2 rfl) ?_
  refine h_imul (a := 1317) (b := k) F dX9_restore_43 ?_
  refine lv_aload_n F.1 F.2.1 dX9_restore_44 rfl (lv_at hl 1 rfl) ?_
  refine gf_RX9_7 F hW ho6 rfl dX9_restore_45 ?_
  refine h_iconst F dX9_restore_48 ?_
  refine cl_RX9_64 (As := [.ref (mo + 4), .int (iI (1317 * k)), .ref (mo + 1), .int (iI 0)]) (rest := []) F hl (c_X9_copies l X w4 (mo + 4) (mo + 1) 2634 1317 sv σ (1317 * k) 0 hsv hs (by omega) (by omega) (by omega)) hW hS rfl rfl ⟨Nat.le_of_ble_eq_true rfl, Nat.le_of_ble_eq_true rfl⟩ (Nat.le_of_ble_eq_true rfl) ⟨Nat.zero_le _, Nat.zero_le _⟩ dX9_restore_49 (fun w9 H locs hp10 hW hS => ?_)
  obtain ⟨ha11, hn12⟩ := hp10
  have ho6 := (hn12 _ (by omega)).trans ho6
  have hsv := (hn12 _ (by omega)).trans hsv
  have hbs := (hn12 _ (by omega)).trans hbs
  refine lv_aload_n F.1 F.2.1 dX9_restore_52 rfl (lv_at hl 1 rfl) ?_
  refine h_iconst F dX9_restore_53 ?_
  refine pf_RX9_61 F hW hS ho6 (Nat.le_of_ble_eq_true rfl) dX9_restore_54 (fun w13 H locs ho15 hn14 hW hS => ?_)
  rw [mL_5] at ho15
  have ha11 := (hn14 _ (by omega)).trans ha11
  have hsv := (hn14 _ (by omega)).trans hsv
  have hbs := (hn14 _ (by omega)).trans hbs
  exact h_vret F hr hlk hW hS ⟨ho15, ha11, (fun q h09 h19 => by rw [hn14 q (by omega), hn12 q (by omega), hn7 q (by omega)])⟩ dX9_restore_57
set_option maxHeartbeats 4000000 in
set_option maxRecDepth 100000 in
theorem c_X9_restore_x2 (l : Launch) (X : Cx) (w : Wo) (mo : Nat) (v σ : Int → Int) (sv bs9 : Int → Int) (k : Int) (hM : w mo = some (.inr (9, mL mo v))) (hs : w (mo + 1) = some (aZ X 1317 σ)) (hwf : WF σ) (hsv : w (mo + 4) = some (aZ X 2634 sv)) (hbs : w (mo + 5) = some (aB X 2 bs9)) (hk : 0 ≤ k ∧ k ≤ 1) (hb1 : bs9 k = 0) : CM l X yX9_restore cX9_restore 3 none (rmk 1 25) [.ref mo, .int (iI k)] w none (fun w' => w' mo = some (.inr (9, mL mo (up v 6 2))) ∧ ∀ q : Nat, q ≠ mo → w' q = w q) := by
  refine CM.of (lv := [(0, .ref mo), (1, .int (iI k))]) (by decide) (Nat.le_of_ble_eq_true rfl) rfl (fun p e s m below meth c ls F hr hlk hin hW hS hl => ?_)
  have hZ0 := hW.2.2
  have hB9 := hW.1.2
  clear hin
  have hF := hwf.1
  unfold WF0 at hF
  refine lv_iload_n F.1 F.2.1 dX9_restore_0 rfl (lv_at hl 1 rfl) ?_
  refine h_i2l F dX9_restore_1 (by omega) ?_
  refine h_lconst (n := 0) (z := 0) F dX9_restore_2 rfl ?_
  refine h_lconst (n := 1) (z := 1) F dX9_restore_3 rfl ?_
  refine cl_RX9_82 (As := [.long (lI k), .long (lI 0), .long (lI 1)]) (rest := []) F hl (c_X9_isIn l X w k 0 1 (by omega) (by omega) (by omega)) hW hS rfl rfl ⟨Nat.le_of_ble_eq_true rfl, Nat.le_of_ble_eq_true rfl⟩ (Nat.le_of_ble_eq_true rfl) ⟨Nat.zero_le _, Nat.zero_le _⟩ dX9_restore_4 (fun w1 H locs hp1 hW hS => ?_)
  rw [hp1] at hW; clear hp1; clear w1
  refine h_top (show (bz (decide (0 ≤ k ∧ k ≤ 1)) : Int) = bz true from congrArg bz (decide_eq_true (by omega))) ?_
  refine lv_istore_n (lv' := [(2, .int (iI (bz true))), (0, .ref mo), (1, .int (iI k))]) F.1 F.2.1 dX9_restore_7 rfl hl (by decide) rfl (fun ls hl => ?_)
  refine lv_aload_n F.1 F.2.1 dX9_restore_8 rfl (lv_at hl 1 rfl) ?_
  refine lv_iload_n F.1 F.2.1 dX9_restore_9 rfl (lv_at hl 0 rfl) ?_
  refine h_top (show (bz true : Int) = 1 from rfl) ?_
  refine lv_iload_n F.1 F.2.1 dX9_restore_10 rfl (lv_at hl 0 rfl) ?_
  refine h_top (show (bz true : Int) = 1 from rfl) ?_
  refine h_ifeq (tgt := 27) F dX9_restore_11 (by decide) (by decide) (fun c9 => absurd c9 (by decide)) (fun _ => ?_)
  refine lv_aload_n F.1 F.2.1 dX9_restore_14 rfl (lv_at hl 1 rfl) ?_
  refine gf_RX9_22 F hW hM rfl dX9_restore_15 ?_
  refine lv_iload_n F.1 F.2.1 dX9_restore_18 rfl (lv_at hl 2 rfl) ?_
  refine h_zald F hW hbs (by omega) (by omega) dX9_restore_19 ?_
  refine h_top (show (bs9 k : Int) = 0 from hb1) ?_
  refine h_ifeq (tgt := 27) F dX9_restore_20 (by decide) (by decide) (fun _ => ?_) (fun c9 => absurd c9 (by decide))
  refine h_iconst F dX9_restore_27 ?_
  refine cl_RX9_163 (As := [.int (iI 1), .int (iI 0)]) (rest := []) F hl (c_both_tf l X w mo v σ hM hs hwf) hW hS hM rfl rfl ⟨Nat.le_of_ble_eq_true rfl, Nat.le_of_ble_eq_true rfl⟩ (Nat.le_of_ble_eq_true rfl) ⟨Nat.zero_le _, Nat.zero_le _⟩ dX9_restore_28 (fun w4 H locs hp5 hW hS => ?_)
  obtain ⟨ho6, hn7⟩ := hp5
  have hs := (hn7 _ (by omega)).trans hs
  have hsv := (hn7 _ (by omega)).trans hsv
  have hbs := (hn7 _ (by omega)).trans hbs
  refine h_ifneb (tgt := 35) F dX9_restore_31 (by decide) (fun c9 => absurd c9 (by decide)) (fun _ => ?_)
  exact h_vret F hr hlk hW hS ⟨ho6, (fun q h09 => by rw [hn7 q (by omega)])⟩ dX9_restore_34
set_option maxHeartbeats 4000000 in
set_option maxRecDepth 100000 in
theorem c_X9_restore_x1 (l : Launch) (X : Cx) (w : Wo) (mo : Nat) (v σ : Int → Int) (k : Int) (hM : w mo = some (.inr (9, mL mo v))) (hs : w (mo + 1) = some (aZ X 1317 σ)) (hwf : WF σ) (hk : -2147483648 ≤ k ∧ k < 2147483648) (hb : ¬ (0 ≤ k ∧ k ≤ 1)) : CM l X yX9_restore cX9_restore 3 none (rmk 1 25) [.ref mo, .int (iI k)] w none (fun w' => w' mo = some (.inr (9, mL mo (up v 6 1))) ∧ ∀ q : Nat, q ≠ mo → w' q = w q) := by
  refine CM.of (lv := [(0, .ref mo), (1, .int (iI k))]) (by decide) (Nat.le_of_ble_eq_true rfl) rfl (fun p e s m below meth c ls F hr hlk hin hW hS hl => ?_)
  have hZ0 := hW.2.2
  have hB9 := hW.1.2
  clear hin
  have hF := hwf.1
  unfold WF0 at hF
  refine lv_iload_n F.1 F.2.1 dX9_restore_0 rfl (lv_at hl 1 rfl) ?_
  refine h_i2l F dX9_restore_1 (by omega) ?_
  refine h_lconst (n := 0) (z := 0) F dX9_restore_2 rfl ?_
  refine h_lconst (n := 1) (z := 1) F dX9_restore_3 rfl ?_
  refine cl_RX9_82 (As := [.long (lI k), .long (lI 0), .long (lI 1)]) (rest := []) F hl (c_X9_isIn l X w k 0 1 (by omega) (by omega) (by omega)) hW hS rfl rfl ⟨Nat.le_of_ble_eq_true rfl, Nat.le_of_ble_eq_true rfl⟩ (Nat.le_of_ble_eq_true rfl) ⟨Nat.zero_le _, Nat.zero_le _⟩ dX9_restore_4 (fun w1 H locs hp1 hW hS => ?_)
  rw [hp1] at hW; clear hp1; clear w1
  refine h_top (show (bz (decide (0 ≤ k ∧ k ≤ 1)) : Int) = bz false from congrArg bz (decide_eq_false (by omega))) ?_
  refine lv_istore_n (lv' := [(2, .int (iI (bz false))), (0, .ref mo), (1, .int (iI k))]) F.1 F.2.1 dX9_restore_7 rfl hl (by decide) rfl (fun ls hl => ?_)
  refine lv_aload_n F.1 F.2.1 dX9_restore_8 rfl (lv_at hl 1 rfl) ?_
  refine lv_iload_n F.1 F.2.1 dX9_restore_9 rfl (lv_at hl 0 rfl) ?_
  refine h_top (show (bz false : Int) = 0 from rfl) ?_
  refine lv_iload_n F.1 F.2.1 dX9_restore_10 rfl (lv_at hl 0 rfl) ?_
  refine h_top (show (bz false : Int) = 0 from rfl) ?_
  refine h_ifeq (tgt := 27) F dX9_restore_11 (by decide) (by decide) (fun _ => ?_) (fun c9 => absurd c9 (by decide))
  refine h_iconst F dX9_restore_27 ?_
  refine cl_RX9_163 (As := [.int (iI 0), .int (iI 0)]) (rest := []) F hl (c_both_f l X w mo v σ false hM hs hwf) hW hS hM rfl rfl ⟨Nat.le_of_ble_eq_true rfl, Nat.le_of_ble_eq_true rfl⟩ (Nat.le_of_ble_eq_true rfl) ⟨Nat.zero_le _, Nat.zero_le _⟩ dX9_restore_28 (fun w3 H locs hp4 hW hS => ?_)
  obtain ⟨ho5, hn6⟩ := hp4
  have hs := (hn6 _ (by omega)).trans hs
  refine h_ifneb (tgt := 35) F dX9_restore_31 (by decide) (fun c9 => absurd c9 (by decide)) (fun _ => ?_)
  exact h_vret F hr hlk hW hS ⟨ho5, (fun q h09 => by rw [hn6 q (by omega)])⟩ dX9_restore_34
set_option maxHeartbeats 4000000 in
set_option maxRecDepth 100000 in
theorem c_X9_undo_0 (l : Launch) (X : Cx) (w : Wo) (mo : Nat) (v σ : Int → Int) (hM : w mo = some (.inr (9, mL mo v))) (hs : w (mo + 1) = some (aZ X 1317 σ)) (hwf : WF σ) (hu : v 5 = 0) : CM l X yX9_undo cX9_undo 1 (some (.int)) (rmk 1 24) [.ref mo] w (some (.int (iI (-1)))) (fun w' => w' mo = some (.inr (9, mL mo (up v 6 0))) ∧ ∀ q : Nat, q ≠ mo → w' q = w q) := by
  refine CM.of (lv := [(0, .ref mo)]) (by decide) (Nat.le_of_ble_eq_true rfl) rfl (fun p e s m below meth c ls F hr hlk hin hW hS hl => ?_)
  have hZ0 := hW.2.2
  have hB9 := hW.1.2
  clear hin
  have hF := hwf.1
  unfold WF0 at hF
  refine lv_aload_n F.1 F.2.1 dX9_undo_0 rfl (lv_at hl 0 rfl) ?_
  refine h_iconst F dX9_undo_1 ?_
  refine pf_RX9_58 F hW hS hM (Nat.le_of_ble_eq_true rfl) dX9_undo_2 (fun w1 H locs ho3 hn2 hW hS => ?_)
  rw [mL_6] at ho3
  have hs := (hn2 _ (by omega)).trans hs
  refine lv_aload_n F.1 F.2.1 dX9_undo_5 rfl (lv_at hl 0 rfl) ?_
  refine gf_RX9_61 F hW ho3 rfl dX9_undo_6 ?_
  refine h_top (show ((up v 6 0) 5 : Int) = v 5 from rfl) ?_
  refine h_ifne (tgt := 14) F dX9_undo_9 (by decide) (by omega) (fun c4 => ?_) (fun c4 => ?_)
  · exfalso; omega
  · refine h_iconst F dX9_undo_12 ?_
    refine h_top (show ((-1) : Int) = -1 from by first | rfl | omega | (simp_all; done)) ?_
    exact h_ireti F hr hlk hW hS ⟨ho3, (fun q h09 => by rw [hn2 q (by omega)])⟩ dX9_undo_13
set_option maxHeartbeats 4000000 in
set_option maxRecDepth 100000 in
theorem c_X9_undo (l : Launch) (X : Cx) (w : Wo) (mo : Nat) (v σ : Int → Int) (pa : Int → Int) (hM : w mo = some (.inr (9, mL mo v))) (hs : w (mo + 1) = some (aZ X 1317 σ)) (hwf : WF σ) (hpa : w (mo + 3) = some (aZ X 10536 pa)) (hu : 0 < v 5 ∧ v 5 ≤ 8) : CM l X yX9_undo cX9_undo 1 (some (.int)) (rmk 1 24) [.ref mo] w (some (.int (iI (v 5 - 1)))) (fun w' => w' mo = some (.inr (9, mL mo (up (up v 6 0) 5 (v 5 - 1)))) ∧ w' (mo + 1) = some (aZ X 1317 (cpN pa σ (1317 * (v 5 - 1)) 0 1317)) ∧ ∀ q : Nat, q ≠ mo → q ≠ mo + 1 → w' q = w q) := by
  refine CM.of (lv := [(0, .ref mo)]) (by decide) (Nat.le_of_ble_eq_true rfl) rfl (fun p e s m below meth c ls F hr hlk hin hW hS hl => ?_)
  have hZ0 := hW.2.2
  have hB9 := hW.1.2
  clear hin
  have hF := hwf.1
  unfold WF0 at hF
  refine lv_aload_n F.1 F.2.1 dX9_undo_0 rfl (lv_at hl 0 rfl) ?_
  refine h_iconst F dX9_undo_1 ?_
  refine pf_RX9_58 F hW hS hM (Nat.le_of_ble_eq_true rfl) dX9_undo_2 (fun w1 H locs ho3 hn2 hW hS => ?_)
  rw [mL_6] at ho3
  have hs := (hn2 _ (by omega)).trans hs
  have hpa := (hn2 _ (by omega)).trans hpa
  refine lv_aload_n F.1 F.2.1 dX9_undo_5 rfl (lv_at hl 0 rfl) ?_
  refine gf_RX9_61 F hW ho3 rfl dX9_undo_6 ?_
  refine h_top (show ((up v 6 0) 5 : Int) = v 5 from rfl) ?_
  refine h_ifne (tgt := 14) F dX9_undo_9 (by decide) (by omega) (fun c4 => ?_) (fun c4 => ?_)
  · refine lv_aload_n F.1 F.2.1 dX9_undo_14 rfl (lv_at hl 0 rfl) ?_
    refine lv_dup F.1 F.2.1 dX9_undo_15 rfl ?_
    refine gf_RX9_61 F hW ho3 rfl dX9_undo_16 ?_
    refine h_top (show ((up v 6 0) 5 : Int) = v 5 from rfl) ?_
    refine h_iconst F dX9_undo_19 ?_
    refine h_isub (a := v 5) (b := 1) F dX9_undo_20 ?_
    refine pf_RX9_61 F hW hS ho3 (Nat.le_of_ble_eq_true rfl) dX9_undo_21 (fun w5 H locs ho7 hn6 hW hS => ?_)
    rw [mL_5] at ho7
    have hs := (hn6 _ (by omega)).trans hs
    have hpa := (hn6 _ (by omega)).trans hpa
    refine lv_aload_n F.1 F.2.1 dX9_undo_24 rfl (lv_at hl 0 rfl) ?_
    refine gf_RX9_16 F hW ho7 rfl dX9_undo_25 ?_
    refine h_sipush F dX9_undo_28 rfl ?_
    refine lv_aload_n F.1 F.2.1 dX9_undo_31 rfl (lv_at hl 0 rfl) ?_
    refine gf_RX9_61 F hW ho7 rfl dX9_undo_32 ?_
    refine h_top (show ((up (up v 6 0) 5 ((v 5) - 1)) 5 : Int) = (v 5) - 1 from rfl) ?_
    refine h_imul (a := 1317) (b := (v 5) - 1) F dX9_undo_35 ?_
    refine lv_aload_n F.1 F.2.1 dX9_undo_36 rfl (lv_at hl 0 rfl) ?_
    refine gf_RX9_7 F hW ho7 rfl dX9_undo_37 ?_
    refine h_iconst F dX9_undo_40 ?_
    refine cl_RX9_64 (As := [.ref (mo + 3), .int (iI (1317 * ((v 5) - 1))), .ref (mo + 1), .int (iI 0)]) (rest := []) F hl (c_X9_copies l X w5 (mo + 3) (mo + 1) 10536 1317 pa σ (1317 * ((v 5) - 1)) 0 hpa hs (by omega) (by omega) (by omega)) hW hS rfl rfl ⟨Nat.le_of_ble_eq_true rfl, Nat.le_of_ble_eq_true rfl⟩ (Nat.le_of_ble_eq_true rfl) ⟨Nat.zero_le _, Nat.zero_le _⟩ dX9_undo_41 (fun w8 H locs hp9 hW hS => ?_)
    obtain ⟨ha10, hn11⟩ := hp9
    have ho7 := (hn11 _ (by omega)).trans ho7
    have hpa := (hn11 _ (by omega)).trans hpa
    refine lv_aload_n F.1 F.2.1 dX9_undo_44 rfl (lv_at hl 0 rfl) ?_
    refine gf_RX9_61 F hW ho7 rfl dX9_undo_45 ?_
    refine h_top (show ((up (up v 6 0) 5 ((v 5) - 1)) 5 : Int) = (v 5) - 1 from rfl) ?_
    refine h_top (show ((v 5) - 1 : Int) = v 5 - 1 from by first | rfl | omega | (simp_all; done)) ?_
    exact h_ireti F hr hlk hW hS ⟨(by (rw [ho7]) <;> (rfl)), (by (rw [ha10]) <;> (rfl)), (fun q h09 h19 => by rw [hn11 q (by omega), hn6 q (by omega), hn2 q (by omega)])⟩ dX9_undo_48
  · exfalso; omega
set_option maxHeartbeats 4000000 in
set_option maxRecDepth 100000 in
theorem c_X8_save (l : Launch) (X : Cx) (w : Wo) (y : Nat) (su : Int) (σ τ : Int → Int) (k : Int) (hY : clO X w y su) (hL : loomAt X w (y + 1) σ) (hsu : 0 ≤ su ∧ su < 4) (hk : 0 ≤ k ∧ k ≤ 1) (hS9 : lmA X w (y + 255 + 25 * k.toNat) τ) (h89 : cap8 τ) : CM l X yX8_save cX8_save 2 none (rmk 3 87) [.ref y, .int (iI k)] w none (fun w' => w' y = some (.inr (8, [.ref (y + 1), .ref (y + 26), .ref (y + 51), .ref (y + 53), .ref (y + 255), .ref (y + 280), .int (iI (slO su k)), .ref (y + 305), .ref (y + 306), .ref (y + 307), .ref (y + 309), .ref (y + 311), .ref (y + 312), .ref (y + 315)])) ∧ loomAt X w' (y + 255 + 25 * k.toNat) σ ∧ ∀ q : Nat, q ≠ y → (q < y + 255 + 25 * k.toNat ∨ y + 255 + 25 * k.toNat + 25 ≤ q) → w' q = w q) := by
  refine CM.of (lv := [(0, .ref y), (1, .int (iI k))]) (by decide) (Nat.le_of_ble_eq_true rfl) rfl (fun p e s m below meth c ls F hr hlk hin hW hS hl => ?_)
  have hZ0 := hW.2.2
  have hB9 := hW.1.2
  clear hin
  unfold clO at hY
  have hO := hL.1.o
  have hA := hL.1
  have hwf := hL.2.2
  have hF := hwf.1
  unfold WF0 at hF
  have hSo := hS9.1
  refine lv_aload_n F.1 F.2.1 dX8_save_0 rfl (lv_at hl 0 rfl) ?_
  refine lv_iload_n F.1 F.2.1 dX8_save_1 rfl (lv_at hl 1 rfl) ?_
  refine cl_RX8_426 (As := [.int (iI k)]) (rest := []) F hl (c_X8_checkSlot l X w y su σ k hY hL (by omega)) hW hS hY rfl rfl ⟨Nat.le_of_ble_eq_true rfl, Nat.le_of_ble_eq_true rfl⟩ (Nat.le_of_ble_eq_true rfl) ⟨Nat.zero_le _, Nat.zero_le _⟩ dX8_save_2 (fun w1 H locs hp1 hW hS => ?_)
  rw [hp1] at hW; clear hp1; clear w1
  refine lv_aload_n F.1 F.2.1 dX8_save_5 rfl (lv_at hl 0 rfl) ?_
  refine lv_iload_n F.1 F.2.1 dX8_save_6 rfl (lv_at hl 1 rfl) ?_
  refine cl_RX8_429 (As := [.int (iI k)]) (rest := []) F hl (c_X8_savedIn l X w y su k hY (by omega)) hW hS hY rfl rfl ⟨Nat.le_of_ble_eq_true rfl, Nat.le_of_ble_eq_true rfl⟩ (Nat.le_of_ble_eq_true rfl) ⟨Nat.zero_le _, Nat.zero_le _⟩ dX8_save_7 (fun w1 H locs hp2 hW hS => ?_)
  rw [hp2] at hW; clear hp2; clear w1
  refine lv_aload_n F.1 F.2.1 dX8_save_10 rfl (lv_at hl 0 rfl) ?_
  refine gf_RX8_10 F hW hY rfl dX8_save_11 ?_
  refine cl_RX8_111 (As := [.ref (y + 1)]) (rest := []) F hl (c_X5_copyFrom l X w (y + 255 + 25 * k.toNat) τ σ (y + 1) hS9 hL (by omega)) hW hS hSo rfl rfl ⟨Nat.le_of_ble_eq_true rfl, Nat.le_of_ble_eq_true rfl⟩ (Nat.le_of_ble_eq_true rfl) ⟨Nat.zero_le _, Nat.zero_le _⟩ dX8_save_14 (fun w3 H locs hp4 hW hS => ?_)
  obtain ⟨hcp, hn5⟩ := hp4
  have hY := (hn5 _ (by omega)).trans hY
  have hO := (hn5 _ (by omega)).trans hO
  refine lv_aload_n F.1 F.2.1 dX8_save_17 rfl (lv_at hl 0 rfl) ?_
  refine lv_dup F.1 F.2.1 dX8_save_18 rfl ?_
  refine gf_RX8_433 F hW hY rfl dX8_save_19 ?_
  refine h_iconst F dX8_save_22 ?_
  refine lv_iload_n F.1 F.2.1 dX8_save_23 rfl (lv_at hl 1 rfl) ?_
  refine h_ishl (z := iI (shl1 k)) F dX8_save_24 (shl1_eq (by omega)) ?_
  refine h_ior (z := iI (slO su k)) F dX8_save_25 (by rw [← shl1_eq (by omega)]; exact slO_eq hsu (by omega)) ?_
  refine pf_RX8_433 F hW hS hY (Nat.le_of_ble_eq_true rfl) dX8_save_26 (fun w6 H locs ho8 hn7 hW hS => ?_)
  have ho8 : w6 y = some (.inr (8, [.ref (y + 1), .ref (y + 26), .ref (y + 51), .ref (y + 53), .ref (y + 255), .ref (y + 280), .int (iI (slO su k)), .ref (y + 305), .ref (y + 306), .ref (y + 307), .ref (y + 309), .ref (y + 311), .ref (y + 312), .ref (y + 315)])) := ho8
  have hO := (hn7 _ (by omega)).trans hO
  have hcp := hcp.mv (w2 := w6) (fun q h1 h2 => hn7 q (by omega))
  exact h_vret F hr hlk hW hS ⟨ho8, hcp, (fun q h09 h19 => by rw [hn7 q (by omega), hn5 q (by omega)])⟩ dX8_save_29
set_option maxHeartbeats 4000000 in
set_option maxRecDepth 100000 in
theorem c_X8_restore (l : Launch) (X : Cx) (w : Wo) (y : Nat) (su : Int) (σ τ : Int → Int) (nx sz : Int) (pas : Int → Int → Int) (pas2 : Int → Int → Int) (k : Int) (hY : clO X w y su) (hL : loomAt X w (y + 1) σ) (hH : hisAt X w (y + 53) nx sz pas) (hsu : 0 ≤ su ∧ su < 4) (hk : 0 ≤ k ∧ k ≤ 1) (hS9 : loomAt X w (y + 255 + 25 * k.toNat) τ) (hb1 : slbS su k ≠ 0) : CM l X yX8_restore cX8_restore 2 none (rmk 3 87) [.ref y, .int (iI k)] w none (fun w' => hisAt X w' (y + 53) nx 0 pas2 ∧ loomAt X w' (y + 1) τ ∧ ∀ q : Nat, (q < y + 1 ∨ y + 1 + 25 ≤ q) → q ≠ y + 53 → w' q = w q) := by
  refine CM.of (lv := [(0, .ref y), (1, .int (iI k))]) (by decide) (Nat.le_of_ble_eq_true rfl) rfl (fun p e s m below meth c ls F hr hlk hin hW hS hl => ?_)
  have hZ0 := hW.2.2
  have hB9 := hW.1.2
  clear hin
  unfold clO at hY
  have hO := hL.1.o
  have hA := hL.1
  have hwf := hL.2.2
  have hF := hwf.1
  unfold WF0 at hF
  have hSo := hS9.1.1
  have hHo := hH.1
  have hsr : 0 ≤ slbS su k ∧ slbS su k ≤ 2 := by unfold slbS; split <;> omega
  refine lv_aload_n F.1 F.2.1 dX8_restore_0 rfl (lv_at hl 0 rfl) ?_
  refine lv_iload_n F.1 F.2.1 dX8_restore_1 rfl (lv_at hl 1 rfl) ?_
  refine cl_RX8_426 (As := [.int (iI k)]) (rest := []) F hl (c_X8_checkSlot l X w y su σ k hY hL (by omega)) hW hS hY rfl rfl ⟨Nat.le_of_ble_eq_true rfl, Nat.le_of_ble_eq_true rfl⟩ (Nat.le_of_ble_eq_true rfl) ⟨Nat.zero_le _, Nat.zero_le _⟩ dX8_restore_2 (fun w1 H locs hp1 hW hS => ?_)
  rw [hp1] at hW; clear hp1; clear w1
  refine lv_aload_n F.1 F.2.1 dX8_restore_5 rfl (lv_at hl 0 rfl) ?_
  refine gf_RX8_433 F hW hY rfl dX8_restore_6 ?_
  refine h_iconst F dX8_restore_9 ?_
  refine lv_iload_n F.1 F.2.1 dX8_restore_10 rfl (lv_at hl 1 rfl) ?_
  refine h_ishl (z := iI (shl1 k)) F dX8_restore_11 (shl1_eq (by omega)) ?_
  refine h_iand (z := iI (slbS su k)) F dX8_restore_12 (by rw [← shl1_eq (by omega)]; exact slbS_eq hsu (by omega)) ?_
  refine h_ifne (tgt := 27) F dX8_restore_13 (by decide) (by omega) (fun c2 => ?_) (fun c2 => ?_)
  · refine lv_aload_n F.1 F.2.1 dX8_restore_27 rfl (lv_at hl 0 rfl) ?_
    refine gf_RX8_10 F hW hY rfl dX8_restore_28 ?_
    refine lv_aload_n F.1 F.2.1 dX8_restore_31 rfl (lv_at hl 0 rfl) ?_
    refine lv_iload_n F.1 F.2.1 dX8_restore_32 rfl (lv_at hl 1 rfl) ?_
    refine cl_RX8_429 (As := [.int (iI k)]) (rest := [.ref (y + 1)]) F hl (c_X8_savedIn l X w y su k hY (by omega)) hW hS hY rfl rfl ⟨Nat.le_of_ble_eq_true rfl, Nat.le_of_ble_eq_true rfl⟩ (Nat.le_of_ble_eq_true rfl) ⟨Nat.zero_le _, Nat.zero_le _⟩ dX8_restore_33 (fun w1 H locs hp3 hW hS => ?_)
    rw [hp3] at hW; clear hp3; clear w1
    refine cl_RX8_111 (As := [.ref (y + 255 + 25 * k.toNat)]) (rest := []) F hl (c_X5_copyFrom l X w (y + 1) σ τ (y + 255 + 25 * k.toNat) hL.1 hS9 (by omega)) hW hS hO rfl rfl ⟨Nat.le_of_ble_eq_true rfl, Nat.le_of_ble_eq_true rfl⟩ (Nat.le_of_ble_eq_true rfl) ⟨Nat.zero_le _, Nat.zero_le _⟩ dX8_restore_36 (fun w4 H locs hp5 hW hS => ?_)
    obtain ⟨hcp, hn6⟩ := hp5
    have hY := (hn6 _ (by omega)).trans hY
    have hSo := (hn6 _ (by omega)).trans hSo
    have hHo := (hn6 _ (by omega)).trans hHo
    have hH := hH.mv (w2 := w4) (fun q h1 h2 => hn6 q (by omega))
    refine lv_aload_n F.1 F.2.1 dX8_restore_39 rfl (lv_at hl 0 rfl) ?_
    refine gf_RX8_29 F hW hY rfl dX8_restore_40 ?_
    refine cl_RX8_115 (As := []) (rest := []) F hl (c_X4_clear l X w4 (y + 53) nx sz pas pas2 hH) hW hS hHo rfl rfl ⟨Nat.le_of_ble_eq_true rfl, Nat.le_of_ble_eq_true rfl⟩ (Nat.le_of_ble_eq_true rfl) ⟨Nat.zero_le _, Nat.zero_le _⟩ dX8_restore_43 (fun w7 H locs hp8 hW hS => ?_)
    obtain ⟨hcl, hn9⟩ := hp8
    have hY := (hn9 _ (by omega)).trans hY
    have hSo := (hn9 _ (by omega)).trans hSo
    have hcp := hcp.mv (w2 := w7) (fun q h1 h2 => hn9 q (by omega))
    exact h_vret F hr hlk hW hS ⟨hcl, hcp, (fun q h09 h19 => by rw [hn9 q (by omega), hn6 q (by omega)])⟩ dX8_restore_46
  · exfalso; omega
