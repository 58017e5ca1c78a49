set_option maxHeartbeats 4000000 in
set_option maxRecDepth 100000 in
theorem c_X9_readsCommand (l : Launch) (X : Cx) (w : Wo) (mo : Nat) (v tx σ sc : Int → Int) (hM : w mo = some (.inr (9, mL mo v))) (htx : w (mo + 7) = some (aZ X 400 tx)) (hs : w (mo + 1) = some (aZ X 1317 σ)) (hwf : WF σ) (hsi : sI tx v) (hsc : w (mo + 9) = some (aZ X 240 sc)) : CM l X yX9_readsCommand cX9_readsCommand 5 none (rmk 6 128) [.ref mo] w none (fun w' => w' mo = some (.inr (9, mL mo (rmV tx v (σ 0)))) ∧ w' (mo + 9) = some (aZ X 240 (rmS tx v sc (σ 0))) ∧ ∀ q : Nat, q ≠ mo → q ≠ mo + 9 → w' q = w q) := by
  refine CM.of (lv := [(0, .ref mo)]) (by decide) (Nat.le_of_ble_eq_true rfl) rfl (fun p e s m below meth c ls F hr hlk hin hW hS hl => ?_)
  have hZ0 := hW.2.2
  have hB9 := hW.1.2
  clear hin
  have hvp := hsi.1
  have h18 := hvp.2
  have hsi2 := hsi.2
  have hw0 := hwf.1
  unfold WF0 at hw0
  have hcm := cmR_r tx v
  have hp1 := rm1_P hvp
  have h181 := hp1.2
  have hp2 := rm2_P hvp
  have h182 := hp2.2
  have hp0 := rm0_P hvp
  have hp3 := rm3_P hvp
  have hp4 := rm4_P hvp
  have hp5 := rm5_P (wd := σ 0) hvp
  have hp6 := rm6_P (wd := σ 0) hvp
  have hp7 := rm7_P (wd := σ 0) hvp
  have hp8 := rm8_P (wd := σ 0) hvp
  have hp9 := rm9_P (wd := σ 0) hvp
  have h188 := hp8.2
  have hAr := rmA_r tx v
  have hBr := rmB_r (f := tx) (v := v) (wd := σ 0) (by omega)
  have hCr := rmC_r (f := tx) (v := v) (wd := σ 0) (by omega)
  have e28 : rm1 tx v 28 = v 28 := by (unfold rm1; split; (rw [fa_n (by decide) (by decide)]); rfl)
  have e29 : rm1 tx v 29 = v 29 := by (unfold rm1; split; (rw [fa_n (by decide) (by decide)]); rfl)
  have e27 := rm8_n (wd := σ 0) (k := 27) hvp (by omega) (by decide)
  have e2 := (rm2_E (f := tx) (v := v)).1
  refine lv_aload_n F.1 F.2.1 dX9_readsCommand_0 rfl (lv_at hl 0 rfl) ?_
  refine cl_RX9_390 (As := []) (rest := []) F hl (c_X9_commandHere l X w mo v tx hM htx hvp) hW hS hM rfl rfl ⟨Nat.le_of_ble_eq_true rfl, Nat.le_of_ble_eq_true rfl⟩ (Nat.le_of_ble_eq_true rfl) ⟨Nat.zero_le _, Nat.zero_le _⟩ dX9_readsCommand_1 (fun w1 H locs hp1 hW hS => ?_)
  rw [hp1] at hW; clear hp1; clear w1
  refine lv_istore_n (lv' := [(1, .int (iI (cmR tx v))), (0, .ref mo)]) F.1 F.2.1 dX9_readsCommand_4 rfl hl (by decide) rfl (fun ls hl => ?_)
  have join15 : ∀ (wja : Wo) (H : Heap) (locs : List Loc) (ls : Array Slot), (hO15_0 : wja mo = some (.inr (9, mL mo (rm1 tx v)))) → (hF15 : ∀ q : Nat, q ≠ mo → wja q = w q) → Wd X wja s H → va_S (cxA X) s.heap H locs → lv_has ls 5 [(1, .int (iI (cmR tx v))), (0, .ref mo)] → W p l e (rmk 6 128) s m (List.toArray [.ref mo]) below meth c H locs 0 0 (MX X below (List.toArray [.ref mo]) s 0 0 none (fun w' => w' mo = some (.inr (9, mL mo (rmV tx v (σ 0)))) ∧ w' (mo + 9) = some (aZ X 240 (rmS tx v sc (σ 0))) ∧ ∀ q : Nat, q ≠ mo → q ≠ mo + 9 → w' q = w q)) (F0 m 15 ls []) := by
    intro  wja H locs ls hO15_0 hF15 hW hS hl
    have htx := (hF15 _ (by omega)).trans htx
    have hs := (hF15 _ (by omega)).trans hs
    have hsc := (hF15 _ (by omega)).trans hsc
    have join43 : ∀ (wjb : Wo) (H : Heap) (locs : List Loc) (ls : Array Slot), (hO43_0 : wjb mo = some (.inr (9, mL mo (rm2 tx v)))) → (hF43 : ∀ q : Nat, q ≠ mo → wjb q = wja q) → Wd X wjb s H → va_S (cxA X) s.heap H locs → lv_has ls 5 [(1, .int (iI (cmR tx v))), (0, .ref mo)] → W p l e (rmk 6 128) s m (List.toArray [.ref mo]) below meth c H locs 0 0 (MX X below (List.toArray [.ref mo]) s 0 0 none (fun w' => w' mo = some (.inr (9, mL mo (rmV tx v (σ 0)))) ∧ w' (mo + 9) = some (aZ X 240 (rmS tx v sc (σ 0))) ∧ ∀ q : Nat, q ≠ mo → q ≠ mo + 9 → w' q = w q)) (F0 m 43 ls []) := by
      intro  wjb H locs ls hO43_0 hF43 hW hS hl
      have htx := (hF43 _ (by omega)).trans htx
      have hs := (hF43 _ (by omega)).trans hs
      have hsc := (hF43 _ (by omega)).trans hsc
      refine lv_aload_n F.1 F.2.1 dX9_readsCommand_43 rfl (lv_at hl 1 rfl) ?_
      refine cl_RX9_299 (As := []) (rest := []) F hl (c_X9_isFine l X wjb mo (rm2 tx v) hO43_0 (by omega)) hW hS hO43_0 rfl rfl ⟨Nat.le_of_ble_eq_true rfl, Nat.le_of_ble_eq_true rfl⟩ (Nat.le_of_ble_eq_true rfl) ⟨Nat.zero_le _, Nat.zero_le _⟩ dX9_readsCommand_44 (fun w1 H locs hp2 hW hS => ?_)
      rw [hp2] at hW; clear hp2; clear w1
      refine h_ifneb (tgt := 51) F dX9_readsCommand_47 (by decide) (fun c3 => ?_) (fun c3 => ?_)
      · have c3d := of_decide_eq_true c3
        refine lv_aload_n F.1 F.2.1 dX9_readsCommand_51 rfl (lv_at hl 1 rfl) ?_
        refine lv_dup F.1 F.2.1 dX9_readsCommand_52 rfl ?_
        refine gf_RX9_393 F hW hO43_0 rfl dX9_readsCommand_53 ?_
        refine h_iconst F dX9_readsCommand_56 ?_
        refine h_iadd (a := (rm2 tx v) 28) (b := 1) F dX9_readsCommand_57 ?_
        refine pf_RX9_393 F hW hS hO43_0 (Nat.le_of_ble_eq_true rfl) dX9_readsCommand_58 (fun w4 H locs ho6 hn5 hW hS => ?_)
        rw [mL_28] at ho6
        have htx := (hn5 _ (by omega)).trans htx
        have hs := (hn5 _ (by omega)).trans hs
        have hsc := (hn5 _ (by omega)).trans hsc
        refine lv_aload_n F.1 F.2.1 dX9_readsCommand_61 rfl (lv_at hl 1 rfl) ?_
        refine cl_RX9_314 (As := []) (rest := []) F hl (c_X9_goesOn l X w4 mo (up (rm2 tx v) 28 (((rm2 tx v) 28) + 1)) tx ho6 htx hp0.1.1 (by have := hp0.1.r; omega) hp0.1.2.1) hW hS ho6 rfl rfl ⟨Nat.le_of_ble_eq_true rfl, Nat.le_of_ble_eq_true rfl⟩ (Nat.le_of_ble_eq_true rfl) ⟨Nat.zero_le _, Nat.zero_le _⟩ dX9_readsCommand_62 (fun w7 H locs hp8 hW hS => ?_)
        obtain ⟨ho9, hn10⟩ := hp8
        have htx := (hn10 _ (by omega)).trans htx
        have hs := (hn10 _ (by omega)).trans hs
        have hsc := (hn10 _ (by omega)).trans hsc
        have hX11 : w7 mo = some (.inr (9, mL mo (rm3 tx v))) := ho9
        refine lv_iload_n F.1 F.2.1 dX9_readsCommand_65 rfl (lv_at hl 0 rfl) ?_
        have join125 : ∀ (wjc : Wo) (H : Heap) (locs : List Loc) (ls : Array Slot), (hO125_0 : wjc mo = some (.inr (9, mL mo (rm4 tx v)))) → (hF125 : ∀ q : Nat, q ≠ mo → wjc q = w7 q) → Wd X wjc s H → va_S (cxA X) s.heap H locs → lv_has ls 5 [(1, .int (iI (cmR tx v))), (0, .ref mo)] → W p l e (rmk 6 128) s m (List.toArray [.ref mo]) below meth c H locs 0 0 (MX X below (List.toArray [.ref mo]) s 0 0 none (fun w' => w' mo = some (.inr (9, mL mo (rmV tx v (σ 0)))) ∧ w' (mo + 9) = some (aZ X 240 (rmS tx v sc (σ 0))) ∧ ∀ q : Nat, q ≠ mo → q ≠ mo + 9 → w' q = w q)) (F0 m 125 ls [.int (iI (rmA tx v))]) := by
          intro  wjc H locs ls hO125_0 hF125 hW hS hl
          have htx := (hF125 _ (by omega)).trans htx
          have hs := (hF125 _ (by omega)).trans hs
          have hsc := (hF125 _ (by omega)).trans hsc
          refine lv_istore_n (lv' := [(2, .int (iI (rmA tx v))), (1, .int (iI (cmR tx v))), (0, .ref mo)]) F.1 F.2.1 dX9_readsCommand_125 rfl hl (by decide) rfl (fun ls hl => ?_)
          refine lv_iload_n F.1 F.2.1 dX9_readsCommand_126 rfl (lv_at hl 1 rfl) ?_
          have join166 : ∀ (wjd : Wo) (H : Heap) (locs : List Loc) (ls : Array Slot), (hO166_0 : wjd mo = some (.inr (9, mL mo (rm5 tx v (σ 0))))) → (hF166 : ∀ q : Nat, q ≠ mo → wjd q = wjc q) → Wd X wjd s H → va_S (cxA X) s.heap H locs → lv_has ls 5 [(2, .int (iI (rmA tx v))), (1, .int (iI (cmR tx v))), (0, .ref mo)] → W p l e (rmk 6 128) s m (List.toArray [.ref mo]) below meth c H locs 0 0 (MX X below (List.toArray [.ref mo]) s 0 0 none (fun w' => w' mo = some (.inr (9, mL mo (rmV tx v (σ 0)))) ∧ w' (mo + 9) = some (aZ X 240 (rmS tx v sc (σ 0))) ∧ ∀ q : Nat, q ≠ mo → q ≠ mo + 9 → w' q = w q)) (F0 m 166 ls [.int (iI (rmB tx v (σ 0)))]) := by
            intro  wjd H locs ls hO166_0 hF166 hW hS hl
            have htx := (hF166 _ (by omega)).trans htx
            have hs := (hF166 _ (by omega)).trans hs
            have hsc := (hF166 _ (by omega)).trans hsc
            refine lv_istore_n (lv' := [(3, .int (iI (rmB tx v (σ 0)))), (2, .int (iI (rmA tx v))), (1, .int (iI (cmR tx v))), (0, .ref mo)]) F.1 F.2.1 dX9_readsCommand_166 rfl hl (by decide) rfl (fun ls hl => ?_)
            have join181 : ∀ (wje : Wo) (H : Heap) (locs : List Loc) (ls : Array Slot), (hO181_0 : wje mo = some (.inr (9, mL mo (rm6 tx v (σ 0))))) → (hF181 : ∀ q : Nat, q ≠ mo → wje q = wjd q) → Wd X wje s H → va_S (cxA X) s.heap H locs → lv_has ls 5 [(3, .int (iI (rmB tx v (σ 0)))), (2, .int (iI (rmA tx v))), (1, .int (iI (cmR tx v))), (0, .ref mo)] → W p l e (rmk 6 128) s m (List.toArray [.ref mo]) below meth c H locs 0 0 (MX X below (List.toArray [.ref mo]) s 0 0 none (fun w' => w' mo = some (.inr (9, mL mo (rmV tx v (σ 0)))) ∧ w' (mo + 9) = some (aZ X 240 (rmS tx v sc (σ 0))) ∧ ∀ q : Nat, q ≠ mo → q ≠ mo + 9 → w' q = w q)) (F0 m 181 ls []) := by
              intro  wje H locs ls hO181_0 hF181 hW hS hl
              have htx := (hF181 _ (by omega)).trans htx
              have hs := (hF181 _ (by omega)).trans hs
              have hsc := (hF181 _ (by omega)).trans hsc
              refine lv_iload_n F.1 F.2.1 dX9_readsCommand_181 rfl (lv_at hl 2 rfl) ?_
              have join202 : ∀ (wjf : Wo) (H : Heap) (locs : List Loc) (ls : Array Slot), (hO202_0 : wjf mo = some (.inr (9, mL mo (rm7 tx v (σ 0))))) → (hF202 : ∀ q : Nat, q ≠ mo → wjf q = wje q) → Wd X wjf s H → va_S (cxA X) s.heap H locs → lv_has ls 5 [(3, .int (iI (rmB tx v (σ 0)))), (2, .int (iI (rmA tx v))), (1, .int (iI (cmR tx v))), (0, .ref mo)] → W p l e (rmk 6 128) s m (List.toArray [.ref mo]) below meth c H locs 0 0 (MX X below (List.toArray [.ref mo]) s 0 0 none (fun w' => w' mo = some (.inr (9, mL mo (rmV tx v (σ 0)))) ∧ w' (mo + 9) = some (aZ X 240 (rmS tx v sc (σ 0))) ∧ ∀ q : Nat, q ≠ mo → q ≠ mo + 9 → w' q = w q)) (F0 m 202 ls [.int (iI (rmC tx v (σ 0)))]) := by
                intro  wjf H locs ls hO202_0 hF202 hW hS hl
                have htx := (hF202 _ (by omega)).trans htx
                have hs := (hF202 _ (by omega)).trans hs
                have hsc := (hF202 _ (by omega)).trans hsc
                refine lv_istore (lv' := [(4, .int (iI (rmC tx v (σ 0)))), (3, .int (iI (rmB tx v (σ 0)))), (2, .int (iI (rmA tx v))), (1, .int (iI (cmR tx v))), (0, .ref mo)]) F.1 F.2.1 dX9_readsCommand_202 hl (by decide) rfl (fun ls hl => ?_)
                have join219 : ∀ (wjg : Wo) (H : Heap) (locs : List Loc) (ls : Array Slot), (hO219_0 : wjg mo = some (.inr (9, mL mo (rm8 tx v (σ 0))))) → (hF219 : ∀ q : Nat, q ≠ mo → wjg q = wjf q) → Wd X wjg s H → va_S (cxA X) s.heap H locs → lv_has ls 5 [(4, .int (iI (rmC tx v (σ 0)))), (3, .int (iI (rmB tx v (σ 0)))), (2, .int (iI (rmA tx v))), (1, .int (iI (cmR tx v))), (0, .ref mo)] → W p l e (rmk 6 128) s m (List.toArray [.ref mo]) below meth c H locs 0 0 (MX X below (List.toArray [.ref mo]) s 0 0 none (fun w' => w' mo = some (.inr (9, mL mo (rmV tx v (σ 0)))) ∧ w' (mo + 9) = some (aZ X 240 (rmS tx v sc (σ 0))) ∧ ∀ q : Nat, q ≠ mo → q ≠ mo + 9 → w' q = w q)) (F0 m 219 ls []) := by
                  intro  wjg H locs ls hO219_0 hF219 hW hS hl
                  have htx := (hF219 _ (by omega)).trans htx
                  have hs := (hF219 _ (by omega)).trans hs
                  have hsc := (hF219 _ (by omega)).trans hsc
                  refine lv_aload_n F.1 F.2.1 dX9_readsCommand_219 rfl (lv_at hl 4 rfl) ?_
                  refine cl_RX9_299 (As := []) (rest := []) F hl (c_X9_isFine l X wjg mo (rm8 tx v (σ 0)) hO219_0 (by omega)) hW hS hO219_0 rfl rfl ⟨Nat.le_of_ble_eq_true rfl, Nat.le_of_ble_eq_true rfl⟩ (Nat.le_of_ble_eq_true rfl) ⟨Nat.zero_le _, Nat.zero_le _⟩ dX9_readsCommand_220 (fun w1 H locs hp12 hW hS => ?_)
                  rw [hp12] at hW; clear hp12; clear w1
                  refine h_ifneb (tgt := 227) F dX9_readsCommand_223 (by decide) (fun c13 => ?_) (fun c13 => ?_)
                  · have c13d := of_decide_eq_true c13
                    refine lv_aload_n F.1 F.2.1 dX9_readsCommand_227 rfl (lv_at hl 4 rfl) ?_
                    refine lv_iload_n F.1 F.2.1 dX9_readsCommand_228 rfl (lv_at hl 3 rfl) ?_
                    refine lv_iload_n F.1 F.2.1 dX9_readsCommand_229 rfl (lv_at hl 2 rfl) ?_
                    refine lv_iload_n F.1 F.2.1 dX9_readsCommand_230 rfl (lv_at hl 1 rfl) ?_
                    refine lv_iload F.1 F.2.1 dX9_readsCommand_231 (lv_at hl 0 rfl) ?_
                    refine cl_RX9_401 (As := [.int (iI (cmR tx v)), .int (iI (rmA tx v)), .int (iI (rmB tx v (σ 0))), .int (iI (rmC tx v (σ 0)))]) (rest := []) F hl (c_X9_lays l X wjg mo (rm8 tx v (σ 0)) sc (cmR tx v) (rmA tx v) (rmB tx v (σ 0)) (rmC tx v (σ 0)) hO219_0 hsc (by rw [e27]; have := rm2_0 (f := tx) (v := v) (by omega); omega)) hW hS hO219_0 rfl rfl ⟨Nat.le_of_ble_eq_true rfl, Nat.le_of_ble_eq_true rfl⟩ (Nat.le_of_ble_eq_true rfl) ⟨Nat.zero_le _, Nat.zero_le _⟩ dX9_readsCommand_233 (fun w14 H locs hp15 hW hS => ?_)
                    obtain ⟨ho16, ha17, hn18⟩ := hp15
                    have htx := (hn18 _ (by omega) (by omega)).trans htx
                    have hs := (hn18 _ (by omega) (by omega)).trans hs
                    have hX19 : w14 mo = some (.inr (9, mL mo (rm9 tx v (σ 0)))) := ho16
                    refine lv_iload_n F.1 F.2.1 dX9_readsCommand_236 rfl (lv_at hl 3 rfl) ?_
                    refine h_iconst F dX9_readsCommand_237 ?_
                    refine h_icne (tgt := 254) F dX9_readsCommand_238 (by decide) (by omega) (fun c20 => ?_) (fun c20 => ?_)
                    · refine lv_aload_n F.1 F.2.1 dX9_readsCommand_254 rfl (lv_at hl 4 rfl) ?_
                      refine lv_aload_n F.1 F.2.1 dX9_readsCommand_255 rfl (lv_at hl 4 rfl) ?_
                      refine h_bipush F dX9_readsCommand_256 rfl ?_
                      refine cl_RX9_348 (As := [.int (iI 59)]) (rest := [.ref mo]) F hl (c_X9_isSign l X w14 mo (rm9 tx v (σ 0)) tx 59 hX19 htx hp9 (by omega)) hW hS hX19 rfl rfl ⟨Nat.le_of_ble_eq_true rfl, Nat.le_of_ble_eq_true rfl⟩ (Nat.le_of_ble_eq_true rfl) ⟨Nat.zero_le _, Nat.zero_le _⟩ dX9_readsCommand_258 (fun w1 H locs hp21 hW hS => ?_)
                      rw [hp21] at hW; clear hp21; clear w1
                      refine cl_RX9_323 (As := [.int (iI (bz (isSR tx (rm9 tx v (σ 0)) 59)))]) (rest := []) F hl (c_X9_must l X w14 mo (rm9 tx v (σ 0)) tx (isSR tx (rm9 tx v (σ 0)) 59) hX19 htx hp9) hW hS hX19 rfl rfl ⟨Nat.le_of_ble_eq_true rfl, Nat.le_of_ble_eq_true rfl⟩ (Nat.le_of_ble_eq_true rfl) ⟨Nat.zero_le _, Nat.zero_le _⟩ dX9_readsCommand_261 (fun w22 H locs hp23 hW hS => ?_)
                      obtain ⟨ho24, hn25⟩ := hp23
                      have htx := (hn25 _ (by omega)).trans htx
                      have hs := (hn25 _ (by omega)).trans hs
                      have ha17 := (hn25 _ (by omega)).trans ha17
                      exact h_vret F hr hlk hW hS ⟨(by (rw [ho24]) <;> (unfold rmV; first | rw [if_neg (by omega)] | rw [if_pos (by omega), if_neg (by omega)] | (rw [if_pos (by omega), if_pos (by omega)]; unfold rmX; first | rw [if_pos (by omega)] | rw [if_neg (by omega)]))), (by (rw [ha17]) <;> (unfold rmS; first | rw [if_pos (by omega)] | rw [if_neg (by omega)])), (fun q h09 h19 => by rw [hn25 q (by omega), hn18 q (by omega) (by omega), hF219 q (by omega), hF202 q (by omega), hF181 q (by omega), hF166 q (by omega), hF125 q (by omega), hn10 q (by omega), hn5 q (by omega), hF43 q (by omega), hF15 q (by omega)])⟩ dX9_readsCommand_264
                    · refine lv_aload_n F.1 F.2.1 dX9_readsCommand_241 rfl (lv_at hl 4 rfl) ?_
                      refine lv_dup F.1 F.2.1 dX9_readsCommand_242 rfl ?_
                      refine gf_RX9_396 F hW hX19 rfl dX9_readsCommand_243 ?_
                      refine h_iconst F dX9_readsCommand_246 ?_
                      refine h_iadd (a := (rm9 tx v (σ 0)) 29) (b := 1) F dX9_readsCommand_247 ?_
                      refine pf_RX9_396 F hW hS hX19 (Nat.le_of_ble_eq_true rfl) dX9_readsCommand_248 (fun w26 H locs ho28 hn27 hW hS => ?_)
                      rw [mL_29] at ho28
                      have htx := (hn27 _ (by omega)).trans htx
                      have hs := (hn27 _ (by omega)).trans hs
                      have ha17 := (hn27 _ (by omega)).trans ha17
                      refine h_goto (tgt := 264) F dX9_readsCommand_251 (by decide) ?_
                      exact h_vret F hr hlk hW hS ⟨(by (rw [ho28]) <;> (unfold rmV; first | rw [if_neg (by omega)] | rw [if_pos (by omega), if_neg (by omega)] | (rw [if_pos (by omega), if_pos (by omega)]; unfold rmX; first | rw [if_pos (by omega)] | rw [if_neg (by omega)]))), (by (rw [ha17]) <;> (unfold rmS; first | rw [if_pos (by omega)] | rw [if_neg (by omega)])), (fun q h09 h19 => by rw [hn27 q (by omega), hn18 q (by omega) (by omega), hF219 q (by omega), hF202 q (by omega), hF181 q (by omega), hF166 q (by omega), hF125 q (by omega), hn10 q (by omega), hn5 q (by omega), hF43 q (by omega), hF15 q (by omega)])⟩ dX9_readsCommand_264
                  · have c13d := of_decide_eq_false c13
                    exact h_vret F hr hlk hW hS ⟨(by (rw [hO219_0]) <;> (unfold rmV; first | rw [if_neg (by omega)] | rw [if_pos (by omega), if_neg (by omega)] | (rw [if_pos (by omega), if_pos (by omega)]; unfold rmX; first | rw [if_pos (by omega)] | rw [if_neg (by omega)]))), (by (rw [hsc]) <;> (unfold rmS; first | rw [if_pos (by omega)] | rw [if_neg (by omega)])), (fun q h09 h19 => by rw [hF219 q (by omega), hF202 q (by omega), hF181 q (by omega), hF166 q (by omega), hF125 q (by omega), hn10 q (by omega), hn5 q (by omega), hF43 q (by omega), hF15 q (by omega)])⟩ dX9_readsCommand_226
                refine lv_iload_n F.1 F.2.1 dX9_readsCommand_204 rfl (lv_at hl 3 rfl) ?_
                refine h_iconst F dX9_readsCommand_205 ?_
                refine h_icne (tgt := 219) F dX9_readsCommand_206 (by decide) (by omega) (fun c29 => ?_) (fun c29 => ?_)
                · exact join219   wjf _ _ ls (by rw [show (rm8 tx v (σ 0) : Int → Int) = rm7 tx v (σ 0) from by unfold rm8; first | rw [if_pos (by omega)] | rw [if_neg (by omega)]]; exact hO202_0) (fun q h09 => rfl)  hW hS (lv_sub hl [0, 1, 2, 3, 4] rfl)
                · refine lv_aload_n F.1 F.2.1 dX9_readsCommand_209 rfl (lv_at hl 4 rfl) ?_
                  refine lv_aload_n F.1 F.2.1 dX9_readsCommand_210 rfl (lv_at hl 4 rfl) ?_
                  refine h_bipush F dX9_readsCommand_211 rfl ?_
                  refine cl_RX9_348 (As := [.int (iI 123)]) (rest := [.ref mo]) F hl (c_X9_isSign l X wjf mo (rm7 tx v (σ 0)) tx 123 hO202_0 htx hp7 (by omega)) hW hS hO202_0 rfl rfl ⟨Nat.le_of_ble_eq_true rfl, Nat.le_of_ble_eq_true rfl⟩ (Nat.le_of_ble_eq_true rfl) ⟨Nat.zero_le _, Nat.zero_le _⟩ dX9_readsCommand_213 (fun w1 H locs hp30 hW hS => ?_)
                  rw [hp30] at hW; clear hp30; clear w1
                  refine cl_RX9_323 (As := [.int (iI (bz (isSR tx (rm7 tx v (σ 0)) 123)))]) (rest := []) F hl (c_X9_must l X wjf mo (rm7 tx v (σ 0)) tx (isSR tx (rm7 tx v (σ 0)) 123) hO202_0 htx hp7) hW hS hO202_0 rfl rfl ⟨Nat.le_of_ble_eq_true rfl, Nat.le_of_ble_eq_true rfl⟩ (Nat.le_of_ble_eq_true rfl) ⟨Nat.zero_le _, Nat.zero_le _⟩ dX9_readsCommand_216 (fun w31 H locs hp32 hW hS => ?_)
                  obtain ⟨ho33, hn34⟩ := hp32
                  have htx := (hn34 _ (by omega)).trans htx
                  have hs := (hn34 _ (by omega)).trans hs
                  have hsc := (hn34 _ (by omega)).trans hsc
                  exact join219   w31 _ _ ls (by rw [show (rm8 tx v (σ 0) : Int → Int) = muV tx (isSR tx (rm7 tx v (σ 0)) 123) (rm7 tx v (σ 0)) from by unfold rm8; first | rw [if_pos (by omega)] | rw [if_neg (by omega)]]; exact ho33) (fun q h09 => by rw [hn34 q (by omega)])  hW hS (lv_sub hl [0, 1, 2, 3, 4] rfl)
              refine h_ifne (tgt := 201) F dX9_readsCommand_182 (by decide) (by omega) (fun c35 => ?_) (fun c35 => ?_)
              · refine h_iconst F dX9_readsCommand_201 ?_
                refine h_top (show (0 : Int) = rmC tx v (σ 0) from by unfold rmC; first | rw [if_pos (by omega)] | rw [if_neg (by omega)]) ?_
                exact join202   wje _ _ ls (by rw [show (rm7 tx v (σ 0) : Int → Int) = rm6 tx v (σ 0) from by unfold rm7; first | rw [if_pos (by omega)] | rw [if_neg (by omega)]]; exact hO181_0) (fun q h09 => rfl)  hW hS (lv_sub hl [0, 1, 2, 3] rfl)
              · refine lv_aload_n F.1 F.2.1 dX9_readsCommand_185 rfl (lv_at hl 3 rfl) ?_
                refine lv_iload_n F.1 F.2.1 dX9_readsCommand_186 rfl (lv_at hl 0 rfl) ?_
                refine lv_aload_n F.1 F.2.1 dX9_readsCommand_187 rfl (lv_at hl 3 rfl) ?_
                refine gf_RX9_7 F hW hO181_0 rfl dX9_readsCommand_188 ?_
                refine h_iconst F dX9_readsCommand_191 ?_
                refine h_iald F hW hs (by omega) (by omega) dX9_readsCommand_192 ?_
                refine h_iconst F dX9_readsCommand_193 ?_
                refine h_isub (a := σ 0) (b := 1) F dX9_readsCommand_194 ?_
                refine cl_RX9_334 (As := [.int (iI (rmB tx v (σ 0))), .int (iI ((σ 0) - 1))]) (rest := []) F hl (c_X9_takesNumber l X wje mo (rm6 tx v (σ 0)) tx (rmB tx v (σ 0)) ((σ 0) - 1) hO181_0 htx hp6 (by omega) (by omega)) hW hS hO181_0 rfl rfl ⟨Nat.le_of_ble_eq_true rfl, Nat.le_of_ble_eq_true rfl⟩ (Nat.le_of_ble_eq_true rfl) ⟨Nat.zero_le _, Nat.zero_le _⟩ dX9_readsCommand_195 (fun w36 H locs hp37 hW hS => ?_)
                obtain ⟨ho38, hn39⟩ := hp37
                have htx := (hn39 _ (by omega)).trans htx
                have hs := (hn39 _ (by omega)).trans hs
                have hsc := (hn39 _ (by omega)).trans hsc
                refine h_goto (tgt := 202) F dX9_readsCommand_198 (by decide) ?_
                refine h_top (show (seR (rmB tx v (σ 0)) ((σ 0) - 1) (rm6 tx v (σ 0)) : Int) = rmC tx v (σ 0) from by unfold rmC; first | rw [if_pos (by omega)] | rw [if_neg (by omega)]) ?_
                exact join202   w36 _ _ ls (by rw [show (rm7 tx v (σ 0) : Int → Int) = tkV tx (rmB tx v (σ 0)) ((σ 0) - 1) (rm6 tx v (σ 0)) from by unfold rm7; first | rw [if_pos (by omega)] | rw [if_neg (by omega)]]; exact ho38) (fun q h09 => by rw [hn39 q (by omega)])  hW hS (lv_sub hl [0, 1, 2, 3] rfl)
            refine lv_iload_n F.1 F.2.1 dX9_readsCommand_167 rfl (lv_at hl 2 rfl) ?_
            refine h_iconst F dX9_readsCommand_168 ?_
            refine h_icne (tgt := 181) F dX9_readsCommand_169 (by decide) (by omega) (fun c40 => ?_) (fun c40 => ?_)
            · exact join181   wjd _ _ ls (by rw [show (rm6 tx v (σ 0) : Int → Int) = rm5 tx v (σ 0) from by unfold rm6; first | rw [if_pos (by omega)] | rw [if_neg (by omega)]]; exact hO166_0) (fun q h09 => rfl)  hW hS (lv_sub hl [0, 1, 2, 3] rfl)
            · refine lv_iload_n F.1 F.2.1 dX9_readsCommand_172 rfl (lv_at hl 0 rfl) ?_
              refine h_iconst F dX9_readsCommand_173 ?_
              refine h_icne (tgt := 181) F dX9_readsCommand_174 (by decide) (by omega) (fun c41 => ?_) (fun c41 => ?_)
              · exact join181   wjd _ _ ls (by rw [show (rm6 tx v (σ 0) : Int → Int) = rm5 tx v (σ 0) from by unfold rm6; first | rw [if_pos (by omega)] | rw [if_neg (by omega)]]; exact hO166_0) (fun q h09 => rfl)  hW hS (lv_sub hl [0, 1, 2, 3] rfl)
              · refine lv_aload_n F.1 F.2.1 dX9_readsCommand_177 rfl (lv_at hl 3 rfl) ?_
                refine cl_RX9_314 (As := []) (rest := []) F hl (c_X9_goesOn l X wjd mo (rm5 tx v (σ 0)) tx hO166_0 htx hp5.1.1 (by have := hp5.1.r; omega) hp5.1.2.1) hW hS hO166_0 rfl rfl ⟨Nat.le_of_ble_eq_true rfl, Nat.le_of_ble_eq_true rfl⟩ (Nat.le_of_ble_eq_true rfl) ⟨Nat.zero_le _, Nat.zero_le _⟩ dX9_readsCommand_178 (fun w42 H locs hp43 hW hS => ?_)
                obtain ⟨ho44, hn45⟩ := hp43
                have htx := (hn45 _ (by omega)).trans htx
                have hs := (hn45 _ (by omega)).trans hs
                have hsc := (hn45 _ (by omega)).trans hsc
                exact join181   w42 _ _ ls (by rw [show (rm6 tx v (σ 0) : Int → Int) = goV tx (rm5 tx v (σ 0)) from by unfold rm6; first | rw [if_pos (by omega)] | rw [if_neg (by omega)]]; exact ho44) (fun q h09 => by rw [hn45 q (by omega)])  hW hS (lv_sub hl [0, 1, 2, 3] rfl)
          refine h_ifne (tgt := 146) F dX9_readsCommand_127 (by decide) (by omega) (fun c46 => ?_) (fun c46 => ?_)
          · refine lv_iload_n F.1 F.2.1 dX9_readsCommand_146 rfl (lv_at hl 1 rfl) ?_
            refine h_iconst F dX9_readsCommand_147 ?_
            refine h_icne (tgt := 165) F dX9_readsCommand_148 (by decide) (by omega) (fun c47 => ?_) (fun c47 => ?_)
            · refine h_iconst F dX9_readsCommand_165 ?_
              refine h_top (show (0 : Int) = rmB tx v (σ 0) from by unfold rmB; first | rw [if_pos (by omega)] | (rw [if_neg (by omega), if_pos (by omega), ‹isWR tx (rm4 tx v) 10 = true›]; rfl) | (rw [if_neg (by omega), if_pos (by omega), ‹isWR tx (rm4 tx v) 10 = false›]; rfl) | rw [if_neg (by omega), if_neg (by omega)]) ?_
              exact join166   wjc _ _ ls (by rw [show (rm5 tx v (σ 0) : Int → Int) = rm4 tx v from by unfold rm5; first | rw [if_pos (by omega)] | rw [if_neg (by omega)]]; exact hO125_0) (fun q h09 => rfl)  hW hS (lv_sub hl [0, 1, 2] rfl)
            · refine lv_aload_n F.1 F.2.1 dX9_readsCommand_151 rfl (lv_at hl 2 rfl) ?_
              refine h_ldcSW (tx := "blind") (i := 10) F hW (by decide +kernel) dX9_readsCommand_152 ?_
              refine cl_RX9_329 (As := [.ref (X.2.2 (10 + 10))]) (rest := []) F hl (c_X9_isWord l X wjc mo (rm4 tx v) tx 10 hO125_0 htx hp4 (by decide)) hW hS hO125_0 rfl rfl ⟨Nat.le_of_ble_eq_true rfl, Nat.le_of_ble_eq_true rfl⟩ (Nat.le_of_ble_eq_true rfl) ⟨Nat.zero_le _, Nat.zero_le _⟩ dX9_readsCommand_155 (fun w1 H locs hp48 hW hS => ?_)
              rw [hp48] at hW; clear hp48; clear w1
              refine h_ifeqb (tgt := 165) F dX9_readsCommand_158 (by decide) (fun c49 => ?_) (fun c49 => ?_)
              · refine h_iconst F dX9_readsCommand_165 ?_
                refine h_top (show (0 : Int) = rmB tx v (σ 0) from by unfold rmB; first | rw [if_pos (by omega)] | (rw [if_neg (by omega), if_pos (by omega), ‹isWR tx (rm4 tx v) 10 = true›]; rfl) | (rw [if_neg (by omega), if_pos (by omega), ‹isWR tx (rm4 tx v) 10 = false›]; rfl) | rw [if_neg (by omega), if_neg (by omega)]) ?_
                exact join166   wjc _ _ ls (by rw [show (rm5 tx v (σ 0) : Int → Int) = rm4 tx v from by unfold rm5; first | rw [if_pos (by omega)] | rw [if_neg (by omega)]]; exact hO125_0) (fun q h09 => rfl)  hW hS (lv_sub hl [0, 1, 2] rfl)
              · refine h_iconst F dX9_readsCommand_161 ?_
                refine h_goto (tgt := 166) F dX9_readsCommand_162 (by decide) ?_
                refine h_top (show (1 : Int) = rmB tx v (σ 0) from by unfold rmB; first | rw [if_pos (by omega)] | (rw [if_neg (by omega), if_pos (by omega), ‹isWR tx (rm4 tx v) 10 = true›]; rfl) | (rw [if_neg (by omega), if_pos (by omega), ‹isWR tx (rm4 tx v) 10 = false›]; rfl) | rw [if_neg (by omega), if_neg (by omega)]) ?_
                exact join166   wjc _ _ ls (by rw [show (rm5 tx v (σ 0) : Int → Int) = rm4 tx v from by unfold rm5; first | rw [if_pos (by omega)] | rw [if_neg (by omega)]]; exact hO125_0) (fun q h09 => rfl)  hW hS (lv_sub hl [0, 1, 2] rfl)
          · refine lv_aload_n F.1 F.2.1 dX9_readsCommand_130 rfl (lv_at hl 2 rfl) ?_
            refine h_iconst F dX9_readsCommand_131 ?_
            refine lv_aload_n F.1 F.2.1 dX9_readsCommand_132 rfl (lv_at hl 2 rfl) ?_
            refine gf_RX9_7 F hW hO125_0 rfl dX9_readsCommand_133 ?_
            refine h_iconst F dX9_readsCommand_136 ?_
            refine h_iald F hW hs (by omega) (by omega) dX9_readsCommand_137 ?_
            refine h_iconst F dX9_readsCommand_138 ?_
            refine h_isub (a := σ 0) (b := 1) F dX9_readsCommand_139 ?_
            refine cl_RX9_334 (As := [.int (iI 0), .int (iI ((σ 0) - 1))]) (rest := []) F hl (c_X9_takesNumber l X wjc mo (rm4 tx v) tx 0 ((σ 0) - 1) hO125_0 htx hp4 (by omega) (by omega)) hW hS hO125_0 rfl rfl ⟨Nat.le_of_ble_eq_true rfl, Nat.le_of_ble_eq_true rfl⟩ (Nat.le_of_ble_eq_true rfl) ⟨Nat.zero_le _, Nat.zero_le _⟩ dX9_readsCommand_140 (fun w50 H locs hp51 hW hS => ?_)
            obtain ⟨ho52, hn53⟩ := hp51
            have htx := (hn53 _ (by omega)).trans htx
            have hs := (hn53 _ (by omega)).trans hs
            have hsc := (hn53 _ (by omega)).trans hsc
            refine h_goto (tgt := 166) F dX9_readsCommand_143 (by decide) ?_
            refine h_top (show (seR 0 ((σ 0) - 1) (rm4 tx v) : Int) = rmB tx v (σ 0) from by unfold rmB; first | rw [if_pos (by omega)] | (rw [if_neg (by omega), if_pos (by omega), ‹isWR tx (rm4 tx v) 10 = true›]; rfl) | (rw [if_neg (by omega), if_pos (by omega), ‹isWR tx (rm4 tx v) 10 = false›]; rfl) | rw [if_neg (by omega), if_neg (by omega)]) ?_
            exact join166   w50 _ _ ls (by rw [show (rm5 tx v (σ 0) : Int → Int) = tkV tx 0 ((σ 0) - 1) (rm4 tx v) from by unfold rm5; first | rw [if_pos (by omega)] | rw [if_neg (by omega)]]; exact ho52) (fun q h09 => by rw [hn53 q (by omega)])  hW hS (lv_sub hl [0, 1, 2] rfl)
        refine h_ifne (tgt := 79) F dX9_readsCommand_66 (by decide) (by omega) (fun c54 => ?_) (fun c54 => ?_)
        · refine lv_iload_n F.1 F.2.1 dX9_readsCommand_79 rfl (lv_at hl 0 rfl) ?_
          refine h_iconst F dX9_readsCommand_80 ?_
          refine h_icne (tgt := 94) F dX9_readsCommand_81 (by decide) (by omega) (fun c55 => ?_) (fun c55 => ?_)
          · refine lv_iload_n F.1 F.2.1 dX9_readsCommand_94 rfl (lv_at hl 0 rfl) ?_
            refine h_iconst F dX9_readsCommand_95 ?_
            refine h_icne (tgt := 109) F dX9_readsCommand_96 (by decide) (by omega) (fun c56 => ?_) (fun c56 => ?_)
            · refine lv_iload_n F.1 F.2.1 dX9_readsCommand_109 rfl (lv_at hl 0 rfl) ?_
              refine h_iconst F dX9_readsCommand_110 ?_
              refine h_icne (tgt := 124) F dX9_readsCommand_111 (by decide) (by omega) (fun c57 => ?_) (fun c57 => ?_)
              · refine h_iconst F dX9_readsCommand_124 ?_
                refine h_top (show (0 : Int) = rmA tx v from by unfold rmA; first | rw [if_pos (by omega)] | rw [if_neg (by omega), if_pos (by omega)] | rw [if_neg (by omega), if_neg (by omega), if_pos (by omega)] | rw [if_neg (by omega), if_neg (by omega), if_neg (by omega), if_pos (by omega)] | rw [if_neg (by omega), if_neg (by omega), if_neg (by omega), if_neg (by omega)]) ?_
                exact join125   w7 _ _ ls (by rw [show (rm4 tx v : Int → Int) = rm3 tx v from by unfold rm4; first | rw [if_pos (by omega)] | rw [if_neg (by omega), if_pos (by omega)] | rw [if_neg (by omega), if_neg (by omega), if_pos (by omega)] | rw [if_neg (by omega), if_neg (by omega), if_neg (by omega), if_pos (by omega)] | rw [if_neg (by omega), if_neg (by omega), if_neg (by omega), if_neg (by omega)]]; exact hX11) (fun q h09 => rfl)  hW hS (lv_sub hl [0, 1] rfl)
              · refine lv_aload_n F.1 F.2.1 dX9_readsCommand_114 rfl (lv_at hl 1 rfl) ?_
                refine h_iconst F dX9_readsCommand_115 ?_
                refine h_bipush F dX9_readsCommand_116 rfl ?_
                refine cl_RX9_334 (As := [.int (iI 1), .int (iI 20)]) (rest := []) F hl (c_X9_takesNumber l X w7 mo (rm3 tx v) tx 1 20 hX11 htx hp3 (by omega) (by omega)) hW hS hX11 rfl rfl ⟨Nat.le_of_ble_eq_true rfl, Nat.le_of_ble_eq_true rfl⟩ (Nat.le_of_ble_eq_true rfl) ⟨Nat.zero_le _, Nat.zero_le _⟩ dX9_readsCommand_118 (fun w58 H locs hp59 hW hS => ?_)
                obtain ⟨ho60, hn61⟩ := hp59
                have htx := (hn61 _ (by omega)).trans htx
                have hs := (hn61 _ (by omega)).trans hs
                have hsc := (hn61 _ (by omega)).trans hsc
                refine h_goto (tgt := 125) F dX9_readsCommand_121 (by decide) ?_
                refine h_top (show (seR 1 20 (rm3 tx v) : Int) = rmA tx v from by unfold rmA; first | rw [if_pos (by omega)] | rw [if_neg (by omega), if_pos (by omega)] | rw [if_neg (by omega), if_neg (by omega), if_pos (by omega)] | rw [if_neg (by omega), if_neg (by omega), if_neg (by omega), if_pos (by omega)] | rw [if_neg (by omega), if_neg (by omega), if_neg (by omega), if_neg (by omega)]) ?_
                exact join125   w58 _ _ ls (by rw [show (rm4 tx v : Int → Int) = tkV tx 1 20 (rm3 tx v) from by unfold rm4; first | rw [if_pos (by omega)] | rw [if_neg (by omega), if_pos (by omega)] | rw [if_neg (by omega), if_neg (by omega), if_pos (by omega)] | rw [if_neg (by omega), if_neg (by omega), if_neg (by omega), if_pos (by omega)] | rw [if_neg (by omega), if_neg (by omega), if_neg (by omega), if_neg (by omega)]]; exact ho60) (fun q h09 => by rw [hn61 q (by omega)])  hW hS (lv_sub hl [0, 1] rfl)
            · refine lv_aload_n F.1 F.2.1 dX9_readsCommand_99 rfl (lv_at hl 1 rfl) ?_
              refine h_iconst F dX9_readsCommand_100 ?_
              refine h_bipush F dX9_readsCommand_101 rfl ?_
              refine cl_RX9_334 (As := [.int (iI 0), .int (iI 30)]) (rest := []) F hl (c_X9_takesNumber l X w7 mo (rm3 tx v) tx 0 30 hX11 htx hp3 (by omega) (by omega)) hW hS hX11 rfl rfl ⟨Nat.le_of_ble_eq_true rfl, Nat.le_of_ble_eq_true rfl⟩ (Nat.le_of_ble_eq_true rfl) ⟨Nat.zero_le _, Nat.zero_le _⟩ dX9_readsCommand_103 (fun w62 H locs hp63 hW hS => ?_)
              obtain ⟨ho64, hn65⟩ := hp63
              have htx := (hn65 _ (by omega)).trans htx
              have hs := (hn65 _ (by omega)).trans hs
              have hsc := (hn65 _ (by omega)).trans hsc
              refine h_goto (tgt := 125) F dX9_readsCommand_106 (by decide) ?_
              refine h_top (show (seR 0 30 (rm3 tx v) : Int) = rmA tx v from by unfold rmA; first | rw [if_pos (by omega)] | rw [if_neg (by omega), if_pos (by omega)] | rw [if_neg (by omega), if_neg (by omega), if_pos (by omega)] | rw [if_neg (by omega), if_neg (by omega), if_neg (by omega), if_pos (by omega)] | rw [if_neg (by omega), if_neg (by omega), if_neg (by omega), if_neg (by omega)]) ?_
              exact join125   w62 _ _ ls (by rw [show (rm4 tx v : Int → Int) = tkV tx 0 30 (rm3 tx v) from by unfold rm4; first | rw [if_pos (by omega)] | rw [if_neg (by omega), if_pos (by omega)] | rw [if_neg (by omega), if_neg (by omega), if_pos (by omega)] | rw [if_neg (by omega), if_neg (by omega), if_neg (by omega), if_pos (by omega)] | rw [if_neg (by omega), if_neg (by omega), if_neg (by omega), if_neg (by omega)]]; exact ho64) (fun q h09 => by rw [hn65 q (by omega)])  hW hS (lv_sub hl [0, 1] rfl)
          · refine lv_aload_n F.1 F.2.1 dX9_readsCommand_84 rfl (lv_at hl 1 rfl) ?_
            refine h_iconst F dX9_readsCommand_85 ?_
            refine h_bipush F dX9_readsCommand_86 rfl ?_
            refine cl_RX9_334 (As := [.int (iI 1), .int (iI 30)]) (rest := []) F hl (c_X9_takesNumber l X w7 mo (rm3 tx v) tx 1 30 hX11 htx hp3 (by omega) (by omega)) hW hS hX11 rfl rfl ⟨Nat.le_of_ble_eq_true rfl, Nat.le_of_ble_eq_true rfl⟩ (Nat.le_of_ble_eq_true rfl) ⟨Nat.zero_le _, Nat.zero_le _⟩ dX9_readsCommand_88 (fun w66 H locs hp67 hW hS => ?_)
            obtain ⟨ho68, hn69⟩ := hp67
            have htx := (hn69 _ (by omega)).trans htx
            have hs := (hn69 _ (by omega)).trans hs
            have hsc := (hn69 _ (by omega)).trans hsc
            refine h_goto (tgt := 125) F dX9_readsCommand_91 (by decide) ?_
            refine h_top (show (seR 1 30 (rm3 tx v) : Int) = rmA tx v from by unfold rmA; first | rw [if_pos (by omega)] | rw [if_neg (by omega), if_pos (by omega)] | rw [if_neg (by omega), if_neg (by omega), if_pos (by omega)] | rw [if_neg (by omega), if_neg (by omega), if_neg (by omega), if_pos (by omega)] | rw [if_neg (by omega), if_neg (by omega), if_neg (by omega), if_neg (by omega)]) ?_
            exact join125   w66 _ _ ls (by rw [show (rm4 tx v : Int → Int) = tkV tx 1 30 (rm3 tx v) from by unfold rm4; first | rw [if_pos (by omega)] | rw [if_neg (by omega), if_pos (by omega)] | rw [if_neg (by omega), if_neg (by omega), if_pos (by omega)] | rw [if_neg (by omega), if_neg (by omega), if_neg (by omega), if_pos (by omega)] | rw [if_neg (by omega), if_neg (by omega), if_neg (by omega), if_neg (by omega)]]; exact ho68) (fun q h09 => by rw [hn69 q (by omega)])  hW hS (lv_sub hl [0, 1] rfl)
        · refine lv_aload_n F.1 F.2.1 dX9_readsCommand_69 rfl (lv_at hl 1 rfl) ?_
          refine h_iconst F dX9_readsCommand_70 ?_
          refine h_bipush F dX9_readsCommand_71 rfl ?_
          refine cl_RX9_334 (As := [.int (iI 0), .int (iI 6)]) (rest := []) F hl (c_X9_takesNumber l X w7 mo (rm3 tx v) tx 0 6 hX11 htx hp3 (by omega) (by omega)) hW hS hX11 rfl rfl ⟨Nat.le_of_ble_eq_true rfl, Nat.le_of_ble_eq_true rfl⟩ (Nat.le_of_ble_eq_true rfl) ⟨Nat.zero_le _, Nat.zero_le _⟩ dX9_readsCommand_73 (fun w70 H locs hp71 hW hS => ?_)
          obtain ⟨ho72, hn73⟩ := hp71
          have htx := (hn73 _ (by omega)).trans htx
          have hs := (hn73 _ (by omega)).trans hs
          have hsc := (hn73 _ (by omega)).trans hsc
          refine h_goto (tgt := 125) F dX9_readsCommand_76 (by decide) ?_
          refine h_top (show (seR 0 6 (rm3 tx v) : Int) = rmA tx v from by unfold rmA; first | rw [if_pos (by omega)] | rw [if_neg (by omega), if_pos (by omega)] | rw [if_neg (by omega), if_neg (by omega), if_pos (by omega)] | rw [if_neg (by omega), if_neg (by omega), if_neg (by omega), if_pos (by omega)] | rw [if_neg (by omega), if_neg (by omega), if_neg (by omega), if_neg (by omega)]) ?_
          exact join125   w70 _ _ ls (by rw [show (rm4 tx v : Int → Int) = tkV tx 0 6 (rm3 tx v) from by unfold rm4; first | rw [if_pos (by omega)] | rw [if_neg (by omega), if_pos (by omega)] | rw [if_neg (by omega), if_neg (by omega), if_pos (by omega)] | rw [if_neg (by omega), if_neg (by omega), if_neg (by omega), if_pos (by omega)] | rw [if_neg (by omega), if_neg (by omega), if_neg (by omega), if_neg (by omega)]]; exact ho72) (fun q h09 => by rw [hn73 q (by omega)])  hW hS (lv_sub hl [0, 1] rfl)
      · have c3d := of_decide_eq_false c3
        exact h_vret F hr hlk hW hS ⟨(by (rw [hO43_0]) <;> (unfold rmV; first | rw [if_neg (by omega)] | rw [if_pos (by omega), if_neg (by omega)] | (rw [if_pos (by omega), if_pos (by omega)]; unfold rmX; first | rw [if_pos (by omega)] | rw [if_neg (by omega)]))), (by (rw [hsc]) <;> (unfold rmS; first | rw [if_pos (by omega)] | rw [if_neg (by omega)])), (fun q h09 h19 => by rw [hF43 q (by omega), hF15 q (by omega)])⟩ dX9_readsCommand_50
    refine lv_aload_n F.1 F.2.1 dX9_readsCommand_15 rfl (lv_at hl 1 rfl) ?_
    refine gf_RX9_393 F hW hO15_0 rfl dX9_readsCommand_16 ?_
    refine h_top (show ((rm1 tx v) 28 : Int) = v 28 from e28) ?_
    refine h_bipush F dX9_readsCommand_19 rfl ?_
    refine h_iceq (tgt := 37) F dX9_readsCommand_21 (by decide) (by omega) (fun c74 => ?_) (fun c74 => ?_)
    · refine lv_aload_n F.1 F.2.1 dX9_readsCommand_37 rfl (lv_at hl 1 rfl) ?_
      refine h_bipush F dX9_readsCommand_38 rfl ?_
      refine cl_RX9_311 (As := [.int (iI 6)]) (rest := []) F hl (c_X9_fails l X wja mo (rm1 tx v) 6 hO15_0 (by omega)) hW hS hO15_0 rfl rfl ⟨Nat.le_of_ble_eq_true rfl, Nat.le_of_ble_eq_true rfl⟩ (Nat.le_of_ble_eq_true rfl) ⟨Nat.zero_le _, Nat.zero_le _⟩ dX9_readsCommand_40 (fun w75 H locs hp76 hW hS => ?_)
      obtain ⟨ho77, hn78⟩ := hp76
      have htx := (hn78 _ (by omega)).trans htx
      have hs := (hn78 _ (by omega)).trans hs
      have hsc := (hn78 _ (by omega)).trans hsc
      exact join43   w75 _ _ ls (by rw [show (rm2 tx v : Int → Int) = faV 6 (rm1 tx v) from by unfold rm2; first | rw [if_pos (by omega)] | rw [if_neg (by omega)]]; exact ho77) (fun q h09 => by rw [hn78 q (by omega)])  hW hS (lv_sub hl [0, 1] rfl)
    · refine lv_iload_n F.1 F.2.1 dX9_readsCommand_24 rfl (lv_at hl 0 rfl) ?_
      refine h_iconst F dX9_readsCommand_25 ?_
      refine h_icne (tgt := 43) F dX9_readsCommand_26 (by decide) (by omega) (fun c79 => ?_) (fun c79 => ?_)
      · exact join43   wja _ _ ls (by rw [show (rm2 tx v : Int → Int) = rm1 tx v from by unfold rm2; first | rw [if_pos (by omega)] | rw [if_neg (by omega)]]; exact hO15_0) (fun q h09 => rfl)  hW hS (lv_sub hl [0, 1] rfl)
      · refine lv_aload_n F.1 F.2.1 dX9_readsCommand_29 rfl (lv_at hl 1 rfl) ?_
        refine gf_RX9_396 F hW hO15_0 rfl dX9_readsCommand_30 ?_
        refine h_top (show ((rm1 tx v) 29 : Int) = v 29 from e29) ?_
        refine h_iconst F dX9_readsCommand_33 ?_
        refine h_icne (tgt := 43) F dX9_readsCommand_34 (by decide) (by omega) (fun c80 => ?_) (fun c80 => ?_)
        · exact join43   wja _ _ ls (by rw [show (rm2 tx v : Int → Int) = rm1 tx v from by unfold rm2; first | rw [if_pos (by omega)] | rw [if_neg (by omega)]]; exact hO15_0) (fun q h09 => rfl)  hW hS (lv_sub hl [0, 1] rfl)
        · refine lv_aload_n F.1 F.2.1 dX9_readsCommand_37 rfl (lv_at hl 1 rfl) ?_
          refine h_bipush F dX9_readsCommand_38 rfl ?_
          refine cl_RX9_311 (As := [.int (iI 6)]) (rest := []) F hl (c_X9_fails l X wja mo (rm1 tx v) 6 hO15_0 (by omega)) hW hS hO15_0 rfl rfl ⟨Nat.le_of_ble_eq_true rfl, Nat.le_of_ble_eq_true rfl⟩ (Nat.le_of_ble_eq_true rfl) ⟨Nat.zero_le _, Nat.zero_le _⟩ dX9_readsCommand_40 (fun w81 H locs hp82 hW hS => ?_)
          obtain ⟨ho83, hn84⟩ := hp82
          have htx := (hn84 _ (by omega)).trans htx
          have hs := (hn84 _ (by omega)).trans hs
          have hsc := (hn84 _ (by omega)).trans hsc
          exact join43   w81 _ _ ls (by rw [show (rm2 tx v : Int → Int) = faV 6 (rm1 tx v) from by unfold rm2; first | rw [if_pos (by omega)] | rw [if_neg (by omega)]]; exact ho83) (fun q h09 => by rw [hn84 q (by omega)])  hW hS (lv_sub hl [0, 1] rfl)
  refine lv_iload_n F.1 F.2.1 dX9_readsCommand_5 rfl (lv_at hl 0 rfl) ?_
  refine h_iconst F dX9_readsCommand_6 ?_
  refine h_icne (tgt := 15) F dX9_readsCommand_7 (by decide) (by omega) (fun c85 => ?_) (fun c85 => ?_)
  · exact join15   w _ _ ls (by rw [show (rm1 tx v : Int → Int) = v from by unfold rm1; first | rw [if_pos (by omega)] | rw [if_neg (by omega)]]; exact hM) (fun q h09 => rfl)  hW hS (lv_sub hl [0, 1] rfl)
  · refine lv_aload_n F.1 F.2.1 dX9_readsCommand_10 rfl (lv_at hl 1 rfl) ?_
    refine h_iconst F dX9_readsCommand_11 ?_
    refine cl_RX9_311 (As := [.int (iI 1)]) (rest := []) F hl (c_X9_fails l X w mo v 1 hM (by omega)) hW hS hM rfl rfl ⟨Nat.le_of_ble_eq_true rfl, Nat.le_of_ble_eq_true rfl⟩ (Nat.le_of_ble_eq_true rfl) ⟨Nat.zero_le _, Nat.zero_le _⟩ dX9_readsCommand_12 (fun w86 H locs hp87 hW hS => ?_)
    obtain ⟨ho88, hn89⟩ := hp87
    have htx := (hn89 _ (by omega)).trans htx
    have hs := (hn89 _ (by omega)).trans hs
    have hsc := (hn89 _ (by omega)).trans hsc
    exact join15   w86 _ _ ls (by rw [show (rm1 tx v : Int → Int) = faV 1 v from by unfold rm1; first | rw [if_pos (by omega)] | rw [if_neg (by omega)]]; exact ho88) (fun q h09 => by rw [hn89 q (by omega)])  hW hS (lv_sub hl [0, 1] rfl)
set_option maxHeartbeats 4000000 in
set_option maxRecDepth 100000 in
theorem c_X9_readsScript (l : Launch) (X : Cx) (w : Wo) (mo : Nat) (v tx σ sc : Int → Int) (hM : w mo = some (.inr (9, mL mo v))) (htx : w (mo + 7) = some (aZ X 400 tx)) (hs : w (mo + 1) = some (aZ X 1317 σ)) (hwf : WF σ) (hvp : vP tx v) (hsc : w (mo + 9) = some (aZ X 240 sc)) : CM l X yX9_readsScript cX9_readsScript 1 none (rmk 7 152) [.ref mo] w none (fun w' => w' mo = some (.inr (9, mL mo (sgV tx v sc (σ 0)))) ∧ w' (mo + 9) = some (aZ X 240 ((sgF tx v sc (σ 0)).2)) ∧ ∀ q : Nat, q ≠ mo → q ≠ mo + 9 → w' q = w q) := by
  refine CM.of (lv := [(0, .ref mo)]) (by decide) (Nat.le_of_ble_eq_true rfl) rfl (fun p e s m below meth c ls F hr hlk hin hW hS hl => ?_)
  have hZ0 := hW.2.2
  have hB9 := hW.1.2
  clear hin
  have hvt := hvp.1
  have h18 := hvp.2
  have hun := hvt.1
  have hfb := hvt.2.1
  have hvr := hvt.r
  have hi0 := sc0_I hvp
  refine lv_aload_n F.1 F.2.1 dX9_readsScript_0 rfl (lv_at hl 0 rfl) ?_
  refine h_iconst F dX9_readsScript_1 ?_
  refine pf_RX9_387 F hW hS hM (Nat.le_of_ble_eq_true rfl) dX9_readsScript_2 (fun w1 H locs ho3 hn2 hW hS => ?_)
  rw [mL_27] at ho3
  have htx := (hn2 _ (by omega)).trans htx
  have hs := (hn2 _ (by omega)).trans hs
  have hsc := (hn2 _ (by omega)).trans hsc
  refine lv_aload_n F.1 F.2.1 dX9_readsScript_5 rfl (lv_at hl 0 rfl) ?_
  refine h_iconst F dX9_readsScript_6 ?_
  refine pf_RX9_393 F hW hS ho3 (Nat.le_of_ble_eq_true rfl) dX9_readsScript_7 (fun w4 H locs ho6 hn5 hW hS => ?_)
  rw [mL_28] at ho6
  have htx := (hn5 _ (by omega)).trans htx
  have hs := (hn5 _ (by omega)).trans hs
  have hsc := (hn5 _ (by omega)).trans hsc
  refine lv_aload_n F.1 F.2.1 dX9_readsScript_10 rfl (lv_at hl 0 rfl) ?_
  refine h_iconst F dX9_readsScript_11 ?_
  refine pf_RX9_396 F hW hS ho6 (Nat.le_of_ble_eq_true rfl) dX9_readsScript_12 (fun w7 H locs ho9 hn8 hW hS => ?_)
  rw [mL_29] at ho9
  have htx := (hn8 _ (by omega)).trans htx
  have hs := (hn8 _ (by omega)).trans hs
  have hsc := (hn8 _ (by omega)).trans hsc
  have loop15 : ∀ (n9 : Nat) (i : Int) (v9 : Int → Int) (s9 : Int → Int), (hrg : 0 ≤ i ∧ i ≤ 402) → (hms : 402 - i < (n9 : Int)) → (wz9 : Wo) → (hO15_0 : wz9 mo = some (.inr (9, mL mo v9))) → (hA15_0 : wz9 (mo + 9) = some (aZ X 240 s9)) → (hF15 : ∀ q : Nat, q ≠ mo → q ≠ mo + 9 → wz9 q = w7 q) → (hi9 : sI tx v9) → (hm9 : v9 18 ≠ 0 ∨ i ≤ v9 15) → (hG : sgG tx (σ 0) (402 - i).toNat v9 s9 = sgF tx v sc (σ 0)) → (H : Heap) → (locs : List Loc) → (ls : Array Slot) → Wd X wz9 s H → va_S (cxA X) s.heap H locs → lv_has ls 1 [(0, .ref mo)] → W p l e (rmk 7 152) s m (List.toArray [.ref mo]) below meth c H locs 0 0 (MX X below (List.toArray [.ref mo]) s 0 0 none (fun w' => w' mo = some (.inr (9, mL mo (sgV tx v sc (σ 0)))) ∧ w' (mo + 9) = some (aZ X 240 ((sgF tx v sc (σ 0)).2)) ∧ ∀ q : Nat, q ≠ mo → q ≠ mo + 9 → w' q = w q)) (F0 m 15 ls []) := by
    intro n9
    induction n9 with
    | zero => intro i v9  s9  hrg hms; exfalso; omega
    | succ n9 ih15 =>
      intro i v9  s9  hrg hms wz9 hO15_0 hA15_0 hF15 hi9 hm9 hG H locs ls hW hS hl
      have htx := (hF15 _ (by omega) (by omega)).trans htx
      have hs := (hF15 _ (by omega) (by omega)).trans hs
      have hp9 := hi9.1
      have h189 := hp9.2
      have hi29 := hi9.2
      have hr9 := hp9.1.r
      have hN9 := hp9.1.1
      have hc1 := cl1_P hp9
      have hc2 := cl2_P hp9
      refine lv_aload_n F.1 F.2.1 dX9_readsScript_15 rfl (lv_at hl 0 rfl) ?_
      refine cl_RX9_299 (As := []) (rest := []) F hl (c_X9_isFine l X wz9 mo v9 hO15_0 (by omega)) hW hS hO15_0 rfl rfl ⟨Nat.le_of_ble_eq_true rfl, Nat.le_of_ble_eq_true rfl⟩ (Nat.le_of_ble_eq_true rfl) ⟨Nat.zero_le _, Nat.zero_le _⟩ dX9_readsScript_16 (fun w1 H locs hp10 hW hS => ?_)
      rw [hp10] at hW; clear hp10; clear w1
      refine h_ifeqb (tgt := 88) F dX9_readsScript_19 (by decide) (fun c11 => ?_) (fun c11 => ?_)
      · have c11d := of_decide_eq_false c11
        rw [sgG_e (by omega)] at hG
        refine lv_aload_n F.1 F.2.1 dX9_readsScript_88 rfl (lv_at hl 0 rfl) ?_
        refine gf_RX9_396 F hW hO15_0 rfl dX9_readsScript_89 ?_
        refine h_ifle (tgt := 100) F dX9_readsScript_92 (by decide) (by omega) (fun c12 => ?_) (fun c12 => ?_)
        · exact h_vret F hr hlk hW hS ⟨(by (rw [hO15_0]) <;> (unfold sgV; rw [← hG]; dsimp only; first | rw [if_pos (by omega)] | rw [if_neg (by omega)])), (by (rw [hA15_0]) <;> (rw [← hG])), (fun q h09 h19 => by rw [hF15 q (by omega) (by omega), hn8 q (by omega), hn5 q (by omega), hn2 q (by omega)])⟩ dX9_readsScript_100
        · refine lv_aload_n F.1 F.2.1 dX9_readsScript_95 rfl (lv_at hl 0 rfl) ?_
          refine h_iconst F dX9_readsScript_96 ?_
          refine cl_RX9_311 (As := [.int (iI 1)]) (rest := []) F hl (c_X9_fails l X wz9 mo v9 1 hO15_0 (by omega)) hW hS hO15_0 rfl rfl ⟨Nat.le_of_ble_eq_true rfl, Nat.le_of_ble_eq_true rfl⟩ (Nat.le_of_ble_eq_true rfl) ⟨Nat.zero_le _, Nat.zero_le _⟩ dX9_readsScript_97 (fun w13 H locs hp14 hW hS => ?_)
          obtain ⟨ho15, hn16⟩ := hp14
          have htx := (hn16 _ (by omega)).trans htx
          have hs := (hn16 _ (by omega)).trans hs
          have hA15_0 := (hn16 _ (by omega)).trans hA15_0
          exact h_vret F hr hlk hW hS ⟨(by (rw [ho15]) <;> (unfold sgV; rw [← hG]; dsimp only; first | rw [if_pos (by omega)] | rw [if_neg (by omega)])), (by (rw [hA15_0]) <;> (rw [← hG])), (fun q h09 h19 => by rw [hn16 q (by omega), hF15 q (by omega) (by omega), hn8 q (by omega), hn5 q (by omega), hn2 q (by omega)])⟩ dX9_readsScript_100
      · have c11d := of_decide_eq_true c11
        refine lv_aload_n F.1 F.2.1 dX9_readsScript_22 rfl (lv_at hl 0 rfl) ?_
        refine gf_RX9_288 F hW hO15_0 rfl dX9_readsScript_23 ?_
        refine h_ifeq (tgt := 88) F dX9_readsScript_26 (by decide) (by omega) (fun c17 => ?_) (fun c17 => ?_)
        · rw [sgG_e (by omega)] at hG
          refine lv_aload_n F.1 F.2.1 dX9_readsScript_88 rfl (lv_at hl 0 rfl) ?_
          refine gf_RX9_396 F hW hO15_0 rfl dX9_readsScript_89 ?_
          refine h_ifle (tgt := 100) F dX9_readsScript_92 (by decide) (by omega) (fun c18 => ?_) (fun c18 => ?_)
          · exact h_vret F hr hlk hW hS ⟨(by (rw [hO15_0]) <;> (unfold sgV; rw [← hG]; dsimp only; first | rw [if_pos (by omega)] | rw [if_neg (by omega)])), (by (rw [hA15_0]) <;> (rw [← hG])), (fun q h09 h19 => by rw [hF15 q (by omega) (by omega), hn8 q (by omega), hn5 q (by omega), hn2 q (by omega)])⟩ dX9_readsScript_100
          · refine lv_aload_n F.1 F.2.1 dX9_readsScript_95 rfl (lv_at hl 0 rfl) ?_
            refine h_iconst F dX9_readsScript_96 ?_
            refine cl_RX9_311 (As := [.int (iI 1)]) (rest := []) F hl (c_X9_fails l X wz9 mo v9 1 hO15_0 (by omega)) hW hS hO15_0 rfl rfl ⟨Nat.le_of_ble_eq_true rfl, Nat.le_of_ble_eq_true rfl⟩ (Nat.le_of_ble_eq_true rfl) ⟨Nat.zero_le _, Nat.zero_le _⟩ dX9_readsScript_97 (fun w19 H locs hp20 hW hS => ?_)
            obtain ⟨ho21, hn22⟩ := hp20
            have htx := (hn22 _ (by omega)).trans htx
            have hs := (hn22 _ (by omega)).trans hs
            have hA15_0 := (hn22 _ (by omega)).trans hA15_0
            exact h_vret F hr hlk hW hS ⟨(by (rw [ho21]) <;> (unfold sgV; rw [← hG]; dsimp only; first | rw [if_pos (by omega)] | rw [if_neg (by omega)])), (by (rw [hA15_0]) <;> (rw [← hG])), (fun q h09 h19 => by rw [hn22 q (by omega), hF15 q (by omega) (by omega), hn8 q (by omega), hn5 q (by omega), hn2 q (by omega)])⟩ dX9_readsScript_100
        · refine lv_aload_n F.1 F.2.1 dX9_readsScript_29 rfl (lv_at hl 0 rfl) ?_
          refine gf_RX9_396 F hW hO15_0 rfl dX9_readsScript_30 ?_
          refine h_ifle (tgt := 81) F dX9_readsScript_33 (by decide) (by omega) (fun c23 => ?_) (fun c23 => ?_)
          · have hcl : ¬ (clB tx v9 = true) := by rw [show clB tx v9 = false from by unfold clB; first | rw [decide_eq_false (p := 0 < v9 29) (by omega), Bool.false_and] | rw [‹isSR tx v9 125 = false›, Bool.and_false]]; decide
            refine lv_aload_n F.1 F.2.1 dX9_readsScript_81 rfl (lv_at hl 0 rfl) ?_
            refine cl_RX9_405 (As := []) (rest := []) F hl (c_X9_readsCommand l X wz9 mo v9 tx σ s9 hO15_0 htx hs hwf hi9 hA15_0) hW hS hO15_0 rfl rfl ⟨Nat.le_of_ble_eq_true rfl, Nat.le_of_ble_eq_true rfl⟩ (Nat.le_of_ble_eq_true rfl) ⟨Nat.zero_le _, Nat.zero_le _⟩ dX9_readsScript_82 (fun w24 H locs hp25 hW hS => ?_)
            obtain ⟨ho26, ha27, hn28⟩ := hp25
            have htx := (hn28 _ (by omega) (by omega)).trans htx
            have hs := (hn28 _ (by omega) (by omega)).trans hs
            have hX29 : w24 mo = some (.inr (9, mL mo (csV tx v9 (σ 0)))) := by rw [show (csV tx v9 (σ 0) : Int → Int) = (rmV tx v9 (σ 0)) from by unfold csV; rw [if_neg hcl]]; exact ho26
            have hX30 : w24 (mo + 9) = some (aZ X 240 (csS tx v9 s9 (σ 0))) := by rw [show (csS tx v9 s9 (σ 0) : Int → Int) = (rmS tx v9 s9 (σ 0)) from by unfold csS; rw [if_neg hcl]]; exact ha27
            refine h_goto (tgt := 15) F dX9_readsScript_85 (by decide) ?_
            have hmm9 : csV tx v9 (σ 0) 18 ≠ 0 ∨ i + 1 ≤ csV tx v9 (σ 0) 15 := by (by_cases hz9 : csV tx v9 (σ 0) 18 = 0; (have := csV_m (wd := σ 0) hp9 hz9; omega); exact .inl hz9)
            exact ih15 (i + 1) (csV tx v9 (σ 0)) (csS tx v9 s9 (σ 0)) (by omega) (by omega) w24 hX29 hX30 (fun q h09 h19 => by rw [hn28 q (by omega) (by omega), hF15 q (by omega) (by omega)]) (csV_I hi9) hmm9 ((sgG_s (by omega) (by omega)).symm.trans hG) _ _ ls hW hS (lv_sub hl [0] rfl)
          · refine lv_aload_n F.1 F.2.1 dX9_readsScript_36 rfl (lv_at hl 0 rfl) ?_
            refine h_bipush F dX9_readsScript_37 rfl ?_
            refine cl_RX9_348 (As := [.int (iI 125)]) (rest := []) F hl (c_X9_isSign l X wz9 mo v9 tx 125 hO15_0 htx hp9 (by omega)) hW hS hO15_0 rfl rfl ⟨Nat.le_of_ble_eq_true rfl, Nat.le_of_ble_eq_true rfl⟩ (Nat.le_of_ble_eq_true rfl) ⟨Nat.zero_le _, Nat.zero_le _⟩ dX9_readsScript_39 (fun w1 H locs hp31 hW hS => ?_)
            rw [hp31] at hW; clear hp31; clear w1
            refine h_ifeqb (tgt := 81) F dX9_readsScript_42 (by decide) (fun c32 => ?_) (fun c32 => ?_)
            · have hcl : ¬ (clB tx v9 = true) := by rw [show clB tx v9 = false from by unfold clB; first | rw [decide_eq_false (p := 0 < v9 29) (by omega), Bool.false_and] | rw [‹isSR tx v9 125 = false›, Bool.and_false]]; decide
              refine lv_aload_n F.1 F.2.1 dX9_readsScript_81 rfl (lv_at hl 0 rfl) ?_
              refine cl_RX9_405 (As := []) (rest := []) F hl (c_X9_readsCommand l X wz9 mo v9 tx σ s9 hO15_0 htx hs hwf hi9 hA15_0) hW hS hO15_0 rfl rfl ⟨Nat.le_of_ble_eq_true rfl, Nat.le_of_ble_eq_true rfl⟩ (Nat.le_of_ble_eq_true rfl) ⟨Nat.zero_le _, Nat.zero_le _⟩ dX9_readsScript_82 (fun w33 H locs hp34 hW hS => ?_)
              obtain ⟨ho35, ha36, hn37⟩ := hp34
              have htx := (hn37 _ (by omega) (by omega)).trans htx
              have hs := (hn37 _ (by omega) (by omega)).trans hs
              have hX38 : w33 mo = some (.inr (9, mL mo (csV tx v9 (σ 0)))) := by rw [show (csV tx v9 (σ 0) : Int → Int) = (rmV tx v9 (σ 0)) from by unfold csV; rw [if_neg hcl]]; exact ho35
              have hX39 : w33 (mo + 9) = some (aZ X 240 (csS tx v9 s9 (σ 0))) := by rw [show (csS tx v9 s9 (σ 0) : Int → Int) = (rmS tx v9 s9 (σ 0)) from by unfold csS; rw [if_neg hcl]]; exact ha36
              refine h_goto (tgt := 15) F dX9_readsScript_85 (by decide) ?_
              have hmm9 : csV tx v9 (σ 0) 18 ≠ 0 ∨ i + 1 ≤ csV tx v9 (σ 0) 15 := by (by_cases hz9 : csV tx v9 (σ 0) 18 = 0; (have := csV_m (wd := σ 0) hp9 hz9; omega); exact .inl hz9)
              exact ih15 (i + 1) (csV tx v9 (σ 0)) (csS tx v9 s9 (σ 0)) (by omega) (by omega) w33 hX38 hX39 (fun q h09 h19 => by rw [hn37 q (by omega) (by omega), hF15 q (by omega) (by omega)]) (csV_I hi9) hmm9 ((sgG_s (by omega) (by omega)).symm.trans hG) _ _ ls hW hS (lv_sub hl [0] rfl)
            · refine lv_aload_n F.1 F.2.1 dX9_readsScript_45 rfl (lv_at hl 0 rfl) ?_
              refine lv_dup F.1 F.2.1 dX9_readsScript_46 rfl ?_
              refine gf_RX9_396 F hW hO15_0 rfl dX9_readsScript_47 ?_
              refine h_iconst F dX9_readsScript_50 ?_
              refine h_isub (a := v9 29) (b := 1) F dX9_readsScript_51 ?_
              refine pf_RX9_396 F hW hS hO15_0 (Nat.le_of_ble_eq_true rfl) dX9_readsScript_52 (fun w40 H locs ho42 hn41 hW hS => ?_)
              rw [mL_29] at ho42
              have htx := (hn41 _ (by omega)).trans htx
              have hs := (hn41 _ (by omega)).trans hs
              have hA15_0 := (hn41 _ (by omega)).trans hA15_0
              refine lv_aload_n F.1 F.2.1 dX9_readsScript_55 rfl (lv_at hl 0 rfl) ?_
              refine h_bipush F dX9_readsScript_56 rfl ?_
              refine h_iconst F dX9_readsScript_58 ?_
              refine h_iconst F dX9_readsScript_59 ?_
              refine h_iconst F dX9_readsScript_60 ?_
              refine cl_RX9_401 (As := [.int (iI 6), .int (iI 0), .int (iI 0), .int (iI 0)]) (rest := []) F hl (c_X9_lays l X w40 mo (up v9 29 ((v9 29) - 1)) s9 6 0 0 0 ho42 hA15_0 (by show 0 ≤ v9 27 ∧ v9 27 < 60; omega)) hW hS ho42 rfl rfl ⟨Nat.le_of_ble_eq_true rfl, Nat.le_of_ble_eq_true rfl⟩ (Nat.le_of_ble_eq_true rfl) ⟨Nat.zero_le _, Nat.zero_le _⟩ dX9_readsScript_61 (fun w43 H locs hp44 hW hS => ?_)
              obtain ⟨ho45, ha46, hn47⟩ := hp44
              have htx := (hn47 _ (by omega) (by omega)).trans htx
              have hs := (hn47 _ (by omega) (by omega)).trans hs
              have hX48 : w43 mo = some (.inr (9, mL mo (cl1 v9))) := ho45
              have hX49 : w43 (mo + 9) = some (aZ X 240 (laS s9 (v9 27) 6 0 0 0)) := ha46
              refine lv_aload_n F.1 F.2.1 dX9_readsScript_64 rfl (lv_at hl 0 rfl) ?_
              refine cl_RX9_314 (As := []) (rest := []) F hl (c_X9_goesOn l X w43 mo (cl1 v9) tx hX48 htx hc1.1.1 (by have := hc1.1.r; omega) hc1.1.2.1) hW hS hX48 rfl rfl ⟨Nat.le_of_ble_eq_true rfl, Nat.le_of_ble_eq_true rfl⟩ (Nat.le_of_ble_eq_true rfl) ⟨Nat.zero_le _, Nat.zero_le _⟩ dX9_readsScript_65 (fun w50 H locs hp51 hW hS => ?_)
              obtain ⟨ho52, hn53⟩ := hp51
              have htx := (hn53 _ (by omega)).trans htx
              have hs := (hn53 _ (by omega)).trans hs
              have hX49 := (hn53 _ (by omega)).trans hX49
              have hX54 : w50 mo = some (.inr (9, mL mo (cl2 tx v9))) := ho52
              refine lv_aload_n F.1 F.2.1 dX9_readsScript_68 rfl (lv_at hl 0 rfl) ?_
              refine lv_aload_n F.1 F.2.1 dX9_readsScript_69 rfl (lv_at hl 0 rfl) ?_
              refine h_bipush F dX9_readsScript_70 rfl ?_
              refine cl_RX9_348 (As := [.int (iI 59)]) (rest := [.ref mo]) F hl (c_X9_isSign l X w50 mo (cl2 tx v9) tx 59 hX54 htx hc2 (by omega)) hW hS hX54 rfl rfl ⟨Nat.le_of_ble_eq_true rfl, Nat.le_of_ble_eq_true rfl⟩ (Nat.le_of_ble_eq_true rfl) ⟨Nat.zero_le _, Nat.zero_le _⟩ dX9_readsScript_72 (fun w1 H locs hp55 hW hS => ?_)
              rw [hp55] at hW; clear hp55; clear w1
              refine cl_RX9_323 (As := [.int (iI (bz (isSR tx (cl2 tx v9) 59)))]) (rest := []) F hl (c_X9_must l X w50 mo (cl2 tx v9) tx (isSR tx (cl2 tx v9) 59) hX54 htx hc2) hW hS hX54 rfl rfl ⟨Nat.le_of_ble_eq_true rfl, Nat.le_of_ble_eq_true rfl⟩ (Nat.le_of_ble_eq_true rfl) ⟨Nat.zero_le _, Nat.zero_le _⟩ dX9_readsScript_75 (fun w56 H locs hp57 hW hS => ?_)
              obtain ⟨ho58, hn59⟩ := hp57
              have htx := (hn59 _ (by omega)).trans htx
              have hs := (hn59 _ (by omega)).trans hs
              have hX49 := (hn59 _ (by omega)).trans hX49
              have hcl : clB tx v9 = true := by unfold clB; rw [decide_eq_true (p := 0 < v9 29) (by omega), ‹isSR tx v9 125 = true›]; rfl
              have hX60 : w56 mo = some (.inr (9, mL mo (csV tx v9 (σ 0)))) := by rw [show (csV tx v9 (σ 0) : Int → Int) = (muV tx (isSR tx (cl2 tx v9) 59) (cl2 tx v9)) from by unfold csV; rw [if_pos hcl]; rfl]; exact ho58
              have hX61 : w56 (mo + 9) = some (aZ X 240 (csS tx v9 s9 (σ 0))) := by rw [show (csS tx v9 s9 (σ 0) : Int → Int) = (laS s9 (v9 27) 6 0 0 0) from by unfold csS; rw [if_pos hcl]]; exact hX49
              refine h_goto (tgt := 15) F dX9_readsScript_78 (by decide) ?_
              have hmm9 : csV tx v9 (σ 0) 18 ≠ 0 ∨ i + 1 ≤ csV tx v9 (σ 0) 15 := by (by_cases hz9 : csV tx v9 (σ 0) 18 = 0; (have := csV_m (wd := σ 0) hp9 hz9; omega); exact .inl hz9)
              exact ih15 (i + 1) (csV tx v9 (σ 0)) (csS tx v9 s9 (σ 0)) (by omega) (by omega) w56 hX60 hX61 (fun q h09 h19 => by rw [hn59 q (by omega), hn53 q (by omega), hn47 q (by omega) (by omega), hn41 q (by omega), hF15 q (by omega) (by omega)]) (csV_I hi9) hmm9 ((sgG_s (by omega) (by omega)).symm.trans hG) _ _ ls hW hS (lv_sub hl [0] rfl)
  exact loop15 ((402 - 0) + 1 : Int).toNat 0 (up (up (up v 27 0) 28 0) 29 0) sc (by omega) (by omega) w7 ho9 hsc (fun q _ _ => rfl) hi0 (.inr hvr.1.1) rfl _ _ ls hW hS (lv_sub hl [0] rfl)
