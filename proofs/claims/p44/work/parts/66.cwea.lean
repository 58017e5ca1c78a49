/-- what is needed after rows up to i -/
def ndS (am σ : Int → Int) (b : Bool) (i : Int) : Int → Int := fun co => flZ am 7 0 co + sm (takeR σ b co) (σ 4) i
theorem ndS_0 (am σ : Int → Int) (b : Bool) : ndS am σ b (σ 4) = flZ am 7 0 := by
  funext co
  unfold ndS
  rw [sm_0]; omega
theorem ndS_s {am σ : Int → Int} {b : Bool} {i : Int} (h : σ 4 ≤ i) : ndS am σ b (i + 1) = addN (ndS am σ b i) σ b i (σ 0) := by
  funext co
  unfold ndS addN
  rw [sm_s _ h, Int.add_assoc]
  rfl
theorem ndS_v {am σ : Int → Int} {b : Bool} {k c : Int} (h : 0 ≤ c ∧ c < 7) : ndS am σ b (σ 4 + k) c = takeS σ b c k := by
  unfold ndS takeS flZ
  rw [if_pos h]; omega
theorem suf_eq {am σ : Int → Int} {b : Bool} {k : Int} : al (fun c => decide (ndS am σ b (σ 4 + k) c ≤ σ (6 + c))) 0 7 = enoS σ b k := by
  unfold enoS
  exact al_c (fun c c0 c1 => by rw [ndS_v ⟨c0, c1⟩])
theorem eno_he {σ : Int → Int} {b : Bool} {k : Int} (h : enoS σ b k = true) (co : Int) (c0 : 0 ≤ co) (c1 : co < 7) : takeS σ b co k ≤ σ (6 + co) := of_decide_eq_true (al_iff.mp h co c0 c1)
/-- the minutes of rows woven -/
def macN (σ : Int → Int) (b : Bool) : Nat → Int
  | 0 => 0
  | k + 1 => macN σ b k + mnS (fillN (weaveN σ b k) b (weaveN σ b k 4) (weaveN σ b k 0).toNat) (weaveN σ b k 4)
def wac (ac σ : Int → Int) (b : Bool) (k : Nat) : Int → Int := up (up ac 0 (ac 0 + 1)) 8 (ac 8 + macN σ b k)
theorem wac_0 (ac σ : Int → Int) (b : Bool) : wac ac σ b 0 = up ac 0 (ac 0 + 1) := by
  funext p
  unfold wac
  by_cases g : p = 8
  · rw [g, up_s]; show ac 8 + 0 = ac 8; omega
  · exact up_n g
theorem wac_s (ac σ : Int → Int) (b : Bool) (k : Nat) : wac ac σ b (k + 1) = up (wac ac σ b k) 8 (wac ac σ b k 8 + mnS (fillN (weaveN σ b k) b (weaveN σ b k 4) (weaveN σ b k 0).toNat) (weaveN σ b k 4)) := by
  funext p
  by_cases g : p = 8
  · rw [g, up_s]
    unfold wac
    rw [up_s, up_s]
    show ac 8 + (macN σ b k + _) = _
    omega
  · rw [up_n g]
    unfold wac
    rw [up_n g, up_n g]
theorem wea_fu {τ : Int → Int} {b : Bool} (h : WF τ) (hop : τ 4 < τ 1) (c : Int) (c0 : 0 ≤ c) (c1 : c < τ 0) : 0 ≤ cellS (fillN τ b (τ 4) (τ 0).toNat) c (τ 4) := by
  have w0 := h.1
  unfold WF0 at w0
  rw [fill_cell h (by omega) _ (by omega)]
  have hd := desS_r h (if b then turnS τ c else c) (τ 4)
  have := h.2.2.2.1 c (τ 4) c0 c1 (by omega) hop
  split
  · omega
  · rename_i g
    have : cellS τ c (τ 4) ≠ -1 := fun z => g ⟨rfl, by omega, z⟩
    omega
set_option maxHeartbeats 4000000 in
set_option maxRecDepth 100000 in
theorem c_doWeave_r3 (l : Launch) (X : Cx) (w : Wo) (y : Nat) (su : Int) (ac am : Int → Int) (σ : Int → Int) (nx sz : Int) (pas : Int → Int → Int) (rw9 : Int) (b : Bool) (hY : clO X w y su) (hac : w (y + 305) = some (aZ X 9 ac)) (ham : w (y + 306) = some (aZ X 7 am)) (hL : loomAt X w (y + 1) σ) (hH : hisAt X w (y + 53) nx sz pas) (hrw : 1 ≤ rw9 ∧ rw9 ≤ 30) (hop : σ 1 < σ 4 + rw9) : CM l X yX8_doWeave cX8_doWeave 5 (some (.int)) (rmk 5 128) [.ref y, .int (iI rw9), .int (iI (bz b))] w (some (.int (iI (-3)))) (fun w' => w' (y + 305) = some (aZ X 9 (up ac 3 (ac 3 + 1))) ∧ ∀ q : Nat, q ≠ y + 305 → w' q = w q) := by
  refine CM.of (lv := [(0, .ref y), (1, .int (iI rw9)), (2, .int (iI (bz b)))]) (by decide) (Nat.le_of_ble_eq_true rfl) rfl (fun p e s m below meth c ls F hr hlk hin hW hS hl => ?_)
  have hZ0 := hW.2.2
  have hB9 := hW.1.2
  clear hin
  unfold clO at hY
  have hO := hL.1.o
  have hA := hL.1
  have hwf := hL.2.2
  have hF := hwf.1
  unfold WF0 at hF
  refine lv_aload_n F.1 F.2.1 dX8_doWeave_0 rfl (lv_at hl 0 rfl) ?_
  refine gf_RX8_10 F hW hY rfl dX8_doWeave_1 ?_
  refine gf_RX8_148 F hW hO rfl dX8_doWeave_4 ?_
  refine lv_istore_n (lv' := [(3, .int (iI (σ 4))), (0, .ref y), (1, .int (iI rw9)), (2, .int (iI (bz b)))]) F.1 F.2.1 dX8_doWeave_7 rfl hl (by decide) rfl (fun ls hl => ?_)
  refine lv_iload_n F.1 F.2.1 dX8_doWeave_8 rfl (lv_at hl 2 rfl) ?_
  refine lv_aload_n F.1 F.2.1 dX8_doWeave_9 rfl (lv_at hl 1 rfl) ?_
  refine gf_RX8_10 F hW hY rfl dX8_doWeave_10 ?_
  refine gf_RX8_145 F hW hO rfl dX8_doWeave_13 ?_
  refine lv_iload_n F.1 F.2.1 dX8_doWeave_16 rfl (lv_at hl 0 rfl) ?_
  refine h_isub (a := σ 1) (b := σ 4) F dX8_doWeave_17 ?_
  refine h_icle (tgt := 27) F dX8_doWeave_18 (by decide) (by omega) (fun c1 => ?_) (fun c1 => ?_)
  · exfalso; omega
  · refine lv_aload_n F.1 F.2.1 dX8_doWeave_21 rfl (lv_at hl 1 rfl) ?_
    refine h_iconst F dX8_doWeave_22 ?_
    refine cl_RX8_374 (As := [.int (iI 3)]) (rest := []) F hl (c_X8_refuse l X w y su ac 3 hY hac (by omega)) hW hS hY rfl rfl ⟨Nat.le_of_ble_eq_true rfl, Nat.le_of_ble_eq_true rfl⟩ (Nat.le_of_ble_eq_true rfl) ⟨Nat.zero_le _, Nat.zero_le _⟩ dX8_doWeave_23 (fun w2 H locs hp3 hW hS => ?_)
    obtain ⟨ha4, hn5⟩ := hp3
    have hY := (hn5 _ (by omega)).trans hY
    have hO := (hn5 _ (by omega)).trans hO
    have ham := (hn5 _ (by omega)).trans ham
    exact h_ireti F hr hlk hW hS ⟨ha4, (fun q h09 => by rw [hn5 q (by omega)])⟩ dX8_doWeave_26
set_option maxHeartbeats 4000000 in
set_option maxRecDepth 100000 in
theorem c_doWeave_r2 (l : Launch) (X : Cx) (w : Wo) (y : Nat) (su : Int) (ac am : Int → Int) (σ : Int → Int) (nx sz : Int) (pas : Int → Int → Int) (rw9 : Int) (b : Bool) (hY : clO X w y su) (hac : w (y + 305) = some (aZ X 9 ac)) (ham : w (y + 306) = some (aZ X 7 am)) (hL : loomAt X w (y + 1) σ) (hH : hisAt X w (y + 53) nx sz pas) (hrw : 1 ≤ rw9 ∧ rw9 ≤ 30) (hop : σ 4 + rw9 ≤ σ 1) (hen : enoS σ b rw9 = false) : CM l X yX8_doWeave cX8_doWeave 5 (some (.int)) (rmk 5 128) [.ref y, .int (iI rw9), .int (iI (bz b))] w (some (.int (iI (-2)))) (fun w' => w' (y + 305) = some (aZ X 9 (up ac 2 (ac 2 + 1))) ∧ w' (y + 306) = some (aZ X 7 (ndS am σ b (σ 4 + rw9))) ∧ ∀ q : Nat, q ≠ y + 305 → q ≠ y + 306 → w' q = w q) := by
  refine CM.of (lv := [(0, .ref y), (1, .int (iI rw9)), (2, .int (iI (bz b)))]) (by decide) (Nat.le_of_ble_eq_true rfl) rfl (fun p e s m below meth c ls F hr hlk hin hW hS hl => ?_)
  have hZ0 := hW.2.2
  have hB9 := hW.1.2
  clear hin
  unfold clO at hY
  have hO := hL.1.o
  have hA := hL.1
  have hwf := hL.2.2
  have hF := hwf.1
  unfold WF0 at hF
  refine lv_aload_n F.1 F.2.1 dX8_doWeave_0 rfl (lv_at hl 0 rfl) ?_
  refine gf_RX8_10 F hW hY rfl dX8_doWeave_1 ?_
  refine gf_RX8_148 F hW hO rfl dX8_doWeave_4 ?_
  refine lv_istore_n (lv' := [(3, .int (iI (σ 4))), (0, .ref y), (1, .int (iI rw9)), (2, .int (iI (bz b)))]) F.1 F.2.1 dX8_doWeave_7 rfl hl (by decide) rfl (fun ls hl => ?_)
  refine lv_iload_n F.1 F.2.1 dX8_doWeave_8 rfl (lv_at hl 2 rfl) ?_
  refine lv_aload_n F.1 F.2.1 dX8_doWeave_9 rfl (lv_at hl 1 rfl) ?_
  refine gf_RX8_10 F hW hY rfl dX8_doWeave_10 ?_
  refine gf_RX8_145 F hW hO rfl dX8_doWeave_13 ?_
  refine lv_iload_n F.1 F.2.1 dX8_doWeave_16 rfl (lv_at hl 0 rfl) ?_
  refine h_isub (a := σ 1) (b := σ 4) F dX8_doWeave_17 ?_
  refine h_icle (tgt := 27) F dX8_doWeave_18 (by decide) (by omega) (fun c1 => ?_) (fun c1 => ?_)
  · refine lv_aload_n F.1 F.2.1 dX8_doWeave_27 rfl (lv_at hl 1 rfl) ?_
    refine gf_RX8_43 F hW hY rfl dX8_doWeave_28 ?_
    refine h_iconst F dX8_doWeave_31 ?_
    refine cl_RX8_299 (As := [.ref (y + 306), .int (iI 0)]) (rest := []) F hl (c_J7_fill_53178 l X w (y + 306) 7 am 0 ham (by omega)) hW hS rfl rfl ⟨Nat.le_of_ble_eq_true rfl, Nat.le_of_ble_eq_true rfl⟩ (Nat.le_of_ble_eq_true rfl) ⟨Nat.zero_le _, Nat.zero_le _⟩ dX8_doWeave_32 (fun w2 H locs hp3 hW hS => ?_)
    obtain ⟨ha4, hn5⟩ := hp3
    have hY := (hn5 _ (by omega)).trans hY
    have hO := (hn5 _ (by omega)).trans hO
    have hac := (hn5 _ (by omega)).trans hac
    have hL := hL.mv (w2 := w2) (fun q h1 h2 => hn5 q (by omega))
    have hH := hH.mv (w2 := w2) (fun q h1 h2 => hn5 q (by omega))
    refine lv_iload_n F.1 F.2.1 dX8_doWeave_35 rfl (lv_at hl 0 rfl) ?_
    refine lv_istore (lv' := [(4, .int (iI (σ 4))), (3, .int (iI (σ 4))), (0, .ref y), (1, .int (iI rw9)), (2, .int (iI (bz b)))]) F.1 F.2.1 dX8_doWeave_36 hl (by decide) rfl (fun ls hl => ?_)
    have loop38 : ∀ (n9 : Nat) (i : Int), (hrg : σ 4 ≤ i ∧ i ≤ σ 4 + rw9) → (hms : σ 4 + rw9 - i < (n9 : Int)) → (w9 : Wo) → (hA38_0 : w9 (y + 306) = some (aZ X 7 (ndS am σ b i))) → (hF38 : ∀ q : Nat, q ≠ y + 306 → w9 q = w2 q) → (H : Heap) → (locs : List Loc) → (ls : Array Slot) → Wd X w9 s H → va_S (cxA X) s.heap H locs → lv_has ls 5 [(4, .int (iI i)), (3, .int (iI (σ 4))), (0, .ref y), (1, .int (iI rw9)), (2, .int (iI (bz b)))] → W p l e (rmk 5 128) s m (List.toArray [.ref y, .int (iI rw9), .int (iI (bz b))]) below meth c H locs 0 0 (MX X below (List.toArray [.ref y, .int (iI rw9), .int (iI (bz b))]) s 0 0 (some (.int (iI (-2)))) (fun w' => w' (y + 305) = some (aZ X 9 (up ac 2 (ac 2 + 1))) ∧ w' (y + 306) = some (aZ X 7 (ndS am σ b (σ 4 + rw9))) ∧ ∀ q : Nat, q ≠ y + 305 → q ≠ y + 306 → w' q = w q)) (F0 m 38 ls []) := by
      intro n9
      induction n9 with
      | zero => intro i  hrg hms; exfalso; omega
      | succ n9 ih38 =>
        intro i  hrg hms w9 hA38_0 hF38  H locs ls hW hS hl
        have hY := (hF38 _ (by omega)).trans hY
        have hO := (hF38 _ (by omega)).trans hO
        have hac := (hF38 _ (by omega)).trans hac
        have hL := hL.mv (fun q h1 h2 => hF38 q (by omega))
        have hH := hH.mv (fun q h1 h2 => hF38 q (by omega))
        have hA := hL.1
        refine lv_iload F.1 F.2.1 dX8_doWeave_38 (lv_at hl 0 rfl) ?_
        refine lv_iload_n F.1 F.2.1 dX8_doWeave_40 rfl (lv_at hl 1 rfl) ?_
        refine lv_iload_n F.1 F.2.1 dX8_doWeave_41 rfl (lv_at hl 3 rfl) ?_
        refine h_iadd (a := σ 4) (b := rw9) F dX8_doWeave_42 ?_
        refine h_icge (tgt := 66) F dX8_doWeave_43 (by decide) (by omega) (fun c6 => ?_) (fun c6 => ?_)
        · refine lv_aload_n F.1 F.2.1 dX8_doWeave_66 rfl (lv_at hl 2 rfl) ?_
          refine gf_RX8_10 F hW hY rfl dX8_doWeave_67 ?_
          refine lv_aload_n F.1 F.2.1 dX8_doWeave_70 rfl (lv_at hl 2 rfl) ?_
          refine gf_RX8_43 F hW hY rfl dX8_doWeave_71 ?_
          have hie : i = σ 4 + rw9 := by omega
          have hnd9 : ∀ c, 0 ≤ c → c < 7 → 0 ≤ ndS am σ b i c ∧ ndS am σ b i c ≤ 100000 := fun c c0 c1 => by rw [hie, ndS_v ⟨c0, c1⟩]; have := takeS_r hwf b c rw9 (by omega); omega
          refine cl_RX8_309 (As := [.ref (y + 306)]) (rest := []) F hl (c_X5_suffices l X w9 (y + 1) σ (y + 306) (ndS am σ b i) hA hwf hA38_0 hnd9) hW hS hO rfl rfl ⟨Nat.le_of_ble_eq_true rfl, Nat.le_of_ble_eq_true rfl⟩ (Nat.le_of_ble_eq_true rfl) ⟨Nat.zero_le _, Nat.zero_le _⟩ dX8_doWeave_74 (fun w1 H locs hp7 hW hS => ?_)
          rw [hp7] at hW; clear hp7; clear w1
          refine h_top (show (bz (al (fun c => decide ((ndS am σ b i) c ≤ σ (6 + c))) 0 7) : Int) = bz (enoS σ b rw9) from congrArg bz (by rw [hie]; exact suf_eq)) ?_
          refine h_ifneb (tgt := 86) F dX8_doWeave_77 (by decide) (fun c8 => ?_) (fun c8 => ?_)
          · rw [hen] at c8; cases c8
          · refine lv_aload_n F.1 F.2.1 dX8_doWeave_80 rfl (lv_at hl 2 rfl) ?_
            refine h_iconst F dX8_doWeave_81 ?_
            refine cl_RX8_374 (As := [.int (iI 2)]) (rest := []) F hl (c_X8_refuse l X w9 y su ac 2 hY hac (by omega)) hW hS hY rfl rfl ⟨Nat.le_of_ble_eq_true rfl, Nat.le_of_ble_eq_true rfl⟩ (Nat.le_of_ble_eq_true rfl) ⟨Nat.zero_le _, Nat.zero_le _⟩ dX8_doWeave_82 (fun w9 H locs hp10 hW hS => ?_)
            obtain ⟨ha11, hn12⟩ := hp10
            have hY := (hn12 _ (by omega)).trans hY
            have hO := (hn12 _ (by omega)).trans hO
            have hA38_0 := (hn12 _ (by omega)).trans hA38_0
            exact h_ireti F hr hlk hW hS ⟨ha11, (by rw [hA38_0]; rw [hie]), (fun q h09 h19 => by rw [hn12 q (by omega), hF38 q (by omega), hn5 q (by omega)])⟩ dX8_doWeave_85
        · refine lv_aload_n F.1 F.2.1 dX8_doWeave_46 rfl (lv_at hl 2 rfl) ?_
          refine gf_RX8_10 F hW hY rfl dX8_doWeave_47 ?_
          refine lv_aload_n F.1 F.2.1 dX8_doWeave_50 rfl (lv_at hl 2 rfl) ?_
          refine gf_RX8_43 F hW hY rfl dX8_doWeave_51 ?_
          refine lv_iload F.1 F.2.1 dX8_doWeave_54 (lv_at hl 0 rfl) ?_
          refine lv_iload_n F.1 F.2.1 dX8_doWeave_56 rfl (lv_at hl 4 rfl) ?_
          refine cl_RX8_305 (As := [.ref (y + 306), .int (iI i), .int (iI (bz b))]) (rest := []) F hl (c_X5_addNeeds l X w9 (y + 1) σ (y + 306) (ndS am σ b i) i b hL hA38_0 (by omega) (by omega)) hW hS hO rfl rfl ⟨Nat.le_of_ble_eq_true rfl, Nat.le_of_ble_eq_true rfl⟩ (Nat.le_of_ble_eq_true rfl) ⟨Nat.zero_le _, Nat.zero_le _⟩ dX8_doWeave_57 (fun w13 H locs hp14 hW hS => ?_)
          obtain ⟨ha15, hn16⟩ := hp14
          have hY := (hn16 _ (by omega)).trans hY
          have hO := (hn16 _ (by omega)).trans hO
          have hac := (hn16 _ (by omega)).trans hac
          refine h_iinc (k := 0) (a := i) (lv' := [(4, .int (iI (i + 1))), (3, .int (iI (σ 4))), (0, .ref y), (1, .int (iI rw9)), (2, .int (iI (bz b)))]) F dX8_doWeave_60 hl rfl (by decide) rfl (fun ls hl => ?_)
          refine h_goto (tgt := 38) F dX8_doWeave_63 (by decide) ?_
          have eq17 : ((i + 1) : Int) = i + 1 := by first | rfl | omega | simp
          exact ih38 (i + 1)  (by omega) (by omega) w13 (by rw [show (ndS am σ b (i + 1) : Int → Int) = addN (ndS am σ b i) σ b i (σ 0) from ndS_s (by omega)]; exact ha15) (fun q h09 => by rw [hn16 q (by omega), hF38 q (by omega)])  _ _ ls hW hS (by rw [eq17]; exact lv_sub hl [0, 1, 2, 3, 4] rfl)
    have eq18 : ((σ 4) : Int) = σ 4 := by first | rfl | omega | simp
    exact loop38 ((σ 4 + rw9 - (σ 4)) + 1 : Int).toNat (σ 4)  (by omega) (by omega) w2 (by rw [show (ndS am σ b (σ 4) : Int → Int) = flZ am 7 0 from ndS_0 _ _ _]; exact ha4) (fun q _ => rfl)  _ _ ls hW hS (by rw [eq18]; exact lv_sub hl [0, 1, 2, 3, 4] rfl)
  · exfalso; omega
set_option maxHeartbeats 4000000 in
set_option maxRecDepth 100000 in
theorem c_X8_doWeave (l : Launch) (X : Cx) (w : Wo) (y : Nat) (su : Int) (ac am : Int → Int) (σ : Int → Int) (nx sz : Int) (pas : Int → Int → Int) (rw9 : Int) (b : Bool) (hY : clO X w y su) (hac : w (y + 305) = some (aZ X 9 ac)) (ham : w (y + 306) = some (aZ X 7 am)) (hL : loomAt X w (y + 1) σ) (hH : hisAt X w (y + 53) nx sz pas) (hrw : 1 ≤ rw9 ∧ rw9 ≤ 30) (hop : σ 4 + rw9 ≤ σ 1) (hen : enoS σ b rw9 = true) : CM l X yX8_doWeave cX8_doWeave 5 (some (.int)) (rmk 5 128) [.ref y, .int (iI rw9), .int (iI (bz b))] w (some (.int (iI (misFrom (weaveN σ b rw9.toNat) (σ 4))))) (fun w' => w' (y + 305) = some (aZ X 9 (wac ac σ b rw9.toNat)) ∧ w' (y + 306) = some (aZ X 7 (ndS am σ b (σ 4 + rw9))) ∧ hisAt X w' (y + 53) ((if nx = 8 then 0 else nx) + 1) (min 8 (sz + 1)) (keepP sz pas σ) ∧ loomAt X w' (y + 1) (weaveN σ b rw9.toNat) ∧ ∀ q : Nat, q ≠ y + 305 → q ≠ y + 306 → q ≠ y + 1 → q ≠ y + 1 + 2 → q ≠ y + 1 + 5 → (q < y + 53 ∨ y + 255 ≤ q) → w' q = w q) := by
  refine CM.of (lv := [(0, .ref y), (1, .int (iI rw9)), (2, .int (iI (bz b)))]) (by decide) (Nat.le_of_ble_eq_true rfl) rfl (fun p e s m below meth c ls F hr hlk hin hW hS hl => ?_)
  have hZ0 := hW.2.2
  have hB9 := hW.1.2
  clear hin
  unfold clO at hY
  have hO := hL.1.o
  have hA := hL.1
  have hwf := hL.2.2
  have hF := hwf.1
  unfold WF0 at hF
  refine lv_aload_n F.1 F.2.1 dX8_doWeave_0 rfl (lv_at hl 0 rfl) ?_
  refine gf_RX8_10 F hW hY rfl dX8_doWeave_1 ?_
  refine gf_RX8_148 F hW hO rfl dX8_doWeave_4 ?_
  refine lv_istore_n (lv' := [(3, .int (iI (σ 4))), (0, .ref y), (1, .int (iI rw9)), (2, .int (iI (bz b)))]) F.1 F.2.1 dX8_doWeave_7 rfl hl (by decide) rfl (fun ls hl => ?_)
  refine lv_iload_n F.1 F.2.1 dX8_doWeave_8 rfl (lv_at hl 2 rfl) ?_
  refine lv_aload_n F.1 F.2.1 dX8_doWeave_9 rfl (lv_at hl 1 rfl) ?_
  refine gf_RX8_10 F hW hY rfl dX8_doWeave_10 ?_
  refine gf_RX8_145 F hW hO rfl dX8_doWeave_13 ?_
  refine lv_iload_n F.1 F.2.1 dX8_doWeave_16 rfl (lv_at hl 0 rfl) ?_
  refine h_isub (a := σ 1) (b := σ 4) F dX8_doWeave_17 ?_
  refine h_icle (tgt := 27) F dX8_doWeave_18 (by decide) (by omega) (fun c1 => ?_) (fun c1 => ?_)
  · refine lv_aload_n F.1 F.2.1 dX8_doWeave_27 rfl (lv_at hl 1 rfl) ?_
    refine gf_RX8_43 F hW hY rfl dX8_doWeave_28 ?_
    refine h_iconst F dX8_doWeave_31 ?_
    refine cl_RX8_299 (As := [.ref (y + 306), .int (iI 0)]) (rest := []) F hl (c_J7_fill_53178 l X w (y + 306) 7 am 0 ham (by omega)) hW hS rfl rfl ⟨Nat.le_of_ble_eq_true rfl, Nat.le_of_ble_eq_true rfl⟩ (Nat.le_of_ble_eq_true rfl) ⟨Nat.zero_le _, Nat.zero_le _⟩ dX8_doWeave_32 (fun w2 H locs hp3 hW hS => ?_)
    obtain ⟨ha4, hn5⟩ := hp3
    have hY := (hn5 _ (by omega)).trans hY
    have hO := (hn5 _ (by omega)).trans hO
    have hac := (hn5 _ (by omega)).trans hac
    have hL := hL.mv (w2 := w2) (fun q h1 h2 => hn5 q (by omega))
    have hH := hH.mv (w2 := w2) (fun q h1 h2 => hn5 q (by omega))
    refine lv_iload_n F.1 F.2.1 dX8_doWeave_35 rfl (lv_at hl 0 rfl) ?_
    refine lv_istore (lv' := [(4, .int (iI (σ 4))), (3, .int (iI (σ 4))), (0, .ref y), (1, .int (iI rw9)), (2, .int (iI (bz b)))]) F.1 F.2.1 dX8_doWeave_36 hl (by decide) rfl (fun ls hl => ?_)
    have loop38 : ∀ (n9 : Nat) (i : Int), (hrg : σ 4 ≤ i ∧ i ≤ σ 4 + rw9) → (hms : σ 4 + rw9 - i < (n9 : Int)) → (w9 : Wo) → (hA38_0 : w9 (y + 306) = some (aZ X 7 (ndS am σ b i))) → (hF38 : ∀ q : Nat, q ≠ y + 306 → w9 q = w2 q) → (H : Heap) → (locs : List Loc) → (ls : Array Slot) → Wd X w9 s H → va_S (cxA X) s.heap H locs → lv_has ls 5 [(4, .int (iI i)), (3, .int (iI (σ 4))), (0, .ref y), (1, .int (iI rw9)), (2, .int (iI (bz b)))] → W p l e (rmk 5 128) s m (List.toArray [.ref y, .int (iI rw9), .int (iI (bz b))]) below meth c H locs 0 0 (MX X below (List.toArray [.ref y, .int (iI rw9), .int (iI (bz b))]) s 0 0 (some (.int (iI (misFrom (weaveN σ b rw9.toNat) (σ 4))))) (fun w' => w' (y + 305) = some (aZ X 9 (wac ac σ b rw9.toNat)) ∧ w' (y + 306) = some (aZ X 7 (ndS am σ b (σ 4 + rw9))) ∧ hisAt X w' (y + 53) ((if nx = 8 then 0 else nx) + 1) (min 8 (sz + 1)) (keepP sz pas σ) ∧ loomAt X w' (y + 1) (weaveN σ b rw9.toNat) ∧ ∀ q : Nat, q ≠ y + 305 → q ≠ y + 306 → q ≠ y + 1 → q ≠ y + 1 + 2 → q ≠ y + 1 + 5 → (q < y + 53 ∨ y + 255 ≤ q) → w' q = w q)) (F0 m 38 ls []) := by
      intro n9
      induction n9 with
      | zero => intro i  hrg hms; exfalso; omega
      | succ n9 ih38 =>
        intro i  hrg hms w9 hA38_0 hF38  H locs ls hW hS hl
        have hY := (hF38 _ (by omega)).trans hY
        have hO := (hF38 _ (by omega)).trans hO
        have hac := (hF38 _ (by omega)).trans hac
        have hL := hL.mv (fun q h1 h2 => hF38 q (by omega))
        have hH := hH.mv (fun q h1 h2 => hF38 q (by omega))
        have hA := hL.1
        refine lv_iload F.1 F.2.1 dX8_doWeave_38 (lv_at hl 0 rfl) ?_
        refine lv_iload_n F.1 F.2.1 dX8_doWeave_40 rfl (lv_at hl 1 rfl) ?_
        refine lv_iload_n F.1 F.2.1 dX8_doWeave_41 rfl (lv_at hl 3 rfl) ?_
        refine h_iadd (a := σ 4) (b := rw9) F dX8_doWeave_42 ?_
        refine h_icge (tgt := 66) F dX8_doWeave_43 (by decide) (by omega) (fun c6 => ?_) (fun c6 => ?_)
        · refine lv_aload_n F.1 F.2.1 dX8_doWeave_66 rfl (lv_at hl 2 rfl) ?_
          refine gf_RX8_10 F hW hY rfl dX8_doWeave_67 ?_
          refine lv_aload_n F.1 F.2.1 dX8_doWeave_70 rfl (lv_at hl 2 rfl) ?_
          refine gf_RX8_43 F hW hY rfl dX8_doWeave_71 ?_
          have hie : i = σ 4 + rw9 := by omega
          have hnd9 : ∀ c, 0 ≤ c → c < 7 → 0 ≤ ndS am σ b i c ∧ ndS am σ b i c ≤ 100000 := fun c c0 c1 => by rw [hie, ndS_v ⟨c0, c1⟩]; have := takeS_r hwf b c rw9 (by omega); omega
          refine cl_RX8_309 (As := [.ref (y + 306)]) (rest := []) F hl (c_X5_suffices l X w9 (y + 1) σ (y + 306) (ndS am σ b i) hA hwf hA38_0 hnd9) hW hS hO rfl rfl ⟨Nat.le_of_ble_eq_true rfl, Nat.le_of_ble_eq_true rfl⟩ (Nat.le_of_ble_eq_true rfl) ⟨Nat.zero_le _, Nat.zero_le _⟩ dX8_doWeave_74 (fun w1 H locs hp7 hW hS => ?_)
          rw [hp7] at hW; clear hp7; clear w1
          refine h_top (show (bz (al (fun c => decide ((ndS am σ b i) c ≤ σ (6 + c))) 0 7) : Int) = bz (enoS σ b rw9) from congrArg bz (by rw [hie]; exact suf_eq)) ?_
          refine h_ifneb (tgt := 86) F dX8_doWeave_77 (by decide) (fun c8 => ?_) (fun c8 => ?_)
          · refine lv_aload_n F.1 F.2.1 dX8_doWeave_86 rfl (lv_at hl 2 rfl) ?_
            refine cl_RX8_380 (As := []) (rest := []) F hl (c_X8_beginAct l X w9 y su ac σ nx sz pas hY hac hL hH) hW hS hY rfl rfl ⟨Nat.le_of_ble_eq_true rfl, Nat.le_of_ble_eq_true rfl⟩ (Nat.le_of_ble_eq_true rfl) ⟨Nat.zero_le _, Nat.zero_le _⟩ dX8_doWeave_87 (fun w9 H locs hp10 hW hS => ?_)
            obtain ⟨ha11, hmB, hn12⟩ := hp10
            have hY := (hn12 _ (by omega) (by omega)).trans hY
            have hO := (hn12 _ (by omega) (by omega)).trans hO
            have hA38_0 := (hn12 _ (by omega) (by omega)).trans hA38_0
            have hLb := hL.mv (w2 := w9) (fun q h1 h2 => hn12 q (by omega) (by omega))
            refine lv_iload_n F.1 F.2.1 dX8_doWeave_90 rfl (lv_at hl 1 rfl) ?_
            refine lv_istore (lv' := [(4, .int (iI (σ 4))), (3, .int (iI (σ 4))), (0, .ref y), (1, .int (iI rw9)), (2, .int (iI (bz b)))]) F.1 F.2.1 dX8_doWeave_91 hl (by decide) rfl (fun ls hl => ?_)
            have loop93 : ∀ (n9 : Nat) (j : Int), (hrg : σ 4 ≤ j ∧ j ≤ σ 4 + rw9) → (hms : σ 4 + rw9 - j < (n9 : Int)) → (wk : Wo) → (hA93_0 : wk (y + 305) = some (aZ X 9 (wac ac σ b (j - σ 4).toNat))) → (hF93 : ∀ q : Nat, q ≠ y + 305 → q ≠ y + 1 → q ≠ y + 1 + 2 → q ≠ y + 1 + 5 → wk q = w9 q) → (hL9 : loomAt X wk (y + 1) (weaveN σ b (j - σ 4).toNat)) → (H : Heap) → (locs : List Loc) → (ls : Array Slot) → Wd X wk s H → va_S (cxA X) s.heap H locs → lv_has ls 5 [(4, .int (iI j)), (3, .int (iI (σ 4))), (0, .ref y), (1, .int (iI rw9)), (2, .int (iI (bz b)))] → W p l e (rmk 5 128) s m (List.toArray [.ref y, .int (iI rw9), .int (iI (bz b))]) below meth c H locs 0 0 (MX X below (List.toArray [.ref y, .int (iI rw9), .int (iI (bz b))]) s 0 0 (some (.int (iI (misFrom (weaveN σ b rw9.toNat) (σ 4))))) (fun w' => w' (y + 305) = some (aZ X 9 (wac ac σ b rw9.toNat)) ∧ w' (y + 306) = some (aZ X 7 (ndS am σ b (σ 4 + rw9))) ∧ hisAt X w' (y + 53) ((if nx = 8 then 0 else nx) + 1) (min 8 (sz + 1)) (keepP sz pas σ) ∧ loomAt X w' (y + 1) (weaveN σ b rw9.toNat) ∧ ∀ q : Nat, q ≠ y + 305 → q ≠ y + 306 → q ≠ y + 1 → q ≠ y + 1 + 2 → q ≠ y + 1 + 5 → (q < y + 53 ∨ y + 255 ≤ q) → w' q = w q)) (F0 m 93 ls []) := by
              intro n9
              induction n9 with
              | zero => intro j  hrg hms; exfalso; omega
              | succ n9 ih93 =>
                intro j  hrg hms wk hA93_0 hF93 hL9 H locs ls hW hS hl
                have hY := (hF93 _ (by omega) (by omega) (by omega) (by omega)).trans hY
                have hA38_0 := (hF93 _ (by omega) (by omega) (by omega) (by omega)).trans hA38_0
                have hwo := wea_all hwf rw9.toNat (by omega) (fun co c0 c1 => by rw [show ((rw9.toNat : Nat) : Int) = rw9 by omega]; exact eno_he hen co c0 c1) (j - σ 4).toNat (by omega)
                have hhe := fun (z : j < σ 4 + rw9) => wea_he (rows := rw9.toNat) hwf hwo (by omega) (fun co c0 c1 => by rw [show ((rw9.toNat : Nat) : Int) = rw9 by omega]; exact eno_he hen co c0 c1)
                have hwt := hwo.1
                have ht0 := hwo.2.1 0 (by decide) (by decide) (by decide)
                have ht1 := hwo.2.1 1 (by decide) (by decide) (by decide)
                have ht4 : weaveN σ b (j - σ 4).toNat 4 = j := by have := hwo.2.2.1; omega
                obtain ⟨τ, hτ⟩ : ∃ τ, τ = weaveN σ b (j - σ 4).toNat := ⟨_, rfl⟩
                rw [← hτ] at hL9 hhe hwt ht0 ht1 ht4
                have hA := hL9.1
                have hOt := hA.o
                refine lv_iload F.1 F.2.1 dX8_doWeave_93 (lv_at hl 0 rfl) ?_
                refine lv_iload_n F.1 F.2.1 dX8_doWeave_95 rfl (lv_at hl 1 rfl) ?_
                refine lv_iload_n F.1 F.2.1 dX8_doWeave_96 rfl (lv_at hl 3 rfl) ?_
                refine h_iadd (a := σ 4) (b := rw9) F dX8_doWeave_97 ?_
                refine h_icge (tgt := 121) F dX8_doWeave_98 (by decide) (by omega) (fun c13 => ?_) (fun c13 => ?_)
                · refine lv_aload_n F.1 F.2.1 dX8_doWeave_121 rfl (lv_at hl 2 rfl) ?_
                  refine gf_RX8_10 F hW hY rfl dX8_doWeave_122 ?_
                  refine lv_iload_n F.1 F.2.1 dX8_doWeave_125 rfl (lv_at hl 1 rfl) ?_
                  refine cl_RX8_261 (As := [.int (iI (σ 4))]) (rest := []) F hl (c_X5_mistakesFrom l X wk (y + 1) τ (σ 4) hL9 (by omega)) hW hS hOt rfl rfl ⟨Nat.le_of_ble_eq_true rfl, Nat.le_of_ble_eq_true rfl⟩ (Nat.le_of_ble_eq_true rfl) ⟨Nat.zero_le _, Nat.zero_le _⟩ dX8_doWeave_126 (fun w1 H locs hp14 hW hS => ?_)
                  rw [hp14] at hW; clear hp14; clear w1
                  refine h_top (show (misFrom τ (σ 4) : Int) = misFrom (weaveN σ b rw9.toNat) (σ 4) from by rw [hτ, show (j - σ 4).toNat = rw9.toNat by omega]) ?_
                  exact h_ireti F hr hlk hW hS ⟨(by rw [hA93_0]; first | rw [hie] | rw [show (j - σ 4).toNat = rw9.toNat by omega]), (by rw [hA38_0]; first | rw [hie] | rw [show (j - σ 4).toNat = rw9.toNat by omega]), hmB.mv (fun q h1 h2 => hF93 q (by omega) (by omega) (by omega) (by omega)), (by rw [show rw9.toNat = (j - σ 4).toNat by omega, ← hτ]; exact hL9), (fun q h09 h19 h29 h39 h49 h59 => by rw [hF93 q (by omega) (by omega) (by omega) (by omega), hn12 q (by omega) (by omega), hF38 q (by omega), hn5 q (by omega)])⟩ dX8_doWeave_129
                · refine lv_aload_n F.1 F.2.1 dX8_doWeave_101 rfl (lv_at hl 2 rfl) ?_
                  refine gf_RX8_10 F hW hY rfl dX8_doWeave_102 ?_
                  refine lv_iload F.1 F.2.1 dX8_doWeave_105 (lv_at hl 0 rfl) ?_
                  refine lv_iload_n F.1 F.2.1 dX8_doWeave_107 rfl (lv_at hl 4 rfl) ?_
                  have hhe := hhe (by omega)
                  rw [ht4] at hhe
                  refine cl_RX8_479 (As := [.int (iI j), .int (iI (bz b))]) (rest := []) F hl (c_X5_fillRow l X wk (y + 1) τ j b hL9 (by omega) hhe) hW hS hOt rfl rfl ⟨Nat.le_of_ble_eq_true rfl, Nat.le_of_ble_eq_true rfl⟩ (Nat.le_of_ble_eq_true rfl) ⟨Nat.zero_le _, Nat.zero_le _⟩ dX8_doWeave_108 (fun w15 H locs hp16 hW hS => ?_)
                  obtain ⟨hLf, hn17⟩ := hp16
                  have hY := (hn17 _ (by omega) (by omega)).trans hY
                  have hOt := (hn17 _ (by omega) (by omega)).trans hOt
                  have hA93_0 := (hn17 _ (by omega) (by omega)).trans hA93_0
                  have hA38_0 := (hn17 _ (by omega) (by omega)).trans hA38_0
                  have hr4 : (fillN τ b j (τ 0).toNat) 4 = j := (fill_lo hwt (by omega) (by decide) (by decide) _).trans ht4
                  have hr1 : (fillN τ b j (τ 0).toNat) 1 = τ 1 := fill_lo hwt (by omega) (by decide) (by decide) _
                  have hr0 : (fillN τ b j (τ 0).toNat) 0 = τ 0 := fill_lo hwt (by omega) (by decide) (by decide) _
                  have hfu9 : ∀ c, 0 ≤ c → c < (fillN τ b j (τ 0).toNat) 0 → 0 ≤ cellS (fillN τ b j (τ 0).toNat) c ((fillN τ b j (τ 0).toNat) 4) := by have h9 := wea_fu (b := b) hwt (by omega); rw [ht4] at h9; rw [hr4, hr0]; exact h9
                  refine lv_aload_n F.1 F.2.1 dX8_doWeave_111 rfl (lv_at hl 2 rfl) ?_
                  refine cl_RX8_473 (As := []) (rest := []) F hl (c_X8_finishRow l X w15 y su (wac ac σ b (j - σ 4).toNat) (fillN τ b j (τ 0).toNat) hY hA93_0 hLf (by omega) hfu9) hW hS hY rfl rfl ⟨Nat.le_of_ble_eq_true rfl, Nat.le_of_ble_eq_true rfl⟩ (Nat.le_of_ble_eq_true rfl) ⟨Nat.zero_le _, Nat.zero_le _⟩ dX8_doWeave_112 (fun w18 H locs hp19 hW hS => ?_)
                  obtain ⟨ha20, hfin, hn21⟩ := hp19
                  have hY := (hn21 _ (by omega) (by omega)).trans hY
                  have hA38_0 := (hn21 _ (by omega) (by omega)).trans hA38_0
                  have hpt : weaveN σ b (j + 1 - σ 4).toNat = up (fillN τ b j (τ 0).toNat) 4 ((fillN τ b j (τ 0).toNat) 4 + 1) := by rw [show (j + 1 - σ 4).toNat = (j - σ 4).toNat + 1 by omega]; show up (fillN (weaveN σ b (j - σ 4).toNat) b (weaveN σ b (j - σ 4).toNat 4) (weaveN σ b (j - σ 4).toNat 0).toNat) 4 (weaveN σ b (j - σ 4).toNat 4 + 1) = _; rw [← hτ, ht4, hr4]
                  have hL8 : loomAt X w18 (y + 1) (weaveN σ b (j + 1 - σ 4).toNat) := by rw [hpt]; exact hfin
                  have hws : wac ac σ b (j + 1 - σ 4).toNat = up (wac ac σ b (j - σ 4).toNat) 8 ((wac ac σ b (j - σ 4).toNat) 8 + mnS (fillN τ b j (τ 0).toNat) ((fillN τ b j (τ 0).toNat) 4)) := by rw [show (j + 1 - σ 4).toNat = (j - σ 4).toNat + 1 by omega, wac_s, ← hτ, ht4, hr4]
                  refine h_iinc (k := 0) (a := j) (lv' := [(4, .int (iI (j + 1))), (3, .int (iI (σ 4))), (0, .ref y), (1, .int (iI rw9)), (2, .int (iI (bz b)))]) F dX8_doWeave_115 hl rfl (by decide) rfl (fun ls hl => ?_)
                  refine h_goto (tgt := 93) F dX8_doWeave_118 (by decide) ?_
                  have eq22 : ((j + 1) : Int) = j + 1 := by first | rfl | omega | simp
                  exact ih93 (j + 1)  (by omega) (by omega) w18 (by rw [show (wac ac σ b ((j + 1) - σ 4).toNat : Int → Int) = up (wac ac σ b (j - σ 4).toNat) 8 ((wac ac σ b (j - σ 4).toNat) 8 + mnS (fillN τ b j (τ 0).toNat) ((fillN τ b j (τ 0).toNat) 4)) from hws]; exact ha20) (fun q h09 h19 h29 h39 => by rw [hn21 q (by omega) (by omega), hn17 q (by omega) (by omega), hF93 q (by omega) (by omega) (by omega) (by omega)]) hL8 _ _ ls hW hS (by rw [eq22]; exact lv_sub hl [0, 1, 2, 3, 4] rfl)
            have eq23 : ((σ 4) : Int) = σ 4 := by first | rfl | omega | simp
            exact loop93 ((σ 4 + rw9 - (σ 4)) + 1 : Int).toNat (σ 4)  (by omega) (by omega) w9 (by rw [show (wac ac σ b ((σ 4) - σ 4).toNat : Int → Int) = up ac 0 (ac 0 + 1) from by rw [show (σ 4 - σ 4).toNat = 0 by omega]; exact wac_0 _ _ _]; exact ha11) (fun q _ _ _ _ => rfl) (by rw [show (σ 4 - σ 4).toNat = 0 by omega]; exact hLb) _ _ ls hW hS (by rw [eq23]; exact lv_sub hl [0, 1, 2, 3, 4] rfl)
          · rw [hen] at c8; cases c8
        · refine lv_aload_n F.1 F.2.1 dX8_doWeave_46 rfl (lv_at hl 2 rfl) ?_
          refine gf_RX8_10 F hW hY rfl dX8_doWeave_47 ?_
          refine lv_aload_n F.1 F.2.1 dX8_doWeave_50 rfl (lv_at hl 2 rfl) ?_
          refine gf_RX8_43 F hW hY rfl dX8_doWeave_51 ?_
          refine lv_iload F.1 F.2.1 dX8_doWeave_54 (lv_at hl 0 rfl) ?_
          refine lv_iload_n F.1 F.2.1 dX8_doWeave_56 rfl (lv_at hl 4 rfl) ?_
          refine cl_RX8_305 (As := [.ref (y + 306), .int (iI i), .int (iI (bz b))]) (rest := []) F hl (c_X5_addNeeds l X w9 (y + 1) σ (y + 306) (ndS am σ b i) i b hL hA38_0 (by omega) (by omega)) hW hS hO rfl rfl ⟨Nat.le_of_ble_eq_true rfl, Nat.le_of_ble_eq_true rfl⟩ (Nat.le_of_ble_eq_true rfl) ⟨Nat.zero_le _, Nat.zero_le _⟩ dX8_doWeave_57 (fun w24 H locs hp25 hW hS => ?_)
          obtain ⟨ha26, hn27⟩ := hp25
          have hY := (hn27 _ (by omega)).trans hY
          have hO := (hn27 _ (by omega)).trans hO
          have hac := (hn27 _ (by omega)).trans hac
          refine h_iinc (k := 0) (a := i) (lv' := [(4, .int (iI (i + 1))), (3, .int (iI (σ 4))), (0, .ref y), (1, .int (iI rw9)), (2, .int (iI (bz b)))]) F dX8_doWeave_60 hl rfl (by decide) rfl (fun ls hl => ?_)
          refine h_goto (tgt := 38) F dX8_doWeave_63 (by decide) ?_
          have eq28 : ((i + 1) : Int) = i + 1 := by first | rfl | omega | simp
          exact ih38 (i + 1)  (by omega) (by omega) w24 (by rw [show (ndS am σ b (i + 1) : Int → Int) = addN (ndS am σ b i) σ b i (σ 0) from ndS_s (by omega)]; exact ha26) (fun q h09 => by rw [hn27 q (by omega), hF38 q (by omega)])  _ _ ls hW hS (by rw [eq28]; exact lv_sub hl [0, 1, 2, 3, 4] rfl)
    have eq29 : ((σ 4) : Int) = σ 4 := by first | rfl | omega | simp
    exact loop38 ((σ 4 + rw9 - (σ 4)) + 1 : Int).toNat (σ 4)  (by omega) (by omega) w2 (by rw [show (ndS am σ b (σ 4) : Int → Int) = flZ am 7 0 from ndS_0 _ _ _]; exact ha4) (fun q _ => rfl)  _ _ ls hW hS (by rw [eq29]; exact lv_sub hl [0, 1, 2, 3, 4] rfl)
  · exfalso; omega
