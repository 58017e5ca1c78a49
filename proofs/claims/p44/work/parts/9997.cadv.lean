/-- one advance of the class's walk: R rounds from the step pr on; whether an act is found, where -/
def Adv (kd ar : Int → Int) (ln : Int) : Nat → Int → (Int → Int) → Bool → Int → (Int → Int) → Prop
  | 0, _, _, _, _, _ => False
  | R + 1, pr, tl, b, pr2, tl2 => (0 ≤ pr + 1 ∧ pr + 1 ≤ 60) ∧ ((ln ≤ pr + 1 ∧ b = false ∧ pr2 = pr + 1 ∧ tl2 = tl) ∨ (pr + 1 < ln ∧ ((kd (pr + 1) = 5 ∧ (0 ≤ ar (3 * (pr + 1) + 0) ∧ ar (3 * (pr + 1) + 0) ≤ 20) ∧ Adv kd ar ln R (if ar (3 * (pr + 1) + 0) = 0 then ar (3 * (pr + 1) + 1) else (pr + 1)) (up tl (pr + 1) (ar (3 * (pr + 1) + 0))) b pr2 tl2) ∨ (kd (pr + 1) = 6 ∧ (0 ≤ ar (3 * (pr + 1) + 0) ∧ ar (3 * (pr + 1) + 0) < 60) ∧ (1 ≤ tl (ar (3 * (pr + 1) + 0)) ∧ tl (ar (3 * (pr + 1) + 0)) ≤ 20) ∧ Adv kd ar ln R (if 0 < tl (ar (3 * (pr + 1) + 0)) - 1 then ar (3 * (pr + 1) + 0) else (pr + 1)) (up tl (ar (3 * (pr + 1) + 0)) (tl (ar (3 * (pr + 1) + 0)) - 1)) b pr2 tl2) ∨ ((0 ≤ kd (pr + 1) ∧ kd (pr + 1) ≤ 4) ∧ b = true ∧ pr2 = pr + 1 ∧ tl2 = tl))))
theorem adv_p {kd ar tl tl2 : Int → Int} {ln pr pr2 : Int} {b : Bool} : ∀ {R : Nat}, Adv kd ar ln R pr tl b pr2 tl2 → ∃ r : Nat, R = r + 1 ∧ (0 ≤ pr + 1 ∧ pr + 1 ≤ 60) ∧ ((ln ≤ pr + 1 ∧ b = false ∧ pr2 = pr + 1 ∧ tl2 = tl) ∨ (pr + 1 < ln ∧ ((kd (pr + 1) = 5 ∧ (0 ≤ ar (3 * (pr + 1) + 0) ∧ ar (3 * (pr + 1) + 0) ≤ 20) ∧ Adv kd ar ln r (if ar (3 * (pr + 1) + 0) = 0 then ar (3 * (pr + 1) + 1) else (pr + 1)) (up tl (pr + 1) (ar (3 * (pr + 1) + 0))) b pr2 tl2) ∨ (kd (pr + 1) = 6 ∧ (0 ≤ ar (3 * (pr + 1) + 0) ∧ ar (3 * (pr + 1) + 0) < 60) ∧ (1 ≤ tl (ar (3 * (pr + 1) + 0)) ∧ tl (ar (3 * (pr + 1) + 0)) ≤ 20) ∧ Adv kd ar ln r (if 0 < tl (ar (3 * (pr + 1) + 0)) - 1 then ar (3 * (pr + 1) + 0) else (pr + 1)) (up tl (ar (3 * (pr + 1) + 0)) (tl (ar (3 * (pr + 1) + 0)) - 1)) b pr2 tl2) ∨ ((0 ≤ kd (pr + 1) ∧ kd (pr + 1) ≤ 4) ∧ b = true ∧ pr2 = pr + 1 ∧ tl2 = tl))))
  | 0, h => h.elim
  | R + 1, h => ⟨R, rfl, h⟩
theorem adv_k {x : Int} {P Q R : Prop} (h : (x = 5 ∧ P) ∨ (x = 6 ∧ Q) ∨ ((0 ≤ x ∧ x ≤ 4) ∧ R)) : 0 ≤ x ∧ x ≤ 6 := by
  rcases h with h | h | h
  · omega
  · omega
  · have := h.1
    omega
set_option maxHeartbeats 4000000 in
set_option maxRecDepth 100000 in
theorem c_X7_enterRepeat (l : Launch) (X : Cx) (w : Wo) (y : Nat) (st cm ac dp pr : Int) (ar tl : Int → Int) (hSc : w (y + 315) = some (.inr (7, [.ref (y + 311), .ref (y + 316), .ref (y + 317), .ref (y + 318), .int (iI st), .int (iI cm), .int (iI ac), .ref (y + 319), .ref (y + 320), .int (iI dp), .int (iI pr)]))) (har : w (y + 317) = some (aZ X 180 ar)) (htl : w (y + 318) = some (aZ X 60 tl)) (hpr : 0 ≤ pr ∧ pr < 60) (ht : 0 ≤ ar (3 * pr + 0) ∧ ar (3 * pr + 0) ≤ 20) : CM l X yX7_enterRepeat cX7_enterRepeat 2 none (rmk 3 64) [.ref (y + 315)] w none (fun w' => w' (y + 315) = some (.inr (7, [.ref (y + 311), .ref (y + 316), .ref (y + 317), .ref (y + 318), .int (iI st), .int (iI cm), .int (iI ac), .ref (y + 319), .ref (y + 320), .int (iI dp), .int (iI (if ar (3 * pr + 0) = 0 then ar (3 * pr + 1) else pr))])) ∧ w' (y + 318) = some (aZ X 60 (up tl pr (ar (3 * pr + 0)))) ∧ ∀ q : Nat, q ≠ y + 315 → q ≠ y + 318 → w' q = w q) := by
  refine CM.of (lv := [(0, .ref (y + 315))]) (by decide) (Nat.le_of_ble_eq_true rfl) rfl (fun p e s m below meth c ls F hr hlk hin hW hS hl => ?_)
  have hZ0 := hW.2.2
  have hB9 := hW.1.2
  clear hin
  refine lv_aload_n F.1 F.2.1 dX7_enterRepeat_0 rfl (lv_at hl 0 rfl) ?_
  refine h_iconst F dX7_enterRepeat_1 ?_
  refine cl_RX7_138 (As := [.int (iI 0)]) (rest := []) F hl (c_X7_argument l X w y st cm ac dp pr ar 0 hSc har (by omega)) hW hS hSc rfl rfl ⟨Nat.le_of_ble_eq_true rfl, Nat.le_of_ble_eq_true rfl⟩ (Nat.le_of_ble_eq_true rfl) ⟨Nat.zero_le _, Nat.zero_le _⟩ dX7_enterRepeat_2 (fun w1 H locs hp1 hW hS => ?_)
  rw [hp1] at hW; clear hp1; clear w1
  refine lv_istore_n (lv' := [(1, .int (iI (ar (3 * pr + 0)))), (0, .ref (y + 315))]) F.1 F.2.1 dX7_enterRepeat_5 rfl hl (by decide) rfl (fun ls hl => ?_)
  refine lv_aload_n F.1 F.2.1 dX7_enterRepeat_6 rfl (lv_at hl 1 rfl) ?_
  refine gf_RX7_18 F hW hSc rfl dX7_enterRepeat_7 ?_
  refine lv_aload_n F.1 F.2.1 dX7_enterRepeat_10 rfl (lv_at hl 1 rfl) ?_
  refine gf_RX7_127 F hW hSc rfl dX7_enterRepeat_11 ?_
  refine lv_iload_n F.1 F.2.1 dX7_enterRepeat_14 rfl (lv_at hl 0 rfl) ?_
  refine cl_RX7_100 (As := [.ref (y + 318), .int (iI pr), .int (iI (ar (3 * pr + 0)))]) (rest := []) F hl (c_X8_put l X w (y + 318) 60 tl pr (ar (3 * pr + 0)) htl (by omega) (by omega)) hW hS rfl rfl ⟨Nat.le_of_ble_eq_true rfl, Nat.le_of_ble_eq_true rfl⟩ (Nat.le_of_ble_eq_true rfl) ⟨Nat.zero_le _, Nat.zero_le _⟩ dX7_enterRepeat_15 (fun w2 H locs hp3 hW hS => ?_)
  obtain ⟨ha4, hn5⟩ := hp3
  have hSc := (hn5 _ (by omega)).trans hSc
  have har := (hn5 _ (by omega)).trans har
  refine lv_iload_n F.1 F.2.1 dX7_enterRepeat_18 rfl (lv_at hl 0 rfl) ?_
  refine h_ifne (tgt := 31) F dX7_enterRepeat_19 (by decide) (by omega) (fun c6 => ?_) (fun c6 => ?_)
  · exact h_vret F hr hlk hW hS ⟨(by (rw [hSc]) <;> (first | rw [if_pos (by omega)] | rw [if_neg (by omega)])), ha4, (fun q h09 h19 => by rw [hn5 q (by omega)])⟩ dX7_enterRepeat_31
  · refine lv_aload_n F.1 F.2.1 dX7_enterRepeat_22 rfl (lv_at hl 1 rfl) ?_
    refine lv_aload_n F.1 F.2.1 dX7_enterRepeat_23 rfl (lv_at hl 1 rfl) ?_
    refine h_iconst F dX7_enterRepeat_24 ?_
    refine cl_RX7_138 (As := [.int (iI 1)]) (rest := [.ref (y + 315)]) F hl (c_X7_argument l X w2 y st cm ac dp pr ar 1 hSc har (by omega)) hW hS hSc rfl rfl ⟨Nat.le_of_ble_eq_true rfl, Nat.le_of_ble_eq_true rfl⟩ (Nat.le_of_ble_eq_true rfl) ⟨Nat.zero_le _, Nat.zero_le _⟩ dX7_enterRepeat_25 (fun w1 H locs hp7 hW hS => ?_)
    rw [hp7] at hW; clear hp7; clear w1
    refine pf_RX7_127 F hW hS hSc (Nat.le_of_ble_eq_true rfl) dX7_enterRepeat_28 (fun w8 H locs ho10 hn9 hW hS => ?_)
    have ho10 : w8 (y + 315) = some (.inr (7, [.ref (y + 311), .ref (y + 316), .ref (y + 317), .ref (y + 318), .int (iI st), .int (iI cm), .int (iI ac), .ref (y + 319), .ref (y + 320), .int (iI dp), .int (iI (ar (3 * pr + 1)))])) := ho10
    have har := (hn9 _ (by omega)).trans har
    have ha4 := (hn9 _ (by omega)).trans ha4
    exact h_vret F hr hlk hW hS ⟨(by (rw [ho10]) <;> (first | rw [if_pos (by omega)] | rw [if_neg (by omega)])), ha4, (fun q h09 h19 => by rw [hn9 q (by omega), hn5 q (by omega)])⟩ dX7_enterRepeat_31
set_option maxHeartbeats 4000000 in
set_option maxRecDepth 100000 in
theorem c_X7_goRound (l : Launch) (X : Cx) (w : Wo) (y : Nat) (st cm ac dp pr : Int) (ar tl : Int → Int) (hSc : w (y + 315) = some (.inr (7, [.ref (y + 311), .ref (y + 316), .ref (y + 317), .ref (y + 318), .int (iI st), .int (iI cm), .int (iI ac), .ref (y + 319), .ref (y + 320), .int (iI dp), .int (iI pr)]))) (har : w (y + 317) = some (aZ X 180 ar)) (htl : w (y + 318) = some (aZ X 60 tl)) (hpr : 0 ≤ pr ∧ pr < 60) (ho : 0 ≤ ar (3 * pr + 0) ∧ ar (3 * pr + 0) < 60) (ht : 1 ≤ tl (ar (3 * pr + 0)) ∧ tl (ar (3 * pr + 0)) ≤ 20) : CM l X yX7_goRound cX7_goRound 3 none (rmk 3 64) [.ref (y + 315)] w none (fun w' => w' (y + 315) = some (.inr (7, [.ref (y + 311), .ref (y + 316), .ref (y + 317), .ref (y + 318), .int (iI st), .int (iI cm), .int (iI ac), .ref (y + 319), .ref (y + 320), .int (iI dp), .int (iI (if 0 < tl (ar (3 * pr + 0)) - 1 then ar (3 * pr + 0) else pr))])) ∧ w' (y + 318) = some (aZ X 60 (up tl (ar (3 * pr + 0)) (tl (ar (3 * pr + 0)) - 1))) ∧ ∀ q : Nat, q ≠ y + 315 → q ≠ y + 318 → w' q = w q) := by
  refine CM.of (lv := [(0, .ref (y + 315))]) (by decide) (Nat.le_of_ble_eq_true rfl) rfl (fun p e s m below meth c ls F hr hlk hin hW hS hl => ?_)
  have hZ0 := hW.2.2
  have hB9 := hW.1.2
  clear hin
  refine lv_aload_n F.1 F.2.1 dX7_goRound_0 rfl (lv_at hl 0 rfl) ?_
  refine h_iconst F dX7_goRound_1 ?_
  refine cl_RX7_138 (As := [.int (iI 0)]) (rest := []) F hl (c_X7_argument l X w y st cm ac dp pr ar 0 hSc har (by omega)) hW hS hSc rfl rfl ⟨Nat.le_of_ble_eq_true rfl, Nat.le_of_ble_eq_true rfl⟩ (Nat.le_of_ble_eq_true rfl) ⟨Nat.zero_le _, Nat.zero_le _⟩ dX7_goRound_2 (fun w1 H locs hp1 hW hS => ?_)
  rw [hp1] at hW; clear hp1; clear w1
  refine lv_istore_n (lv' := [(1, .int (iI (ar (3 * pr + 0)))), (0, .ref (y + 315))]) F.1 F.2.1 dX7_goRound_5 rfl hl (by decide) rfl (fun ls hl => ?_)
  refine lv_aload_n F.1 F.2.1 dX7_goRound_6 rfl (lv_at hl 1 rfl) ?_
  refine gf_RX7_18 F hW hSc rfl dX7_goRound_7 ?_
  refine lv_iload_n F.1 F.2.1 dX7_goRound_10 rfl (lv_at hl 0 rfl) ?_
  refine cl_RX7_123 (As := [.ref (y + 318), .int (iI (ar (3 * pr + 0)))]) (rest := []) F hl (c_X8_at l X w (y + 318) 60 tl (ar (3 * pr + 0)) htl (by omega) (by omega)) hW hS rfl rfl ⟨Nat.le_of_ble_eq_true rfl, Nat.le_of_ble_eq_true rfl⟩ (Nat.le_of_ble_eq_true rfl) ⟨Nat.zero_le _, Nat.zero_le _⟩ dX7_goRound_11 (fun w1 H locs hp2 hW hS => ?_)
  rw [hp2] at hW; clear hp2; clear w1
  refine h_iconst F dX7_goRound_14 ?_
  refine h_isub (a := tl (ar (3 * pr + 0))) (b := 1) F dX7_goRound_15 ?_
  refine lv_istore_n (lv' := [(2, .int (iI ((tl (ar (3 * pr + 0))) - 1))), (1, .int (iI (ar (3 * pr + 0)))), (0, .ref (y + 315))]) F.1 F.2.1 dX7_goRound_16 rfl hl (by decide) rfl (fun ls hl => ?_)
  refine lv_aload_n F.1 F.2.1 dX7_goRound_17 rfl (lv_at hl 2 rfl) ?_
  refine gf_RX7_18 F hW hSc rfl dX7_goRound_18 ?_
  refine lv_iload_n F.1 F.2.1 dX7_goRound_21 rfl (lv_at hl 1 rfl) ?_
  refine lv_iload_n F.1 F.2.1 dX7_goRound_22 rfl (lv_at hl 0 rfl) ?_
  refine cl_RX7_100 (As := [.ref (y + 318), .int (iI (ar (3 * pr + 0))), .int (iI ((tl (ar (3 * pr + 0))) - 1))]) (rest := []) F hl (c_X8_put l X w (y + 318) 60 tl (ar (3 * pr + 0)) ((tl (ar (3 * pr + 0))) - 1) htl (by omega) (by omega)) hW hS rfl rfl ⟨Nat.le_of_ble_eq_true rfl, Nat.le_of_ble_eq_true rfl⟩ (Nat.le_of_ble_eq_true rfl) ⟨Nat.zero_le _, Nat.zero_le _⟩ dX7_goRound_23 (fun w3 H locs hp4 hW hS => ?_)
  obtain ⟨ha5, hn6⟩ := hp4
  have hSc := (hn6 _ (by omega)).trans hSc
  have har := (hn6 _ (by omega)).trans har
  refine lv_iload_n F.1 F.2.1 dX7_goRound_26 rfl (lv_at hl 0 rfl) ?_
  refine h_ifle (tgt := 35) F dX7_goRound_27 (by decide) (by omega) (fun c7 => ?_) (fun c7 => ?_)
  · exact h_vret F hr hlk hW hS ⟨(by (rw [hSc]) <;> (first | rw [if_pos (by omega)] | rw [if_neg (by omega)])), (by (rw [ha5]) <;> (done)), (fun q h09 h19 => by rw [hn6 q (by omega)])⟩ dX7_goRound_35
  · refine lv_aload_n F.1 F.2.1 dX7_goRound_30 rfl (lv_at hl 2 rfl) ?_
    refine lv_iload_n F.1 F.2.1 dX7_goRound_31 rfl (lv_at hl 1 rfl) ?_
    refine pf_RX7_127 F hW hS hSc (Nat.le_of_ble_eq_true rfl) dX7_goRound_32 (fun w8 H locs ho10 hn9 hW hS => ?_)
    have ho10 : w8 (y + 315) = some (.inr (7, [.ref (y + 311), .ref (y + 316), .ref (y + 317), .ref (y + 318), .int (iI st), .int (iI cm), .int (iI ac), .ref (y + 319), .ref (y + 320), .int (iI dp), .int (iI (ar (3 * pr + 0)))])) := ho10
    have har := (hn9 _ (by omega)).trans har
    have ha5 := (hn9 _ (by omega)).trans ha5
    exact h_vret F hr hlk hW hS ⟨(by (rw [ho10]) <;> (first | rw [if_pos (by omega)] | rw [if_neg (by omega)])), (by (rw [ha5]) <;> (done)), (fun q h09 h19 => by rw [hn9 q (by omega), hn6 q (by omega)])⟩ dX7_goRound_35
set_option maxHeartbeats 4000000 in
set_option maxRecDepth 100000 in
theorem c_X7_advance (l : Launch) (X : Cx) (w : Wo) (y : Nat) (st cm ac dp pr : Int) (kd ar tl op ah : Int → Int) (R0 : Nat) (b : Bool) (pr2 : Int) (tl2 : Int → Int) (hSO : scO X w y st cm ac dp pr kd ar tl op ah) (hst : 0 ≤ st ∧ st ≤ 60) (hAd : Adv kd ar st R0 pr tl b pr2 tl2) (hR0 : R0 ≤ 10000) : CM l X yX7_advance cX7_advance 2 (some (.boolean)) (rmk 4 86) [.ref (y + 315)] w (some (.int (iI (bz b)))) (fun w' => w' (y + 315) = some (.inr (7, [.ref (y + 311), .ref (y + 316), .ref (y + 317), .ref (y + 318), .int (iI st), .int (iI cm), .int (iI ac), .ref (y + 319), .ref (y + 320), .int (iI dp), .int (iI pr2)])) ∧ w' (y + 318) = some (aZ X 60 tl2) ∧ ∀ q : Nat, q ≠ y + 315 → q ≠ y + 318 → w' q = w q) := by
  refine CM.of (lv := [(0, .ref (y + 315))]) (by decide) (Nat.le_of_ble_eq_true rfl) rfl (fun p e s m below meth c ls F hr hlk hin hW hS hl => ?_)
  have hZ0 := hW.2.2
  have hB9 := hW.1.2
  clear hin
  obtain ⟨hSc, hkd, har, htl, hop, hah⟩ := hSO
  refine h_iconst F dX7_advance_0 ?_
  refine lv_istore_n (lv' := [(1, .int (iI 0)), (0, .ref (y + 315))]) F.1 F.2.1 dX7_advance_1 rfl hl (by decide) rfl (fun ls hl => ?_)
  have loop2 : ∀ (n9 : Nat) (i : Int) (R9 : Nat) (pr9 : Int) (tl9 : Int → Int), (hrg : 0 ≤ i ∧ i ≤ 10000) → (hms : 10000 - i < (n9 : Int)) → (wz9 : Wo) → (hO2_0 : wz9 (y + 315) = some (.inr (7, [.ref (y + 311), .ref (y + 316), .ref (y + 317), .ref (y + 318), .int (iI st), .int (iI cm), .int (iI ac), .ref (y + 319), .ref (y + 320), .int (iI dp), .int (iI pr9)]))) → (hA2_0 : wz9 (y + 318) = some (aZ X 60 tl9)) → (hF2 : ∀ q : Nat, q ≠ y + 315 → q ≠ y + 318 → wz9 q = w q) → (hA9 : Adv kd ar st R9 pr9 tl9 b pr2 tl2) → (hR9 : i + (R9 : Int) ≤ 10000) → (H : Heap) → (locs : List Loc) → (ls : Array Slot) → Wd X wz9 s H → va_S (cxA X) s.heap H locs → lv_has ls 2 [(1, .int (iI i)), (0, .ref (y + 315))] → W p l e (rmk 4 86) s m (List.toArray [.ref (y + 315)]) below meth c H locs 0 0 (MX X below (List.toArray [.ref (y + 315)]) s 0 0 (some (.int (iI (bz b)))) (fun w' => w' (y + 315) = some (.inr (7, [.ref (y + 311), .ref (y + 316), .ref (y + 317), .ref (y + 318), .int (iI st), .int (iI cm), .int (iI ac), .ref (y + 319), .ref (y + 320), .int (iI dp), .int (iI pr2)])) ∧ w' (y + 318) = some (aZ X 60 tl2) ∧ ∀ q : Nat, q ≠ y + 315 → q ≠ y + 318 → w' q = w q)) (F0 m 2 ls []) := by
    intro n9
    induction n9 with
    | zero => intro i R9  pr9  tl9  hrg hms; exfalso; omega
    | succ n9 ih2 =>
      intro i R9  pr9  tl9  hrg hms wz9 hO2_0 hA2_0 hF2 hA9 hR9 H locs ls hW hS hl
      have hkd := (hF2 _ (by omega) (by omega)).trans hkd
      have har := (hF2 _ (by omega) (by omega)).trans har
      refine lv_iload_n F.1 F.2.1 dX7_advance_2 rfl (lv_at hl 0 rfl) ?_
      refine h_sipush F dX7_advance_3 rfl ?_
      refine h_icge (tgt := 71) F dX7_advance_6 (by decide) (by omega) (fun c1 => ?_) (fun c1 => ?_)
      · exfalso; obtain ⟨r8, hR8, -⟩ := adv_p hA9; omega
      · obtain ⟨r8, hR8, hq9, hcs⟩ := adv_p hA9
        refine lv_aload_n F.1 F.2.1 dX7_advance_9 rfl (lv_at hl 1 rfl) ?_
        refine lv_dup F.1 F.2.1 dX7_advance_10 rfl ?_
        refine gf_RX7_127 F hW hO2_0 rfl dX7_advance_11 ?_
        refine h_iconst F dX7_advance_14 ?_
        refine h_iadd (a := pr9) (b := 1) F dX7_advance_15 ?_
        refine pf_RX7_127 F hW hS hO2_0 (Nat.le_of_ble_eq_true rfl) dX7_advance_16 (fun w2 H locs ho4 hn3 hW hS => ?_)
        have ho4 : w2 (y + 315) = some (.inr (7, [.ref (y + 311), .ref (y + 316), .ref (y + 317), .ref (y + 318), .int (iI st), .int (iI cm), .int (iI ac), .ref (y + 319), .ref (y + 320), .int (iI dp), .int (iI (pr9 + 1))])) := ho4
        have hkd := (hn3 _ (by omega)).trans hkd
        have har := (hn3 _ (by omega)).trans har
        have hA2_0 := (hn3 _ (by omega)).trans hA2_0
        refine lv_aload_n F.1 F.2.1 dX7_advance_19 rfl (lv_at hl 1 rfl) ?_
        refine gf_RX7_127 F hW ho4 rfl dX7_advance_20 ?_
        refine lv_aload_n F.1 F.2.1 dX7_advance_23 rfl (lv_at hl 1 rfl) ?_
        refine gf_RX7_31 F hW ho4 rfl dX7_advance_24 ?_
        refine h_iclt (tgt := 32) F dX7_advance_27 (by decide) (by omega) (fun c5 => ?_) (fun c5 => ?_)
        · have hcs := (hcs.elim (fun z => by exfalso; omega) (fun z => z.2) : _ ∨ _ ∨ _)
          have hkr := adv_k hcs
          refine lv_aload_n F.1 F.2.1 dX7_advance_32 rfl (lv_at hl 1 rfl) ?_
          refine cl_RX7_130 (As := []) (rest := []) F hl (c_X7_kind l X w2 y st cm ac dp (pr9 + 1) kd ho4 hkd (by omega)) hW hS ho4 rfl rfl ⟨Nat.le_of_ble_eq_true rfl, Nat.le_of_ble_eq_true rfl⟩ (Nat.le_of_ble_eq_true rfl) ⟨Nat.zero_le _, Nat.zero_le _⟩ dX7_advance_33 (fun w1 H locs hp6 hW hS => ?_)
          rw [hp6] at hW; clear hp6; clear w1
          refine h_iconst F dX7_advance_36 ?_
          refine h_icne (tgt := 47) F dX7_advance_37 (by decide) (by omega) (fun c7 => ?_) (fun c7 => ?_)
          · refine lv_aload_n F.1 F.2.1 dX7_advance_47 rfl (lv_at hl 1 rfl) ?_
            refine cl_RX7_130 (As := []) (rest := []) F hl (c_X7_kind l X w2 y st cm ac dp (pr9 + 1) kd ho4 hkd (by omega)) hW hS ho4 rfl rfl ⟨Nat.le_of_ble_eq_true rfl, Nat.le_of_ble_eq_true rfl⟩ (Nat.le_of_ble_eq_true rfl) ⟨Nat.zero_le _, Nat.zero_le _⟩ dX7_advance_48 (fun w1 H locs hp8 hW hS => ?_)
            rw [hp8] at hW; clear hp8; clear w1
            refine h_bipush F dX7_advance_51 rfl ?_
            refine h_icne (tgt := 63) F dX7_advance_53 (by decide) (by omega) (fun c9 => ?_) (fun c9 => ?_)
            · obtain ⟨hk9, hb, hp2, ht2⟩ := or_3 hcs (fun z => by have := z.1; omega) (fun z => by have := z.1; omega)
              refine h_iconst F dX7_advance_63 ?_
              refine h_top (show (1 : Int) = bz b from by rw [hb]; rfl) ?_
              exact h_iretz F hr hlk hW hS ⟨(by (rw [ho4]) <;> (rw [hp2])), (by (rw [hA2_0]) <;> (rw [ht2])), (fun q h09 h19 => by rw [hn3 q (by omega), hF2 q (by omega) (by omega)])⟩ dX7_advance_64
            · obtain ⟨hk9, ho9, ht9, hAn⟩ := or_2 hcs (fun z => by have := z.1; omega) (fun z => by have := z.1; omega)
              refine lv_aload_n F.1 F.2.1 dX7_advance_56 rfl (lv_at hl 1 rfl) ?_
              refine cl_RX7_135 (As := []) (rest := []) F hl (c_X7_goRound l X w2 y st cm ac dp (pr9 + 1) ar tl9 ho4 har hA2_0 (by omega) (by omega) (by omega)) hW hS ho4 rfl rfl ⟨Nat.le_of_ble_eq_true rfl, Nat.le_of_ble_eq_true rfl⟩ (Nat.le_of_ble_eq_true rfl) ⟨Nat.zero_le _, Nat.zero_le _⟩ dX7_advance_57 (fun w10 H locs hp11 hW hS => ?_)
              obtain ⟨ho12, ha13, hn14⟩ := hp11
              have hkd := (hn14 _ (by omega) (by omega)).trans hkd
              have har := (hn14 _ (by omega) (by omega)).trans har
              refine h_goto (tgt := 65) F dX7_advance_60 (by decide) ?_
              refine h_iinc (k := 0) (a := i) (lv' := [(1, .int (iI (i + 1))), (0, .ref (y + 315))]) F dX7_advance_65 hl rfl (by decide) rfl (fun ls hl => ?_)
              refine h_goto (tgt := 2) F dX7_advance_68 (by decide) ?_
              have eq15 : ((i + 1) : Int) = i + 1 := by first | rfl | omega | simp
              exact ih2 (i + 1) r8 (if 0 < tl9 (ar (3 * (pr9 + 1) + 0)) - 1 then ar (3 * (pr9 + 1) + 0) else (pr9 + 1)) (up tl9 (ar (3 * (pr9 + 1) + 0)) (tl9 (ar (3 * (pr9 + 1) + 0)) - 1)) (by omega) (by omega) w10 ho12 ha13 (fun q h09 h19 => by rw [hn14 q (by omega) (by omega), hn3 q (by omega), hF2 q (by omega) (by omega)]) hAn (by omega) _ _ ls hW hS (by rw [eq15]; exact lv_sub hl [0, 1] rfl)
          · obtain ⟨hk9, ht9, hAn⟩ := or_1 hcs (fun z => by have := z.1; omega) (fun z => by have := z.1; omega)
            refine lv_aload_n F.1 F.2.1 dX7_advance_40 rfl (lv_at hl 1 rfl) ?_
            refine cl_RX7_132 (As := []) (rest := []) F hl (c_X7_enterRepeat l X w2 y st cm ac dp (pr9 + 1) ar tl9 ho4 har hA2_0 (by omega) (by omega)) hW hS ho4 rfl rfl ⟨Nat.le_of_ble_eq_true rfl, Nat.le_of_ble_eq_true rfl⟩ (Nat.le_of_ble_eq_true rfl) ⟨Nat.zero_le _, Nat.zero_le _⟩ dX7_advance_41 (fun w16 H locs hp17 hW hS => ?_)
            obtain ⟨ho18, ha19, hn20⟩ := hp17
            have hkd := (hn20 _ (by omega) (by omega)).trans hkd
            have har := (hn20 _ (by omega) (by omega)).trans har
            refine h_goto (tgt := 65) F dX7_advance_44 (by decide) ?_
            refine h_iinc (k := 0) (a := i) (lv' := [(1, .int (iI (i + 1))), (0, .ref (y + 315))]) F dX7_advance_65 hl rfl (by decide) rfl (fun ls hl => ?_)
            refine h_goto (tgt := 2) F dX7_advance_68 (by decide) ?_
            have eq21 : ((i + 1) : Int) = i + 1 := by first | rfl | omega | simp
            exact ih2 (i + 1) r8 (if ar (3 * (pr9 + 1) + 0) = 0 then ar (3 * (pr9 + 1) + 1) else (pr9 + 1)) (up tl9 (pr9 + 1) (ar (3 * (pr9 + 1) + 0))) (by omega) (by omega) w16 ho18 ha19 (fun q h09 h19 => by rw [hn20 q (by omega) (by omega), hn3 q (by omega), hF2 q (by omega) (by omega)]) hAn (by omega) _ _ ls hW hS (by rw [eq21]; exact lv_sub hl [0, 1] rfl)
        · obtain ⟨hb, hp2, ht2⟩ := (show b = false ∧ pr2 = pr9 + 1 ∧ tl2 = tl9 from hcs.elim (fun z => z.2) (fun z => by exfalso; omega))
          refine h_iconst F dX7_advance_30 ?_
          refine h_top (show (0 : Int) = bz b from by rw [hb]; rfl) ?_
          exact h_iretz F hr hlk hW hS ⟨(by (rw [ho4]) <;> (rw [hp2])), (by (rw [hA2_0]) <;> (rw [ht2])), (fun q h09 h19 => by rw [hn3 q (by omega), hF2 q (by omega) (by omega)])⟩ dX7_advance_31
  exact loop2 ((10000 - 0) + 1 : Int).toNat 0 R0 pr tl  (by omega) (by omega) w hSc htl (fun q _ _ => rfl) hAd (by omega) _ _ ls hW hS (lv_sub hl [0, 1] rfl)
