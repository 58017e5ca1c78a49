def caA (c : Int) (ar : Int → Int) (s a b x : Int) : Int → Int := if c = 0 then up (up (up ar (3 * s + 0) a) (3 * s + 1) b) (3 * s + 2) x else if c = 2 then up (up ar (3 * s + 0) a) (3 * s + 1) b else if c = 3 then up ar (3 * s + 0) a else ar
set_option maxHeartbeats 4000000 in
set_option maxRecDepth 100000 in
theorem c_X7_setArgument (l : Launch) (X : Cx) (w : Wo) (y : Nat) (st cm ac dp pr : Int) (ar : Int → Int) (sp wh vl : Int) (hSc : w (y + 315) = some (.inr (7, [.ref (y + 311), .ref (y + 316), .ref (y + 317), .ref (y + 318), .int (iI st), .int (iI cm), .int (iI ac), .ref (y + 319), .ref (y + 320), .int (iI dp), .int (iI pr)]))) (har : w (y + 317) = some (aZ X 180 ar)) (hi : 0 ≤ 3 * sp + wh ∧ 3 * sp + wh < 180 ∧ 0 ≤ sp ∧ sp < 60 ∧ 0 ≤ wh) : CM l X yX7_setArgument cX7_setArgument 4 none (rmk 1 22) [.ref (y + 315), .int (iI sp), .int (iI wh), .int (iI vl)] w none (fun w' => w' (y + 317) = some (aZ X 180 (up ar (3 * sp + wh) vl)) ∧ ∀ q : Nat, q ≠ y + 317 → w' q = w q) := by
  refine CM.of (lv := [(0, .ref (y + 315)), (1, .int (iI sp)), (2, .int (iI wh)), (3, .int (iI vl))]) (by decide) (Nat.le_of_ble_eq_true rfl) rfl (fun p e s m below meth c ls F hr hlk hin hW hS hl => ?_)
  have hZ0 := hW.2.2
  have hB9 := hW.1.2
  clear hin
  refine lv_aload_n F.1 F.2.1 dX7_setArgument_0 rfl (lv_at hl 0 rfl) ?_
  refine gf_RX7_15 F hW hSc rfl dX7_setArgument_1 ?_
  refine h_iconst F dX7_setArgument_4 ?_
  refine lv_iload_n F.1 F.2.1 dX7_setArgument_5 rfl (lv_at hl 1 rfl) ?_
  refine h_imul (a := 3) (b := sp) F dX7_setArgument_6 ?_
  refine lv_iload_n F.1 F.2.1 dX7_setArgument_7 rfl (lv_at hl 2 rfl) ?_
  refine h_iadd (a := 3 * sp) (b := wh) F dX7_setArgument_8 ?_
  refine lv_iload_n F.1 F.2.1 dX7_setArgument_9 rfl (lv_at hl 3 rfl) ?_
  refine cl_RX7_100 (As := [.ref (y + 317), .int (iI ((3 * sp) + wh)), .int (iI vl)]) (rest := []) F hl (c_X8_put l X w (y + 317) 180 ar ((3 * sp) + wh) vl har (by omega) (by omega)) hW hS rfl rfl ⟨Nat.le_of_ble_eq_true rfl, Nat.le_of_ble_eq_true rfl⟩ (Nat.le_of_ble_eq_true rfl) ⟨Nat.zero_le _, Nat.zero_le _⟩ dX7_setArgument_10 (fun w1 H locs hp2 hW hS => ?_)
  obtain ⟨ha3, hn4⟩ := hp2
  have hSc := (hn4 _ (by omega)).trans hSc
  exact h_vret F hr hlk hW hS ⟨(by (rw [ha3]) <;> (done)), (fun q h09 => by rw [hn4 q (by omega)])⟩ dX7_setArgument_13
set_option maxHeartbeats 4000000 in
set_option maxRecDepth 100000 in
theorem c_X7_argumentOf (l : Launch) (X : Cx) (w : Wo) (y : Nat) (st cm ac dp pr : Int) (ar : Int → Int) (sp wh : Int) (hSc : w (y + 315) = some (.inr (7, [.ref (y + 311), .ref (y + 316), .ref (y + 317), .ref (y + 318), .int (iI st), .int (iI cm), .int (iI ac), .ref (y + 319), .ref (y + 320), .int (iI dp), .int (iI pr)]))) (har : w (y + 317) = some (aZ X 180 ar)) (hi : 0 ≤ 3 * sp + wh ∧ 3 * sp + wh < 180 ∧ 0 ≤ sp ∧ sp < 60 ∧ 0 ≤ wh) : CM l X yX7_argumentOf cX7_argumentOf 3 (some (.int)) (rmk 1 21) [.ref (y + 315), .int (iI sp), .int (iI wh)] w (some (.int (iI (ar (3 * sp + wh))))) (fun w' => w' = w) := by
  refine CM.of (lv := [(0, .ref (y + 315)), (1, .int (iI sp)), (2, .int (iI wh))]) (by decide) (Nat.le_of_ble_eq_true rfl) rfl (fun p e s m below meth c ls F hr hlk hin hW hS hl => ?_)
  have hZ0 := hW.2.2
  have hB9 := hW.1.2
  clear hin
  refine lv_aload_n F.1 F.2.1 dX7_argumentOf_0 rfl (lv_at hl 0 rfl) ?_
  refine gf_RX7_15 F hW hSc rfl dX7_argumentOf_1 ?_
  refine h_iconst F dX7_argumentOf_4 ?_
  refine lv_iload_n F.1 F.2.1 dX7_argumentOf_5 rfl (lv_at hl 1 rfl) ?_
  refine h_imul (a := 3) (b := sp) F dX7_argumentOf_6 ?_
  refine lv_iload_n F.1 F.2.1 dX7_argumentOf_7 rfl (lv_at hl 2 rfl) ?_
  refine h_iadd (a := 3 * sp) (b := wh) F dX7_argumentOf_8 ?_
  refine cl_RX7_123 (As := [.ref (y + 317), .int (iI ((3 * sp) + wh))]) (rest := []) F hl (c_X8_at l X w (y + 317) 180 ar ((3 * sp) + wh) har (by omega) (by omega)) hW hS rfl rfl ⟨Nat.le_of_ble_eq_true rfl, Nat.le_of_ble_eq_true rfl⟩ (Nat.le_of_ble_eq_true rfl) ⟨Nat.zero_le _, Nat.zero_le _⟩ dX7_argumentOf_9 (fun w1 H locs hp1 hW hS => ?_)
  rw [hp1] at hW; clear hp1; clear w1
  refine h_top (show (ar ((3 * sp) + wh) : Int) = ar (3 * sp + wh) from by first | rfl | omega | (simp_all; done)) ?_
  exact h_ireti F hr hlk hW hS rfl dX7_argumentOf_12
set_option maxHeartbeats 4000000 in
set_option maxRecDepth 100000 in
theorem c_X7_argument (l : Launch) (X : Cx) (w : Wo) (y : Nat) (st cm ac dp pr : Int) (ar : Int → Int) (wh : Int) (hSc : w (y + 315) = some (.inr (7, [.ref (y + 311), .ref (y + 316), .ref (y + 317), .ref (y + 318), .int (iI st), .int (iI cm), .int (iI ac), .ref (y + 319), .ref (y + 320), .int (iI dp), .int (iI pr)]))) (har : w (y + 317) = some (aZ X 180 ar)) (hi : 0 ≤ 3 * pr + wh ∧ 3 * pr + wh < 180 ∧ 0 ≤ pr ∧ pr < 60 ∧ 0 ≤ wh) : CM l X yX7_argument cX7_argument 2 (some (.int)) (rmk 2 43) [.ref (y + 315), .int (iI wh)] w (some (.int (iI (ar (3 * pr + wh))))) (fun w' => w' = w) := by
  refine CM.of (lv := [(0, .ref (y + 315)), (1, .int (iI wh))]) (by decide) (Nat.le_of_ble_eq_true rfl) rfl (fun p e s m below meth c ls F hr hlk hin hW hS hl => ?_)
  have hZ0 := hW.2.2
  have hB9 := hW.1.2
  clear hin
  refine lv_aload_n F.1 F.2.1 dX7_argument_0 rfl (lv_at hl 0 rfl) ?_
  refine lv_aload_n F.1 F.2.1 dX7_argument_1 rfl (lv_at hl 0 rfl) ?_
  refine gf_RX7_127 F hW hSc rfl dX7_argument_2 ?_
  refine lv_iload_n F.1 F.2.1 dX7_argument_5 rfl (lv_at hl 1 rfl) ?_
  refine cl_RX7_142 (As := [.int (iI pr), .int (iI wh)]) (rest := []) F hl (c_X7_argumentOf l X w y st cm ac dp pr ar pr wh hSc har (by omega)) hW hS hSc rfl rfl ⟨Nat.le_of_ble_eq_true rfl, Nat.le_of_ble_eq_true rfl⟩ (Nat.le_of_ble_eq_true rfl) ⟨Nat.zero_le _, Nat.zero_le _⟩ dX7_argument_6 (fun w1 H locs hp1 hW hS => ?_)
  rw [hp1] at hW; clear hp1; clear w1
  exact h_ireti F hr hlk hW hS rfl dX7_argument_9
set_option maxHeartbeats 4000000 in
set_option maxRecDepth 100000 in
theorem c_X7_kind (l : Launch) (X : Cx) (w : Wo) (y : Nat) (st cm ac dp pr : Int) (kd : Int → Int) (hSc : w (y + 315) = some (.inr (7, [.ref (y + 311), .ref (y + 316), .ref (y + 317), .ref (y + 318), .int (iI st), .int (iI cm), .int (iI ac), .ref (y + 319), .ref (y + 320), .int (iI dp), .int (iI pr)]))) (hkd : w (y + 316) = some (aZ X 60 kd)) (hi : 0 ≤ pr ∧ pr < 60) : CM l X yX7_kind cX7_kind 1 (some (.int)) (rmk 1 21) [.ref (y + 315)] w (some (.int (iI (kd pr)))) (fun w' => w' = w) := by
  refine CM.of (lv := [(0, .ref (y + 315))]) (by decide) (Nat.le_of_ble_eq_true rfl) rfl (fun p e s m below meth c ls F hr hlk hin hW hS hl => ?_)
  have hZ0 := hW.2.2
  have hB9 := hW.1.2
  clear hin
  refine lv_aload_n F.1 F.2.1 dX7_kind_0 rfl (lv_at hl 0 rfl) ?_
  refine gf_RX7_11 F hW hSc rfl dX7_kind_1 ?_
  refine lv_aload_n F.1 F.2.1 dX7_kind_4 rfl (lv_at hl 0 rfl) ?_
  refine gf_RX7_127 F hW hSc rfl dX7_kind_5 ?_
  refine cl_RX7_123 (As := [.ref (y + 316), .int (iI pr)]) (rest := []) F hl (c_X8_at l X w (y + 316) 60 kd pr hkd (by omega) (by omega)) hW hS rfl rfl ⟨Nat.le_of_ble_eq_true rfl, Nat.le_of_ble_eq_true rfl⟩ (Nat.le_of_ble_eq_true rfl) ⟨Nat.zero_le _, Nat.zero_le _⟩ dX7_kind_8 (fun w1 H locs hp1 hW hS => ?_)
  rw [hp1] at hW; clear hp1; clear w1
  exact h_ireti F hr hlk hW hS rfl dX7_kind_11
set_option maxHeartbeats 4000000 in
set_option maxRecDepth 100000 in
theorem c_X7_addStep (l : Launch) (X : Cx) (w : Wo) (y : Nat) (st cm ac dp pr : Int) (kd : Int → Int) (k9 : Int) (hSc : w (y + 315) = some (.inr (7, [.ref (y + 311), .ref (y + 316), .ref (y + 317), .ref (y + 318), .int (iI st), .int (iI cm), .int (iI ac), .ref (y + 319), .ref (y + 320), .int (iI dp), .int (iI pr)]))) (hkd : w (y + 316) = some (aZ X 60 kd)) (hi : 0 ≤ st ∧ st < 60) : CM l X yX7_addStep cX7_addStep 2 none (rmk 1 22) [.ref (y + 315), .int (iI k9)] w none (fun w' => w' (y + 315) = some (.inr (7, [.ref (y + 311), .ref (y + 316), .ref (y + 317), .ref (y + 318), .int (iI (st + 1)), .int (iI cm), .int (iI ac), .ref (y + 319), .ref (y + 320), .int (iI dp), .int (iI pr)])) ∧ w' (y + 316) = some (aZ X 60 (up kd st k9)) ∧ ∀ q : Nat, q ≠ y + 315 → q ≠ y + 316 → w' q = w q) := by
  refine CM.of (lv := [(0, .ref (y + 315)), (1, .int (iI k9))]) (by decide) (Nat.le_of_ble_eq_true rfl) rfl (fun p e s m below meth c ls F hr hlk hin hW hS hl => ?_)
  have hZ0 := hW.2.2
  have hB9 := hW.1.2
  clear hin
  refine lv_aload_n F.1 F.2.1 dX7_addStep_0 rfl (lv_at hl 0 rfl) ?_
  refine gf_RX7_11 F hW hSc rfl dX7_addStep_1 ?_
  refine lv_aload_n F.1 F.2.1 dX7_addStep_4 rfl (lv_at hl 0 rfl) ?_
  refine gf_RX7_31 F hW hSc rfl dX7_addStep_5 ?_
  refine lv_iload_n F.1 F.2.1 dX7_addStep_8 rfl (lv_at hl 1 rfl) ?_
  refine cl_RX7_100 (As := [.ref (y + 316), .int (iI st), .int (iI k9)]) (rest := []) F hl (c_X8_put l X w (y + 316) 60 kd st k9 hkd (by omega) (by omega)) hW hS rfl rfl ⟨Nat.le_of_ble_eq_true rfl, Nat.le_of_ble_eq_true rfl⟩ (Nat.le_of_ble_eq_true rfl) ⟨Nat.zero_le _, Nat.zero_le _⟩ dX7_addStep_9 (fun w1 H locs hp2 hW hS => ?_)
  obtain ⟨ha3, hn4⟩ := hp2
  have hSc := (hn4 _ (by omega)).trans hSc
  refine lv_aload_n F.1 F.2.1 dX7_addStep_12 rfl (lv_at hl 0 rfl) ?_
  refine lv_dup F.1 F.2.1 dX7_addStep_13 rfl ?_
  refine gf_RX7_31 F hW hSc rfl dX7_addStep_14 ?_
  refine h_iconst F dX7_addStep_17 ?_
  refine h_iadd (a := st) (b := 1) F dX7_addStep_18 ?_
  refine pf_RX7_31 F hW hS hSc (Nat.le_of_ble_eq_true rfl) dX7_addStep_19 (fun w5 H locs ho7 hn6 hW hS => ?_)
  have ho7 : w5 (y + 315) = some (.inr (7, [.ref (y + 311), .ref (y + 316), .ref (y + 317), .ref (y + 318), .int (iI (st + 1)), .int (iI cm), .int (iI ac), .ref (y + 319), .ref (y + 320), .int (iI dp), .int (iI pr)])) := ho7
  have ha3 := (hn6 _ (by omega)).trans ha3
  exact h_vret F hr hlk hW hS ⟨ho7, ha3, (fun q h09 h19 => by rw [hn6 q (by omega), hn4 q (by omega)])⟩ dX7_addStep_22
set_option maxHeartbeats 4000000 in
set_option maxRecDepth 100000 in
theorem c_X7_rewind (l : Launch) (X : Cx) (w : Wo) (y : Nat) (st cm ac dp pr : Int) (hSc : w (y + 315) = some (.inr (7, [.ref (y + 311), .ref (y + 316), .ref (y + 317), .ref (y + 318), .int (iI st), .int (iI cm), .int (iI ac), .ref (y + 319), .ref (y + 320), .int (iI dp), .int (iI pr)]))) : CM l X yX7_rewind cX7_rewind 1 none (rmk 0 0) [.ref (y + 315)] w none (fun w' => w' (y + 315) = some (.inr (7, [.ref (y + 311), .ref (y + 316), .ref (y + 317), .ref (y + 318), .int (iI st), .int (iI cm), .int (iI ac), .ref (y + 319), .ref (y + 320), .int (iI dp), .int (iI (-1))])) ∧ ∀ q : Nat, q ≠ y + 315 → w' q = w q) := by
  refine CM.of (lv := [(0, .ref (y + 315))]) (by decide) (Nat.le_of_ble_eq_true rfl) rfl (fun p e s m below meth c ls F hr hlk hin hW hS hl => ?_)
  have hZ0 := hW.2.2
  have hB9 := hW.1.2
  clear hin
  refine lv_aload_n F.1 F.2.1 dX7_rewind_0 rfl (lv_at hl 0 rfl) ?_
  refine h_iconst F dX7_rewind_1 ?_
  refine pf_RX7_127 F hW hS hSc (Nat.le_of_ble_eq_true rfl) dX7_rewind_2 (fun w1 H locs ho3 hn2 hW hS => ?_)
  have ho3 : w1 (y + 315) = some (.inr (7, [.ref (y + 311), .ref (y + 316), .ref (y + 317), .ref (y + 318), .int (iI st), .int (iI cm), .int (iI ac), .ref (y + 319), .ref (y + 320), .int (iI dp), .int (iI (-1))])) := ho3
  exact h_vret F hr hlk hW hS ⟨ho3, (fun q h09 => by rw [hn2 q (by omega)])⟩ dX7_rewind_5
set_option maxHeartbeats 4000000 in
set_option maxRecDepth 100000 in
theorem c_X7_readArgument (l : Launch) (X : Cx) (w : Wo) (y : Nat) (N num : Int) (f v : Int → Int) (st cm ac dp pr : Int) (ar : Int → Int) (wh lo hi : Int) (hR : w (y + 311) = some (.inr (6, rL (y + 307) (cR f N v num)))) (hB : w (y + 307) = some (.inr (0, [.ref (y + 308), .int (iI N)]))) (hT : w (y + 308) = some (aZ X 400 f)) (hvp : vP f v) (hN : v 11 = N) (hSc : w (y + 315) = some (.inr (7, [.ref (y + 311), .ref (y + 316), .ref (y + 317), .ref (y + 318), .int (iI st), .int (iI cm), .int (iI ac), .ref (y + 319), .ref (y + 320), .int (iI dp), .int (iI pr)]))) (har : w (y + 317) = some (aZ X 180 ar)) (hlv : v 18 = 0) (hst : 1 ≤ st ∧ st ≤ 60) (hwh : 0 ≤ wh ∧ wh ≤ 2) (hlo : 0 ≤ lo ∧ lo < 100000) (hhi : 0 ≤ hi ∧ hi < 100000) : CM l X yX7_readArgument cX7_readArgument 4 (some (.boolean)) (rmk 2 45) [.ref (y + 315), .int (iI wh), .int (iI lo), .int (iI hi)] w (some (.int (iI (bz (decide (tkV f lo hi v 18 = 0)))))) (fun w' => w' (y + 311) = some (.inr (6, rL (y + 307) (cR f N (tkV f lo hi v) (nuS lo hi v num)))) ∧ w' (y + 317) = some (aZ X 180 (if tkV f lo hi v 18 = 0 then up ar (3 * (st - 1) + wh) (seR lo hi v) else ar)) ∧ ∀ q : Nat, q ≠ y + 311 → q ≠ y + 317 → w' q = w q) := by
  refine CM.of (lv := [(0, .ref (y + 315)), (1, .int (iI wh)), (2, .int (iI lo)), (3, .int (iI hi))]) (by decide) (Nat.le_of_ble_eq_true rfl) rfl (fun p e s m below meth c ls F hr hlk hin hW hS hl => ?_)
  have hZ0 := hW.2.2
  have hB9 := hW.1.2
  clear hin
  have hp1 := hvp.se (lo := lo) (hi := hi)
  have hM1 : seV lo hi v 11 = N := (se_n (by omega)).trans hN
  refine lv_aload_n F.1 F.2.1 dX7_readArgument_0 rfl (lv_at hl 0 rfl) ?_
  refine gf_RX7_27 F hW hSc rfl dX7_readArgument_1 ?_
  refine lv_iload_n F.1 F.2.1 dX7_readArgument_4 rfl (lv_at hl 2 rfl) ?_
  refine lv_iload_n F.1 F.2.1 dX7_readArgument_5 rfl (lv_at hl 3 rfl) ?_
  refine cl_RX7_114 (As := [.int (iI lo), .int (iI hi)]) (rest := []) F hl (k_seesNumber l X w (y + 311) (y + 307) (y + 308) N f v num lo hi hR hB hT hvp hN (by omega) hlv (by omega) (by omega)) hW hS hR rfl rfl ⟨Nat.le_of_ble_eq_true rfl, Nat.le_of_ble_eq_true rfl⟩ (Nat.le_of_ble_eq_true rfl) ⟨Nat.zero_le _, Nat.zero_le _⟩ dX7_readArgument_6 (fun w1 H locs hp2 hW hS => ?_)
  obtain ⟨ho3, hn4⟩ := hp2
  have hB := (hn4 _ (by omega)).trans hB
  have hSc := (hn4 _ (by omega)).trans hSc
  have hT := (hn4 _ (by omega)).trans hT
  have har := (hn4 _ (by omega)).trans har
  refine h_ifneb (tgt := 14) F dX7_readArgument_9 (by decide) (fun c5 => ?_) (fun c5 => ?_)
  · have c5d := of_decide_eq_true c5
    have hq : seV lo hi v 18 = 0 := by assumption
    have eT : tkV f lo hi v = goV f (seV lo hi v) := by unfold tkV gfV; rw [if_pos hq]
    have hx : tkV f lo hi v 18 = 0 := by rw [eT, go_n (by decide)]; exact hq
    refine lv_aload_n F.1 F.2.1 dX7_readArgument_14 rfl (lv_at hl 0 rfl) ?_
    refine lv_aload_n F.1 F.2.1 dX7_readArgument_15 rfl (lv_at hl 0 rfl) ?_
    refine gf_RX7_31 F hW hSc rfl dX7_readArgument_16 ?_
    refine h_iconst F dX7_readArgument_19 ?_
    refine h_isub (a := st) (b := 1) F dX7_readArgument_20 ?_
    refine lv_iload_n F.1 F.2.1 dX7_readArgument_21 rfl (lv_at hl 1 rfl) ?_
    refine lv_aload_n F.1 F.2.1 dX7_readArgument_22 rfl (lv_at hl 0 rfl) ?_
    refine gf_RX7_27 F hW hSc rfl dX7_readArgument_23 ?_
    refine gf_RX7_108 F hW ho3 rfl dX7_readArgument_26 ?_
    refine h_top (show ((cR f N (seV lo hi v) (nuS lo hi v num)) 5 : Int) = seR lo hi v from by show nuS lo hi v num = _; unfold nuS; rw [if_pos hq]) ?_
    refine cl_RX7_117 (As := [.int (iI (st - 1)), .int (iI wh), .int (iI (seR lo hi v))]) (rest := []) F hl (c_X7_setArgument l X w1 y st cm ac dp pr ar (st - 1) wh (seR lo hi v) hSc har (by omega)) hW hS hSc rfl rfl ⟨Nat.le_of_ble_eq_true rfl, Nat.le_of_ble_eq_true rfl⟩ (Nat.le_of_ble_eq_true rfl) ⟨Nat.zero_le _, Nat.zero_le _⟩ dX7_readArgument_29 (fun w6 H locs hp7 hW hS => ?_)
    obtain ⟨ha8, hn9⟩ := hp7
    have ho3 := (hn9 _ (by omega)).trans ho3
    have hB := (hn9 _ (by omega)).trans hB
    have hSc := (hn9 _ (by omega)).trans hSc
    have hT := (hn9 _ (by omega)).trans hT
    refine lv_aload_n F.1 F.2.1 dX7_readArgument_32 rfl (lv_at hl 0 rfl) ?_
    refine gf_RX7_27 F hW hSc rfl dX7_readArgument_33 ?_
    refine cl_RX7_83 (As := []) (rest := []) F hl (k_step l X w6 (y + 311) (y + 307) (y + 308) N f (seV lo hi v) (nuS lo hi v num) ho3 hB hT hp1 hM1 (by omega)) hW hS ho3 rfl rfl ⟨Nat.le_of_ble_eq_true rfl, Nat.le_of_ble_eq_true rfl⟩ (Nat.le_of_ble_eq_true rfl) ⟨Nat.zero_le _, Nat.zero_le _⟩ dX7_readArgument_36 (fun w10 H locs hp11 hW hS => ?_)
    obtain ⟨ho12, hn13⟩ := hp11
    have hB := (hn13 _ (by omega)).trans hB
    have hSc := (hn13 _ (by omega)).trans hSc
    have hT := (hn13 _ (by omega)).trans hT
    have ha8 := (hn13 _ (by omega)).trans ha8
    refine h_iconst F dX7_readArgument_39 ?_
    refine h_top (show (1 : Int) = bz (decide (tkV f lo hi v 18 = 0)) from by first | exact bzt (decide_eq_true hx) | exact bzf (decide_eq_false hx)) ?_
    exact h_iretz F hr hlk hW hS ⟨(by (rw [ho12]) <;> (rw [eT])), (by (rw [ha8]) <;> (first | rw [if_pos hx] | rw [if_neg hx])), (fun q h09 h19 => by rw [hn13 q (by omega), hn9 q (by omega), hn4 q (by omega)])⟩ dX7_readArgument_40
  · have c5d := of_decide_eq_false c5
    have hq : seV lo hi v 18 ≠ 0 := by assumption
    have eT : tkV f lo hi v = seV lo hi v := gf_d hq
    have hx : tkV f lo hi v 18 ≠ 0 := by rw [eT]; exact hq
    refine h_iconst F dX7_readArgument_12 ?_
    refine h_top (show (0 : Int) = bz (decide (tkV f lo hi v 18 = 0)) from by first | exact bzt (decide_eq_true hx) | exact bzf (decide_eq_false hx)) ?_
    exact h_iretz F hr hlk hW hS ⟨(by (rw [ho3]) <;> (rw [eT])), (by (rw [har]) <;> (first | rw [if_pos hx] | rw [if_neg hx])), (fun q h09 h19 => by rw [hn4 q (by omega)])⟩ dX7_readArgument_13
set_option maxHeartbeats 4000000 in
set_option maxRecDepth 100000 in
theorem c_X7_readBlind (l : Launch) (X : Cx) (w : Wo) (y : Nat) (N num : Int) (f v : Int → Int) (st cm ac dp pr : Int) (ar : Int → Int) (hR : w (y + 311) = some (.inr (6, rL (y + 307) (cR f N v num)))) (hB : w (y + 307) = some (.inr (0, [.ref (y + 308), .int (iI N)]))) (hT : w (y + 308) = some (aZ X 400 f)) (hvp : vP f v) (hN : v 11 = N) (hSc : w (y + 315) = some (.inr (7, [.ref (y + 311), .ref (y + 316), .ref (y + 317), .ref (y + 318), .int (iI st), .int (iI cm), .int (iI ac), .ref (y + 319), .ref (y + 320), .int (iI dp), .int (iI pr)]))) (har : w (y + 317) = some (aZ X 180 ar)) (hlv : v 18 = 0) (hst : 1 ≤ st ∧ st ≤ 60) : CM l X yX7_readBlind cX7_readBlind 2 (some (.boolean)) (rmk 5 107) [.ref (y + 315)] w (some (.int (iI (bz true)))) (fun w' => w' (y + 311) = some (.inr (6, rL (y + 307) (cR f N (if isWR f v 10 = true then goV f v else v) num))) ∧ w' (y + 317) = some (aZ X 180 (up ar (3 * (st - 1) + 1) (bz (isWR f v 10)))) ∧ ∀ q : Nat, q ≠ y + 311 → q ≠ y + 317 → w' q = w q) := by
  refine CM.of (lv := [(0, .ref (y + 315))]) (by decide) (Nat.le_of_ble_eq_true rfl) rfl (fun p e s m below meth c ls F hr hlk hin hW hS hl => ?_)
  have hZ0 := hW.2.2
  have hB9 := hW.1.2
  clear hin
  refine lv_aload_n F.1 F.2.1 dX7_readBlind_0 rfl (lv_at hl 0 rfl) ?_
  refine gf_RX7_27 F hW hSc rfl dX7_readBlind_1 ?_
  refine h_ldcS (tx := "blind") (i := 10) F hW (by decide +kernel) dX7_readBlind_4 ?_
  refine cl_RX7_65 (As := [.ref (X.2.2 (10 + 10))]) (rest := []) F hl (k_isWord l X w (y + 311) (y + 307) (y + 308) N f v num 10 hR hB hT hvp hN (by omega) hlv (by decide)) hW hS hR rfl rfl ⟨Nat.le_of_ble_eq_true rfl, Nat.le_of_ble_eq_true rfl⟩ (Nat.le_of_ble_eq_true rfl) ⟨Nat.zero_le _, Nat.zero_le _⟩ dX7_readBlind_6 (fun w1 H locs hp1 hW hS => ?_)
  rw [hp1] at hW; clear hp1; clear w1
  refine lv_istore_n (lv' := [(1, .int (iI (bz (isWR f v 10)))), (0, .ref (y + 315))]) F.1 F.2.1 dX7_readBlind_9 rfl hl (by decide) rfl (fun ls hl => ?_)
  refine lv_aload_n F.1 F.2.1 dX7_readBlind_10 rfl (lv_at hl 1 rfl) ?_
  refine lv_aload_n F.1 F.2.1 dX7_readBlind_11 rfl (lv_at hl 1 rfl) ?_
  refine gf_RX7_31 F hW hSc rfl dX7_readBlind_12 ?_
  refine h_iconst F dX7_readBlind_15 ?_
  refine h_isub (a := st) (b := 1) F dX7_readBlind_16 ?_
  refine h_iconst F dX7_readBlind_17 ?_
  refine lv_iload_n F.1 F.2.1 dX7_readBlind_18 rfl (lv_at hl 0 rfl) ?_
  have join27 : ∀ (H : Heap) (locs : List Loc) (ls : Array Slot), Wd X w s H → va_S (cxA X) s.heap H locs → lv_has ls 2 [(1, .int (iI (bz (isWR f v 10)))), (0, .ref (y + 315))] → W p l e (rmk 5 107) s m (List.toArray [.ref (y + 315)]) below meth c H locs 0 0 (MX X below (List.toArray [.ref (y + 315)]) s 0 0 (some (.int (iI (bz true)))) (fun w' => w' (y + 311) = some (.inr (6, rL (y + 307) (cR f N (if isWR f v 10 = true then goV f v else v) num))) ∧ w' (y + 317) = some (aZ X 180 (up ar (3 * (st - 1) + 1) (bz (isWR f v 10)))) ∧ ∀ q : Nat, q ≠ y + 311 → q ≠ y + 317 → w' q = w q)) (F0 m 27 ls [.int (iI (bz (isWR f v 10))), .int (iI 1), .int (iI (st - 1)), .ref (y + 315)]) := by
    intro  H locs ls  hW hS hl
    refine cl_RX7_117 (As := [.int (iI (st - 1)), .int (iI 1), .int (iI (bz (isWR f v 10)))]) (rest := []) F hl (c_X7_setArgument l X w y st cm ac dp pr ar (st - 1) 1 (bz (isWR f v 10)) hSc har (by omega)) hW hS hSc rfl rfl ⟨Nat.le_of_ble_eq_true rfl, Nat.le_of_ble_eq_true rfl⟩ (Nat.le_of_ble_eq_true rfl) ⟨Nat.zero_le _, Nat.zero_le _⟩ dX7_readBlind_27 (fun w2 H locs hp3 hW hS => ?_)
    obtain ⟨ha4, hn5⟩ := hp3
    have hR := (hn5 _ (by omega)).trans hR
    have hB := (hn5 _ (by omega)).trans hB
    have hSc := (hn5 _ (by omega)).trans hSc
    have hT := (hn5 _ (by omega)).trans hT
    refine lv_iload_n F.1 F.2.1 dX7_readBlind_30 rfl (lv_at hl 0 rfl) ?_
    refine h_ifeqb (tgt := 41) F dX7_readBlind_31 (by decide) (fun c6 => ?_) (fun c6 => ?_)
    · refine h_iconst F dX7_readBlind_41 ?_
      refine h_top (show (1 : Int) = bz true from rfl) ?_
      exact h_iretz F hr hlk hW hS ⟨(by (rw [hR]) <;> (first | rw [if_pos (by assumption)] | rw [if_neg (by rw [‹isWR f v 10 = false›]; decide)])), ha4, (fun q h09 h19 => by rw [hn5 q (by omega)])⟩ dX7_readBlind_42
    · refine lv_aload_n F.1 F.2.1 dX7_readBlind_34 rfl (lv_at hl 1 rfl) ?_
      refine gf_RX7_27 F hW hSc rfl dX7_readBlind_35 ?_
      refine cl_RX7_83 (As := []) (rest := []) F hl (k_step l X w2 (y + 311) (y + 307) (y + 308) N f v num hR hB hT hvp hN (by omega)) hW hS hR rfl rfl ⟨Nat.le_of_ble_eq_true rfl, Nat.le_of_ble_eq_true rfl⟩ (Nat.le_of_ble_eq_true rfl) ⟨Nat.zero_le _, Nat.zero_le _⟩ dX7_readBlind_38 (fun w7 H locs hp8 hW hS => ?_)
      obtain ⟨ho9, hn10⟩ := hp8
      have hB := (hn10 _ (by omega)).trans hB
      have hSc := (hn10 _ (by omega)).trans hSc
      have hT := (hn10 _ (by omega)).trans hT
      have ha4 := (hn10 _ (by omega)).trans ha4
      refine h_iconst F dX7_readBlind_41 ?_
      refine h_top (show (1 : Int) = bz true from rfl) ?_
      exact h_iretz F hr hlk hW hS ⟨(by (rw [ho9]) <;> (first | rw [if_pos (by assumption)] | rw [if_neg (by rw [‹isWR f v 10 = false›]; decide)])), ha4, (fun q h09 h19 => by rw [hn10 q (by omega), hn5 q (by omega)])⟩ dX7_readBlind_42
  refine h_ifeqb (tgt := 26) F dX7_readBlind_19 (by decide) (fun c11 => ?_) (fun c11 => ?_)
  · refine h_iconst F dX7_readBlind_26 ?_
    refine h_top (show (0 : Int) = bz (isWR f v 10) from by first | exact bzt (by assumption) | exact bzf (by assumption)) ?_
    exact join27  _ _ ls  hW hS (lv_sub hl [0, 1] rfl)
  · refine h_iconst F dX7_readBlind_22 ?_
    refine h_goto (tgt := 27) F dX7_readBlind_23 (by decide) ?_
    refine h_top (show (1 : Int) = bz (isWR f v 10) from by first | exact bzt (by assumption) | exact bzf (by assumption)) ?_
    exact join27  _ _ ls  hW hS (lv_sub hl [0, 1] rfl)
set_option maxHeartbeats 4000000 in
set_option maxRecDepth 100000 in
theorem c_X7_readArguments (l : Launch) (X : Cx) (w : Wo) (y : Nat) (N num : Int) (f v : Int → Int) (wd : Int) (st cm ac dp pr : Int) (ar : Int → Int) (hR : w (y + 311) = some (.inr (6, rL (y + 307) (cR f N (rm3 f v) num)))) (hB : w (y + 307) = some (.inr (0, [.ref (y + 308), .int (iI N)]))) (hT : w (y + 308) = some (aZ X 400 f)) (hvp : vP f v) (hN : v 11 = N) (hSc : w (y + 315) = some (.inr (7, [.ref (y + 311), .ref (y + 316), .ref (y + 317), .ref (y + 318), .int (iI st), .int (iI cm), .int (iI ac), .ref (y + 319), .ref (y + 320), .int (iI dp), .int (iI pr)]))) (har : w (y + 317) = some (aZ X 180 ar)) (hl3 : rm3 f v 18 = 0) (hst : 1 ≤ st ∧ st ≤ 60) (hwd9 : 8 ≤ wd ∧ wd ≤ 40) (hc5 : 0 ≤ cmR f v ∧ cmR f v ≤ 4) : CM l X yX7_readArguments cX7_readArguments 3 (some (.boolean)) (rmk 6 128) [.ref (y + 315), .int (iI (cmR f v)), .int (iI wd)] w (some (.int (iI (bz (decide (rm7 f v wd 18 = 0)))))) (fun w' => (∃ m : Int, w' (y + 311) = some (.inr (6, rL (y + 307) (cR f N (rm7 f v wd) m)))) ∧ (∃ ar9, w' (y + 317) = some (aZ X 180 ar9) ∧ (rm7 f v wd 18 = 0 → ar9 = caA (cmR f v) ar (st - 1) (rmA f v) (rmB f v wd) (rmC f v wd))) ∧ ∀ q : Nat, q ≠ y + 311 → q ≠ y + 317 → w' q = w q) := by
  refine CM.of (lv := [(0, .ref (y + 315)), (1, .int (iI (cmR f v))), (2, .int (iI wd))]) (by decide) (Nat.le_of_ble_eq_true rfl) rfl (fun p e s m below meth c ls F hr hlk hin hW hS hl => ?_)
  have hZ0 := hW.2.2
  have hB9 := hW.1.2
  clear hin
  have hp3 := rm3_P hvp
  have hp4 := rm4_P hvp
  have hp5 := rm5_P (wd := wd) hvp
  have hp6 := rm6_P (wd := wd) hvp
  have hp7 := rm7_P (wd := wd) hvp
  have hp8 := rm8_P (wd := wd) hvp
  have hp9 := rm9_P (wd := wd) hvp
  have hM3 : rm3 f v 11 = N := (rm3_n (by omega) (by decide)).trans hN
  have hM4 : rm4 f v 11 = N := ((rm4_E hvp).1 11 (by omega)).trans hM3
  have hM5 : rm5 f v wd 11 = N := ((rm5_E hvp).1 11 (by omega)).trans hM3
  have hM6 : rm6 f v wd 11 = N := ((rm6_E hvp).1 11 (by omega)).trans hM3
  have hM7 : rm7 f v wd 11 = N := ((rm7_E hvp).1 11 (by omega)).trans hM3
  have hM8 : rm8 f v wd 11 = N := ((rm8_E hvp).1 11 (by omega)).trans hM3
  have hBr := rmB_r (f := f) (v := v) hwd9.1
  have hcm := cmR_r f v
  refine lv_iload_n F.1 F.2.1 dX7_readArguments_0 rfl (lv_at hl 1 rfl) ?_
  rcases (show cmR f v = 0 ∨ cmR f v = 1 ∨ cmR f v = 2 ∨ cmR f v = 3 ∨ (cmR f v < 0 ∨ 3 < cmR f v) by omega) with c1 | c1 | c1 | c1 | c1
  · refine lv_tableIn (off := 31) (tgt := 32) F.1 F.2.1 dX7_readArguments_1 (by rw [iI_toInt (by omega)]; omega) (by rw [iI_toInt (by omega)]; omega) (by rw [iI_toInt (by omega), c1]; rfl) (by decide) ?_
    have e4 : rm4 f v = tkV f 0 6 (rm3 f v) := if_pos c1
    have e5 : rm5 f v wd = tkV f 0 (wd - 1) (rm4 f v) := if_pos c1
    have e6 : rm6 f v wd = rm5 f v wd := if_neg (fun z => by omega)
    have eB : rmB f v wd = seR 0 (wd - 1) (rm4 f v) := if_pos c1
    have e7 : rm7 f v wd = tkV f (rmB f v wd) (wd - 1) (rm6 f v wd) := if_pos c1
    have eA : rmA f v = seR 0 6 (rm3 f v) := if_pos c1
    have eC : rmC f v wd = seR (rmB f v wd) (wd - 1) (rm6 f v wd) := if_pos c1
    rw [e6] at e7 eC
    have hc9 := c1
    refine lv_aload_n F.1 F.2.1 dX7_readArguments_32 rfl (lv_at hl 0 rfl) ?_
    refine h_iconst F dX7_readArguments_33 ?_
    refine h_iconst F dX7_readArguments_34 ?_
    refine h_bipush F dX7_readArguments_35 rfl ?_
    refine cl_RX7_104 (As := [.int (iI 0), .int (iI 0), .int (iI 6)]) (rest := []) F hl (c_X7_readArgument l X w y N num f (rm3 f v) st cm ac dp pr ar 0 0 6 hR hB hT hp3 hM3 hSc har hl3 (by omega) (by omega) (by omega) (by omega)) hW hS hSc rfl rfl ⟨Nat.le_of_ble_eq_true rfl, Nat.le_of_ble_eq_true rfl⟩ (Nat.le_of_ble_eq_true rfl) ⟨Nat.zero_le _, Nat.zero_le _⟩ dX7_readArguments_37 (fun w2 H locs hp3 hW hS => ?_)
    obtain ⟨ho4, ha5, hn6⟩ := hp3
    have hB := (hn6 _ (by omega) (by omega)).trans hB
    have hSc := (hn6 _ (by omega) (by omega)).trans hSc
    have hT := (hn6 _ (by omega) (by omega)).trans hT
    refine h_top (show (bz (decide (tkV f 0 6 (rm3 f v) 18 = 0)) : Int) = bz (decide (rm4 f v 18 = 0)) from congrArg bz (by rw [e4])) ?_
    have hX7 : w2 (y + 311) = some (.inr (6, rL (y + 307) (cR f N (rm4 f v) (nuS 0 6 (rm3 f v) num)))) := by rw [show (rm4 f v : Int → Int) = tkV f 0 6 (rm3 f v) from e4]; exact ho4
    refine h_ifeqb (tgt := 77) F dX7_readArguments_40 (by decide) (fun c8 => ?_) (fun c8 => ?_)
    · have c8d := of_decide_eq_false c8
      have hq : rm4 f v 18 ≠ 0 := by assumption
      have e5d : rm5 f v wd = rm4 f v := by rw [e5]; exact tk_d hq
      have e7 : rm7 f v wd = rm4 f v := by rw [e7, e5d]; exact tk_d hq
      have hx : rm7 f v wd 18 ≠ 0 := by rw [e7]; exact hq
      have hAX : (∃ ar9, w2 (y + 317) = some (aZ X 180 ar9) ∧ (rm7 f v wd 18 = 0 → ar9 = caA (cmR f v) ar (st - 1) (rmA f v) (rmB f v wd) (rmC f v wd))) := ⟨_, ha5, fun z => absurd z hx⟩
      refine h_iconst F dX7_readArguments_77 ?_
      refine h_top (show (0 : Int) = bz (decide (rm7 f v wd 18 = 0)) from by first | rfl | exact bzt (decide_eq_true hx) | exact bzf (decide_eq_false hx)) ?_
      exact h_iretz F hr hlk hW hS ⟨⟨_, by rw [e7]; exact hX7⟩, hAX, (fun q h09 h19 => by rw [hn6 q (by omega) (by omega)])⟩ dX7_readArguments_78
    · have c8d := of_decide_eq_true c8
      have hl4 : rm4 f v 18 = 0 := by assumption
      have hX9 : w2 (y + 317) = some (aZ X 180 (up ar (3 * (st - 1) + 0) (rmA f v))) := by rw [show (up ar (3 * (st - 1) + 0) (rmA f v) : Int → Int) = if tkV f 0 6 (rm3 f v) 18 = 0 then up ar (3 * (st - 1) + 0) (seR 0 6 (rm3 f v)) else ar from by rw [if_pos (by rw [← e4]; exact hl4), eA]]; exact ha5
      refine lv_aload_n F.1 F.2.1 dX7_readArguments_43 rfl (lv_at hl 0 rfl) ?_
      refine h_iconst F dX7_readArguments_44 ?_
      refine h_iconst F dX7_readArguments_45 ?_
      refine lv_iload_n F.1 F.2.1 dX7_readArguments_46 rfl (lv_at hl 2 rfl) ?_
      refine h_iconst F dX7_readArguments_47 ?_
      refine h_isub (a := wd) (b := 1) F dX7_readArguments_48 ?_
      refine cl_RX7_104 (As := [.int (iI 1), .int (iI 0), .int (iI (wd - 1))]) (rest := []) F hl (c_X7_readArgument l X w2 y N (nuS 0 6 (rm3 f v) num) f (rm4 f v) st cm ac dp pr (up ar (3 * (st - 1) + 0) (rmA f v)) 1 0 (wd - 1) hX7 hB hT hp4 hM4 hSc hX9 hl4 (by omega) (by omega) (by omega) (by omega)) hW hS hSc rfl rfl ⟨Nat.le_of_ble_eq_true rfl, Nat.le_of_ble_eq_true rfl⟩ (Nat.le_of_ble_eq_true rfl) ⟨Nat.zero_le _, Nat.zero_le _⟩ dX7_readArguments_49 (fun w10 H locs hp11 hW hS => ?_)
      obtain ⟨ho12, ha13, hn14⟩ := hp11
      have hB := (hn14 _ (by omega) (by omega)).trans hB
      have hSc := (hn14 _ (by omega) (by omega)).trans hSc
      have hT := (hn14 _ (by omega) (by omega)).trans hT
      refine h_top (show (bz (decide (tkV f 0 (wd - 1) (rm4 f v) 18 = 0)) : Int) = bz (decide (rm5 f v wd 18 = 0)) from congrArg bz (by rw [e5])) ?_
      have hX15 : w10 (y + 311) = some (.inr (6, rL (y + 307) (cR f N (rm5 f v wd) (nuS 0 (wd - 1) (rm4 f v) (nuS 0 6 (rm3 f v) num))))) := by rw [show (rm5 f v wd : Int → Int) = tkV f 0 (wd - 1) (rm4 f v) from e5]; exact ho12
      refine h_ifeqb (tgt := 77) F dX7_readArguments_52 (by decide) (fun c16 => ?_) (fun c16 => ?_)
      · have c16d := of_decide_eq_false c16
        have hq : rm5 f v wd 18 ≠ 0 := by assumption
        have e7 : rm7 f v wd = rm5 f v wd := by rw [e7]; exact tk_d hq
        have hx : rm7 f v wd 18 ≠ 0 := by rw [e7]; exact hq
        have hAX : (∃ ar9, w10 (y + 317) = some (aZ X 180 ar9) ∧ (rm7 f v wd 18 = 0 → ar9 = caA (cmR f v) ar (st - 1) (rmA f v) (rmB f v wd) (rmC f v wd))) := ⟨_, ha13, fun z => absurd z hx⟩
        refine h_iconst F dX7_readArguments_77 ?_
        refine h_top (show (0 : Int) = bz (decide (rm7 f v wd 18 = 0)) from by first | rfl | exact bzt (decide_eq_true hx) | exact bzf (decide_eq_false hx)) ?_
        exact h_iretz F hr hlk hW hS ⟨⟨_, by rw [e7]; exact hX15⟩, hAX, (fun q h09 h19 => by rw [hn14 q (by omega) (by omega), hn6 q (by omega) (by omega)])⟩ dX7_readArguments_78
      · have c16d := of_decide_eq_true c16
        have hl5 : rm5 f v wd 18 = 0 := by assumption
        have hX17 : w10 (y + 317) = some (aZ X 180 (up (up ar (3 * (st - 1) + 0) (rmA f v)) (3 * (st - 1) + 1) (rmB f v wd))) := by rw [show (up (up ar (3 * (st - 1) + 0) (rmA f v)) (3 * (st - 1) + 1) (rmB f v wd) : Int → Int) = if tkV f 0 (wd - 1) (rm4 f v) 18 = 0 then up (up ar (3 * (st - 1) + 0) (rmA f v)) (3 * (st - 1) + 1) (seR 0 (wd - 1) (rm4 f v)) else (up ar (3 * (st - 1) + 0) (rmA f v)) from by rw [if_pos (by rw [← e5]; exact hl5), eB]]; exact ha13
        refine lv_aload_n F.1 F.2.1 dX7_readArguments_55 rfl (lv_at hl 0 rfl) ?_
        refine h_iconst F dX7_readArguments_56 ?_
        refine lv_aload_n F.1 F.2.1 dX7_readArguments_57 rfl (lv_at hl 0 rfl) ?_
        refine gf_RX7_27 F hW hSc rfl dX7_readArguments_58 ?_
        refine gf_RX7_108 F hW hX15 rfl dX7_readArguments_61 ?_
        refine h_top (show ((cR f N (rm5 f v wd) (nuS 0 (wd - 1) (rm4 f v) (nuS 0 6 (rm3 f v) num))) 5 : Int) = rmB f v wd from by show nuS 0 (wd - 1) (rm4 f v) _ = _; unfold nuS; rw [← tk_18 (f := f), if_pos (show tkV f 0 (wd - 1) (rm4 f v) 18 = 0 by rw [← e5]; exact hl5), eB]) ?_
        refine lv_iload_n F.1 F.2.1 dX7_readArguments_64 rfl (lv_at hl 2 rfl) ?_
        refine h_iconst F dX7_readArguments_65 ?_
        refine h_isub (a := wd) (b := 1) F dX7_readArguments_66 ?_
        refine cl_RX7_104 (As := [.int (iI 2), .int (iI (rmB f v wd)), .int (iI (wd - 1))]) (rest := []) F hl (c_X7_readArgument l X w10 y N (nuS 0 (wd - 1) (rm4 f v) (nuS 0 6 (rm3 f v) num)) f (rm5 f v wd) st cm ac dp pr (up (up ar (3 * (st - 1) + 0) (rmA f v)) (3 * (st - 1) + 1) (rmB f v wd)) 2 (rmB f v wd) (wd - 1) hX15 hB hT hp5 hM5 hSc hX17 hl5 (by omega) (by omega) (by omega) (by omega)) hW hS hSc rfl rfl ⟨Nat.le_of_ble_eq_true rfl, Nat.le_of_ble_eq_true rfl⟩ (Nat.le_of_ble_eq_true rfl) ⟨Nat.zero_le _, Nat.zero_le _⟩ dX7_readArguments_67 (fun w18 H locs hp19 hW hS => ?_)
        obtain ⟨ho20, ha21, hn22⟩ := hp19
        have hB := (hn22 _ (by omega) (by omega)).trans hB
        have hSc := (hn22 _ (by omega) (by omega)).trans hSc
        have hT := (hn22 _ (by omega) (by omega)).trans hT
        refine h_top (show (bz (decide (tkV f (rmB f v wd) (wd - 1) (rm5 f v wd) 18 = 0)) : Int) = bz (decide (rm7 f v wd 18 = 0)) from congrArg bz (by rw [e7])) ?_
        have hX23 : w18 (y + 311) = some (.inr (6, rL (y + 307) (cR f N (rm7 f v wd) (nuS (rmB f v wd) (wd - 1) (rm5 f v wd) (nuS 0 (wd - 1) (rm4 f v) (nuS 0 6 (rm3 f v) num)))))) := by rw [show (rm7 f v wd : Int → Int) = tkV f (rmB f v wd) (wd - 1) (rm5 f v wd) from e7]; exact ho20
        refine h_ifeqb (tgt := 77) F dX7_readArguments_70 (by decide) (fun c24 => ?_) (fun c24 => ?_)
        · have c24d := of_decide_eq_false c24
          have hx : rm7 f v wd 18 ≠ 0 := by assumption
          have hAX : (∃ ar9, w18 (y + 317) = some (aZ X 180 ar9) ∧ (rm7 f v wd 18 = 0 → ar9 = caA (cmR f v) ar (st - 1) (rmA f v) (rmB f v wd) (rmC f v wd))) := ⟨_, ha21, fun z => absurd z hx⟩
          have e7 : rm7 f v wd = rm7 f v wd := rfl
          refine h_iconst F dX7_readArguments_77 ?_
          refine h_top (show (0 : Int) = bz (decide (rm7 f v wd 18 = 0)) from by first | rfl | exact bzt (decide_eq_true hx) | exact bzf (decide_eq_false hx)) ?_
          exact h_iretz F hr hlk hW hS ⟨⟨_, by rw [e7]; exact hX23⟩, hAX, (fun q h09 h19 => by rw [hn22 q (by omega) (by omega), hn14 q (by omega) (by omega), hn6 q (by omega) (by omega)])⟩ dX7_readArguments_78
        · have c24d := of_decide_eq_true c24
          have hx : rm7 f v wd 18 = 0 := by assumption
          have hX25 : w18 (y + 317) = some (aZ X 180 (up (up (up ar (3 * (st - 1) + 0) (rmA f v)) (3 * (st - 1) + 1) (rmB f v wd)) (3 * (st - 1) + 2) (rmC f v wd))) := by rw [show (up (up (up ar (3 * (st - 1) + 0) (rmA f v)) (3 * (st - 1) + 1) (rmB f v wd)) (3 * (st - 1) + 2) (rmC f v wd) : Int → Int) = if tkV f (rmB f v wd) (wd - 1) (rm5 f v wd) 18 = 0 then up (up (up ar (3 * (st - 1) + 0) (rmA f v)) (3 * (st - 1) + 1) (rmB f v wd)) (3 * (st - 1) + 2) (seR (rmB f v wd) (wd - 1) (rm5 f v wd)) else (up (up ar (3 * (st - 1) + 0) (rmA f v)) (3 * (st - 1) + 1) (rmB f v wd)) from by rw [if_pos (by rw [← e7]; exact hx), eC]]; exact ha21
          have hAX : (∃ ar9, w18 (y + 317) = some (aZ X 180 ar9) ∧ (rm7 f v wd 18 = 0 → ar9 = caA (cmR f v) ar (st - 1) (rmA f v) (rmB f v wd) (rmC f v wd))) := ⟨_, hX25, fun _ => by unfold caA; rw [if_pos hc9]⟩
          have e7 : rm7 f v wd = rm7 f v wd := rfl
          refine h_iconst F dX7_readArguments_73 ?_
          refine h_goto (tgt := 78) F dX7_readArguments_74 (by decide) ?_
          refine h_top (show (1 : Int) = bz (decide (rm7 f v wd 18 = 0)) from by first | rfl | exact bzt (decide_eq_true hx) | exact bzf (decide_eq_false hx)) ?_
          exact h_iretz F hr hlk hW hS ⟨⟨_, by rw [e7]; exact hX23⟩, hAX, (fun q h09 h19 => by rw [hn22 q (by omega) (by omega), hn14 q (by omega) (by omega), hn6 q (by omega) (by omega)])⟩ dX7_readArguments_78
  · refine lv_tableIn (off := 111) (tgt := 112) F.1 F.2.1 dX7_readArguments_1 (by rw [iI_toInt (by omega)]; omega) (by rw [iI_toInt (by omega)]; omega) (by rw [iI_toInt (by omega), c1]; rfl) (by decide) ?_
    have e4 : rm4 f v = rm3 f v := by unfold rm4; rw [if_neg (by omega), if_neg (by omega), if_neg (by omega), if_neg (by omega)]
    have e5 : rm5 f v wd = rm4 f v := if_neg (by omega)
    have e6 : rm6 f v wd = rm5 f v wd := if_neg (fun z => by omega)
    have e7 : rm7 f v wd = rm3 f v := by unfold rm7; rw [if_neg (by omega), e6, e5, e4]
    have hx : rm7 f v wd 18 = 0 := by rw [e7]; exact hl3
    have hAX : (∃ ar9, w (y + 317) = some (aZ X 180 ar9) ∧ (rm7 f v wd 18 = 0 → ar9 = caA (cmR f v) ar (st - 1) (rmA f v) (rmB f v wd) (rmC f v wd))) := ⟨_, har, fun _ => by unfold caA; rw [if_neg (by omega), if_neg (by omega), if_neg (by omega)]⟩
    refine h_iconst F dX7_readArguments_112 ?_
    refine h_top (show (1 : Int) = bz (decide (rm7 f v wd 18 = 0)) from by first | rfl | exact bzt (decide_eq_true hx) | exact bzf (decide_eq_false hx)) ?_
    exact h_iretz F hr hlk hW hS ⟨⟨_, by rw [e7]; exact hR⟩, hAX, (fun q h09 h19 => rfl)⟩ dX7_readArguments_113
  · refine lv_tableIn (off := 78) (tgt := 79) F.1 F.2.1 dX7_readArguments_1 (by rw [iI_toInt (by omega)]; omega) (by rw [iI_toInt (by omega)]; omega) (by rw [iI_toInt (by omega), c1]; rfl) (by decide) ?_
    have hc9 := c1
    have e4 : rm4 f v = tkV f 1 30 (rm3 f v) := by unfold rm4; rw [if_neg (by omega), if_pos (by omega)]
    have eA : rmA f v = seR 1 30 (rm3 f v) := by unfold rmA; rw [if_neg (by omega), if_pos (by omega)]
    have e5 : rm5 f v wd = rm4 f v := if_neg (by omega)
    have eB : rmB f v wd = bz (isWR f (rm4 f v) 10) := by unfold rmB; rw [if_neg (by omega), if_pos (by omega)]
    have e7 : rm7 f v wd = rm6 f v wd := if_neg (by omega)
    refine lv_aload_n F.1 F.2.1 dX7_readArguments_79 rfl (lv_at hl 0 rfl) ?_
    refine h_iconst F dX7_readArguments_80 ?_
    refine h_iconst F dX7_readArguments_81 ?_
    refine h_bipush F dX7_readArguments_82 rfl ?_
    refine cl_RX7_104 (As := [.int (iI 0), .int (iI 1), .int (iI 30)]) (rest := []) F hl (c_X7_readArgument l X w y N num f (rm3 f v) st cm ac dp pr ar 0 1 30 hR hB hT hp3 hM3 hSc har hl3 (by omega) (by omega) (by omega) (by omega)) hW hS hSc rfl rfl ⟨Nat.le_of_ble_eq_true rfl, Nat.le_of_ble_eq_true rfl⟩ (Nat.le_of_ble_eq_true rfl) ⟨Nat.zero_le _, Nat.zero_le _⟩ dX7_readArguments_84 (fun w26 H locs hp27 hW hS => ?_)
    obtain ⟨ho28, ha29, hn30⟩ := hp27
    have hB := (hn30 _ (by omega) (by omega)).trans hB
    have hSc := (hn30 _ (by omega) (by omega)).trans hSc
    have hT := (hn30 _ (by omega) (by omega)).trans hT
    refine h_top (show (bz (decide (tkV f 1 30 (rm3 f v) 18 = 0)) : Int) = bz (decide (rm4 f v 18 = 0)) from congrArg bz (by rw [e4])) ?_
    have hX31 : w26 (y + 311) = some (.inr (6, rL (y + 307) (cR f N (rm4 f v) (nuS 1 30 (rm3 f v) num)))) := by rw [show (rm4 f v : Int → Int) = tkV f 1 30 (rm3 f v) from e4]; exact ho28
    refine h_ifeqb (tgt := 101) F dX7_readArguments_87 (by decide) (fun c32 => ?_) (fun c32 => ?_)
    · have c32d := of_decide_eq_false c32
      have hq : rm4 f v 18 ≠ 0 := by assumption
      have e6 : rm6 f v wd = rm5 f v wd := if_neg (fun z => by rw [eB, wr_d hq] at z; exact absurd z.2 (by decide))
      have e7 : rm7 f v wd = rm4 f v := by rw [e7, e6, e5]
      have hx : rm7 f v wd 18 ≠ 0 := by rw [e7]; exact hq
      have hAX : (∃ ar9, w26 (y + 317) = some (aZ X 180 ar9) ∧ (rm7 f v wd 18 = 0 → ar9 = caA (cmR f v) ar (st - 1) (rmA f v) (rmB f v wd) (rmC f v wd))) := ⟨_, ha29, fun z => absurd z hx⟩
      refine h_iconst F dX7_readArguments_101 ?_
      refine h_top (show (0 : Int) = bz (decide (rm7 f v wd 18 = 0)) from by first | rfl | exact bzt (decide_eq_true hx) | exact bzf (decide_eq_false hx)) ?_
      exact h_iretz F hr hlk hW hS ⟨⟨_, by rw [e7]; exact hX31⟩, hAX, (fun q h09 h19 => by rw [hn30 q (by omega) (by omega)])⟩ dX7_readArguments_102
    · have c32d := of_decide_eq_true c32
      have hl4 : rm4 f v 18 = 0 := by assumption
      have hX33 : w26 (y + 317) = some (aZ X 180 (up ar (3 * (st - 1) + 0) (rmA f v))) := by rw [show (up ar (3 * (st - 1) + 0) (rmA f v) : Int → Int) = if tkV f 1 30 (rm3 f v) 18 = 0 then up ar (3 * (st - 1) + 0) (seR 1 30 (rm3 f v)) else ar from by rw [if_pos (by rw [← e4]; exact hl4), eA]]; exact ha29
      refine lv_aload_n F.1 F.2.1 dX7_readArguments_90 rfl (lv_at hl 0 rfl) ?_
      refine cl_RX7_111 (As := []) (rest := []) F hl (c_X7_readBlind l X w26 y N (nuS 1 30 (rm3 f v) num) f (rm4 f v) st cm ac dp pr (up ar (3 * (st - 1) + 0) (rmA f v)) hX31 hB hT hp4 hM4 hSc hX33 hl4 (by omega)) hW hS hSc rfl rfl ⟨Nat.le_of_ble_eq_true rfl, Nat.le_of_ble_eq_true rfl⟩ (Nat.le_of_ble_eq_true rfl) ⟨Nat.zero_le _, Nat.zero_le _⟩ dX7_readArguments_91 (fun w34 H locs hp35 hW hS => ?_)
      obtain ⟨ho36, ha37, hn38⟩ := hp35
      have hB := (hn38 _ (by omega) (by omega)).trans hB
      have hSc := (hn38 _ (by omega) (by omega)).trans hSc
      have hT := (hn38 _ (by omega) (by omega)).trans hT
      have e6 : rm6 f v wd = if isWR f (rm4 f v) 10 = true then goV f (rm4 f v) else rm4 f v := by unfold rm6; rw [e5]; by_cases zz : isWR f (rm4 f v) 10 = true; (rw [if_pos zz, if_pos ⟨hc9, by rw [eB, zz]; rfl⟩]); (rw [if_neg zz, if_neg (fun z => zz (bz_1 (by rw [← eB]; omega)))])
      have hx : rm7 f v wd 18 = 0 := by (rw [e7, e6]; split; (rw [go_n (by decide)]; exact hl4); exact hl4)
      rw [e6] at e7
      have hX39 : w34 (y + 317) = some (aZ X 180 (up (up ar (3 * (st - 1) + 0) (rmA f v)) (3 * (st - 1) + 1) (rmB f v wd))) := by rw [show (up (up ar (3 * (st - 1) + 0) (rmA f v)) (3 * (st - 1) + 1) (rmB f v wd) : Int → Int) = up (up ar (3 * (st - 1) + 0) (rmA f v)) (3 * (st - 1) + 1) (bz (isWR f (rm4 f v) 10)) from by rw [eB]]; exact ha37
      have hAX : (∃ ar9, w34 (y + 317) = some (aZ X 180 ar9) ∧ (rm7 f v wd 18 = 0 → ar9 = caA (cmR f v) ar (st - 1) (rmA f v) (rmB f v wd) (rmC f v wd))) := ⟨_, hX39, fun _ => by unfold caA; rw [if_neg (by omega), if_pos hc9]⟩
      refine h_ifeqb (tgt := 101) F dX7_readArguments_94 (by decide) (fun c9 => absurd c9 (by decide)) (fun _ => ?_)
      refine h_iconst F dX7_readArguments_97 ?_
      refine h_goto (tgt := 102) F dX7_readArguments_98 (by decide) ?_
      refine h_top (show (1 : Int) = bz (decide (rm7 f v wd 18 = 0)) from by first | rfl | exact bzt (decide_eq_true hx) | exact bzf (decide_eq_false hx)) ?_
      exact h_iretz F hr hlk hW hS ⟨⟨_, by rw [e7]; exact ho36⟩, hAX, (fun q h09 h19 => by rw [hn38 q (by omega) (by omega), hn30 q (by omega) (by omega)])⟩ dX7_readArguments_102
  · refine lv_tableIn (off := 102) (tgt := 103) F.1 F.2.1 dX7_readArguments_1 (by rw [iI_toInt (by omega)]; omega) (by rw [iI_toInt (by omega)]; omega) (by rw [iI_toInt (by omega), c1]; rfl) (by decide) ?_
    have hc9 := c1
    have e4 : rm4 f v = tkV f 0 30 (rm3 f v) := by unfold rm4; rw [if_neg (by omega), if_neg (by omega), if_pos (by omega)]
    have eA : rmA f v = seR 0 30 (rm3 f v) := by unfold rmA; rw [if_neg (by omega), if_neg (by omega), if_pos (by omega)]
    have e5 : rm5 f v wd = rm4 f v := if_neg (by omega)
    have e6 : rm6 f v wd = rm5 f v wd := if_neg (fun z => by omega)
    have e7 : rm7 f v wd = rm6 f v wd := if_neg (by omega)
    rw [e6, e5] at e7
    refine lv_aload_n F.1 F.2.1 dX7_readArguments_103 rfl (lv_at hl 0 rfl) ?_
    refine h_iconst F dX7_readArguments_104 ?_
    refine h_iconst F dX7_readArguments_105 ?_
    refine h_bipush F dX7_readArguments_106 rfl ?_
    refine cl_RX7_104 (As := [.int (iI 0), .int (iI 0), .int (iI 30)]) (rest := []) F hl (c_X7_readArgument l X w y N num f (rm3 f v) st cm ac dp pr ar 0 0 30 hR hB hT hp3 hM3 hSc har hl3 (by omega) (by omega) (by omega) (by omega)) hW hS hSc rfl rfl ⟨Nat.le_of_ble_eq_true rfl, Nat.le_of_ble_eq_true rfl⟩ (Nat.le_of_ble_eq_true rfl) ⟨Nat.zero_le _, Nat.zero_le _⟩ dX7_readArguments_108 (fun w41 H locs hp42 hW hS => ?_)
    obtain ⟨ho43, ha44, hn45⟩ := hp42
    have hB := (hn45 _ (by omega) (by omega)).trans hB
    have hSc := (hn45 _ (by omega) (by omega)).trans hSc
    have hT := (hn45 _ (by omega) (by omega)).trans hT
    refine h_top (show (bz (decide (tkV f 0 30 (rm3 f v) 18 = 0)) : Int) = bz (decide (rm7 f v wd 18 = 0)) from congrArg bz (by rw [e7, e4])) ?_
    have hX46 : w41 (y + 311) = some (.inr (6, rL (y + 307) (cR f N (rm4 f v) (nuS 0 30 (rm3 f v) num)))) := by rw [show (rm4 f v : Int → Int) = tkV f 0 30 (rm3 f v) from e4]; exact ho43
    have hAX : (∃ ar9, w41 (y + 317) = some (aZ X 180 ar9) ∧ (rm7 f v wd 18 = 0 → ar9 = caA (cmR f v) ar (st - 1) (rmA f v) (rmB f v wd) (rmC f v wd))) := ⟨_, ha44, fun z => by rw [if_pos (by rw [← e4, ← e7]; exact z), ← eA]; unfold caA; rw [if_neg (by omega), if_neg (by omega), if_pos hc9]⟩
    exact h_iretz F hr hlk hW hS ⟨⟨_, by rw [e7]; exact hX46⟩, hAX, (fun q h09 h19 => by rw [hn45 q (by omega) (by omega)])⟩ dX7_readArguments_111
  · refine lv_tableOut (tgt := 112) F.1 F.2.1 dX7_readArguments_1 (by rw [iI_toInt (by omega)]; exact c1) (by decide) ?_
    have e4 : rm4 f v = rm3 f v := by unfold rm4; rw [if_neg (by omega), if_neg (by omega), if_neg (by omega), if_neg (by omega)]
    have e5 : rm5 f v wd = rm4 f v := if_neg (by omega)
    have e6 : rm6 f v wd = rm5 f v wd := if_neg (fun z => by omega)
    have e7 : rm7 f v wd = rm3 f v := by unfold rm7; rw [if_neg (by omega), e6, e5, e4]
    have hx : rm7 f v wd 18 = 0 := by rw [e7]; exact hl3
    have hAX : (∃ ar9, w (y + 317) = some (aZ X 180 ar9) ∧ (rm7 f v wd 18 = 0 → ar9 = caA (cmR f v) ar (st - 1) (rmA f v) (rmB f v wd) (rmC f v wd))) := ⟨_, har, fun _ => by unfold caA; rw [if_neg (by omega), if_neg (by omega), if_neg (by omega)]⟩
    refine h_iconst F dX7_readArguments_112 ?_
    refine h_top (show (1 : Int) = bz (decide (rm7 f v wd 18 = 0)) from by first | rfl | exact bzt (decide_eq_true hx) | exact bzf (decide_eq_false hx)) ?_
    exact h_iretz F hr hlk hW hS ⟨⟨_, by rw [e7]; exact hR⟩, hAX, (fun q h09 h19 => rfl)⟩ dX7_readArguments_113
set_option maxHeartbeats 4000000 in
set_option maxRecDepth 100000 in
theorem c_X7_readRepeat (l : Launch) (X : Cx) (w : Wo) (y : Nat) (N num : Int) (f v : Int → Int) (wd : Int) (st cm ac dp pr : Int) (kd ar tl op ah : Int → Int) (hR : w (y + 311) = some (.inr (6, rL (y + 307) (cR f N (rm3 f v) num)))) (hB : w (y + 307) = some (.inr (0, [.ref (y + 308), .int (iI N)]))) (hT : w (y + 308) = some (aZ X 400 f)) (hvp : vP f v) (hN : v 11 = N) (hSO : scO X w y st cm ac dp pr kd ar tl op ah) (hl3 : rm3 f v 18 = 0) (hst : 1 ≤ st ∧ st ≤ 60) (hwd9 : 8 ≤ wd ∧ wd ≤ 40) (hdp : 0 ≤ dp ∧ dp < 3) (hc5 : cmR f v = 5) : CM l X yX7_readRepeat cX7_readRepeat 1 (some (.boolean)) (rmk 3 68) [.ref (y + 315)] w (some (.int (iI (bz (decide (rm8 f v wd 18 = 0)))))) (fun w' => (∃ m : Int, w' (y + 311) = some (.inr (6, rL (y + 307) (cR f N (rm8 f v wd) m)))) ∧ (∃ dp9 ar9 op9 ah9, scO X w' y st cm ac dp9 pr kd ar9 tl op9 ah9 ∧ (rm8 f v wd 18 = 0 → dp9 = dp + 1 ∧ ar9 = up ar (3 * (st - 1) + 0) (rmA f v) ∧ op9 = up op dp (st - 1) ∧ ah9 = up ah dp ac)) ∧ ∀ q : Nat, q ≠ y + 311 → q ≠ y + 315 → q ≠ y + 317 → q ≠ y + 319 → q ≠ y + 320 → w' q = w q) := by
  refine CM.of (lv := [(0, .ref (y + 315))]) (by decide) (Nat.le_of_ble_eq_true rfl) rfl (fun p e s m below meth c ls F hr hlk hin hW hS hl => ?_)
  have hZ0 := hW.2.2
  have hB9 := hW.1.2
  clear hin
  have hp3 := rm3_P hvp
  have hp4 := rm4_P hvp
  have hp5 := rm5_P (wd := wd) hvp
  have hp6 := rm6_P (wd := wd) hvp
  have hp7 := rm7_P (wd := wd) hvp
  have hp8 := rm8_P (wd := wd) hvp
  have hp9 := rm9_P (wd := wd) hvp
  have hM3 : rm3 f v 11 = N := (rm3_n (by omega) (by decide)).trans hN
  have hM4 : rm4 f v 11 = N := ((rm4_E hvp).1 11 (by omega)).trans hM3
  have hM5 : rm5 f v wd 11 = N := ((rm5_E hvp).1 11 (by omega)).trans hM3
  have hM6 : rm6 f v wd 11 = N := ((rm6_E hvp).1 11 (by omega)).trans hM3
  have hM7 : rm7 f v wd 11 = N := ((rm7_E hvp).1 11 (by omega)).trans hM3
  have hM8 : rm8 f v wd 11 = N := ((rm8_E hvp).1 11 (by omega)).trans hM3
  have hBr := rmB_r (f := f) (v := v) hwd9.1
  have hcm := cmR_r f v
  obtain ⟨hSc, hkd, har, htl, hop, hah⟩ := hSO
  have e4 : rm4 f v = tkV f 1 20 (rm3 f v) := by unfold rm4; rw [if_neg (by omega), if_neg (by omega), if_neg (by omega), if_pos hc5]
  have eA : rmA f v = seR 1 20 (rm3 f v) := by unfold rmA; rw [if_neg (by omega), if_neg (by omega), if_neg (by omega), if_pos hc5]
  have e5 : rm5 f v wd = rm4 f v := if_neg (by omega)
  have e6 : rm6 f v wd = rm5 f v wd := if_neg (fun z => by omega)
  have e7 : rm7 f v wd = rm4 f v := by unfold rm7; rw [if_neg (by omega), e6, e5]
  have e8 : rm8 f v wd = muV f (isSR f (rm4 f v) 123) (rm4 f v) := by unfold rm8; rw [if_pos hc5, e7]
  refine lv_aload_n F.1 F.2.1 dX7_readRepeat_0 rfl (lv_at hl 0 rfl) ?_
  refine h_iconst F dX7_readRepeat_1 ?_
  refine h_iconst F dX7_readRepeat_2 ?_
  refine h_bipush F dX7_readRepeat_3 rfl ?_
  refine cl_RX7_104 (As := [.int (iI 0), .int (iI 1), .int (iI 20)]) (rest := []) F hl (c_X7_readArgument l X w y N num f (rm3 f v) st cm ac dp pr ar 0 1 20 hR hB hT hp3 hM3 hSc har hl3 (by omega) (by omega) (by omega) (by omega)) hW hS hSc rfl rfl ⟨Nat.le_of_ble_eq_true rfl, Nat.le_of_ble_eq_true rfl⟩ (Nat.le_of_ble_eq_true rfl) ⟨Nat.zero_le _, Nat.zero_le _⟩ dX7_readRepeat_5 (fun w1 H locs hp2 hW hS => ?_)
  obtain ⟨ho3, ha4, hn5⟩ := hp2
  have hB := (hn5 _ (by omega) (by omega)).trans hB
  have hSc := (hn5 _ (by omega) (by omega)).trans hSc
  have hT := (hn5 _ (by omega) (by omega)).trans hT
  have hkd := (hn5 _ (by omega) (by omega)).trans hkd
  have htl := (hn5 _ (by omega) (by omega)).trans htl
  have hop := (hn5 _ (by omega) (by omega)).trans hop
  have hah := (hn5 _ (by omega) (by omega)).trans hah
  refine h_top (show (bz (decide (tkV f 1 20 (rm3 f v) 18 = 0)) : Int) = bz (decide (rm4 f v 18 = 0)) from congrArg bz (by rw [e4])) ?_
  have hX6 : w1 (y + 311) = some (.inr (6, rL (y + 307) (cR f N (rm4 f v) (nuS 1 20 (rm3 f v) num)))) := by rw [show (rm4 f v : Int → Int) = tkV f 1 20 (rm3 f v) from e4]; exact ho3
  refine h_ifneb (tgt := 13) F dX7_readRepeat_8 (by decide) (fun c7 => ?_) (fun c7 => ?_)
  · have c7d := of_decide_eq_true c7
    have hl4 : rm4 f v 18 = 0 := by assumption
    have hX8 : w1 (y + 317) = some (aZ X 180 (up ar (3 * (st - 1) + 0) (rmA f v))) := by rw [show (up ar (3 * (st - 1) + 0) (rmA f v) : Int → Int) = if tkV f 1 20 (rm3 f v) 18 = 0 then up ar (3 * (st - 1) + 0) (seR 1 20 (rm3 f v)) else ar from by rw [if_pos (by rw [← e4]; exact hl4), eA]]; exact ha4
    refine lv_aload_n F.1 F.2.1 dX7_readRepeat_13 rfl (lv_at hl 0 rfl) ?_
    refine gf_RX7_21 F hW hSc rfl dX7_readRepeat_14 ?_
    refine lv_aload_n F.1 F.2.1 dX7_readRepeat_17 rfl (lv_at hl 0 rfl) ?_
    refine gf_RX7_41 F hW hSc rfl dX7_readRepeat_18 ?_
    refine lv_aload_n F.1 F.2.1 dX7_readRepeat_21 rfl (lv_at hl 0 rfl) ?_
    refine gf_RX7_31 F hW hSc rfl dX7_readRepeat_22 ?_
    refine h_iconst F dX7_readRepeat_25 ?_
    refine h_isub (a := st) (b := 1) F dX7_readRepeat_26 ?_
    refine cl_RX7_100 (As := [.ref (y + 319), .int (iI dp), .int (iI (st - 1))]) (rest := []) F hl (c_X8_put l X w1 (y + 319) 3 op dp (st - 1) hop (by omega) (by omega)) hW hS rfl rfl ⟨Nat.le_of_ble_eq_true rfl, Nat.le_of_ble_eq_true rfl⟩ (Nat.le_of_ble_eq_true rfl) ⟨Nat.zero_le _, Nat.zero_le _⟩ dX7_readRepeat_27 (fun w9 H locs hp10 hW hS => ?_)
    obtain ⟨ha11, hn12⟩ := hp10
    have hX6 := (hn12 _ (by omega)).trans hX6
    have hB := (hn12 _ (by omega)).trans hB
    have hSc := (hn12 _ (by omega)).trans hSc
    have hT := (hn12 _ (by omega)).trans hT
    have hkd := (hn12 _ (by omega)).trans hkd
    have hX8 := (hn12 _ (by omega)).trans hX8
    have htl := (hn12 _ (by omega)).trans htl
    have hah := (hn12 _ (by omega)).trans hah
    refine lv_aload_n F.1 F.2.1 dX7_readRepeat_30 rfl (lv_at hl 0 rfl) ?_
    refine gf_RX7_24 F hW hSc rfl dX7_readRepeat_31 ?_
    refine lv_aload_n F.1 F.2.1 dX7_readRepeat_34 rfl (lv_at hl 0 rfl) ?_
    refine gf_RX7_41 F hW hSc rfl dX7_readRepeat_35 ?_
    refine lv_aload_n F.1 F.2.1 dX7_readRepeat_38 rfl (lv_at hl 0 rfl) ?_
    refine gf_RX7_38 F hW hSc rfl dX7_readRepeat_39 ?_
    refine cl_RX7_100 (As := [.ref (y + 320), .int (iI dp), .int (iI ac)]) (rest := []) F hl (c_X8_put l X w9 (y + 320) 3 ah dp ac hah (by omega) (by omega)) hW hS rfl rfl ⟨Nat.le_of_ble_eq_true rfl, Nat.le_of_ble_eq_true rfl⟩ (Nat.le_of_ble_eq_true rfl) ⟨Nat.zero_le _, Nat.zero_le _⟩ dX7_readRepeat_42 (fun w13 H locs hp14 hW hS => ?_)
    obtain ⟨ha15, hn16⟩ := hp14
    have hX6 := (hn16 _ (by omega)).trans hX6
    have hB := (hn16 _ (by omega)).trans hB
    have hSc := (hn16 _ (by omega)).trans hSc
    have hT := (hn16 _ (by omega)).trans hT
    have hkd := (hn16 _ (by omega)).trans hkd
    have hX8 := (hn16 _ (by omega)).trans hX8
    have htl := (hn16 _ (by omega)).trans htl
    have ha11 := (hn16 _ (by omega)).trans ha11
    refine lv_aload_n F.1 F.2.1 dX7_readRepeat_45 rfl (lv_at hl 0 rfl) ?_
    refine lv_dup F.1 F.2.1 dX7_readRepeat_46 rfl ?_
    refine gf_RX7_41 F hW hSc rfl dX7_readRepeat_47 ?_
    refine h_iconst F dX7_readRepeat_50 ?_
    refine h_iadd (a := dp) (b := 1) F dX7_readRepeat_51 ?_
    refine pf_RX7_41 F hW hS hSc (Nat.le_of_ble_eq_true rfl) dX7_readRepeat_52 (fun w17 H locs ho19 hn18 hW hS => ?_)
    have ho19 : w17 (y + 315) = some (.inr (7, [.ref (y + 311), .ref (y + 316), .ref (y + 317), .ref (y + 318), .int (iI st), .int (iI cm), .int (iI ac), .ref (y + 319), .ref (y + 320), .int (iI (dp + 1)), .int (iI pr)])) := ho19
    have hX6 := (hn18 _ (by omega)).trans hX6
    have hB := (hn18 _ (by omega)).trans hB
    have hT := (hn18 _ (by omega)).trans hT
    have hkd := (hn18 _ (by omega)).trans hkd
    have hX8 := (hn18 _ (by omega)).trans hX8
    have htl := (hn18 _ (by omega)).trans htl
    have ha11 := (hn18 _ (by omega)).trans ha11
    have ha15 := (hn18 _ (by omega)).trans ha15
    refine lv_aload_n F.1 F.2.1 dX7_readRepeat_55 rfl (lv_at hl 0 rfl) ?_
    refine gf_RX7_27 F hW ho19 rfl dX7_readRepeat_56 ?_
    refine h_bipush F dX7_readRepeat_59 rfl ?_
    refine cl_RX7_97 (As := [.int (iI 123)]) (rest := []) F hl (k_takeMark l X w17 (y + 311) (y + 307) (y + 308) N f (rm4 f v) (nuS 1 20 (rm3 f v) num) 123 hX6 hB hT hp4 hM4 (by omega) hl4 (by omega)) hW hS hX6 rfl rfl ⟨Nat.le_of_ble_eq_true rfl, Nat.le_of_ble_eq_true rfl⟩ (Nat.le_of_ble_eq_true rfl) ⟨Nat.zero_le _, Nat.zero_le _⟩ dX7_readRepeat_61 (fun w20 H locs hp21 hW hS => ?_)
    obtain ⟨ho22, hn23⟩ := hp21
    have hB := (hn23 _ (by omega)).trans hB
    have ho19 := (hn23 _ (by omega)).trans ho19
    have hT := (hn23 _ (by omega)).trans hT
    have hkd := (hn23 _ (by omega)).trans hkd
    have hX8 := (hn23 _ (by omega)).trans hX8
    have htl := (hn23 _ (by omega)).trans htl
    have ha11 := (hn23 _ (by omega)).trans ha11
    have ha15 := (hn23 _ (by omega)).trans ha15
    refine h_top (show (bz (isSR f (rm4 f v) 123) : Int) = bz (decide (rm8 f v wd 18 = 0)) from congrArg bz (by rw [e8]; exact (mu_dec hl4).symm)) ?_
    have hX24 : w20 (y + 311) = some (.inr (6, rL (y + 307) (cR f N (rm8 f v wd) (nuS 1 20 (rm3 f v) num)))) := by rw [show (rm8 f v wd : Int → Int) = muV f (isSR f (rm4 f v) 123) (rm4 f v) from e8]; exact ho22
    have e9 : rm8 f v wd = rm8 f v wd := rfl
    have hSX : (∃ dp9 ar9 op9 ah9, scO X w20 y st cm ac dp9 pr kd ar9 tl op9 ah9 ∧ (rm8 f v wd 18 = 0 → dp9 = dp + 1 ∧ ar9 = up ar (3 * (st - 1) + 0) (rmA f v) ∧ op9 = up op dp (st - 1) ∧ ah9 = up ah dp ac)) := ⟨_, _, _, _, ⟨ho19, hkd, hX8, htl, ha11, ha15⟩, fun _ => ⟨rfl, rfl, rfl, rfl⟩⟩
    exact h_iretz F hr hlk hW hS ⟨⟨_, by rw [e9]; exact hX24⟩, hSX, (fun q h09 h19 h29 h39 h49 => by rw [hn23 q (by omega), hn18 q (by omega), hn16 q (by omega), hn12 q (by omega), hn5 q (by omega) (by omega)])⟩ dX7_readRepeat_64
  · have c7d := of_decide_eq_false c7
    have hq : rm4 f v 18 ≠ 0 := by assumption
    have e9 : rm8 f v wd = rm4 f v := by rw [e8]; exact mu_d hq
    have hx : rm8 f v wd 18 ≠ 0 := by rw [e9]; exact hq
    have hSX : (∃ dp9 ar9 op9 ah9, scO X w1 y st cm ac dp9 pr kd ar9 tl op9 ah9 ∧ (rm8 f v wd 18 = 0 → dp9 = dp + 1 ∧ ar9 = up ar (3 * (st - 1) + 0) (rmA f v) ∧ op9 = up op dp (st - 1) ∧ ah9 = up ah dp ac)) := ⟨_, _, _, _, ⟨hSc, hkd, ha4, htl, hop, hah⟩, fun z => absurd z hx⟩
    refine h_iconst F dX7_readRepeat_11 ?_
    refine h_top (show (0 : Int) = bz (decide (rm8 f v wd 18 = 0)) from by first | rfl | exact bzf (decide_eq_false hx)) ?_
    exact h_iretz F hr hlk hW hS ⟨⟨_, by rw [e9]; exact hX6⟩, hSX, (fun q h09 h19 h29 h39 h49 => by rw [hn5 q (by omega) (by omega)])⟩ dX7_readRepeat_12
