/-- what is needed of each colour: n columns of a row more -/
def addN (nd : Int → Int) (σ : Int → Int) (b : Bool) (rn n : Int) : Int → Int := fun co => nd co + cnt (wanB σ b rn co) 0 n
theorem addN_0 (nd σ : Int → Int) (b : Bool) (rn : Int) : addN nd σ b rn 0 = nd := by
  funext co
  unfold addN
  rw [cnt_0]; omega
theorem addN_f {nd σ : Int → Int} {b : Bool} {rn i : Int} (h : 0 ≤ i) (hc : cellS σ i rn ≠ -1) : addN nd σ b rn (i + 1) = addN nd σ b rn i := by
  funext co
  unfold addN
  rw [cnt_f h (by unfold wanB; rw [decide_eq_false hc]; rfl)]
theorem addN_t {nd σ : Int → Int} {b : Bool} {rn i : Int} (h : 0 ≤ i) (hc : cellS σ i rn = -1) : addN nd σ b rn (i + 1) = up (addN nd σ b rn i) (desS σ (if b then turnS σ i else i) rn) (addN nd σ b rn i (desS σ (if b then turnS σ i else i) rn) + 1) := by
  funext co
  unfold up
  by_cases g : co = desS σ (if b then turnS σ i else i) rn
  · rw [if_pos g, ← g]
    unfold addN
    rw [cnt_t h (by unfold wanB; rw [decide_eq_true hc, decide_eq_true g.symm]; rfl)]; omega
  · rw [if_neg g]
    unfold addN
    rw [cnt_f h (by unfold wanB; rw [decide_eq_false (p := desS σ _ rn = co) (fun z => g z.symm)]; simp)]
theorem fillN_f {σ : Int → Int} {b : Bool} {rn i : Int} (h : 0 ≤ i) (hc : cellS (fillN σ b rn i.toNat) i rn ≠ -1) : fillN σ b rn (i + 1).toNat = fillN σ b rn i.toNat := by
  rw [show (i + 1).toNat = i.toNat + 1 by omega]
  show (if cellS _ (i.toNat : Int) rn = -1 then _ else _) = _
  rw [show (i.toNat : Int) = i by omega, if_neg hc]
theorem fillN_t {σ : Int → Int} {b : Bool} {rn i : Int} (h : 0 ≤ i) (hc : cellS (fillN σ b rn i.toNat) i rn = -1) : fillN σ b rn (i + 1).toNat = giveS (fillN σ b rn i.toNat) i rn (desS σ (if b then turnS σ i else i) rn) := by
  rw [show (i + 1).toNat = i.toNat + 1 by omega]
  show (if cellS _ (i.toNat : Int) rn = -1 then giveS _ (i.toNat : Int) rn (desS σ (if b then turnS σ (i.toNat : Int) else (i.toNat : Int)) rn) else _) = _
  rw [show (i.toNat : Int) = i by omega, if_pos hc]
theorem fill_des {σ : Int → Int} {b : Bool} {rn : Int} (h : WF σ) (hr : 0 ≤ rn) (n : Nat) (c r : Int) : desS (fillN σ b rn n) c r = desS σ c r :=
  des_congr (fill_lo h hr (by decide) (by decide) n) (fill_lo h hr (by decide) (by decide) n) h.cap8 (fun k k0 k1 j j0 j1 => fill_lo h hr (by have := h.cap8.1; omega) (by omega) n)
theorem give_loom {X : Cx} {w w2 : Wo} {a : Nat} {σ : Int → Int} {cn rn co : Int} (h : loomAt X w a σ) (hA : lmA X w2 a (giveS σ cn rn co)) (hW : WF (giveS σ cn rn co)) (hc : 0 ≤ cn ∧ 0 ≤ rn) (hco : 0 ≤ co ∧ co < 7) (h1 : w2 (a + 3) = w (a + 3)) (h2 : w2 (a + 4) = w (a + 4)) : loomAt X w2 a (giveS σ cn rn co) :=
  ⟨hA, h.2.1.up h.2.2.cap8 (fun p p0 p1 p2 => give_lo p1 hc (by omega)) h1 h2, hW⟩
set_option maxHeartbeats 4000000 in
set_option maxRecDepth 100000 in
theorem c_X5_addNeeds (l : Launch) (X : Cx) (w : Wo) (a : Nat) (σ : Int → Int) (u : Nat) (nd : Int → Int) (rn : Int) (b : Bool) (hL : loomAt X w a σ) (hu : w u = some (aZ X 7 nd)) (hsr : 0 ≤ rn ∧ rn < σ 1) (hne : u < a ∨ a + 25 ≤ u) : CM l X yX5_addNeeds cX5_addNeeds 6 none (rmk 3 69) [.ref a, .ref u, .int (iI rn), .int (iI (bz b))] w none (fun w' => w' u = some (aZ X 7 (addN nd σ b rn (σ 0))) ∧ ∀ q : Nat, q ≠ u → w' q = w q) := by
  refine CM.of (lv := [(0, .ref a), (1, .ref u), (2, .int (iI rn)), (3, .int (iI (bz b)))]) (by decide) (Nat.le_of_ble_eq_true rfl) rfl (fun p e s m below meth c ls F hr hlk hin hW hS hl => ?_)
  have hZ0 := hW.2.2
  have hB9 := hW.1.2
  clear hin
  have hA := hL.1
  have hwf := hL.2.2
  have hO := hA.o
  have hg1 := hA.g1
  have hg3 := hA.g3
  have hF := hwf.1
  unfold WF0 at hF
  refine h_iconst F dX5_addNeeds_0 ?_
  refine lv_istore (lv' := [(4, .int (iI 0)), (0, .ref a), (1, .ref u), (2, .int (iI rn)), (3, .int (iI (bz b)))]) F.1 F.2.1 dX5_addNeeds_1 hl (by decide) rfl (fun ls hl => ?_)
  have loop3 : ∀ (n9 : Nat) (i : Int), (hrg : 0 ≤ i ∧ i ≤ σ 0) → (hms : σ 0 - i < (n9 : Int)) → (w9 : Wo) → (hA3_0 : w9 u = some (aZ X 7 (addN nd σ b rn i))) → (hF3 : ∀ q : Nat, q ≠ u → w9 q = w q) → (H : Heap) → (locs : List Loc) → (ls : Array Slot) → Wd X w9 s H → va_S (cxA X) s.heap H locs → lv_has ls 6 [(4, .int (iI i)), (0, .ref a), (1, .ref u), (2, .int (iI rn)), (3, .int (iI (bz b)))] → W p l e (rmk 3 69) s m (List.toArray [.ref a, .ref u, .int (iI rn), .int (iI (bz b))]) below meth c H locs 0 0 (MX X below (List.toArray [.ref a, .ref u, .int (iI rn), .int (iI (bz b))]) s 0 0 none (fun w' => w' u = some (aZ X 7 (addN nd σ b rn (σ 0))) ∧ ∀ q : Nat, q ≠ u → w' q = w q)) (F0 m 3 ls []) := by
    intro n9
    induction n9 with
    | zero => intro i  hrg hms; exfalso; omega
    | succ n9 ih3 =>
      intro i  hrg hms w9 hA3_0 hF3  H locs ls hW hS hl
      have hO := (hF3 _ (by omega)).trans hO
      have hg1 := (hF3 _ (by omega)).trans hg1
      have hg3 := (hF3 _ (by omega)).trans hg3
      have hL := hL.mv (fun q h1 h2 => hF3 q (by omega))
      have hA := hL.1
      refine lv_iload F.1 F.2.1 dX5_addNeeds_3 (lv_at hl 0 rfl) ?_
      refine lv_aload_n F.1 F.2.1 dX5_addNeeds_5 rfl (lv_at hl 1 rfl) ?_
      refine gf_RX5_40 F hW hO rfl dX5_addNeeds_6 ?_
      refine h_icge (tgt := 52) F dX5_addNeeds_9 (by decide) (by omega) (fun c1 => ?_) (fun c1 => ?_)
      · exact h_vret F hr hlk hW hS ⟨(by rw [hA3_0]; rw [show i = σ 0 by omega]), (fun q h09 => by rw [hF3 q (by omega)])⟩ dX5_addNeeds_52
      · refine lv_aload_n F.1 F.2.1 dX5_addNeeds_12 rfl (lv_at hl 1 rfl) ?_
        refine lv_iload F.1 F.2.1 dX5_addNeeds_13 (lv_at hl 0 rfl) ?_
        refine lv_iload_n F.1 F.2.1 dX5_addNeeds_15 rfl (lv_at hl 3 rfl) ?_
        refine cl_RX5_191 (As := [.int (iI i), .int (iI rn)]) (rest := []) F hl (c_X5_isEmpty l X w9 a σ i rn hA hwf (by omega)) hW hS hO rfl rfl ⟨Nat.le_of_ble_eq_true rfl, Nat.le_of_ble_eq_true rfl⟩ (Nat.le_of_ble_eq_true rfl) ⟨Nat.zero_le _, Nat.zero_le _⟩ dX5_addNeeds_16 (fun w1 H locs hp2 hW hS => ?_)
        rw [hp2] at hW; clear hp2; clear w1
        refine h_ifeqb (tgt := 46) F dX5_addNeeds_19 (by decide) (fun c3 => ?_) (fun c3 => ?_)
        · have c3d := of_decide_eq_false c3
          refine h_iinc (k := 0) (a := i) (lv' := [(4, .int (iI (i + 1))), (0, .ref a), (1, .ref u), (2, .int (iI rn)), (3, .int (iI (bz b)))]) F dX5_addNeeds_46 hl rfl (by decide) rfl (fun ls hl => ?_)
          refine h_goto (tgt := 3) F dX5_addNeeds_49 (by decide) ?_
          have eq4 : ((i + 1) : Int) = i + 1 := by first | rfl | omega | simp
          exact ih3 (i + 1)  (by omega) (by omega) w9 (by rw [show (addN nd σ b rn (i + 1) : Int → Int) = addN nd σ b rn i from (by first | exact addN_t (by omega) ‹_› | exact addN_f (by omega) ‹_›)]; exact hA3_0) (fun q h09 => by rw [hF3 q (by omega)])  _ _ ls hW hS (by rw [eq4]; exact lv_sub hl [0, 1, 2, 3, 4] rfl)
        · have c3d := of_decide_eq_true c3
          refine lv_aload_n F.1 F.2.1 dX5_addNeeds_22 rfl (lv_at hl 1 rfl) ?_
          refine lv_iload F.1 F.2.1 dX5_addNeeds_23 (lv_at hl 0 rfl) ?_
          refine lv_iload_n F.1 F.2.1 dX5_addNeeds_25 rfl (lv_at hl 3 rfl) ?_
          refine lv_iload_n F.1 F.2.1 dX5_addNeeds_26 rfl (lv_at hl 4 rfl) ?_
          have hde := desS_r hwf (if b then turnS σ i else i) rn
          refine cl_RX5_194 (As := [.int (iI i), .int (iI rn), .int (iI (bz b))]) (rest := []) F hl (c_X5_planned l X w9 a σ i rn b hL (by omega)) hW hS hO rfl rfl ⟨Nat.le_of_ble_eq_true rfl, Nat.le_of_ble_eq_true rfl⟩ (Nat.le_of_ble_eq_true rfl) ⟨Nat.zero_le _, Nat.zero_le _⟩ dX5_addNeeds_27 (fun w1 H locs hp5 hW hS => ?_)
          rw [hp5] at hW; clear hp5; clear w1
          refine lv_istore (lv' := [(5, .int (iI (desS σ (if b then turnS σ i else i) rn))), (4, .int (iI i)), (0, .ref a), (1, .ref u), (2, .int (iI rn)), (3, .int (iI (bz b)))]) F.1 F.2.1 dX5_addNeeds_30 hl (by decide) rfl (fun ls hl => ?_)
          refine lv_aload_n F.1 F.2.1 dX5_addNeeds_32 rfl (lv_at hl 3 rfl) ?_
          refine lv_iload F.1 F.2.1 dX5_addNeeds_33 (lv_at hl 0 rfl) ?_
          refine lv_aload_n F.1 F.2.1 dX5_addNeeds_35 rfl (lv_at hl 3 rfl) ?_
          refine lv_iload F.1 F.2.1 dX5_addNeeds_36 (lv_at hl 0 rfl) ?_
          refine cl_RX5_89 (As := [.ref u, .int (iI (desS σ (if b then turnS σ i else i) rn))]) (rest := [.int (iI (desS σ (if b then turnS σ i else i) rn)), .ref u]) F hl (c_X8_at l X w9 u 7 (addN nd σ b rn i) (desS σ (if b then turnS σ i else i) rn) hA3_0 (by omega) (by omega)) hW hS rfl rfl ⟨Nat.le_of_ble_eq_true rfl, Nat.le_of_ble_eq_true rfl⟩ (Nat.le_of_ble_eq_true rfl) ⟨Nat.zero_le _, Nat.zero_le _⟩ dX5_addNeeds_38 (fun w1 H locs hp6 hW hS => ?_)
          rw [hp6] at hW; clear hp6; clear w1
          refine h_iconst F dX5_addNeeds_41 ?_
          refine h_iadd (a := (addN nd σ b rn i) (desS σ (if b then turnS σ i else i) rn)) (b := 1) F dX5_addNeeds_42 ?_
          refine cl_RX5_198 (As := [.ref u, .int (iI (desS σ (if b then turnS σ i else i) rn)), .int (iI (((addN nd σ b rn i) (desS σ (if b then turnS σ i else i) rn)) + 1))]) (rest := []) F hl (c_X8_put l X w9 u 7 (addN nd σ b rn i) (desS σ (if b then turnS σ i else i) rn) (((addN nd σ b rn i) (desS σ (if b then turnS σ i else i) rn)) + 1) hA3_0 (by omega) (by omega)) hW hS rfl rfl ⟨Nat.le_of_ble_eq_true rfl, Nat.le_of_ble_eq_true rfl⟩ (Nat.le_of_ble_eq_true rfl) ⟨Nat.zero_le _, Nat.zero_le _⟩ dX5_addNeeds_43 (fun w7 H locs hp8 hW hS => ?_)
          obtain ⟨ha9, hn10⟩ := hp8
          have hO := (hn10 _ (by omega)).trans hO
          have hg1 := (hn10 _ (by omega)).trans hg1
          have hg3 := (hn10 _ (by omega)).trans hg3
          refine h_iinc (k := 1) (a := i) (lv' := [(4, .int (iI (i + 1))), (5, .int (iI (desS σ (if b then turnS σ i else i) rn))), (0, .ref a), (1, .ref u), (2, .int (iI rn)), (3, .int (iI (bz b)))]) F dX5_addNeeds_46 hl rfl (by decide) rfl (fun ls hl => ?_)
          refine h_goto (tgt := 3) F dX5_addNeeds_49 (by decide) ?_
          have eq11 : ((i + 1) : Int) = i + 1 := by first | rfl | omega | simp
          exact ih3 (i + 1)  (by omega) (by omega) w7 (by rw [show (addN nd σ b rn (i + 1) : Int → Int) = up (addN nd σ b rn i) (desS σ (if b then turnS σ i else i) rn) (((addN nd σ b rn i) (desS σ (if b then turnS σ i else i) rn)) + 1) from (by first | exact addN_t (by omega) ‹_› | exact addN_f (by omega) ‹_›)]; exact ha9) (fun q h09 => by rw [hn10 q (by omega), hF3 q (by omega)])  _ _ ls hW hS (by rw [eq11]; exact lv_sub hl [0, 2, 3, 4, 5] rfl)
  exact loop3 ((σ 0 - 0) + 1 : Int).toNat 0  (by omega) (by omega) w (by rw [show (addN nd σ b rn 0 : Int → Int) = nd from addN_0 _ _ _ _]; exact hu) (fun q _ => rfl)  _ _ ls hW hS (lv_sub hl [0, 1, 2, 3, 4] rfl)
set_option maxHeartbeats 4000000 in
set_option maxRecDepth 100000 in
theorem c_X5_fillRow (l : Launch) (X : Cx) (w : Wo) (a : Nat) (σ : Int → Int) (rn : Int) (b : Bool) (hL : loomAt X w a σ) (hsr : 0 ≤ rn ∧ rn < σ 1) (he : ∀ co, 0 ≤ co → co < 7 → cnt (wanB σ b rn co) 0 (σ 0) ≤ σ (6 + co)) : CM l X yX5_fillRow cX5_fillRow 4 none (rmk 3 69) [.ref a, .int (iI rn), .int (iI (bz b))] w none (fun w' => loomAt X w' a (fillN σ b rn (σ 0).toNat) ∧ ∀ q : Nat, q ≠ a + 2 → q ≠ a + 5 → w' q = w q) := by
  refine CM.of (lv := [(0, .ref a), (1, .int (iI rn)), (2, .int (iI (bz b)))]) (by decide) (Nat.le_of_ble_eq_true rfl) rfl (fun p e s m below meth c ls F hr hlk hin hW hS hl => ?_)
  have hZ0 := hW.2.2
  have hB9 := hW.1.2
  clear hin
  have hwf := hL.2.2
  have hF := hwf.1
  unfold WF0 at hF
  have hO := hL.1.o
  refine h_iconst F dX5_fillRow_0 ?_
  refine lv_istore_n (lv' := [(3, .int (iI 0)), (0, .ref a), (1, .int (iI rn)), (2, .int (iI (bz b)))]) F.1 F.2.1 dX5_fillRow_1 rfl hl (by decide) rfl (fun ls hl => ?_)
  have loop2 : ∀ (n9 : Nat) (i : Int), (hrg : 0 ≤ i ∧ i ≤ σ 0) → (hms : σ 0 - i < (n9 : Int)) → (w9 : Wo) → (hF2 : ∀ q : Nat, q ≠ a + 2 → q ≠ a + 5 → w9 q = w q) → (hL9 : loomAt X w9 a (fillN σ b rn i.toNat)) → (H : Heap) → (locs : List Loc) → (ls : Array Slot) → Wd X w9 s H → va_S (cxA X) s.heap H locs → lv_has ls 4 [(3, .int (iI i)), (0, .ref a), (1, .int (iI rn)), (2, .int (iI (bz b)))] → W p l e (rmk 3 69) s m (List.toArray [.ref a, .int (iI rn), .int (iI (bz b))]) below meth c H locs 0 0 (MX X below (List.toArray [.ref a, .int (iI rn), .int (iI (bz b))]) s 0 0 none (fun w' => loomAt X w' a (fillN σ b rn (σ 0).toNat) ∧ ∀ q : Nat, q ≠ a + 2 → q ≠ a + 5 → w' q = w q)) (F0 m 2 ls []) := by
    intro n9
    induction n9 with
    | zero => intro i  hrg hms; exfalso; omega
    | succ n9 ih2 =>
      intro i  hrg hms w9 hF2 hL9 H locs ls hW hS hl
      have hO := (hF2 _ (by omega) (by omega)).trans hO
      have hwt := fill_WF hwf hsr he i.toNat (by omega)
      obtain ⟨τ, hτ⟩ : ∃ τ, τ = fillN σ b rn i.toNat := ⟨_, rfl⟩
      rw [← hτ] at hL9 hwt
      have ht0 : τ 0 = σ 0 := by rw [hτ]; exact fill_lo hwf (by omega) (by decide) (by decide) _
      have ht1 : τ 1 = σ 1 := by rw [hτ]; exact fill_lo hwf (by omega) (by decide) (by decide) _
      have hA := hL9.1
      have hOt := hA.o
      have hg1 := hA.g1
      have hdt : desS τ (if b then turnS τ i else i) rn = desS σ (if b then turnS σ i else i) rn := by unfold turnS; rw [ht0, hτ]; exact fill_des hwf (by omega) _ _ _
      have hdr := desS_r hwf (if b then turnS σ i else i) rn
      refine lv_iload_n F.1 F.2.1 dX5_fillRow_2 rfl (lv_at hl 0 rfl) ?_
      refine lv_aload_n F.1 F.2.1 dX5_fillRow_3 rfl (lv_at hl 1 rfl) ?_
      refine gf_RX5_40 F hW hOt rfl dX5_fillRow_4 ?_
      refine h_icge (tgt := 38) F dX5_fillRow_7 (by decide) (by omega) (fun c1 => ?_) (fun c1 => ?_)
      · exact h_vret F hr hlk hW hS ⟨(by rw [show σ 0 = i by omega, ← hτ]; exact hL9), (fun q h09 h19 => by rw [hF2 q (by omega) (by omega)])⟩ dX5_fillRow_38
      · refine lv_aload_n F.1 F.2.1 dX5_fillRow_10 rfl (lv_at hl 1 rfl) ?_
        refine lv_iload_n F.1 F.2.1 dX5_fillRow_11 rfl (lv_at hl 0 rfl) ?_
        refine lv_iload_n F.1 F.2.1 dX5_fillRow_12 rfl (lv_at hl 2 rfl) ?_
        refine cl_RX5_191 (As := [.int (iI i), .int (iI rn)]) (rest := []) F hl (c_X5_isEmpty l X w9 a τ i rn hA hwt (by omega)) hW hS hOt rfl rfl ⟨Nat.le_of_ble_eq_true rfl, Nat.le_of_ble_eq_true rfl⟩ (Nat.le_of_ble_eq_true rfl) ⟨Nat.zero_le _, Nat.zero_le _⟩ dX5_fillRow_13 (fun w1 H locs hp2 hW hS => ?_)
        rw [hp2] at hW; clear hp2; clear w1
        refine h_ifeqb (tgt := 32) F dX5_fillRow_16 (by decide) (fun c3 => ?_) (fun c3 => ?_)
        · have c3d := of_decide_eq_false c3
          have hL8 : loomAt X w9 a (fillN σ b rn (i + 1).toNat) := by rw [fillN_f (by omega) (by rw [← hτ]; assumption), ← hτ]; exact hL9
          refine h_iinc (k := 0) (a := i) (lv' := [(3, .int (iI (i + 1))), (0, .ref a), (1, .int (iI rn)), (2, .int (iI (bz b)))]) F dX5_fillRow_32 hl rfl (by decide) rfl (fun ls hl => ?_)
          refine h_goto (tgt := 2) F dX5_fillRow_35 (by decide) ?_
          have eq4 : ((i + 1) : Int) = i + 1 := by first | rfl | omega | simp
          exact ih2 (i + 1)  (by omega) (by omega) w9 (fun q h09 h19 => by rw [hF2 q (by omega) (by omega)]) hL8 _ _ ls hW hS (by rw [eq4]; exact lv_sub hl [0, 1, 2, 3] rfl)
        · have c3d := of_decide_eq_true c3
          refine lv_aload_n F.1 F.2.1 dX5_fillRow_19 rfl (lv_at hl 1 rfl) ?_
          refine lv_iload_n F.1 F.2.1 dX5_fillRow_20 rfl (lv_at hl 0 rfl) ?_
          refine lv_iload_n F.1 F.2.1 dX5_fillRow_21 rfl (lv_at hl 2 rfl) ?_
          refine lv_aload_n F.1 F.2.1 dX5_fillRow_22 rfl (lv_at hl 1 rfl) ?_
          refine lv_iload_n F.1 F.2.1 dX5_fillRow_23 rfl (lv_at hl 0 rfl) ?_
          refine lv_iload_n F.1 F.2.1 dX5_fillRow_24 rfl (lv_at hl 2 rfl) ?_
          refine lv_iload_n F.1 F.2.1 dX5_fillRow_25 rfl (lv_at hl 3 rfl) ?_
          refine cl_RX5_194 (As := [.int (iI i), .int (iI rn), .int (iI (bz b))]) (rest := [.int (iI rn), .int (iI i), .ref a]) F hl (c_X5_planned l X w9 a τ i rn b hL9 (by omega)) hW hS hOt rfl rfl ⟨Nat.le_of_ble_eq_true rfl, Nat.le_of_ble_eq_true rfl⟩ (Nat.le_of_ble_eq_true rfl) ⟨Nat.zero_le _, Nat.zero_le _⟩ dX5_fillRow_26 (fun w1 H locs hp5 hW hS => ?_)
          rw [hp5] at hW; clear hp5; clear w1
          refine h_top (show (desS τ (if b then turnS τ i else i) rn : Int) = desS σ (if b then turnS σ i else i) rn from hdt) ?_
          refine cl_RX5_205 (As := [.int (iI i), .int (iI rn), .int (iI (desS σ (if b then turnS σ i else i) rn))]) (rest := []) F hl (c_X5_giveCell l X w9 a τ i rn (desS σ (if b then turnS σ i else i) rn) hA hwt.cap8 (by omega) (by omega) (by omega)) hW hS hOt rfl rfl ⟨Nat.le_of_ble_eq_true rfl, Nat.le_of_ble_eq_true rfl⟩ (Nat.le_of_ble_eq_true rfl) ⟨Nat.zero_le _, Nat.zero_le _⟩ dX5_fillRow_29 (fun w6 H locs hp7 hW hS => ?_)
          obtain ⟨hm9, hn8⟩ := hp7
          have hOt := (hn8 _ (by omega) (by omega)).trans hOt
          have hg1 := (hn8 _ (by omega) (by omega)).trans hg1
          have hft : fillN σ b rn (i + 1).toNat = giveS τ i rn (desS σ (if b then turnS σ i else i) rn) := by rw [hτ]; exact fillN_t (by omega) (by rw [← hτ]; assumption)
          have hL8 : loomAt X w6 a (fillN σ b rn (i + 1).toNat) := by rw [hft]; exact give_loom hL9 hm9 (by rw [← hft]; exact fill_WF hwf hsr he _ (by omega)) (by omega) (by omega) (hn8 _ (by omega) (by omega)) (hn8 _ (by omega) (by omega))
          refine h_iinc (k := 0) (a := i) (lv' := [(3, .int (iI (i + 1))), (0, .ref a), (1, .int (iI rn)), (2, .int (iI (bz b)))]) F dX5_fillRow_32 hl rfl (by decide) rfl (fun ls hl => ?_)
          refine h_goto (tgt := 2) F dX5_fillRow_35 (by decide) ?_
          have eq9 : ((i + 1) : Int) = i + 1 := by first | rfl | omega | simp
          exact ih2 (i + 1)  (by omega) (by omega) w6 (fun q h09 h19 => by rw [hn8 q (by omega) (by omega), hF2 q (by omega) (by omega)]) hL8 _ _ ls hW hS (by rw [eq9]; exact lv_sub hl [0, 1, 2, 3] rfl)
  exact loop2 ((σ 0 - 0) + 1 : Int).toNat 0  (by omega) (by omega) w (fun q _ _ => rfl) hL _ _ ls hW hS (lv_sub hl [0, 1, 2, 3] rfl)
