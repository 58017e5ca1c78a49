theorem arr_w {s : State} {args : Array Value} {ty : FieldType} (hn : ∀ C, ty ≠ .object C) (h : (Cond.arrayClass ty).before args s = true) : ∃ c : ClassId, ArrOfT s c ty ∧ s.vm.findClass ("[" ++ ty.toString) = some c := by
  obtain ⟨c, k, comp, h1, h2, h3⟩ := Cond.arrayClass_spec h
  exact ⟨c, fun n z => ⟨(fun k h => by cases h), k, h2, comp, h3⟩, h1⟩
theorem arr_o {s : State} {args : Array Value} {C : String} (h : (Cond.arrayOver (.object C)).before args s = true) : ∃ c : ClassId, ArrOfT s c (.object C) ∧ va_RA s c (.object C) := by
  obtain ⟨comp, c, k, f1, f2, f3, f4, f5⟩ := Cond.arrayOver_spec h
  exact ⟨c, fun n z => ⟨(fun k h => by cases h), k, f3, comp, f4⟩, k, comp, f3, f4, f1, f5⟩
/-- strings, where they lie -/
theorem tx_gen {args : Array Value} {s : State} (hg : ∀ w ∈ flG, w.before args s = true) (N : Nat) (tm : Nat → Term) (len : List Nat) (byt : List (List Int32)) (h0 : ∀ i, i < N → len.getD i 0 < 2 ^ 31)
    (hex : ∀ i, i < N → Cond.exactly (tm i) "java/lang/String" ∈ flG) (hco : ∀ i, i < N → Cond.eq (.field (tm i) "java/lang/String" "coder" "B") (.int 0) ∈ flG) (har : ∀ i, i < N → Cond.arrayOf (.field (tm i) "java/lang/String" "value" "[B") .byte ∈ flG)
    (hle : ∀ i, i < N → Cond.eq (.length (.field (tm i) "java/lang/String" "value" "[B")) (.int (Int32.ofNat (len.getD i 0))) ∈ flG)
    (hel : ∀ i, i < N → ∀ j, j < len.getD i 0 → Cond.eq (.elem (.field (tm i) "java/lang/String" "value" "[B") (.int (Int32.ofNat j))) (.int ((byt.getD i []).getD j 0)) ∈ flG)
    (hne : ∀ i, i < N → ∀ j, j < N → i ≠ j → Int32.ofNat (len.getD i 0) ≠ Int32.ofNat (len.getD j 0) ∨ ∃ k, k < len.getD i 0 ∧ k < len.getD j 0 ∧ (byt.getD i []).getD k 0 ≠ (byt.getD j []).getD k 0) :
    ∃ adK adV : Nat → Nat, vk_S N len byt adK adV (fun q => s.heap.size ≤ q) s s.heap ∧ ∀ j : Nat, j < N → (tm j).eval args s none [] s = some (.ref (adK j)) := by
  have hA : ∀ a : Nat, a < s.heap.size → ¬ s.heap.size ≤ a := fun a h => by omega
  have hev : ∀ i : Nat, i < N → ∃ a : Nat, (tm i).eval args s none [] s = some (.ref a) := fun i hi => by
    obtain ⟨a, c, cA, kA, q1, -⟩ := Cond.exactly_spec (args := args) (first := s) (o := none) (s := s) (idx := []) (t := tm i) (cls := "java/lang/String") (hg _ (hex i hi))
    exact ⟨a, q1⟩
  exact vk_Sof (args := args) (s := s) (N := N) (tm := tm) (len := len) (byt := byt) (A := fun q => s.heap.size ≤ q) h0 (fun i hi => hg _ (hex i hi)) (fun i hi => hg _ (hco i hi)) (fun i hi => hg _ (har i hi)) (fun i hi => hg _ (hle i hi)) (fun i hi j hj => hg _ (hel i hi j hj)) (fun i j hi hj hn => by
    obtain ⟨a, ha⟩ := hev i hi
    obtain ⟨b, hb⟩ := hev j hj
    refine Or.inl (ne_ref (fun e => ?_) ha hb)
    have he : (tm i).eval args s none [] s = (tm j).eval args s none [] s := by rw [ha, hb, e]
    rcases hne i hi j hj hn with h | ⟨k, k1, k2, h⟩
    · exact h (tab_len he (hg _ (hle i hi)) (hg _ (hle j hj)))
    · exact h (tab_el he (hg _ (hel i hi k k1)) (hg _ (hel j hj k k2)))) hA
/-- a method that is declared above, selected on an object below -/
theorem sel_priv {C : String} {x y z : MethodName} {s : State} {args : Array Value} (hy : y.cls ≠ "java/lang/invoke/MethodHandle" ∧ y.cls ≠ "java/lang/invoke/VarHandle") (hsel : (Cond.selects C x z).before args s = true) (hz : z.cls = y.cls) (hpriv : (Cond.privateMethod y).before args s = true) (hinst : (Cond.instanceMethod y).before args s = true) : (Cond.selects C y y).before args s = true := by
  obtain ⟨mk, methM, hnamed, hmethM, -, -⟩ := Cond.instanceMethod_spec hinst
  have hfound : s.methodFound? y.cls y.name y.desc = some mk := State.methodFound?_of_named hnamed hy
  have hown : s.vm.findClass y.cls = some mk.cls := findClass_of_methodNamed hnamed
  have hsel2 : ∀ c, selectMethod {} s.vm c mk = .method mk := fun c => selectMethod_private hmethM (Cond.privateMethod_at hpriv mk methM hnamed hmethM)
  simp only [Cond.before, Cond.holds, Cond.value] at hsel
  cases h1 : s.vm.findClass C with
  | none => simp [h1] at hsel
  | some c =>
    cases h2 : s.methodFound? x.cls x.name x.desc with
    | none => simp [h1, h2] at hsel
    | some r =>
      cases h3 : s.methodNamed? z with
      | none => simp [h1, h2, h3] at hsel
      | some m =>
        have hown2 : s.vm.findClass z.cls = some m.cls := findClass_of_methodNamed h3
        rw [hz] at hown2
        have hc : mk.cls = m.cls := Option.some.inj (hown.symm.trans hown2)
        have hni : (s.vm.classes[mk.cls]?).any (fun k => !k.isInterface) = true := by
          rw [hc]
          cases h4 : selectMethod {} s.vm c r with
          | method m' =>
            simp only [h1, h2, h3, h4, Option.getD_some, Bool.and_eq_true, beq_iff_eq] at hsel
            simp at hsel
            simpa using hsel.2
          | _ => simp [h1, h2, h3, h4] at hsel
        simp only [Cond.before, Cond.holds, Cond.value, h1, hfound, hnamed, hsel2]
        simpa using hni
theorem cl_start {args : Array Value} {s : State} (hB : ∀ w ∈ BIG, w.before args s = true) : ∃ D : va_G, ∀ (c : Nat) (q : vw_C), vwCl[c]? = some q → u_Kn s q.1 q.2.1 q.2.2 (D.1 c) (D.2 c) := by
  obtain ⟨c0, i0, k0⟩ := u_known (C := RX0) (T := TX0) (N := 2) hB inX0 (hB _ kb_RX0)
  obtain ⟨c1, i1, k1⟩ := u_known (C := RX1) (T := TX1) (N := 6) hB inX1 (hB _ kb_RX1)
  obtain ⟨c2, i2, k2⟩ := u_known (C := RX2) (T := TX2) (N := 4) hB inX2 (hB _ kb_RX2)
  obtain ⟨c3, i3, k3⟩ := u_known (C := RX3) (T := TX3) (N := 1) hB inX3 (hB _ kb_RX3)
  obtain ⟨c4, i4, k4⟩ := u_known (C := RX4) (T := TX4) (N := 3) hB inX4 (hB _ kb_RX4)
  obtain ⟨c5, i5, k5⟩ := u_known (C := RX5) (T := TX5) (N := 11) hB inX5 (hB _ kb_RX5)
  obtain ⟨c6, i6, k6⟩ := u_known (C := RX6) (T := TX6) (N := 8) hB inX6 (hB _ kb_RX6)
  obtain ⟨c7, i7, k7⟩ := u_known (C := RX7) (T := TX7) (N := 11) hB inX7 (hB _ kb_RX7)
  obtain ⟨c8, i8, k8⟩ := u_known (C := RX8) (T := TX8) (N := 14) hB inX8 (hB _ kb_RX8)
  obtain ⟨c9, i9, k9⟩ := u_known (C := RX9) (T := TX9) (N := 5) hB inX9 (hB _ kb_RX9)
  obtain ⟨c10, i10, k10⟩ := u_known (C := RX10) (T := TX10) (N := 8) hB inX10 (hB _ kb_RX10)
  obtain ⟨c11, i11, k11⟩ := u_known (C := RJ0) (T := TJ0) (N := 4) hB inJ0 (hB _ kb_RJ0)
  obtain ⟨c12, i12, k12⟩ := u_known (C := RJ4) (T := TJ4) (N := 4) hB inJ4 (hB _ kb_RJ4)
  obtain ⟨c13, i13, k13⟩ := u_known (C := RJx35411) (T := TJx35411) (N := 4) hB inJx35411 (hB _ kb_RJx35411)
  obtain ⟨c14, i14, k14⟩ := u_known (C := RJx4a65c) (T := TJx4a65c) (N := 3) hB inJx4a65c (hB _ kb_RJx4a65c)
  refine ⟨(fun c => match c with | 0 => c0 | 1 => c1 | 2 => c2 | 3 => c3 | 4 => c4 | 5 => c5 | 6 => c6 | 7 => c7 | 8 => c8 | 9 => c9 | 10 => c10 | 11 => c11 | 12 => c12 | 13 => c13 | _ => c14, fun c => match c with | 0 => i0 | 1 => i1 | 2 => i2 | 3 => i3 | 4 => i4 | 5 => i5 | 6 => i6 | 7 => i7 | 8 => i8 | 9 => i9 | 10 => i10 | 11 => i11 | 12 => i12 | 13 => i13 | _ => i14), fun c q hq => ?_⟩
  match c, hq with
  | 0, hq => cases hq; exact k0
  | 1, hq => cases hq; exact k1
  | 2, hq => cases hq; exact k2
  | 3, hq => cases hq; exact k3
  | 4, hq => cases hq; exact k4
  | 5, hq => cases hq; exact k5
  | 6, hq => cases hq; exact k6
  | 7, hq => cases hq; exact k7
  | 8, hq => cases hq; exact k8
  | 9, hq => cases hq; exact k9
  | 10, hq => cases hq; exact k10
  | 11, hq => cases hq; exact k11
  | 12, hq => cases hq; exact k12
  | 13, hq => cases hq; exact k13
  | 14, hq => cases hq; exact k14
  | n + 15, hq => cases hq
/-- where what is old lies -/
def adSt (b g8 gL gE gT gO mi : Nat) (k1 v1 k2 v2 : Nat → Nat) : Nat → Nat := fun k => if k < 10 then (match k with | 0 => b | 1 => g8 | 2 => gL | 3 => gE | 4 => gT | 5 => gO | _ => mi) else if k < 30 then k1 (k - 10) else if k < 60 then v1 (k - 30) else if k < 80 then k2 (k - 60) else v2 (k - 80)
theorem adSt_1 {b g8 gL gE gT gO mi : Nat} {k1 v1 k2 v2 : Nat → Nat} {i : Nat} (h : i < 20) : adSt b g8 gL gE gT gO mi k1 v1 k2 v2 (10 + i) = k1 i := by
  unfold adSt
  rw [if_neg (by omega), if_pos (by omega), Nat.add_sub_cancel_left]
theorem adSt_2 {b g8 gL gE gT gO mi : Nat} {k1 v1 k2 v2 : Nat → Nat} {i : Nat} (h : i < 30) : adSt b g8 gL gE gT gO mi k1 v1 k2 v2 (30 + i) = v1 i := by
  unfold adSt
  rw [if_neg (by omega), if_neg (by omega), if_pos (by omega), Nat.add_sub_cancel_left]
theorem adSt_3 {b g8 gL gE gT gO mi : Nat} {k1 v1 k2 v2 : Nat → Nat} {i : Nat} (h : i < 20) : adSt b g8 gL gE gT gO mi k1 v1 k2 v2 (60 + i) = k2 i := by
  unfold adSt
  rw [if_neg (by omega), if_neg (by omega), if_neg (by omega), if_pos (by omega), Nat.add_sub_cancel_left]
theorem adSt_4 {b g8 gL gE gT gO mi : Nat} {k1 v1 k2 v2 : Nat → Nat} {i : Nat} : adSt b g8 gL gE gT gO mi k1 v1 k2 v2 (80 + i) = v2 i := by
  unfold adSt
  rw [if_neg (by omega), if_neg (by omega), if_neg (by omega), if_neg (by omega), Nat.add_sub_cancel_left]
set_option maxHeartbeats 2000000 in
theorem cx_start {args : Array Value} {s : State} (hts : ∀ w ∈ lw_tbl, w.before args s = true) (hgv : (Cond.and given_1 narrow_1).before args s = true) : ∃ X : Cx, cxB X = s.heap.size ∧ cxK X s ∧ cxZ X s s.heap := by
  have hg : ∀ w ∈ flG, w.before args s = true := flat_of_before _ hgv
  have hB : ∀ w ∈ BIG, w.before args s = true := fun w h => hts w (big_tbl h)
  have hA : ∀ a : Nat, a < s.heap.size → ¬ s.heap.size ≤ a := fun a h => by omega
  obtain ⟨D, hD⟩ := cl_start hB
  obtain ⟨k1, v1, hS1, hE1⟩ := tx_gen hg 14 tmWs wdN wdB (by decide +kernel) fw_ex fw_co fw_ar fw_le fw_el fw_ne
  obtain ⟨k2, v2, hS2, hE2⟩ := tx_gen hg 15 tmVs lwN lwB (by decide +kernel) fv_ex fv_co fv_ar fv_le fv_el fv_ne
  obtain ⟨a0, b0, e0⟩ := arr_w (ty := .int) (fun C h => by cases h) (hB _ haCI)
  obtain ⟨a1, b1, e1⟩ := arr_w (ty := .long) (fun C h => by cases h) (hB _ haCJ)
  obtain ⟨a2, b2, e2⟩ := arr_w (ty := .byte) (fun C h => by cases h) (hB _ haCY)
  obtain ⟨a3, b3, e3⟩ := arr_o (hts _ ft_O.1)
  obtain ⟨a4, b4, e4⟩ := arr_o (hts _ ft_O.2.1)
  obtain ⟨a5, b5, e5⟩ := arr_o (hts _ ft_O.2.2)
  obtain ⟨mi, hmi⟩ := va_Mi.of (hg _ fg_c.2.2)
  obtain ⟨g8, v8, t8⟩ := va_Tof (args := args) (s := s) (tm := .static RX8 "GLYPHS" "[I") (ty := .int) (N := 26) (f := fun j => .int (iI (gl (j : Int)))) (A := fun q => s.heap.size ≤ q) (by decide) (hg _ fg_8.1) (va_eqt (hg _ fg_8.2.1)) (fun j hj => va_eqt (hg _ (fg_8.2.2 j hj))) hA
  obtain ⟨gL, vL, tL⟩ := va_Tof (args := args) (s := s) (tm := .static RL "GLYPHS" "[I") (ty := .int) (N := 26) (f := fun j => .int (iI (gl (j : Int)))) (A := fun q => s.heap.size ≤ q) (by decide) (hg _ fg_L.1) (va_eqt (hg _ fg_L.2.1)) (fun j hj => va_eqt (hg _ (fg_L.2.2 j hj))) hA
  obtain ⟨gE, vE, tE⟩ := va_Tof (args := args) (s := s) (tm := .static RJx4a65c "DEFAULTCAPACITY_EMPTY_ELEMENTDATA" "[Ljava/lang/Object;") (ty := .object "java/lang/Object") (N := 0) (f := fun _ => .null) (A := fun q => s.heap.size ≤ q) (by decide) (hg _ fg_E.1) (va_eqt (hg _ fg_E.2)) (fun j hj => absurd hj (Nat.not_lt_zero j)) hA
  obtain ⟨gT, vT, tT⟩ := va_Tof (args := args) (s := s) (tm := .static RJ6 "DigitTens" "[B") (ty := .byte) (N := 100) (f := fun j => .int (iI (48 + (j : Int) / 10))) (A := fun q => s.heap.size ≤ q) (by decide) (hg _ fg_T.1) (va_eqt (hg _ fg_T.2.1)) (fun j hj => va_eqt (hg _ (fg_T.2.2 j hj))) hA
  obtain ⟨gO, vO, tO⟩ := va_Tof (args := args) (s := s) (tm := .static RJ6 "DigitOnes" "[B") (ty := .byte) (N := 100) (f := fun j => .int (iI (48 + (j : Int) % 10))) (A := fun q => s.heap.size ≤ q) (by decide) (hg _ fg_O.1) (va_eqt (hg _ fg_O.2.1)) (fun j hj => va_eqt (hg _ (fg_O.2.2 j hj))) hA
  obtain ⟨ac, hac⟩ : ∃ ac : Nat → ClassId, ac = (fun k => match k with | 0 => a0 | 1 => a1 | 2 => a2 | 3 => a3 | 4 => a4 | _ => a5) := ⟨_, rfl⟩
  obtain ⟨ad, had⟩ : ∃ ad : Nat → Nat, ad = adSt s.heap.size g8 gL gE gT gO mi k1 v1 k2 v2 := ⟨_, rfl⟩
  have q0 : ad 0 = s.heap.size := by rw [had]; rfl
  have q1 : ad 1 = g8 := by rw [had]; rfl
  have q2 : ad 2 = gL := by rw [had]; rfl
  have q3 : ad 3 = gE := by rw [had]; rfl
  have q4 : ad 4 = gT := by rw [had]; rfl
  have q5 : ad 5 = gO := by rw [had]; rfl
  have q6 : ad 6 = mi := by rw [had]; rfl
  have qK1 : ∀ i, i < 14 → ad (10 + i) = k1 i := fun i hi => by rw [had]; exact adSt_1 (by omega)
  have qV1 : ∀ i, i < 14 → ad (30 + i) = v1 i := fun i hi => by rw [had]; exact adSt_2 (by omega)
  have qK2 : ∀ i, i < 15 → ad (60 + i) = k2 i := fun i hi => by rw [had]; exact adSt_3 (by omega)
  have qV2 : ∀ i, i < 15 → ad (80 + i) = v2 i := fun i hi => by rw [had]; exact adSt_4
  clear had
  have hAe : (fun q : Nat => s.heap.size ≤ q) = cxA (D, ac, ad) := by
    show _ = fun q : Nat => ad 0 ≤ q
    rw [q0]
  rw [hAe] at hS1 hS2 t8 tL tE tT tO
  have hA : ∀ a : Nat, a < s.heap.size → ¬ cxA (D, ac, ad) a := by rw [← hAe]; exact hA
  refine ⟨(D, ac, ad), q0, ⟨⟨hD, fun k q hq => ?_⟩, fun q hq => ?_, fun q hq => va_Nw.of rfl (hts _ (ft_N q hq)), va_Nw.of rfl (hts _ ft_F), va_AO.of (hts _ ft_O.1), va_AO.of (hts _ ft_O.2.1), fun q hq => ?_, va_AO.of (hts _ ft_O.2.2), va_Nw.of rfl (hts _ ft_C.1), fun q hq => va_Nw.of rfl (hts _ (ft_fN q hq)), fun q hq => va_Fw.of (hts _ (ft_f1 q hq)) (hts _ (ft_f2 q hq)) (hts _ (ft_f3 q hq)) (hts _ (ft_f4 q hq)) (hts _ (ft_f5 q hq)), va_Dc.of (hts _ ft_D), ?_, fun q hq => va_Nw.of rfl (hts _ (ft_C.2 q hq)), fun q hq => va_Nw.of rfl (sel_priv (ft_Pc q hq).2 (hB _ kS_RJ4_yJ5_isLatin1_aae02) (ft_Pc q hq).1.symm (hts _ (ft_P q hq).1) (hts _ (ft_P q hq).2))⟩, ⟨?_, ?_⟩, ⟨?_, ?_⟩, ?_, hS1.cg qK1 qV1, ?_, hS2.cg qK2 qV2, ⟨?_, ?_⟩, ⟨?_, ?_⟩, ⟨?_, ?_⟩⟩
  · match k, hq with
    | 0, hq => cases hq; show ArrOfT s (ac 0) _ ∧ va_RA s (ac 0) _; rw [hac]; exact ⟨b0, e0⟩
    | 1, hq => cases hq; show ArrOfT s (ac 1) _ ∧ va_RA s (ac 1) _; rw [hac]; exact ⟨b1, e1⟩
    | 2, hq => cases hq; show ArrOfT s (ac 2) _ ∧ va_RA s (ac 2) _; rw [hac]; exact ⟨b2, e2⟩
    | 3, hq => cases hq; show ArrOfT s (ac 3) _ ∧ va_RA s (ac 3) _; rw [hac]; exact ⟨b3, e3⟩
    | 4, hq => cases hq; show ArrOfT s (ac 4) _ ∧ va_RA s (ac 4) _; rw [hac]; exact ⟨b4, e4⟩
    | 5, hq => cases hq; show ArrOfT s (ac 5) _ ∧ va_RA s (ac 5) _; rw [hac]; exact ⟨b5, e5⟩
    | n + 6, hq => cases hq
  · obtain ⟨j, hj, eg⟩ := List.getElem_of_mem hq
    have eg : q = cxW.getD j ("", 0, "", 0) := by rw [← eg, List.getD_eq_getElem?_getD, List.getElem?_eq_getElem hj]; rfl
    have hj : j < 14 := hj
    subst eg
    refine vk_R.of (hts _ (ft_W j hj)) ?_
    rw [ft_Wi j hj]
    show (tmWs j).eval args s none [] s = some (.ref (ad (10 + j)))
    rw [qK1 _ hj]
    exact hE1 j hj
  · obtain ⟨j, hj, eg⟩ := List.getElem_of_mem hq
    have eg : q = cxV.getD j ("", 0, "", 0) := by rw [← eg, List.getD_eq_getElem?_getD, List.getElem?_eq_getElem hj]; rfl
    have hj : j < 15 := hj
    subst eg
    refine vk_R.of (hts _ (ft_V j hj)) ?_
    rw [ft_Vi j hj]
    show (tmVs j).eval args s none [] s = some (.ref (ad (60 + j)))
    rw [qK2 _ hj]
    exact hE2 j hj
  · show va_Mi "[Ljava/lang/Object;" (ad 6) s
    rw [q6]
    exact hmi
  · show va_Z RX8 "GLYPHS" "[I" (.ref (ad 1)) _ s s.heap
    rw [q1]
    exact va_Zref (hts _ ft_Z.1.1) (hts _ ft_Z.1.2) v8 hA
  · show va_T .int (ad 1) 26 _ _ s s.heap
    rw [q1]
    exact t8
  · show va_Z RL "GLYPHS" "[I" (.ref (ad 2)) _ s s.heap
    rw [q2]
    exact va_Zref (hts _ ft_Z.2.1) (hts _ ft_Z.2.2) vL hA
  · show va_T .int (ad 2) 26 _ _ s s.heap
    rw [q2]
    exact tL
  · exact va_Zof (hts _ ft_Z2.1.1) (hts _ ft_Z2.1.2) (va_eqt (hg _ fg_c.1)) hA
  · exact va_Zqof (hts _ ft_Z2.2.1) (hts _ ft_Z2.2.2) (hg _ fg_c.2.1) hA
  · show va_Z RJx4a65c "DEFAULTCAPACITY_EMPTY_ELEMENTDATA" "[Ljava/lang/Object;" (.ref (ad 3)) _ s s.heap
    rw [q3]
    exact va_Zref (hts _ ft_Z3.1.1) (hts _ ft_Z3.1.2) vE hA
  · show va_T (.object "java/lang/Object") (ad 3) 0 _ _ s s.heap
    rw [q3]
    exact tE
  · show va_Z RJ6 "DigitTens" "[B" (.ref (ad 4)) _ s s.heap
    rw [q4]
    exact va_Zref (hts _ ft_Z3.2.1.1) (hts _ ft_Z3.2.1.2) vT hA
  · show va_T .byte (ad 4) 100 _ _ s s.heap
    rw [q4]
    exact tT
  · show va_Z RJ6 "DigitOnes" "[B" (.ref (ad 5)) _ s s.heap
    rw [q5]
    exact va_Zref (hts _ ft_Z3.2.2) (hts _ ft_Z3.2.1.2) vO hA
  · show va_T .byte (ad 5) 100 _ _ s s.heap
    rw [q5]
    exact tO
