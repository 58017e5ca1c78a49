theorem hst_of {l : Launch} (h : l.flags = flags0) : l.stackTraces = false := by
  unfold Launch.stackTraces
  rw [h]
  decide +kernel
theorem arr_w {s : State} {args : Array Value} {ty : FieldType} (hn : ∀ C, ty ≠ .object C) (h : (Cond.arrayClass ty).before args s = true) : ∃ c : ClassId, ArrOfT s c ty ∧ s.vm.findClass ("[" ++ ty.toString) = some c := by
  obtain ⟨c, k, comp, h1, h2, h3⟩ := Cond.arrayClass_spec h
  exact ⟨c, fun n z => ⟨(fun k h => by cases h), k, h2, comp, h3⟩, h1⟩
theorem arr_o {s : State} {args : Array Value} {C : String} (h : (Cond.arrayOver (.object C)).before args s = true) : ∃ c : ClassId, ArrOfT s c (.object C) ∧ va_RA s c (.object C) := by
  obtain ⟨comp, c, k, f1, f2, f3, f4, f5⟩ := Cond.arrayOver_spec h
  exact ⟨c, fun n z => ⟨(fun k h => by cases h), k, f3, comp, f4⟩, k, comp, f3, f4, f1, f5⟩
/-- the strings of the texts, where they lie -/
theorem tx_start {args : Array Value} {s : State} (hg : ∀ w ∈ flG, w.before args s = true) : ∃ adK adV : Nat → Nat, vk_S 14 wdN wdB adK adV (fun q => s.heap.size ≤ q) s s.heap ∧ ∀ j : Nat, j < 28 → (tmW j).eval args s none [] s = some (.ref (adK (j % 14))) := by
  have hA : ∀ a : Nat, a < s.heap.size → ¬ s.heap.size ≤ a := fun a h => by omega
  have hev : ∀ i : Nat, i < 14 → ∃ a : Nat, (tmW i).eval args s none [] s = some (.ref a) := fun i hi => by
    obtain ⟨a, c, cA, kA, q1, -⟩ := Cond.exactly_spec (args := args) (first := s) (o := none) (s := s) (idx := []) (t := tmW i) (cls := "java/lang/String") (hg _ (fg_ex i hi))
    exact ⟨a, q1⟩
  obtain ⟨adK, adV, h1, h2⟩ := vk_Sof (args := args) (s := s) (N := 14) (tm := tmW) (len := wdN) (byt := wdB) (A := fun q => s.heap.size ≤ q) (by decide +kernel) (fun i hi => hg _ (fg_ex i hi)) (fun i hi => hg _ (fg_co i hi)) (fun i hi => hg _ (fg_ar i hi)) (fun i hi => hg _ (fg_le i hi)) (fun i hi j hj => hg _ (fg_el i hi j hj)) (fun i j hi hj hne => by
    obtain ⟨a, ha⟩ := hev i hi
    obtain ⟨b, hb⟩ := hev j hj
    refine Or.inl (ne_ref (fun e => ?_) ha hb)
    have he : (tmW i).eval args s none [] s = (tmW j).eval args s none [] s := by rw [ha, hb, e]
    rcases fg_ne i hi j hj hne with h | ⟨k, k1, k2, h⟩
    · exact h (tab_len he (hg _ (fg_le i hi)) (hg _ (fg_le j hj)))
    · exact h (tab_el he (hg _ (fg_el i hi k k1)) (hg _ (fg_el j hj k k2)))) hA
  refine ⟨adK, adV, h1, fun j hj => ?_⟩
  by_cases h : j < 14
  · rw [Nat.mod_eq_of_lt h]
    exact h2 j h
  · have e := eq_ref (h2 (j - 14) (by omega)) (hg _ (fg_eq (j - 14) (by omega)))
    rw [show 14 + (j - 14) = j by omega] at e
    rw [show j % 14 = j - 14 by omega]
    exact e
theorem cl_start {args : Array Value} {s : State} (hB : ∀ w ∈ BIG, w.before args s = true) : ∃ D : va_G, ∀ (c : Nat) (q : vw_C), vwCl[c]? = some q → u_Kn s q.1 q.2.1 q.2.2 (D.1 c) (D.2 c) := by
  obtain ⟨c0, i0, k0⟩ := u_known (C := RX0) (T := TX0) (N := 2) hB inX0 (hB _ kb_RX0)
  obtain ⟨c1, i1, k1⟩ := u_known (C := RX1) (T := TX1) (N := 6) hB inX1 (hB _ kb_RX1)
  obtain ⟨c2, i2, k2⟩ := u_known (C := RX2) (T := TX2) (N := 4) hB inX2 (hB _ kb_RX2)
  obtain ⟨c3, i3, k3⟩ := u_known (C := RX3) (T := TX3) (N := 1) hB inX3 (hB _ kb_RX3)
  obtain ⟨c4, i4, k4⟩ := u_known (C := RX4) (T := TX4) (N := 3) hB inX4 (hB _ kb_RX4)
  obtain ⟨c5, i5, k5⟩ := u_known (C := RX5) (T := TX5) (N := 11) hB inX5 (hB _ kb_RX5)
  obtain ⟨c6, i6, k6⟩ := u_known (C := RX6) (T := TX6) (N := 8) hB inX6 (hB _ kb_RX6)
  obtain ⟨c7, i7, k7⟩ := u_known (C := RX7) (T := TX7) (N := 11) hB inX7 (hB _ kb_RX7)
  obtain ⟨c8, i8, k8⟩ := u_known (C := RX8) (T := TX8) (N := 14) hB inX8 (hB _ kb_RX8)
  obtain ⟨c9, i9, k9⟩ := u_known (C := RX9) (T := TX9) (N := 32) hB inX9 (hB _ kb_RX9)
  refine ⟨(fun c => match c with | 0 => c0 | 1 => c1 | 2 => c2 | 3 => c3 | 4 => c4 | 5 => c5 | 6 => c6 | 7 => c7 | 8 => c8 | _ => c9, fun c => match c with | 0 => i0 | 1 => i1 | 2 => i2 | 3 => i3 | 4 => i4 | 5 => i5 | 6 => i6 | 7 => i7 | 8 => i8 | _ => i9), fun c q hq => ?_⟩
  match c, hq with
  | 0, hq => cases hq; exact k0
  | 1, hq => cases hq; exact k1
  | 2, hq => cases hq; exact k2
  | 3, hq => cases hq; exact k3
  | 4, hq => cases hq; exact k4
  | 5, hq => cases hq; exact k5
  | 6, hq => cases hq; exact k6
  | 7, hq => cases hq; exact k7
  | 8, hq => cases hq; exact k8
  | 9, hq => cases hq; exact k9
  | n + 10, hq => cases hq
theorem cx_start {args : Array Value} {s : State} (hts : ∀ w ∈ lw_tbl, w.before args s = true) (hgv : (Cond.and given_1 narrow_1).before args s = true) : ∃ X : Cx, cxB X = s.heap.size ∧ cxK X s ∧ cxZ X s s.heap := by
  have hg : ∀ w ∈ flG, w.before args s = true := flat_of_before _ hgv
  have hB : ∀ w ∈ BIG, w.before args s = true := fun w h => hts w (big_tbl h)
  have hA : ∀ a : Nat, a < s.heap.size → ¬ s.heap.size ≤ a := fun a h => by omega
  obtain ⟨D, hD⟩ := cl_start hB
  obtain ⟨adK, adV, hS, hE⟩ := tx_start hg
  obtain ⟨a0, b0, e0⟩ := arr_w (ty := .int) (fun C h => by cases h) (hB _ haCI)
  obtain ⟨a1, b1, e1⟩ := arr_w (ty := .long) (fun C h => by cases h) (hB _ haCJ)
  obtain ⟨a2, b2, e2⟩ := arr_w (ty := .boolean) (fun C h => by cases h) (hB _ haCZ)
  obtain ⟨a3, b3, e3⟩ := arr_o (hts _ ft_O.1)
  obtain ⟨a4, b4, e4⟩ := arr_o (hts _ ft_O.2)
  obtain ⟨a5, b5, e5⟩ := arr_w (ty := .double) (fun C h => by cases h) (hB _ haCD)
  obtain ⟨g8, v8, t8⟩ := va_Tof (args := args) (s := s) (tm := .static RX8 "GLYPHS" "[I") (ty := .int) (N := 26) (f := fun j => .int (iI (gl (j : Int)))) (A := fun q => s.heap.size ≤ q) (by decide) (hg _ fg_8.1) (va_eqt (hg _ fg_8.2.1)) (fun j hj => va_eqt (hg _ (fg_8.2.2 j hj))) hA
  obtain ⟨g9, v9, t9⟩ := va_Tof (args := args) (s := s) (tm := .static RX9 "GLYPHS" "[I") (ty := .int) (N := 26) (f := fun j => .int (iI (gl (j : Int)))) (A := fun q => s.heap.size ≤ q) (by decide) (hg _ fg_9.1) (va_eqt (hg _ fg_9.2.1)) (fun j hj => va_eqt (hg _ (fg_9.2.2 j hj))) hA
  obtain ⟨ac, hac⟩ : ∃ ac : Nat → ClassId, ac = (fun k => match k with | 0 => a0 | 1 => a1 | 2 => a2 | 3 => a3 | 4 => a4 | _ => a5) := ⟨_, rfl⟩
  obtain ⟨ad, had⟩ : ∃ ad : Nat → Nat, ad = (fun k => if k = 0 then s.heap.size else if k = 1 then g8 else if k = 2 then g9 else if k < 30 then adK (k - 10) else adV (k - 30)) := ⟨_, rfl⟩
  have q0 : ad 0 = s.heap.size := by rw [had]; rfl
  have q1 : ad 1 = g8 := by rw [had]; rfl
  have q2 : ad 2 = g9 := by rw [had]; rfl
  have qK : ∀ i, i < 14 → ad (10 + i) = adK i := fun i hi => by
    rw [had]
    show (if 10 + i = 0 then s.heap.size else if 10 + i = 1 then g8 else if 10 + i = 2 then g9 else if 10 + i < 30 then adK (10 + i - 10) else adV (10 + i - 30)) = adK i
    rw [if_neg (by omega), if_neg (by omega), if_neg (by omega), if_pos (by omega), Nat.add_sub_cancel_left]
  have qV : ∀ i, i < 14 → ad (30 + i) = adV i := fun i hi => by
    rw [had]
    show (if 30 + i = 0 then s.heap.size else if 30 + i = 1 then g8 else if 30 + i = 2 then g9 else if 30 + i < 30 then adK (30 + i - 10) else adV (30 + i - 30)) = adV i
    rw [if_neg (by omega), if_neg (by omega), if_neg (by omega), if_neg (by omega), Nat.add_sub_cancel_left]
  have hAe : (fun q : Nat => s.heap.size ≤ q) = cxA (D, ac, ad) := by
    show _ = fun q : Nat => ad 0 ≤ q
    rw [q0]
  rw [hAe] at hS t8 t9
  have hA : ∀ a : Nat, a < s.heap.size → ¬ cxA (D, ac, ad) a := by rw [← hAe]; exact hA
  refine ⟨(D, ac, ad), q0, ⟨⟨hD, fun k q hq => ?_⟩, fun q hq => ?_, fun q hq => va_Nw.of rfl (hts _ (ft_N q hq)), va_Nw.of rfl (hts _ ft_F), va_AO.of (hts _ ft_O.1), va_AO.of (hts _ ft_O.2), fun q hq => ?_, fun q hq => va_Nw.of rfl (hts _ (ft_C q hq)), fun q hq => va_Nc.of (hg _ (fg_N q hq))⟩, ⟨?_, ?_⟩, ⟨?_, ?_⟩, ?_, hS.cg qK qV, ?_, ?_, ?_⟩
  · match k, hq with
    | 0, hq => cases hq; show ArrOfT s (ac 0) _ ∧ va_RA s (ac 0) _; rw [hac]; exact ⟨b0, e0⟩
    | 1, hq => cases hq; show ArrOfT s (ac 1) _ ∧ va_RA s (ac 1) _; rw [hac]; exact ⟨b1, e1⟩
    | 2, hq => cases hq; show ArrOfT s (ac 2) _ ∧ va_RA s (ac 2) _; rw [hac]; exact ⟨b2, e2⟩
    | 3, hq => cases hq; show ArrOfT s (ac 3) _ ∧ va_RA s (ac 3) _; rw [hac]; exact ⟨b3, e3⟩
    | 4, hq => cases hq; show ArrOfT s (ac 4) _ ∧ va_RA s (ac 4) _; rw [hac]; exact ⟨b4, e4⟩
    | 5, hq => cases hq; show ArrOfT s (ac 5) _ ∧ va_RA s (ac 5) _; rw [hac]; exact ⟨b5, e5⟩
    | n + 6, hq => cases hq
  · obtain ⟨j, hj, eg⟩ := List.getElem_of_mem hq
    have eg : q = cxW.getD j ("", 0, "", 0) := by rw [← eg, List.getD_eq_getElem?_getD, List.getElem?_eq_getElem hj]; rfl
    have hj : j < 28 := hj
    subst eg
    refine vk_R.of (hts _ (ft_W j hj)) ?_
    rw [ft_i j hj]
    show (tmW j).eval args s none [] s = some (.ref (ad (10 + j % 14)))
    rw [qK _ (Nat.mod_lt _ (by decide))]
    exact hE j hj
  · obtain ⟨a, c, cA, kA, p1, -⟩ := Cond.exactly_spec (args := args) (first := s) (o := none) (s := s) (idx := []) (t := .string RX8 q.1) (cls := "java/lang/String") (hg _ (fg_E q hq))
    exact ⟨a, vk_R.of (hts _ (ft_E q hq)) p1⟩
  · show va_Z RX8 "GLYPHS" "[I" (.ref (ad 1)) _ s s.heap
    rw [q1]
    exact va_Zref (hts _ ft_Z.1.1) (hts _ ft_Z.1.2) v8 hA
  · show va_T .int (ad 1) 26 _ _ s s.heap
    rw [q1]
    exact t8
  · show va_Z RX9 "GLYPHS" "[I" (.ref (ad 2)) _ s s.heap
    rw [q2]
    exact va_Zref (hts _ ft_Z.2.1) (hts _ ft_Z.2.2) v9 hA
  · show va_T .int (ad 2) 26 _ _ s s.heap
    rw [q2]
    exact t9
  · exact va_Zof (hts _ ft_Z2.1.1) (hts _ ft_Z2.1.2) (va_eqt (hg _ fg_o.1)) hA
  · exact va_Zqof (hts _ ft_Z2.2.1) (hts _ ft_Z2.2.2) (hg _ fg_o.2.1) hA
  · exact vx_Zqof (hts _ ft_Z3.1.1) (hts _ ft_Z3.1.2) (hg _ fg_o.2.2.1) hA
  · exact vx_Zqof (hts _ ft_Z3.2) (hts _ ft_Z3.1.2) (hg _ fg_o.2.2.2) hA
