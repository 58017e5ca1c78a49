theorem pbN_t {gr : Int → Int → Int} {σ : Int → Int} {k j i : Int} (h : 0 ≤ i) (hb : gbit σ k j i.toNat = true) : pbN gr σ k j (i + 1).toNat = gup (pbN gr σ k j i.toNat) (capCol σ k (cp σ k 2 + 4 * j + (14 - i) % 3)) (cp σ k 3 + i / 3) (cp σ k 4) := by
  rw [show (i + 1).toNat = i.toNat + 1 by omega]
  show (if gbit σ k j i.toNat then gup _ (capCol σ k (cp σ k 2 + 4 * j + (14 - (i.toNat : Int)) % 3)) (cp σ k 3 + (i.toNat : Int) / 3) _ else _) = _
  rw [if_pos hb, show (i.toNat : Int) = i by omega]
theorem pbN_f {gr : Int → Int → Int} {σ : Int → Int} {k j i : Int} (h : 0 ≤ i) (hb : gbit σ k j i.toNat = false) : pbN gr σ k j (i + 1).toNat = pbN gr σ k j i.toNat := by
  rw [show (i + 1).toNat = i.toNat + 1 by omega]
  show (if gbit σ k j i.toNat then _ else _) = _
  rw [hb]; rfl
theorem plN_s {gr : Int → Int → Int} {σ : Int → Int} {k j : Int} (h : 0 ≤ j) : plN gr σ k (j + 1).toNat = pbN (plN gr σ k j.toNat) σ k j 15 := by
  rw [show (j + 1).toNat = j.toNat + 1 by omega]
  show pbN _ σ k (j.toNat : Int) 15 = _
  rw [show (j.toNat : Int) = j by omega]
theorem pcN_s {σ : Int → Int} {k : Int} (h : 0 ≤ k) : pcN σ (k + 1).toNat = plN (pcN σ k.toNat) σ k (cp σ k 0).toNat := by
  rw [show (k + 1).toNat = k.toNat + 1 by omega]
  show plN _ σ (k.toNat : Int) (cp σ (k.toNat : Int) 0).toNat = _
  rw [show (k.toNat : Int) = k by omega]
theorem lmA.pl {X : Cx} {w w2 : Wo} {a : Nat} {σ : Int → Int} (h : lmA X w a σ) (h8 : cap8 σ) (hf : ∀ q : Nat, a ≤ q → q < a + 25 → q ≠ a + 4 → w2 q = w q) (hg : ∃ gr, gridAt X w2 (a + 3) gr) : lmA X w2 a σ := by
  obtain ⟨gr, h2, h3⟩ := h.2.1
  obtain ⟨t, h5, h6⟩ := h.2.2.2.1
  exact h.up h8 ((hf a (by omega) (by omega) (by omega)).trans h.1) ⟨gr, h2.mv (hf _ (by omega) (by omega) (by omega)) (hf _ (by omega) (by omega) (by omega)), h3⟩ hg ⟨t, (hf _ (by omega) (by omega) (by omega)).trans h5, h6⟩ (fun q h0 h1 => hf q (by omega) h1 (by omega)) (fun k _ k1 => ⟨k1, fun _ _ _ => rfl⟩)
set_option maxHeartbeats 4000000 in
set_option maxRecDepth 100000 in
theorem c_X5_paintLetter (l : Launch) (X : Cx) (w : Wo) (a : Nat) (σ : Int → Int) (z : Nat) (k j : Int) (gr : Int → Int → Int) (hA : lmA X w a σ) (hwf : WF σ) (hq : capAt X w z σ k) (hok : capOK σ k) (hj : 0 ≤ j ∧ j < cp σ k 0) (hz : z ≠ a + 4 ∧ z + 1 ≠ a + 4) (hg : gridAt X w (a + 3) gr) : CM l X yX5_paintLetter cX5_paintLetter 5 none (rmk 3 63) [.ref a, .ref z, .int (iI j)] w none (fun w' => gridAt X w' (a + 3) (pbN gr σ k j 15) ∧ ∀ q : Nat, q ≠ a + 4 → w' q = w q) := by
  refine CM.of (lv := [(0, .ref a), (1, .ref z), (2, .int (iI j))]) (by decide) (Nat.le_of_ble_eq_true rfl) rfl (fun p e s m below meth c ls F hr hlk hin hW hS hl => ?_)
  have hZ0 := hW.2.2
  have hB9 := hW.1.2
  clear hin
  have hO := hA.o
  have hg3 := hA.g3
  have hF := hwf.1
  unfold WF0 at hF
  have hwf0 := hwf.1
  have hqo := hq.o
  have hok0 := hok
  obtain ⟨m1, m2, m3, m4, m5, m6⟩ := hok0
  have hglr := gl_r (cp σ k (5 + j))
  refine lv_aload_n F.1 F.2.1 dX5_paintLetter_0 rfl (lv_at hl 1 rfl) ?_
  refine lv_iload_n F.1 F.2.1 dX5_paintLetter_1 rfl (lv_at hl 2 rfl) ?_
  refine cl_RX5_114 (As := [.int (iI j)]) (rest := []) F hl (c_X1_glyphAt l X w z σ k j hq hok hwf0 (by omega)) hW hS hqo rfl rfl ⟨Nat.le_of_ble_eq_true rfl, Nat.le_of_ble_eq_true rfl⟩ (Nat.le_of_ble_eq_true rfl) ⟨Nat.zero_le _, Nat.zero_le _⟩ dX5_paintLetter_2 (fun w1 H locs hp1 hW hS => ?_)
  rw [hp1] at hW; clear hp1; clear w1
  refine lv_istore_n (lv' := [(3, .int (iI (gl (cp σ k (5 + j))))), (0, .ref a), (1, .ref z), (2, .int (iI j))]) F.1 F.2.1 dX5_paintLetter_5 rfl hl (by decide) rfl (fun ls hl => ?_)
  refine h_iconst F dX5_paintLetter_6 ?_
  refine lv_istore (lv' := [(4, .int (iI 0)), (3, .int (iI (gl (cp σ k (5 + j))))), (0, .ref a), (1, .ref z), (2, .int (iI j))]) F.1 F.2.1 dX5_paintLetter_7 hl (by decide) rfl (fun ls hl => ?_)
  have loop9 : ∀ (n9 : Nat) (i : Int), (hrg : 0 ≤ i ∧ i ≤ 15) → (hms : 15 - i < (n9 : Int)) → (w9 : Wo) → (hF9 : ∀ q : Nat, q ≠ a + 4 → w9 q = w q) → (hgp9 : gridAt X w9 (a + 3) (pbN gr σ k j i.toNat)) → (H : Heap) → (locs : List Loc) → (ls : Array Slot) → Wd X w9 s H → va_S (cxA X) s.heap H locs → lv_has ls 5 [(4, .int (iI i)), (3, .int (iI (gl (cp σ k (5 + j))))), (0, .ref a), (1, .ref z), (2, .int (iI j))] → W p l e (rmk 3 63) s m (List.toArray [.ref a, .ref z, .int (iI j)]) below meth c H locs 0 0 (MX X below (List.toArray [.ref a, .ref z, .int (iI j)]) s 0 0 none (fun w' => gridAt X w' (a + 3) (pbN gr σ k j 15) ∧ ∀ q : Nat, q ≠ a + 4 → w' q = w q)) (F0 m 9 ls []) := by
    intro n9
    induction n9 with
    | zero => intro i  hrg hms; exfalso; omega
    | succ n9 ih9 =>
      intro i  hrg hms w9 hF9 hgp9 H locs ls hW hS hl
      have hO := (hF9 _ (by omega)).trans hO
      have hg3 := (hF9 _ (by omega)).trans hg3
      have hqo := (hF9 _ (by omega)).trans hqo
      have hA := hA.pl hwf.cap8 (fun q h1 h2 h3 => hF9 q h3) ⟨_, hgp9⟩
      have hq := hq.mv (hF9 _ (by omega)) (hF9 _ (by omega))
      have hpr := pow_r (g := gl (cp σ k (5 + j))) i.toNat (by omega)
      refine lv_iload F.1 F.2.1 dX5_paintLetter_9 (lv_at hl 0 rfl) ?_
      refine h_bipush F dX5_paintLetter_11 rfl ?_
      refine h_icgt (tgt := 58) F dX5_paintLetter_13 (by decide) (by omega) (fun c2 => ?_) (fun c2 => ?_)
      · exact h_vret F hr hlk hW hS ⟨(by rw [show (15 : Nat) = i.toNat by omega]; exact hgp9), (fun q h09 => by rw [hF9 q (by omega)])⟩ dX5_paintLetter_58
      · refine lv_iload_n F.1 F.2.1 dX5_paintLetter_16 rfl (lv_at hl 1 rfl) ?_
        refine lv_iload F.1 F.2.1 dX5_paintLetter_17 (lv_at hl 0 rfl) ?_
        refine h_ishr (z := iI (gl (cp σ k (5 + j)) / 2 ^ i.toNat)) F dX5_paintLetter_19 (iI_shrv (by omega) (by omega)) ?_
        refine h_iconst F dX5_paintLetter_20 ?_
        refine h_iand (z := iI (gl (cp σ k (5 + j)) / 2 ^ i.toNat % 2)) F dX5_paintLetter_21 (iI_and1 (by omega)) ?_
        refine h_iconst F dX5_paintLetter_22 ?_
        refine h_icne (tgt := 52) F dX5_paintLetter_23 (by decide) (by omega) (fun c3 => ?_) (fun c3 => ?_)
        · have hgp8 : gridAt X w9 (a + 3) (pbN gr σ k j (i + 1).toNat) := by rw [pbN_f (by omega) (decide_eq_false c3)]; exact hgp9
          refine h_iinc (k := 0) (a := i) (lv' := [(4, .int (iI (i + 1))), (3, .int (iI (gl (cp σ k (5 + j))))), (0, .ref a), (1, .ref z), (2, .int (iI j))]) F dX5_paintLetter_52 hl rfl (by decide) rfl (fun ls hl => ?_)
          refine h_goto (tgt := 9) F dX5_paintLetter_55 (by decide) ?_
          have eq4 : ((i + 1) : Int) = i + 1 := by first | rfl | omega | simp
          exact ih9 (i + 1)  (by omega) (by omega) w9 (fun q h09 => by rw [hF9 q (by omega)]) hgp8 _ _ ls hW hS (by rw [eq4]; exact lv_sub hl [0, 1, 2, 3, 4] rfl)
        · refine lv_aload_n F.1 F.2.1 dX5_paintLetter_26 rfl (lv_at hl 2 rfl) ?_
          refine gf_RX5_18 F hW hO rfl dX5_paintLetter_27 ?_
          refine lv_aload_n F.1 F.2.1 dX5_paintLetter_30 rfl (lv_at hl 2 rfl) ?_
          refine lv_aload_n F.1 F.2.1 dX5_paintLetter_31 rfl (lv_at hl 3 rfl) ?_
          refine lv_iload_n F.1 F.2.1 dX5_paintLetter_32 rfl (lv_at hl 4 rfl) ?_
          refine lv_iload F.1 F.2.1 dX5_paintLetter_33 (lv_at hl 0 rfl) ?_
          refine cl_RX5_118 (As := [.ref z, .int (iI j), .int (iI i)]) (rest := [.ref (a + 3)]) F hl (c_X5_columnOfBit l X w9 a σ z k j i hA hwf hq hok (by omega) (by omega)) hW hS hO rfl rfl ⟨Nat.le_of_ble_eq_true rfl, Nat.le_of_ble_eq_true rfl⟩ (Nat.le_of_ble_eq_true rfl) ⟨Nat.zero_le _, Nat.zero_le _⟩ dX5_paintLetter_35 (fun w1 H locs hp5 hW hS => ?_)
          rw [hp5] at hW; clear hp5; clear w1
          refine lv_aload_n F.1 F.2.1 dX5_paintLetter_38 rfl (lv_at hl 2 rfl) ?_
          refine lv_aload_n F.1 F.2.1 dX5_paintLetter_39 rfl (lv_at hl 3 rfl) ?_
          refine lv_iload F.1 F.2.1 dX5_paintLetter_40 (lv_at hl 0 rfl) ?_
          refine cl_RX5_122 (As := [.ref z, .int (iI i)]) (rest := [.int (iI (capCol σ k (cp σ k 2 + 4 * j + (14 - i) % 3))), .ref (a + 3)]) F hl (c_X5_rowOfBit l X w9 a σ z k i hA hwf hq hok (by omega)) hW hS hO rfl rfl ⟨Nat.le_of_ble_eq_true rfl, Nat.le_of_ble_eq_true rfl⟩ (Nat.le_of_ble_eq_true rfl) ⟨Nat.zero_le _, Nat.zero_le _⟩ dX5_paintLetter_42 (fun w1 H locs hp6 hW hS => ?_)
          rw [hp6] at hW; clear hp6; clear w1
          refine lv_aload_n F.1 F.2.1 dX5_paintLetter_45 rfl (lv_at hl 3 rfl) ?_
          refine gf_RX5_126 F hW hqo rfl dX5_paintLetter_46 ?_
          have hcc := capCol_r (j := j) (o := (14 - i) % 3) hwf hok (by omega) (by omega)
          refine cl_RX5_129 (As := [.int (iI (capCol σ k (cp σ k 2 + 4 * j + (14 - i) % 3))), .int (iI (cp σ k 3 + i / 3)), .int (iI (cp σ k 4))]) (rest := []) F hl (c_X3_set l X w9 (a + 3) (pbN gr σ k j i.toNat) (capCol σ k (cp σ k 2 + 4 * j + (14 - i) % 3)) (cp σ k 3 + i / 3) (cp σ k 4) hgp9 (by omega) (by omega)) hW hS hg3 rfl rfl ⟨Nat.le_of_ble_eq_true rfl, Nat.le_of_ble_eq_true rfl⟩ (Nat.le_of_ble_eq_true rfl) ⟨Nat.zero_le _, Nat.zero_le _⟩ dX5_paintLetter_49 (fun w7 H locs hp8 hW hS => ?_)
          obtain ⟨hgs, hn9⟩ := hp8
          have hO := (hn9 _ (by omega)).trans hO
          have hg3 := (hn9 _ (by omega)).trans hg3
          have hqo := (hn9 _ (by omega)).trans hqo
          have hgp8 : gridAt X w7 (a + 3) (pbN gr σ k j (i + 1).toNat) := by rw [pbN_t (by omega) (decide_eq_true (by assumption))]; exact hgs
          refine h_iinc (k := 0) (a := i) (lv' := [(4, .int (iI (i + 1))), (3, .int (iI (gl (cp σ k (5 + j))))), (0, .ref a), (1, .ref z), (2, .int (iI j))]) F dX5_paintLetter_52 hl rfl (by decide) rfl (fun ls hl => ?_)
          refine h_goto (tgt := 9) F dX5_paintLetter_55 (by decide) ?_
          have eq10 : ((i + 1) : Int) = i + 1 := by first | rfl | omega | simp
          exact ih9 (i + 1)  (by omega) (by omega) w7 (fun q h09 => by rw [hn9 q (by omega), hF9 q (by omega)]) hgp8 _ _ ls hW hS (by rw [eq10]; exact lv_sub hl [0, 1, 2, 3, 4] rfl)
  exact loop9 ((15 - 0) + 1 : Int).toNat 0  (by omega) (by omega) w (fun q _ => rfl) hg _ _ ls hW hS (lv_sub hl [0, 1, 2, 3, 4] rfl)
set_option maxHeartbeats 4000000 in
set_option maxRecDepth 100000 in
theorem c_X5_paint (l : Launch) (X : Cx) (w : Wo) (a : Nat) (σ : Int → Int) (hA : lmA X w a σ) (hwf : WF σ) : CM l X yX5_paint cX5_paint 4 none (rmk 4 87) [.ref a] w none (fun w' => loomAt X w' a σ ∧ ∀ q : Nat, q ≠ a + 4 → w' q = w q) := by
  refine CM.of (lv := [(0, .ref a)]) (by decide) (Nat.le_of_ble_eq_true rfl) rfl (fun p e s m below meth c ls F hr hlk hin hW hS hl => ?_)
  have hZ0 := hW.2.2
  have hB9 := hW.1.2
  clear hin
  have hO := hA.o
  have hg3 := hA.g3
  have hF := hwf.1
  unfold WF0 at hF
  obtain ⟨gp, hgp⟩ := hA.2.2.1
  refine lv_aload_n F.1 F.2.1 dX5_paint_0 rfl (lv_at hl 0 rfl) ?_
  refine gf_RX5_18 F hW hO rfl dX5_paint_1 ?_
  refine cl_RX5_69 (As := []) (rest := []) F hl (c_X3_clearToGround l X w (a + 3) gp hgp) hW hS hg3 rfl rfl ⟨Nat.le_of_ble_eq_true rfl, Nat.le_of_ble_eq_true rfl⟩ (Nat.le_of_ble_eq_true rfl) ⟨Nat.zero_le _, Nat.zero_le _⟩ dX5_paint_4 (fun w1 H locs hp2 hW hS => ?_)
  obtain ⟨hgs, hn3⟩ := hp2
  have hO := (hn3 _ (by omega)).trans hO
  have hg3 := (hn3 _ (by omega)).trans hg3
  have hA := hA.pl hwf.cap8 (fun q h1 h2 h3 => hn3 q h3) ⟨_, hgs⟩
  refine h_iconst F dX5_paint_7 ?_
  refine lv_istore_n (lv' := [(1, .int (iI 0)), (0, .ref a)]) F.1 F.2.1 dX5_paint_8 rfl hl (by decide) rfl (fun ls hl => ?_)
  have loop9 : ∀ (n9 : Nat) (i : Int), (hrg : 0 ≤ i ∧ i ≤ σ 5) → (hms : σ 5 - i < (n9 : Int)) → (w9 : Wo) → (hF9 : ∀ q : Nat, q ≠ a + 4 → w9 q = w1 q) → (hg9 : gridAt X w9 (a + 3) (pcN σ i.toNat)) → (H : Heap) → (locs : List Loc) → (ls : Array Slot) → Wd X w9 s H → va_S (cxA X) s.heap H locs → lv_has ls 4 [(1, .int (iI i)), (0, .ref a)] → W p l e (rmk 4 87) s m (List.toArray [.ref a]) below meth c H locs 0 0 (MX X below (List.toArray [.ref a]) s 0 0 none (fun w' => loomAt X w' a σ ∧ ∀ q : Nat, q ≠ a + 4 → w' q = w q)) (F0 m 9 ls []) := by
    intro n9
    induction n9 with
    | zero => intro i  hrg hms; exfalso; omega
    | succ n9 ih9 =>
      intro i  hrg hms w9 hF9 hg9 H locs ls hW hS hl
      have hO := (hF9 _ (by omega)).trans hO
      have hg3 := (hF9 _ (by omega)).trans hg3
      have hA := hA.pl hwf.cap8 (fun q h1 h2 h3 => hF9 q h3) ⟨_, hg9⟩
      refine lv_iload_n F.1 F.2.1 dX5_paint_9 rfl (lv_at hl 0 rfl) ?_
      refine lv_aload_n F.1 F.2.1 dX5_paint_10 rfl (lv_at hl 1 rfl) ?_
      refine gf_RX5_56 F hW hO rfl dX5_paint_11 ?_
      refine h_icge (tgt := 51) F dX5_paint_14 (by decide) (by omega) (fun c4 => ?_) (fun c4 => ?_)
      · exact h_vret F hr hlk hW hS ⟨⟨hA, ⟨_, hg9, fun c r _ _ _ _ => (by rw [show i = σ 5 by omega]; exact pc_des hwf c r)⟩, hwf⟩, (fun q h09 => by rw [hF9 q (by omega), hn3 q (by omega)])⟩ dX5_paint_51
      · refine lv_aload_n F.1 F.2.1 dX5_paint_17 rfl (lv_at hl 1 rfl) ?_
        refine lv_iload_n F.1 F.2.1 dX5_paint_18 rfl (lv_at hl 0 rfl) ?_
        refine cl_RX5_78 (As := [.int (iI i)]) (rest := []) F hl (c_X5_captionAt l X w9 a σ i hA hwf (by omega)) hW hS hO rfl rfl ⟨Nat.le_of_ble_eq_true rfl, Nat.le_of_ble_eq_true rfl⟩ (Nat.le_of_ble_eq_true rfl) ⟨Nat.zero_le _, Nat.zero_le _⟩ dX5_paint_19 (fun w1 H locs hp5 hW hS => ?_)
        rw [hp5] at hW; clear hp5; clear w1
        have hq := hA.cap i (by omega) (by omega)
        have hqo := hq.o
        have hok := hwf.2.2.1 i (by omega) (by omega)
        have hok1 := hok.1
        refine lv_astore_n (lv' := [(2, .ref (a + 9 + 2 * i.toNat)), (1, .int (iI i)), (0, .ref a)]) F.1 F.2.1 dX5_paint_22 rfl hl (by decide) rfl (fun ls hl => ?_)
        refine h_iconst F dX5_paint_23 ?_
        refine lv_istore_n (lv' := [(3, .int (iI 0)), (2, .ref (a + 9 + 2 * i.toNat)), (1, .int (iI i)), (0, .ref a)]) F.1 F.2.1 dX5_paint_24 rfl hl (by decide) rfl (fun ls hl => ?_)
        have loop25 : ∀ (n9 : Nat) (j : Int), (hrg : 0 ≤ j ∧ j ≤ cp σ i 0) → (hms : cp σ i 0 - j < (n9 : Int)) → (wi : Wo) → (hF25 : ∀ q : Nat, q ≠ a + 4 → wi q = w9 q) → (hgj : gridAt X wi (a + 3) (plN (pcN σ i.toNat) σ i j.toNat)) → (H : Heap) → (locs : List Loc) → (ls : Array Slot) → Wd X wi s H → va_S (cxA X) s.heap H locs → lv_has ls 4 [(3, .int (iI j)), (2, .ref (a + 9 + 2 * i.toNat)), (1, .int (iI i)), (0, .ref a)] → W p l e (rmk 4 87) s m (List.toArray [.ref a]) below meth c H locs 0 0 (MX X below (List.toArray [.ref a]) s 0 0 none (fun w' => loomAt X w' a σ ∧ ∀ q : Nat, q ≠ a + 4 → w' q = w q)) (F0 m 25 ls []) := by
          intro n9
          induction n9 with
          | zero => intro j  hrg hms; exfalso; omega
          | succ n9 ih25 =>
            intro j  hrg hms wi hF25 hgj H locs ls hW hS hl
            have hO := (hF25 _ (by omega)).trans hO
            have hg3 := (hF25 _ (by omega)).trans hg3
            have hqo := (hF25 _ (by omega)).trans hqo
            have hA := hA.pl hwf.cap8 (fun q h1 h2 h3 => hF25 q h3) ⟨_, hgj⟩
            have hq := hq.mv (hF25 _ (by omega)) (hF25 _ (by omega))
            refine lv_iload_n F.1 F.2.1 dX5_paint_25 rfl (lv_at hl 0 rfl) ?_
            refine lv_aload_n F.1 F.2.1 dX5_paint_26 rfl (lv_at hl 1 rfl) ?_
            refine gf_RX5_93 F hW hqo rfl dX5_paint_27 ?_
            refine h_icge (tgt := 45) F dX5_paint_30 (by decide) (by omega) (fun c6 => ?_) (fun c6 => ?_)
            · have hg8 : gridAt X wi (a + 3) (pcN σ (i + 1).toNat) := by rw [pcN_s (by omega), show cp σ i 0 = j by omega]; exact hgj
              refine h_iinc (k := 2) (a := i) (lv' := [(1, .int (iI (i + 1))), (3, .int (iI j)), (2, .ref (a + 9 + 2 * i.toNat)), (0, .ref a)]) F dX5_paint_45 hl rfl (by decide) rfl (fun ls hl => ?_)
              refine h_goto (tgt := 9) F dX5_paint_48 (by decide) ?_
              have eq7 : ((i + 1) : Int) = i + 1 := by first | rfl | omega | simp
              exact ih9 (i + 1)  (by omega) (by omega) wi (fun q h09 => by rw [hF25 q (by omega), hF9 q (by omega)]) hg8 _ _ ls hW hS (by rw [eq7]; exact lv_sub hl [0, 3] rfl)
            · refine lv_aload_n F.1 F.2.1 dX5_paint_33 rfl (lv_at hl 3 rfl) ?_
              refine lv_aload_n F.1 F.2.1 dX5_paint_34 rfl (lv_at hl 1 rfl) ?_
              refine lv_iload_n F.1 F.2.1 dX5_paint_35 rfl (lv_at hl 0 rfl) ?_
              refine cl_RX5_110 (As := [.ref (a + 9 + 2 * i.toNat), .int (iI j)]) (rest := []) F hl (c_X5_paintLetter l X wi a σ (a + 9 + 2 * i.toNat) i j (plN (pcN σ i.toNat) σ i j.toNat) hA hwf hq hok (by omega) (by omega) hgj) hW hS hO rfl rfl ⟨Nat.le_of_ble_eq_true rfl, Nat.le_of_ble_eq_true rfl⟩ (Nat.le_of_ble_eq_true rfl) ⟨Nat.zero_le _, Nat.zero_le _⟩ dX5_paint_36 (fun w8 H locs hp9 hW hS => ?_)
              obtain ⟨hgk, hn10⟩ := hp9
              have hO := (hn10 _ (by omega)).trans hO
              have hg3 := (hn10 _ (by omega)).trans hg3
              have hqo := (hn10 _ (by omega)).trans hqo
              have hgj2 : gridAt X w8 (a + 3) (plN (pcN σ i.toNat) σ i (j + 1).toNat) := by rw [plN_s (by omega)]; exact hgk
              refine h_iinc (k := 0) (a := j) (lv' := [(3, .int (iI (j + 1))), (2, .ref (a + 9 + 2 * i.toNat)), (1, .int (iI i)), (0, .ref a)]) F dX5_paint_39 hl rfl (by decide) rfl (fun ls hl => ?_)
              refine h_goto (tgt := 25) F dX5_paint_42 (by decide) ?_
              have eq11 : ((j + 1) : Int) = j + 1 := by first | rfl | omega | simp
              exact ih25 (j + 1)  (by omega) (by omega) w8 (fun q h09 => by rw [hn10 q (by omega), hF25 q (by omega)]) hgj2 _ _ ls hW hS (by rw [eq11]; exact lv_sub hl [0, 1, 2, 3] rfl)
        exact loop25 ((cp σ i 0 - 0) + 1 : Int).toNat 0  (by omega) (by omega) w9 (fun q _ => rfl) hg9 _ _ ls hW hS (lv_sub hl [0, 1, 2, 3] rfl)
  exact loop9 ((σ 5 - 0) + 1 : Int).toNat 0  (by omega) (by omega) w1 (fun q _ => rfl) hgs _ _ ls hW hS (lv_sub hl [0, 1] rfl)
