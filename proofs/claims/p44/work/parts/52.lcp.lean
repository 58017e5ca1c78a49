theorem cp_copy {X : Cx} {w : Wo} {q : Nat} {σ : Int → Int} {k : Int} {f2 f : Int → Int} (h1 : w q = some (.inr (1, [.ref (q + 1), .int (iI (cp σ k 0)), .int (iI (cp σ k 1)), .int (iI (cp σ k 2)), .int (iI (cp σ k 3)), .int (iI (cp σ k 4))]))) (h2 : w (q + 1) = some (aZ X 8 (cpZ f2 f 8))) (h3 : ∀ j, 0 ≤ j → j < cp σ k 0 → f2 j = cp σ k (5 + j) + 1) (h8 : cp σ k 0 ≤ 8) : capAt X w q σ k := by
  refine ⟨_, ⟨h1, h2⟩, fun j j1 j2 => ?_⟩
  unfold cpZ
  rw [if_pos (by omega)]
  exact h3 j j1 j2
theorem drop_end {X : Cx} {w w2 w3 : Wo} {a : Nat} {σ τ : Int → Int} {ix : Int} (h : lmA X w a σ) (h8 : cap8 σ) (hd : dropR σ τ ix) (hix : 0 ≤ ix ∧ ix < σ 5) (hr : (8 ≤ σ 0 ∧ σ 0 ≤ 40) ∧ (6 ≤ σ 1 ∧ σ 1 ≤ 30)) (hcp : ∀ k, ix ≤ k → k < σ 5 - 1 → capAt X w2 (a + 9 + 2 * k.toNat) σ (k + 1)) (hf : ∀ q : Nat, (q < a + 9 + 2 * ix.toNat ∨ a + 9 + 2 * (σ 5 - 1).toNat ≤ q) → w2 q = w q) (ho : w3 a = some (.inr (5, [.ref (a + 1), .ref (a + 3), .ref (a + 5), .ref (a + 6), .ref (a + 7), .int (iI (σ 5 - 1)), .int (iI (σ 0)), .int (iI (σ 1)), .int (iI (σ 4)), .int (iI (σ 3)), .int (iI (σ 2))]))) (hn : ∀ q, q ≠ a → w3 q = w2 q) : lmA X w3 a τ := by
  obtain ⟨d1, d2, d3, d4, d5⟩ := hd
  have h80 := h8.1
  obtain ⟨gr, h2, h3⟩ := h.2.1
  obtain ⟨gp, h4⟩ := h.2.2.1
  obtain ⟨t, h5, h6⟩ := h.2.2.2.1
  have hw : ∀ q : Nat, q ≠ a → (q < a + 9 + 2 * ix.toNat ∨ a + 9 + 2 * (σ 5 - 1).toNat ≤ q) → w3 q = w q := fun q z1 z2 => (hn q z1).trans (hf q z2)
  refine ⟨?_, ⟨gr, h2.mv (hw _ (by omega) (by omega)) (hw _ (by omega) (by omega)), fun c r c1 c2 c3 c4 => ?_⟩, ⟨gp, h4.mv (hw _ (by omega) (by omega)) (hw _ (by omega) (by omega))⟩, ⟨t, (hw _ (by omega) (by omega)).trans h5, fun c c1 c2 => (h6 c c1 c2).trans (d2 _ (by omega) (by omega) (by omega)).symm⟩, (hw _ (by omega) (by omega)).trans h.2.2.2.2.1, fun i hi => ?_, fun k k0 k1 => ?_⟩
  · rw [ho, d1, d2 0 (by decide) (by decide) (by decide), d2 1 (by decide) (by decide) (by decide), d2 4 (by decide) (by decide) (by decide), d2 3 (by decide) (by decide) (by decide), d2 2 (by decide) (by decide) (by decide)]
  · rw [d2 0 (by decide) (by decide) (by decide)] at c2
    rw [d2 1 (by decide) (by decide) (by decide)] at c4
    exact (h3 c r c1 c2 c3 c4).trans (d5 c r c1 (by omega) c3 (by omega)).symm
  · by_cases g : ix + 1 ≤ (i : Int) ∧ (i : Int) < σ 5
    · obtain ⟨f, e1, -⟩ := hcp ((i : Int) - 1) (by omega) (by omega)
      rw [show a + 9 + 2 * ((i : Int) - 1).toNat = a + 7 + 2 * i by omega] at e1
      exact ⟨_, _, _, _, _, _, e1.mv (hn _ (by omega)) (hn _ (by omega))⟩
    · obtain ⟨n, sd, x, y, co, f, e⟩ := h.2.2.2.2.2.1 i hi
      exact ⟨n, sd, x, y, co, f, e.mv (hw _ (by omega) (by omega)) (hw _ (by omega) (by omega))⟩
  · by_cases g : k < ix
    · exact ((h.cap k k0 (by omega)).mv (hw _ (by omega) (by omega)) (hw _ (by omega) (by omega))).to (h8.2 k k0 (by omega)) (d3 k k0 g)
    · exact ((hcp k (by omega) (by omega)).mv (hn _ (by omega)) (hn _ (by omega))).to (h8.2 (k + 1) (by omega) (by omega)) (d4 k (by omega) (by omega))
theorem hang_end {X : Cx} {w w2 w3 : Wo} {a : Nat} {σ τ : Int → Int} {n sd x y co : Int} {f f2 : Int → Int} (h : lmA X w a σ) (h8 : cap8 σ) (hd : hangR σ τ n sd x y co f) (h58 : σ 5 < 8) (hn8 : n ≤ 8) (hr : (8 ≤ σ 0 ∧ σ 0 ≤ 40) ∧ (6 ≤ σ 1 ∧ σ 1 ≤ 30)) (hb : capV X w2 (a + 9 + 2 * (σ 5).toNat) n sd x y co (cpZ f f2 8)) (hf : ∀ q : Nat, q ≠ a + 9 + 2 * (σ 5).toNat → q ≠ a + 9 + 2 * (σ 5).toNat + 1 → w2 q = w q) (ho : w3 a = some (.inr (5, [.ref (a + 1), .ref (a + 3), .ref (a + 5), .ref (a + 6), .ref (a + 7), .int (iI (σ 5 + 1)), .int (iI (σ 0)), .int (iI (σ 1)), .int (iI (σ 4)), .int (iI (σ 3)), .int (iI (σ 2))]))) (hn : ∀ q, q ≠ a → w3 q = w2 q) : lmA X w3 a τ := by
  obtain ⟨d1, d2, d3, ⟨b0, b1, b2, b3, b4⟩, d4, d5⟩ := hd
  have h80 := h8.1
  obtain ⟨gr, h2, h3⟩ := h.2.1
  obtain ⟨gp, h4⟩ := h.2.2.1
  obtain ⟨t, h5, h6⟩ := h.2.2.2.1
  have hw : ∀ q : Nat, q ≠ a → q ≠ a + 9 + 2 * (σ 5).toNat → q ≠ a + 9 + 2 * (σ 5).toNat + 1 → w3 q = w q := fun q z1 z2 z3 => (hn q z1).trans (hf q z2 z3)
  have hb3 := hb.mv (hn (a + 9 + 2 * (σ 5).toNat) (by omega)) (hn _ (by omega))
  refine ⟨?_, ⟨gr, h2.mv (hw _ (by omega) (by omega) (by omega)) (hw _ (by omega) (by omega) (by omega)), fun c r c1 c2 c3 c4 => ?_⟩, ⟨gp, h4.mv (hw _ (by omega) (by omega) (by omega)) (hw _ (by omega) (by omega) (by omega))⟩, ⟨t, (hw _ (by omega) (by omega) (by omega)).trans h5, fun c c1 c2 => (h6 c c1 c2).trans (d2 _ (by omega) (by omega) (by omega)).symm⟩, (hw _ (by omega) (by omega) (by omega)).trans h.2.2.2.2.1, fun i hi => ?_, fun k k0 k1 => ?_⟩
  · rw [ho, d1, d2 0 (by decide) (by decide) (by decide), d2 1 (by decide) (by decide) (by decide), d2 4 (by decide) (by decide) (by decide), d2 3 (by decide) (by decide) (by decide), d2 2 (by decide) (by decide) (by decide)]
  · rw [d2 0 (by decide) (by decide) (by decide)] at c2
    rw [d2 1 (by decide) (by decide) (by decide)] at c4
    exact (h3 c r c1 c2 c3 c4).trans (d5 c r c1 (by omega) c3 (by omega)).symm
  · by_cases g : (i : Int) = σ 5 + 1
    · rw [show a + 9 + 2 * (σ 5).toNat = a + 7 + 2 * i by omega] at hb3
      exact ⟨_, _, _, _, _, _, hb3⟩
    · obtain ⟨n, sd, x, y, co, f, e⟩ := h.2.2.2.2.2.1 i hi
      exact ⟨n, sd, x, y, co, f, e.mv (hw _ (by omega) (by omega) (by omega)) (hw _ (by omega) (by omega) (by omega))⟩
  · by_cases g : k < σ 5
    · exact ((h.cap k k0 g).mv (hw _ (by omega) (by omega) (by omega)) (hw _ (by omega) (by omega) (by omega))).to (h8.2 k k0 g) (d3 k k0 g)
    · have e : k = σ 5 := by omega
      subst e
      refine ⟨cpZ f f2 8, ?_, fun j j1 j2 => ?_⟩
      · rw [b0, b1, b2, b3, b4]; exact hb3
      · unfold cpZ
        rw [if_pos (by omega)]
        exact d4 j j1 (by omega)
theorem copy_end {X : Cx} {w w9 w3 : Wo} {a : Nat} {σ τ : Int → Int} (hA : lmA X w a σ) (h5 : 0 ≤ τ 5 ∧ τ 5 ≤ 8) (hc : ∀ k, 0 ≤ k → k < τ 5 → capAt X w9 (a + 9 + 2 * k.toNat) τ k) (hf : ∀ q : Nat, a + 6 ≤ q → q < a + 25 → (q < a + 9 ∨ a + 9 + 2 * (τ 5).toNat ≤ q) → w9 q = w q) (hp : ∀ q : Nat, a + 6 ≤ q → q < a + 25 → w3 q = w9 q) : (∀ i : Nat, i < 9 → ∃ n sd x y co f, capV X w3 (a + 7 + 2 * i) n sd x y co f) ∧ (∀ k, 0 ≤ k → k < τ 5 → capAt X w3 (a + 9 + 2 * k.toNat) τ k) := by
  constructor
  · intro i hi
    by_cases g : 1 ≤ i ∧ (i : Int) ≤ τ 5
    · obtain ⟨f, e, -⟩ := hc ((i : Int) - 1) (by omega) (by omega)
      rw [show a + 9 + 2 * ((i : Int) - 1).toNat = a + 7 + 2 * i by omega] at e
      exact ⟨_, _, _, _, _, _, e.mv (hp _ (by omega) (by omega)) (hp _ (by omega) (by omega))⟩
    · obtain ⟨n, sd, x, y, co, f, e⟩ := hA.2.2.2.2.2.1 i hi
      exact ⟨_, _, _, _, _, _, e.mv ((hp _ (by omega) (by omega)).trans (hf _ (by omega) (by omega) (by omega))) ((hp _ (by omega) (by omega)).trans (hf _ (by omega) (by omega) (by omega)))⟩
  · intro k k0 k1
    exact (hc k k0 k1).mv (hp _ (by omega) (by omega)) (hp _ (by omega) (by omega))
set_option maxHeartbeats 4000000 in
set_option maxRecDepth 100000 in
theorem c_X5_hang (l : Launch) (X : Cx) (w : Wo) (a : Nat) (σ τ : Int → Int) (z : Nat) (n sd x y co : Int) (f : Int → Int) (hA : lmA X w a σ) (h8 : cap8 σ) (hsz : (8 ≤ σ 0 ∧ σ 0 ≤ 40) ∧ (6 ≤ σ 1 ∧ σ 1 ≤ 30)) (hv : capV X w z n sd x y co f) (hz : z + 1 < a ∨ a + 25 ≤ z) (h58 : σ 5 < 8) (hnn : n ≤ 8) (hd : hangR σ τ n sd x y co f) : CM l X yX5_hang cX5_hang 2 none (rmk 2 65) [.ref a, .ref z] w none (fun w' => lmA X w' a τ ∧ ∀ q : Nat, q ≠ a → (q < a + 9 ∨ a + 25 ≤ q) → w' q = w q) := by
  refine CM.of (lv := [(0, .ref a), (1, .ref z)]) (by decide) (Nat.le_of_ble_eq_true rfl) rfl (fun p e s m below meth c ls F hr hlk hin hW hS hl => ?_)
  have hZ0 := hW.2.2
  have hB9 := hW.1.2
  clear hin
  have hO := hA.o
  have hg1 := hA.g1
  have hg3 := hA.g3
  obtain ⟨gr, hgr, hge⟩ := hA.2.1
  obtain ⟨gp, hgp⟩ := hA.2.2.1
  obtain ⟨t, ht, hte⟩ := hA.2.2.2.1
  have h80 := h8.1
  have hcA := hA.2.2.2.2.1
  obtain ⟨n9, sd9, x9, y9, co9, f9, hv9⟩ := hA.2.2.2.2.2.1 ((σ 5).toNat + 1) (by omega)
  rw [show a + 7 + 2 * ((σ 5).toNat + 1) = a + 9 + 2 * (σ 5).toNat by omega] at hv9
  have hv90 := hv9.1
  have hv1 := hv.1
  refine lv_aload_n F.1 F.2.1 dX5_hang_0 rfl (lv_at hl 0 rfl) ?_
  refine lv_aload_n F.1 F.2.1 dX5_hang_1 rfl (lv_at hl 0 rfl) ?_
  refine gf_RX5_56 F hW hO rfl dX5_hang_2 ?_
  refine cl_RX5_78 (As := [.int (iI (σ 5))]) (rest := []) F hl (c_capAt0 l X w a (σ 5) (σ 0) (σ 1) (σ 4) (σ 3) (σ 2) (σ 5) hO hcA (by omega)) hW hS hO rfl rfl ⟨Nat.le_of_ble_eq_true rfl, Nat.le_of_ble_eq_true rfl⟩ (Nat.le_of_ble_eq_true rfl) ⟨Nat.zero_le _, Nat.zero_le _⟩ dX5_hang_5 (fun w1 H locs hp1 hW hS => ?_)
  rw [hp1] at hW; clear hp1; clear w1
  refine lv_aload_n F.1 F.2.1 dX5_hang_8 rfl (lv_at hl 1 rfl) ?_
  refine cl_RX5_82 (As := [.ref z]) (rest := []) F hl (c_X1_copyFrom l X w (a + 9 + 2 * (σ 5).toNat) n9 sd9 x9 y9 co9 f9 z n sd x y co f hv9 hv (by omega)) hW hS hv90 rfl rfl ⟨Nat.le_of_ble_eq_true rfl, Nat.le_of_ble_eq_true rfl⟩ (Nat.le_of_ble_eq_true rfl) ⟨Nat.zero_le _, Nat.zero_le _⟩ dX5_hang_9 (fun w2 H locs hp3 hW hS => ?_)
  obtain ⟨ho4, ha5, hn6⟩ := hp3
  have hO := (hn6 _ (by omega) (by omega)).trans hO
  have hv1 := (hn6 _ (by omega) (by omega)).trans hv1
  have hcA := (hn6 _ (by omega) (by omega)).trans hcA
  have hb1 := ho4
  have hb2 := ha5
  have hb3 := hn6
  refine lv_aload_n F.1 F.2.1 dX5_hang_12 rfl (lv_at hl 0 rfl) ?_
  refine lv_dup F.1 F.2.1 dX5_hang_13 rfl ?_
  refine gf_RX5_56 F hW hO rfl dX5_hang_14 ?_
  refine h_iconst F dX5_hang_17 ?_
  refine h_iadd (a := σ 5) (b := 1) F dX5_hang_18 ?_
  refine pf_RX5_56 F hW hS hO (Nat.le_of_ble_eq_true rfl) dX5_hang_19 (fun w7 H locs ho9 hn8 hW hS => ?_)
  have ho9 : w7 a = some (.inr (5, [.ref (a + 1), .ref (a + 3), .ref (a + 5), .ref (a + 6), .ref (a + 7), .int (iI ((σ 5) + 1)), .int (iI (σ 0)), .int (iI (σ 1)), .int (iI (σ 4)), .int (iI (σ 3)), .int (iI (σ 2))])) := ho9
  have ho4 := (hn8 _ (by omega)).trans ho4
  have hv1 := (hn8 _ (by omega)).trans hv1
  have hcA := (hn8 _ (by omega)).trans hcA
  have ha5 := (hn8 _ (by omega)).trans ha5
  exact h_vret F hr hlk hW hS ⟨hang_end hA h8 hd h58 hnn hsz ⟨hb1, hb2⟩ hb3 ho9 hn8, (fun q h09 h19 => by rw [hn8 q (by omega), hn6 q (by omega) (by omega)])⟩ dX5_hang_22
set_option maxHeartbeats 4000000 in
set_option maxRecDepth 100000 in
theorem c_X5_takeAway (l : Launch) (X : Cx) (w : Wo) (a : Nat) (σ τ : Int → Int) (ix : Int) (hA : lmA X w a σ) (h8 : cap8 σ) (hsz : (8 ≤ σ 0 ∧ σ 0 ≤ 40) ∧ (6 ≤ σ 1 ∧ σ 1 ≤ 30)) (hix : 0 ≤ ix ∧ ix < σ 5) (hd : dropR σ τ ix) : CM l X yX5_takeAway cX5_takeAway 3 none (rmk 2 65) [.ref a, .int (iI ix)] w none (fun w' => lmA X w' a τ ∧ ∀ q : Nat, q ≠ a → (q < a + 9 ∨ a + 25 ≤ q) → w' q = w q) := by
  refine CM.of (lv := [(0, .ref a), (1, .int (iI ix))]) (by decide) (Nat.le_of_ble_eq_true rfl) rfl (fun p e s m below meth c ls F hr hlk hin hW hS hl => ?_)
  have hZ0 := hW.2.2
  have hB9 := hW.1.2
  clear hin
  have hO := hA.o
  have hg1 := hA.g1
  have hg3 := hA.g3
  obtain ⟨gr, hgr, hge⟩ := hA.2.1
  obtain ⟨gp, hgp⟩ := hA.2.2.1
  obtain ⟨t, ht, hte⟩ := hA.2.2.2.1
  have h80 := h8.1
  have hcA := hA.2.2.2.2.1
  refine lv_iload_n F.1 F.2.1 dX5_takeAway_0 rfl (lv_at hl 1 rfl) ?_
  refine lv_istore_n (lv' := [(2, .int (iI ix)), (0, .ref a), (1, .int (iI ix))]) F.1 F.2.1 dX5_takeAway_1 rfl hl (by decide) rfl (fun ls hl => ?_)
  have loop2 : ∀ (n9 : Nat) (i : Int), (hrg : ix ≤ i ∧ i ≤ σ 5 - 1) → (hms : σ 5 - 1 - i < (n9 : Int)) → (w9 : Wo) → (hF2 : ∀ q : Nat, (q < a + 9 + 2 * ix.toNat ∨ a + 9 + 2 * i.toNat ≤ q) → w9 q = w q) → (hcp : ∀ k, ix ≤ k → k < i → capAt X w9 (a + 9 + 2 * k.toNat) σ (k + 1)) → (H : Heap) → (locs : List Loc) → (ls : Array Slot) → Wd X w9 s H → va_S (cxA X) s.heap H locs → lv_has ls 3 [(2, .int (iI i)), (0, .ref a), (1, .int (iI ix))] → W p l e (rmk 2 65) s m (List.toArray [.ref a, .int (iI ix)]) below meth c H locs 0 0 (MX X below (List.toArray [.ref a, .int (iI ix)]) s 0 0 none (fun w' => lmA X w' a τ ∧ ∀ q : Nat, q ≠ a → (q < a + 9 ∨ a + 25 ≤ q) → w' q = w q)) (F0 m 2 ls []) := by
    intro n9
    induction n9 with
    | zero => intro i  hrg hms; exfalso; omega
    | succ n9 ih2 =>
      intro i  hrg hms w9 hF2 hcp H locs ls hW hS hl
      have hO := (hF2 _ (by omega)).trans hO
      have hcA := (hF2 _ (by omega)).trans hcA
      refine lv_iload_n F.1 F.2.1 dX5_takeAway_2 rfl (lv_at hl 0 rfl) ?_
      refine lv_aload_n F.1 F.2.1 dX5_takeAway_3 rfl (lv_at hl 1 rfl) ?_
      refine gf_RX5_56 F hW hO rfl dX5_takeAway_4 ?_
      refine h_iconst F dX5_takeAway_7 ?_
      refine h_isub (a := σ 5) (b := 1) F dX5_takeAway_8 ?_
      refine h_icge (tgt := 33) F dX5_takeAway_9 (by decide) (by omega) (fun c1 => ?_) (fun c1 => ?_)
      · refine lv_aload_n F.1 F.2.1 dX5_takeAway_33 rfl (lv_at hl 1 rfl) ?_
        refine lv_dup F.1 F.2.1 dX5_takeAway_34 rfl ?_
        refine gf_RX5_56 F hW hO rfl dX5_takeAway_35 ?_
        refine h_iconst F dX5_takeAway_38 ?_
        refine h_isub (a := σ 5) (b := 1) F dX5_takeAway_39 ?_
        refine pf_RX5_56 F hW hS hO (Nat.le_of_ble_eq_true rfl) dX5_takeAway_40 (fun w2 H locs ho4 hn3 hW hS => ?_)
        have ho4 : w2 a = some (.inr (5, [.ref (a + 1), .ref (a + 3), .ref (a + 5), .ref (a + 6), .ref (a + 7), .int (iI ((σ 5) - 1)), .int (iI (σ 0)), .int (iI (σ 1)), .int (iI (σ 4)), .int (iI (σ 3)), .int (iI (σ 2))])) := ho4
        have hcA := (hn3 _ (by omega)).trans hcA
        exact h_vret F hr hlk hW hS ⟨drop_end hA h8 hd hix hsz (fun k h1 h2 => hcp k h1 (by omega)) (fun q h1 => hF2 q (by omega)) ho4 hn3, (fun q h09 h19 => by rw [hn3 q (by omega), hF2 q (by omega)])⟩ dX5_takeAway_43
      · refine lv_aload_n F.1 F.2.1 dX5_takeAway_12 rfl (lv_at hl 1 rfl) ?_
        refine lv_iload_n F.1 F.2.1 dX5_takeAway_13 rfl (lv_at hl 0 rfl) ?_
        refine cl_RX5_78 (As := [.int (iI i)]) (rest := []) F hl (c_capAt0 l X w9 a (σ 5) (σ 0) (σ 1) (σ 4) (σ 3) (σ 2) i hO hcA (by omega)) hW hS hO rfl rfl ⟨Nat.le_of_ble_eq_true rfl, Nat.le_of_ble_eq_true rfl⟩ (Nat.le_of_ble_eq_true rfl) ⟨Nat.zero_le _, Nat.zero_le _⟩ dX5_takeAway_14 (fun w1 H locs hp5 hW hS => ?_)
        rw [hp5] at hW; clear hp5; clear w1
        obtain ⟨fd, hvd, -⟩ := (hA.cap i (by omega) (by omega)).mv (hF2 _ (by omega)) (hF2 _ (by omega))
        have hvd0 := hvd.1
        refine lv_aload_n F.1 F.2.1 dX5_takeAway_17 rfl (lv_at hl 1 rfl) ?_
        refine lv_iload_n F.1 F.2.1 dX5_takeAway_18 rfl (lv_at hl 0 rfl) ?_
        refine h_iconst F dX5_takeAway_19 ?_
        refine h_iadd (a := i) (b := 1) F dX5_takeAway_20 ?_
        refine cl_RX5_78 (As := [.int (iI (i + 1))]) (rest := [.ref (a + 9 + 2 * i.toNat)]) F hl (c_capAt0 l X w9 a (σ 5) (σ 0) (σ 1) (σ 4) (σ 3) (σ 2) (i + 1) hO hcA (by omega)) hW hS hO rfl rfl ⟨Nat.le_of_ble_eq_true rfl, Nat.le_of_ble_eq_true rfl⟩ (Nat.le_of_ble_eq_true rfl) ⟨Nat.zero_le _, Nat.zero_le _⟩ dX5_takeAway_21 (fun w1 H locs hp6 hW hS => ?_)
        rw [hp6] at hW; clear hp6; clear w1
        obtain ⟨fs, hvs, hfs⟩ := (hA.cap (i + 1) (by omega) (by omega)).mv (hF2 _ (by omega)) (hF2 _ (by omega))
        have hvs0 := hvs.1
        refine cl_RX5_82 (As := [.ref (a + 9 + 2 * (i + 1).toNat)]) (rest := []) F hl (c_X1_copyFrom l X w9 (a + 9 + 2 * i.toNat) (cp σ i 0) (cp σ i 1) (cp σ i 2) (cp σ i 3) (cp σ i 4) fd (a + 9 + 2 * (i + 1).toNat) (cp σ (i + 1) 0) (cp σ (i + 1) 1) (cp σ (i + 1) 2) (cp σ (i + 1) 3) (cp σ (i + 1) 4) fs hvd hvs (by omega)) hW hS hvd0 rfl rfl ⟨Nat.le_of_ble_eq_true rfl, Nat.le_of_ble_eq_true rfl⟩ (Nat.le_of_ble_eq_true rfl) ⟨Nat.zero_le _, Nat.zero_le _⟩ dX5_takeAway_24 (fun w7 H locs hp8 hW hS => ?_)
        obtain ⟨ho9, ha10, hn11⟩ := hp8
        have hO := (hn11 _ (by omega) (by omega)).trans hO
        have hcA := (hn11 _ (by omega) (by omega)).trans hcA
        have hb1 := ho9
        have hb2 := ha10
        have hb3 := hn11
        refine h_iinc (k := 0) (a := i) (lv' := [(2, .int (iI (i + 1))), (0, .ref a), (1, .int (iI ix))]) F dX5_takeAway_27 hl rfl (by decide) rfl (fun ls hl => ?_)
        refine h_goto (tgt := 2) F dX5_takeAway_30 (by decide) ?_
        have hcp2 : ∀ k, ix ≤ k → k < i + 1 → capAt X w7 (a + 9 + 2 * k.toNat) σ (k + 1) := fun k h1 h2 => (by by_cases g : k = i; (rw [g]; exact cp_copy hb1 hb2 hfs (h8.2 (i + 1) (by omega) (by omega))); exact (hcp k h1 (by omega)).mv (hb3 _ (by omega) (by omega)) (hb3 _ (by omega) (by omega)))
        have eq12 : ((i + 1) : Int) = i + 1 := by first | rfl | omega | simp
        exact ih2 (i + 1)  (by omega) (by omega) w7 (fun q h09 => by rw [hn11 q (by omega) (by omega), hF2 q (by omega)]) hcp2 _ _ ls hW hS (by rw [eq12]; exact lv_sub hl [0, 1, 2] rfl)
  exact loop2 ((σ 5 - 1 - ix) + 1 : Int).toNat ix  (by omega) (by omega) w (fun q _ => rfl) (fun k h1 h2 => by omega) _ _ ls hW hS (lv_sub hl [0, 1, 2] rfl)
set_option maxHeartbeats 4000000 in
set_option maxRecDepth 100000 in
theorem c_X5_copyFrom (l : Launch) (X : Cx) (w : Wo) (a : Nat) (σ τ : Int → Int) (b : Nat) (hA : lmA X w a σ) (hB : loomAt X w b τ) (hne : a + 25 ≤ b ∨ b + 25 ≤ a) : CM l X yX5_copyFrom cX5_copyFrom 3 none (rmk 2 65) [.ref a, .ref b] w none (fun w' => loomAt X w' a τ ∧ ∀ q : Nat, (q < a ∨ a + 25 ≤ q) → w' q = w q) := by
  refine CM.of (lv := [(0, .ref a), (1, .ref b)]) (by decide) (Nat.le_of_ble_eq_true rfl) rfl (fun p e s m below meth c ls F hr hlk hin hW hS hl => ?_)
  have hZ0 := hW.2.2
  have hB9 := hW.1.2
  clear hin
  have hO := hA.o
  have hg1 := hA.g1
  have hg3 := hA.g3
  obtain ⟨gr, hgr, hge⟩ := hA.2.1
  obtain ⟨gp, hgp⟩ := hA.2.2.1
  obtain ⟨t, ht, hte⟩ := hA.2.2.2.1
  have hbo := hB.1.o
  obtain ⟨grb, hgrb, hgeb⟩ := hB.1.2.1
  obtain ⟨gpb, hgpb, hgpe⟩ := hB.2.1
  obtain ⟨tb, htb, hteb⟩ := hB.1.2.2.2.1
  have hcA := hA.2.2.2.2.1
  have hcB := hB.1.2.2.2.2.1
  have hw8 := hB.2.2.cap8
  have hgb1 := hB.1.g1
  have hgb3 := hB.1.g3
  have h80 := hw8.1
  refine lv_aload_n F.1 F.2.1 dX5_copyFrom_0 rfl (lv_at hl 0 rfl) ?_
  refine lv_aload_n F.1 F.2.1 dX5_copyFrom_1 rfl (lv_at hl 1 rfl) ?_
  refine gf_RX5_40 F hW hbo rfl dX5_copyFrom_2 ?_
  refine pf_RX5_40 F hW hS hO (Nat.le_of_ble_eq_true rfl) dX5_copyFrom_5 (fun w1 H locs ho3 hn2 hW hS => ?_)
  have ho3 : w1 a = some (.inr (5, [.ref (a + 1), .ref (a + 3), .ref (a + 5), .ref (a + 6), .ref (a + 7), .int (iI (σ 5)), .int (iI (τ 0)), .int (iI (σ 1)), .int (iI (σ 4)), .int (iI (σ 3)), .int (iI (σ 2))])) := ho3
  have hg1 := (hn2 _ (by omega)).trans hg1
  have hg3 := (hn2 _ (by omega)).trans hg3
  have hbo := (hn2 _ (by omega)).trans hbo
  have hgb1 := (hn2 _ (by omega)).trans hgb1
  have hgb3 := (hn2 _ (by omega)).trans hgb3
  have ht := (hn2 _ (by omega)).trans ht
  have htb := (hn2 _ (by omega)).trans htb
  have hcA := (hn2 _ (by omega)).trans hcA
  have hcB := (hn2 _ (by omega)).trans hcB
  refine lv_aload_n F.1 F.2.1 dX5_copyFrom_8 rfl (lv_at hl 0 rfl) ?_
  refine lv_aload_n F.1 F.2.1 dX5_copyFrom_9 rfl (lv_at hl 1 rfl) ?_
  refine gf_RX5_44 F hW hbo rfl dX5_copyFrom_10 ?_
  refine pf_RX5_44 F hW hS ho3 (Nat.le_of_ble_eq_true rfl) dX5_copyFrom_13 (fun w4 H locs ho6 hn5 hW hS => ?_)
  have ho6 : w4 a = some (.inr (5, [.ref (a + 1), .ref (a + 3), .ref (a + 5), .ref (a + 6), .ref (a + 7), .int (iI (σ 5)), .int (iI (τ 0)), .int (iI (τ 1)), .int (iI (σ 4)), .int (iI (σ 3)), .int (iI (σ 2))])) := ho6
  have hg1 := (hn5 _ (by omega)).trans hg1
  have hg3 := (hn5 _ (by omega)).trans hg3
  have hbo := (hn5 _ (by omega)).trans hbo
  have hgb1 := (hn5 _ (by omega)).trans hgb1
  have hgb3 := (hn5 _ (by omega)).trans hgb3
  have ht := (hn5 _ (by omega)).trans ht
  have htb := (hn5 _ (by omega)).trans htb
  have hcA := (hn5 _ (by omega)).trans hcA
  have hcB := (hn5 _ (by omega)).trans hcB
  refine lv_aload_n F.1 F.2.1 dX5_copyFrom_16 rfl (lv_at hl 0 rfl) ?_
  refine lv_aload_n F.1 F.2.1 dX5_copyFrom_17 rfl (lv_at hl 1 rfl) ?_
  refine gf_RX5_47 F hW hbo rfl dX5_copyFrom_18 ?_
  refine pf_RX5_47 F hW hS ho6 (Nat.le_of_ble_eq_true rfl) dX5_copyFrom_21 (fun w7 H locs ho9 hn8 hW hS => ?_)
  have ho9 : w7 a = some (.inr (5, [.ref (a + 1), .ref (a + 3), .ref (a + 5), .ref (a + 6), .ref (a + 7), .int (iI (σ 5)), .int (iI (τ 0)), .int (iI (τ 1)), .int (iI (τ 4)), .int (iI (σ 3)), .int (iI (σ 2))])) := ho9
  have hg1 := (hn8 _ (by omega)).trans hg1
  have hg3 := (hn8 _ (by omega)).trans hg3
  have hbo := (hn8 _ (by omega)).trans hbo
  have hgb1 := (hn8 _ (by omega)).trans hgb1
  have hgb3 := (hn8 _ (by omega)).trans hgb3
  have ht := (hn8 _ (by omega)).trans ht
  have htb := (hn8 _ (by omega)).trans htb
  have hcA := (hn8 _ (by omega)).trans hcA
  have hcB := (hn8 _ (by omega)).trans hcB
  refine lv_aload_n F.1 F.2.1 dX5_copyFrom_24 rfl (lv_at hl 0 rfl) ?_
  refine lv_aload_n F.1 F.2.1 dX5_copyFrom_25 rfl (lv_at hl 1 rfl) ?_
  refine gf_RX5_50 F hW hbo rfl dX5_copyFrom_26 ?_
  refine pf_RX5_50 F hW hS ho9 (Nat.le_of_ble_eq_true rfl) dX5_copyFrom_29 (fun w10 H locs ho12 hn11 hW hS => ?_)
  have ho12 : w10 a = some (.inr (5, [.ref (a + 1), .ref (a + 3), .ref (a + 5), .ref (a + 6), .ref (a + 7), .int (iI (σ 5)), .int (iI (τ 0)), .int (iI (τ 1)), .int (iI (τ 4)), .int (iI (τ 3)), .int (iI (σ 2))])) := ho12
  have hg1 := (hn11 _ (by omega)).trans hg1
  have hg3 := (hn11 _ (by omega)).trans hg3
  have hbo := (hn11 _ (by omega)).trans hbo
  have hgb1 := (hn11 _ (by omega)).trans hgb1
  have hgb3 := (hn11 _ (by omega)).trans hgb3
  have ht := (hn11 _ (by omega)).trans ht
  have htb := (hn11 _ (by omega)).trans htb
  have hcA := (hn11 _ (by omega)).trans hcA
  have hcB := (hn11 _ (by omega)).trans hcB
  refine lv_aload_n F.1 F.2.1 dX5_copyFrom_32 rfl (lv_at hl 0 rfl) ?_
  refine lv_aload_n F.1 F.2.1 dX5_copyFrom_33 rfl (lv_at hl 1 rfl) ?_
  refine gf_RX5_53 F hW hbo rfl dX5_copyFrom_34 ?_
  refine pf_RX5_53 F hW hS ho12 (Nat.le_of_ble_eq_true rfl) dX5_copyFrom_37 (fun w13 H locs ho15 hn14 hW hS => ?_)
  have ho15 : w13 a = some (.inr (5, [.ref (a + 1), .ref (a + 3), .ref (a + 5), .ref (a + 6), .ref (a + 7), .int (iI (σ 5)), .int (iI (τ 0)), .int (iI (τ 1)), .int (iI (τ 4)), .int (iI (τ 3)), .int (iI (τ 2))])) := ho15
  have hg1 := (hn14 _ (by omega)).trans hg1
  have hg3 := (hn14 _ (by omega)).trans hg3
  have hbo := (hn14 _ (by omega)).trans hbo
  have hgb1 := (hn14 _ (by omega)).trans hgb1
  have hgb3 := (hn14 _ (by omega)).trans hgb3
  have ht := (hn14 _ (by omega)).trans ht
  have htb := (hn14 _ (by omega)).trans htb
  have hcA := (hn14 _ (by omega)).trans hcA
  have hcB := (hn14 _ (by omega)).trans hcB
  refine lv_aload_n F.1 F.2.1 dX5_copyFrom_40 rfl (lv_at hl 0 rfl) ?_
  refine lv_aload_n F.1 F.2.1 dX5_copyFrom_41 rfl (lv_at hl 1 rfl) ?_
  refine gf_RX5_56 F hW hbo rfl dX5_copyFrom_42 ?_
  refine pf_RX5_56 F hW hS ho15 (Nat.le_of_ble_eq_true rfl) dX5_copyFrom_45 (fun w16 H locs ho18 hn17 hW hS => ?_)
  have ho18 : w16 a = some (.inr (5, [.ref (a + 1), .ref (a + 3), .ref (a + 5), .ref (a + 6), .ref (a + 7), .int (iI (τ 5)), .int (iI (τ 0)), .int (iI (τ 1)), .int (iI (τ 4)), .int (iI (τ 3)), .int (iI (τ 2))])) := ho18
  have hg1 := (hn17 _ (by omega)).trans hg1
  have hg3 := (hn17 _ (by omega)).trans hg3
  have hbo := (hn17 _ (by omega)).trans hbo
  have hgb1 := (hn17 _ (by omega)).trans hgb1
  have hgb3 := (hn17 _ (by omega)).trans hgb3
  have ht := (hn17 _ (by omega)).trans ht
  have htb := (hn17 _ (by omega)).trans htb
  have hcA := (hn17 _ (by omega)).trans hcA
  have hcB := (hn17 _ (by omega)).trans hcB
  refine lv_aload_n F.1 F.2.1 dX5_copyFrom_48 rfl (lv_at hl 1 rfl) ?_
  refine gf_RX5_21 F hW hbo rfl dX5_copyFrom_49 ?_
  refine h_iconst F dX5_copyFrom_52 ?_
  refine lv_aload_n F.1 F.2.1 dX5_copyFrom_53 rfl (lv_at hl 0 rfl) ?_
  refine gf_RX5_21 F hW ho18 rfl dX5_copyFrom_54 ?_
  refine h_iconst F dX5_copyFrom_57 ?_
  refine lv_aload_n F.1 F.2.1 dX5_copyFrom_58 rfl (lv_at hl 0 rfl) ?_
  refine gf_RX5_21 F hW ho18 rfl dX5_copyFrom_59 ?_
  refine h_alen (k := 0) (n := 7) F hW rfl ht dX5_copyFrom_62 ?_
  refine h_copyi (index := 72) F hl hW hZ0 hB9 hS km_RX5_72 htb ht (by omega) (Nat.le_of_ble_eq_true rfl) (Nat.le_of_ble_eq_true rfl) dX5_copyFrom_63 (fun w19 H locs ha21 hn20 hW hS => ?_)
  have ho18 := (hn20 _ (by omega)).trans ho18
  have hg1 := (hn20 _ (by omega)).trans hg1
  have hg3 := (hn20 _ (by omega)).trans hg3
  have hbo := (hn20 _ (by omega)).trans hbo
  have hgb1 := (hn20 _ (by omega)).trans hgb1
  have hgb3 := (hn20 _ (by omega)).trans hgb3
  have htb := (hn20 _ (by omega)).trans htb
  have hcA := (hn20 _ (by omega)).trans hcA
  have hcB := (hn20 _ (by omega)).trans hcB
  have haf : ∀ q : Nat, a + 6 ≤ q → q < a + 25 → w19 q = w q := fun q h1 h2 => (by rw [hn20 q (by omega), hn17 q (by omega), hn14 q (by omega), hn11 q (by omega), hn8 q (by omega), hn5 q (by omega), hn2 q (by omega)])
  have hbf : ∀ q : Nat, b ≤ q → q < b + 25 → w19 q = w q := fun q h1 h2 => (by rw [hn20 q (by omega), hn17 q (by omega), hn14 q (by omega), hn11 q (by omega), hn8 q (by omega), hn5 q (by omega), hn2 q (by omega)])
  refine h_iconst F dX5_copyFrom_66 ?_
  refine lv_istore_n (lv' := [(2, .int (iI 0)), (0, .ref a), (1, .ref b)]) F.1 F.2.1 dX5_copyFrom_67 rfl hl (by decide) rfl (fun ls hl => ?_)
  have loop68 : ∀ (n9 : Nat) (i : Int), (hrg : 0 ≤ i ∧ i ≤ τ 5) → (hms : τ 5 - i < (n9 : Int)) → (w9 : Wo) → (hF68 : ∀ q : Nat, (q < a + 9 ∨ a + 9 + 2 * i.toNat ≤ q) → w9 q = w19 q) → (hcp : ∀ k, 0 ≤ k → k < i → capAt X w9 (a + 9 + 2 * k.toNat) τ k) → (H : Heap) → (locs : List Loc) → (ls : Array Slot) → Wd X w9 s H → va_S (cxA X) s.heap H locs → lv_has ls 3 [(2, .int (iI i)), (0, .ref a), (1, .ref b)] → W p l e (rmk 2 65) s m (List.toArray [.ref a, .ref b]) below meth c H locs 0 0 (MX X below (List.toArray [.ref a, .ref b]) s 0 0 none (fun w' => loomAt X w' a τ ∧ ∀ q : Nat, (q < a ∨ a + 25 ≤ q) → w' q = w q)) (F0 m 68 ls []) := by
    intro n9
    induction n9 with
    | zero => intro i  hrg hms; exfalso; omega
    | succ n9 ih68 =>
      intro i  hrg hms w9 hF68 hcp H locs ls hW hS hl
      have ho18 := (hF68 _ (by omega)).trans ho18
      have hg1 := (hF68 _ (by omega)).trans hg1
      have hg3 := (hF68 _ (by omega)).trans hg3
      have hbo := (hF68 _ (by omega)).trans hbo
      have hgb1 := (hF68 _ (by omega)).trans hgb1
      have hgb3 := (hF68 _ (by omega)).trans hgb3
      have ha21 := (hF68 _ (by omega)).trans ha21
      have htb := (hF68 _ (by omega)).trans htb
      have hcA := (hF68 _ (by omega)).trans hcA
      have hcB := (hF68 _ (by omega)).trans hcB
      refine lv_iload_n F.1 F.2.1 dX5_copyFrom_68 rfl (lv_at hl 0 rfl) ?_
      refine lv_aload_n F.1 F.2.1 dX5_copyFrom_69 rfl (lv_at hl 1 rfl) ?_
      refine gf_RX5_56 F hW ho18 rfl dX5_copyFrom_70 ?_
      refine h_icge (tgt := 95) F dX5_copyFrom_73 (by decide) (by omega) (fun c22 => ?_) (fun c22 => ?_)
      · have hgr := hgr.mv (w2 := w9) (by rw [hF68 _ (by omega), hn20 _ (by omega), hn17 _ (by omega), hn14 _ (by omega), hn11 _ (by omega), hn8 _ (by omega), hn5 _ (by omega), hn2 _ (by omega)]) (by rw [hF68 _ (by omega), hn20 _ (by omega), hn17 _ (by omega), hn14 _ (by omega), hn11 _ (by omega), hn8 _ (by omega), hn5 _ (by omega), hn2 _ (by omega)])
        have hgrb := hgrb.mv (w2 := w9) (by rw [hF68 _ (by omega), hn20 _ (by omega), hn17 _ (by omega), hn14 _ (by omega), hn11 _ (by omega), hn8 _ (by omega), hn5 _ (by omega), hn2 _ (by omega)]) (by rw [hF68 _ (by omega), hn20 _ (by omega), hn17 _ (by omega), hn14 _ (by omega), hn11 _ (by omega), hn8 _ (by omega), hn5 _ (by omega), hn2 _ (by omega)])
        refine lv_aload_n F.1 F.2.1 dX5_copyFrom_95 rfl (lv_at hl 1 rfl) ?_
        refine gf_RX5_12 F hW ho18 rfl dX5_copyFrom_96 ?_
        refine lv_aload_n F.1 F.2.1 dX5_copyFrom_99 rfl (lv_at hl 2 rfl) ?_
        refine gf_RX5_12 F hW hbo rfl dX5_copyFrom_100 ?_
        refine cl_RX5_86 (As := [.ref (b + 1)]) (rest := []) F hl (c_X3_copyFrom l X w9 (a + 1) (b + 1) gr grb hgr hgrb (by omega)) hW hS hg1 rfl rfl ⟨Nat.le_of_ble_eq_true rfl, Nat.le_of_ble_eq_true rfl⟩ (Nat.le_of_ble_eq_true rfl) ⟨Nat.zero_le _, Nat.zero_le _⟩ dX5_copyFrom_103 (fun w23 H locs hp24 hW hS => ?_)
        obtain ⟨hgs, hn25⟩ := hp24
        have ho18 := (hn25 _ (by omega)).trans ho18
        have hg1 := (hn25 _ (by omega)).trans hg1
        have hg3 := (hn25 _ (by omega)).trans hg3
        have hbo := (hn25 _ (by omega)).trans hbo
        have hgb1 := (hn25 _ (by omega)).trans hgb1
        have hgb3 := (hn25 _ (by omega)).trans hgb3
        have ha21 := (hn25 _ (by omega)).trans ha21
        have htb := (hn25 _ (by omega)).trans htb
        have hcA := (hn25 _ (by omega)).trans hcA
        have hcB := (hn25 _ (by omega)).trans hcB
        have hgp := hgp.mv (w2 := w23) (by rw [hn25 _ (by omega), hF68 _ (by omega), hn20 _ (by omega), hn17 _ (by omega), hn14 _ (by omega), hn11 _ (by omega), hn8 _ (by omega), hn5 _ (by omega), hn2 _ (by omega)]) (by rw [hn25 _ (by omega), hF68 _ (by omega), hn20 _ (by omega), hn17 _ (by omega), hn14 _ (by omega), hn11 _ (by omega), hn8 _ (by omega), hn5 _ (by omega), hn2 _ (by omega)])
        have hgpb := hgpb.mv (w2 := w23) (by rw [hn25 _ (by omega), hF68 _ (by omega), hn20 _ (by omega), hn17 _ (by omega), hn14 _ (by omega), hn11 _ (by omega), hn8 _ (by omega), hn5 _ (by omega), hn2 _ (by omega)]) (by rw [hn25 _ (by omega), hF68 _ (by omega), hn20 _ (by omega), hn17 _ (by omega), hn14 _ (by omega), hn11 _ (by omega), hn8 _ (by omega), hn5 _ (by omega), hn2 _ (by omega)])
        refine lv_aload_n F.1 F.2.1 dX5_copyFrom_106 rfl (lv_at hl 1 rfl) ?_
        refine gf_RX5_18 F hW ho18 rfl dX5_copyFrom_107 ?_
        refine lv_aload_n F.1 F.2.1 dX5_copyFrom_110 rfl (lv_at hl 2 rfl) ?_
        refine gf_RX5_18 F hW hbo rfl dX5_copyFrom_111 ?_
        refine cl_RX5_86 (As := [.ref (b + 3)]) (rest := []) F hl (c_X3_copyFrom l X w23 (a + 3) (b + 3) gp gpb hgp hgpb (by omega)) hW hS hg3 rfl rfl ⟨Nat.le_of_ble_eq_true rfl, Nat.le_of_ble_eq_true rfl⟩ (Nat.le_of_ble_eq_true rfl) ⟨Nat.zero_le _, Nat.zero_le _⟩ dX5_copyFrom_114 (fun w26 H locs hp27 hW hS => ?_)
        obtain ⟨hgq, hn28⟩ := hp27
        have ho18 := (hn28 _ (by omega)).trans ho18
        have hg1 := (hn28 _ (by omega)).trans hg1
        have hg3 := (hn28 _ (by omega)).trans hg3
        have hbo := (hn28 _ (by omega)).trans hbo
        have hgb1 := (hn28 _ (by omega)).trans hgb1
        have hgb3 := (hn28 _ (by omega)).trans hgb3
        have ha21 := (hn28 _ (by omega)).trans ha21
        have htb := (hn28 _ (by omega)).trans htb
        have hcA := (hn28 _ (by omega)).trans hcA
        have hcB := (hn28 _ (by omega)).trans hcB
        have hce := copy_end (w3 := w26) hA h80 (fun k h1 h2 => hcp k h1 (by omega)) (fun q h1 h2 h3 => (hF68 q (by omega)).trans (haf q h1 h2)) (fun q h1 h2 => (hn28 q (by omega)).trans (hn25 q (by omega)))
        exact h_vret F hr hlk hW hS ⟨⟨⟨ho18, ⟨_, hgs.mv (hn28 _ (by omega)) (hn28 _ (by omega)), hgeb⟩, ⟨_, hgq⟩, ⟨_, ha21, fun c h1 h2 => (by unfold cpZ; rw [if_pos (by omega)]; exact hteb c h1 h2)⟩, hcA, hce.1, hce.2⟩, ⟨_, hgq, hgpe⟩, hB.2.2⟩, (fun q h09 => by rw [hn28 q (by omega), hn25 q (by omega), hF68 q (by omega), hn20 q (by omega), hn17 q (by omega), hn14 q (by omega), hn11 q (by omega), hn8 q (by omega), hn5 q (by omega), hn2 q (by omega)])⟩ dX5_copyFrom_117
      · refine lv_aload_n F.1 F.2.1 dX5_copyFrom_76 rfl (lv_at hl 1 rfl) ?_
        refine lv_iload_n F.1 F.2.1 dX5_copyFrom_77 rfl (lv_at hl 0 rfl) ?_
        refine cl_RX5_78 (As := [.int (iI i)]) (rest := []) F hl (c_capAt0 l X w9 a (τ 5) (τ 0) (τ 1) (τ 4) (τ 3) (τ 2) i ho18 hcA (by omega)) hW hS ho18 rfl rfl ⟨Nat.le_of_ble_eq_true rfl, Nat.le_of_ble_eq_true rfl⟩ (Nat.le_of_ble_eq_true rfl) ⟨Nat.zero_le _, Nat.zero_le _⟩ dX5_copyFrom_78 (fun w1 H locs hp29 hW hS => ?_)
        rw [hp29] at hW; clear hp29; clear w1
        obtain ⟨nd, sdd, xd, yd, cod, fd, hvd⟩ := hA.2.2.2.2.2.1 (i.toNat + 1) (by omega)
        rw [show a + 7 + 2 * (i.toNat + 1) = a + 9 + 2 * i.toNat by omega] at hvd
        have hvd := hvd.mv (w2 := w9) ((hF68 _ (by omega)).trans (haf _ (by omega) (by omega))) ((hF68 _ (by omega)).trans (haf _ (by omega) (by omega)))
        have hvd0 := hvd.1
        refine lv_aload_n F.1 F.2.1 dX5_copyFrom_81 rfl (lv_at hl 2 rfl) ?_
        refine lv_iload_n F.1 F.2.1 dX5_copyFrom_82 rfl (lv_at hl 0 rfl) ?_
        refine cl_RX5_78 (As := [.int (iI i)]) (rest := [.ref (a + 9 + 2 * i.toNat)]) F hl (c_capAt0 l X w9 b (τ 5) (τ 0) (τ 1) (τ 4) (τ 3) (τ 2) i hbo hcB (by omega)) hW hS hbo rfl rfl ⟨Nat.le_of_ble_eq_true rfl, Nat.le_of_ble_eq_true rfl⟩ (Nat.le_of_ble_eq_true rfl) ⟨Nat.zero_le _, Nat.zero_le _⟩ dX5_copyFrom_83 (fun w1 H locs hp30 hW hS => ?_)
        rw [hp30] at hW; clear hp30; clear w1
        obtain ⟨fs, hvs, hfs⟩ := (hB.1.cap i (by omega) (by omega)).mv (w2 := w9) ((hF68 _ (by omega)).trans (hbf _ (by omega) (by omega))) ((hF68 _ (by omega)).trans (hbf _ (by omega) (by omega)))
        have hvs0 := hvs.1
        refine cl_RX5_82 (As := [.ref (b + 9 + 2 * i.toNat)]) (rest := []) F hl (c_X1_copyFrom l X w9 (a + 9 + 2 * i.toNat) nd sdd xd yd cod fd (b + 9 + 2 * i.toNat) (cp τ i 0) (cp τ i 1) (cp τ i 2) (cp τ i 3) (cp τ i 4) fs hvd hvs (by omega)) hW hS hvd0 rfl rfl ⟨Nat.le_of_ble_eq_true rfl, Nat.le_of_ble_eq_true rfl⟩ (Nat.le_of_ble_eq_true rfl) ⟨Nat.zero_le _, Nat.zero_le _⟩ dX5_copyFrom_86 (fun w31 H locs hp32 hW hS => ?_)
        obtain ⟨ho33, ha34, hn35⟩ := hp32
        have ho18 := (hn35 _ (by omega) (by omega)).trans ho18
        have hg1 := (hn35 _ (by omega) (by omega)).trans hg1
        have hg3 := (hn35 _ (by omega) (by omega)).trans hg3
        have hbo := (hn35 _ (by omega) (by omega)).trans hbo
        have hgb1 := (hn35 _ (by omega) (by omega)).trans hgb1
        have hgb3 := (hn35 _ (by omega) (by omega)).trans hgb3
        have ha21 := (hn35 _ (by omega) (by omega)).trans ha21
        have htb := (hn35 _ (by omega) (by omega)).trans htb
        have hcA := (hn35 _ (by omega) (by omega)).trans hcA
        have hcB := (hn35 _ (by omega) (by omega)).trans hcB
        have hb1 := ho33
        have hb2 := ha34
        have hb3 := hn35
        refine h_iinc (k := 0) (a := i) (lv' := [(2, .int (iI (i + 1))), (0, .ref a), (1, .ref b)]) F dX5_copyFrom_89 hl rfl (by decide) rfl (fun ls hl => ?_)
        refine h_goto (tgt := 68) F dX5_copyFrom_92 (by decide) ?_
        have hcp2 : ∀ k, 0 ≤ k → k < i + 1 → capAt X w31 (a + 9 + 2 * k.toNat) τ k := fun k h1 h2 => (by by_cases g : k = i; (rw [g]; exact cp_copy hb1 hb2 hfs (hw8.2 i (by omega) (by omega))); exact (hcp k h1 (by omega)).mv (hb3 _ (by omega) (by omega)) (hb3 _ (by omega) (by omega)))
        have eq36 : ((i + 1) : Int) = i + 1 := by first | rfl | omega | simp
        exact ih68 (i + 1)  (by omega) (by omega) w31 (fun q h09 => by rw [hn35 q (by omega) (by omega), hF68 q (by omega)]) hcp2 _ _ ls hW hS (by rw [eq36]; exact lv_sub hl [0, 1, 2] rfl)
  exact loop68 ((τ 5 - 0) + 1 : Int).toNat 0  (by omega) (by omega) w19 (fun q _ => rfl) (fun k h1 h2 => by omega) _ _ ls hW hS (lv_sub hl [0, 1, 2] rfl)
