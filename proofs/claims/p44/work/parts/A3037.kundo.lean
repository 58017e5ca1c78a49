/-! ===== undo, and a text that is fed, told of all of the class's object ===== -/
theorem k_undo (l : Launch) (X : Cx) (w : Wo) (y : Nat) (σ : Int → Int) (nx sz : Int) (pas : Int → Int → Int) (ac : Int → Int) (hK : KS X w y σ nx sz pas ac) (hs : 0 < sz) : CM l X yX8_undo cX8_undo 1 (some (.int)) (rmk 3 87) [.ref y] w (some (.int (iI (sz - 1)))) (fun w' => KS X w' y (pas (sz - 1)) ((nx - 1) % 8) (sz - 1) pas ac ∧ ∀ (q : Nat) (e : va_E), w q = some e → outY y q → w' q = some e) := by
  obtain ⟨su, tx, M, oo, rv, hC⟩ := hK
  have hC0 := hC
  obtain ⟨hY, hL, hH, hac, hB, hT, hWB, hWT, hR, hds, hsc, ⟨am, ham⟩, ⟨n0, sd0, x0, y0, co0, f0, hv⟩, hM, hsv⟩ := hC
  exact (c_X8_undo l X w y su σ nx sz pas hY hL hH hs).imp (fun w' h => by
    obtain ⟨h2, h1, hf⟩ := h
    exact ⟨⟨su, tx, M, oo, rv, hC0.act (fun q q0 q1 q2 q3 q4 q5 q6 q7 q8 => hf q (by omega) (by omega)) h1 h2 ((hf _ (by omega) (by omega)).trans hac) ((hf _ (by omega) (by omega)).trans hB) ⟨_, (hf _ (by omega) (by omega)).trans ham⟩ ⟨_, _, _, _, _, _, hv.mv (hf _ (by omega) (by omega)) (hf _ (by omega) (by omega))⟩⟩, fun q e h9 ho => (by unfold outY at ho; exact (hf q (by omega) (by omega)).trans h9)⟩)
theorem k_feeds (l : Launch) (X : Cx) (w : Wo) (y : Nat) (σ : Int → Int) (nx sz : Int) (pas : Int → Int → Int) (ac : Int → Int) (z n : Nat) (g : Int → Int) (hK : KS X w y σ nx sz pas ac) (hs : str X w z n g) (hg : ∀ j, 0 ≤ j → j < ((n : Nat) : Int) → 0 ≤ g j ∧ g j < 128) (hn9 : n ≤ 380) : CM l X yL_feeds cL_feeds 5 (some (.boolean)) (rmG 4 25 120 90) [.ref y, .ref z] w (some (.int (iI (bz true)))) (fun w' => ∃ (fb9 : Int → Int), KT X w' y σ nx sz pas ac ((n : Nat) : Int) fb9 ∧ (∀ j, 0 ≤ j → j < ((n : Nat) : Int) → fb9 j = g j) ∧ (∀ q, y ≤ q → q < y + 321 → w' q ≠ none) ∧ ∀ (q : Nat) (e : va_E), w q = some e → outY y q → w' q = some e) := by
  have hk := hK.kn
  obtain ⟨su, tx, M, oo, rv, hC⟩ := hK
  obtain ⟨hY, hL, hH, hac, hB, hT, hWB, hWT, hR, hds, hsc, ⟨am, ham⟩, ⟨n0, sd0, x0, y0, co0, f0, hv⟩, hM, hsv⟩ := hC
  refine CM.mono (c_L_feeds l X w y z n su g tx hY hB hT hs hg hn9) (fun w' h => ?_)
  obtain ⟨fb9, h1, h2, h3, hf⟩ := h
  have ge : ∀ q : Nat, y ≤ q → q < y + 321 → (q < y + 307 ∨ y + 308 < q) → w' q = w q := fun q q0 q1 q2 => eqK (hk q q0 q1) (fun e h9 => hf q e h9 (by omega) (by omega))
  refine ⟨fb9, ⟨su, M, oo, rv, ⟨by omega, by omega⟩, (ge _ (by omega) (by omega) (by omega)).trans hY, hL.mv (fun q q0 q1 => ge q (by omega) (by omega) (by omega)), hH.mv (fun q q0 q1 => ge q (by omega) (by omega) (by omega)), (ge _ (by omega) (by omega) (by omega)).trans hac, h1, h2, (ge _ (by omega) (by omega) (by omega)).trans hWB, (ge _ (by omega) (by omega) (by omega)).trans hWT, (ge _ (by omega) (by omega) (by omega)).trans hR, hds.mv (fun q q0 q1 q2 => ge q (by omega) (by omega) (by omega)), hsc.mv (fun q q0 q1 => ge q (by omega) (by omega) (by omega)), ⟨am, (ge _ (by omega) (by omega) (by omega)).trans ham⟩, ⟨_, _, _, _, _, _, hv.mv (ge _ (by omega) (by omega) (by omega)) (ge _ (by omega) (by omega) (by omega))⟩, hM, fun q q0 q1 => by rw [ge q (by omega) (by omega) (by omega)]; exact hsv q q0 q1⟩, h3, fun q q0 q1 => ?_, fun q e h9 ho => by unfold outY at ho; exact hf q e h9 (by omega) (by omega)⟩
  by_cases e7 : q = y + 307
  · rw [e7]; exact kn_e h1
  by_cases e8 : q = y + 308
  · rw [e8]; exact kn_e h2
  rw [ge q q0 q1 (by omega)]
  exact hk q q0 q1
theorem keep_2 {σ σ1 : Int → Int} {sz : Int} {pas : Int → Int → Int} (h : 0 ≤ sz ∧ sz ≤ 8) : keepP (min 8 (sz + 1)) (keepP sz pas σ) σ1 (min 8 (min 8 (sz + 1) + 1) - 1 - 1) = σ := by
  unfold keepP
  by_cases h8 : sz = 8
  · subst h8; rfl
  by_cases h7 : sz = 7
  · subst h7; rfl
  rw [show min 8 (sz + 1) = sz + 1 by omega, if_neg (by omega : ¬ sz + 1 = 8), show min 8 (sz + 1 + 1) - 1 - 1 = sz by omega, if_pos (by omega), if_neg h8, if_neg (by omega)]
theorem ac_2 {af ac : Int → Int} (h : ∀ k, 0 ≤ k → k < 9 → af k = ac k) : ∀ k, 0 ≤ k → k < 9 → up af 0 (af 0 + 2) k = up (up ac 0 (ac 0 + 1)) 0 (up ac 0 (ac 0 + 1) 0 + 1) k := fun k k0 k1 => by
  by_cases e : k = 0
  · rw [e, up_s, up_s, up_s, h 0 (by decide) (by decide)]
    omega
  · rw [up_n e, up_n e, up_n e]
    exact h k k0 k1
theorem kn_x {w w2 : Wo} {q : Nat} (hk : w q ≠ none) (hx : ∀ e, w q = some e → w2 q = some e) : w2 q ≠ none := by
  cases h : w q with
  | none => exact absurd h hk
  | some e => rw [hx e h]; simp
theorem kn_N {w w2 : Wo} {N : Nat → Prop} {gq : Nat} (hk : ∀ q, N q → w q ≠ none) (hx : ∀ (q : Nat) (e : va_E), w q = some e → N q → q ≠ gq → w2 q = some e) (hg : w2 gq ≠ none) : ∀ q, N q → w2 q ≠ none := fun q hq => by
  by_cases h : q = gq
  · rw [h]; exact hg
  · exact kn_x (hk q hq) (fun e h9 => hx q e h9 hq h)
