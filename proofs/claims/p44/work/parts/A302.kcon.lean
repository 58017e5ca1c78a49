/-! ===== the class's acts, told of all of its object ===== -/
def outY (y q : Nat) : Prop := q < y ∨ y + 321 ≤ q
theorem KC.act {X : Cx} {w w2 : Wo} {y : Nat} {su nx sz nx2 sz2 M : Int} {σ σ2 ac ac2 tx oo rv : Int → Int} {pas pas2 : Int → Int → Int} (h : KC X w y su σ nx sz pas ac tx M oo rv)
    (hf : ∀ q : Nat, y ≤ q → q < y + 321 → q ≠ y + 305 → q ≠ y + 306 → q ≠ y + 307 → q ≠ y + 51 → q ≠ y + 52 → (q < y + 1 ∨ y + 26 ≤ q) → (q < y + 53 ∨ y + 255 ≤ q) → w2 q = w q)
    (h1 : loomAt X w2 (y + 1) σ2) (h2 : hisAt X w2 (y + 53) nx2 sz2 pas2) (h3 : w2 (y + 305) = some (aZ X 9 ac2)) (h4 : w2 (y + 307) = some (.inr (0, [.ref (y + 308), .int (iI 0)]))) (h5 : ∃ am, w2 (y + 306) = some (aZ X 7 am)) (h6 : ∃ n sd x9 y9 co f, capV X w2 (y + 51) n sd x9 y9 co f) : KC X w2 y su σ2 nx2 sz2 pas2 ac2 tx M oo rv := by
  obtain ⟨c0, c1, c2, c3, c4, c5, c6, c7, c8, c9, c10, c11, c12, c13, c14⟩ := h
  have g : ∀ q : Nat, (y = q ∨ y + 26 ≤ q ∧ q < y + 51 ∨ y + 255 ≤ q ∧ q < y + 305 ∨ y + 308 ≤ q ∧ q < y + 321) → w2 q = w q := fun q q0 => hf q (by omega) (by omega) (by omega) (by omega) (by omega) (by omega) (by omega) (by omega) (by omega)
  exact ⟨(g _ (by omega)).trans c0, h1, h2, h3, h4, (g _ (by omega)).trans c5, (g _ (by omega)).trans c6, (g _ (by omega)).trans c7, (g _ (by omega)).trans c8, c9.mv (fun q q0 q1 q2 => hf q (by omega) (by omega) (by omega) (by omega) (by omega) (by omega) (by omega) (by omega) (by omega)), c10.mv (fun q q0 q1 => g q (by omega)), h5, h6, c13, fun q q0 q1 => by rw [g q (by omega)]; exact c14 q q0 q1⟩
theorem k_pass (l : Launch) (X : Cx) (w : Wo) (y : Nat) (σ : Int → Int) (nx sz : Int) (pas : Int → Int → Int) (ac : Int → Int) (co fr to : Int) (hK : KS X w y σ nx sz pas ac) (hco : 0 ≤ co ∧ co < 7) (hft : 0 ≤ fr ∧ fr ≤ to ∧ to < σ 0) (hop : σ 4 < σ 1) (hst : to - fr + 1 ≤ σ (6 + co)) : CM l X yX8_pass cX8_pass 4 (some (.int)) (rmk 6 153) [.ref y, .int (iI co), .int (iI fr), .int (iI to)] w (some (.int (iI (σ (6 + co) - (to - fr + 1))))) (fun w' => KS X w' y (passN σ co fr (to - fr + 1).toNat) ((if nx = 8 then 0 else nx) + 1) (min 8 (sz + 1)) (keepP sz pas σ) (up ac 0 (ac 0 + 1)) ∧ ∀ (q : Nat) (e : va_E), w q = some e → outY y q → w' q = some e) := by
  obtain ⟨su, tx, M, oo, rv, hC⟩ := hK
  have hC0 := hC
  obtain ⟨hY, hL, hH, hac, hB, hT, hWB, hWT, hR, hds, hsc, ⟨am, ham⟩, ⟨n0, sd0, x0, y0, co0, f0, hv⟩, hM, hsv⟩ := hC
  exact (c_X8_pass l X w y su ac σ nx sz pas co fr to hY hac hL hH hco hft hop hst).imp (fun w' h => by
    obtain ⟨ha, h2, h1, hf⟩ := h
    exact ⟨⟨su, tx, M, oo, rv, hC0.act (fun q q0 q1 q2 q3 q4 q5 q6 q7 q8 => hf q (by omega) (by omega) (by omega) (by omega)) h1 h2 ha ((hf (y + 307) (by omega) (by omega) (by omega) (by omega)).trans hB) (⟨_, (hf (y + 306) (by omega) (by omega) (by omega) (by omega)).trans ham⟩) (⟨_, _, _, _, _, _, hv.mv (hf _ (by omega) (by omega) (by omega) (by omega)) (hf _ (by omega) (by omega) (by omega) (by omega))⟩)⟩, fun q e h9 ho => (by unfold outY at ho; exact (hf q (by omega) (by omega) (by omega) (by omega)).trans h9)⟩)
theorem k_pass_r1 (l : Launch) (X : Cx) (w : Wo) (y : Nat) (σ : Int → Int) (nx sz : Int) (pas : Int → Int → Int) (ac : Int → Int) (co fr to : Int) (hK : KS X w y σ nx sz pas ac) (hco : 0 ≤ co ∧ co < 7) (hft : 0 ≤ fr ∧ fr ≤ to ∧ to < σ 0) (hop : σ 4 = σ 1) : CM l X yX8_pass cX8_pass 4 (some (.int)) (rmk 6 153) [.ref y, .int (iI co), .int (iI fr), .int (iI to)] w (some (.int (iI (-1)))) (fun w' => KS X w' y σ nx sz pas (up ac 1 (ac 1 + 1)) ∧ ∀ (q : Nat) (e : va_E), w q = some e → outY y q → w' q = some e) := by
  obtain ⟨su, tx, M, oo, rv, hC⟩ := hK
  have hC0 := hC
  obtain ⟨hY, hL, hH, hac, hB, hT, hWB, hWT, hR, hds, hsc, ⟨am, ham⟩, ⟨n0, sd0, x0, y0, co0, f0, hv⟩, hM, hsv⟩ := hC
  exact (c_pass_r1 l X w y su ac σ nx sz pas co fr to hY hac hL hH hco hft hop).imp (fun w' h => by
    obtain ⟨ha, hf⟩ := h
    exact ⟨⟨su, tx, M, oo, rv, hC0.act (fun q q0 q1 q2 q3 q4 q5 q6 q7 q8 => hf q (by omega)) (hL.mv (fun q q0 q1 => hf q (by omega))) (hH.mv (fun q q0 q1 => hf q (by omega))) ha ((hf (y + 307) (by omega)).trans hB) (⟨_, (hf (y + 306) (by omega)).trans ham⟩) (⟨_, _, _, _, _, _, hv.mv (hf _ (by omega)) (hf _ (by omega))⟩)⟩, fun q e h9 ho => (by unfold outY at ho; exact (hf q (by omega)).trans h9)⟩)
theorem k_pass_r2 (l : Launch) (X : Cx) (w : Wo) (y : Nat) (σ : Int → Int) (nx sz : Int) (pas : Int → Int → Int) (ac : Int → Int) (co fr to : Int) (hK : KS X w y σ nx sz pas ac) (hco : 0 ≤ co ∧ co < 7) (hft : 0 ≤ fr ∧ fr ≤ to ∧ to < σ 0) (hop : σ 4 < σ 1) (hst : σ (6 + co) < to - fr + 1) : CM l X yX8_pass cX8_pass 4 (some (.int)) (rmk 6 153) [.ref y, .int (iI co), .int (iI fr), .int (iI to)] w (some (.int (iI (-2)))) (fun w' => KS X w' y σ nx sz pas (up ac 2 (ac 2 + 1)) ∧ ∀ (q : Nat) (e : va_E), w q = some e → outY y q → w' q = some e) := by
  obtain ⟨su, tx, M, oo, rv, hC⟩ := hK
  have hC0 := hC
  obtain ⟨hY, hL, hH, hac, hB, hT, hWB, hWT, hR, hds, hsc, ⟨am, ham⟩, ⟨n0, sd0, x0, y0, co0, f0, hv⟩, hM, hsv⟩ := hC
  exact (c_pass_r2 l X w y su ac σ nx sz pas co fr to hY hac hL hH hco hft hop hst).imp (fun w' h => by
    obtain ⟨ha, hf⟩ := h
    exact ⟨⟨su, tx, M, oo, rv, hC0.act (fun q q0 q1 q2 q3 q4 q5 q6 q7 q8 => hf q (by omega)) (hL.mv (fun q q0 q1 => hf q (by omega))) (hH.mv (fun q q0 q1 => hf q (by omega))) ha ((hf (y + 307) (by omega)).trans hB) (⟨_, (hf (y + 306) (by omega)).trans ham⟩) (⟨_, _, _, _, _, _, hv.mv (hf _ (by omega)) (hf _ (by omega))⟩)⟩, fun q e h9 ho => (by unfold outY at ho; exact (hf q (by omega)).trans h9)⟩)
theorem k_beat (l : Launch) (X : Cx) (w : Wo) (y : Nat) (σ : Int → Int) (nx sz : Int) (pas : Int → Int → Int) (ac : Int → Int)  (hK : KS X w y σ nx sz pas ac) (hop : σ 4 < σ 1) (hst : σ 0 - opnS σ ≤ σ 6) : CM l X yX8_beat cX8_beat 1 (some (.int)) (rmk 6 150) [.ref y] w (some (.int (iI (misRow (btS σ) (σ 4))))) (fun w' => KS X w' y (btS σ) ((if nx = 8 then 0 else nx) + 1) (min 8 (sz + 1)) (keepP sz pas σ) (up (up ac 0 (ac 0 + 1)) 8 (ac 8 + mnS (beatN σ (σ 0).toNat) (σ 4))) ∧ ∀ (q : Nat) (e : va_E), w q = some e → outY y q → w' q = some e) := by
  obtain ⟨su, tx, M, oo, rv, hC⟩ := hK
  have hC0 := hC
  obtain ⟨hY, hL, hH, hac, hB, hT, hWB, hWT, hR, hds, hsc, ⟨am, ham⟩, ⟨n0, sd0, x0, y0, co0, f0, hv⟩, hM, hsv⟩ := hC
  exact (c_X8_beat l X w y su ac σ nx sz pas hY hac hL hH hop hst).imp (fun w' h => by
    obtain ⟨ha, h2, h1, hf⟩ := h
    exact ⟨⟨su, tx, M, oo, rv, hC0.act (fun q q0 q1 q2 q3 q4 q5 q6 q7 q8 => hf q (by omega) (by omega) (by omega) (by omega) (by omega)) h1 h2 ha ((hf (y + 307) (by omega) (by omega) (by omega) (by omega) (by omega)).trans hB) (⟨_, (hf (y + 306) (by omega) (by omega) (by omega) (by omega) (by omega)).trans ham⟩) (⟨_, _, _, _, _, _, hv.mv (hf _ (by omega) (by omega) (by omega) (by omega) (by omega)) (hf _ (by omega) (by omega) (by omega) (by omega) (by omega))⟩)⟩, fun q e h9 ho => (by unfold outY at ho; exact (hf q (by omega) (by omega) (by omega) (by omega) (by omega)).trans h9)⟩)
theorem k_beat_r1 (l : Launch) (X : Cx) (w : Wo) (y : Nat) (σ : Int → Int) (nx sz : Int) (pas : Int → Int → Int) (ac : Int → Int)  (hK : KS X w y σ nx sz pas ac) (hop : σ 4 = σ 1) : CM l X yX8_beat cX8_beat 1 (some (.int)) (rmk 6 150) [.ref y] w (some (.int (iI (-1)))) (fun w' => KS X w' y σ nx sz pas (up ac 1 (ac 1 + 1)) ∧ ∀ (q : Nat) (e : va_E), w q = some e → outY y q → w' q = some e) := by
  obtain ⟨su, tx, M, oo, rv, hC⟩ := hK
  have hC0 := hC
  obtain ⟨hY, hL, hH, hac, hB, hT, hWB, hWT, hR, hds, hsc, ⟨am, ham⟩, ⟨n0, sd0, x0, y0, co0, f0, hv⟩, hM, hsv⟩ := hC
  exact (c_beat_r1 l X w y su ac σ nx sz pas hY hac hL hH hop).imp (fun w' h => by
    obtain ⟨ha, hf⟩ := h
    exact ⟨⟨su, tx, M, oo, rv, hC0.act (fun q q0 q1 q2 q3 q4 q5 q6 q7 q8 => hf q (by omega)) (hL.mv (fun q q0 q1 => hf q (by omega))) (hH.mv (fun q q0 q1 => hf q (by omega))) ha ((hf (y + 307) (by omega)).trans hB) (⟨_, (hf (y + 306) (by omega)).trans ham⟩) (⟨_, _, _, _, _, _, hv.mv (hf _ (by omega)) (hf _ (by omega))⟩)⟩, fun q e h9 ho => (by unfold outY at ho; exact (hf q (by omega)).trans h9)⟩)
theorem k_beat_r2 (l : Launch) (X : Cx) (w : Wo) (y : Nat) (σ : Int → Int) (nx sz : Int) (pas : Int → Int → Int) (ac : Int → Int)  (hK : KS X w y σ nx sz pas ac) (hop : σ 4 < σ 1) (hst : σ 6 < σ 0 - opnS σ) : CM l X yX8_beat cX8_beat 1 (some (.int)) (rmk 6 150) [.ref y] w (some (.int (iI (-2)))) (fun w' => KS X w' y σ nx sz pas (up ac 2 (ac 2 + 1)) ∧ ∀ (q : Nat) (e : va_E), w q = some e → outY y q → w' q = some e) := by
  obtain ⟨su, tx, M, oo, rv, hC⟩ := hK
  have hC0 := hC
  obtain ⟨hY, hL, hH, hac, hB, hT, hWB, hWT, hR, hds, hsc, ⟨am, ham⟩, ⟨n0, sd0, x0, y0, co0, f0, hv⟩, hM, hsv⟩ := hC
  exact (c_beat_r2 l X w y su ac σ nx sz pas hY hac hL hH hop hst).imp (fun w' h => by
    obtain ⟨ha, hf⟩ := h
    exact ⟨⟨su, tx, M, oo, rv, hC0.act (fun q q0 q1 q2 q3 q4 q5 q6 q7 q8 => hf q (by omega)) (hL.mv (fun q q0 q1 => hf q (by omega))) (hH.mv (fun q q0 q1 => hf q (by omega))) ha ((hf (y + 307) (by omega)).trans hB) (⟨_, (hf (y + 306) (by omega)).trans ham⟩) (⟨_, _, _, _, _, _, hv.mv (hf _ (by omega)) (hf _ (by omega))⟩)⟩, fun q e h9 ho => (by unfold outY at ho; exact (hf q (by omega)).trans h9)⟩)
theorem k_weave (l : Launch) (X : Cx) (w : Wo) (y : Nat) (σ : Int → Int) (nx sz : Int) (pas : Int → Int → Int) (ac : Int → Int) (rw9 : Int) (b : Bool) (hK : KS X w y σ nx sz pas ac) (hrw : 1 ≤ rw9 ∧ rw9 ≤ 30) (hop : σ 4 + rw9 ≤ σ 1) (hen : enoS σ b rw9 = true) : CM l X yX8_weave cX8_weave 3 (some (.int)) (rmk 6 152) [.ref y, .int (iI rw9), .int (iI (bz b))] w (some (.int (iI (misFrom (weaveN σ b rw9.toNat) (σ 4))))) (fun w' => KS X w' y (weaveN σ b rw9.toNat) ((if nx = 8 then 0 else nx) + 1) (min 8 (sz + 1)) (keepP sz pas σ) (wac ac σ b rw9.toNat) ∧ ∀ (q : Nat) (e : va_E), w q = some e → outY y q → w' q = some e) := by
  obtain ⟨su, tx, M, oo, rv, hC⟩ := hK
  have hC0 := hC
  obtain ⟨hY, hL, hH, hac, hB, hT, hWB, hWT, hR, hds, hsc, ⟨am, ham⟩, ⟨n0, sd0, x0, y0, co0, f0, hv⟩, hM, hsv⟩ := hC
  exact (c_X8_weave l X w y su ac am σ nx sz pas rw9 b hY hac ham hL hH hrw hop hen).imp (fun w' h => by
    obtain ⟨ha, hm, h2, h1, hf⟩ := h
    exact ⟨⟨su, tx, M, oo, rv, hC0.act (fun q q0 q1 q2 q3 q4 q5 q6 q7 q8 => hf q (by omega) (by omega) (by omega) (by omega) (by omega) (by omega)) h1 h2 ha ((hf (y + 307) (by omega) (by omega) (by omega) (by omega) (by omega) (by omega)).trans hB) (⟨_, hm⟩) (⟨_, _, _, _, _, _, hv.mv (hf _ (by omega) (by omega) (by omega) (by omega) (by omega) (by omega)) (hf _ (by omega) (by omega) (by omega) (by omega) (by omega) (by omega))⟩)⟩, fun q e h9 ho => (by unfold outY at ho; exact (hf q (by omega) (by omega) (by omega) (by omega) (by omega) (by omega)).trans h9)⟩)
theorem k_weave_r3 (l : Launch) (X : Cx) (w : Wo) (y : Nat) (σ : Int → Int) (nx sz : Int) (pas : Int → Int → Int) (ac : Int → Int) (rw9 : Int) (b : Bool) (hK : KS X w y σ nx sz pas ac) (hrw : 1 ≤ rw9 ∧ rw9 ≤ 30) (hop : σ 1 < σ 4 + rw9) : CM l X yX8_weave cX8_weave 3 (some (.int)) (rmk 6 152) [.ref y, .int (iI rw9), .int (iI (bz b))] w (some (.int (iI (-3)))) (fun w' => KS X w' y σ nx sz pas (up ac 3 (ac 3 + 1)) ∧ ∀ (q : Nat) (e : va_E), w q = some e → outY y q → w' q = some e) := by
  obtain ⟨su, tx, M, oo, rv, hC⟩ := hK
  have hC0 := hC
  obtain ⟨hY, hL, hH, hac, hB, hT, hWB, hWT, hR, hds, hsc, ⟨am, ham⟩, ⟨n0, sd0, x0, y0, co0, f0, hv⟩, hM, hsv⟩ := hC
  exact (c_weave_r3 l X w y su ac am σ nx sz pas rw9 b hY hac ham hL hH hrw hop).imp (fun w' h => by
    obtain ⟨ha, hf⟩ := h
    exact ⟨⟨su, tx, M, oo, rv, hC0.act (fun q q0 q1 q2 q3 q4 q5 q6 q7 q8 => hf q (by omega)) (hL.mv (fun q q0 q1 => hf q (by omega))) (hH.mv (fun q q0 q1 => hf q (by omega))) ha ((hf (y + 307) (by omega)).trans hB) (⟨_, (hf (y + 306) (by omega)).trans ham⟩) (⟨_, _, _, _, _, _, hv.mv (hf _ (by omega)) (hf _ (by omega))⟩)⟩, fun q e h9 ho => (by unfold outY at ho; exact (hf q (by omega)).trans h9)⟩)
theorem k_weave_r2 (l : Launch) (X : Cx) (w : Wo) (y : Nat) (σ : Int → Int) (nx sz : Int) (pas : Int → Int → Int) (ac : Int → Int) (rw9 : Int) (b : Bool) (hK : KS X w y σ nx sz pas ac) (hrw : 1 ≤ rw9 ∧ rw9 ≤ 30) (hop : σ 4 + rw9 ≤ σ 1) (hen : enoS σ b rw9 = false) : CM l X yX8_weave cX8_weave 3 (some (.int)) (rmk 6 152) [.ref y, .int (iI rw9), .int (iI (bz b))] w (some (.int (iI (-2)))) (fun w' => KS X w' y σ nx sz pas (up ac 2 (ac 2 + 1)) ∧ ∀ (q : Nat) (e : va_E), w q = some e → outY y q → w' q = some e) := by
  obtain ⟨su, tx, M, oo, rv, hC⟩ := hK
  have hC0 := hC
  obtain ⟨hY, hL, hH, hac, hB, hT, hWB, hWT, hR, hds, hsc, ⟨am, ham⟩, ⟨n0, sd0, x0, y0, co0, f0, hv⟩, hM, hsv⟩ := hC
  exact (c_weave_r2 l X w y su ac am σ nx sz pas rw9 b hY hac ham hL hH hrw hop hen).imp (fun w' h => by
    obtain ⟨ha, hm, hf⟩ := h
    exact ⟨⟨su, tx, M, oo, rv, hC0.act (fun q q0 q1 q2 q3 q4 q5 q6 q7 q8 => hf q (by omega) (by omega)) (hL.mv (fun q q0 q1 => hf q (by omega) (by omega))) (hH.mv (fun q q0 q1 => hf q (by omega) (by omega))) ha ((hf (y + 307) (by omega) (by omega)).trans hB) (⟨_, hm⟩) (⟨_, _, _, _, _, _, hv.mv (hf _ (by omega) (by omega)) (hf _ (by omega) (by omega))⟩)⟩, fun q e h9 ho => (by unfold outY at ho; exact (hf q (by omega) (by omega)).trans h9)⟩)
theorem k_unpick (l : Launch) (X : Cx) (w : Wo) (y : Nat) (σ : Int → Int) (nx sz : Int) (pas : Int → Int → Int) (ac : Int → Int) (rw9 : Int) (hK : KS X w y σ nx sz pas ac) (hrw : 0 ≤ rw9 ∧ rw9 ≤ 30) (hop : rw9 ≤ σ 4) : CM l X yX8_unpick cX8_unpick 2 (some (.int)) (rmk 6 153) [.ref y, .int (iI rw9)] w (some (.int (iI (sm (wvnS σ (σ 4 - rw9)) 0 7)))) (fun w' => KS X w' y (clrS (unpS σ (σ 4 - rw9) 7) (σ 4 - rw9)) ((if nx = 8 then 0 else nx) + 1) (min 8 (sz + 1)) (keepP sz pas σ) (up ac 0 (ac 0 + 1)) ∧ ∀ (q : Nat) (e : va_E), w q = some e → outY y q → w' q = some e) := by
  obtain ⟨su, tx, M, oo, rv, hC⟩ := hK
  have hC0 := hC
  obtain ⟨hY, hL, hH, hac, hB, hT, hWB, hWT, hR, hds, hsc, ⟨am, ham⟩, ⟨n0, sd0, x0, y0, co0, f0, hv⟩, hM, hsv⟩ := hC
  exact (c_X8_unpick l X w y su ac σ nx sz pas rw9 hY hac hL hH hrw hop).imp (fun w' h => by
    obtain ⟨ha, h2, h1, hf⟩ := h
    exact ⟨⟨su, tx, M, oo, rv, hC0.act (fun q q0 q1 q2 q3 q4 q5 q6 q7 q8 => hf q (by omega) (by omega) (by omega) (by omega) (by omega)) h1 h2 ha ((hf (y + 307) (by omega) (by omega) (by omega) (by omega) (by omega)).trans hB) (⟨_, (hf (y + 306) (by omega) (by omega) (by omega) (by omega) (by omega)).trans ham⟩) (⟨_, _, _, _, _, _, hv.mv (hf _ (by omega) (by omega) (by omega) (by omega) (by omega)) (hf _ (by omega) (by omega) (by omega) (by omega) (by omega))⟩)⟩, fun q e h9 ho => (by unfold outY at ho; exact (hf q (by omega) (by omega) (by omega) (by omega) (by omega)).trans h9)⟩)
theorem k_unpick_r3 (l : Launch) (X : Cx) (w : Wo) (y : Nat) (σ : Int → Int) (nx sz : Int) (pas : Int → Int → Int) (ac : Int → Int) (rw9 : Int) (hK : KS X w y σ nx sz pas ac) (hrw : 0 ≤ rw9 ∧ rw9 ≤ 30) (hop : σ 4 < rw9) : CM l X yX8_unpick cX8_unpick 2 (some (.int)) (rmk 6 153) [.ref y, .int (iI rw9)] w (some (.int (iI (-3)))) (fun w' => KS X w' y σ nx sz pas (up ac 3 (ac 3 + 1)) ∧ ∀ (q : Nat) (e : va_E), w q = some e → outY y q → w' q = some e) := by
  obtain ⟨su, tx, M, oo, rv, hC⟩ := hK
  have hC0 := hC
  obtain ⟨hY, hL, hH, hac, hB, hT, hWB, hWT, hR, hds, hsc, ⟨am, ham⟩, ⟨n0, sd0, x0, y0, co0, f0, hv⟩, hM, hsv⟩ := hC
  exact (c_unpick_r3 l X w y su ac σ nx sz pas rw9 hY hac hL hH hrw hop).imp (fun w' h => by
    obtain ⟨ha, hf⟩ := h
    exact ⟨⟨su, tx, M, oo, rv, hC0.act (fun q q0 q1 q2 q3 q4 q5 q6 q7 q8 => hf q (by omega)) (hL.mv (fun q q0 q1 => hf q (by omega))) (hH.mv (fun q q0 q1 => hf q (by omega))) ha ((hf (y + 307) (by omega)).trans hB) (⟨_, (hf (y + 306) (by omega)).trans ham⟩) (⟨_, _, _, _, _, _, hv.mv (hf _ (by omega)) (hf _ (by omega))⟩)⟩, fun q e h9 ho => (by unfold outY at ho; exact (hf q (by omega)).trans h9)⟩)
theorem k_look (l : Launch) (X : Cx) (w : Wo) (y : Nat) (σ : Int → Int) (nx sz : Int) (pas : Int → Int → Int) (ac : Int → Int)  (hK : KS X w y σ nx sz pas ac)  : CM l X yX8_look cX8_look 1 (some (.int)) (rmk 6 149) [.ref y] w (some (.int (iI (misSeen (up σ 3 (σ 4)) - misSeen σ)))) (fun w' => KS X w' y (up σ 3 (σ 4)) ((if nx = 8 then 0 else nx) + 1) (min 8 (sz + 1)) (keepP sz pas σ) (up ac 0 (ac 0 + 1)) ∧ ∀ (q : Nat) (e : va_E), w q = some e → outY y q → w' q = some e) := by
  obtain ⟨su, tx, M, oo, rv, hC⟩ := hK
  have hC0 := hC
  obtain ⟨hY, hL, hH, hac, hB, hT, hWB, hWT, hR, hds, hsc, ⟨am, ham⟩, ⟨n0, sd0, x0, y0, co0, f0, hv⟩, hM, hsv⟩ := hC
  exact (c_X8_look l X w y su ac σ nx sz pas hY hac hL hH).imp (fun w' h => by
    obtain ⟨ha, h2, h1, hf⟩ := h
    exact ⟨⟨su, tx, M, oo, rv, hC0.act (fun q q0 q1 q2 q3 q4 q5 q6 q7 q8 => hf q (by omega) (by omega) (by omega)) h1 h2 ha ((hf (y + 307) (by omega) (by omega) (by omega)).trans hB) (⟨_, (hf (y + 306) (by omega) (by omega) (by omega)).trans ham⟩) (⟨_, _, _, _, _, _, hv.mv (hf _ (by omega) (by omega) (by omega)) (hf _ (by omega) (by omega) (by omega))⟩)⟩, fun q e h9 ho => (by unfold outY at ho; exact (hf q (by omega) (by omega) (by omega)).trans h9)⟩)
theorem k_drop (l : Launch) (X : Cx) (w : Wo) (y : Nat) (σ : Int → Int) (nx sz : Int) (pas : Int → Int → Int) (ac : Int → Int) (k : Int) (hK : KS X w y σ nx sz pas ac) (hk : 0 ≤ k ∧ k < σ 5) : CM l X yX8_drop cX8_drop 2 (some (.int)) (rmk 5 128) [.ref y, .int (iI k)] w (some (.int (iI (σ 5 - 1)))) (fun w' => KS X w' y (drpS σ k) ((if nx = 8 then 0 else nx) + 1) (min 8 (sz + 1)) (keepP sz pas σ) (up ac 0 (ac 0 + 1)) ∧ ∀ (q : Nat) (e : va_E), w q = some e → outY y q → w' q = some e) := by
  obtain ⟨su, tx, M, oo, rv, hC⟩ := hK
  have hC0 := hC
  obtain ⟨hY, hL, hH, hac, hB, hT, hWB, hWT, hR, hds, hsc, ⟨am, ham⟩, ⟨n0, sd0, x0, y0, co0, f0, hv⟩, hM, hsv⟩ := hC
  exact (c_X8_drop l X w y su ac σ nx sz pas k hY hac hL hH hk).imp (fun w' h => by
    obtain ⟨ha, h2, h1, hf⟩ := h
    exact ⟨⟨su, tx, M, oo, rv, hC0.act (fun q q0 q1 q2 q3 q4 q5 q6 q7 q8 => hf q (by omega) (by omega) (by omega)) h1 h2 ha ((hf (y + 307) (by omega) (by omega) (by omega)).trans hB) (⟨_, (hf (y + 306) (by omega) (by omega) (by omega)).trans ham⟩) (⟨_, _, _, _, _, _, hv.mv (hf _ (by omega) (by omega) (by omega)) (hf _ (by omega) (by omega) (by omega))⟩)⟩, fun q e h9 ho => (by unfold outY at ho; exact (hf q (by omega) (by omega) (by omega)).trans h9)⟩)
theorem k_move (l : Launch) (X : Cx) (w : Wo) (y : Nat) (σ : Int → Int) (nx sz : Int) (pas : Int → Int → Int) (ac : Int → Int) (k xx yy : Int) (hK : KS X w y σ nx sz pas ac) (hk : 0 ≤ k ∧ k < σ 5) (hx : 0 ≤ xx ∧ xx < 1000) (hy : 0 ≤ yy ∧ yy < 1000) (hwy : whyS σ (cp σ k 0) (cp σ k 1) xx yy k = 0) : CM l X yX8_move cX8_move 5 (some (.int)) (rmk 5 128) [.ref y, .int (iI k), .int (iI xx), .int (iI yy)] w (some (.int (iI (misFrom (movS σ k xx yy) 0)))) (fun w' => KS X w' y (movS σ k xx yy) ((if nx = 8 then 0 else nx) + 1) (min 8 (sz + 1)) (keepP sz pas σ) (up ac 0 (ac 0 + 1)) ∧ ∀ (q : Nat) (e : va_E), w q = some e → outY y q → w' q = some e) := by
  obtain ⟨su, tx, M, oo, rv, hC⟩ := hK
  have hC0 := hC
  obtain ⟨hY, hL, hH, hac, hB, hT, hWB, hWT, hR, hds, hsc, ⟨am, ham⟩, ⟨n0, sd0, x0, y0, co0, f0, hv⟩, hM, hsv⟩ := hC
  exact (c_X8_move l X w y su ac σ nx sz pas n0 sd0 x0 y0 co0 f0 k xx yy hY hac hL hH hv hk (by omega) (by omega) hwy).imp (fun w' h => by
    obtain ⟨hc1, ha, ⟨f9, hc2⟩, h2, h1, hf⟩ := h
    exact ⟨⟨su, tx, M, oo, rv, hC0.act (fun q q0 q1 q2 q3 q4 q5 q6 q7 q8 => hf q (by omega) (by omega) (by omega) (by omega) (by omega)) h1 h2 ha ((hf (y + 307) (by omega) (by omega) (by omega) (by omega) (by omega)).trans hB) (⟨_, (hf (y + 306) (by omega) (by omega) (by omega) (by omega) (by omega)).trans ham⟩) (⟨_, _, _, _, _, _, ⟨hc1, hc2⟩⟩)⟩, fun q e h9 ho => (by unfold outY at ho; exact (hf q (by omega) (by omega) (by omega) (by omega) (by omega)).trans h9)⟩)
theorem k_move_r (l : Launch) (X : Cx) (w : Wo) (y : Nat) (σ : Int → Int) (nx sz : Int) (pas : Int → Int → Int) (ac : Int → Int) (k xx yy r9 : Int) (hK : KS X w y σ nx sz pas ac) (hk : 0 ≤ k ∧ k < σ 5) (hx : 0 ≤ xx ∧ xx < 1000) (hy : 0 ≤ yy ∧ yy < 1000) (hwy : whyS σ (cp σ k 0) (cp σ k 1) xx yy k = r9) (hr9 : r9 = 5 ∨ r9 = 6) : CM l X yX8_move cX8_move 5 (some (.int)) (rmk 5 128) [.ref y, .int (iI k), .int (iI xx), .int (iI yy)] w (some (.int (iI (-r9)))) (fun w' => KS X w' y σ nx sz pas (up ac r9 (ac r9 + 1)) ∧ ∀ (q : Nat) (e : va_E), w q = some e → outY y q → w' q = some e) := by
  obtain ⟨su, tx, M, oo, rv, hC⟩ := hK
  have hC0 := hC
  obtain ⟨hY, hL, hH, hac, hB, hT, hWB, hWT, hR, hds, hsc, ⟨am, ham⟩, ⟨n0, sd0, x0, y0, co0, f0, hv⟩, hM, hsv⟩ := hC
  exact (c_move_r l X w y su ac σ nx sz pas n0 sd0 x0 y0 co0 f0 k xx yy r9 hY hac hL hH hv hk (by omega) (by omega) hwy hr9).imp (fun w' h => by
    obtain ⟨hc1, ha, ⟨f9, hc2⟩, hf⟩ := h
    exact ⟨⟨su, tx, M, oo, rv, hC0.act (fun q q0 q1 q2 q3 q4 q5 q6 q7 q8 => hf q (by omega) (by omega) (by omega)) (hL.mv (fun q q0 q1 => hf q (by omega) (by omega) (by omega))) (hH.mv (fun q q0 q1 => hf q (by omega) (by omega) (by omega))) ha ((hf (y + 307) (by omega) (by omega) (by omega)).trans hB) (⟨_, (hf (y + 306) (by omega) (by omega) (by omega)).trans ham⟩) (⟨_, _, _, _, _, _, ⟨hc1, hc2⟩⟩)⟩, fun q e h9 ho => (by unfold outY at ho; exact (hf q (by omega) (by omega) (by omega)).trans h9)⟩)
theorem k_setDelay (l : Launch) (X : Cx) (w : Wo) (y : Nat) (σ : Int → Int) (nx sz : Int) (pas : Int → Int → Int) (ac : Int → Int) (d : Int) (hK : KS X w y σ nx sz pas ac) (hd : 0 ≤ d ∧ d ≤ 30) (he : d ≠ σ 2) : CM l X yX8_setDelay cX8_setDelay 3 (some (.int)) (rmk 5 128) [.ref y, .int (iI d)] w (some (.int (iI (σ 2)))) (fun w' => KS X w' y (up σ 2 d) ((if nx = 8 then 0 else nx) + 1) (min 8 (sz + 1)) (keepP sz pas σ) (up ac 0 (ac 0 + 1)) ∧ ∀ (q : Nat) (e : va_E), w q = some e → outY y q → w' q = some e) := by
  obtain ⟨su, tx, M, oo, rv, hC⟩ := hK
  have hC0 := hC
  obtain ⟨hY, hL, hH, hac, hB, hT, hWB, hWT, hR, hds, hsc, ⟨am, ham⟩, ⟨n0, sd0, x0, y0, co0, f0, hv⟩, hM, hsv⟩ := hC
  exact (c_X8_setDelay l X w y su ac σ nx sz pas d hY hac hL hH hd he).imp (fun w' h => by
    obtain ⟨ha, h2, h1, hf⟩ := h
    exact ⟨⟨su, tx, M, oo, rv, hC0.act (fun q q0 q1 q2 q3 q4 q5 q6 q7 q8 => hf q (by omega) (by omega) (by omega)) h1 h2 ha ((hf (y + 307) (by omega) (by omega) (by omega)).trans hB) (⟨_, (hf (y + 306) (by omega) (by omega) (by omega)).trans ham⟩) (⟨_, _, _, _, _, _, hv.mv (hf _ (by omega) (by omega) (by omega)) (hf _ (by omega) (by omega) (by omega))⟩)⟩, fun q e h9 ho => (by unfold outY at ho; exact (hf q (by omega) (by omega) (by omega)).trans h9)⟩)
theorem k_setDelay_r7 (l : Launch) (X : Cx) (w : Wo) (y : Nat) (σ : Int → Int) (nx sz : Int) (pas : Int → Int → Int) (ac : Int → Int) (d : Int) (hK : KS X w y σ nx sz pas ac) (hd : 0 ≤ d ∧ d ≤ 30) (he : d = σ 2) : CM l X yX8_setDelay cX8_setDelay 3 (some (.int)) (rmk 5 128) [.ref y, .int (iI d)] w (some (.int (iI (-7)))) (fun w' => KS X w' y σ nx sz pas (up ac 7 (ac 7 + 1)) ∧ ∀ (q : Nat) (e : va_E), w q = some e → outY y q → w' q = some e) := by
  obtain ⟨su, tx, M, oo, rv, hC⟩ := hK
  have hC0 := hC
  obtain ⟨hY, hL, hH, hac, hB, hT, hWB, hWT, hR, hds, hsc, ⟨am, ham⟩, ⟨n0, sd0, x0, y0, co0, f0, hv⟩, hM, hsv⟩ := hC
  exact (c_setDelay_r7 l X w y su ac σ nx sz pas d hY hac hL hH hd he).imp (fun w' h => by
    obtain ⟨ha, hf⟩ := h
    exact ⟨⟨su, tx, M, oo, rv, hC0.act (fun q q0 q1 q2 q3 q4 q5 q6 q7 q8 => hf q (by omega)) (hL.mv (fun q q0 q1 => hf q (by omega))) (hH.mv (fun q q0 q1 => hf q (by omega))) ha ((hf (y + 307) (by omega)).trans hB) (⟨_, (hf (y + 306) (by omega)).trans ham⟩) (⟨_, _, _, _, _, _, hv.mv (hf _ (by omega)) (hf _ (by omega))⟩)⟩, fun q e h9 ho => (by unfold outY at ho; exact (hf q (by omega)).trans h9)⟩)
theorem k_setStock (l : Launch) (X : Cx) (w : Wo) (y : Nat) (σ : Int → Int) (nx sz : Int) (pas : Int → Int → Int) (ac : Int → Int) (k x : Int) (hK : KS X w y σ nx sz pas ac) (hk : 0 ≤ k ∧ k < 7) (hx : 0 ≤ x ∧ x ≤ 9999) : CM l X yX8_setStock cX8_setStock 4 (some (.int)) (rmk 5 128) [.ref y, .int (iI k), .int (iI x)] w (some (.int (iI (σ (6 + k))))) (fun w' => KS X w' y (up σ (6 + k) x) ((if nx = 8 then 0 else nx) + 1) (min 8 (sz + 1)) (keepP sz pas σ) (up ac 0 (ac 0 + 1)) ∧ ∀ (q : Nat) (e : va_E), w q = some e → outY y q → w' q = some e) := by
  obtain ⟨su, tx, M, oo, rv, hC⟩ := hK
  have hC0 := hC
  obtain ⟨hY, hL, hH, hac, hB, hT, hWB, hWT, hR, hds, hsc, ⟨am, ham⟩, ⟨n0, sd0, x0, y0, co0, f0, hv⟩, hM, hsv⟩ := hC
  exact (c_X8_setStock l X w y su ac σ nx sz pas k x hY hac hL hH hk hx).imp (fun w' h => by
    obtain ⟨ha, h2, h1, hf⟩ := h
    exact ⟨⟨su, tx, M, oo, rv, hC0.act (fun q q0 q1 q2 q3 q4 q5 q6 q7 q8 => hf q (by omega) (by omega) (by omega)) h1 h2 ha ((hf (y + 307) (by omega) (by omega) (by omega)).trans hB) (⟨_, (hf (y + 306) (by omega) (by omega) (by omega)).trans ham⟩) (⟨_, _, _, _, _, _, hv.mv (hf _ (by omega) (by omega) (by omega)) (hf _ (by omega) (by omega) (by omega))⟩)⟩, fun q e h9 ho => (by unfold outY at ho; exact (hf q (by omega) (by omega) (by omega)).trans h9)⟩)
/-- the same, but a text of N signs lies there -/
def KT (X : Cx) (w : Wo) (y : Nat) (σ : Int → Int) (nx sz : Int) (pas : Int → Int → Int) (ac : Int → Int) (N : Int) (fb : Int → Int) : Prop := ∃ (su M : Int) (oo rv : Int → Int), (0 ≤ N ∧ N ≤ 400) ∧
  clO X w y su ∧ loomAt X w (y + 1) σ ∧ hisAt X w (y + 53) nx sz pas ∧ w (y + 305) = some (aZ X 9 ac) ∧ w (y + 307) = some (.inr (0, [.ref (y + 308), .int (iI N)])) ∧ w (y + 308) = some (aZ X 400 fb) ∧ w (y + 309) = some (.inr (0, [.ref (y + 310), .int (iI M)])) ∧ w (y + 310) = some (aZ X 400 oo) ∧ w (y + 311) = some (.inr (6, rL (y + 307) rv)) ∧ dsA X w y ∧ scE X w y ∧ (∃ am, w (y + 306) = some (aZ X 7 am)) ∧ (∃ n sd x9 y9 co f, capV X w (y + 51) n sd x9 y9 co f) ∧ (0 ≤ M ∧ M ≤ 80) ∧ (∀ q : Nat, y + 255 ≤ q → q < y + 305 → w q ≠ none)
theorem KT.act {X : Cx} {w w2 : Wo} {y : Nat} {su nx sz nx2 sz2 M N : Int} {σ σ2 ac ac2 fb oo rv : Int → Int} {pas pas2 : Int → Int → Int} (h : (0 ≤ N ∧ N ≤ 400) ∧
  clO X w y su ∧ loomAt X w (y + 1) σ ∧ hisAt X w (y + 53) nx sz pas ∧ w (y + 305) = some (aZ X 9 ac) ∧ w (y + 307) = some (.inr (0, [.ref (y + 308), .int (iI N)])) ∧ w (y + 308) = some (aZ X 400 fb) ∧ w (y + 309) = some (.inr (0, [.ref (y + 310), .int (iI M)])) ∧ w (y + 310) = some (aZ X 400 oo) ∧ w (y + 311) = some (.inr (6, rL (y + 307) rv)) ∧ dsA X w y ∧ scE X w y ∧ (∃ am, w (y + 306) = some (aZ X 7 am)) ∧ (∃ n sd x9 y9 co f, capV X w (y + 51) n sd x9 y9 co f) ∧ (0 ≤ M ∧ M ≤ 80) ∧ (∀ q : Nat, y + 255 ≤ q → q < y + 305 → w q ≠ none))
    (hf : ∀ q : Nat, y ≤ q → q < y + 321 → q ≠ y + 305 → q ≠ y + 306 → q ≠ y + 307 → q ≠ y + 51 → q ≠ y + 52 → (q < y + 1 ∨ y + 26 ≤ q) → (q < y + 53 ∨ y + 255 ≤ q) → w2 q = w q)
    (h1 : loomAt X w2 (y + 1) σ2) (h2 : hisAt X w2 (y + 53) nx2 sz2 pas2) (h3 : w2 (y + 305) = some (aZ X 9 ac2)) (h4 : w2 (y + 307) = some (.inr (0, [.ref (y + 308), .int (iI 0)]))) (h5 : ∃ am, w2 (y + 306) = some (aZ X 7 am)) (h6 : ∃ n sd x9 y9 co f, capV X w2 (y + 51) n sd x9 y9 co f) : KC X w2 y su σ2 nx2 sz2 pas2 ac2 fb M oo rv := by
  obtain ⟨-, c0, c1, c2, c3, c4, c5, c6, c7, c8, c9, c10, c11, c12, c13, c14⟩ := h
  have g : ∀ q : Nat, (y = q ∨ y + 26 ≤ q ∧ q < y + 51 ∨ y + 255 ≤ q ∧ q < y + 305 ∨ y + 308 ≤ q ∧ q < y + 321) → w2 q = w q := fun q q0 => hf q (by omega) (by omega) (by omega) (by omega) (by omega) (by omega) (by omega) (by omega) (by omega)
  exact ⟨(g _ (by omega)).trans c0, h1, h2, h3, h4, (g _ (by omega)).trans c5, (g _ (by omega)).trans c6, (g _ (by omega)).trans c7, (g _ (by omega)).trans c8, c9.mv (fun q q0 q1 q2 => hf q (by omega) (by omega) (by omega) (by omega) (by omega) (by omega) (by omega) (by omega) (by omega)), c10.mv (fun q q0 q1 => g q (by omega)), h5, h6, c13, fun q q0 q1 => by rw [g q (by omega)]; exact c14 q q0 q1⟩
theorem k_add (l : Launch) (X : Cx) (w : Wo) (y : Nat) (σ : Int → Int) (nx sz : Int) (pas : Int → Int → Int) (ac : Int → Int) (N : Int) (fb : Int → Int) (sd xx yy co : Int) (hK : KT X w y σ nx sz pas ac N fb) (hfb : ∀ i, 0 ≤ i → i < N → 0 ≤ fb i ∧ fb i ≤ 255) (hw1 : (decide (1 ≤ N ∧ N ≤ 8) && al (fun i => decide (97 ≤ fb i ∧ fb i ≤ 122)) 0 N) = true) (hsd : sd = 0 ∨ sd = 1) (hco : 1 ≤ co ∧ co ≤ 6) (hx : 0 ≤ xx ∧ xx < 1000) (hy : 0 ≤ yy ∧ yy < 1000) (hop : σ 5 < 8) (hwy : whyS σ N sd xx yy (-1) = 0) : CM l X yX8_add cX8_add 7 (some (.int)) (rmk 5 128) [.ref y, .int (iI sd), .int (iI xx), .int (iI yy), .int (iI co)] w (some (.int (iI (σ 5)))) (fun w' => KS X w' y (adS σ N sd xx yy co fb) ((if nx = 8 then 0 else nx) + 1) (min 8 (sz + 1)) (keepP sz pas σ) (up ac 0 (ac 0 + 1)) ∧ ∀ (q : Nat) (e : va_E), w q = some e → outY y q → w' q = some e) := by
  obtain ⟨su, M, oo, rv, hC⟩ := hK
  have hC0 := hC
  obtain ⟨hN, hY, hL, hH, hac, hB, hT, hWB, hWT, hR, hds, hsc, ⟨am, ham⟩, ⟨n0, sd0, x0, y0, co0, f0, hv⟩, hM, hsv⟩ := hC
  exact (c_X8_add l X w y su ac σ nx sz pas n0 sd0 x0 y0 co0 f0 N fb sd xx yy co hY hac hL hH hv hB hT hN hfb hw1 hsd hco (by omega) (by omega) hop hwy).imp (fun w' h => by
    obtain ⟨hc1, hb9, hc2, ha, h2, h1, hf⟩ := h
    exact ⟨⟨su, fb, M, oo, rv, KT.act hC0 (fun q q0 q1 q2 q3 q4 q5 q6 q7 q8 => hf q (by omega) (by omega) (by omega) (by omega) (by omega) (by omega)) h1 h2 ha (hb9) (⟨_, (hf (y + 306) (by omega) (by omega) (by omega) (by omega) (by omega) (by omega)).trans ham⟩) (⟨_, _, _, _, _, _, ⟨hc1, hc2⟩⟩)⟩, fun q e h9 ho => (by unfold outY at ho; exact (hf q (by omega) (by omega) (by omega) (by omega) (by omega) (by omega)).trans h9)⟩)
theorem k_add_r4 (l : Launch) (X : Cx) (w : Wo) (y : Nat) (σ : Int → Int) (nx sz : Int) (pas : Int → Int → Int) (ac : Int → Int) (N : Int) (fb : Int → Int) (sd xx yy co : Int) (hK : KT X w y σ nx sz pas ac N fb) (hfb : ∀ i, 0 ≤ i → i < N → 0 ≤ fb i ∧ fb i ≤ 255) (hw1 : (decide (1 ≤ N ∧ N ≤ 8) && al (fun i => decide (97 ≤ fb i ∧ fb i ≤ 122)) 0 N) = true) (hsd : sd = 0 ∨ sd = 1) (hco : 1 ≤ co ∧ co ≤ 6) (hx : 0 ≤ xx ∧ xx < 1000) (hy : 0 ≤ yy ∧ yy < 1000) (hop : σ 5 = 8) : CM l X yX8_add cX8_add 7 (some (.int)) (rmk 5 128) [.ref y, .int (iI sd), .int (iI xx), .int (iI yy), .int (iI co)] w (some (.int (iI (-4)))) (fun w' => KS X w' y σ nx sz pas (up ac 4 (ac 4 + 1)) ∧ ∀ (q : Nat) (e : va_E), w q = some e → outY y q → w' q = some e) := by
  obtain ⟨su, M, oo, rv, hC⟩ := hK
  have hC0 := hC
  obtain ⟨hN, hY, hL, hH, hac, hB, hT, hWB, hWT, hR, hds, hsc, ⟨am, ham⟩, ⟨n0, sd0, x0, y0, co0, f0, hv⟩, hM, hsv⟩ := hC
  exact (c_add_r4 l X w y su ac σ nx sz pas n0 sd0 x0 y0 co0 f0 N fb sd xx yy co hY hac hL hH hv hB hT hN hfb hw1 hsd hco hop).imp (fun w' h => by
    obtain ⟨hc1, hb9, hc2, ha, hf⟩ := h
    exact ⟨⟨su, fb, M, oo, rv, KT.act hC0 (fun q q0 q1 q2 q3 q4 q5 q6 q7 q8 => hf q (by omega) (by omega) (by omega) (by omega)) (hL.mv (fun q q0 q1 => hf q (by omega) (by omega) (by omega) (by omega))) (hH.mv (fun q q0 q1 => hf q (by omega) (by omega) (by omega) (by omega))) ha (hb9) (⟨_, (hf (y + 306) (by omega) (by omega) (by omega) (by omega)).trans ham⟩) (⟨_, _, _, _, _, _, ⟨hc1, hc2⟩⟩)⟩, fun q e h9 ho => (by unfold outY at ho; exact (hf q (by omega) (by omega) (by omega) (by omega)).trans h9)⟩)
theorem k_add_r (l : Launch) (X : Cx) (w : Wo) (y : Nat) (σ : Int → Int) (nx sz : Int) (pas : Int → Int → Int) (ac : Int → Int) (N : Int) (fb : Int → Int) (sd xx yy co r9 : Int) (hK : KT X w y σ nx sz pas ac N fb) (hfb : ∀ i, 0 ≤ i → i < N → 0 ≤ fb i ∧ fb i ≤ 255) (hw1 : (decide (1 ≤ N ∧ N ≤ 8) && al (fun i => decide (97 ≤ fb i ∧ fb i ≤ 122)) 0 N) = true) (hsd : sd = 0 ∨ sd = 1) (hco : 1 ≤ co ∧ co ≤ 6) (hx : 0 ≤ xx ∧ xx < 1000) (hy : 0 ≤ yy ∧ yy < 1000) (hop : σ 5 < 8) (hwy : whyS σ N sd xx yy (-1) = r9) (hr9 : r9 = 5 ∨ r9 = 6) : CM l X yX8_add cX8_add 7 (some (.int)) (rmk 5 128) [.ref y, .int (iI sd), .int (iI xx), .int (iI yy), .int (iI co)] w (some (.int (iI (-r9)))) (fun w' => KS X w' y σ nx sz pas (up ac r9 (ac r9 + 1)) ∧ ∀ (q : Nat) (e : va_E), w q = some e → outY y q → w' q = some e) := by
  obtain ⟨su, M, oo, rv, hC⟩ := hK
  have hC0 := hC
  obtain ⟨hN, hY, hL, hH, hac, hB, hT, hWB, hWT, hR, hds, hsc, ⟨am, ham⟩, ⟨n0, sd0, x0, y0, co0, f0, hv⟩, hM, hsv⟩ := hC
  exact (c_add_r l X w y su ac σ nx sz pas n0 sd0 x0 y0 co0 f0 N fb sd xx yy co r9 hY hac hL hH hv hB hT hN hfb hw1 hsd hco (by omega) (by omega) hop hwy hr9).imp (fun w' h => by
    obtain ⟨hc1, hb9, hc2, ha, hf⟩ := h
    exact ⟨⟨su, fb, M, oo, rv, KT.act hC0 (fun q q0 q1 q2 q3 q4 q5 q6 q7 q8 => hf q (by omega) (by omega) (by omega) (by omega)) (hL.mv (fun q q0 q1 => hf q (by omega) (by omega) (by omega) (by omega))) (hH.mv (fun q q0 q1 => hf q (by omega) (by omega) (by omega) (by omega))) ha (hb9) (⟨_, (hf (y + 306) (by omega) (by omega) (by omega) (by omega)).trans ham⟩) (⟨_, _, _, _, _, _, ⟨hc1, hc2⟩⟩)⟩, fun q e h9 ho => (by unfold outY at ho; exact (hf q (by omega) (by omega) (by omega) (by omega)).trans h9)⟩)
