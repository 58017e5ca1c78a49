theorem sto_loom {X : Cx} {w w2 : Wo} {a : Nat} {σ t : Int → Int} {c x : Int} (h : loomAt X w a σ) (hc : 0 ≤ c ∧ c < 7) (hx : 0 ≤ x ∧ x ≤ 9999) (hte : ∀ c, 0 ≤ c → c < 7 → t c = σ (6 + c)) (ht : w2 (a + 5) = some (aZ X 7 (up t c x))) (hf : ∀ q : Nat, q ≠ a + 5 → w2 q = w q) : loomAt X w2 a (up σ (6 + c) x) := by
  have hA := h.1
  obtain ⟨gr, h2, h3⟩ := hA.2.1
  obtain ⟨gp, h4⟩ := hA.2.2.1
  have hu : ∀ p, p ≠ 6 + c → up σ (6 + c) x p = σ p := fun p hp => up_n hp
  have h8 := h.2.2.cap8
  have h81 := h8.1
  have w0 := h.2.2.1
  unfold WF0 at w0
  have hW : WF (up σ (6 + c) x) := by
    refine h.2.2.up (fun p p0 p1 p2 => hu p (by omega)) (by rw [hu 2 (by omega)]; omega) (by rw [hu 3 (by omega)]; omega) (by rw [hu 4 (by omega)]; omega) (fun k k0 k1 => ?_) (fun z r c0 c1 r0 r1 => ?_) (fun z r c0 c1 r0 r1 => ?_)
    · by_cases g : k = c
      · rw [g, up_s]; exact hx
      · rw [hu _ (by omega)]; exact h.2.2.2.1 k k0 k1
    · have e : cellS (up σ (6 + c) x) z r = cellS σ z r := hu _ (by omega)
      rw [e]; exact h.2.2.2.2.2.1 z r c0 c1 r0 r1
    · have e : cellS (up σ (6 + c) x) z r = cellS σ z r := hu _ (by omega)
      rw [hu 4 (by omega)] at r1
      rw [e]; exact h.2.2.2.2.2.2.1 z r c0 c1 r0 r1
  refine ⟨hA.up h8 ?_ ⟨gr, h2.mv (hf _ (by omega)) (hf _ (by omega)), fun i r c1 c2 c3 c4 => ?_⟩ ⟨gp, h4.mv (hf _ (by omega)) (hf _ (by omega))⟩ ⟨_, ht, fun k k0 k1 => ?_⟩ (fun q q0 q1 => hf q (by omega)) (fun k k0 k1 => ?_), h.2.1.up h8 (fun p p0 p1 p2 => hu p (by omega)) (hf _ (by omega)) (hf _ (by omega)), hW⟩
  · rw [hf a (by omega), hA.1]
    unfold lmF
    rw [hu 5 (by omega), hu 0 (by omega), hu 1 (by omega), hu 4 (by omega), hu 3 (by omega), hu 2 (by omega)]
  · rw [hu 0 (by omega)] at c2
    rw [hu 1 (by omega)] at c4
    exact (h3 i r c1 c2 c3 c4).trans (hu _ (by omega)).symm
  · by_cases g : k = c
    · rw [g, up_s, up_s]
    · rw [up_n g, hte k k0 k1, hu _ (by omega)]
  · rw [hu 5 (by omega)] at k1
    exact ⟨k1, fun j j0 j1 => hu _ (by omega)⟩
