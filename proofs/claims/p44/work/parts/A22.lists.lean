theorem c_lad (l : Launch) (X : Cx) (w : Wo) (a v ec kc : Nat) (n : Int) (cd : Int → Nat) (hL : lstA X w a ec kc n cd) (hn : 0 ≤ n ∧ n ≤ 13) (hk : kc = 0 ∨ kc = 10 ∨ kc = 15) (hel : ∀ k, 0 ≤ k → k < n → elO X w (cd k)) (hv : elO X w v) : CM l X yJx4a65c_add_9ea2d cJx4a65c_add_9ea2d 2 (some (.boolean)) (rmG 6 1 21 154) [.ref a, .ref v] w (some (.int (iI (bz true)))) (fun w' => ∃ (ec2 kc2 : Nat), (lstA X w' a ec2 kc2 (n + 1) (fun k => if k = n then v else cd k)) ∧ (kc2 = 10 ∨ kc2 = 15) ∧ ((kc = 0 ∨ kc = 10) → n < 10 → kc2 = 10) ∧ (ec2 = ec ∨ frs w ec2) ∧ (a ≠ ec2) ∧ ∀ (q : Nat) (e : va_E), w q = some e → q ≠ a → q ≠ ec → w' q = some e) := by
  obtain ⟨⟨mc, e1⟩, gc, e2, e3, e4⟩ := hL
  have hg : ∀ i y : Nat, (i : Int) < n → gc i = some y → y = cd i := fun i y hi hy => by
    have := e4 i (by omega) hi
    rw [show ((i : Nat) : Int).toNat = i by omega, hy] at this
    exact Option.some.inj this
  rcases e2 with ⟨rfl, rfl⟩ | ⟨e2, hk1⟩
  · have hn0 : n = 0 := by omega
    subst hn0
    refine CM.mono (c_lad_f l X w a v mc e1 hv) (fun w' hp => ?_)
    obtain ⟨q9, p1, p2, p3, p4⟩ := hp
    exact ⟨q9, 10, ⟨⟨_, p1⟩, _, Or.inr ⟨p2, by omega⟩, by omega, fun k k0 k1 => by rw [show k = 0 by omega]; rfl⟩, Or.inl rfl, fun _ _ => rfl, Or.inr p3, (fun e9 => by rw [← e9] at p3; exact absurd (p3 _ _ e1) (by omega)), fun q e h9 h1 _ => p4 q e h9 h1⟩
  · have hae : a ≠ ec := fun e9 => by rw [e9, e2] at e1; cases e1
    by_cases hlt : n < (kc : Int)
    · refine CM.mono (c_lad_r l X w a v ec mc n kc gc e1 e2 (by omega) hv) (fun w' hp => ?_)
      obtain ⟨p1, p2, p4⟩ := hp
      refine ⟨ec, kc, ⟨⟨_, p1⟩, _, Or.inr ⟨p2, hk1⟩, by omega, fun k k0 k1 => ?_⟩, by omega, fun h1 h2 => by omega, Or.inl rfl, hae, fun q e h9 h1 h2 => (p4 q h1 h2).trans h9⟩
      dsimp only
      by_cases hkn : k = n
      · rw [hkn, if_pos rfl]
        unfold va_up
        rw [if_pos rfl]
      · rw [if_neg hkn]
        unfold va_up
        rw [if_neg (by omega)]
        exact e4 k k0 (by omega)
    · have hk10 : kc = 10 := by omega
      subst hk10
      have hn10 : n = 10 := by omega
      subst hn10
      refine CM.mono (c_lad_g l X w a v ec mc gc e1 e2 (fun i y hi hy => by rw [hg i y (by omega) hy]; exact hel _ (by omega) (by omega)) hv) (fun w' hp => ?_)
      obtain ⟨q9, p1, p2, p3, p4⟩ := hp
      refine ⟨q9, 15, ⟨⟨_, p1⟩, _, Or.inr ⟨p2, by omega⟩, by omega, fun k k0 k1 => ?_⟩, Or.inr rfl, fun _ h2 => absurd h2 (by omega), Or.inr p3, (fun e9 => by rw [← e9] at p3; exact absurd (p3 _ _ e1) (by omega)), fun q e h9 h1 _ => p4 q e h9 h1⟩
      dsimp only
      by_cases hkn : k = 10
      · rw [hkn, if_pos rfl]
        rfl
      · rw [if_neg hkn]
        unfold va_up va_cpy
        rw [if_neg (by omega), if_pos (by omega)]
        rw [show 0 + (k.toNat - 0) = k.toNat by omega]
        exact e4 k k0 (by omega)
theorem c_lset (l : Launch) (X : Cx) (w : Wo) (a v ec kc : Nat) (n : Int) (cd : Int → Nat) (i : Int) (hL : lstA X w a ec kc n cd) (hi : 0 ≤ i ∧ i < n ∧ kc < 1000) (hv : elO X w v) : CM l X yJx4a65c_set_bcc79 cJx4a65c_set_bcc79 4 (some (.object "java/lang/Object")) (rmG 2 0 0 43) [.ref a, .int (iI i), .ref v] w (some (.ref (cd i))) (fun w' => (lstA X w' a ec kc n (fun k => if k = i then v else cd k)) ∧ ∀ (q : Nat) (e : va_E), w q = some e → q ≠ ec → w' q = some e) := by
  obtain ⟨⟨mc, e1⟩, gc, e2, e3, e4⟩ := hL
  rcases e2 with ⟨rfl, rfl⟩ | ⟨e2, hk1⟩
  · exact absurd e3 (by omega)
  · refine CM.mono (c_Jx4a65c_set_bcc79 l X w a v ec mc n kc gc i (cd i) e1 e2 (by omega) (e4 i hi.1 hi.2.1) hv) (fun w' hp => ?_)
    obtain ⟨p2, p4⟩ := hp
    have hae : a ≠ ec := fun e9 => by rw [e9, e2] at e1; cases e1
    refine ⟨⟨⟨mc, (p4 a hae).trans e1⟩, _, Or.inr ⟨p2, hk1⟩, e3, fun k k0 k1 => ?_⟩, fun q e h9 h1 => (p4 q h1).trans h9⟩
    dsimp only
    by_cases hkn : k = i
    · rw [hkn, if_pos rfl]
      unfold va_up
      rw [if_pos rfl]
    · rw [if_neg hkn]
      unfold va_up
      rw [if_neg (by omega)]
      exact e4 k k0 k1
theorem c_lrm (l : Launch) (X : Cx) (w : Wo) (a ec kc : Nat) (n : Int) (cd : Int → Nat) (i : Int) (hL : lstA X w a ec kc n cd) (hi : 0 ≤ i ∧ i < n ∧ kc < 1000) (hel : ∀ k, 0 ≤ k → k < n → elO X w (cd k)) : CM l X yJx4a65c_remove_915e3 cJx4a65c_remove_915e3 4 (some (.object "java/lang/Object")) (rmG 2 0 0 67) [.ref a, .int (iI i)] w (some (.ref (cd i))) (fun w' => (lstA X w' a ec kc (n - 1) (fun k => if k < i then cd k else cd (k + 1))) ∧ ∀ (q : Nat) (e : va_E), w q = some e → q ≠ a → q ≠ ec → w' q = some e) := by
  obtain ⟨⟨mc, e1⟩, gc, e2, e3, e4⟩ := hL
  rcases e2 with ⟨rfl, rfl⟩ | ⟨e2, hk1⟩
  · exact absurd e3 (by omega)
  · refine CM.mono (c_Jx4a65c_remove_915e3 l X w a ec mc n kc gc i (cd i) e1 e2 (by omega) (e4 i hi.1 hi.2.1) (fun j y hj hy => ?_)) (fun w' hp => ?_)
    · have := e4 j (by omega) hj
      rw [show ((j : Nat) : Int).toNat = j by omega, hy] at this
      rw [Option.some.inj this]
      exact hel j (by omega) hj
    · obtain ⟨g9, p1, p2, p3, p4⟩ := hp
      refine ⟨⟨⟨_, p1⟩, g9, Or.inr ⟨p2, hk1⟩, by omega, fun k k0 k1 => ?_⟩, p4⟩
      rw [p3 k k0 k1]
      dsimp only
      by_cases hki : k < i
      · rw [if_pos hki, if_pos hki]
        exact e4 k k0 (by omega)
      · rw [if_neg hki, if_neg hki]
        exact e4 (k + 1) (by omega) (by omega)
