/-! ===== the two states go together while acts are run ===== -/
def reS (s : SR) (t : SC) : Prop := t.1 = s.2.1 ∧ (t.2.1 0 = s.1 8 ∧ t.2.1 8 = s.1 9 ∧ ∀ r, 1 ≤ r → r < 8 → t.2.1 r = s.2.2.2 r) ∧ t.2.2.2.1 = s.1 5 ∧ (0 ≤ s.1 5 ∧ s.1 5 ≤ 8) ∧ (∀ i, 0 ≤ i → i < s.1 5 → ∀ p, 0 ≤ p → p < 1317 → s.2.2.1 (1317 * i + p) = t.2.2.2.2 i p)
theorem re_ok {sc : Int → Int} {s : SR} {t : SC} {p : Int} (h : reS s t) : okC sc t p = okR sc s p := by
  unfold okC okR
  rw [h.1]
theorem re_step {sc : Int → Int} {s : SR} {t : SC} {p : Int} (h : reS s t) : reS (stR sc s p) (stC sc t p) := by
  obtain ⟨h1, ⟨h2, h3, h4⟩, h5, h6, h7⟩ := h
  obtain ⟨v, σ, pa, rf⟩ := s
  obtain ⟨τ, ac, nx, sz, pas⟩ := t
  have g1 : τ = σ := h1
  have g2 : ac 0 = v 8 := h2
  have g3 : ac 8 = v 9 := h3
  have g4 : ∀ r, 1 ≤ r → r < 8 → ac r = rf r := h4
  have g5 : sz = v 5 := h5
  have g6 : 0 ≤ v 5 ∧ v 5 ≤ 8 := h6
  have g7 : ∀ i, 0 ≤ i → i < v 5 → ∀ p, 0 ≤ p → p < 1317 → pa (1317 * i + p) = pas i p := h7
  clear h1 h2 h3 h4 h5 h6 h7
  subst g1
  subst g5
  generalize ek : sc (4 * p) = k
  generalize ea : sc (4 * p + 1) = a
  generalize eb : sc (4 * p + 2) = b
  generalize ec : sc (4 * p + 3) = c
  have e1 : stR sc ((v, τ, pa, rf) : SR) p = (dV v τ k a b c, dS τ k a b c, dP (v 5) pa τ k a b c, dF rf τ k a b c) := by
    unfold stR
    rw [ek, ea, eb, ec]
  have e2 : stC sc ((τ, ac, nx, v 5, pas) : SC) p = (dS τ k a b c, dA ac τ k a b c, dN nx τ k a b c, dZ (v 5) τ k a b c, dH (v 5) pas τ k a b c) := by
    unfold stC
    rw [ek, ea, eb, ec]
  rw [e1, e2]
  have hr := atR_r τ k a b c
  refine ⟨rfl, ⟨?_, ?_, fun r r1 r2 => ?_⟩, ?_, dV_5 g6, fun i i0 i1 q q0 q1 => ?_⟩
  · show dA ac τ k a b c 0 = dV v τ k a b c 8
    unfold dA dV
    by_cases hR : atR τ k a b c = 0
    · rw [if_pos hR, if_pos hR, up_n (by decide), up_s, up_n (by decide), up_s, g2]
    · rw [if_neg hR, if_neg hR, up_n (by omega), g2]
  · show dA ac τ k a b c 8 = dV v τ k a b c 9
    unfold dA dV
    by_cases hR : atR τ k a b c = 0
    · rw [if_pos hR, if_pos hR, up_s, up_s, g3]
    · rw [if_neg hR, if_neg hR, up_n (by omega), g3]
  · show dA ac τ k a b c r = dF rf τ k a b c r
    unfold dA dF
    by_cases hR : atR τ k a b c = 0
    · rw [if_pos hR, if_pos hR, up_n (by omega), up_n (by omega), g4 r r1 r2]
    · rw [if_neg hR, if_neg hR]
      by_cases gg : r = atR τ k a b c
      · rw [gg, up_s, up_s, g4 _ (by omega) (by omega)]
      · rw [up_n gg, up_n gg, g4 r r1 r2]
  · show dZ (v 5) τ k a b c = dV v τ k a b c 5
    unfold dZ dV
    by_cases hR : atR τ k a b c = 0
    · rw [if_pos hR, if_pos hR, up_n (by decide), up_n (by decide), up_s]
    · rw [if_neg hR, if_neg hR]
  · have i1 : i < dV v τ k a b c 5 := i1
    show dP (v 5) pa τ k a b c (1317 * i + q) = dH (v 5) pas τ k a b c i q
    unfold dP dH
    unfold dV at i1
    by_cases hR : atR τ k a b c = 0
    · rw [if_pos hR, if_pos hR]
      rw [if_pos hR, up_n (by decide), up_n (by decide), up_s] at i1
      exact actP_v g6 g7 i i0 i1 q q0 q1
    · rw [if_neg hR, if_neg hR]
      rw [if_neg hR] at i1
      exact g7 i i0 i1 q q0 q1
theorem re_run {sc : Int → Int} : ∀ (L : List Int) (n : Int) (s : SR) (t : SC), reS s t → (runL (okC sc) (stC sc) L n t).1 = (runL (okR sc) (stR sc) L n s).1 ∧ reS (runL (okR sc) (stR sc) L n s).2 (runL (okC sc) (stC sc) L n t).2
  | [], n, s, t, h => ⟨rfl, h⟩
  | p :: L, n, s, t, h => by
    by_cases hn : n < 200
    · cases ho : okR sc s p
      · rw [runL_f hn ho, runL_f hn ((re_ok h).trans ho)]
        exact ⟨rfl, re_step h⟩
      · rw [runL_s hn ho, runL_s hn ((re_ok h).trans ho)]
        exact re_run L (n + 1) _ _ (re_step h)
    · rw [runL_e hn, runL_e hn]
      exact ⟨rfl, h⟩
/-! ===== the acts of a script are what its lines say ===== -/
theorem Sg.inv {kd ar sc : Int → Int} {wd lo hi n : Int} {L : List Int} (h : Sg kd ar sc wd lo hi n L) : (lo = hi ∧ L = []) ∨ (okA kd ar sc wd lo ∧ ∃ n1 L1, Sg kd ar sc wd (lo + 1) hi n1 L1 ∧ L = lo :: L1) ∨ (sc (4 * lo) = 5 ∧ ∃ m n1 n2 L1 L2, Sg kd ar sc wd (lo + 1) m n1 L1 ∧ sc (4 * m) = 6 ∧ Sg kd ar sc wd (m + 1) hi n2 L2 ∧ L = (List.replicate (sc (4 * lo + 1)).toNat L1).flatten ++ L2) := by
  obtain ⟨f, h⟩ := h
  cases f with
  | zero => exact .inl ⟨h.1, h.2.2⟩
  | succ f =>
    rcases h with h | ⟨n1, L1, h1, h2, h3, h4⟩ | ⟨m, n1, n2, L1, L2, h1, h2, h3, h4, h5, h6, h7, h8, h9, h10, h11, h12⟩
    · exact .inl ⟨h.1, h.2.2⟩
    · exact .inr (.inl ⟨h1, n1, L1, ⟨f, h2⟩, h4⟩)
    · exact .inr (.inr ⟨h2, m, n1, n2, L1, L2, ⟨f, h4⟩, h6, ⟨f, h10⟩, h12⟩)
theorem Sg.uniq {kd ar kd' ar' sc : Int → Int} {wd ln lo m n : Int} {L : List Int} (h : Sg kd ar sc wd lo m n L) (hm : m = ln ∨ (m < ln ∧ sc (4 * m) = 6)) {m' n' : Int} {L' : List Int} (h' : Sg kd' ar' sc wd lo m' n' L') (hm' : m' = ln ∨ (m' < ln ∧ sc (4 * m') = 6)) : m = m' ∧ L = L' := by
  refine Sg.ind (P := fun lo m n L => (m = ln ∨ (m < ln ∧ sc (4 * m) = 6)) → ∀ m' n' L', Sg kd' ar' sc wd lo m' n' L' → (m' = ln ∨ (m' < ln ∧ sc (4 * m') = 6)) → m = m' ∧ L = L') (fun lo hm m' n' L' h' hm' => ?_) (fun lo m n L ho hs ih hm m' n' L' h' hm' => ?_) (fun lo c m n1 n2 L1 L2 h1 h2 h3 h4 h5 h6 h7 h8 h9 h10 ih1 ih2 hm m' n' L' h' hm' => ?_) h hm m' n' L' h' hm'
  · have l' := h'.le
    rcases h'.inv with ⟨e1, e2⟩ | ⟨ho, n1, L1, g1, g2⟩ | ⟨g0, c, n1, n2, L1, L2, g1, g2, g3, g4⟩
    · exact ⟨e1, e2.symm⟩
    · have k := okP_k (okA_P ho)
      have l1 := g1.le
      exfalso
      omega
    · have l1 := g1.le
      have l3 := g3.le
      exfalso
      omega
  · have k := okP_k (okA_P ho)
    have l := hs.le
    rcases h'.inv with ⟨e1, e2⟩ | ⟨ho', n1, L1, g1, g2⟩ | ⟨g0, c, n1, n2, L1, L2, g1, g2, g3, g4⟩
    · exfalso
      subst e1
      omega
    · obtain ⟨e1, e2⟩ := ih hm m' n1 L1 g1 hm'
      exact ⟨e1, by rw [g2, e2]⟩
    · exfalso
      omega
  · have l4 := h4.le
    have l10 := h10.le
    rcases h'.inv with ⟨e1, e2⟩ | ⟨ho', n1, L1, g1, g2⟩ | ⟨g0, c', n1', n2', L1', L2', g1, g2, g3, g4⟩
    · exfalso
      subst e1
      omega
    · have k := okP_k (okA_P ho')
      exfalso
      omega
    · have l1 := g1.le
      have l3 := g3.le
      obtain ⟨e1, e2⟩ := ih1 (.inr ⟨by omega, h6⟩) c' n1' L1' g1 (.inr ⟨by omega, g2⟩)
      subst e1
      obtain ⟨e3, e4⟩ := ih2 hm m' n2' L2' g3 hm'
      exact ⟨e3, by rw [g4, e2, e4]⟩
