/-! ===== a design is drawn: the own cloth, the class's object and the text that is made ===== -/
theorem pw_up {mk k : Int} (h : mk < ((2 ^ k.toNat : Nat) : Int)) (k0 : 0 ≤ k) : mk < ((2 ^ (k + 1).toNat : Nat) : Int) := by
  have h2 : (2 ^ k.toNat : Nat) ≤ 2 ^ (k + 1).toNat := Nat.pow_le_pow_right (by decide) (by omega)
  omega
theorem ownP.ex {X : Cx} {v v2 : Wo} {h : Nat} {σ : Int → Int} {st lc ec kc lr er kr : Nat} {cd rwa : Int → Nat} (hP : ownP X v h σ st lc ec kc lr er kr cd rwa) (g : ext v v2) : ownP X v2 h σ st lc ec kc lr er kr cd rwa := by
  obtain ⟨p1, p2, p3, p4, p5, p6, p7, p8, p9, p10, p11, p12, p13⟩ := hP
  exact ⟨g _ _ p1, p2.k (P := fun _ => False) (fun q e h9 _ => g q e h9) (fun _ _ z => z), p3.ex g, p4, p5.k (P := fun _ => False) (fun q e h9 _ => g q e h9) (fun _ _ _ z => z) (fun _ _ _ _ z => z) (fun _ _ _ z => z), p6.ex g, p7, p8.k (P := fun _ => False) (fun q e h9 _ => g q e h9) (fun _ _ _ _ _ z => z), p9, p10, p11, p12, p13⟩
def TB (X : Cx) (w : Wo) (y gq u0 b h : Nat) (σ σ0 : Int → Int) (nx sz : Int) (pas : Int → Int → Int) (ac : Int → Int) : Prop := ownN X w (NK y gq u0 b) h σ ∧ KS X w y σ0 nx sz pas ac ∧ (∀ q, y ≤ q → q < y + 321 → q ≠ u0 ∧ q ≠ b) ∧ gq ≠ u0 ∧ gq ≠ b
section TBS
variable {X : Cx} {w w2 : Wo} {y gq u0 b h : Nat} {σ σ0 ac : Int → Int} {nx sz : Int} {pas : Int → Int → Int}
theorem TB.go (hT : TB X w y gq u0 b h σ σ0 nx sz pas ac) (hx : ∀ (q : Nat) (e : va_E), w q = some e → q ≠ gq → w2 q = some e) {e1 : va_E} (hg : w2 gq = some e1) (ho : outY y gq) (h3 : w2 (X.2.2 3) = none) : TB X w2 y gq u0 b h σ σ0 nx sz pas ac := by
  obtain ⟨hO, hK, hn⟩ := hT
  refine ⟨hO.mw (fun q e h9 hq => ⟨hx q e h9 (fun z => hq (Or.inr (Or.inl z))), hq⟩) (fun q hq => ?_) h3, hK.ex (fun q e q0 q1 h9 => hx q e h9 (ho.ne q0 q1)), hn⟩
  by_cases hqg : q = gq
  · rw [hqg, hg]; simp
  · exact kn_x (hO.2.1 q hq) (fun e h9 => hx q e h9 hqg)
theorem TB.sb {b2 : Nat} (hT : TB X w y gq u0 b h σ σ0 nx sz pas ac) (hx : ∀ (q : Nat) (e : va_E), w q = some e → q ≠ u0 → q ≠ b → w2 q = some e) (hb : b2 = b ∨ frs w b2) {e1 e2 : va_E} (hu : w2 u0 = some e1) (hb2 : w2 b2 = some e2) (h3 : w2 (X.2.2 3) = none) : TB X w2 y gq u0 b2 h σ σ0 nx sz pas ac := by
  obtain ⟨hO, hK, hn, hg1, hg2⟩ := hT
  have hb9 : ∀ q, w q ≠ none → q ≠ b → q ≠ b2 := fun q hq hqb => by
    cases hw : w q with
    | none => exact absurd hw hq
    | some e => exact sb_ne hb hw hqb
  refine ⟨hO.mw (fun q e h9 hq => ⟨hx q e h9 (fun z => hq (Or.inr (Or.inr (Or.inl z)))) (fun z => hq (Or.inr (Or.inr (Or.inr z)))), fun hq2 => ?_⟩) (fun q hq => ?_) h3, hK.ex (fun q e q0 q1 h9 => hx q e h9 (hn q q0 q1).1 (hn q q0 q1).2), fun q q0 q1 => ⟨(hn q q0 q1).1, hb9 q (hK.kn q q0 q1) (hn q q0 q1).2⟩, hg1, hb9 gq (hO.2.1 gq (Or.inr (Or.inl rfl))) hg2⟩
  · rcases hq2 with z | z | z | z
    · exact hq (Or.inl z)
    · exact hq (Or.inr (Or.inl z))
    · exact hq (Or.inr (Or.inr (Or.inl z)))
    · exact hb9 q (kn_e h9) (fun z2 => hq (Or.inr (Or.inr (Or.inr z2)))) z
  · rcases hq with z | z | z | z
    · exact kn_x (hK.kn q z.1 z.2) (fun e h9 => hx q e h9 (hn q z.1 z.2).1 (hn q z.1 z.2).2)
    · rw [z]; exact kn_x (hO.2.1 gq (Or.inr (Or.inl rfl))) (fun e h9 => hx gq e h9 hg1 hg2)
    · rw [z, hu]; simp
    · rw [z, hb2]; simp
/-- the own cloth has changed -/
theorem TB.ow {τ : Int → Int} (hT : TB X w y gq u0 b h σ σ0 nx sz pas ac) (hA : ownA X (wr w2 (NK y gq u0 b)) h τ) (hx : ∀ (q : Nat) (e : va_E), w q = some e → NK y gq u0 b q → w2 q = some e) (h3 : w2 (X.2.2 3) = none) : TB X w2 y gq u0 b h τ σ0 nx sz pas ac := by
  obtain ⟨hO, hK, hn⟩ := hT
  have hk : ∀ q, NK y gq u0 b q → w2 q ≠ none := fun q hq => kn_x (hO.2.1 q hq) (fun e h9 => hx q e h9 hq)
  exact ⟨⟨hA, hk, fun z => hk _ z h3⟩, hK.ex (fun q e q0 q1 h9 => hx q e h9 (Or.inl ⟨q0, q1⟩)), hn⟩
variable {st lc ec kc lr er kr : Nat} {cd rwa : Int → Nat}
theorem TB.sk {fs : Int → Int} {k x : Int} (hT : TB X w y gq u0 b h σ σ0 nx sz pas ac) (hP : ownP X (wr w (NK y gq u0 b)) h σ st lc ec kc lr er kr cd rwa) (hX : X.2.1 0 ≠ X.2.1 2) (hf : ∀ c, 0 ≤ c → c < 7 → fs c = σ (6 + c)) (hn : ∀ q, q ≠ st → w2 q = w q) (h2 : w2 st = some (aZ X 7 (up fs k x))) (hk : 0 ≤ k ∧ k < 7) (hxr : 0 ≤ x ∧ x ≤ 9999) (h3 : w2 (X.2.2 3) = none) : TB X w2 y gq u0 b h (up σ (6 + k) x) σ0 nx sz pas ac := by
  have hW : WF σ := hP.2.2.2.2.2.2.2.2.2.1.1
  obtain ⟨f9, h2w, -⟩ := hP.2.1
  have hsN := (wr_some.mp h2w).1
  have hWτ := st_W hW (k := k) (x := x) (by omega) hxr
  have hPt := hP.stk (τ := up σ (6 + k) x) hX (fun q e h9 hq => wr_some.mpr ⟨(wr_some.mp h9).1, (hn q hq).trans (wr_some.mp h9).2⟩) (wr_some.mpr ⟨hsN, h2⟩) (fun p hp => up_n (by omega)) (fun c c0 c1 => by
    by_cases hc : c = k
    · rw [hc, up_s, up_s]
    · rw [up_n hc, up_n (by omega)]; exact hf c c0 c1) hWτ
  exact hT.ow hPt.A (fun q e h9 hq => (hn q (fun z => hsN (z ▸ hq))).trans h9) h3
theorem TB.dl {D : Int} {h2 : List Value} (hT : TB X w y gq u0 b h σ σ0 nx sz pas ac) (hP : ownP X (wr w (NK y gq u0 b)) h σ st lc ec kc lr er kr cd rwa) (hn : ∀ q, q ≠ h → w2 q = w q) (hh : w2 h = some (.inr (10, [.int (iI (σ 0)), .int (iI (σ 1)), .int (iI D), .int (iI (σ 3)), .ref st, .ref lc, .ref lr, .int (iI (bz (decide (σ 4 = σ 1))))]))) (hD : 0 ≤ D ∧ D ≤ 30) (h3 : w2 (X.2.2 3) = none) : TB X w2 y gq u0 b h (up σ 2 D) σ0 nx sz pas ac := by
  have hW : WF σ := hP.2.2.2.2.2.2.2.2.2.1.1
  have hsN := (wr_some.mp hP.1).1
  have hPt := hP.hd (τ := up σ 2 D) (fun q e h9 hq => wr_some.mpr ⟨(wr_some.mp h9).1, (hn q hq).trans (wr_some.mp h9).2⟩) (fun p p2 _ => up_n p2) (wr_some.mpr ⟨hsN, by rw [up_s, up_n (by decide), up_n (by decide), up_n (by decide), up_n (by decide)]; exact hh⟩) (de_W hW hD)
  exact hT.ow hPt.A (fun q e h9 hq => (hn q (fun z => hsN (z ▸ hq))).trans h9) h3
theorem TB.hg {fw : Int → Int} {c9 zw nw ec2 kc2 : Nat} {sd x yy co n : Int} (hT : TB X w y gq u0 b h σ σ0 nx sz pas ac) (hP : ownP X (wr w (NK y gq u0 b)) h σ st lc ec kc lr er kr cd rwa) (hker : w er ≠ none) (hn9 : n = (nw : Int)) (h5 : σ 5 < 8) (hn : 1 ≤ n ∧ n ≤ 8) (hsd : sd = 0 ∨ sd = 1) (hco : 1 ≤ co ∧ co ≤ 6) (hfw : ∀ j, 0 ≤ j → j < n → 97 ≤ fw j ∧ fw j ≤ 122) (hwy : whyS σ n sd x yy (-1) = 0)
    (hcK : ¬ NK y gq u0 b c9) (hc9 : w2 c9 = some (.inr (9, [.ref zw, .int (iI sd), .int (iI co), .int (iI x), .int (iI yy)]))) (hs : str X (wr w2 (NK y gq u0 b)) zw nw fw) (hck : ∀ k, 0 ≤ k → k < σ 5 → cd k ≠ c9) (hL2 : lstA X w2 lc ec2 kc2 (σ 5 + 1) (fun k => if k = σ 5 then c9 else cd k)) (hk2 : kc2 = 10) (he2 : (ec2 = ec ∧ 1 ≤ kc) ∨ frs w ec2) (hx : ∀ (q : Nat) (e : va_E), w q = some e → q ≠ lc → (q ≠ ec ∨ kc = 0) → w2 q = some e) (h3 : w2 (X.2.2 3) = none) : TB X w2 y gq u0 b h (rcS σ n sd x yy co fw 0) σ0 nx sz pas ac := by
  have hO := hT.1
  have hNl := hP.2.2.1.nN hO.2.2
  have hO2 := own_hang hP hker hO.2.1 h3 hO.2.2 hn9 h5 hn hsd hco hfw hwy hcK hc9 hs hck hL2 hk2 he2 hx
  exact hT.ow hO2.1 (fun q e h9 hq => hx q e h9 (fun z => hNl.1 (z ▸ hq)) (Or.inl (fun z => hNl.2 (z ▸ hq)))) h3
end TBS
theorem wr_kn {w : Wo} {N : Nat → Prop} {q : Nat} (h : wr w N q ≠ none) : ∃ _ : ¬ N q, w q ≠ none := by
  cases e : wr w N q with
  | none => exact absurd e h
  | some z => exact ⟨(wr_some.mp e).1, kn_e (wr_some.mp e).2⟩
