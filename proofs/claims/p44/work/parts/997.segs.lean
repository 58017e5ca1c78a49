/-! ===== scripts as they lie in the arrays of both ===== -/
def okA (kd ar sc : Int → Int) (wd p : Int) : Prop := kd p = sc (4 * p) ∧ ((sc (4 * p) = 0 ∧ ar (3 * p) = sc (4 * p + 1) ∧ ar (3 * p + 1) = sc (4 * p + 2) ∧ ar (3 * p + 2) = sc (4 * p + 3) ∧ (0 ≤ sc (4 * p + 1) ∧ sc (4 * p + 1) ≤ 6) ∧ (0 ≤ sc (4 * p + 2) ∧ sc (4 * p + 2) ≤ sc (4 * p + 3) ∧ sc (4 * p + 3) < wd)) ∨ sc (4 * p) = 1 ∨ (sc (4 * p) = 2 ∧ ar (3 * p) = sc (4 * p + 1) ∧ ar (3 * p + 1) = sc (4 * p + 2) ∧ (1 ≤ sc (4 * p + 1) ∧ sc (4 * p + 1) ≤ 30) ∧ (sc (4 * p + 2) = 0 ∨ sc (4 * p + 2) = 1)) ∨ (sc (4 * p) = 3 ∧ ar (3 * p) = sc (4 * p + 1) ∧ (0 ≤ sc (4 * p + 1) ∧ sc (4 * p + 1) ≤ 30)) ∨ sc (4 * p) = 4)
def SgF (kd ar sc : Int → Int) (wd : Int) : Nat → Int → Int → Int → List Int → Prop
  | 0, lo, hi, n, L => lo = hi ∧ n = 0 ∧ L = []
  | f + 1, lo, hi, n, L => (lo = hi ∧ n = 0 ∧ L = []) ∨ (∃ n1 L1, okA kd ar sc wd lo ∧ SgF kd ar sc wd f (lo + 1) hi n1 L1 ∧ n = n1 + 1 ∧ L = lo :: L1) ∨ (∃ m n1 n2 L1 L2, kd lo = 5 ∧ sc (4 * lo) = 5 ∧ (1 ≤ sc (4 * lo + 1) ∧ sc (4 * lo + 1) ≤ 20) ∧ SgF kd ar sc wd f (lo + 1) m n1 L1 ∧ kd m = 6 ∧ sc (4 * m) = 6 ∧ ar (3 * m) = lo ∧ ar (3 * lo + 1) = m ∧ ar (3 * lo) = (if n1 = 0 then 0 else sc (4 * lo + 1)) ∧ SgF kd ar sc wd f (m + 1) hi n2 L2 ∧ n = n1 + n2 ∧ L = (List.replicate (sc (4 * lo + 1)).toNat L1).flatten ++ L2)
/-- the lines lo .. hi - 1 are a whole piece of a script; n acts stand in it; L = the lines of its acts as they come when it runs -/
def Sg (kd ar sc : Int → Int) (wd lo hi n : Int) (L : List Int) : Prop := ∃ f, SgF kd ar sc wd f lo hi n L
theorem SgF.mono {kd ar sc : Int → Int} {wd : Int} : ∀ {f : Nat} {lo hi n : Int} {L : List Int}, SgF kd ar sc wd f lo hi n L → SgF kd ar sc wd (f + 1) lo hi n L
  | 0, lo, hi, n, L, h => .inl h
  | f + 1, lo, hi, n, L, h => by
    rcases h with h | ⟨n1, L1, h1, h2, h3⟩ | ⟨m, n1, n2, L1, L2, h1, h2, h3, h4, h5, h6, h7, h8, h9, h10, h11⟩
    · exact .inl h
    · exact .inr (.inl ⟨n1, L1, h1, SgF.mono h2, h3⟩)
    · exact .inr (.inr ⟨m, n1, n2, L1, L2, h1, h2, h3, SgF.mono h4, h5, h6, h7, h8, h9, SgF.mono h10, h11⟩)
theorem SgF.up {kd ar sc : Int → Int} {wd : Int} {f : Nat} {lo hi n : Int} {L : List Int} (h : SgF kd ar sc wd f lo hi n L) : ∀ k : Nat, SgF kd ar sc wd (f + k) lo hi n L
  | 0 => h
  | k + 1 => (h.up k).mono
theorem Sg.nil {kd ar sc : Int → Int} {wd : Int} (lo : Int) : Sg kd ar sc wd lo lo 0 [] := ⟨0, rfl, rfl, rfl⟩
theorem Sg.act {kd ar sc : Int → Int} {wd lo hi n : Int} {L : List Int} (h1 : okA kd ar sc wd lo) (h2 : Sg kd ar sc wd (lo + 1) hi n L) : Sg kd ar sc wd lo hi (n + 1) (lo :: L) := by
  obtain ⟨f, h2⟩ := h2
  exact ⟨f + 1, .inr (.inl ⟨_, _, h1, h2, rfl, rfl⟩)⟩
theorem Sg.rep {kd ar sc : Int → Int} {wd lo m hi n1 n2 : Int} {L1 L2 : List Int} (h1 : kd lo = 5) (h2 : sc (4 * lo) = 5) (h3 : 1 ≤ sc (4 * lo + 1) ∧ sc (4 * lo + 1) ≤ 20) (h4 : Sg kd ar sc wd (lo + 1) m n1 L1) (h5 : kd m = 6) (h6 : sc (4 * m) = 6) (h7 : ar (3 * m) = lo) (h8 : ar (3 * lo + 1) = m) (h9 : ar (3 * lo) = (if n1 = 0 then 0 else sc (4 * lo + 1))) (h10 : Sg kd ar sc wd (m + 1) hi n2 L2) : Sg kd ar sc wd lo hi (n1 + n2) ((List.replicate (sc (4 * lo + 1)).toNat L1).flatten ++ L2) := by
  obtain ⟨f, h4⟩ := h4
  obtain ⟨g, h10⟩ := h10
  have h4' := h4.up g
  have h10' := h10.up f
  rw [Nat.add_comm] at h10'
  exact ⟨f + g + 1, .inr (.inr ⟨m, n1, n2, L1, L2, h1, h2, h3, h4', h5, h6, h7, h8, h9, h10', rfl, rfl⟩)⟩
theorem Sg.ind {kd ar sc : Int → Int} {wd : Int} {P : Int → Int → Int → List Int → Prop} (h0 : ∀ lo, P lo lo 0 []) (h1 : ∀ lo hi n L, okA kd ar sc wd lo → Sg kd ar sc wd (lo + 1) hi n L → P (lo + 1) hi n L → P lo hi (n + 1) (lo :: L)) (h2 : ∀ lo m hi n1 n2 L1 L2, kd lo = 5 → sc (4 * lo) = 5 → (1 ≤ sc (4 * lo + 1) ∧ sc (4 * lo + 1) ≤ 20) → Sg kd ar sc wd (lo + 1) m n1 L1 → kd m = 6 → sc (4 * m) = 6 → ar (3 * m) = lo → ar (3 * lo + 1) = m → ar (3 * lo) = (if n1 = 0 then 0 else sc (4 * lo + 1)) → Sg kd ar sc wd (m + 1) hi n2 L2 → P (lo + 1) m n1 L1 → P (m + 1) hi n2 L2 → P lo hi (n1 + n2) ((List.replicate (sc (4 * lo + 1)).toNat L1).flatten ++ L2)) : ∀ {lo hi n : Int} {L : List Int}, Sg kd ar sc wd lo hi n L → P lo hi n L := by
  have hF : ∀ (f : Nat) (lo hi n : Int) (L : List Int), SgF kd ar sc wd f lo hi n L → P lo hi n L := by
    intro f
    induction f with
    | zero =>
      intro lo hi n L h
      obtain ⟨e1, e2, e3⟩ := h
      subst e1
      subst e2
      subst e3
      exact h0 lo
    | succ f ih =>
      intro lo hi n L h
      rcases h with ⟨e1, e2, e3⟩ | ⟨n1, L1, g1, g2, g3, g4⟩ | ⟨m, n1, n2, L1, L2, g1, g2, g3, g4, g5, g6, g7, g8, g9, g10, g11, g12⟩
      · subst e1
        subst e2
        subst e3
        exact h0 lo
      · subst g3
        subst g4
        exact h1 lo hi n1 L1 g1 ⟨f, g2⟩ (ih _ _ _ _ g2)
      · subst g11
        subst g12
        exact h2 lo m hi n1 n2 L1 L2 g1 g2 g3 ⟨f, g4⟩ g5 g6 g7 g8 g9 ⟨f, g10⟩ (ih _ _ _ _ g4) (ih _ _ _ _ g10)
  intro lo hi n L h
  obtain ⟨f, h⟩ := h
  exact hF f lo hi n L h
theorem Sg.le {kd ar sc : Int → Int} {wd lo hi n : Int} {L : List Int} (h : Sg kd ar sc wd lo hi n L) : lo ≤ hi ∧ 0 ≤ n := by
  refine Sg.ind (P := fun lo hi n _ => lo ≤ hi ∧ 0 ≤ n) (fun lo => ?_) (fun lo hi n L _ _ ih => ?_) (fun lo m hi n1 n2 L1 L2 _ _ _ _ _ _ _ _ _ _ ih1 ih2 => ?_) h <;> omega
theorem Sg.app {kd ar sc : Int → Int} {wd lo m n : Int} {L : List Int} (h : Sg kd ar sc wd lo m n L) {hi n2 : Int} {L2 : List Int} (g : Sg kd ar sc wd m hi n2 L2) : Sg kd ar sc wd lo hi (n + n2) (L ++ L2) := by
  refine Sg.ind (P := fun lo m n L => ∀ {hi n2 : Int} {L2 : List Int}, Sg kd ar sc wd m hi n2 L2 → Sg kd ar sc wd lo hi (n + n2) (L ++ L2)) (fun lo hi n2 L2 g => ?_) (fun lo hi n L ho _ ih h2 n2 L2 g => ?_) (fun lo m hi n1 n2 L1 L2 h1 h2 h3 h4 h5 h6 h7 h8 h9 _ _ ih2 h22 n22 L22 g => ?_) h g
  · rw [Int.zero_add]; exact g
  · rw [Int.add_right_comm]
    exact Sg.act ho (ih g)
  · rw [Int.add_assoc, List.append_assoc]
    exact Sg.rep h1 h2 h3 h4 h5 h6 h7 h8 h9 (ih2 g)
def agr (kd ar sc kd' ar' sc' : Int → Int) (p : Int) : Prop := kd' p = kd p ∧ (ar' (3 * p) = ar (3 * p) ∧ ar' (3 * p + 1) = ar (3 * p + 1) ∧ ar' (3 * p + 2) = ar (3 * p + 2)) ∧ (sc' (4 * p) = sc (4 * p) ∧ sc' (4 * p + 1) = sc (4 * p + 1) ∧ sc' (4 * p + 2) = sc (4 * p + 2) ∧ sc' (4 * p + 3) = sc (4 * p + 3))
theorem Sg.cg {kd ar sc kd' ar' sc' : Int → Int} {wd lo hi n : Int} {L : List Int} (h : Sg kd ar sc wd lo hi n L) (g : ∀ p, lo ≤ p → p < hi → agr kd ar sc kd' ar' sc' p) : Sg kd' ar' sc' wd lo hi n L := by
  refine Sg.ind (P := fun lo hi n L => (∀ p, lo ≤ p → p < hi → agr kd ar sc kd' ar' sc' p) → Sg kd' ar' sc' wd lo hi n L) (fun lo _ => Sg.nil lo) (fun lo hi n L ho hs ih g => ?_) (fun lo m hi n1 n2 L1 L2 h1 h2 h3 h4 h5 h6 h7 h8 h9 h10 ih1 ih2 g => ?_) h g
  · have h2 := hs.le
    obtain ⟨g1, ⟨g2, g3, g4⟩, g5, g6, g7, g8⟩ := g lo (Int.le_refl _) (by omega)
    refine Sg.act ?_ (ih (fun p p0 p1 => g p (by omega) p1))
    unfold okA at ho ⊢
    rw [g1, g2, g3, g4, g5, g6, g7, g8]
    exact ho
  · have l1 := h4.le
    have l2 := h10.le
    obtain ⟨g1, ⟨g2, g3, g4⟩, g5, g6, g7, g8⟩ := g lo (Int.le_refl _) (by omega)
    obtain ⟨k1, ⟨k2, k3, k4⟩, k5, k6, k7, k8⟩ := g m (by omega) (by omega)
    have := Sg.rep (kd := kd') (ar := ar') (sc := sc') (wd := wd) (g1.trans h1) (g5.trans h2) (by rw [g6]; exact h3) (ih1 (fun p p0 p1 => g p (by omega) (by omega))) (k1.trans h5) (k5.trans h6) (k2.trans h7) (g3.trans h8) (by rw [g2, g6]; exact h9) (ih2 (fun p p0 p1 => g p (by omega) p1))
    rw [g6] at this
    exact this
theorem Sg.z {kd ar sc : Int → Int} {wd lo hi n : Int} {L : List Int} (h : Sg kd ar sc wd lo hi n L) : n = 0 ↔ L = [] := by
  refine Sg.ind (P := fun lo hi n L => n = 0 ↔ L = []) (fun lo => by simp) (fun lo hi n L _ hs _ => ?_) (fun lo m hi n1 n2 L1 L2 _ _ h3 h4 _ _ _ _ _ h10 ih1 ih2 => ?_) h
  · have := hs.le
    constructor
    · intro z; omega
    · intro z; cases z
  · have l1 := h4.le
    have l2 := h10.le
    constructor
    · intro z
      rw [ih1.mp (by omega), ih2.mp (by omega)]
      simp
    · intro z
      rw [List.append_eq_nil_iff, List.flatten_eq_nil_iff] at z
      have e1 := ih1.mpr (z.1 _ (List.mem_replicate.mpr ⟨by omega, rfl⟩))
      have e2 := ih2.mpr z.2
      omega
/-- what lies there while k repeats are open -/
def Op (kd ar sc : Int → Int) (wd : Int) (op ah : Int → Int) : Nat → Int → Int → Prop
  | 0, s, n => ∃ L, Sg kd ar sc wd 0 s n L
  | k + 1, s, n => Op kd ar sc wd op ah k (op k) (ah k) ∧ kd (op k) = 5 ∧ sc (4 * op k) = 5 ∧ (1 ≤ sc (4 * op k + 1) ∧ sc (4 * op k + 1) ≤ 20) ∧ ar (3 * op k) = sc (4 * op k + 1) ∧ ∃ n1 L, Sg kd ar sc wd (op k + 1) s n1 L ∧ n = ah k + n1
theorem Op.le {kd ar sc op ah : Int → Int} {wd : Int} : ∀ {k : Nat} {s n : Int}, Op kd ar sc wd op ah k s n → 0 ≤ s ∧ 0 ≤ n ∧ (k : Int) ≤ s
  | 0, s, n, ⟨L, h⟩ => by
    have := h.le
    omega
  | k + 1, s, n, ⟨h1, _, _, _, _, n1, L, h2, h3⟩ => by
    have l1 := Op.le h1
    have l2 := h2.le
    omega
theorem Op.cg {kd ar sc op ah kd' ar' sc' op' ah' : Int → Int} {wd : Int} : ∀ {k : Nat} {s n : Int}, Op kd ar sc wd op ah k s n → (∀ p, 0 ≤ p → p < s → agr kd ar sc kd' ar' sc' p) → (∀ i : Int, 0 ≤ i → i < k → op' i = op i ∧ ah' i = ah i) → Op kd' ar' sc' wd op' ah' k s n
  | 0, s, n, ⟨L, h⟩, g, _ => ⟨L, h.cg g⟩
  | k + 1, s, n, ⟨h1, h2, h3, h4, h5, n1, L, h6, h7⟩, g, go => by
    have l1 := Op.le h1
    have l6 := h6.le
    obtain ⟨e1, e2⟩ := go (k : Int) (by omega) (by omega)
    obtain ⟨g1, ⟨g2, g3, g4⟩, g5, g6, g7, g8⟩ := g (op k) l1.1 (by omega)
    unfold Op
    rw [e1, e2, g1, g5, g6, g2]
    exact ⟨Op.cg h1 (fun p p0 p1 => g p p0 (by omega)) (fun i i0 i1 => go i i0 (by omega)), h2, h3, h4, h5, n1, L, h6.cg (fun p p0 p1 => g p (by omega) p1), h7⟩
theorem Op.app {kd ar sc op ah : Int → Int} {wd : Int} : ∀ {k : Nat} {s n s2 n2 : Int} {L2 : List Int}, Op kd ar sc wd op ah k s n → Sg kd ar sc wd s s2 n2 L2 → Op kd ar sc wd op ah k s2 (n + n2)
  | 0, s, n, s2, n2, L2, ⟨L, h⟩, g => ⟨_, h.app g⟩
  | k + 1, s, n, s2, n2, L2, ⟨h1, h2, h3, h4, h5, n1, L, h6, h7⟩, g => ⟨h1, h2, h3, h4, h5, _, _, h6.app g, by omega⟩
/-- a repeat begins -/
theorem Op.beg {kd ar sc op ah : Int → Int} {wd : Int} {k : Nat} {s n : Int} (h : Op kd ar sc wd op ah k s n) (hk : kd s = 5) (hs : sc (4 * s) = 5) (ht : 1 ≤ sc (4 * s + 1) ∧ sc (4 * s + 1) ≤ 20) (ha : ar (3 * s) = sc (4 * s + 1)) : Op kd ar sc wd (up op k s) (up ah k n) (k + 1) (s + 1) n := by
  unfold Op
  rw [show up op k s (k : Int) = s from up_s _ _ _, show up ah k n (k : Int) = n from up_s _ _ _]
  exact ⟨h.cg (fun p p0 p1 => ⟨rfl, ⟨rfl, rfl, rfl⟩, rfl, rfl, rfl, rfl⟩) (fun i i0 i1 => ⟨up_n (by omega), up_n (by omega)⟩), hk, hs, ht, ha, 0, [], Sg.nil _, by omega⟩
/-- a repeat ends -/
theorem Op.cls {kd ar sc op ah kd' ar' sc' : Int → Int} {wd : Int} {k : Nat} {s n : Int} (h : Op kd ar sc wd op ah (k + 1) s n) (hag : ∀ p, 0 ≤ p → p < s → p ≠ op k → agr kd ar sc kd' ar' sc' p) (ho : kd' (op k) = kd (op k) ∧ (∀ j, 0 ≤ j → j < 4 → sc' (4 * op k + j) = sc (4 * op k + j))) (h1 : kd' s = 6) (h2 : sc' (4 * s) = 6) (h3 : ar' (3 * s) = op k) (h4 : ar' (3 * op k + 1) = s) (h5 : ar' (3 * op k) = (if n = ah k then 0 else ar (3 * op k))) : Op kd' ar' sc' wd op ah k (s + 1) n := by
  obtain ⟨g1, g2, g3, g4, g5, n1, L, g6, g7⟩ := h
  have l1 := Op.le g1
  have l6 := g6.le
  have e0 : sc' (4 * op k) = sc (4 * op k) := by have := ho.2 0 (by omega) (by omega); rw [Int.add_zero] at this; exact this
  have e1 := ho.2 1 (by omega) (by omega)
  have hA : Op kd' ar' sc' wd op ah k (op k) (ah k) := g1.cg (fun p p0 p1 => hag p p0 (by omega) (by omega)) (fun i _ _ => ⟨rfl, rfl⟩)
  have hB : Sg kd' ar' sc' wd (op k + 1) s n1 L := g6.cg (fun p p0 p1 => hag p (by omega) p1 (by omega))
  have hC := Sg.rep (lo := op k) (m := s) (hi := s + 1) (ho.1.trans g2) (e0.trans g3) (by rw [e1]; exact g4) hB h1 h2 h3 h4 (by rw [h5, g5, e1]; by_cases z : n1 = 0; (rw [if_pos (by omega), if_pos z]); (rw [if_neg (by omega), if_neg z])) (Sg.nil (s + 1))
  have hD := hA.app hC
  rw [show n = ah k + (n1 + 0) by omega]
  exact hD
/-- an act is laid -/
theorem Op.act {kd ar sc op ah kd' ar' sc' : Int → Int} {wd : Int} {k : Nat} {s n : Int} (h : Op kd ar sc wd op ah k s n) (hag : ∀ p, 0 ≤ p → p < s → agr kd ar sc kd' ar' sc' p) (ho : okA kd' ar' sc' wd s) : Op kd' ar' sc' wd op ah k (s + 1) (n + 1) := by
  have h2 := (h.cg (op' := op) (ah' := ah) hag (fun i _ _ => ⟨rfl, rfl⟩)).app (Sg.act ho (Sg.nil (s + 1)))
  rw [show n + 1 = n + (0 + 1) by omega]
  exact h2
/-- the class's Script, while it is read: what lies in it goes with the reference's lines -/
def scO (X : Cx) (w : Wo) (y : Nat) (st cm ac dp pr : Int) (kd ar tl op ah : Int → Int) : Prop := w (y + 315) = some (.inr (7, [.ref (y + 311), .ref (y + 316), .ref (y + 317), .ref (y + 318), .int (iI st), .int (iI cm), .int (iI ac), .ref (y + 319), .ref (y + 320), .int (iI dp), .int (iI pr)])) ∧ w (y + 316) = some (aZ X 60 kd) ∧ w (y + 317) = some (aZ X 180 ar) ∧ w (y + 318) = some (aZ X 60 tl) ∧ w (y + 319) = some (aZ X 3 op) ∧ w (y + 320) = some (aZ X 3 ah)
theorem scO.mv {X : Cx} {w w2 : Wo} {y : Nat} {st cm ac dp pr : Int} {kd ar tl op ah : Int → Int} (h : scO X w y st cm ac dp pr kd ar tl op ah) (hf : ∀ q : Nat, y + 315 ≤ q → q < y + 321 → w2 q = w q) : scO X w2 y st cm ac dp pr kd ar tl op ah := by
  obtain ⟨h1, h2, h3, h4, h5, h6⟩ := h
  exact ⟨(hf _ (by omega) (by omega)).trans h1, (hf _ (by omega) (by omega)).trans h2, (hf _ (by omega) (by omega)).trans h3, (hf _ (by omega) (by omega)).trans h4, (hf _ (by omega) (by omega)).trans h5, (hf _ (by omega) (by omega)).trans h6⟩
def scE (X : Cx) (w : Wo) (y : Nat) : Prop := ∃ st cm ac dp pr kd ar tl op ah, scO X w y st cm ac dp pr kd ar tl op ah
theorem scE.mv {X : Cx} {w w2 : Wo} {y : Nat} (h : scE X w y) (hf : ∀ q : Nat, y + 315 ≤ q → q < y + 321 → w2 q = w q) : scE X w2 y := by
  obtain ⟨st, cm, ac, dp, pr, kd, ar, tl, op, ah, h1⟩ := h
  exact ⟨st, cm, ac, dp, pr, kd, ar, tl, op, ah, h1.mv hf⟩
def scR (X : Cx) (w : Wo) (y : Nat) (v sc : Int → Int) (wd : Int) : Prop := ∃ ac pr kd ar tl op ah, scO X w y (v 27) (v 28) ac (v 29) pr kd ar tl op ah ∧ Op kd ar sc wd op ah (v 29).toNat (v 27) ac ∧ ac ≤ v 28
theorem scR.mv {X : Cx} {w w2 : Wo} {y : Nat} {v sc : Int → Int} {wd : Int} (h : scR X w y v sc wd) (hf : ∀ q : Nat, y + 315 ≤ q → q < y + 321 → w2 q = w q) : scR X w2 y v sc wd := by
  obtain ⟨ac, pr, kd, ar, tl, op, ah, h1, h2⟩ := h
  exact ⟨ac, pr, kd, ar, tl, op, ah, h1.mv hf, h2⟩
