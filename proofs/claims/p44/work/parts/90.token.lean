/-! ===== tokens ===== -/
theorem CM.imp {l : Launch} {X : Cx} {y : MethodName} {cb : ByteArray} {maxL : Nat} {ret : Option FieldType} {rm : Room} {As : List Value} {w : Wo} {v : Option Value} {P P' : Wo → Prop} (h : CM l X y cb maxL ret rm As w v P) (hP : ∀ w', P w' → P' w') : CM l X y cb maxL ret rm As w v P' := by
  intro p e ha hc hk s m args below hf happ hp hK
  obtain ⟨n, o, h1, h2, h3, ⟨⟨w', h4, h5, h6⟩, h7⟩, h8⟩ := h p e ha hc hk s m args below hf happ hp hK
  exact ⟨n, o, h1, h2, h3, ⟨⟨w', h4, hP w' h5, h6⟩, h7⟩, h8⟩
def blB (x : Int) : Bool := decide (x = 32 ∨ x = 10)
def ltB (x : Int) : Bool := decide (97 ≤ x ∧ x ≤ 122)
def dgB (x : Int) : Bool := decide (48 ≤ x ∧ x ≤ 57)
/-- where the token begins that is looked for from p on; the end of a word, of a number from s on -/
def skT (f : Int → Int) (N p : Int) : Int := fi (fun i => !blB (f i)) p N
def wdE (f : Int → Int) (N s : Int) : Int := fi (fun i => !ltB (f i)) s N
def dgE (f : Int → Int) (N s : Int) : Int := fi (fun i => !dgB (f i)) s N
def kdT (f : Int → Int) (N s : Int) : Int := if s < N then (if ltB (f s) = true then 1 else if dgB (f s) = true then 2 else if f s = 59 ∨ f s = 123 ∨ f s = 125 then f s else -1) else 0
def enT (f : Int → Int) (N s : Int) : Int := if s < N then (if ltB (f s) = true then wdE f N s else if dgB (f s) = true then dgE f N s else s + 1) else s
def nvN (cap : Int) (f : Int → Int) (s : Int) : Nat → Int
  | 0 => 0
  | n + 1 => min cap (10 * nvN cap f s n + f (s + n) - 48)
def vaT (cap : Int) (f : Int → Int) (N s : Int) : Int := if s < N ∧ ltB (f s) = false ∧ dgB (f s) = true then nvN cap f s (dgE f N s - s).toNat else 0
/-- the kind as the reference tells it -/
def rfK (k : Int) : Int := if k = -1 then 4 else if 3 ≤ k then 3 else k
theorem skT_r {f : Int → Int} {N p : Int} (h : p ≤ N) : p ≤ skT f N p ∧ skT f N p ≤ N := by
  have := fi_spec (fun i => !blB (f i)) h
  unfold skT
  omega
theorem wdE_r {f : Int → Int} {N s : Int} (h : s ≤ N) : s ≤ wdE f N s ∧ wdE f N s ≤ N := by
  have := fi_spec (fun i => !ltB (f i)) h
  unfold wdE
  omega
theorem dgE_r {f : Int → Int} {N s : Int} (h : s ≤ N) : s ≤ dgE f N s ∧ dgE f N s ≤ N := by
  have := fi_spec (fun i => !dgB (f i)) h
  unfold dgE
  omega
theorem enT_r {f : Int → Int} {N s : Int} (h : s ≤ N) : s ≤ enT f N s ∧ enT f N s ≤ N := by
  have h1 := wdE_r (f := f) h
  have h2 := dgE_r (f := f) h
  unfold enT
  (repeat' split) <;> omega
theorem byS_1 {f : Int → Int} {N i : Int} (hN : N ≤ 400) (h : byS f N i ≠ -1) : 0 ≤ i ∧ i < N ∧ byS f N i = f i := by
  unfold byS at h ⊢
  split at h
  · rename_i g
    exact ⟨g.1, g.2.1, if_pos g⟩
  · exact absurd rfl h
theorem byS_0 {f : Int → Int} {N i : Int} (h0 : 0 ≤ i) (hN : N ≤ 400) (hb : ∀ i, 0 ≤ i → i < N → 0 ≤ f i ∧ f i ≤ 255) (h : byS f N i = -1) : N ≤ i := by
  unfold byS at h
  split at h
  · rename_i g
    have := hb i g.1 g.2.1
    omega
  · omega
theorem byS_i {f : Int → Int} {N i : Int} (h0 : 0 ≤ i ∧ i < N) (hN : N ≤ 400) : byS f N i = f i := by
  unfold byS
  exact if_pos (by omega)
theorem nvN_r {cap : Int} {f : Int → Int} {s : Int} (hc : 0 ≤ cap) : ∀ n : Nat, (∀ i : Nat, i < n → 48 ≤ f (s + i)) → 0 ≤ nvN cap f s n ∧ nvN cap f s n ≤ cap
  | 0, _ => by show 0 ≤ (0 : Int) ∧ (0 : Int) ≤ cap; omega
  | n + 1, h => by
    have h1 := nvN_r hc n (fun i hi => h i (by omega))
    have h2 := h n (by omega)
    show 0 ≤ min cap (10 * nvN cap f s n + f (s + n) - 48) ∧ min cap (10 * nvN cap f s n + f (s + n) - 48) ≤ cap
    omega
theorem nvN_s (cap : Int) (f : Int → Int) (s : Int) {j : Int} (h : s ≤ j) : nvN cap f s (j + 1 - s).toNat = min cap (10 * nvN cap f s (j - s).toNat + f j - 48) := by
  rw [show (j + 1 - s).toNat = (j - s).toNat + 1 by omega]
  show min cap (10 * nvN cap f s (j - s).toNat + f (s + ((j - s).toNat : Int)) - 48) = _
  rw [show s + ((j - s).toNat : Int) = j by omega]
/-- the two caps: what is in a range below the lesser one is the same -/
theorem nvN_2 {A B : Int} {f : Int → Int} {s : Int} (hA : 9 ≤ A) (hB : A ≤ B) : ∀ n : Nat, (∀ i : Nat, i < n → 48 ≤ f (s + i)) → nvN A f s n = min A (nvN B f s n)
  | 0, _ => by show (0 : Int) = min A 0; omega
  | n + 1, h => by
    have ih := nvN_2 hA hB n (fun i hi => h i (by omega))
    have h2 := h n (by omega)
    have r1 := nvN_r (f := f) (s := s) (cap := B) (by omega) n (fun i hi => h i (by omega))
    show min A (10 * nvN A f s n + f (s + n) - 48) = min A (min B (10 * nvN B f s n + f (s + n) - 48))
    rw [ih]
    omega
theorem dg_48 {f : Int → Int} {N s : Int} (h : s ≤ N) : ∀ i : Nat, i < (dgE f N s - s).toNat → 48 ≤ f (s + i) ∧ f (s + i) ≤ 57 := by
  intro i hi
  have hs := fi_spec (fun i => !dgB (f i)) h
  have e : dgE f N s = fi (fun i => !dgB (f i)) s N := rfl
  have := hs.2.2.1 (s + i) (by omega) (by omega)
  have h2 : dgB (f (s + i)) = true := by simpa using this
  exact of_decide_eq_true h2
theorem vaT_2 {f : Int → Int} {N s : Int} (h : s ≤ N) : vaT 100000 f N s = min 100000 (vaT 1000000 f N s) := by
  unfold vaT
  split
  · exact nvN_2 (by decide) (by decide) _ (fun i hi => (dg_48 h i hi).1)
  · rfl
theorem vaT_r {f : Int → Int} {N s cap : Int} (hc : 0 ≤ cap) (h : s ≤ N) : 0 ≤ vaT cap f N s ∧ vaT cap f N s ≤ cap := by
  unfold vaT
  split
  · exact nvN_r hc _ (fun i hi => (dg_48 h i hi).1)
  · omega
theorem kdT_r {f : Int → Int} {N s : Int} (hb : ∀ i, 0 ≤ i → i < N → 0 ≤ f i ∧ f i ≤ 255) (h0 : 0 ≤ s) : -1 ≤ kdT f N s ∧ kdT f N s ≤ 255 := by
  unfold kdT
  split
  · have := hb s h0 (by omega)
    (repeat' split) <;> omega
  · omega
/-! ===== the class's reader: its numbers are one function of the field's place ===== -/
def rL (b : Nat) (rv : Int → Int) : List Value := [.ref b, .int (iI (rv 1)), .int (iI (rv 2)), .int (iI (rv 3)), .int (iI (rv 4)), .int (iI (rv 5)), .int (iI (rv 6)), .int (iI (rv 7))]
theorem rL_1 (b : Nat) (v : Int → Int) (x : Int) : (rL b v).set 1 (.int (iI x)) = rL b (up v 1 x) := by simp [rL, up]
theorem rL_2 (b : Nat) (v : Int → Int) (x : Int) : (rL b v).set 2 (.int (iI x)) = rL b (up v 2 x) := by simp [rL, up]
theorem rL_3 (b : Nat) (v : Int → Int) (x : Int) : (rL b v).set 3 (.int (iI x)) = rL b (up v 3 x) := by simp [rL, up]
theorem rL_4 (b : Nat) (v : Int → Int) (x : Int) : (rL b v).set 4 (.int (iI x)) = rL b (up v 4 x) := by simp [rL, up]
theorem rL_5 (b : Nat) (v : Int → Int) (x : Int) : (rL b v).set 5 (.int (iI x)) = rL b (up v 5 x) := by simp [rL, up]
theorem rL_6 (b : Nat) (v : Int → Int) (x : Int) : (rL b v).set 6 (.int (iI x)) = rL b (up v 6 x) := by simp [rL, up]
theorem rL_7 (b : Nat) (v : Int → Int) (x : Int) : (rL b v).set 7 (.int (iI x)) = rL b (up v 7 x) := by simp [rL, up]
/-- the next token; an error -/
def stV (f : Int → Int) (N : Int) (rv : Int → Int) : Int → Int := up (up (up (up rv 2 (skT f N (rv 3))) 3 (enT f N (skT f N (rv 3)))) 4 (vaT 100000 f N (skT f N (rv 3)))) 1 (kdT f N (skT f N (rv 3)))
def flV (c : Int) (rv : Int → Int) : Int → Int := up (up rv 6 c) 7 (rv 2)
/-- its token is one of the text -/
def rTok (f : Int → Int) (N : Int) (rv : Int → Int) : Prop := (0 ≤ N ∧ N ≤ 400) ∧ (∀ i, 0 ≤ i → i < N → 0 ≤ f i ∧ f i ≤ 255) ∧ ∃ s, (0 ≤ s ∧ s ≤ N) ∧ rv 2 = s ∧ rv 3 = enT f N s ∧ rv 1 = kdT f N s ∧ rv 4 = vaT 100000 f N s
theorem rTok.st {f : Int → Int} {N : Int} {rv : Int → Int} (hN : 0 ≤ N ∧ N ≤ 400) (hb : ∀ i, 0 ≤ i → i < N → 0 ≤ f i ∧ f i ≤ 255) (h3 : 0 ≤ rv 3 ∧ rv 3 ≤ N) : rTok f N (stV f N rv) := by
  have := skT_r (f := f) h3.2
  exact ⟨hN, hb, _, ⟨by omega, this.2⟩, rfl, rfl, rfl, rfl⟩
theorem rTok.r {f : Int → Int} {N : Int} {rv : Int → Int} (h : rTok f N rv) : (0 ≤ rv 2 ∧ rv 2 ≤ N) ∧ (rv 2 ≤ rv 3 ∧ rv 3 ≤ N) ∧ (-1 ≤ rv 1 ∧ rv 1 ≤ 255) ∧ (0 ≤ rv 4 ∧ rv 4 ≤ 100000) := by
  obtain ⟨hN, hb, s, hs, e2, e3, e1, e4⟩ := h
  have h1 := enT_r (f := f) hs.2
  have h2 := kdT_r hb hs.1
  have h3 := vaT_r (f := f) (cap := 100000) (by decide) hs.2
  rw [e1, e2, e3, e4]
  omega
theorem rTok.step {f : Int → Int} {N : Int} {rv : Int → Int} (h : rTok f N rv) : rTok f N (stV f N rv) := rTok.st h.1 h.2.1 (by have := h.r; omega)
theorem rTok.fld {f : Int → Int} {N : Int} {rv rw : Int → Int} (h : rTok f N rv) (h1 : rw 1 = rv 1) (h2 : rw 2 = rv 2) (h3 : rw 3 = rv 3) (h4 : rw 4 = rv 4) : rTok f N rw := by
  obtain ⟨hN, hb, s, hs, e2, e3, e1, e4⟩ := h
  exact ⟨hN, hb, s, hs, h2.trans e2, h3.trans e3, h1.trans e1, h4.trans e4⟩
theorem rTok.fl {f : Int → Int} {N c : Int} {rv : Int → Int} (h : rTok f N rv) : rTok f N (flV c rv) := h.fld rfl rfl rfl rfl
/-- the word k of the texts -/
def wdB9 (f : Int → Int) (s e : Int) (k : Nat) : Bool := decide (e - s = wl k) && al (fun j => decide (f (s + j) = wc k j)) 0 (wl k)
def isWB (f : Int → Int) (rv : Int → Int) (k : Nat) : Bool := decide (rv 1 = 1) && wdB9 f (rv 2) (rv 3) k
def twV (f : Int → Int) (N : Int) (k : Nat) (rv : Int → Int) : Int → Int := if isWB f rv k = true then stV f N rv else flV 1 rv
def tmV (f : Int → Int) (N mk : Int) (rv : Int → Int) : Int → Int := if rv 1 = mk then stV f N rv else flV 1 rv
def snB (lo hi : Int) (rv : Int → Int) : Bool := decide (rv 1 = 2) && decide (lo ≤ rv 4 ∧ rv 4 ≤ hi)
def snV (lo hi : Int) (rv : Int → Int) : Int → Int := if rv 1 = 2 then (if lo ≤ rv 4 ∧ rv 4 ≤ hi then up rv 5 (rv 4) else flV 2 rv) else flV 1 rv
def tnuV (f : Int → Int) (N lo hi : Int) (rv : Int → Int) : Int → Int := if snB lo hi rv = true then stV f N (snV lo hi rv) else snV lo hi rv
theorem rTok.tw {f : Int → Int} {N : Int} {k : Nat} {rv : Int → Int} (h : rTok f N rv) : rTok f N (twV f N k rv) := by
  unfold twV
  split
  · exact h.step
  · exact h.fl
theorem rTok.tm {f : Int → Int} {N mk : Int} {rv : Int → Int} (h : rTok f N rv) : rTok f N (tmV f N mk rv) := by
  unfold tmV
  split
  · exact h.step
  · exact h.fl
theorem rTok.sn {f : Int → Int} {N lo hi : Int} {rv : Int → Int} (h : rTok f N rv) : rTok f N (snV lo hi rv) := by
  unfold snV
  (repeat' split)
  · exact h.fld rfl rfl rfl rfl
  · exact h.fl
  · exact h.fl
theorem rTok.tnu {f : Int → Int} {N lo hi : Int} {rv : Int → Int} (h : rTok f N rv) : rTok f N (tnuV f N lo hi rv) := by
  unfold tnuV
  split
  · exact h.sn.step
  · exact h.sn
/-! ===== the reference's parser ===== -/
def T4 (v : Int → Int) (a b x d : Int) : Int → Int := up (up (up (up v 14 a) 15 b) 17 x) 16 d
theorem T4_14 (v : Int → Int) (a b x d e : Int) : up (T4 v a b x d) 14 e = T4 v e b x d := by
  funext j
  unfold T4 up
  by_cases h : j = 14
  · rw [if_pos h, if_neg (by omega), if_neg (by omega), if_neg (by omega), if_pos h]
  · rw [if_neg h]
    by_cases h2 : j = 16
    · rw [if_pos h2, if_pos h2]
    · rw [if_neg h2, if_neg h2]
      by_cases h3 : j = 17
      · rw [if_pos h3, if_pos h3]
      · rw [if_neg h3, if_neg h3]
        by_cases h4 : j = 15
        · rw [if_pos h4, if_pos h4]
        · rw [if_neg h4, if_neg h4, if_neg h, if_neg h]
theorem T4_17 (v : Int → Int) (a b x d e : Int) : up (T4 v a b x d) 17 e = T4 v a b e d := by
  funext j
  unfold T4 up
  by_cases h : j = 17
  · rw [if_pos h, if_neg (by omega), if_pos h]
  · rw [if_neg h]
    by_cases h2 : j = 16
    · rw [if_pos h2, if_pos h2]
    · rw [if_neg h2, if_neg h2, if_neg h, if_neg h]
def goV (f : Int → Int) (v : Int → Int) : Int → Int := T4 v (enT f (v 11) (skT f (v 11) (v 14))) (skT f (v 11) (v 14)) (vaT 1000000 f (v 11) (skT f (v 11) (v 14))) (rfK (kdT f (v 11) (skT f (v 11) (v 14))))
def faV (c : Int) (v : Int → Int) : Int → Int := if v 18 = 0 then up (up v 18 c) 19 (v 15) else v
def gfV (f : Int → Int) (v : Int → Int) : Int → Int := if v 18 = 0 then goV f v else v
def muV (f : Int → Int) (b : Bool) (v : Int → Int) : Int → Int := gfV f (if b = true then v else faV 1 v)
def se1 (v : Int → Int) : Int → Int := if v 18 = 0 then (if v 16 = 2 then v else faV 1 v) else v
def se2 (lo hi : Int) (v : Int → Int) : Int → Int := if v 18 = 0 then (if lo ≤ v 17 ∧ v 17 ≤ hi then v else faV 2 v) else v
def seV (lo hi : Int) (v : Int → Int) : Int → Int := se2 lo hi (se1 v)
def seR (lo hi : Int) (v : Int → Int) : Int := if seV lo hi v 18 = 0 then seV lo hi v 17 else lo
def tkV (f : Int → Int) (lo hi : Int) (v : Int → Int) : Int → Int := gfV f (seV lo hi v)
def isWR (f : Int → Int) (v : Int → Int) (k : Nat) : Bool := (decide (v 18 = 0) && decide (v 16 = 1)) && wdB9 f (v 15) (v 14) k
def isSR (f : Int → Int) (v : Int → Int) (mk : Int) : Bool := (decide (v 18 = 0) && decide (v 16 = 3)) && decide (f (v 15) = mk)
def vTok (f : Int → Int) (v : Int → Int) : Prop := (0 ≤ v 11 ∧ v 11 ≤ 400) ∧ (∀ i, 0 ≤ i → i < v 11 → 0 ≤ f i ∧ f i ≤ 255) ∧ ∃ s, (0 ≤ s ∧ s ≤ v 11) ∧ v 15 = s ∧ v 14 = enT f (v 11) s ∧ v 16 = rfK (kdT f (v 11) s) ∧ v 17 = vaT 1000000 f (v 11) s
theorem vTok.st {f : Int → Int} {v : Int → Int} (hN : 0 ≤ v 11 ∧ v 11 ≤ 400) (hb : ∀ i, 0 ≤ i → i < v 11 → 0 ≤ f i ∧ f i ≤ 255) (h3 : 0 ≤ v 14 ∧ v 14 ≤ v 11) : vTok f (goV f v) := by
  have := skT_r (f := f) h3.2
  exact ⟨hN, hb, _, ⟨by omega, this.2⟩, rfl, rfl, rfl, rfl⟩
theorem vTok.r {f : Int → Int} {v : Int → Int} (h : vTok f v) : (0 ≤ v 15 ∧ v 15 ≤ v 11) ∧ (v 15 ≤ v 14 ∧ v 14 ≤ v 11) ∧ (0 ≤ v 16 ∧ v 16 ≤ 4) ∧ (0 ≤ v 17 ∧ v 17 ≤ 1000000) ∧ (v 16 = 3 → v 15 < v 11) ∧ (v 16 = 1 → v 15 < v 11) := by
  obtain ⟨hN, hb, s, hs, e2, e3, e1, e4⟩ := h
  have h1 := enT_r (f := f) hs.2
  have h2 := kdT_r hb hs.1
  have h3 := vaT_r (f := f) (cap := 1000000) (by decide) hs.2
  have h4 : 0 ≤ rfK (kdT f (v 11) s) ∧ rfK (kdT f (v 11) s) ≤ 4 := by unfold rfK; (repeat' split) <;> omega
  have h5 : kdT f (v 11) s ≠ 0 → s < v 11 := by
    intro g
    unfold kdT at g
    split at g
    · assumption
    · exact absurd rfl g
  have h6 : rfK (kdT f (v 11) s) = 3 → s < v 11 := fun g => h5 (fun z => by rw [z] at g; revert g; decide)
  have h7 : rfK (kdT f (v 11) s) = 1 → s < v 11 := fun g => h5 (fun z => by rw [z] at g; revert g; decide)
  rw [e1, e2, e3, e4]
  exact ⟨hs, ⟨h1.1, h1.2⟩, h4, h3, h6, h7⟩
theorem vTok.step {f : Int → Int} {v : Int → Int} (h : vTok f v) : vTok f (goV f v) := vTok.st h.1 h.2.1 (by have := h.r; omega)
theorem vTok.fld {f : Int → Int} {v u : Int → Int} (h : vTok f v) (h0 : u 11 = v 11) (h1 : u 14 = v 14) (h2 : u 15 = v 15) (h3 : u 16 = v 16) (h4 : u 17 = v 17) : vTok f u := by
  obtain ⟨hN, hb, s, hs, e2, e3, e1, e4⟩ := h
  unfold vTok
  rw [h0, h1, h2, h3, h4]
  exact ⟨hN, hb, s, hs, e2, e3, e1, e4⟩
theorem fa_n {c : Int} {v : Int → Int} {k : Int} (h : k ≠ 18) (h2 : k ≠ 19) : faV c v k = v k := by
  unfold faV
  split
  · rw [up_n h2, up_n h]
  · rfl
theorem vTok.fa {f : Int → Int} {v : Int → Int} {c : Int} (h : vTok f v) : vTok f (faV c v) := h.fld (fa_n (by decide) (by decide)) (fa_n (by decide) (by decide)) (fa_n (by decide) (by decide)) (fa_n (by decide) (by decide)) (fa_n (by decide) (by decide))
theorem vTok.gf {f : Int → Int} {v : Int → Int} (h : vTok f v) : vTok f (gfV f v) := by
  unfold gfV
  split
  · exact h.step
  · exact h
theorem vTok.mu {f : Int → Int} {v : Int → Int} {b : Bool} (h : vTok f v) : vTok f (muV f b v) := by
  unfold muV
  refine vTok.gf ?_
  split
  · exact h
  · exact h.fa
theorem vTok.s1 {f : Int → Int} {v : Int → Int} (h : vTok f v) : vTok f (se1 v) := by
  unfold se1
  (repeat' split)
  · exact h
  · exact h.fa
  · exact h
theorem vTok.s2 {f : Int → Int} {v : Int → Int} {lo hi : Int} (h : vTok f v) : vTok f (se2 lo hi v) := by
  unfold se2
  (repeat' split)
  · exact h
  · exact h.fa
  · exact h
theorem vTok.se {f : Int → Int} {v : Int → Int} {lo hi : Int} (h : vTok f v) : vTok f (seV lo hi v) := h.s1.s2
theorem vTok.tk {f : Int → Int} {v : Int → Int} {lo hi : Int} (h : vTok f v) : vTok f (tkV f lo hi v) := h.se.gf
/-- fields that the parser's steps leave -/
theorem go_n {f : Int → Int} {v : Int → Int} {k : Int} (h : k ≠ 14 ∧ k ≠ 15 ∧ k ≠ 16 ∧ k ≠ 17) : goV f v k = v k := by
  unfold goV T4
  rw [up_n h.2.2.1, up_n h.2.2.2, up_n h.2.1, up_n h.1]
theorem gf_n {f : Int → Int} {v : Int → Int} {k : Int} (h : k ≠ 14 ∧ k ≠ 15 ∧ k ≠ 16 ∧ k ≠ 17) : gfV f v k = v k := by
  unfold gfV
  split
  · exact go_n h
  · rfl
theorem mu_n {f : Int → Int} {b : Bool} {v : Int → Int} {k : Int} (h : k < 14 ∨ 19 < k) : muV f b v k = v k := by
  unfold muV
  rw [gf_n (by omega)]
  split
  · rfl
  · exact fa_n (by omega) (by omega)
theorem se_n {lo hi : Int} {v : Int → Int} {k : Int} (h : k < 18 ∨ 19 < k) : seV lo hi v k = v k := by
  have e1 : se1 v k = v k := by
    unfold se1
    (repeat' split)
    · rfl
    · exact fa_n (by omega) (by omega)
    · rfl
  unfold seV se2
  (repeat' split)
  · exact e1
  · rw [fa_n (by omega) (by omega)]; exact e1
  · exact e1
theorem tk_n {f : Int → Int} {lo hi : Int} {v : Int → Int} {k : Int} (h : k < 14 ∨ 19 < k) : tkV f lo hi v k = v k := by
  unfold tkV
  rw [gf_n (by omega), se_n (by omega)]
theorem byS_r {f : Int → Int} {N i : Int} (hb : ∀ i, 0 ≤ i → i < N → 0 ≤ f i ∧ f i ≤ 255) : -1 ≤ byS f N i ∧ byS f N i ≤ 255 := by
  unfold byS
  split
  · rename_i g
    have := hb i g.1 g.2.1
    omega
  · omega
