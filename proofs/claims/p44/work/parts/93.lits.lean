/-! ===== strings as constants; bits; the parsers' stages ===== -/
section LIT
variable {p : Program} {l : Launch} {e : Env} {R : Room} {s : State} {m : MethodId} {args : Array Value} {below : List Frame} {meth : Method} {c : Code} {H H0 : Heap} {locs : List Loc} {cells slots : Nat} {Q : State → Prop} {cc : ByteArray} {nL pc : Nat} {ls : Array Slot} {rest : List Value} {X : Cx} {w : Wo}
theorem h_ldcS {index i : Nat} {tx own : String} (F : Fx p m c cc nL s args own) (hW : Wd X w s H) (hm : (own, index, tx, i) ∈ cxW) (hd : decode cc pc = .ok (.ldc index, 2)) (k : W p l e R s m args below meth c H locs cells slots Q (F0 m (pc + 2) ls (.ref (X.2.2 (10 + i)) :: rest))) : W p l e R s m args below meth c H locs cells slots Q (F0 m pc ls rest) :=
  va_ldcS F.1 F.2.1 F.2.2.2.1 (hW.2.1.2.1 _ hm) hd k
theorem h_ldcSW {index i : Nat} {tx own : String} (F : Fx p m c cc nL s args own) (hW : Wd X w s H) (hm : (own, index, tx, i) ∈ cxW) (hd : decode cc pc = .ok (.ldc_w index, 3)) (k : W p l e R s m args below meth c H locs cells slots Q (F0 m (pc + 3) ls (.ref (X.2.2 (10 + i)) :: rest))) : W p l e R s m args below meth c H locs cells slots Q (F0 m pc ls rest) := by
  intro T hT X9
  obtain ⟨t, a1, b1⟩ := k T hT X9
  have hZ := hW.2.1.2.1 _ hm
  obtain ⟨kk, cf, i', a', hk, hcf, hcp, -, hr, hev'⟩ := Cond.stringRef_spec F.2.2.2.1 hZ.1
  cases hZ.2.symm.trans hev'
  obtain ⟨k', hk', he⟩ := X9.warmed.alike.2.2 _ _ hk
  have hr' : k'.resolved[index]? = some (some (.string (X.2.2 (10 + i)))) := by
    rcases X9.warmed.entry hk hk' index with h | ⟨h, -⟩
    · rw [h]; exact hr
    · rw [hr] at h; cases h
  refine ⟨t, ?_, b1⟩
  have hd2 : decode c.code (F0 m pc ls rest).pc = .ok (.ldc_w index, 3) := by rw [F.2.1]; exact hd
  jvm_step X9.here [F.1, hd2, ldc_w.wp_string (e := e) (s := T) (f := F0 m pc ls rest) X9.here.top hk' (by rw [he]; exact hcf) hcp hr']
  exact a1
end LIT
def pw (k : Int) : Int := ((2 ^ k.toNat : Nat) : Int)
theorem pw_eq {k : Int} (h : 0 ≤ k ∧ k < 7) : iI 1 <<< (iI k &&& 31) = iI (pw k) := by
  rcases (show k = 0 ∨ k = 1 ∨ k = 2 ∨ k = 3 ∨ k = 4 ∨ k = 5 ∨ k = 6 by omega) with g | g | g | g | g | g | g <;> subst g <;> decide +kernel
def orS (a k : Int) : Int := ((a.toNat ||| 2 ^ k.toNat : Nat) : Int)
def anS (a k : Int) : Int := ((a.toNat &&& 2 ^ k.toNat : Nat) : Int)
theorem orS_eq {a k : Int} (h : 0 ≤ a) : iI a ||| iI (pw k) = iI (orS a k) := by
  rw [iI_or h (show 0 ≤ pw k from Int.natCast_nonneg _)]
  rfl
theorem anS_eq {a k : Int} (h : 0 ≤ a) : iI a &&& iI (pw k) = iI (anS a k) := by
  rw [iI_and h (show 0 ≤ pw k from Int.natCast_nonneg _)]
  rfl
theorem or_all : ∀ n : Nat, n < 128 → ∀ j : Nat, j < 7 → (n ||| 2 ^ j) < 128 ∧ (n &&& 2 ^ j) < 128 ∧ (((n &&& 2 ^ j : Nat) : Int) ≠ 0 ↔ ((n : Int) / 2 ^ j % 2 = 1)) := by decide +kernel
theorem orS_r {a k : Int} (h : 0 ≤ a ∧ a < 128) (hk : 0 ≤ k ∧ k < 7) : 0 ≤ orS a k ∧ orS a k < 128 := by
  have := (or_all a.toNat (by omega) k.toNat (by omega)).1
  unfold orS
  omega
theorem anS_r {a k : Int} (h : 0 ≤ a ∧ a < 128) (hk : 0 ≤ k ∧ k < 7) : 0 ≤ anS a k ∧ anS a k < 128 := by
  have := (or_all a.toNat (by omega) k.toNat (by omega)).2.1
  unfold anS
  omega
theorem an_tb {a k : Int} (h : 0 ≤ a ∧ a < 128) (hk : 0 ≤ k ∧ k < 7) : anS a k ≠ 0 ↔ a / 2 ^ k.toNat % 2 = 1 := by
  have h2 := (or_all a.toNat (by omega) k.toNat (by omega)).2.2
  rw [show ((a.toNat : Nat) : Int) = a by omega] at h2
  exact h2
/-- letters of a text as numbers, laid from b on -/
def letS (σ : Int → Int) (b : Int) (f : Int → Int) (s n : Int) : Int → Int := fun p => if b ≤ p ∧ p < b + n then f (s + (p - b)) - 97 else σ p
theorem let_0 (σ : Int → Int) (b : Int) (f : Int → Int) (s : Int) : letS σ b f s 0 = σ := by
  funext p
  unfold letS
  rw [if_neg (by omega)]
theorem let_s {σ : Int → Int} {b : Int} {f : Int → Int} {s n : Int} (h : 0 ≤ n) : letS σ b f s (n + 1) = up (letS σ b f s n) (b + n) (f (s + n) - 97) := by
  funext p
  unfold letS up
  by_cases g : p = b + n
  · rw [if_pos (by omega), if_pos g, show s + (p - b) = s + n by omega]
  · rw [if_neg g]
    show _ = (if b ≤ p ∧ p < b + n then f (s + (p - b)) - 97 else σ p)
    by_cases g2 : b ≤ p ∧ p < b + n
    · rw [if_pos g2, if_pos (by omega)]
    · rw [if_neg g2, if_neg (by omega)]
theorem let_o {σ : Int → Int} {b : Int} {f : Int → Int} {s n p : Int} (h : p < b ∨ b + n ≤ p) : letS σ b f s n p = σ p := by
  unfold letS
  rw [if_neg (by omega)]
/-- a caption's numbers at base b -/
def cpW (σ : Int → Int) (b n sd x y co : Int) : Int → Int := up (up (up (up (up σ (b + 0) n) (b + 1) sd) (b + 2) x) (b + 3) y) (b + 4) co
/-- the draft with one caption more: as the parser lays it -/
def rcS (σ : Int → Int) (n sd x y co : Int) (f : Int → Int) (s : Int) : Int → Int := up (cpW (letS σ (13 + 13 * σ 5 + 5) f s n) (13 + 13 * σ 5) n sd x y co) 5 (σ 5 + 1)
theorem cpW_v {σ : Int → Int} {b n sd x y co p : Int} : cpW σ b n sd x y co p = if p = b + 4 then co else if p = b + 3 then y else if p = b + 2 then x else if p = b + 1 then sd else if p = b then n else σ p := by
  unfold cpW up
  rw [show b + 0 = b by omega]
theorem rc_R {σ : Int → Int} {n sd x y co s : Int} {tx f : Int → Int} (h8 : cap8 σ) (h58 : σ 5 < 8) (hn : 1 ≤ n ∧ n ≤ 8) (hf : ∀ j, 0 ≤ j → j < n → f j = tx (s + j) - 97 + 1) : hangR σ (rcS σ n sd x y co tx s) n sd x y co f := by
  have h5 := h8.1
  have e : ∀ p, rcS σ n sd x y co tx s p = if p = 5 then σ 5 + 1 else if p = 13 + 13 * σ 5 + 4 then co else if p = 13 + 13 * σ 5 + 3 then y else if p = 13 + 13 * σ 5 + 2 then x else if p = 13 + 13 * σ 5 + 1 then sd else if p = 13 + 13 * σ 5 then n else letS σ (13 + 13 * σ 5 + 5) tx s n p := by
    intro p
    show (if p = 5 then σ 5 + 1 else cpW (letS σ (13 + 13 * σ 5 + 5) tx s n) (13 + 13 * σ 5) n sd x y co p) = _
    rw [cpW_v]
  refine ⟨by rw [e, if_pos rfl], fun p p0 p1 p2 => ?_, fun k k0 k1 j j0 j1 => ?_, ⟨?_, ?_, ?_, ?_, ?_⟩, fun j j0 j1 => ?_, fun c r c0 c1 r0 r1 => ?_⟩
  · rw [e, if_neg p2, if_neg (by omega), if_neg (by omega), if_neg (by omega), if_neg (by omega), if_neg (by omega), let_o (by omega)]
  · unfold cp
    rw [e, if_neg (by omega), if_neg (by omega), if_neg (by omega), if_neg (by omega), if_neg (by omega), if_neg (by omega), let_o (by omega)]
  · unfold cp
    rw [e, if_neg (by omega), if_neg (by omega), if_neg (by omega), if_neg (by omega), if_neg (by omega), if_pos (by omega)]
  · unfold cp
    rw [e, if_neg (by omega), if_neg (by omega), if_neg (by omega), if_neg (by omega), if_pos (by omega)]
  · unfold cp
    rw [e, if_neg (by omega), if_neg (by omega), if_neg (by omega), if_pos (by omega)]
  · unfold cp
    rw [e, if_neg (by omega), if_neg (by omega), if_pos (by omega)]
  · unfold cp
    rw [e, if_neg (by omega), if_pos (by omega)]
  · unfold cp
    rw [e, if_neg (by omega), if_neg (by omega), if_neg (by omega), if_neg (by omega), if_neg (by omega), if_neg (by omega), hf j j0 j1]
    unfold letS
    rw [if_pos (by omega), show s + (13 + 13 * σ 5 + (5 + j) - (13 + 13 * σ 5 + 5)) = s + j by omega]
  · unfold cellS
    rw [e, if_neg (by omega), if_neg (by omega), if_neg (by omega), if_neg (by omega), if_neg (by omega), if_neg (by omega), let_o (by omega)]
/-- letters laid above all captions leave a state what it is -/
theorem let_WF {σ : Int → Int} {f : Int → Int} {s n : Int} (h : WF σ) (h5 : σ 5 < 8) (hn : 0 ≤ n ∧ n ≤ 8) : WF (letS σ (13 + 13 * σ 5 + 5) f s n) := by
  have h0 := h.1.2.2.2.2.2
  have e1 : ∀ p, p < 13 + 13 * σ 5 + 5 → letS σ (13 + 13 * σ 5 + 5) f s n p = σ p := fun p hp => let_o (by omega)
  have e2 : ∀ p, 117 ≤ p → letS σ (13 + 13 * σ 5 + 5) f s n p = σ p := fun p hp => let_o (by omega)
  refine h.to ⟨fun p p0 p1 => e1 p (by omega), fun k k0 k1 j j0 j1 => e1 _ (by omega), fun c r c0 c1 r0 r1 => e2 _ (by omega)⟩
/-! the reference's STOCK, DELAY -/
def rsK (tx v : Int → Int) : Int := seR 0 6 (goV tx v)
def rs2 (tx v : Int → Int) : Int → Int := seV 0 6 (goV tx v)
def rs3 (tx v : Int → Int) : Int → Int := if rs2 tx v 22 / 2 ^ (rsK tx v).toNat % 2 = 1 then faV 3 (rs2 tx v) else rs2 tx v
def rs4 (tx v : Int → Int) : Int → Int := up (rs3 tx v) 22 (orS (rs3 tx v 22) (rsK tx v))
def rs5 (tx v : Int → Int) : Int → Int := muV tx true (rs4 tx v)
def rsV (tx v : Int → Int) : Int → Int := tkV tx 0 9999 (rs5 tx v)
def rsD (tx v d : Int → Int) : Int → Int := up d (6 + rsK tx v) (seR 0 9999 (rs5 tx v))
def re3 (v : Int → Int) : Int → Int := if v 23 = 0 then v else faV 3 v
def re5 (tx v : Int → Int) : Int → Int := muV tx true (up (re3 v) 23 1)
def reV (tx v : Int → Int) : Int → Int := tkV tx 0 30 (re5 tx v)
def reD (tx v d : Int → Int) : Int → Int := up d 2 (seR 0 30 (re5 tx v))
/-! the reference's CAPTION -/
def rc1 (v d : Int → Int) : Int → Int := if d 5 = 8 then faV 6 v else v
def rc2 (tx v d : Int → Int) : Int → Int := muV tx true (rc1 v d)
def rcL (tx v d : Int → Int) : Int := rc2 tx v d 14 - rc2 tx v d 15
def rc3 (tx v d : Int → Int) : Int → Int := if rc2 tx v d 16 = 1 ∧ 8 < rcL tx v d then faV 2 (rc2 tx v d) else rc2 tx v d
def rcB (d : Int → Int) : Int := 13 + 13 * min (d 5) 7
def rcD (tx v d : Int → Int) : Int → Int := if rc3 tx v d 18 = 0 ∧ rc3 tx v d 16 = 1 then letS d (rcB d + 5) tx (rc3 tx v d 15) (rcL tx v d) else d
def rc4 (tx v d : Int → Int) : Int → Int := muV tx (decide (rc3 tx v d 16 = 1)) (rc3 tx v d)
def rcR (tx v d : Int → Int) : Bool := isWR tx (rc4 tx v d) 2
def rc5 (tx v d : Int → Int) : Int → Int := if rcR tx v d = true then goV tx (rc4 tx v d) else rc4 tx v d
def rc6 (tx v d : Int → Int) : Int → Int := muV tx (isWR tx (rc5 tx v d) 3) (rc5 tx v d)
def rcX (tx v d : Int → Int) : Int := seR 0 (d 0 - 1) (rc6 tx v d)
def rc7 (tx v d : Int → Int) : Int → Int := tkV tx 0 (d 0 - 1) (rc6 tx v d)
def rcY (tx v d : Int → Int) : Int := seR 0 (d 1 - 1) (rc7 tx v d)
def rc8 (tx v d : Int → Int) : Int → Int := seV 0 (d 1 - 1) (rc7 tx v d)
def rc9 (tx v d : Int → Int) : Int → Int := if rc8 tx v d 18 = 0 ∧ liesS (rcD tx v d) (rcL tx v d) (rcX tx v d) (rcY tx v d) = false then faV 4 (rc8 tx v d) else rc8 tx v d
def rc10 (tx v d : Int → Int) : Int → Int := if rc9 tx v d 18 = 0 ∧ meetS (rcD tx v d) (rcL tx v d) (bz (rcR tx v d)) (rcX tx v d) (rcY tx v d) (-1) = true then faV 5 (rc9 tx v d) else rc9 tx v d
def rc11 (tx v d : Int → Int) : Int → Int := muV tx true (rc10 tx v d)
def rc12 (tx v d : Int → Int) : Int → Int := muV tx (isWR tx (rc11 tx v d) 4) (rc11 tx v d)
def rcC (tx v d : Int → Int) : Int := seR 1 6 (rc12 tx v d)
def rc13 (tx v d : Int → Int) : Int → Int := tkV tx 1 6 (rc12 tx v d)
def rcE (tx v d : Int → Int) : Int → Int := if rc13 tx v d 18 = 0 then up (cpW (rcD tx v d) (rcB d) (rcL tx v d) (bz (rcR tx v d)) (rcX tx v d) (rcY tx v d) (rcC tx v d)) 5 (d 5 + 1) else rcD tx v d
/-! once there is an error it stays -/
theorem fa_0 {c : Int} {v : Int → Int} (hc : c ≠ 0) (h : faV c v 18 = 0) : False := by
  unfold faV at h
  split at h
  · exact hc h
  · exact absurd h (by assumption)
theorem gf_18 {f v : Int → Int} : gfV f v 18 = v 18 := gf_n (by decide)
theorem mu_0 {f v : Int → Int} {b : Bool} (h : muV f b v 18 = 0) : v 18 = 0 ∧ b = true := by
  unfold muV at h
  rw [gf_18] at h
  split at h
  · exact ⟨h, by assumption⟩
  · exact (fa_0 (by decide) h).elim
theorem se_0 {v : Int → Int} {lo hi : Int} (h : seV lo hi v 18 = 0) : v 18 = 0 ∧ v 16 = 2 ∧ (lo ≤ v 17 ∧ v 17 ≤ hi) ∧ seV lo hi v = v ∧ seR lo hi v = v 17 := by
  have h9 := h
  unfold seV se2 at h
  split at h
  · rename_i g
    have g2 := g
    unfold se1 at g
    split at g
    · rename_i z0
      split at g
      · rename_i z1
        have e1 : se1 v = v := by unfold se1; rw [if_pos z0, if_pos z1]
        rw [e1] at h
        split at h
        · rename_i z2
          have e2 : seV lo hi v = v := by unfold seV se2; rw [e1, if_pos z0, if_pos z2]
          refine ⟨z0, z1, z2, e2, ?_⟩
          unfold seR
          rw [e2, if_pos z0]
        · exact (fa_0 (by decide) h).elim
      · exact (fa_0 (by decide) g).elim
    · exact absurd g (by assumption)
  · exact absurd h (by assumption)
theorem tkn_0 {f v : Int → Int} {lo hi : Int} (h : tkV f lo hi v 18 = 0) : v 18 = 0 ∧ v 16 = 2 ∧ (lo ≤ v 17 ∧ v 17 ≤ hi) ∧ tkV f lo hi v = goV f v ∧ seR lo hi v = v 17 := by
  unfold tkV at h ⊢
  rw [gf_18] at h
  obtain ⟨h1, h2, h3, h4, h5⟩ := se_0 h
  refine ⟨h1, h2, h3, ?_, h5⟩
  rw [h4]
  unfold gfV
  rw [if_pos h1]
theorem wd_p {f v : Int → Int} (h : vTok f v) (h16 : v 16 = 1) : v 15 < v 14 ∧ v 15 < v 11 ∧ v 14 = wdE f (v 11) (v 15) := by
  obtain ⟨hN, hb, s, hs, e2, e3, e1, e4⟩ := h
  rw [e1] at h16
  have hk : kdT f (v 11) s = 1 := by
    unfold rfK at h16
    split at h16
    · exact absurd h16 (by decide)
    · split at h16
      · exact absurd h16 (by decide)
      · exact h16
  unfold kdT at hk
  split at hk
  · rename_i g
    split at hk
    · rename_i g2
      have e : enT f (v 11) s = wdE f (v 11) s := by unfold enT; rw [if_pos g, if_pos g2]
      have hw := fi_spec (fun i => !ltB (f i)) (lo := s) (hi := v 11) (by omega)
      have e9 : wdE f (v 11) s = fi (fun i => !ltB (f i)) s (v 11) := rfl
      have hne : wdE f (v 11) s ≠ s := by
        intro z
        have h4 := hw.2.2.2 (by omega)
        rw [← e9, z] at h4
        rw [g2] at h4
        exact absurd h4 (by decide)
      rw [e2, e3, e]
      refine ⟨?_, g, rfl⟩
      omega
    · split at hk
      · exact absurd hk (by decide)
      · rename_i g2 g3
        split at hk
        · omega
        · exact absurd hk (by decide)
  · exact absurd hk (by decide)
theorem rs3_P {f v : Int → Int} (h : vP f v) : vP f (rs3 f v) := by
  unfold rs3
  split
  · exact (h.go.se).fa (by decide)
  · exact h.go.se
theorem rsK_r (f v : Int → Int) : 0 ≤ rsK f v ∧ rsK f v ≤ 6 := seR_r (by decide)
theorem rs2_22 (f v : Int → Int) : rs2 f v 22 = v 22 := by
  unfold rs2
  rw [se_n (by omega), go_n (by decide)]
theorem rs3_22 (f v : Int → Int) : rs3 f v 22 = v 22 := by
  unfold rs3
  split
  · rw [fa_n (by decide) (by decide), rs2_22]
  · exact rs2_22 f v
theorem vP.fld {f v u : Int → Int} (h : vP f v) (h0 : u 11 = v 11) (h1 : u 14 = v 14) (h2 : u 15 = v 15) (h3 : u 16 = v 16) (h4 : u 17 = v 17) (h5 : u 18 = v 18) : vP f u := ⟨h.1.fld h0 h1 h2 h3 h4, by rw [h5]; exact h.2⟩
theorem rs4_P {f v : Int → Int} (h : vP f v) : vP f (rs4 f v) := (rs3_P h).fld rfl rfl rfl rfl rfl rfl
theorem re3_P {f v : Int → Int} (h : vP f v) : vP f (re3 v) := by
  unfold re3
  split
  · exact h
  · exact h.fa (by decide)
theorem rc1_P {f v d : Int → Int} (h : vP f v) : vP f (rc1 v d) := by
  unfold rc1
  split
  · exact h.fa (by decide)
  · exact h
theorem rc2_P {f v d : Int → Int} (h : vP f v) : vP f (rc2 f v d) := (rc1_P h).mu
theorem rc3_P {f v d : Int → Int} (h : vP f v) : vP f (rc3 f v d) := by
  unfold rc3
  split
  · exact (rc2_P h).fa (by decide)
  · exact rc2_P h
theorem rc4_P {f v d : Int → Int} (h : vP f v) : vP f (rc4 f v d) := (rc3_P h).mu
theorem rc5_P {f v d : Int → Int} (h : vP f v) : vP f (rc5 f v d) := by
  unfold rc5
  split
  · exact (rc4_P h).go
  · exact rc4_P h
theorem rc6_P {f v d : Int → Int} (h : vP f v) : vP f (rc6 f v d) := (rc5_P h).mu
theorem rc7_P {f v d : Int → Int} (h : vP f v) : vP f (rc7 f v d) := (rc6_P h).tk
theorem rc8_P {f v d : Int → Int} (h : vP f v) : vP f (rc8 f v d) := (rc7_P h).se
theorem rc9_P {f v d : Int → Int} (h : vP f v) : vP f (rc9 f v d) := by
  unfold rc9
  split
  · exact (rc8_P h).fa (by decide)
  · exact rc8_P h
theorem rc10_P {f v d : Int → Int} (h : vP f v) : vP f (rc10 f v d) := by
  unfold rc10
  split
  · exact (rc9_P h).fa (by decide)
  · exact rc9_P h
theorem rc11_P {f v d : Int → Int} (h : vP f v) : vP f (rc11 f v d) := (rc10_P h).mu
theorem rc12_P {f v d : Int → Int} (h : vP f v) : vP f (rc12 f v d) := (rc11_P h).mu
theorem rc13_P {f v d : Int → Int} (h : vP f v) : vP f (rc13 f v d) := (rc12_P h).tk
/-- the word's length; where the letters lie -/
theorem rc3_L {f v d : Int → Int} (h : vP f v) (h0 : rc3 f v d 18 = 0) (h1 : rc3 f v d 16 = 1) : rc3 f v d = rc2 f v d ∧ (1 ≤ rcL f v d ∧ rcL f v d ≤ 8) ∧ d 5 ≠ 8 ∧ v 18 = 0 ∧ rc3 f v d 15 + rcL f v d ≤ 400 := by
  have e : rc3 f v d = rc2 f v d := by
    unfold rc3 at h0 ⊢
    split at h0
    · exact (fa_0 (by decide) h0).elim
    · rename_i g
      rw [if_neg g]
  have hp := (rc2_P (d := d) h).1
  rw [e] at h0 h1 ⊢
  have hw := wd_p hp h1
  have hr := hp.r
  have hu := hp.1
  have h8 : ¬ (8 < rcL f v d) := by
    intro z
    have h9 : rc3 f v d = faV 2 (rc2 f v d) := by unfold rc3; rw [if_pos ⟨h1, z⟩]
    rw [e] at h9
    have h10 := h0
    rw [h9] at h10
    exact fa_0 (by decide) h10
  have h1' := (mu_0 (show muV f true (rc1 v d) 18 = 0 from h0)).1
  refine ⟨rfl, ⟨?_, by omega⟩, ?_, ?_, ?_⟩
  · unfold rcL
    omega
  · intro z
    unfold rc1 at h1'
    rw [if_pos z] at h1'
    exact fa_0 (by decide) h1'
  · unfold rc1 at h1'
    split at h1'
    · exact (fa_0 (by decide) h1').elim
    · exact h1'
  · unfold rcL
    omega
theorem rc3_D {f v d : Int → Int} (h0 : rc3 f v d 18 = 0) (h1 : rc3 f v d 16 = 1) (h5 : d 5 ≠ 8) (h58 : d 5 ≤ 8) : rcD f v d = letS d (13 + 13 * d 5 + 5) f (rc3 f v d 15) (rcL f v d) := by
  unfold rcD
  rw [if_pos ⟨h0, h1⟩, show rcB d = 13 + 13 * d 5 by unfold rcB; omega]
theorem rcD_WF {f v d : Int → Int} (h : vP f v) (hd : WF d) : WF (rcD f v d) := by
  by_cases g : rc3 f v d 18 = 0 ∧ rc3 f v d 16 = 1
  · obtain ⟨-, h2, h3, -, -⟩ := rc3_L h g.1 g.2
    have h5 := hd.1.2.2.2.2.2
    rw [rc3_D g.1 g.2 h3 h5.2]
    exact let_WF hd (by omega) (by omega)
  · unfold rcD
    rw [if_neg g]
    exact hd
theorem rcD_lo {f v d : Int → Int} {p : Int} (hd : 0 ≤ d 5) (hp : p < 18 + 13 * min (d 5) 7) : rcD f v d p = d p := by
  unfold rcD
  split
  · exact let_o (by unfold rcB; omega)
  · rfl
/-- what holds when the place is read right -/
theorem rc8_0 {f v d : Int → Int} (h : rc8 f v d 18 = 0) : rc3 f v d 18 = 0 ∧ rc3 f v d 16 = 1 := by
  have h7 := (se_0 (show seV 0 (d 1 - 1) (rc7 f v d) 18 = 0 from h)).1
  have h6 := (tkn_0 (show tkV f 0 (d 0 - 1) (rc6 f v d) 18 = 0 from h7)).1
  have h5 := (mu_0 (show muV f _ (rc5 f v d) 18 = 0 from h6)).1
  have h4 : rc4 f v d 18 = 0 := by
    unfold rc5 at h5
    split at h5
    · rw [go_n (by decide)] at h5; exact h5
    · exact h5
  have h3 := mu_0 (show muV f _ (rc3 f v d) 18 = 0 from h4)
  exact ⟨h3.1, of_decide_eq_true h3.2⟩
theorem rc9_0 {f v d : Int → Int} (h : rc9 f v d 18 = 0) : rc9 f v d = rc8 f v d ∧ rc8 f v d 18 = 0 ∧ liesS (rcD f v d) (rcL f v d) (rcX f v d) (rcY f v d) = true := by
  unfold rc9 at h ⊢
  split at h
  · exact (fa_0 (by decide) h).elim
  · rename_i g
    refine ⟨if_neg g, h, ?_⟩
    cases hl : liesS (rcD f v d) (rcL f v d) (rcX f v d) (rcY f v d)
    · exact absurd ⟨h, hl⟩ g
    · rfl
