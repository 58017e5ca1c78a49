/-! ===== four signs in an int, and out of it ===== -/
theorem or8 {a c : Int} (ha : 0 ≤ a ∧ a < 8388608) (hc : 0 ≤ c ∧ c < 256) : iI (a * 256) ||| iI c = iI (a * 256 + c) := by
  rw [iI_or (by omega) (by omega)]
  congr 1
  obtain ⟨n, rfl⟩ : ∃ n : Nat, a = (n : Int) := ⟨a.toNat, by omega⟩
  obtain ⟨d, rfl⟩ : ∃ d : Nat, c = (d : Int) := ⟨c.toNat, by omega⟩
  have e := Nat.two_pow_add_eq_or_of_lt (i := 8) (b := d) (by omega) n
  rw [show ((n : Int) * 256).toNat = 2 ^ 8 * n by omega, show ((d : Int)).toNat = d by omega, ← e]
  omega
theorem shl8 {a : Int} (ha : 0 ≤ a ∧ a < 8388608) : iI a <<< (iI 8 &&& 31) = iI (a * 256) := by
  obtain ⟨n, rfl⟩ : ∃ n : Nat, a = (n : Int) := ⟨a.toNat, by omega⟩
  rw [← iI_nI, pk_shlN (iI 8 &&& 31) 8 (by decide +kernel) (by omega), iI_nI]
  congr 1
theorem byI_v {n k : Nat} (hn : n < 2147483648) (hk : k = 0 ∨ k = 8 ∨ k = 16 ∨ k = 24) : byI (n : Int) (k : Int) = ((n / 2 ^ k % 256 : Nat) : Int) := by
  unfold byI uhI
  have h := pk_ushr (iI (n : Int)) (iI (k : Int)) k (by rcases hk with rfl | rfl | rfl | rfl <;> decide +kernel)
  generalize ((iI (n : Int)).toUInt32 >>> ((iI (k : Int)).toUInt32 &&& Int32.toUInt32 31)).toInt32 = x at h ⊢
  rw [(iI_of x).symm]
  have hnn : (iI (n : Int)).toBitVec.toNat = n := by
    rw [← iI_nI]
    show (BitVec.ofNat 32 n).toNat = n
    rw [BitVec.toNat_ofNat]
    omega
  rw [hnn] at h
  have h2 : (x &&& iI 255).toBitVec.toNat = n / 2 ^ k % 256 := by
    rw [Int32.toBitVec_and]
    show (x.toBitVec &&& 255#32).toNat = _
    rw [BitVec.toNat_and, h]
    exact Nat.and_two_pow_sub_one_eq_mod _ 8
  show (x &&& iI 255).toBitVec.toInt = _
  rw [BitVec.toInt_eq_toNat_of_lt (by omega), h2]
def fch (g : Int → Int) (n i : Int) : Int := if i < n then g i else 32
/-- the first t of the four signs from b on -/
def fp (g : Int → Int) (n b t : Int) : Int := if t ≤ 0 then 0 else if t = 1 then fch g n b else if t = 2 then fch g n b * 256 + fch g n (b + 1) else if t = 3 then (fch g n b * 256 + fch g n (b + 1)) * 256 + fch g n (b + 2) else ((fch g n b * 256 + fch g n (b + 1)) * 256 + fch g n (b + 2)) * 256 + fch g n (b + 3)
theorem fch_r {g : Int → Int} {n i : Int} (hg : ∀ j, 0 ≤ j → j < n → 0 ≤ g j ∧ g j < 128) (hi : 0 ≤ i) : 0 ≤ fch g n i ∧ fch g n i < 128 := by
  unfold fch
  by_cases h : i < n
  · rw [if_pos h]; exact hg i hi h
  · rw [if_neg h]; omega
theorem fp_r {g : Int → Int} {n b t : Int} (hg : ∀ j, 0 ≤ j → j < n → 0 ≤ g j ∧ g j < 128) (hb : 0 ≤ b) (ht : t < 4) : 0 ≤ fp g n b t ∧ fp g n b t < 8388608 := by
  have h0 := fch_r hg hb
  have h1 := fch_r hg (show 0 ≤ b + 1 by omega)
  have h2 := fch_r hg (show 0 ≤ b + 2 by omega)
  unfold fp
  generalize fch g n b = x0 at *
  generalize fch g n (b + 1) = x1 at *
  generalize fch g n (b + 2) = x2 at *
  (repeat' split) <;> omega
theorem fp_s {g : Int → Int} {n b t : Int} (ht : 0 ≤ t ∧ t < 4) : fp g n b (t + 1) = fp g n b t * 256 + fch g n (b + t) := by
  rcases (show t = 0 ∨ t = 1 ∨ t = 2 ∨ t = 3 by omega) with rfl | rfl | rfl | rfl
  · rw [Int.add_zero]; show fch g n b = 0 * 256 + _; omega
  · rfl
  · rfl
  · rfl
theorem fp_by {g : Int → Int} {n b t : Int} (hg : ∀ j, 0 ≤ j → j < n → 0 ≤ g j ∧ g j < 128) (hb : 0 ≤ b) (ht : 0 ≤ t ∧ t < 4) : byI (fp g n b 4) (24 - 8 * t) = fch g n (b + t) := by
  have h0 := fch_r hg hb
  have h1 := fch_r hg (show 0 ≤ b + 1 by omega)
  have h2 := fch_r hg (show 0 ≤ b + 2 by omega)
  have h3 := fch_r hg (show 0 ≤ b + 3 by omega)
  have e : fp g n b 4 = ((fch g n b * 256 + fch g n (b + 1)) * 256 + fch g n (b + 2)) * 256 + fch g n (b + 3) := rfl
  have e9 : b + 0 = b := Int.add_zero b
  rw [e]
  obtain ⟨v, hv⟩ : ∃ v : Nat, (v : Int) = ((fch g n b * 256 + fch g n (b + 1)) * 256 + fch g n (b + 2)) * 256 + fch g n (b + 3) := ⟨(((fch g n b * 256 + fch g n (b + 1)) * 256 + fch g n (b + 2)) * 256 + fch g n (b + 3)).toNat, by omega⟩
  rw [← hv]
  rcases (show t = 0 ∨ t = 1 ∨ t = 2 ∨ t = 3 by omega) with rfl | rfl | rfl | rfl
  · rw [e9]
    have := byI_v (n := v) (k := 24) (by omega) (by decide)
    refine this.trans ?_
    omega
  · have := byI_v (n := v) (k := 16) (by omega) (by decide)
    refine this.trans ?_
    omega
  · have := byI_v (n := v) (k := 8) (by omega) (by decide)
    refine this.trans ?_
    omega
  · have := byI_v (n := v) (k := 0) (by omega) (by decide)
    refine this.trans ?_
    omega
theorem ap4_at {f : Int → Int} {N v j : Int} : ap4 f N v j = if N ≤ j ∧ j < N + 4 then byI v (24 - 8 * (j - N)) else f j := by
  have e : ap4 f N v = up (up (up (up f (N + 0) (byI v (24 - 8 * 0))) (N + 1) (byI v (24 - 8 * 1))) (N + 2) (byI v (24 - 8 * 2))) (N + 3) (byI v (24 - 8 * 3)) := rfl
  rw [e]
  by_cases h : N ≤ j ∧ j < N + 4
  · rw [if_pos h]
    rcases (show j = N + 0 ∨ j = N + 1 ∨ j = N + 2 ∨ j = N + 3 by omega) with rfl | rfl | rfl | rfl
    · rw [up_n (by omega), up_n (by omega), up_n (by omega), up_s]; congr 1; omega
    · rw [up_n (by omega), up_n (by omega), up_s]; congr 1; omega
    · rw [up_n (by omega), up_s]; congr 1; omega
    · rw [up_s]; congr 1; omega
  · rw [if_neg h, up_n (by omega), up_n (by omega), up_n (by omega), up_n (by omega)]
theorem ap20_ch {fb g vf : Int → Int} {n N : Int} (hg : ∀ j, 0 ≤ j → j < n → 0 ≤ g j ∧ g j < 128) (hN : 0 ≤ N) (hv : ∀ q, 0 ≤ q → q < 5 → vf q = fp g n (N + 4 * q) 4) {j : Int} (hj : j < N + 20) : ap20 fb N (vf 0) (vf 1) (vf 2) (vf 3) (vf 4) j = if j < N then fb j else fch g n j := by
  unfold ap20
  rw [hv 0 (by decide) (by decide), hv 1 (by decide) (by decide), hv 2 (by decide) (by decide), hv 3 (by decide) (by decide), hv 4 (by decide) (by decide)]
  have hb : ∀ b t : Int, 0 ≤ b → 0 ≤ t → t < 4 → byI (fp g n b 4) (24 - 8 * t) = fch g n (b + t) := fun b t b0 t0 t1 => fp_by hg b0 ⟨t0, t1⟩
  rw [ap4_at, ap4_at, ap4_at, ap4_at, ap4_at]
  by_cases h0 : j < N
  · rw [if_neg (by omega), if_neg (by omega), if_neg (by omega), if_neg (by omega), if_neg (by omega), if_pos h0]
  · rw [if_neg h0]
    by_cases h1 : j < N + 4
    · rw [if_neg (by omega), if_neg (by omega), if_neg (by omega), if_neg (by omega), if_pos (by omega), hb _ _ (by omega) (by omega) (by omega)]; congr 1; omega
    · by_cases h2 : j < N + 8
      · rw [if_neg (by omega), if_neg (by omega), if_neg (by omega), if_pos (by omega), hb _ _ (by omega) (by omega) (by omega)]; congr 1; omega
      · by_cases h3 : j < N + 12
        · rw [if_neg (by omega), if_neg (by omega), if_pos (by omega), hb _ _ (by omega) (by omega) (by omega)]; congr 1; omega
        · by_cases h4 : j < N + 16
          · rw [if_neg (by omega), if_pos (by omega), hb _ _ (by omega) (by omega) (by omega)]; congr 1; omega
          · rw [if_pos (by omega), hb _ _ (by omega) (by omega) (by omega)]; congr 1; omega
theorem fp_o {g : Int → Int} {n b t : Int} (ht : t ≤ -1 ∨ 4 ≤ t) : fp g n b (t + 1) = fp g n b t := by
  unfold fp
  rcases ht with ht | ht
  · rw [if_pos (by omega), if_pos (by omega)]
  · rw [if_neg (by omega), if_neg (by omega), if_neg (by omega), if_neg (by omega), if_neg (by omega), if_neg (by omega), if_neg (by omega), if_neg (by omega)]
theorem fp_4 {g : Int → Int} {n b t : Int} (ht : 4 ≤ t) : fp g n b t = fp g n b 4 := by
  unfold fp
  rw [if_neg (by omega), if_neg (by omega), if_neg (by omega), if_neg (by omega), if_neg (by omega), if_neg (by omega), if_neg (by omega), if_neg (by omega)]
