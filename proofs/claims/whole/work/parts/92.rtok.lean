/-! ===== the reference's tokens ===== -/
def vP (f v : Int → Int) : Prop := vTok f v ∧ (0 ≤ v 18 ∧ v 18 ≤ 7)
theorem vP.go {f v : Int → Int} (h : vP f v) : vP f (goV f v) := ⟨h.1.step, by rw [go_n (by decide)]; exact h.2⟩
theorem fa_18 {c : Int} {v : Int → Int} (h : 0 ≤ c ∧ c ≤ 7) (h2 : 0 ≤ v 18 ∧ v 18 ≤ 7) : 0 ≤ faV c v 18 ∧ faV c v 18 ≤ 7 := by
  unfold faV
  split
  · show 0 ≤ c ∧ c ≤ 7
    exact h
  · exact h2
theorem vP.fa {f v : Int → Int} {c : Int} (h : vP f v) (hc : 0 ≤ c ∧ c ≤ 7) : vP f (faV c v) := ⟨h.1.fa, fa_18 hc h.2⟩
theorem vP.gf {f v : Int → Int} (h : vP f v) : vP f (gfV f v) := ⟨h.1.gf, by rw [gf_n (by decide)]; exact h.2⟩
theorem vP.mu {f v : Int → Int} {b : Bool} (h : vP f v) : vP f (muV f b v) := by
  unfold muV
  refine vP.gf ?_
  split
  · exact h
  · exact h.fa (by decide)
theorem vP.s1 {f v : Int → Int} (h : vP f v) : vP f (se1 v) := by
  unfold se1
  (repeat' split)
  · exact h
  · exact h.fa (by decide)
  · exact h
theorem vP.s2 {f v : Int → Int} {lo hi : Int} (h : vP f v) : vP f (se2 lo hi v) := by
  unfold se2
  (repeat' split)
  · exact h
  · exact h.fa (by decide)
  · exact h
theorem vP.se {f v : Int → Int} {lo hi : Int} (h : vP f v) : vP f (seV lo hi v) := h.s1.s2
theorem vP.tk {f v : Int → Int} {lo hi : Int} (h : vP f v) : vP f (tkV f lo hi v) := h.se.gf
theorem fa_ne {c : Int} {v : Int → Int} (h : c ≠ 0) : faV c v 18 ≠ 0 := by
  unfold faV
  split
  · exact h
  · assumption
theorem seR_r {lo hi : Int} {v : Int → Int} (h : lo ≤ hi) : lo ≤ seR lo hi v ∧ seR lo hi v ≤ hi := by
  unfold seR
  split
  · rename_i g
    unfold seV se2 at g ⊢
    split at g
    · rename_i g1
      rw [if_pos g1]
      split at g
      · rename_i g2
        rw [if_pos g2]
        exact g2
      · exact absurd g (fa_ne (by decide))
    · exact absurd g (by assumption)
  · omega
theorem go_sk {f : Int → Int} {N p i : Int} (h : p ≤ i ∧ i ≤ N ∧ 0 ≤ p) (hN : N ≤ 400) (hno : ∀ z, p ≤ z → z < i → blB (f z) = true) (h1 : byS f N i ≠ 32) (h2 : byS f N i ≠ 10) : skT f N p = i := by
  unfold skT
  by_cases hi : i < N
  · rw [byS_i (by omega) hN] at h1 h2
    exact fi_hit (by omega) (by omega) (fun z z0 z1 => by rw [hno z z0 z1]; rfl) (by rw [show blB (f i) = false from decide_eq_false (by omega)]; rfl)
  · rw [fi_none (by omega) (fun z z0 z1 => by rw [hno z z0 (by omega)]; rfl)]
    omega
theorem go_wd {f : Int → Int} {N p i : Int} (h : p ≤ i ∧ i ≤ N ∧ 0 ≤ p) (hN : N ≤ 400) (hno : ∀ z, p ≤ z → z < i → ltB (f z) = true) (h1 : ¬(97 ≤ byS f N i ∧ byS f N i ≤ 122)) (_ : 0 ≤ p) : wdE f N p = i := by
  unfold wdE
  by_cases hi : i < N
  · rw [byS_i (by omega) hN] at h1
    exact fi_hit (by omega) (by omega) (fun z z0 z1 => by rw [hno z z0 z1]; rfl) (by rw [show ltB (f i) = false from decide_eq_false h1]; rfl)
  · rw [fi_none (by omega) (fun z z0 z1 => by rw [hno z z0 (by omega)]; rfl)]
    omega
theorem go_dg {f : Int → Int} {N p i : Int} (h : p ≤ i ∧ i ≤ N ∧ 0 ≤ p) (hN : N ≤ 400) (hno : ∀ z, p ≤ z → z < i → dgB (f z) = true) (h1 : ¬(48 ≤ byS f N i ∧ byS f N i ≤ 57)) (_ : 0 ≤ p) : dgE f N p = i := by
  unfold dgE
  by_cases hi : i < N
  · rw [byS_i (by omega) hN] at h1
    exact fi_hit (by omega) (by omega) (fun z z0 z1 => by rw [hno z z0 z1]; rfl) (by rw [show dgB (f i) = false from decide_eq_false h1]; rfl)
  · rw [fi_none (by omega) (fun z z0 z1 => by rw [hno z z0 (by omega)]; rfl)]
    omega
theorem rwd_s {f v : Int → Int} {k : Nat} {i : Int} {c : Bool} (hi : 0 ≤ i) (h : (c && al (fun j => decide (f (v 15 + j) = wc k j)) 0 i) = true) : (c && al (fun j => decide (f (v 15 + j) = wc k j)) 0 (i + 1)) = decide (f (v 15 + i) = wc k i) := by
  obtain ⟨h1, h2⟩ := (Bool.and_eq_true _ _).mp h
  rw [h1, Bool.true_and, Bool.eq_iff_iff, al_iff]
  constructor
  · intro g
    exact g i hi (by omega)
  · intro g z z0 z1
    by_cases hz : z = i
    · rw [hz]; exact g
    · exact al_iff.mp h2 z z0 (by omega)
theorem wd_e {f v : Int → Int} {k : Nat} {i : Int} (h : i = wl k) : (((decide (v 18 = 0) && decide (v 16 = 1)) && decide (v 14 - v 15 = wl k)) && al (fun j => decide (f (v 15 + j) = wc k j)) 0 i) = isWR f v k := by
  unfold isWR wdB9
  rw [h, Bool.and_assoc (decide (v 18 = 0) && decide (v 16 = 1))]
theorem wd_f {f v : Int → Int} {k : Nat} {i : Int} (h : i ≤ wl k) (h2 : (((decide (v 18 = 0) && decide (v 16 = 1)) && decide (v 14 - v 15 = wl k)) && al (fun j => decide (f (v 15 + j) = wc k j)) 0 i) = false) : (((decide (v 18 = 0) && decide (v 16 = 1)) && decide (v 14 - v 15 = wl k)) && al (fun j => decide (f (v 15 + j) = wc k j)) 0 i) = isWR f v k := by
  rw [h2, ← wd_e rfl]
  rw [Bool.and_eq_false_iff] at h2
  symm
  rw [Bool.and_eq_false_iff]
  rcases h2 with h2 | h2
  · exact .inl h2
  · refine .inr ?_
    rw [← Bool.not_eq_true, al_iff]
    intro g
    rw [← Bool.not_eq_true] at h2
    exact h2 (al_iff.mpr (fun z z0 z1 => g z z0 (by omega)))
set_option maxHeartbeats 4000000 in
set_option maxRecDepth 100000 in
theorem c_X9_fails (l : Launch) (X : Cx) (w : Wo) (mo : Nat) (v : Int → Int) (c9 : Int) (hM : w mo = some (.inr (9, mL mo v))) (h18 : 0 ≤ v 18 ∧ v 18 ≤ 7) : CM l X yX9_fails cX9_fails 2 none (rmk 1 20) [.ref mo, .int (iI c9)] w none (fun w' => w' mo = some (.inr (9, mL mo (faV c9 v))) ∧ ∀ q : Nat, q ≠ mo → w' q = w q) := by
  refine CM.of (lv := [(0, .ref mo), (1, .int (iI c9))]) (by decide) (Nat.le_of_ble_eq_true rfl) rfl (fun p e s m below meth c ls F hr hlk hin hW hS hl => ?_)
  have hZ0 := hW.2.2
  have hB9 := hW.1.2
  clear hin
  refine lv_aload_n F.1 F.2.1 dX9_fails_0 rfl (lv_at hl 0 rfl) ?_
  refine cl_RX9_299 (As := []) (rest := []) F hl (c_X9_isFine l X w mo v hM (by omega)) hW hS hM rfl rfl ⟨Nat.le_of_ble_eq_true rfl, Nat.le_of_ble_eq_true rfl⟩ (Nat.le_of_ble_eq_true rfl) ⟨Nat.zero_le _, Nat.zero_le _⟩ dX9_fails_1 (fun w1 H locs hp1 hW hS => ?_)
  rw [hp1] at hW; clear hp1; clear w1
  refine h_ifeqb (tgt := 20) F dX9_fails_4 (by decide) (fun c2 => ?_) (fun c2 => ?_)
  · have c2d := of_decide_eq_false c2
    exact h_vret F hr hlk hW hS ⟨(by (rw [hM]) <;> (unfold faV; first | rw [if_pos (by omega)] | rw [if_neg (by omega)])), (fun q h09 => rfl)⟩ dX9_fails_20
  · have c2d := of_decide_eq_true c2
    refine lv_aload_n F.1 F.2.1 dX9_fails_7 rfl (lv_at hl 0 rfl) ?_
    refine lv_iload_n F.1 F.2.1 dX9_fails_8 rfl (lv_at hl 1 rfl) ?_
    refine pf_RX9_296 F hW hS hM (Nat.le_of_ble_eq_true rfl) dX9_fails_9 (fun w3 H locs ho5 hn4 hW hS => ?_)
    rw [mL_18] at ho5
    refine lv_aload_n F.1 F.2.1 dX9_fails_12 rfl (lv_at hl 0 rfl) ?_
    refine lv_aload_n F.1 F.2.1 dX9_fails_13 rfl (lv_at hl 0 rfl) ?_
    refine gf_RX9_282 F hW ho5 rfl dX9_fails_14 ?_
    refine h_top (show ((up v 18 c9) 15 : Int) = v 15 from rfl) ?_
    refine pf_RX9_35 F hW hS ho5 (Nat.le_of_ble_eq_true rfl) dX9_fails_17 (fun w6 H locs ho8 hn7 hW hS => ?_)
    rw [mL_19] at ho8
    exact h_vret F hr hlk hW hS ⟨(by (rw [ho8]) <;> (unfold faV; first | rw [if_pos (by omega)] | rw [if_neg (by omega)])), (fun q h09 => by rw [hn7 q (by omega), hn4 q (by omega)])⟩ dX9_fails_20
set_option maxHeartbeats 4000000 in
set_option maxRecDepth 100000 in
theorem c_X9_goesOn (l : Launch) (X : Cx) (w : Wo) (mo : Nat) (v tx : Int → Int) (hM : w mo = some (.inr (9, mL mo v))) (htx : w (mo + 7) = some (aZ X 400 tx)) (hun : 0 ≤ v 11 ∧ v 11 ≤ 400) (h14 : 0 ≤ v 14 ∧ v 14 ≤ v 11) (hfb : (∀ i, 0 ≤ i → i < v 11 → 0 ≤ tx i ∧ tx i ≤ 255)) : CM l X yX9_goesOn cX9_goesOn 2 none (rmk 1 25) [.ref mo] w none (fun w' => w' mo = some (.inr (9, mL mo (goV tx v))) ∧ ∀ q : Nat, q ≠ mo → w' q = w q) := by
  refine CM.of (lv := [(0, .ref mo)]) (by decide) (Nat.le_of_ble_eq_true rfl) rfl (fun p e s m below meth c ls F hr hlk hin hW hS hl => ?_)
  have hZ0 := hW.2.2
  have hB9 := hW.1.2
  clear hin
  have loop0 : ∀ (n9 : Nat) (i : Int), (hrg : v 14 ≤ i ∧ i ≤ v 11) → (hms : v 11 - i < (n9 : Int)) → (wz8 : Wo) → (hO0_0 : wz8 mo = some (.inr (9, mL mo (up v 14 i)))) → (hF0 : ∀ q : Nat, q ≠ mo → wz8 q = w q) → (hno : ∀ z, v 14 ≤ z → z < i → blB (tx z) = true) → (H : Heap) → (locs : List Loc) → (ls : Array Slot) → Wd X wz8 s H → va_S (cxA X) s.heap H locs → lv_has ls 2 [(0, .ref mo)] → W p l e (rmk 1 25) s m (List.toArray [.ref mo]) below meth c H locs 0 0 (MX X below (List.toArray [.ref mo]) s 0 0 none (fun w' => w' mo = some (.inr (9, mL mo (goV tx v))) ∧ ∀ q : Nat, q ≠ mo → w' q = w q)) (F0 m 0 ls []) := by
    intro n9
    induction n9 with
    | zero => intro i  hrg hms; exfalso; omega
    | succ n9 ih0 =>
      intro i  hrg hms wz8 hO0_0 hF0 hno H locs ls hW hS hl
      have htx := (hF0 _ (by omega)).trans htx
      refine lv_aload_n F.1 F.2.1 dX9_goesOn_0 rfl (lv_at hl 0 rfl) ?_
      refine lv_aload_n F.1 F.2.1 dX9_goesOn_1 rfl (lv_at hl 0 rfl) ?_
      refine gf_RX9_276 F hW hO0_0 rfl dX9_goesOn_2 ?_
      refine h_top (show ((up v 14 i) 14 : Int) = i from rfl) ?_
      refine cl_RX9_279 (As := [.int (iI i)]) (rest := []) F hl (c_X9_byteAt l X wz8 mo (up v 14 i) tx i hO0_0 htx hun (by show 0 ≤ i ∧ i ≤ v 11; omega)) hW hS hO0_0 rfl rfl ⟨Nat.le_of_ble_eq_true rfl, Nat.le_of_ble_eq_true rfl⟩ (Nat.le_of_ble_eq_true rfl) ⟨Nat.zero_le _, Nat.zero_le _⟩ dX9_goesOn_5 (fun w1 H locs hp1 hW hS => ?_)
      rw [hp1] at hW; clear hp1; clear w1
      refine h_top (show (byS tx ((up v 14 i) 11) i : Int) = byS tx (v 11) i from rfl) ?_
      have hrb := byS_r (f := tx) (N := v 11) (i := i) hfb
      refine h_bipush F dX9_goesOn_8 rfl ?_
      refine h_iceq (tgt := 26) F dX9_goesOn_10 (by decide) (by omega) (fun c2 => ?_) (fun c2 => ?_)
      · have hb1 := byS_1 (f := tx) (N := v 11) (i := i) (by omega) (by omega)
        have hbl : blB (tx i) = true := decide_eq_true (by omega)
        refine lv_aload_n F.1 F.2.1 dX9_goesOn_26 rfl (lv_at hl 0 rfl) ?_
        refine lv_dup F.1 F.2.1 dX9_goesOn_27 rfl ?_
        refine gf_RX9_276 F hW hO0_0 rfl dX9_goesOn_28 ?_
        refine h_top (show ((up v 14 i) 14 : Int) = i from rfl) ?_
        refine h_iconst F dX9_goesOn_31 ?_
        refine h_iadd (a := i) (b := 1) F dX9_goesOn_32 ?_
        refine pf_RX9_276 F hW hS hO0_0 (Nat.le_of_ble_eq_true rfl) dX9_goesOn_33 (fun w3 H locs ho5 hn4 hW hS => ?_)
        rw [mL_14] at ho5
        have htx := (hn4 _ (by omega)).trans htx
        refine h_goto (tgt := 0) F dX9_goesOn_36 (by decide) ?_
        exact ih0 (i + 1)  (by omega) (by omega) w3 (by rw [show (up v 14 (i + 1) : Int → Int) = up (up v 14 i) 14 (i + 1) from (up_up _ _ _ _).symm]; exact ho5) (fun q h09 => by rw [hn4 q (by omega), hF0 q (by omega)]) (fun z h1 h2 => (by by_cases hj : z = i; (rw [hj]; assumption); exact hno z h1 (by omega))) _ _ ls hW hS (lv_sub hl [0] rfl)
      · refine lv_aload_n F.1 F.2.1 dX9_goesOn_13 rfl (lv_at hl 0 rfl) ?_
        refine lv_aload_n F.1 F.2.1 dX9_goesOn_14 rfl (lv_at hl 0 rfl) ?_
        refine gf_RX9_276 F hW hO0_0 rfl dX9_goesOn_15 ?_
        refine h_top (show ((up v 14 i) 14 : Int) = i from rfl) ?_
        refine cl_RX9_279 (As := [.int (iI i)]) (rest := []) F hl (c_X9_byteAt l X wz8 mo (up v 14 i) tx i hO0_0 htx hun (by show 0 ≤ i ∧ i ≤ v 11; omega)) hW hS hO0_0 rfl rfl ⟨Nat.le_of_ble_eq_true rfl, Nat.le_of_ble_eq_true rfl⟩ (Nat.le_of_ble_eq_true rfl) ⟨Nat.zero_le _, Nat.zero_le _⟩ dX9_goesOn_18 (fun w1 H locs hp6 hW hS => ?_)
        rw [hp6] at hW; clear hp6; clear w1
        refine h_top (show (byS tx ((up v 14 i) 11) i : Int) = byS tx (v 11) i from rfl) ?_
        refine h_bipush F dX9_goesOn_21 rfl ?_
        refine h_icne (tgt := 39) F dX9_goesOn_23 (by decide) (by omega) (fun c7 => ?_) (fun c7 => ?_)
        · have hs : skT tx (v 11) (v 14) = i := go_sk (by omega) (by omega) hno (by omega) (by omega)
          refine lv_aload_n F.1 F.2.1 dX9_goesOn_39 rfl (lv_at hl 0 rfl) ?_
          refine lv_aload_n F.1 F.2.1 dX9_goesOn_40 rfl (lv_at hl 0 rfl) ?_
          refine gf_RX9_276 F hW hO0_0 rfl dX9_goesOn_41 ?_
          refine h_top (show ((up v 14 i) 14 : Int) = i from rfl) ?_
          refine pf_RX9_282 F hW hS hO0_0 (Nat.le_of_ble_eq_true rfl) dX9_goesOn_44 (fun w8 H locs ho10 hn9 hW hS => ?_)
          rw [mL_15] at ho10
          have htx := (hn9 _ (by omega)).trans htx
          refine lv_aload_n F.1 F.2.1 dX9_goesOn_47 rfl (lv_at hl 0 rfl) ?_
          refine lv_aload_n F.1 F.2.1 dX9_goesOn_48 rfl (lv_at hl 0 rfl) ?_
          refine gf_RX9_276 F hW ho10 rfl dX9_goesOn_49 ?_
          refine h_top (show ((up (up v 14 i) 15 i) 14 : Int) = i from rfl) ?_
          refine cl_RX9_279 (As := [.int (iI i)]) (rest := []) F hl (c_X9_byteAt l X w8 mo (up (up v 14 i) 15 i) tx i ho10 htx hun (by show 0 ≤ i ∧ i ≤ v 11; omega)) hW hS ho10 rfl rfl ⟨Nat.le_of_ble_eq_true rfl, Nat.le_of_ble_eq_true rfl⟩ (Nat.le_of_ble_eq_true rfl) ⟨Nat.zero_le _, Nat.zero_le _⟩ dX9_goesOn_52 (fun w1 H locs hp11 hW hS => ?_)
          rw [hp11] at hW; clear hp11; clear w1
          refine h_top (show (byS tx ((up (up v 14 i) 15 i) 11) i : Int) = byS tx (v 11) i from rfl) ?_
          refine lv_istore_n (lv' := [(1, .int (iI (byS tx (v 11) i))), (0, .ref mo)]) F.1 F.2.1 dX9_goesOn_55 rfl hl (by decide) rfl (fun ls hl => ?_)
          refine lv_aload_n F.1 F.2.1 dX9_goesOn_56 rfl (lv_at hl 1 rfl) ?_
          refine h_iconst F dX9_goesOn_57 ?_
          refine pf_RX9_285 F hW hS ho10 (Nat.le_of_ble_eq_true rfl) dX9_goesOn_58 (fun w12 H locs ho14 hn13 hW hS => ?_)
          rw [mL_17] at ho14
          have htx := (hn13 _ (by omega)).trans htx
          refine lv_iload_n F.1 F.2.1 dX9_goesOn_61 rfl (lv_at hl 0 rfl) ?_
          refine h_iconst F dX9_goesOn_62 ?_
          have hrb := byS_r (f := tx) (N := v 11) (i := i) hfb
          refine h_icne (tgt := 74) F dX9_goesOn_63 (by decide) (by omega) (fun c15 => ?_) (fun c15 => ?_)
          · obtain ⟨hi0, hiN, hbs⟩ := byS_1 (f := tx) (N := v 11) (i := i) (by omega) (by omega)
            have hbi := hfb i (by omega) (by omega)
            refine lv_iload_n F.1 F.2.1 dX9_goesOn_74 rfl (lv_at hl 0 rfl) ?_
            refine h_i2l F dX9_goesOn_75 (by omega) ?_
            refine h_ldc2 (n := 97) F kk_RX9_266 dX9_goesOn_76 ?_
            refine h_ldc2 (n := 122) F kk_RX9_268 dX9_goesOn_79 ?_
            refine cl_RX9_82 (As := [.long (lI (byS tx (v 11) i)), .long (lI 97), .long (lI 122)]) (rest := []) F hl (c_X9_isIn l X w12 (byS tx (v 11) i) 97 122 (by omega) (by omega) (by omega)) hW hS rfl rfl ⟨Nat.le_of_ble_eq_true rfl, Nat.le_of_ble_eq_true rfl⟩ (Nat.le_of_ble_eq_true rfl) ⟨Nat.zero_le _, Nat.zero_le _⟩ dX9_goesOn_82 (fun w1 H locs hp16 hW hS => ?_)
            rw [hp16] at hW; clear hp16; clear w1
            refine h_top (show (bz (decide (97 ≤ (byS tx (v 11) i) ∧ (byS tx (v 11) i) ≤ 122)) : Int) = bz (ltB (tx i)) from by rw [hbs]; rfl) ?_
            refine h_ifeqb (tgt := 127) F dX9_goesOn_85 (by decide) (fun c17 => ?_) (fun c17 => ?_)
            · refine lv_iload_n F.1 F.2.1 dX9_goesOn_127 rfl (lv_at hl 0 rfl) ?_
              refine h_i2l F dX9_goesOn_128 (by omega) ?_
              refine h_ldc2 (n := 48) F kk_RX9_291 dX9_goesOn_129 ?_
              refine h_ldc2 (n := 57) F kk_RX9_293 dX9_goesOn_132 ?_
              refine cl_RX9_82 (As := [.long (lI (byS tx (v 11) i)), .long (lI 48), .long (lI 57)]) (rest := []) F hl (c_X9_isIn l X w12 (byS tx (v 11) i) 48 57 (by omega) (by omega) (by omega)) hW hS rfl rfl ⟨Nat.le_of_ble_eq_true rfl, Nat.le_of_ble_eq_true rfl⟩ (Nat.le_of_ble_eq_true rfl) ⟨Nat.zero_le _, Nat.zero_le _⟩ dX9_goesOn_135 (fun w1 H locs hp18 hW hS => ?_)
              rw [hp18] at hW; clear hp18; clear w1
              refine h_top (show (bz (decide (48 ≤ (byS tx (v 11) i) ∧ (byS tx (v 11) i) ≤ 57)) : Int) = bz (dgB (tx i)) from by rw [hbs]; rfl) ?_
              refine h_ifeqb (tgt := 209) F dX9_goesOn_138 (by decide) (fun c19 => ?_) (fun c19 => ?_)
              · have hkd : kdT tx (v 11) i = if tx i = 59 ∨ tx i = 123 ∨ tx i = 125 then tx i else -1 := by unfold kdT; rw [if_pos (by omega), if_neg (by rw [‹ltB (tx i) = false›]; decide), if_neg (by rw [‹dgB (tx i) = false›]; decide)]
                have he : enT tx (v 11) i = i + 1 := by unfold enT; rw [if_pos (by omega), if_neg (by rw [‹ltB (tx i) = false›]; decide), if_neg (by rw [‹dgB (tx i) = false›]; decide)]
                have hv : vaT 1000000 tx (v 11) i = 0 := by unfold vaT; exact if_neg (by intro z; rw [‹dgB (tx i) = false›] at z; exact absurd z.2.2 (by decide))
                refine lv_aload_n F.1 F.2.1 dX9_goesOn_209 rfl (lv_at hl 1 rfl) ?_
                have join233 : ∀ (H : Heap) (locs : List Loc) (ls : Array Slot), Wd X w12 s H → va_S (cxA X) s.heap H locs → lv_has ls 2 [(1, .int (iI (byS tx (v 11) i))), (0, .ref mo)] → W p l e (rmk 1 25) s m (List.toArray [.ref mo]) below meth c H locs 0 0 (MX X below (List.toArray [.ref mo]) s 0 0 none (fun w' => w' mo = some (.inr (9, mL mo (goV tx v))) ∧ ∀ q : Nat, q ≠ mo → w' q = w q)) (F0 m 233 ls [.int (iI (rfK (kdT tx (v 11) i))), .ref mo]) := by
                  intro  H locs ls  hW hS hl
                  refine pf_RX9_288 F hW hS ho14 (Nat.le_of_ble_eq_true rfl) dX9_goesOn_233 (fun w20 H locs ho22 hn21 hW hS => ?_)
                  rw [mL_16] at ho22
                  have htx := (hn21 _ (by omega)).trans htx
                  refine lv_aload_n F.1 F.2.1 dX9_goesOn_236 rfl (lv_at hl 1 rfl) ?_
                  refine lv_dup F.1 F.2.1 dX9_goesOn_237 rfl ?_
                  refine gf_RX9_276 F hW ho22 rfl dX9_goesOn_238 ?_
                  refine h_top (show ((up (up (up (up v 14 i) 15 i) 17 0) 16 (rfK (kdT tx (v 11) i))) 14 : Int) = i from rfl) ?_
                  refine h_iconst F dX9_goesOn_241 ?_
                  refine h_iadd (a := i) (b := 1) F dX9_goesOn_242 ?_
                  refine pf_RX9_276 F hW hS ho22 (Nat.le_of_ble_eq_true rfl) dX9_goesOn_243 (fun w23 H locs ho25 hn24 hW hS => ?_)
                  rw [mL_14] at ho25
                  have htx := (hn24 _ (by omega)).trans htx
                  exact h_vret F hr hlk hW hS ⟨(by (rw [ho25]) <;> (first | (unfold goV; rw [hs, he, hv, hk]; rfl) | (unfold goV; rw [hs, he, hv]; exact congrArg (fun z => some (Sum.inr (9, mL mo z))) (T4_14 v i i 0 _ (i + 1))))), (fun q h09 => by rw [hn24 q (by omega), hn21 q (by omega), hn13 q (by omega), hn9 q (by omega), hF0 q (by omega)])⟩ dX9_goesOn_246
                refine lv_iload_n F.1 F.2.1 dX9_goesOn_210 rfl (lv_at hl 0 rfl) ?_
                refine h_bipush F dX9_goesOn_211 rfl ?_
                refine h_iceq (tgt := 228) F dX9_goesOn_213 (by decide) (by omega) (fun c26 => ?_) (fun c26 => ?_)
                · refine h_iconst F dX9_goesOn_228 ?_
                  refine h_goto (tgt := 233) F dX9_goesOn_229 (by decide) ?_
                  refine h_top (show (3 : Int) = rfK (kdT tx (v 11) i) from by unfold rfK; rw [hkd]; (repeat' split) <;> omega) ?_
                  exact join233  _ _ ls  hW hS (lv_sub hl [0, 1] rfl)
                · refine lv_iload_n F.1 F.2.1 dX9_goesOn_216 rfl (lv_at hl 0 rfl) ?_
                  refine h_bipush F dX9_goesOn_217 rfl ?_
                  refine h_iceq (tgt := 228) F dX9_goesOn_219 (by decide) (by omega) (fun c27 => ?_) (fun c27 => ?_)
                  · refine h_iconst F dX9_goesOn_228 ?_
                    refine h_goto (tgt := 233) F dX9_goesOn_229 (by decide) ?_
                    refine h_top (show (3 : Int) = rfK (kdT tx (v 11) i) from by unfold rfK; rw [hkd]; (repeat' split) <;> omega) ?_
                    exact join233  _ _ ls  hW hS (lv_sub hl [0, 1] rfl)
                  · refine lv_iload_n F.1 F.2.1 dX9_goesOn_222 rfl (lv_at hl 0 rfl) ?_
                    refine h_bipush F dX9_goesOn_223 rfl ?_
                    refine h_icne (tgt := 232) F dX9_goesOn_225 (by decide) (by omega) (fun c28 => ?_) (fun c28 => ?_)
                    · refine h_iconst F dX9_goesOn_232 ?_
                      refine h_top (show (4 : Int) = rfK (kdT tx (v 11) i) from by unfold rfK; rw [hkd]; (repeat' split) <;> omega) ?_
                      exact join233  _ _ ls  hW hS (lv_sub hl [0, 1] rfl)
                    · refine h_iconst F dX9_goesOn_228 ?_
                      refine h_goto (tgt := 233) F dX9_goesOn_229 (by decide) ?_
                      refine h_top (show (3 : Int) = rfK (kdT tx (v 11) i) from by unfold rfK; rw [hkd]; (repeat' split) <;> omega) ?_
                      exact join233  _ _ ls  hW hS (lv_sub hl [0, 1] rfl)
              · refine lv_aload_n F.1 F.2.1 dX9_goesOn_141 rfl (lv_at hl 1 rfl) ?_
                refine h_iconst F dX9_goesOn_142 ?_
                refine pf_RX9_288 F hW hS ho14 (Nat.le_of_ble_eq_true rfl) dX9_goesOn_143 (fun w29 H locs ho31 hn30 hW hS => ?_)
                rw [mL_16] at ho31
                have htx := (hn30 _ (by omega)).trans htx
                have loop146 : ∀ (n9 : Nat) (j : Int), (hrg : i ≤ j ∧ j ≤ v 11) → (hms : v 11 - j < (n9 : Int)) → (wz7 : Wo) → (hO146_0 : wz7 mo = some (.inr (9, mL mo (up (up (up (up v 14 j) 15 i) 17 (nvN 1000000 tx i (j - i).toNat)) 16 2)))) → (hF146 : ∀ q : Nat, q ≠ mo → wz7 q = w29 q) → (hnd : ∀ z, i ≤ z → z < j → dgB (tx z) = true) → (H : Heap) → (locs : List Loc) → (ls : Array Slot) → Wd X wz7 s H → va_S (cxA X) s.heap H locs → lv_has ls 2 [(1, .int (iI (byS tx (v 11) i))), (0, .ref mo)] → W p l e (rmk 1 25) s m (List.toArray [.ref mo]) below meth c H locs 0 0 (MX X below (List.toArray [.ref mo]) s 0 0 none (fun w' => w' mo = some (.inr (9, mL mo (goV tx v))) ∧ ∀ q : Nat, q ≠ mo → w' q = w q)) (F0 m 146 ls []) := by
                  intro n9
                  induction n9 with
                  | zero => intro j  hrg hms; exfalso; omega
                  | succ n9 ih146 =>
                    intro j  hrg hms wz7 hO146_0 hF146 hnd H locs ls hW hS hl
                    have htx := (hF146 _ (by omega)).trans htx
                    have hnv := nvN_r (cap := 1000000) (f := tx) (s := i) (by decide) (j - i).toNat (fun z hz => by have := of_decide_eq_true (hnd (i + z) (by omega) (by omega)); omega)
                    refine lv_aload_n F.1 F.2.1 dX9_goesOn_146 rfl (lv_at hl 1 rfl) ?_
                    refine lv_aload_n F.1 F.2.1 dX9_goesOn_147 rfl (lv_at hl 1 rfl) ?_
                    refine gf_RX9_276 F hW hO146_0 rfl dX9_goesOn_148 ?_
                    refine h_top (show ((up (up (up (up v 14 j) 15 i) 17 (nvN 1000000 tx i (j - i).toNat)) 16 2) 14 : Int) = j from rfl) ?_
                    refine cl_RX9_279 (As := [.int (iI j)]) (rest := []) F hl (c_X9_byteAt l X wz7 mo (up (up (up (up v 14 j) 15 i) 17 (nvN 1000000 tx i (j - i).toNat)) 16 2) tx j hO146_0 htx hun (by show 0 ≤ j ∧ j ≤ v 11; omega)) hW hS hO146_0 rfl rfl ⟨Nat.le_of_ble_eq_true rfl, Nat.le_of_ble_eq_true rfl⟩ (Nat.le_of_ble_eq_true rfl) ⟨Nat.zero_le _, Nat.zero_le _⟩ dX9_goesOn_151 (fun w1 H locs hp32 hW hS => ?_)
                    rw [hp32] at hW; clear hp32; clear w1
                    refine h_top (show (byS tx ((up (up (up (up v 14 j) 15 i) 17 (nvN 1000000 tx i (j - i).toNat)) 16 2) 11) j : Int) = byS tx (v 11) j from rfl) ?_
                    have hrb := byS_r (f := tx) (N := v 11) (i := j) hfb
                    refine h_i2l F dX9_goesOn_154 (by omega) ?_
                    refine h_ldc2 (n := 48) F kk_RX9_291 dX9_goesOn_155 ?_
                    refine h_ldc2 (n := 57) F kk_RX9_293 dX9_goesOn_158 ?_
                    refine cl_RX9_82 (As := [.long (lI (byS tx (v 11) j)), .long (lI 48), .long (lI 57)]) (rest := []) F hl (c_X9_isIn l X wz7 (byS tx (v 11) j) 48 57 (by omega) (by omega) (by omega)) hW hS rfl rfl ⟨Nat.le_of_ble_eq_true rfl, Nat.le_of_ble_eq_true rfl⟩ (Nat.le_of_ble_eq_true rfl) ⟨Nat.zero_le _, Nat.zero_le _⟩ dX9_goesOn_161 (fun w1 H locs hp33 hW hS => ?_)
                    rw [hp33] at hW; clear hp33; clear w1
                    refine h_ifeqb (tgt := 246) F dX9_goesOn_164 (by decide) (fun c34 => ?_) (fun c34 => ?_)
                    · have c34d := of_decide_eq_false c34
                      have hde : dgE tx (v 11) i = j := go_dg (by omega) (by omega) hnd (by omega) (by omega)
                      have hk : kdT tx (v 11) i = 2 := by unfold kdT; rw [if_pos (by omega), if_neg (by rw [‹ltB (tx i) = false›]; decide), if_pos ‹dgB (tx i) = true›]
                      have he : enT tx (v 11) i = j := by unfold enT; rw [if_pos (by omega), if_neg (by rw [‹ltB (tx i) = false›]; decide), if_pos ‹dgB (tx i) = true›]; exact hde
                      have hv : vaT 1000000 tx (v 11) i = nvN 1000000 tx i (j - i).toNat := by unfold vaT; rw [if_pos ⟨by omega, ‹ltB (tx i) = false›, ‹dgB (tx i) = true›⟩, hde]
                      exact h_vret F hr hlk hW hS ⟨(by (rw [hO146_0]) <;> (first | (unfold goV; rw [hs, he, hv, hk]; rfl) | (unfold goV; rw [hs, he, hv]; exact congrArg (fun z => some (Sum.inr (9, mL mo z))) (T4_14 v i i 0 _ (i + 1))))), (fun q h09 => by rw [hF146 q (by omega), hn30 q (by omega), hn13 q (by omega), hn9 q (by omega), hF0 q (by omega)])⟩ dX9_goesOn_246
                    · have c34d := of_decide_eq_true c34
                      have hb1 := byS_1 (f := tx) (N := v 11) (i := j) (by omega) (by omega)
                      have hd9 : dgB (tx j) = true := decide_eq_true (by omega)
                      have hbj := hfb j (by omega) (by omega)
                      refine lv_aload_n F.1 F.2.1 dX9_goesOn_167 rfl (lv_at hl 1 rfl) ?_
                      refine h_ldcw (n := 1000000) F kk_RX9_295 dX9_goesOn_168 ?_
                      refine h_bipush F dX9_goesOn_171 rfl ?_
                      refine lv_aload_n F.1 F.2.1 dX9_goesOn_173 rfl (lv_at hl 1 rfl) ?_
                      refine gf_RX9_285 F hW hO146_0 rfl dX9_goesOn_174 ?_
                      refine h_top (show ((up (up (up (up v 14 j) 15 i) 17 (nvN 1000000 tx i (j - i).toNat)) 16 2) 17 : Int) = nvN 1000000 tx i (j - i).toNat from rfl) ?_
                      refine h_imul (a := 10) (b := nvN 1000000 tx i (j - i).toNat) F dX9_goesOn_177 ?_
                      refine lv_aload_n F.1 F.2.1 dX9_goesOn_178 rfl (lv_at hl 1 rfl) ?_
                      refine lv_aload_n F.1 F.2.1 dX9_goesOn_179 rfl (lv_at hl 1 rfl) ?_
                      refine gf_RX9_276 F hW hO146_0 rfl dX9_goesOn_180 ?_
                      refine h_top (show ((up (up (up (up v 14 j) 15 i) 17 (nvN 1000000 tx i (j - i).toNat)) 16 2) 14 : Int) = j from rfl) ?_
                      refine cl_RX9_279 (As := [.int (iI j)]) (rest := [.int (iI (10 * (nvN 1000000 tx i (j - i).toNat))), .int (iI 1000000), .ref mo]) F hl (c_X9_byteAt l X wz7 mo (up (up (up (up v 14 j) 15 i) 17 (nvN 1000000 tx i (j - i).toNat)) 16 2) tx j hO146_0 htx hun (by show 0 ≤ j ∧ j ≤ v 11; omega)) hW hS hO146_0 rfl rfl ⟨Nat.le_of_ble_eq_true rfl, Nat.le_of_ble_eq_true rfl⟩ (Nat.le_of_ble_eq_true rfl) ⟨Nat.zero_le _, Nat.zero_le _⟩ dX9_goesOn_183 (fun w1 H locs hp35 hW hS => ?_)
                      rw [hp35] at hW; clear hp35; clear w1
                      refine h_top (show (byS tx ((up (up (up (up v 14 j) 15 i) 17 (nvN 1000000 tx i (j - i).toNat)) 16 2) 11) j : Int) = tx j from byS_i (N := v 11) (by omega) (by omega)) ?_
                      refine h_iadd (a := 10 * (nvN 1000000 tx i (j - i).toNat)) (b := tx j) F dX9_goesOn_186 ?_
                      refine h_bipush F dX9_goesOn_187 rfl ?_
                      refine h_isub (a := (10 * (nvN 1000000 tx i (j - i).toNat)) + (tx j)) (b := 48) F dX9_goesOn_189 ?_
                      refine h_mmin (index := 167) (a := 1000000) (b := ((10 * (nvN 1000000 tx i (j - i).toNat)) + (tx j)) - 48) F hl km_RX9_167 (Nat.le_of_ble_eq_true rfl) (Nat.le_of_ble_eq_true rfl) (Nat.zero_le _) (Nat.zero_le _) (by omega) dX9_goesOn_190 ?_
                      refine h_top (show (min 1000000 (((10 * (nvN 1000000 tx i (j - i).toNat)) + (tx j)) - 48) : Int) = nvN 1000000 tx i (j + 1 - i).toNat from (nvN_s 1000000 tx i (by omega)).symm) ?_
                      refine pf_RX9_285 F hW hS hO146_0 (Nat.le_of_ble_eq_true rfl) dX9_goesOn_193 (fun w36 H locs ho38 hn37 hW hS => ?_)
                      rw [mL_17] at ho38
                      have htx := (hn37 _ (by omega)).trans htx
                      refine lv_aload_n F.1 F.2.1 dX9_goesOn_196 rfl (lv_at hl 1 rfl) ?_
                      refine lv_dup F.1 F.2.1 dX9_goesOn_197 rfl ?_
                      refine gf_RX9_276 F hW ho38 rfl dX9_goesOn_198 ?_
                      refine h_top (show ((up (up (up (up (up v 14 j) 15 i) 17 (nvN 1000000 tx i (j - i).toNat)) 16 2) 17 (nvN 1000000 tx i (j + 1 - i).toNat)) 14 : Int) = j from rfl) ?_
                      refine h_iconst F dX9_goesOn_201 ?_
                      refine h_iadd (a := j) (b := 1) F dX9_goesOn_202 ?_
                      refine pf_RX9_276 F hW hS ho38 (Nat.le_of_ble_eq_true rfl) dX9_goesOn_203 (fun w39 H locs ho41 hn40 hW hS => ?_)
                      rw [mL_14] at ho41
                      have htx := (hn40 _ (by omega)).trans htx
                      refine h_goto (tgt := 146) F dX9_goesOn_206 (by decide) ?_
                      exact ih146 (j + 1)  (by omega) (by omega) w39 (by rw [show (up (up (up (up v 14 (j + 1)) 15 i) 17 (nvN 1000000 tx i ((j + 1) - i).toNat)) 16 2 : Int → Int) = up (up (up (up (up (up v 14 j) 15 i) 17 (nvN 1000000 tx i (j - i).toNat)) 16 2) 17 (nvN 1000000 tx i (j + 1 - i).toNat)) 14 (j + 1) from ((congrArg (fun z => up z 14 (j + 1)) (T4_17 v j i _ 2 _)).trans (T4_14 v j i _ 2 (j + 1))).symm]; exact ho41) (fun q h09 => by rw [hn40 q (by omega), hn37 q (by omega), hF146 q (by omega)]) (fun z h1 h2 => (by by_cases hj : z = j; (rw [hj]; assumption); exact hnd z h1 (by omega))) _ _ ls hW hS (lv_sub hl [0, 1] rfl)
                exact loop146 ((v 11 - i) + 1 : Int).toNat i  (by omega) (by omega) w29 (by rw [show (up (up (up (up v 14 i) 15 i) 17 (nvN 1000000 tx i (i - i).toNat)) 16 2 : Int → Int) = up (up (up (up v 14 i) 15 i) 17 0) 16 2 from by rw [show nvN 1000000 tx i (i - i).toNat = 0 by rw [show (i - i).toNat = 0 by omega]; rfl]]; exact ho31) (fun q _ => rfl) (fun z h1 h2 => by omega) _ _ ls hW hS (lv_sub hl [0, 1] rfl)
            · refine lv_aload_n F.1 F.2.1 dX9_goesOn_88 rfl (lv_at hl 1 rfl) ?_
              refine h_iconst F dX9_goesOn_89 ?_
              refine pf_RX9_288 F hW hS ho14 (Nat.le_of_ble_eq_true rfl) dX9_goesOn_90 (fun w42 H locs ho44 hn43 hW hS => ?_)
              rw [mL_16] at ho44
              have htx := (hn43 _ (by omega)).trans htx
              have loop93 : ∀ (n9 : Nat) (j : Int), (hrg : i ≤ j ∧ j ≤ v 11) → (hms : v 11 - j < (n9 : Int)) → (wz9 : Wo) → (hO93_0 : wz9 mo = some (.inr (9, mL mo (up (up (up (up v 14 j) 15 i) 17 0) 16 1)))) → (hF93 : ∀ q : Nat, q ≠ mo → wz9 q = w42 q) → (hnl : ∀ z, i ≤ z → z < j → ltB (tx z) = true) → (H : Heap) → (locs : List Loc) → (ls : Array Slot) → Wd X wz9 s H → va_S (cxA X) s.heap H locs → lv_has ls 2 [(1, .int (iI (byS tx (v 11) i))), (0, .ref mo)] → W p l e (rmk 1 25) s m (List.toArray [.ref mo]) below meth c H locs 0 0 (MX X below (List.toArray [.ref mo]) s 0 0 none (fun w' => w' mo = some (.inr (9, mL mo (goV tx v))) ∧ ∀ q : Nat, q ≠ mo → w' q = w q)) (F0 m 93 ls []) := by
                intro n9
                induction n9 with
                | zero => intro j  hrg hms; exfalso; omega
                | succ n9 ih93 =>
                  intro j  hrg hms wz9 hO93_0 hF93 hnl H locs ls hW hS hl
                  have htx := (hF93 _ (by omega)).trans htx
                  refine lv_aload_n F.1 F.2.1 dX9_goesOn_93 rfl (lv_at hl 1 rfl) ?_
                  refine lv_aload_n F.1 F.2.1 dX9_goesOn_94 rfl (lv_at hl 1 rfl) ?_
                  refine gf_RX9_276 F hW hO93_0 rfl dX9_goesOn_95 ?_
                  refine h_top (show ((up (up (up (up v 14 j) 15 i) 17 0) 16 1) 14 : Int) = j from rfl) ?_
                  refine cl_RX9_279 (As := [.int (iI j)]) (rest := []) F hl (c_X9_byteAt l X wz9 mo (up (up (up (up v 14 j) 15 i) 17 0) 16 1) tx j hO93_0 htx hun (by show 0 ≤ j ∧ j ≤ v 11; omega)) hW hS hO93_0 rfl rfl ⟨Nat.le_of_ble_eq_true rfl, Nat.le_of_ble_eq_true rfl⟩ (Nat.le_of_ble_eq_true rfl) ⟨Nat.zero_le _, Nat.zero_le _⟩ dX9_goesOn_98 (fun w1 H locs hp45 hW hS => ?_)
                  rw [hp45] at hW; clear hp45; clear w1
                  refine h_top (show (byS tx ((up (up (up (up v 14 j) 15 i) 17 0) 16 1) 11) j : Int) = byS tx (v 11) j from rfl) ?_
                  have hrb := byS_r (f := tx) (N := v 11) (i := j) hfb
                  refine h_i2l F dX9_goesOn_101 (by omega) ?_
                  refine h_ldc2 (n := 97) F kk_RX9_266 dX9_goesOn_102 ?_
                  refine h_ldc2 (n := 122) F kk_RX9_268 dX9_goesOn_105 ?_
                  refine cl_RX9_82 (As := [.long (lI (byS tx (v 11) j)), .long (lI 97), .long (lI 122)]) (rest := []) F hl (c_X9_isIn l X wz9 (byS tx (v 11) j) 97 122 (by omega) (by omega) (by omega)) hW hS rfl rfl ⟨Nat.le_of_ble_eq_true rfl, Nat.le_of_ble_eq_true rfl⟩ (Nat.le_of_ble_eq_true rfl) ⟨Nat.zero_le _, Nat.zero_le _⟩ dX9_goesOn_108 (fun w1 H locs hp46 hW hS => ?_)
                  rw [hp46] at hW; clear hp46; clear w1
                  refine h_ifeqb (tgt := 246) F dX9_goesOn_111 (by decide) (fun c47 => ?_) (fun c47 => ?_)
                  · have c47d := of_decide_eq_false c47
                    have hwe : wdE tx (v 11) i = j := go_wd (by omega) (by omega) hnl (by omega) (by omega)
                    have hk : kdT tx (v 11) i = 1 := by unfold kdT; rw [if_pos (by omega), if_pos ‹ltB (tx i) = true›]
                    have he : enT tx (v 11) i = j := by unfold enT; rw [if_pos (by omega), if_pos ‹ltB (tx i) = true›]; exact hwe
                    have hv : vaT 1000000 tx (v 11) i = 0 := by unfold vaT; rw [if_neg (by intro z; rw [‹ltB (tx i) = true›] at z; exact absurd z.2.1 (by decide))]
                    exact h_vret F hr hlk hW hS ⟨(by (rw [hO93_0]) <;> (first | (unfold goV; rw [hs, he, hv, hk]; rfl) | (unfold goV; rw [hs, he, hv]; exact congrArg (fun z => some (Sum.inr (9, mL mo z))) (T4_14 v i i 0 _ (i + 1))))), (fun q h09 => by rw [hF93 q (by omega), hn43 q (by omega), hn13 q (by omega), hn9 q (by omega), hF0 q (by omega)])⟩ dX9_goesOn_246
                  · have c47d := of_decide_eq_true c47
                    have hb1 := byS_1 (f := tx) (N := v 11) (i := j) (by omega) (by omega)
                    have hl9 : ltB (tx j) = true := decide_eq_true (by omega)
                    refine lv_aload_n F.1 F.2.1 dX9_goesOn_114 rfl (lv_at hl 1 rfl) ?_
                    refine lv_dup F.1 F.2.1 dX9_goesOn_115 rfl ?_
                    refine gf_RX9_276 F hW hO93_0 rfl dX9_goesOn_116 ?_
                    refine h_top (show ((up (up (up (up v 14 j) 15 i) 17 0) 16 1) 14 : Int) = j from rfl) ?_
                    refine h_iconst F dX9_goesOn_119 ?_
                    refine h_iadd (a := j) (b := 1) F dX9_goesOn_120 ?_
                    refine pf_RX9_276 F hW hS hO93_0 (Nat.le_of_ble_eq_true rfl) dX9_goesOn_121 (fun w48 H locs ho50 hn49 hW hS => ?_)
                    rw [mL_14] at ho50
                    have htx := (hn49 _ (by omega)).trans htx
                    refine h_goto (tgt := 93) F dX9_goesOn_124 (by decide) ?_
                    exact ih93 (j + 1)  (by omega) (by omega) w48 (by rw [show (up (up (up (up v 14 (j + 1)) 15 i) 17 0) 16 1 : Int → Int) = up (up (up (up (up v 14 j) 15 i) 17 0) 16 1) 14 (j + 1) from (T4_14 v j i 0 1 (j + 1)).symm]; exact ho50) (fun q h09 => by rw [hn49 q (by omega), hF93 q (by omega)]) (fun z h1 h2 => (by by_cases hj : z = j; (rw [hj]; assumption); exact hnl z h1 (by omega))) _ _ ls hW hS (lv_sub hl [0, 1] rfl)
              exact loop93 ((v 11 - i) + 1 : Int).toNat i  (by omega) (by omega) w42 ho44 (fun q _ => rfl) (fun z h1 h2 => by omega) _ _ ls hW hS (lv_sub hl [0, 1] rfl)
          · have hiN := byS_0 (f := tx) (N := v 11) (i := i) (by omega) (by omega) hfb (by omega)
            have hk : kdT tx (v 11) i = 0 := by unfold kdT; exact if_neg (by omega)
            have he : enT tx (v 11) i = i := by unfold enT; exact if_neg (by omega)
            have hv : vaT 1000000 tx (v 11) i = 0 := by unfold vaT; exact if_neg (by omega)
            refine lv_aload_n F.1 F.2.1 dX9_goesOn_66 rfl (lv_at hl 1 rfl) ?_
            refine h_iconst F dX9_goesOn_67 ?_
            refine pf_RX9_288 F hW hS ho14 (Nat.le_of_ble_eq_true rfl) dX9_goesOn_68 (fun w51 H locs ho53 hn52 hW hS => ?_)
            rw [mL_16] at ho53
            have htx := (hn52 _ (by omega)).trans htx
            refine h_goto (tgt := 246) F dX9_goesOn_71 (by decide) ?_
            exact h_vret F hr hlk hW hS ⟨(by (rw [ho53]) <;> (first | (unfold goV; rw [hs, he, hv, hk]; rfl) | (unfold goV; rw [hs, he, hv]; exact congrArg (fun z => some (Sum.inr (9, mL mo z))) (T4_14 v i i 0 _ (i + 1))))), (fun q h09 => by rw [hn52 q (by omega), hn13 q (by omega), hn9 q (by omega), hF0 q (by omega)])⟩ dX9_goesOn_246
        · have hb1 := byS_1 (f := tx) (N := v 11) (i := i) (by omega) (by omega)
          have hbl : blB (tx i) = true := decide_eq_true (by omega)
          refine lv_aload_n F.1 F.2.1 dX9_goesOn_26 rfl (lv_at hl 0 rfl) ?_
          refine lv_dup F.1 F.2.1 dX9_goesOn_27 rfl ?_
          refine gf_RX9_276 F hW hO0_0 rfl dX9_goesOn_28 ?_
          refine h_top (show ((up v 14 i) 14 : Int) = i from rfl) ?_
          refine h_iconst F dX9_goesOn_31 ?_
          refine h_iadd (a := i) (b := 1) F dX9_goesOn_32 ?_
          refine pf_RX9_276 F hW hS hO0_0 (Nat.le_of_ble_eq_true rfl) dX9_goesOn_33 (fun w54 H locs ho56 hn55 hW hS => ?_)
          rw [mL_14] at ho56
          have htx := (hn55 _ (by omega)).trans htx
          refine h_goto (tgt := 0) F dX9_goesOn_36 (by decide) ?_
          exact ih0 (i + 1)  (by omega) (by omega) w54 (by rw [show (up v 14 (i + 1) : Int → Int) = up (up v 14 i) 14 (i + 1) from (up_up _ _ _ _).symm]; exact ho56) (fun q h09 => by rw [hn55 q (by omega), hF0 q (by omega)]) (fun z h1 h2 => (by by_cases hj : z = i; (rw [hj]; assumption); exact hno z h1 (by omega))) _ _ ls hW hS (lv_sub hl [0] rfl)
  exact loop0 ((v 11 - (v 14)) + 1 : Int).toNat (v 14)  (by omega) (by omega) w (by rw [show (up v 14 (v 14) : Int → Int) = v from up_self _ _]; exact hM) (fun q _ => rfl) (fun z h1 h2 => by omega) _ _ ls hW hS (lv_sub hl [0] rfl)
set_option maxHeartbeats 4000000 in
set_option maxRecDepth 100000 in
theorem c_X9_must (l : Launch) (X : Cx) (w : Wo) (mo : Nat) (v tx : Int → Int) (b : Bool) (hM : w mo = some (.inr (9, mL mo v))) (htx : w (mo + 7) = some (aZ X 400 tx)) (hvp : vP tx v) : CM l X yX9_must cX9_must 2 none (rmk 2 46) [.ref mo, .int (iI (bz b))] w none (fun w' => w' mo = some (.inr (9, mL mo (muV tx b v))) ∧ ∀ q : Nat, q ≠ mo → w' q = w q) := by
  refine CM.of (lv := [(0, .ref mo), (1, .int (iI (bz b)))]) (by decide) (Nat.le_of_ble_eq_true rfl) rfl (fun p e s m below meth c ls F hr hlk hin hW hS hl => ?_)
  have hZ0 := hW.2.2
  have hB9 := hW.1.2
  clear hin
  have hvt := hvp.1
  have h18 := hvp.2
  have hun := hvt.1
  have hfb := hvt.2.1
  have hvr := hvt.r
  have join9 : ∀ (v1 : Int → Int) (wj : Wo) (H : Heap) (locs : List Loc) (ls : Array Slot), (hO9_0 : wj mo = some (.inr (9, mL mo v1))) → (hF9 : ∀ q : Nat, q ≠ mo → wj q = w q) → (hv1 : v1 = if b = true then v else faV 1 v) → Wd X wj s H → va_S (cxA X) s.heap H locs → lv_has ls 2 [(0, .ref mo), (1, .int (iI (bz b)))] → W p l e (rmk 2 46) s m (List.toArray [.ref mo, .int (iI (bz b))]) below meth c H locs 0 0 (MX X below (List.toArray [.ref mo, .int (iI (bz b))]) s 0 0 none (fun w' => w' mo = some (.inr (9, mL mo (muV tx b v))) ∧ ∀ q : Nat, q ≠ mo → w' q = w q)) (F0 m 9 ls []) := by
    intro v1  wj H locs ls hO9_0 hF9 hv1 hW hS hl
    have htx := (hF9 _ (by omega)).trans htx
    have hp1 : vP tx v1 := by (rw [hv1]; split; exact hvp; exact hvp.fa (by decide))
    have h181 := hp1.2
    refine lv_aload_n F.1 F.2.1 dX9_must_9 rfl (lv_at hl 0 rfl) ?_
    refine cl_RX9_299 (As := []) (rest := []) F hl (c_X9_isFine l X wj mo v1 hO9_0 (by omega)) hW hS hO9_0 rfl rfl ⟨Nat.le_of_ble_eq_true rfl, Nat.le_of_ble_eq_true rfl⟩ (Nat.le_of_ble_eq_true rfl) ⟨Nat.zero_le _, Nat.zero_le _⟩ dX9_must_10 (fun w1 H locs hp1 hW hS => ?_)
    rw [hp1] at hW; clear hp1; clear w1
    refine h_ifeqb (tgt := 20) F dX9_must_13 (by decide) (fun c2 => ?_) (fun c2 => ?_)
    · have c2d := of_decide_eq_false c2
      exact h_vret F hr hlk hW hS ⟨(by (rw [hO9_0]) <;> (unfold muV gfV; rw [← hv1]; first | rw [if_pos (by omega)] | rw [if_neg (by omega)])), (fun q h09 => by rw [hF9 q (by omega)])⟩ dX9_must_20
    · have c2d := of_decide_eq_true c2
      refine lv_aload_n F.1 F.2.1 dX9_must_16 rfl (lv_at hl 0 rfl) ?_
      refine cl_RX9_314 (As := []) (rest := []) F hl (c_X9_goesOn l X wj mo v1 tx hO9_0 htx hp1.1.1 (by have := hp1.1.r; omega) hp1.1.2.1) hW hS hO9_0 rfl rfl ⟨Nat.le_of_ble_eq_true rfl, Nat.le_of_ble_eq_true rfl⟩ (Nat.le_of_ble_eq_true rfl) ⟨Nat.zero_le _, Nat.zero_le _⟩ dX9_must_17 (fun w3 H locs hp4 hW hS => ?_)
      obtain ⟨ho5, hn6⟩ := hp4
      have htx := (hn6 _ (by omega)).trans htx
      exact h_vret F hr hlk hW hS ⟨(by (rw [ho5]) <;> (unfold muV gfV; rw [← hv1]; first | rw [if_pos (by omega)] | rw [if_neg (by omega)])), (fun q h09 => by rw [hn6 q (by omega), hF9 q (by omega)])⟩ dX9_must_20
  refine lv_iload_n F.1 F.2.1 dX9_must_0 rfl (lv_at hl 1 rfl) ?_
  refine h_ifneb (tgt := 9) F dX9_must_1 (by decide) (fun c7 => ?_) (fun c7 => ?_)
  · exact join9 v  w _ _ ls hM (fun q h09 => rfl) (by first | rw [if_pos (by assumption)] | rw [if_neg (by rw [‹b = false›]; decide)]) hW hS (lv_sub hl [0, 1] rfl)
  · refine lv_aload_n F.1 F.2.1 dX9_must_4 rfl (lv_at hl 0 rfl) ?_
    refine h_iconst F dX9_must_5 ?_
    refine cl_RX9_311 (As := [.int (iI 1)]) (rest := []) F hl (c_X9_fails l X w mo v 1 hM (by omega)) hW hS hM rfl rfl ⟨Nat.le_of_ble_eq_true rfl, Nat.le_of_ble_eq_true rfl⟩ (Nat.le_of_ble_eq_true rfl) ⟨Nat.zero_le _, Nat.zero_le _⟩ dX9_must_6 (fun w8 H locs hp9 hW hS => ?_)
    obtain ⟨ho10, hn11⟩ := hp9
    have htx := (hn11 _ (by omega)).trans htx
    exact join9 (faV 1 v)  w8 _ _ ls ho10 (fun q h09 => by rw [hn11 q (by omega)]) (by first | rw [if_pos (by assumption)] | rw [if_neg (by rw [‹b = false›]; decide)]) hW hS (lv_sub hl [0, 1] rfl)
set_option maxHeartbeats 4000000 in
set_option maxRecDepth 100000 in
theorem c_X9_sees (l : Launch) (X : Cx) (w : Wo) (mo : Nat) (v tx : Int → Int) (lo hi : Int) (hM : w mo = some (.inr (9, mL mo v))) (hvp : vP tx v) (hlo : 0 ≤ lo ∧ lo < 100000) (hhi : 0 ≤ hi ∧ hi < 100000) : CM l X yX9_sees cX9_sees 3 (some (.int)) (rmk 2 41) [.ref mo, .int (iI lo), .int (iI hi)] w (some (.int (iI (seR lo hi v)))) (fun w' => w' mo = some (.inr (9, mL mo (seV lo hi v))) ∧ ∀ q : Nat, q ≠ mo → w' q = w q) := by
  refine CM.of (lv := [(0, .ref mo), (1, .int (iI lo)), (2, .int (iI hi))]) (by decide) (Nat.le_of_ble_eq_true rfl) rfl (fun p e s m below meth c ls F hr hlk hin hW hS hl => ?_)
  have hZ0 := hW.2.2
  have hB9 := hW.1.2
  clear hin
  have hvt := hvp.1
  have h18 := hvp.2
  have hun := hvt.1
  have hfb := hvt.2.1
  have hvr := hvt.r
  have join20 : ∀ (v1 : Int → Int) (wj : Wo) (H : Heap) (locs : List Loc) (ls : Array Slot), (hO20_0 : wj mo = some (.inr (9, mL mo v1))) → (hF20 : ∀ q : Nat, q ≠ mo → wj q = w q) → (hv1 : v1 = se1 v) → Wd X wj s H → va_S (cxA X) s.heap H locs → lv_has ls 3 [(0, .ref mo), (1, .int (iI lo)), (2, .int (iI hi))] → W p l e (rmk 2 41) s m (List.toArray [.ref mo, .int (iI lo), .int (iI hi)]) below meth c H locs 0 0 (MX X below (List.toArray [.ref mo, .int (iI lo), .int (iI hi)]) s 0 0 (some (.int (iI (seR lo hi v)))) (fun w' => w' mo = some (.inr (9, mL mo (seV lo hi v))) ∧ ∀ q : Nat, q ≠ mo → w' q = w q)) (F0 m 20 ls []) := by
    intro v1  wj H locs ls hO20_0 hF20 hv1 hW hS hl
    have hp1 : vP tx v1 := by (rw [hv1]; exact hvp.s1)
    have h181 := hp1.2
    have hvr1 := hp1.1.r
    have join47 : ∀ (v2 : Int → Int) (wk9 : Wo) (H : Heap) (locs : List Loc) (ls : Array Slot), (hO47_0 : wk9 mo = some (.inr (9, mL mo v2))) → (hF47 : ∀ q : Nat, q ≠ mo → wk9 q = wj q) → (hv2 : v2 = se2 lo hi v1) → Wd X wk9 s H → va_S (cxA X) s.heap H locs → lv_has ls 3 [(0, .ref mo), (1, .int (iI lo)), (2, .int (iI hi))] → W p l e (rmk 2 41) s m (List.toArray [.ref mo, .int (iI lo), .int (iI hi)]) below meth c H locs 0 0 (MX X below (List.toArray [.ref mo, .int (iI lo), .int (iI hi)]) s 0 0 (some (.int (iI (seR lo hi v)))) (fun w' => w' mo = some (.inr (9, mL mo (seV lo hi v))) ∧ ∀ q : Nat, q ≠ mo → w' q = w q)) (F0 m 47 ls []) := by
      intro v2  wk9 H locs ls hO47_0 hF47 hv2 hW hS hl
      have hp2 : vP tx v2 := by (rw [hv2]; exact hp1.s2)
      have h182 := hp2.2
      refine lv_aload_n F.1 F.2.1 dX9_sees_47 rfl (lv_at hl 0 rfl) ?_
      refine cl_RX9_299 (As := []) (rest := []) F hl (c_X9_isFine l X wk9 mo v2 hO47_0 (by omega)) hW hS hO47_0 rfl rfl ⟨Nat.le_of_ble_eq_true rfl, Nat.le_of_ble_eq_true rfl⟩ (Nat.le_of_ble_eq_true rfl) ⟨Nat.zero_le _, Nat.zero_le _⟩ dX9_sees_48 (fun w1 H locs hp1 hW hS => ?_)
      rw [hp1] at hW; clear hp1; clear w1
      refine h_ifeqb (tgt := 61) F dX9_sees_51 (by decide) (fun c2 => ?_) (fun c2 => ?_)
      · have c2d := of_decide_eq_false c2
        refine lv_iload_n F.1 F.2.1 dX9_sees_61 rfl (lv_at hl 1 rfl) ?_
        refine h_top (show (lo : Int) = seR lo hi v from by unfold seR seV; rw [← hv1, ← hv2]; first | rw [if_pos (by omega)] | rw [if_neg (by omega)]) ?_
        exact h_ireti F hr hlk hW hS ⟨(by (rw [hO47_0]) <;> (unfold seV; rw [← hv1, ← hv2])), (fun q h09 => by rw [hF47 q (by omega), hF20 q (by omega)])⟩ dX9_sees_62
      · have c2d := of_decide_eq_true c2
        refine lv_aload_n F.1 F.2.1 dX9_sees_54 rfl (lv_at hl 0 rfl) ?_
        refine gf_RX9_285 F hW hO47_0 rfl dX9_sees_55 ?_
        refine h_goto (tgt := 62) F dX9_sees_58 (by decide) ?_
        refine h_top (show (v2 17 : Int) = seR lo hi v from by unfold seR seV; rw [← hv1, ← hv2]; first | rw [if_pos (by omega)] | rw [if_neg (by omega)]) ?_
        exact h_ireti F hr hlk hW hS ⟨(by (rw [hO47_0]) <;> (unfold seV; rw [← hv1, ← hv2])), (fun q h09 => by rw [hF47 q (by omega), hF20 q (by omega)])⟩ dX9_sees_62
    refine lv_aload_n F.1 F.2.1 dX9_sees_20 rfl (lv_at hl 0 rfl) ?_
    refine cl_RX9_299 (As := []) (rest := []) F hl (c_X9_isFine l X wj mo v1 hO20_0 (by omega)) hW hS hO20_0 rfl rfl ⟨Nat.le_of_ble_eq_true rfl, Nat.le_of_ble_eq_true rfl⟩ (Nat.le_of_ble_eq_true rfl) ⟨Nat.zero_le _, Nat.zero_le _⟩ dX9_sees_21 (fun w1 H locs hp3 hW hS => ?_)
    rw [hp3] at hW; clear hp3; clear w1
    refine h_ifeqb (tgt := 47) F dX9_sees_24 (by decide) (fun c4 => ?_) (fun c4 => ?_)
    · have c4d := of_decide_eq_false c4
      exact join47 v1  wj _ _ ls hO20_0 (fun q h09 => rfl) (by unfold se2; first | rw [if_pos (by omega), if_pos (by omega)] | rw [if_pos (by omega), if_neg (by omega)] | rw [if_neg (by omega)]) hW hS (lv_sub hl [0, 1, 2] rfl)
    · have c4d := of_decide_eq_true c4
      refine lv_aload_n F.1 F.2.1 dX9_sees_27 rfl (lv_at hl 0 rfl) ?_
      refine gf_RX9_285 F hW hO20_0 rfl dX9_sees_28 ?_
      refine h_i2l F dX9_sees_31 (by omega) ?_
      refine lv_iload_n F.1 F.2.1 dX9_sees_32 rfl (lv_at hl 1 rfl) ?_
      refine h_i2l F dX9_sees_33 (by omega) ?_
      refine lv_iload_n F.1 F.2.1 dX9_sees_34 rfl (lv_at hl 2 rfl) ?_
      refine h_i2l F dX9_sees_35 (by omega) ?_
      refine cl_RX9_82 (As := [.long (lI (v1 17)), .long (lI lo), .long (lI hi)]) (rest := []) F hl (c_X9_isIn l X wj (v1 17) lo hi (by omega) (by omega) (by omega)) hW hS rfl rfl ⟨Nat.le_of_ble_eq_true rfl, Nat.le_of_ble_eq_true rfl⟩ (Nat.le_of_ble_eq_true rfl) ⟨Nat.zero_le _, Nat.zero_le _⟩ dX9_sees_36 (fun w1 H locs hp5 hW hS => ?_)
      rw [hp5] at hW; clear hp5; clear w1
      refine h_ifneb (tgt := 47) F dX9_sees_39 (by decide) (fun c6 => ?_) (fun c6 => ?_)
      · have c6d := of_decide_eq_true c6
        exact join47 v1  wj _ _ ls hO20_0 (fun q h09 => rfl) (by unfold se2; first | rw [if_pos (by omega), if_pos (by omega)] | rw [if_pos (by omega), if_neg (by omega)] | rw [if_neg (by omega)]) hW hS (lv_sub hl [0, 1, 2] rfl)
      · have c6d := of_decide_eq_false c6
        refine lv_aload_n F.1 F.2.1 dX9_sees_42 rfl (lv_at hl 0 rfl) ?_
        refine h_iconst F dX9_sees_43 ?_
        refine cl_RX9_311 (As := [.int (iI 2)]) (rest := []) F hl (c_X9_fails l X wj mo v1 2 hO20_0 (by omega)) hW hS hO20_0 rfl rfl ⟨Nat.le_of_ble_eq_true rfl, Nat.le_of_ble_eq_true rfl⟩ (Nat.le_of_ble_eq_true rfl) ⟨Nat.zero_le _, Nat.zero_le _⟩ dX9_sees_44 (fun w7 H locs hp8 hW hS => ?_)
        obtain ⟨ho9, hn10⟩ := hp8
        exact join47 (faV 2 v1)  w7 _ _ ls ho9 (fun q h09 => by rw [hn10 q (by omega)]) (by unfold se2; first | rw [if_pos (by omega), if_pos (by omega)] | rw [if_pos (by omega), if_neg (by omega)] | rw [if_neg (by omega)]) hW hS (lv_sub hl [0, 1, 2] rfl)
  refine lv_aload_n F.1 F.2.1 dX9_sees_0 rfl (lv_at hl 0 rfl) ?_
  refine cl_RX9_299 (As := []) (rest := []) F hl (c_X9_isFine l X w mo v hM (by omega)) hW hS hM rfl rfl ⟨Nat.le_of_ble_eq_true rfl, Nat.le_of_ble_eq_true rfl⟩ (Nat.le_of_ble_eq_true rfl) ⟨Nat.zero_le _, Nat.zero_le _⟩ dX9_sees_1 (fun w1 H locs hp11 hW hS => ?_)
  rw [hp11] at hW; clear hp11; clear w1
  refine h_ifeqb (tgt := 20) F dX9_sees_4 (by decide) (fun c12 => ?_) (fun c12 => ?_)
  · have c12d := of_decide_eq_false c12
    exact join20 v  w _ _ ls hM (fun q h09 => rfl) (by unfold se1; first | rw [if_pos (by omega), if_pos (by omega)] | rw [if_pos (by omega), if_neg (by omega)] | rw [if_neg (by omega)]) hW hS (lv_sub hl [0, 1, 2] rfl)
  · have c12d := of_decide_eq_true c12
    refine lv_aload_n F.1 F.2.1 dX9_sees_7 rfl (lv_at hl 0 rfl) ?_
    refine gf_RX9_288 F hW hM rfl dX9_sees_8 ?_
    refine h_iconst F dX9_sees_11 ?_
    refine h_iceq (tgt := 20) F dX9_sees_12 (by decide) (by omega) (fun c13 => ?_) (fun c13 => ?_)
    · exact join20 v  w _ _ ls hM (fun q h09 => rfl) (by unfold se1; first | rw [if_pos (by omega), if_pos (by omega)] | rw [if_pos (by omega), if_neg (by omega)] | rw [if_neg (by omega)]) hW hS (lv_sub hl [0, 1, 2] rfl)
    · refine lv_aload_n F.1 F.2.1 dX9_sees_15 rfl (lv_at hl 0 rfl) ?_
      refine h_iconst F dX9_sees_16 ?_
      refine cl_RX9_311 (As := [.int (iI 1)]) (rest := []) F hl (c_X9_fails l X w mo v 1 hM (by omega)) hW hS hM rfl rfl ⟨Nat.le_of_ble_eq_true rfl, Nat.le_of_ble_eq_true rfl⟩ (Nat.le_of_ble_eq_true rfl) ⟨Nat.zero_le _, Nat.zero_le _⟩ dX9_sees_17 (fun w14 H locs hp15 hW hS => ?_)
      obtain ⟨ho16, hn17⟩ := hp15
      exact join20 (faV 1 v)  w14 _ _ ls ho16 (fun q h09 => by rw [hn17 q (by omega)]) (by unfold se1; first | rw [if_pos (by omega), if_pos (by omega)] | rw [if_pos (by omega), if_neg (by omega)] | rw [if_neg (by omega)]) hW hS (lv_sub hl [0, 1, 2] rfl)
set_option maxHeartbeats 4000000 in
set_option maxRecDepth 100000 in
theorem c_X9_takesNumber (l : Launch) (X : Cx) (w : Wo) (mo : Nat) (v tx : Int → Int) (lo hi : Int) (hM : w mo = some (.inr (9, mL mo v))) (htx : w (mo + 7) = some (aZ X 400 tx)) (hvp : vP tx v) (hlo : 0 ≤ lo ∧ lo < 100000) (hhi : 0 ≤ hi ∧ hi < 100000) : CM l X yX9_takesNumber cX9_takesNumber 4 (some (.int)) (rmk 3 63) [.ref mo, .int (iI lo), .int (iI hi)] w (some (.int (iI (seR lo hi v)))) (fun w' => w' mo = some (.inr (9, mL mo (tkV tx lo hi v))) ∧ ∀ q : Nat, q ≠ mo → w' q = w q) := by
  refine CM.of (lv := [(0, .ref mo), (1, .int (iI lo)), (2, .int (iI hi))]) (by decide) (Nat.le_of_ble_eq_true rfl) rfl (fun p e s m below meth c ls F hr hlk hin hW hS hl => ?_)
  have hZ0 := hW.2.2
  have hB9 := hW.1.2
  clear hin
  have hvt := hvp.1
  have h18 := hvp.2
  have hun := hvt.1
  have hfb := hvt.2.1
  have hvr := hvt.r
  have hp1 := hvp.se (lo := lo) (hi := hi)
  have h181 := hp1.2
  refine lv_aload_n F.1 F.2.1 dX9_takesNumber_0 rfl (lv_at hl 0 rfl) ?_
  refine lv_iload_n F.1 F.2.1 dX9_takesNumber_1 rfl (lv_at hl 1 rfl) ?_
  refine lv_iload_n F.1 F.2.1 dX9_takesNumber_2 rfl (lv_at hl 2 rfl) ?_
  refine cl_RX9_317 (As := [.int (iI lo), .int (iI hi)]) (rest := []) F hl (c_X9_sees l X w mo v tx lo hi hM hvp (by omega) (by omega)) hW hS hM rfl rfl ⟨Nat.le_of_ble_eq_true rfl, Nat.le_of_ble_eq_true rfl⟩ (Nat.le_of_ble_eq_true rfl) ⟨Nat.zero_le _, Nat.zero_le _⟩ dX9_takesNumber_3 (fun w1 H locs hp2 hW hS => ?_)
  obtain ⟨ho3, hn4⟩ := hp2
  have htx := (hn4 _ (by omega)).trans htx
  refine lv_istore_n (lv' := [(3, .int (iI (seR lo hi v))), (0, .ref mo), (1, .int (iI lo)), (2, .int (iI hi))]) F.1 F.2.1 dX9_takesNumber_6 rfl hl (by decide) rfl (fun ls hl => ?_)
  refine lv_aload_n F.1 F.2.1 dX9_takesNumber_7 rfl (lv_at hl 1 rfl) ?_
  refine cl_RX9_299 (As := []) (rest := []) F hl (c_X9_isFine l X w1 mo (seV lo hi v) ho3 (by omega)) hW hS ho3 rfl rfl ⟨Nat.le_of_ble_eq_true rfl, Nat.le_of_ble_eq_true rfl⟩ (Nat.le_of_ble_eq_true rfl) ⟨Nat.zero_le _, Nat.zero_le _⟩ dX9_takesNumber_8 (fun w1 H locs hp5 hW hS => ?_)
  rw [hp5] at hW; clear hp5; clear w1
  refine h_ifeqb (tgt := 18) F dX9_takesNumber_11 (by decide) (fun c6 => ?_) (fun c6 => ?_)
  · have c6d := of_decide_eq_false c6
    refine lv_iload_n F.1 F.2.1 dX9_takesNumber_18 rfl (lv_at hl 0 rfl) ?_
    exact h_ireti F hr hlk hW hS ⟨(by (rw [ho3]) <;> (unfold tkV gfV; first | rw [if_pos (by omega)] | rw [if_neg (by omega)])), (fun q h09 => by rw [hn4 q (by omega)])⟩ dX9_takesNumber_19
  · have c6d := of_decide_eq_true c6
    refine lv_aload_n F.1 F.2.1 dX9_takesNumber_14 rfl (lv_at hl 1 rfl) ?_
    refine cl_RX9_314 (As := []) (rest := []) F hl (c_X9_goesOn l X w1 mo (seV lo hi v) tx ho3 htx hp1.1.1 (by have := hp1.1.r; omega) hp1.1.2.1) hW hS ho3 rfl rfl ⟨Nat.le_of_ble_eq_true rfl, Nat.le_of_ble_eq_true rfl⟩ (Nat.le_of_ble_eq_true rfl) ⟨Nat.zero_le _, Nat.zero_le _⟩ dX9_takesNumber_15 (fun w7 H locs hp8 hW hS => ?_)
    obtain ⟨ho9, hn10⟩ := hp8
    have htx := (hn10 _ (by omega)).trans htx
    refine lv_iload_n F.1 F.2.1 dX9_takesNumber_18 rfl (lv_at hl 0 rfl) ?_
    exact h_ireti F hr hlk hW hS ⟨(by (rw [ho9]) <;> (unfold tkV gfV; first | rw [if_pos (by omega)] | rw [if_neg (by omega)])), (fun q h09 => by rw [hn10 q (by omega), hn4 q (by omega)])⟩ dX9_takesNumber_19
set_option maxHeartbeats 4000000 in
set_option maxRecDepth 100000 in
theorem c_X9_isSign (l : Launch) (X : Cx) (w : Wo) (mo : Nat) (v tx : Int → Int) (mk : Int) (hM : w mo = some (.inr (9, mL mo v))) (htx : w (mo + 7) = some (aZ X 400 tx)) (hvp : vP tx v) (hmk : 0 ≤ mk ∧ mk ≤ 255) : CM l X yX9_isSign cX9_isSign 2 (some (.boolean)) (rmk 1 20) [.ref mo, .int (iI mk)] w (some (.int (iI (bz (isSR tx v mk))))) (fun w' => w' = w) := by
  refine CM.of (lv := [(0, .ref mo), (1, .int (iI mk))]) (by decide) (Nat.le_of_ble_eq_true rfl) rfl (fun p e s m below meth c ls F hr hlk hin hW hS hl => ?_)
  have hZ0 := hW.2.2
  have hB9 := hW.1.2
  clear hin
  have hvt := hvp.1
  have h18 := hvp.2
  have hun := hvt.1
  have hfb := hvt.2.1
  have hvr := hvt.r
  have hbf := fun (z : v 15 < v 11) => hfb (v 15) (by omega) z
  refine lv_aload_n F.1 F.2.1 dX9_isSign_0 rfl (lv_at hl 0 rfl) ?_
  refine cl_RX9_299 (As := []) (rest := []) F hl (c_X9_isFine l X w mo v hM (by omega)) hW hS hM rfl rfl ⟨Nat.le_of_ble_eq_true rfl, Nat.le_of_ble_eq_true rfl⟩ (Nat.le_of_ble_eq_true rfl) ⟨Nat.zero_le _, Nat.zero_le _⟩ dX9_isSign_1 (fun w1 H locs hp1 hW hS => ?_)
  rw [hp1] at hW; clear hp1; clear w1
  refine h_ifeqb (tgt := 32) F dX9_isSign_4 (by decide) (fun c2 => ?_) (fun c2 => ?_)
  · have c2d := of_decide_eq_false c2
    refine h_iconst F dX9_isSign_32 ?_
    refine h_top (show (0 : Int) = bz (isSR tx v mk) from by first | exact bzt (by unfold isSR; rw [decide_eq_true (p := v 18 = 0) (by omega), decide_eq_true (p := v 16 = 3) (by omega), decide_eq_true (p := tx (v 15) = mk) (by omega)]; rfl) | exact bzf (by unfold isSR; rw [decide_eq_false (p := v 18 = 0) (by omega)]; rfl) | exact bzf (by unfold isSR; rw [decide_eq_false (p := v 16 = 3) (by omega), Bool.and_false]; rfl) | exact bzf (by unfold isSR; rw [decide_eq_false (p := tx (v 15) = mk) (by omega), Bool.and_false])) ?_
    exact h_iretz F hr hlk hW hS rfl dX9_isSign_33
  · have c2d := of_decide_eq_true c2
    refine lv_aload_n F.1 F.2.1 dX9_isSign_7 rfl (lv_at hl 0 rfl) ?_
    refine gf_RX9_288 F hW hM rfl dX9_isSign_8 ?_
    refine h_iconst F dX9_isSign_11 ?_
    refine h_icne (tgt := 32) F dX9_isSign_12 (by decide) (by omega) (fun c3 => ?_) (fun c3 => ?_)
    · refine h_iconst F dX9_isSign_32 ?_
      refine h_top (show (0 : Int) = bz (isSR tx v mk) from by first | exact bzt (by unfold isSR; rw [decide_eq_true (p := v 18 = 0) (by omega), decide_eq_true (p := v 16 = 3) (by omega), decide_eq_true (p := tx (v 15) = mk) (by omega)]; rfl) | exact bzf (by unfold isSR; rw [decide_eq_false (p := v 18 = 0) (by omega)]; rfl) | exact bzf (by unfold isSR; rw [decide_eq_false (p := v 16 = 3) (by omega), Bool.and_false]; rfl) | exact bzf (by unfold isSR; rw [decide_eq_false (p := tx (v 15) = mk) (by omega), Bool.and_false])) ?_
      exact h_iretz F hr hlk hW hS rfl dX9_isSign_33
    · refine lv_aload_n F.1 F.2.1 dX9_isSign_15 rfl (lv_at hl 0 rfl) ?_
      refine gf_RX9_29 F hW hM rfl dX9_isSign_16 ?_
      refine lv_aload_n F.1 F.2.1 dX9_isSign_19 rfl (lv_at hl 0 rfl) ?_
      refine gf_RX9_282 F hW hM rfl dX9_isSign_20 ?_
      have hb9 := hbf (by omega)
      refine h_iald F hW htx (by omega) (by omega) dX9_isSign_23 ?_
      refine lv_iload_n F.1 F.2.1 dX9_isSign_24 rfl (lv_at hl 1 rfl) ?_
      refine h_icne (tgt := 32) F dX9_isSign_25 (by decide) (by omega) (fun c4 => ?_) (fun c4 => ?_)
      · refine h_iconst F dX9_isSign_32 ?_
        refine h_top (show (0 : Int) = bz (isSR tx v mk) from by first | exact bzt (by unfold isSR; rw [decide_eq_true (p := v 18 = 0) (by omega), decide_eq_true (p := v 16 = 3) (by omega), decide_eq_true (p := tx (v 15) = mk) (by omega)]; rfl) | exact bzf (by unfold isSR; rw [decide_eq_false (p := v 18 = 0) (by omega)]; rfl) | exact bzf (by unfold isSR; rw [decide_eq_false (p := v 16 = 3) (by omega), Bool.and_false]; rfl) | exact bzf (by unfold isSR; rw [decide_eq_false (p := tx (v 15) = mk) (by omega), Bool.and_false])) ?_
        exact h_iretz F hr hlk hW hS rfl dX9_isSign_33
      · refine h_iconst F dX9_isSign_28 ?_
        refine h_goto (tgt := 33) F dX9_isSign_29 (by decide) ?_
        refine h_top (show (1 : Int) = bz (isSR tx v mk) from by first | exact bzt (by unfold isSR; rw [decide_eq_true (p := v 18 = 0) (by omega), decide_eq_true (p := v 16 = 3) (by omega), decide_eq_true (p := tx (v 15) = mk) (by omega)]; rfl) | exact bzf (by unfold isSR; rw [decide_eq_false (p := v 18 = 0) (by omega)]; rfl) | exact bzf (by unfold isSR; rw [decide_eq_false (p := v 16 = 3) (by omega), Bool.and_false]; rfl) | exact bzf (by unfold isSR; rw [decide_eq_false (p := tx (v 15) = mk) (by omega), Bool.and_false])) ?_
        exact h_iretz F hr hlk hW hS rfl dX9_isSign_33
set_option maxHeartbeats 4000000 in
set_option maxRecDepth 100000 in
theorem c_X9_isWord (l : Launch) (X : Cx) (w : Wo) (mo : Nat) (v tx : Int → Int) (k : Nat) (hM : w mo = some (.inr (9, mL mo v))) (htx : w (mo + 7) = some (aZ X 400 tx)) (hvp : vP tx v) (hk : k < 14) : CM l X yX9_isWord cX9_isWord 4 (some (.boolean)) (rmk 4 85) [.ref mo, .ref (X.2.2 (10 + k))] w (some (.int (iI (bz (isWR tx v k))))) (fun w' => w' = w) := by
  refine CM.of (lv := [(0, .ref mo), (1, .ref (X.2.2 (10 + k)))]) (by decide) (Nat.le_of_ble_eq_true rfl) rfl (fun p e s m below meth c ls F hr hlk hin hW hS hl => ?_)
  have hZ0 := hW.2.2
  have hB9 := hW.1.2
  clear hin
  have hvt := hvp.1
  have h18 := hvp.2
  have hun := hvt.1
  have hfb := hvt.2.1
  have hvr := hvt.r
  have hwl := wl_r k hk
  refine lv_aload_n F.1 F.2.1 dX9_isWord_0 rfl (lv_at hl 0 rfl) ?_
  have join36 : ∀ (H : Heap) (locs : List Loc) (ls : Array Slot), Wd X w s H → va_S (cxA X) s.heap H locs → lv_has ls 4 [(0, .ref mo), (1, .ref (X.2.2 (10 + k)))] → W p l e (rmk 4 85) s m (List.toArray [.ref mo, .ref (X.2.2 (10 + k))]) below meth c H locs 0 0 (MX X below (List.toArray [.ref mo, .ref (X.2.2 (10 + k))]) s 0 0 (some (.int (iI (bz (isWR tx v k))))) (fun w' => w' = w)) (F0 m 36 ls [.int (iI (bz ((decide (v 18 = 0) && decide (v 16 = 1)) && decide (v 14 - v 15 = wl k))))]) := by
    intro  H locs ls  hW hS hl
    refine lv_istore_n (lv' := [(2, .int (iI (bz ((decide (v 18 = 0) && decide (v 16 = 1)) && decide (v 14 - v 15 = wl k))))), (0, .ref mo), (1, .ref (X.2.2 (10 + k)))]) F.1 F.2.1 dX9_isWord_36 rfl hl (by decide) rfl (fun ls hl => ?_)
    refine h_iconst F dX9_isWord_37 ?_
    refine lv_istore_n (lv' := [(3, .int (iI 0)), (2, .int (iI (bz ((decide (v 18 = 0) && decide (v 16 = 1)) && decide (v 14 - v 15 = wl k))))), (0, .ref mo), (1, .ref (X.2.2 (10 + k)))]) F.1 F.2.1 dX9_isWord_38 rfl hl (by decide) rfl (fun ls hl => ?_)
    have loop39 : ∀ (n9 : Nat) (i : Int), (hrg : 0 ≤ i ∧ i ≤ wl k) → (hms : wl k - i < (n9 : Int)) → (H : Heap) → (locs : List Loc) → (ls : Array Slot) → Wd X w s H → va_S (cxA X) s.heap H locs → lv_has ls 4 [(2, .int (iI (bz (((decide (v 18 = 0) && decide (v 16 = 1)) && decide (v 14 - v 15 = wl k)) && al (fun j => decide (tx (v 15 + j) = wc k j)) 0 i)))), (3, .int (iI i)), (0, .ref mo), (1, .ref (X.2.2 (10 + k)))] → W p l e (rmk 4 85) s m (List.toArray [.ref mo, .ref (X.2.2 (10 + k))]) below meth c H locs 0 0 (MX X below (List.toArray [.ref mo, .ref (X.2.2 (10 + k))]) s 0 0 (some (.int (iI (bz (isWR tx v k))))) (fun w' => w' = w)) (F0 m 39 ls []) := by
      intro n9
      induction n9 with
      | zero => intro i  hrg hms; exfalso; omega
      | succ n9 ih39 =>
        intro i  hrg hms   H locs ls hW hS hl
        refine lv_iload_n F.1 F.2.1 dX9_isWord_39 rfl (lv_at hl 1 rfl) ?_
        refine lv_aload_n F.1 F.2.1 dX9_isWord_40 rfl (lv_at hl 3 rfl) ?_
        refine cl_RX9_303 (As := []) (rest := [.int (iI i)]) F hl (c_J0_length_8abf5 l X w k hk) hW hS (vk_recv (i := k) hZ0.2.2.2.1 hk hS) rfl rfl ⟨Nat.le_of_ble_eq_true rfl, Nat.le_of_ble_eq_true rfl⟩ (Nat.le_of_ble_eq_true rfl) ⟨Nat.zero_le _, Nat.zero_le _⟩ dX9_isWord_41 (fun w1 H locs hp1 hW hS => ?_)
        rw [hp1] at hW; clear hp1; clear w1
        refine h_icge (tgt := 82) F dX9_isWord_44 (by decide) (by omega) (fun c2 => ?_) (fun c2 => ?_)
        · refine lv_iload_n F.1 F.2.1 dX9_isWord_82 rfl (lv_at hl 0 rfl) ?_
          refine h_top (show (bz (((decide (v 18 = 0) && decide (v 16 = 1)) && decide (v 14 - v 15 = wl k)) && al (fun j => decide (tx (v 15 + j) = wc k j)) 0 i) : Int) = bz (isWR tx v k) from congrArg bz (by first | exact wd_e (by omega) | exact wd_f (by omega) (by assumption))) ?_
          exact h_iretz F hr hlk hW hS rfl dX9_isWord_83
        · refine lv_iload_n F.1 F.2.1 dX9_isWord_47 rfl (lv_at hl 0 rfl) ?_
          refine h_ifeqb (tgt := 82) F dX9_isWord_48 (by decide) (fun c3 => ?_) (fun c3 => ?_)
          · refine lv_iload_n F.1 F.2.1 dX9_isWord_82 rfl (lv_at hl 0 rfl) ?_
            refine h_top (show (bz (((decide (v 18 = 0) && decide (v 16 = 1)) && decide (v 14 - v 15 = wl k)) && al (fun j => decide (tx (v 15 + j) = wc k j)) 0 i) : Int) = bz (isWR tx v k) from congrArg bz (by first | exact wd_e (by omega) | exact wd_f (by omega) (by assumption))) ?_
            exact h_iretz F hr hlk hW hS rfl dX9_isWord_83
          · have hok := c3
            have hc0 := (Bool.and_eq_true _ _ ▸ hok).1
            have hc1 : v 14 - v 15 = wl k := of_decide_eq_true ((Bool.and_eq_true _ _ ▸ hc0).2)
            have hb9 := hfb (v 15 + i) (by omega) (by omega)
            have hci := (wc_at (k := k) (j := i) hk (by omega)).2.2.2.2
            refine lv_aload_n F.1 F.2.1 dX9_isWord_51 rfl (lv_at hl 2 rfl) ?_
            refine gf_RX9_29 F hW hM rfl dX9_isWord_52 ?_
            refine lv_aload_n F.1 F.2.1 dX9_isWord_55 rfl (lv_at hl 2 rfl) ?_
            refine gf_RX9_282 F hW hM rfl dX9_isWord_56 ?_
            refine lv_iload_n F.1 F.2.1 dX9_isWord_59 rfl (lv_at hl 1 rfl) ?_
            refine h_iadd (a := v 15) (b := i) F dX9_isWord_60 ?_
            refine h_iald F hW htx (by omega) (by omega) dX9_isWord_61 ?_
            refine lv_aload_n F.1 F.2.1 dX9_isWord_62 rfl (lv_at hl 3 rfl) ?_
            refine lv_iload_n F.1 F.2.1 dX9_isWord_63 rfl (lv_at hl 1 rfl) ?_
            refine cl_RX9_307 (As := [.int (iI i)]) (rest := [.int (iI (tx ((v 15) + i)))]) F hl (c_J0_charAt_5068e l X w k i hk (by omega)) hW hS (vk_recv (i := k) hZ0.2.2.2.1 hk hS) rfl rfl ⟨Nat.le_of_ble_eq_true rfl, Nat.le_of_ble_eq_true rfl⟩ (Nat.le_of_ble_eq_true rfl) ⟨Nat.zero_le _, Nat.zero_le _⟩ dX9_isWord_64 (fun w1 H locs hp4 hW hS => ?_)
            rw [hp4] at hW; clear hp4; clear w1
            have join75 : ∀ (H : Heap) (locs : List Loc) (ls : Array Slot), Wd X w s H → va_S (cxA X) s.heap H locs → lv_has ls 4 [(2, .int (iI (bz (((decide (v 18 = 0) && decide (v 16 = 1)) && decide (v 14 - v 15 = wl k)) && al (fun j => decide (tx (v 15 + j) = wc k j)) 0 i)))), (3, .int (iI i)), (0, .ref mo), (1, .ref (X.2.2 (10 + k)))] → W p l e (rmk 4 85) s m (List.toArray [.ref mo, .ref (X.2.2 (10 + k))]) below meth c H locs 0 0 (MX X below (List.toArray [.ref mo, .ref (X.2.2 (10 + k))]) s 0 0 (some (.int (iI (bz (isWR tx v k))))) (fun w' => w' = w)) (F0 m 75 ls [.int (iI (bz (decide (tx (v 15 + i) = wc k i))))]) := by
              intro  H locs ls  hW hS hl
              refine lv_istore_n (lv' := [(2, .int (iI (bz (decide (tx (v 15 + i) = wc k i))))), (3, .int (iI i)), (0, .ref mo), (1, .ref (X.2.2 (10 + k)))]) F.1 F.2.1 dX9_isWord_75 rfl hl (by decide) rfl (fun ls hl => ?_)
              refine h_iinc (k := 1) (a := i) (lv' := [(3, .int (iI (i + 1))), (2, .int (iI (bz (decide (tx (v 15 + i) = wc k i))))), (0, .ref mo), (1, .ref (X.2.2 (10 + k)))]) F dX9_isWord_76 hl rfl (by decide) rfl (fun ls hl => ?_)
              refine h_goto (tgt := 39) F dX9_isWord_79 (by decide) ?_
              have eq5 : (bz (((decide (v 18 = 0) && decide (v 16 = 1)) && decide (v 14 - v 15 = wl k)) && al (fun j => decide (tx (v 15 + j) = wc k j)) 0 (i + 1)) : Int) = bz (decide (tx (v 15 + i) = wc k i)) := congrArg bz (rwd_s (by omega) hok)
              have eq6 : ((i + 1) : Int) = i + 1 := by first | rfl | omega | simp
              exact ih39 (i + 1)  (by omega) (by omega)   _ _ ls hW hS (by rw [eq5, eq6]; exact lv_sub hl [1, 0, 2, 3] rfl)
            refine h_icne (tgt := 74) F dX9_isWord_67 (by decide) (by omega) (fun c7 => ?_) (fun c7 => ?_)
            · refine h_iconst F dX9_isWord_74 ?_
              refine h_top (show (0 : Int) = bz (decide (tx (v 15 + i) = wc k i)) from bzf (by first | exact decide_eq_false (by omega) | (simp only [Bool.and_eq_false_iff, Bool.or_eq_false_iff, decide_eq_false_iff_not]; omega) | simp_all)) ?_
              exact join75  _ _ ls  hW hS (lv_sub hl [0, 1, 2, 3] rfl)
            · refine h_iconst F dX9_isWord_70 ?_
              refine h_goto (tgt := 75) F dX9_isWord_71 (by decide) ?_
              refine h_top (show (1 : Int) = bz (decide (tx (v 15 + i) = wc k i)) from bzt (by first | exact decide_eq_true (by omega) | (simp only [Bool.and_eq_true, Bool.or_eq_true, decide_eq_true_eq]; omega) | simp_all)) ?_
              exact join75  _ _ ls  hW hS (lv_sub hl [0, 1, 2, 3] rfl)
    have eq8 : (bz (((decide (v 18 = 0) && decide (v 16 = 1)) && decide (v 14 - v 15 = wl k)) && al (fun j => decide (tx (v 15 + j) = wc k j)) 0 0) : Int) = bz ((decide (v 18 = 0) && decide (v 16 = 1)) && decide (v 14 - v 15 = wl k)) := congrArg bz (by rw [al_0, Bool.and_true])
    exact loop39 ((wl k - 0) + 1 : Int).toNat 0  (by omega) (by omega)   _ _ ls hW hS (by rw [eq8]; exact lv_sub hl [1, 0, 2, 3] rfl)
  refine cl_RX9_299 (As := []) (rest := []) F hl (c_X9_isFine l X w mo v hM (by omega)) hW hS hM rfl rfl ⟨Nat.le_of_ble_eq_true rfl, Nat.le_of_ble_eq_true rfl⟩ (Nat.le_of_ble_eq_true rfl) ⟨Nat.zero_le _, Nat.zero_le _⟩ dX9_isWord_1 (fun w1 H locs hp9 hW hS => ?_)
  rw [hp9] at hW; clear hp9; clear w1
  refine h_ifeqb (tgt := 35) F dX9_isWord_4 (by decide) (fun c10 => ?_) (fun c10 => ?_)
  · have c10d := of_decide_eq_false c10
    refine h_iconst F dX9_isWord_35 ?_
    refine h_top (show (0 : Int) = bz ((decide (v 18 = 0) && decide (v 16 = 1)) && decide (v 14 - v 15 = wl k)) from bzf (by first | exact decide_eq_false (by omega) | (simp only [Bool.and_eq_false_iff, Bool.or_eq_false_iff, decide_eq_false_iff_not]; omega) | simp_all)) ?_
    exact join36  _ _ ls  hW hS (lv_sub hl [0, 1] rfl)
  · have c10d := of_decide_eq_true c10
    refine lv_aload_n F.1 F.2.1 dX9_isWord_7 rfl (lv_at hl 0 rfl) ?_
    refine gf_RX9_288 F hW hM rfl dX9_isWord_8 ?_
    refine h_iconst F dX9_isWord_11 ?_
    refine h_icne (tgt := 35) F dX9_isWord_12 (by decide) (by omega) (fun c11 => ?_) (fun c11 => ?_)
    · refine h_iconst F dX9_isWord_35 ?_
      refine h_top (show (0 : Int) = bz ((decide (v 18 = 0) && decide (v 16 = 1)) && decide (v 14 - v 15 = wl k)) from bzf (by first | exact decide_eq_false (by omega) | (simp only [Bool.and_eq_false_iff, Bool.or_eq_false_iff, decide_eq_false_iff_not]; omega) | simp_all)) ?_
      exact join36  _ _ ls  hW hS (lv_sub hl [0, 1] rfl)
    · refine lv_aload_n F.1 F.2.1 dX9_isWord_15 rfl (lv_at hl 0 rfl) ?_
      refine gf_RX9_276 F hW hM rfl dX9_isWord_16 ?_
      refine lv_aload_n F.1 F.2.1 dX9_isWord_19 rfl (lv_at hl 0 rfl) ?_
      refine gf_RX9_282 F hW hM rfl dX9_isWord_20 ?_
      refine h_isub (a := v 14) (b := v 15) F dX9_isWord_23 ?_
      refine lv_aload_n F.1 F.2.1 dX9_isWord_24 rfl (lv_at hl 1 rfl) ?_
      refine cl_RX9_303 (As := []) (rest := [.int (iI ((v 14) - (v 15)))]) F hl (c_J0_length_8abf5 l X w k hk) hW hS (vk_recv (i := k) hZ0.2.2.2.1 hk hS) rfl rfl ⟨Nat.le_of_ble_eq_true rfl, Nat.le_of_ble_eq_true rfl⟩ (Nat.le_of_ble_eq_true rfl) ⟨Nat.zero_le _, Nat.zero_le _⟩ dX9_isWord_25 (fun w1 H locs hp12 hW hS => ?_)
      rw [hp12] at hW; clear hp12; clear w1
      refine h_icne (tgt := 35) F dX9_isWord_28 (by decide) (by omega) (fun c13 => ?_) (fun c13 => ?_)
      · refine h_iconst F dX9_isWord_35 ?_
        refine h_top (show (0 : Int) = bz ((decide (v 18 = 0) && decide (v 16 = 1)) && decide (v 14 - v 15 = wl k)) from bzf (by first | exact decide_eq_false (by omega) | (simp only [Bool.and_eq_false_iff, Bool.or_eq_false_iff, decide_eq_false_iff_not]; omega) | simp_all)) ?_
        exact join36  _ _ ls  hW hS (lv_sub hl [0, 1] rfl)
      · refine h_iconst F dX9_isWord_31 ?_
        refine h_goto (tgt := 36) F dX9_isWord_32 (by decide) ?_
        refine h_top (show (1 : Int) = bz ((decide (v 18 = 0) && decide (v 16 = 1)) && decide (v 14 - v 15 = wl k)) from bzt (by first | exact decide_eq_true (by omega) | (simp only [Bool.and_eq_true, Bool.or_eq_true, decide_eq_true_eq]; omega) | simp_all)) ?_
        exact join36  _ _ ls  hW hS (lv_sub hl [0, 1] rfl)
set_option maxHeartbeats 4000000 in
set_option maxRecDepth 100000 in
theorem c_X9_startsText (l : Launch) (X : Cx) (w : Wo) (mo : Nat) (v tx : Int → Int) (hM : w mo = some (.inr (9, mL mo v))) (htx : w (mo + 7) = some (aZ X 400 tx)) (hun : 0 ≤ v 11 ∧ v 11 ≤ 400) (hfb : (∀ i, 0 ≤ i → i < v 11 → 0 ≤ tx i ∧ tx i ≤ 255)) : CM l X yX9_startsText cX9_startsText 1 none (rmk 2 46) [.ref mo] w none (fun w' => w' mo = some (.inr (9, mL mo (goV tx (up (up (up v 14 0) 18 0) 19 (-1))))) ∧ ∀ q : Nat, q ≠ mo → w' q = w q) := by
  refine CM.of (lv := [(0, .ref mo)]) (by decide) (Nat.le_of_ble_eq_true rfl) rfl (fun p e s m below meth c ls F hr hlk hin hW hS hl => ?_)
  have hZ0 := hW.2.2
  have hB9 := hW.1.2
  clear hin
  refine lv_aload_n F.1 F.2.1 dX9_startsText_0 rfl (lv_at hl 0 rfl) ?_
  refine h_iconst F dX9_startsText_1 ?_
  refine pf_RX9_276 F hW hS hM (Nat.le_of_ble_eq_true rfl) dX9_startsText_2 (fun w1 H locs ho3 hn2 hW hS => ?_)
  rw [mL_14] at ho3
  have htx := (hn2 _ (by omega)).trans htx
  refine lv_aload_n F.1 F.2.1 dX9_startsText_5 rfl (lv_at hl 0 rfl) ?_
  refine h_iconst F dX9_startsText_6 ?_
  refine pf_RX9_296 F hW hS ho3 (Nat.le_of_ble_eq_true rfl) dX9_startsText_7 (fun w4 H locs ho6 hn5 hW hS => ?_)
  rw [mL_18] at ho6
  have htx := (hn5 _ (by omega)).trans htx
  refine lv_aload_n F.1 F.2.1 dX9_startsText_10 rfl (lv_at hl 0 rfl) ?_
  refine h_iconst F dX9_startsText_11 ?_
  refine pf_RX9_35 F hW hS ho6 (Nat.le_of_ble_eq_true rfl) dX9_startsText_12 (fun w7 H locs ho9 hn8 hW hS => ?_)
  rw [mL_19] at ho9
  have htx := (hn8 _ (by omega)).trans htx
  refine lv_aload_n F.1 F.2.1 dX9_startsText_15 rfl (lv_at hl 0 rfl) ?_
  refine cl_RX9_314 (As := []) (rest := []) F hl (c_X9_goesOn l X w7 mo (up (up (up v 14 0) 18 0) 19 (-1)) tx ho9 htx hun (by show 0 ≤ (0 : Int) ∧ (0 : Int) ≤ v 11; omega) hfb) hW hS ho9 rfl rfl ⟨Nat.le_of_ble_eq_true rfl, Nat.le_of_ble_eq_true rfl⟩ (Nat.le_of_ble_eq_true rfl) ⟨Nat.zero_le _, Nat.zero_le _⟩ dX9_startsText_16 (fun w10 H locs hp11 hW hS => ?_)
  obtain ⟨ho12, hn13⟩ := hp11
  have htx := (hn13 _ (by omega)).trans htx
  exact h_vret F hr hlk hW hS ⟨ho12, (fun q h09 => by rw [hn13 q (by omega), hn8 q (by omega), hn5 q (by omega), hn2 q (by omega)])⟩ dX9_startsText_19
set_option maxHeartbeats 4000000 in
set_option maxRecDepth 100000 in
theorem c_X9_endsText (l : Launch) (X : Cx) (w : Wo) (mo : Nat) (v : Int → Int) (hM : w mo = some (.inr (9, mL mo v))) (h18 : 0 ≤ v 18 ∧ v 18 ≤ 7) : CM l X yX9_endsText cX9_endsText 1 (some (.boolean)) (rmk 1 20) [.ref mo] w (some (.int (iI (bz (decide (v 18 = 0)))))) (fun w' => w' mo = some (.inr (9, mL mo (up (up (up v 11 0) 20 (v 18)) 21 (v 19)))) ∧ ∀ q : Nat, q ≠ mo → w' q = w q) := by
  refine CM.of (lv := [(0, .ref mo)]) (by decide) (Nat.le_of_ble_eq_true rfl) rfl (fun p e s m below meth c ls F hr hlk hin hW hS hl => ?_)
  have hZ0 := hW.2.2
  have hB9 := hW.1.2
  clear hin
  refine lv_aload_n F.1 F.2.1 dX9_endsText_0 rfl (lv_at hl 0 rfl) ?_
  refine h_iconst F dX9_endsText_1 ?_
  refine pf_RX9_71 F hW hS hM (Nat.le_of_ble_eq_true rfl) dX9_endsText_2 (fun w1 H locs ho3 hn2 hW hS => ?_)
  rw [mL_11] at ho3
  refine lv_aload_n F.1 F.2.1 dX9_endsText_5 rfl (lv_at hl 0 rfl) ?_
  refine lv_aload_n F.1 F.2.1 dX9_endsText_6 rfl (lv_at hl 0 rfl) ?_
  refine gf_RX9_296 F hW ho3 rfl dX9_endsText_7 ?_
  refine h_top (show ((up v 11 0) 18 : Int) = v 18 from rfl) ?_
  refine pf_RX9_320 F hW hS ho3 (Nat.le_of_ble_eq_true rfl) dX9_endsText_10 (fun w4 H locs ho6 hn5 hW hS => ?_)
  rw [mL_20] at ho6
  refine lv_aload_n F.1 F.2.1 dX9_endsText_13 rfl (lv_at hl 0 rfl) ?_
  refine lv_aload_n F.1 F.2.1 dX9_endsText_14 rfl (lv_at hl 0 rfl) ?_
  refine gf_RX9_35 F hW ho6 rfl dX9_endsText_15 ?_
  refine h_top (show ((up (up v 11 0) 20 (v 18)) 19 : Int) = v 19 from rfl) ?_
  refine pf_RX9_39 F hW hS ho6 (Nat.le_of_ble_eq_true rfl) dX9_endsText_18 (fun w7 H locs ho9 hn8 hW hS => ?_)
  rw [mL_21] at ho9
  refine lv_aload_n F.1 F.2.1 dX9_endsText_21 rfl (lv_at hl 0 rfl) ?_
  refine cl_RX9_299 (As := []) (rest := []) F hl (c_X9_isFine l X w7 mo (up (up (up v 11 0) 20 (v 18)) 21 (v 19)) ho9 (by show -2147483648 ≤ v 18 ∧ v 18 < 2147483648; omega)) hW hS ho9 rfl rfl ⟨Nat.le_of_ble_eq_true rfl, Nat.le_of_ble_eq_true rfl⟩ (Nat.le_of_ble_eq_true rfl) ⟨Nat.zero_le _, Nat.zero_le _⟩ dX9_endsText_22 (fun w1 H locs hp10 hW hS => ?_)
  rw [hp10] at hW; clear hp10; clear w1
  refine h_top (show (bz (decide ((up (up (up v 11 0) 20 (v 18)) 21 (v 19)) 18 = 0)) : Int) = bz (decide (v 18 = 0)) from congrArg bz (by first | rfl | simp_all)) ?_
  exact h_iretz F hr hlk hW hS ⟨ho9, (fun q h09 => by rw [hn8 q (by omega), hn5 q (by omega), hn2 q (by omega)])⟩ dX9_endsText_25
set_option maxHeartbeats 4000000 in
set_option maxRecDepth 100000 in
theorem c_X9_errorCode (l : Launch) (X : Cx) (w : Wo) (mo : Nat) (v : Int → Int) (hM : w mo = some (.inr (9, mL mo v))) : CM l X yX9_errorCode cX9_errorCode 1 (some (.int)) (rmk 0 0) [.ref mo] w (some (.int (iI (v 20)))) (fun w' => w' mo = some (.inr (9, mL mo (up v 6 0))) ∧ ∀ q : Nat, q ≠ mo → w' q = w q) := by
  refine CM.of (lv := [(0, .ref mo)]) (by decide) (Nat.le_of_ble_eq_true rfl) rfl (fun p e s m below meth c ls F hr hlk hin hW hS hl => ?_)
  have hZ0 := hW.2.2
  have hB9 := hW.1.2
  clear hin
  refine lv_aload_n F.1 F.2.1 dX9_errorCode_0 rfl (lv_at hl 0 rfl) ?_
  refine h_iconst F dX9_errorCode_1 ?_
  refine pf_RX9_58 F hW hS hM (Nat.le_of_ble_eq_true rfl) dX9_errorCode_2 (fun w1 H locs ho3 hn2 hW hS => ?_)
  rw [mL_6] at ho3
  refine lv_aload_n F.1 F.2.1 dX9_errorCode_5 rfl (lv_at hl 0 rfl) ?_
  refine gf_RX9_320 F hW ho3 rfl dX9_errorCode_6 ?_
  refine h_top (show ((up v 6 0) 20 : Int) = v 20 from rfl) ?_
  exact h_ireti F hr hlk hW hS ⟨ho3, (fun q h09 => by rw [hn2 q (by omega)])⟩ dX9_errorCode_9
set_option maxHeartbeats 4000000 in
set_option maxRecDepth 100000 in
theorem c_X9_errorPosition (l : Launch) (X : Cx) (w : Wo) (mo : Nat) (v : Int → Int) (hM : w mo = some (.inr (9, mL mo v))) : CM l X yX9_errorPosition cX9_errorPosition 1 (some (.int)) (rmk 0 0) [.ref mo] w (some (.int (iI (v 21)))) (fun w' => w' mo = some (.inr (9, mL mo (up v 6 0))) ∧ ∀ q : Nat, q ≠ mo → w' q = w q) := by
  refine CM.of (lv := [(0, .ref mo)]) (by decide) (Nat.le_of_ble_eq_true rfl) rfl (fun p e s m below meth c ls F hr hlk hin hW hS hl => ?_)
  have hZ0 := hW.2.2
  have hB9 := hW.1.2
  clear hin
  refine lv_aload_n F.1 F.2.1 dX9_errorPosition_0 rfl (lv_at hl 0 rfl) ?_
  refine h_iconst F dX9_errorPosition_1 ?_
  refine pf_RX9_58 F hW hS hM (Nat.le_of_ble_eq_true rfl) dX9_errorPosition_2 (fun w1 H locs ho3 hn2 hW hS => ?_)
  rw [mL_6] at ho3
  refine lv_aload_n F.1 F.2.1 dX9_errorPosition_5 rfl (lv_at hl 0 rfl) ?_
  refine gf_RX9_39 F hW ho3 rfl dX9_errorPosition_6 ?_
  refine h_top (show ((up v 6 0) 21 : Int) = v 21 from rfl) ?_
  exact h_ireti F hr hlk hW hS ⟨ho3, (fun q h09 => by rw [hn2 q (by omega)])⟩ dX9_errorPosition_9
set_option maxHeartbeats 4000000 in
set_option maxRecDepth 100000 in
theorem c_X9_thrown (l : Launch) (X : Cx) (w : Wo) (mo : Nat) (v : Int → Int) (hM : w mo = some (.inr (9, mL mo v))) : CM l X yX9_thrown cX9_thrown 1 (some (.int)) (rmk 0 0) [.ref mo] w (some (.int (iI (v 6)))) (fun w' => w' = w) := by
  refine CM.of (lv := [(0, .ref mo)]) (by decide) (Nat.le_of_ble_eq_true rfl) rfl (fun p e s m below meth c ls F hr hlk hin hW hS hl => ?_)
  have hZ0 := hW.2.2
  have hB9 := hW.1.2
  clear hin
  refine lv_aload_n F.1 F.2.1 dX9_thrown_0 rfl (lv_at hl 0 rfl) ?_
  refine gf_RX9_58 F hW hM rfl dX9_thrown_1 ?_
  exact h_ireti F hr hlk hW hS rfl dX9_thrown_4
