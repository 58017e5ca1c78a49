/-- which command stands here -/
def cmR (f v : Int → Int) : Int := if isWR f v 7 = true then 0 else if isWR f v 8 = true then 1 else if isWR f v 9 = true then 2 else if isWR f v 11 = true then 3 else if isWR f v 12 = true then 4 else if isWR f v 13 = true then 5 else -1
theorem cmR_r (f v : Int → Int) : -1 ≤ cmR f v ∧ cmR f v ≤ 5 := by
  unfold cmR
  (repeat' split) <;> decide
def laS (sc : Int → Int) (n a b x y : Int) : Int → Int := up (up (up (up sc (4 * n) a) (4 * n + 1) b) (4 * n + 2) x) (4 * n + 3) y
set_option maxHeartbeats 4000000 in
set_option maxRecDepth 100000 in
theorem c_X9_readsDesign (l : Launch) (X : Cx) (w : Wo) (mo : Nat) (v tx d : Int → Int) (hM : w mo = some (.inr (9, mL mo v))) (htx : w (mo + 7) = some (aZ X 400 tx)) (hvi : vI tx v) (hd : w (mo + 2) = some (aZ X 1317 d)) : CM l X yX9_readsDesign cX9_readsDesign 3 none (rmk 6 134) [.ref mo] w none (fun w' => w' mo = some (.inr (9, mL mo ((rdF tx v d).1))) ∧ w' (mo + 2) = some (aZ X 1317 ((rdF tx v d).2)) ∧ ∀ q : Nat, q ≠ mo → q ≠ mo + 2 → w' q = w q) := by
  refine CM.of (lv := [(0, .ref mo)]) (by decide) (Nat.le_of_ble_eq_true rfl) rfl (fun p e s m below meth c ls F hr hlk hin hW hS hl => ?_)
  have hZ0 := hW.2.2
  have hB9 := hW.1.2
  clear hin
  have hvp := hvi.1
  have hp1 : vP tx (rd1 tx v) := hvp.mu
  have hp2 : vP tx (rd2 tx v) := hp1.tk
  have hp3 : vP tx (rd3 tx v) := hp2.tk
  have hp4 := rd4_P hvp
  have hr4 := hp4.1.r
  have hm4 := (rd4_E hvp).1
  refine lv_aload_n F.1 F.2.1 dX9_readsDesign_0 rfl (lv_at hl 0 rfl) ?_
  refine lv_aload_n F.1 F.2.1 dX9_readsDesign_1 rfl (lv_at hl 0 rfl) ?_
  refine h_ldcSW (tx := "loom") (i := 0) F hW (by decide +kernel) dX9_readsDesign_2 ?_
  refine cl_RX9_329 (As := [.ref (X.2.2 (10 + 0))]) (rest := [.ref mo]) F hl (c_X9_isWord l X w mo v tx 0 hM htx hvp (by decide)) hW hS hM rfl rfl ⟨Nat.le_of_ble_eq_true rfl, Nat.le_of_ble_eq_true rfl⟩ (Nat.le_of_ble_eq_true rfl) ⟨Nat.zero_le _, Nat.zero_le _⟩ dX9_readsDesign_5 (fun w1 H locs hp1 hW hS => ?_)
  rw [hp1] at hW; clear hp1; clear w1
  refine cl_RX9_323 (As := [.int (iI (bz (isWR tx v 0)))]) (rest := []) F hl (c_X9_must l X w mo v tx (isWR tx v 0) hM htx hvp) hW hS hM rfl rfl ⟨Nat.le_of_ble_eq_true rfl, Nat.le_of_ble_eq_true rfl⟩ (Nat.le_of_ble_eq_true rfl) ⟨Nat.zero_le _, Nat.zero_le _⟩ dX9_readsDesign_8 (fun w2 H locs hp3 hW hS => ?_)
  obtain ⟨ho4, hn5⟩ := hp3
  have htx := (hn5 _ (by omega)).trans htx
  have hd := (hn5 _ (by omega)).trans hd
  have hX6 : w2 mo = some (.inr (9, mL mo (rd1 tx v))) := ho4
  refine lv_aload_n F.1 F.2.1 dX9_readsDesign_11 rfl (lv_at hl 0 rfl) ?_
  refine h_bipush F dX9_readsDesign_12 rfl ?_
  refine h_bipush F dX9_readsDesign_14 rfl ?_
  refine cl_RX9_334 (As := [.int (iI 8), .int (iI 40)]) (rest := []) F hl (c_X9_takesNumber l X w2 mo (rd1 tx v) tx 8 40 hX6 htx hp1 (by omega) (by omega)) hW hS hX6 rfl rfl ⟨Nat.le_of_ble_eq_true rfl, Nat.le_of_ble_eq_true rfl⟩ (Nat.le_of_ble_eq_true rfl) ⟨Nat.zero_le _, Nat.zero_le _⟩ dX9_readsDesign_16 (fun w7 H locs hp8 hW hS => ?_)
  obtain ⟨ho9, hn10⟩ := hp8
  have htx := (hn10 _ (by omega)).trans htx
  have hd := (hn10 _ (by omega)).trans hd
  refine h_top (show (seR 8 40 (rd1 tx v) : Int) = rdW tx v from rfl) ?_
  have hX11 : w7 mo = some (.inr (9, mL mo (rd2 tx v))) := ho9
  refine lv_istore_n (lv' := [(1, .int (iI (rdW tx v))), (0, .ref mo)]) F.1 F.2.1 dX9_readsDesign_19 rfl hl (by decide) rfl (fun ls hl => ?_)
  refine lv_aload_n F.1 F.2.1 dX9_readsDesign_20 rfl (lv_at hl 1 rfl) ?_
  refine h_bipush F dX9_readsDesign_21 rfl ?_
  refine h_bipush F dX9_readsDesign_23 rfl ?_
  refine cl_RX9_334 (As := [.int (iI 6), .int (iI 30)]) (rest := []) F hl (c_X9_takesNumber l X w7 mo (rd2 tx v) tx 6 30 hX11 htx hp2 (by omega) (by omega)) hW hS hX11 rfl rfl ⟨Nat.le_of_ble_eq_true rfl, Nat.le_of_ble_eq_true rfl⟩ (Nat.le_of_ble_eq_true rfl) ⟨Nat.zero_le _, Nat.zero_le _⟩ dX9_readsDesign_25 (fun w12 H locs hp13 hW hS => ?_)
  obtain ⟨ho14, hn15⟩ := hp13
  have htx := (hn15 _ (by omega)).trans htx
  have hd := (hn15 _ (by omega)).trans hd
  refine h_top (show (seR 6 30 (rd2 tx v) : Int) = rdH tx v from rfl) ?_
  have hX16 : w12 mo = some (.inr (9, mL mo (rd3 tx v))) := ho14
  refine lv_istore_n (lv' := [(2, .int (iI (rdH tx v))), (1, .int (iI (rdW tx v))), (0, .ref mo)]) F.1 F.2.1 dX9_readsDesign_28 rfl hl (by decide) rfl (fun ls hl => ?_)
  refine lv_aload_n F.1 F.2.1 dX9_readsDesign_29 rfl (lv_at hl 2 rfl) ?_
  refine lv_aload_n F.1 F.2.1 dX9_readsDesign_30 rfl (lv_at hl 2 rfl) ?_
  refine h_bipush F dX9_readsDesign_31 rfl ?_
  refine cl_RX9_348 (As := [.int (iI 59)]) (rest := [.ref mo]) F hl (c_X9_isSign l X w12 mo (rd3 tx v) tx 59 hX16 htx hp3 (by omega)) hW hS hX16 rfl rfl ⟨Nat.le_of_ble_eq_true rfl, Nat.le_of_ble_eq_true rfl⟩ (Nat.le_of_ble_eq_true rfl) ⟨Nat.zero_le _, Nat.zero_le _⟩ dX9_readsDesign_33 (fun w1 H locs hp17 hW hS => ?_)
  rw [hp17] at hW; clear hp17; clear w1
  refine cl_RX9_323 (As := [.int (iI (bz (isSR tx (rd3 tx v) 59)))]) (rest := []) F hl (c_X9_must l X w12 mo (rd3 tx v) tx (isSR tx (rd3 tx v) 59) hX16 htx hp3) hW hS hX16 rfl rfl ⟨Nat.le_of_ble_eq_true rfl, Nat.le_of_ble_eq_true rfl⟩ (Nat.le_of_ble_eq_true rfl) ⟨Nat.zero_le _, Nat.zero_le _⟩ dX9_readsDesign_36 (fun w18 H locs hp19 hW hS => ?_)
  obtain ⟨ho20, hn21⟩ := hp19
  have htx := (hn21 _ (by omega)).trans htx
  have hd := (hn21 _ (by omega)).trans hd
  have hX22 : w18 mo = some (.inr (9, mL mo (rd4 tx v))) := ho20
  refine lv_aload_n F.1 F.2.1 dX9_readsDesign_39 rfl (lv_at hl 2 rfl) ?_
  refine gf_RX9_13 F hW hX22 rfl dX9_readsDesign_40 ?_
  refine lv_iload_n F.1 F.2.1 dX9_readsDesign_43 rfl (lv_at hl 1 rfl) ?_
  refine lv_iload_n F.1 F.2.1 dX9_readsDesign_44 rfl (lv_at hl 0 rfl) ?_
  refine cl_RX9_54 (As := [.ref (mo + 2), .int (iI (rdW tx v)), .int (iI (rdH tx v))]) (rest := []) F hl (c_X9_begins l X w18 (mo + 2) d (rdW tx v) (rdH tx v) hd) hW hS rfl rfl ⟨Nat.le_of_ble_eq_true rfl, Nat.le_of_ble_eq_true rfl⟩ (Nat.le_of_ble_eq_true rfl) ⟨Nat.zero_le _, Nat.zero_le _⟩ dX9_readsDesign_45 (fun w23 H locs hp24 hW hS => ?_)
  obtain ⟨ha25, hn26⟩ := hp24
  have hX22 := (hn26 _ (by omega)).trans hX22
  have htx := (hn26 _ (by omega)).trans htx
  have loop48 : ∀ (n9 : Nat) (i : Int) (v9 : Int → Int) (d9 : Int → Int), (hrg : 0 ≤ i ∧ i ≤ 402) → (hms : 402 - i < (n9 : Int)) → (wz9 : Wo) → (hO48_0 : wz9 mo = some (.inr (9, mL mo v9))) → (hA48_0 : wz9 (mo + 2) = some (aZ X 1317 d9)) → (hF48 : ∀ q : Nat, q ≠ mo → q ≠ mo + 2 → wz9 q = w23 q) → (hi9 : vI tx v9) → (hw9 : WF d9) → (hm9 : v9 18 ≠ 0 ∨ i ≤ v9 15) → (hG : rdG tx (402 - i).toNat v9 d9 = rdF tx v d) → (H : Heap) → (locs : List Loc) → (ls : Array Slot) → Wd X wz9 s H → va_S (cxA X) s.heap H locs → lv_has ls 3 [(2, .int (iI (rdH tx v))), (1, .int (iI (rdW tx v))), (0, .ref mo)] → W p l e (rmk 6 134) s m (List.toArray [.ref mo]) below meth c H locs 0 0 (MX X below (List.toArray [.ref mo]) s 0 0 none (fun w' => w' mo = some (.inr (9, mL mo ((rdF tx v d).1))) ∧ w' (mo + 2) = some (aZ X 1317 ((rdF tx v d).2)) ∧ ∀ q : Nat, q ≠ mo → q ≠ mo + 2 → w' q = w q)) (F0 m 48 ls []) := by
    intro n9
    induction n9 with
    | zero => intro i v9  d9  hrg hms; exfalso; omega
    | succ n9 ih48 =>
      intro i v9  d9  hrg hms wz9 hO48_0 hA48_0 hF48 hi9 hw9 hm9 hG H locs ls hW hS hl
      have htx := (hF48 _ (by omega) (by omega)).trans htx
      have h189 := hi9.1.2
      have h229 := hi9.2.1
      have h239 := hi9.2.2
      have hr9 := hi9.1.1.r
      have hN9 := hi9.1.1.1
      have hB1 := bd1_I (d := d9) hi9
      refine lv_aload_n F.1 F.2.1 dX9_readsDesign_48 rfl (lv_at hl 2 rfl) ?_
      refine cl_RX9_299 (As := []) (rest := []) F hl (c_X9_isFine l X wz9 mo v9 hO48_0 (by omega)) hW hS hO48_0 rfl rfl ⟨Nat.le_of_ble_eq_true rfl, Nat.le_of_ble_eq_true rfl⟩ (Nat.le_of_ble_eq_true rfl) ⟨Nat.zero_le _, Nat.zero_le _⟩ dX9_readsDesign_49 (fun w1 H locs hp27 hW hS => ?_)
      rw [hp27] at hW; clear hp27; clear w1
      refine h_ifeqb (tgt := 131) F dX9_readsDesign_52 (by decide) (fun c28 => ?_) (fun c28 => ?_)
      · have c28d := of_decide_eq_false c28
        exact h_vret F hr hlk hW hS ⟨(by (rw [hO48_0]) <;> (rw [← hG, rdG_e (by omega)])), (by (rw [hA48_0]) <;> (rw [← hG, rdG_e (by omega)])), (fun q h09 h19 => by rw [hF48 q (by omega) (by omega), hn26 q (by omega), hn21 q (by omega), hn15 q (by omega), hn10 q (by omega), hn5 q (by omega)])⟩ dX9_readsDesign_131
      · have c28d := of_decide_eq_true c28
        refine lv_aload_n F.1 F.2.1 dX9_readsDesign_55 rfl (lv_at hl 2 rfl) ?_
        refine gf_RX9_288 F hW hO48_0 rfl dX9_readsDesign_56 ?_
        refine h_ifeq (tgt := 131) F dX9_readsDesign_59 (by decide) (by omega) (fun c29 => ?_) (fun c29 => ?_)
        · exact h_vret F hr hlk hW hS ⟨(by (rw [hO48_0]) <;> (rw [← hG, rdG_e (by omega)])), (by (rw [hA48_0]) <;> (rw [← hG, rdG_e (by omega)])), (fun q h09 h19 => by rw [hF48 q (by omega) (by omega), hn26 q (by omega), hn21 q (by omega), hn15 q (by omega), hn10 q (by omega), hn5 q (by omega)])⟩ dX9_readsDesign_131
        · have join118 : ∀ (wj9 : Wo) (H : Heap) (locs : List Loc) (ls : Array Slot), (hO118_0 : wj9 mo = some (.inr (9, mL mo (bd1 tx v9 d9)))) → (hA118_0 : wj9 (mo + 2) = some (aZ X 1317 (bdD tx v9 d9))) → (hF118 : ∀ q : Nat, q ≠ mo → q ≠ mo + 2 → wj9 q = wz9 q) → Wd X wj9 s H → va_S (cxA X) s.heap H locs → lv_has ls 3 [(2, .int (iI (rdH tx v))), (1, .int (iI (rdW tx v))), (0, .ref mo)] → W p l e (rmk 6 134) s m (List.toArray [.ref mo]) below meth c H locs 0 0 (MX X below (List.toArray [.ref mo]) s 0 0 none (fun w' => w' mo = some (.inr (9, mL mo ((rdF tx v d).1))) ∧ w' (mo + 2) = some (aZ X 1317 ((rdF tx v d).2)) ∧ ∀ q : Nat, q ≠ mo → q ≠ mo + 2 → w' q = w q)) (F0 m 118 ls []) := by
            intro  wj9 H locs ls hO118_0 hA118_0 hF118 hW hS hl
            have htx := (hF118 _ (by omega) (by omega)).trans htx
            refine lv_aload_n F.1 F.2.1 dX9_readsDesign_118 rfl (lv_at hl 2 rfl) ?_
            refine lv_aload_n F.1 F.2.1 dX9_readsDesign_119 rfl (lv_at hl 2 rfl) ?_
            refine h_bipush F dX9_readsDesign_120 rfl ?_
            refine cl_RX9_348 (As := [.int (iI 59)]) (rest := [.ref mo]) F hl (c_X9_isSign l X wj9 mo (bd1 tx v9 d9) tx 59 hO118_0 htx hB1.1 (by omega)) hW hS hO118_0 rfl rfl ⟨Nat.le_of_ble_eq_true rfl, Nat.le_of_ble_eq_true rfl⟩ (Nat.le_of_ble_eq_true rfl) ⟨Nat.zero_le _, Nat.zero_le _⟩ dX9_readsDesign_122 (fun w1 H locs hp30 hW hS => ?_)
            rw [hp30] at hW; clear hp30; clear w1
            refine cl_RX9_323 (As := [.int (iI (bz (isSR tx (bd1 tx v9 d9) 59)))]) (rest := []) F hl (c_X9_must l X wj9 mo (bd1 tx v9 d9) tx (isSR tx (bd1 tx v9 d9) 59) hO118_0 htx hB1.1) hW hS hO118_0 rfl rfl ⟨Nat.le_of_ble_eq_true rfl, Nat.le_of_ble_eq_true rfl⟩ (Nat.le_of_ble_eq_true rfl) ⟨Nat.zero_le _, Nat.zero_le _⟩ dX9_readsDesign_125 (fun w31 H locs hp32 hW hS => ?_)
            obtain ⟨ho33, hn34⟩ := hp32
            have htx := (hn34 _ (by omega)).trans htx
            have hA118_0 := (hn34 _ (by omega)).trans hA118_0
            refine h_goto (tgt := 48) F dX9_readsDesign_128 (by decide) ?_
            have hmm9 : bdV tx v9 d9 18 ≠ 0 ∨ i + 1 ≤ bdV tx v9 d9 15 := by (by_cases hz9 : bdV tx v9 d9 18 = 0; (have := bd_m hi9 hz9; omega); exact .inl hz9)
            exact ih48 (i + 1) (muV tx (isSR tx (bd1 tx v9 d9) 59) (bd1 tx v9 d9)) (bdD tx v9 d9) (by omega) (by omega) w31 ho33 hA118_0 (fun q h09 h19 => by rw [hn34 q (by omega), hF118 q (by omega) (by omega), hF48 q (by omega) (by omega)]) (bd_I hi9) (bdD_W hi9.1 hw9) hmm9 ((rdG_s (by omega) (by omega)).symm.trans hG) _ _ ls hW hS (lv_sub hl [0, 1, 2] rfl)
          refine lv_aload_n F.1 F.2.1 dX9_readsDesign_62 rfl (lv_at hl 2 rfl) ?_
          refine h_ldcSW (tx := "caption") (i := 1) F hW (by decide +kernel) dX9_readsDesign_63 ?_
          refine cl_RX9_329 (As := [.ref (X.2.2 (10 + 1))]) (rest := []) F hl (c_X9_isWord l X wz9 mo v9 tx 1 hO48_0 htx hi9.1 (by decide)) hW hS hO48_0 rfl rfl ⟨Nat.le_of_ble_eq_true rfl, Nat.le_of_ble_eq_true rfl⟩ (Nat.le_of_ble_eq_true rfl) ⟨Nat.zero_le _, Nat.zero_le _⟩ dX9_readsDesign_66 (fun w1 H locs hp35 hW hS => ?_)
          rw [hp35] at hW; clear hp35; clear w1
          refine h_ifeqb (tgt := 79) F dX9_readsDesign_69 (by decide) (fun c36 => ?_) (fun c36 => ?_)
          · refine lv_aload_n F.1 F.2.1 dX9_readsDesign_79 rfl (lv_at hl 2 rfl) ?_
            refine h_ldcSW (tx := "stock") (i := 5) F hW (by decide +kernel) dX9_readsDesign_80 ?_
            refine cl_RX9_329 (As := [.ref (X.2.2 (10 + 5))]) (rest := []) F hl (c_X9_isWord l X wz9 mo v9 tx 5 hO48_0 htx hi9.1 (by decide)) hW hS hO48_0 rfl rfl ⟨Nat.le_of_ble_eq_true rfl, Nat.le_of_ble_eq_true rfl⟩ (Nat.le_of_ble_eq_true rfl) ⟨Nat.zero_le _, Nat.zero_le _⟩ dX9_readsDesign_83 (fun w1 H locs hp37 hW hS => ?_)
            rw [hp37] at hW; clear hp37; clear w1
            refine h_ifeqb (tgt := 96) F dX9_readsDesign_86 (by decide) (fun c38 => ?_) (fun c38 => ?_)
            · refine lv_aload_n F.1 F.2.1 dX9_readsDesign_96 rfl (lv_at hl 2 rfl) ?_
              refine h_ldcSW (tx := "delay") (i := 6) F hW (by decide +kernel) dX9_readsDesign_97 ?_
              refine cl_RX9_329 (As := [.ref (X.2.2 (10 + 6))]) (rest := []) F hl (c_X9_isWord l X wz9 mo v9 tx 6 hO48_0 htx hi9.1 (by decide)) hW hS hO48_0 rfl rfl ⟨Nat.le_of_ble_eq_true rfl, Nat.le_of_ble_eq_true rfl⟩ (Nat.le_of_ble_eq_true rfl) ⟨Nat.zero_le _, Nat.zero_le _⟩ dX9_readsDesign_100 (fun w1 H locs hp39 hW hS => ?_)
              rw [hp39] at hW; clear hp39; clear w1
              refine h_ifeqb (tgt := 113) F dX9_readsDesign_103 (by decide) (fun c40 => ?_) (fun c40 => ?_)
              · refine lv_aload_n F.1 F.2.1 dX9_readsDesign_113 rfl (lv_at hl 2 rfl) ?_
                refine h_iconst F dX9_readsDesign_114 ?_
                refine cl_RX9_311 (As := [.int (iI 1)]) (rest := []) F hl (c_X9_fails l X wz9 mo v9 1 hO48_0 (by omega)) hW hS hO48_0 rfl rfl ⟨Nat.le_of_ble_eq_true rfl, Nat.le_of_ble_eq_true rfl⟩ (Nat.le_of_ble_eq_true rfl) ⟨Nat.zero_le _, Nat.zero_le _⟩ dX9_readsDesign_115 (fun w41 H locs hp42 hW hS => ?_)
                obtain ⟨ho43, hn44⟩ := hp42
                have htx := (hn44 _ (by omega)).trans htx
                have hA48_0 := (hn44 _ (by omega)).trans hA48_0
                exact join118   w41 _ _ ls (by rw [show (bd1 tx v9 d9 : Int → Int) = faV 1 v9 from by unfold bd1; first | rw [if_pos ‹isWR tx v9 1 = true›] | rw [if_neg (by rw [‹isWR tx v9 1 = false›]; decide), if_pos ‹isWR tx v9 5 = true›] | rw [if_neg (by rw [‹isWR tx v9 1 = false›]; decide), if_neg (by rw [‹isWR tx v9 5 = false›]; decide), if_pos ‹isWR tx v9 6 = true›] | rw [if_neg (by rw [‹isWR tx v9 1 = false›]; decide), if_neg (by rw [‹isWR tx v9 5 = false›]; decide), if_neg (by rw [‹isWR tx v9 6 = false›]; decide)]]; exact ho43) (by rw [show (bdD tx v9 d9 : Int → Int) = d9 from by unfold bdD; first | rw [if_pos ‹isWR tx v9 1 = true›] | rw [if_neg (by rw [‹isWR tx v9 1 = false›]; decide), if_pos ‹isWR tx v9 5 = true›] | rw [if_neg (by rw [‹isWR tx v9 1 = false›]; decide), if_neg (by rw [‹isWR tx v9 5 = false›]; decide), if_pos ‹isWR tx v9 6 = true›] | rw [if_neg (by rw [‹isWR tx v9 1 = false›]; decide), if_neg (by rw [‹isWR tx v9 5 = false›]; decide), if_neg (by rw [‹isWR tx v9 6 = false›]; decide)]]; exact hA48_0) (fun q h09 h19 => by rw [hn44 q (by omega)])  hW hS (lv_sub hl [0, 1, 2] rfl)
              · refine lv_aload_n F.1 F.2.1 dX9_readsDesign_106 rfl (lv_at hl 2 rfl) ?_
                refine cl_RX9_363 (As := []) (rest := []) F hl (c_X9_readsDelay l X wz9 mo v9 tx d9 hO48_0 htx hi9.1 hA48_0 (by omega)) hW hS hO48_0 rfl rfl ⟨Nat.le_of_ble_eq_true rfl, Nat.le_of_ble_eq_true rfl⟩ (Nat.le_of_ble_eq_true rfl) ⟨Nat.zero_le _, Nat.zero_le _⟩ dX9_readsDesign_107 (fun w45 H locs hp46 hW hS => ?_)
                obtain ⟨ho47, ha48, hn49⟩ := hp46
                have htx := (hn49 _ (by omega) (by omega)).trans htx
                refine h_goto (tgt := 118) F dX9_readsDesign_110 (by decide) ?_
                exact join118   w45 _ _ ls (by rw [show (bd1 tx v9 d9 : Int → Int) = reV tx v9 from by unfold bd1; first | rw [if_pos ‹isWR tx v9 1 = true›] | rw [if_neg (by rw [‹isWR tx v9 1 = false›]; decide), if_pos ‹isWR tx v9 5 = true›] | rw [if_neg (by rw [‹isWR tx v9 1 = false›]; decide), if_neg (by rw [‹isWR tx v9 5 = false›]; decide), if_pos ‹isWR tx v9 6 = true›] | rw [if_neg (by rw [‹isWR tx v9 1 = false›]; decide), if_neg (by rw [‹isWR tx v9 5 = false›]; decide), if_neg (by rw [‹isWR tx v9 6 = false›]; decide)]]; exact ho47) (by rw [show (bdD tx v9 d9 : Int → Int) = reD tx v9 d9 from by unfold bdD; first | rw [if_pos ‹isWR tx v9 1 = true›] | rw [if_neg (by rw [‹isWR tx v9 1 = false›]; decide), if_pos ‹isWR tx v9 5 = true›] | rw [if_neg (by rw [‹isWR tx v9 1 = false›]; decide), if_neg (by rw [‹isWR tx v9 5 = false›]; decide), if_pos ‹isWR tx v9 6 = true›] | rw [if_neg (by rw [‹isWR tx v9 1 = false›]; decide), if_neg (by rw [‹isWR tx v9 5 = false›]; decide), if_neg (by rw [‹isWR tx v9 6 = false›]; decide)]]; exact ha48) (fun q h09 h19 => by rw [hn49 q (by omega) (by omega)])  hW hS (lv_sub hl [0, 1, 2] rfl)
            · refine lv_aload_n F.1 F.2.1 dX9_readsDesign_89 rfl (lv_at hl 2 rfl) ?_
              refine cl_RX9_358 (As := []) (rest := []) F hl (c_X9_readsStock l X wz9 mo v9 tx d9 hO48_0 htx hi9.1 hA48_0 (by omega)) hW hS hO48_0 rfl rfl ⟨Nat.le_of_ble_eq_true rfl, Nat.le_of_ble_eq_true rfl⟩ (Nat.le_of_ble_eq_true rfl) ⟨Nat.zero_le _, Nat.zero_le _⟩ dX9_readsDesign_90 (fun w50 H locs hp51 hW hS => ?_)
              obtain ⟨ho52, ha53, hn54⟩ := hp51
              have htx := (hn54 _ (by omega) (by omega)).trans htx
              refine h_goto (tgt := 118) F dX9_readsDesign_93 (by decide) ?_
              exact join118   w50 _ _ ls (by rw [show (bd1 tx v9 d9 : Int → Int) = rsV tx v9 from by unfold bd1; first | rw [if_pos ‹isWR tx v9 1 = true›] | rw [if_neg (by rw [‹isWR tx v9 1 = false›]; decide), if_pos ‹isWR tx v9 5 = true›] | rw [if_neg (by rw [‹isWR tx v9 1 = false›]; decide), if_neg (by rw [‹isWR tx v9 5 = false›]; decide), if_pos ‹isWR tx v9 6 = true›] | rw [if_neg (by rw [‹isWR tx v9 1 = false›]; decide), if_neg (by rw [‹isWR tx v9 5 = false›]; decide), if_neg (by rw [‹isWR tx v9 6 = false›]; decide)]]; exact ho52) (by rw [show (bdD tx v9 d9 : Int → Int) = rsD tx v9 d9 from by unfold bdD; first | rw [if_pos ‹isWR tx v9 1 = true›] | rw [if_neg (by rw [‹isWR tx v9 1 = false›]; decide), if_pos ‹isWR tx v9 5 = true›] | rw [if_neg (by rw [‹isWR tx v9 1 = false›]; decide), if_neg (by rw [‹isWR tx v9 5 = false›]; decide), if_pos ‹isWR tx v9 6 = true›] | rw [if_neg (by rw [‹isWR tx v9 1 = false›]; decide), if_neg (by rw [‹isWR tx v9 5 = false›]; decide), if_neg (by rw [‹isWR tx v9 6 = false›]; decide)]]; exact ha53) (fun q h09 h19 => by rw [hn54 q (by omega) (by omega)])  hW hS (lv_sub hl [0, 1, 2] rfl)
          · refine lv_aload_n F.1 F.2.1 dX9_readsDesign_72 rfl (lv_at hl 2 rfl) ?_
            refine cl_RX9_353 (As := []) (rest := []) F hl (c_X9_readsCaption l X wz9 mo v9 tx d9 hO48_0 htx hi9.1 hA48_0 hw9) hW hS hO48_0 rfl rfl ⟨Nat.le_of_ble_eq_true rfl, Nat.le_of_ble_eq_true rfl⟩ (Nat.le_of_ble_eq_true rfl) ⟨Nat.zero_le _, Nat.zero_le _⟩ dX9_readsDesign_73 (fun w55 H locs hp56 hW hS => ?_)
            obtain ⟨ho57, ha58, hn59⟩ := hp56
            have htx := (hn59 _ (by omega) (by omega)).trans htx
            refine h_goto (tgt := 118) F dX9_readsDesign_76 (by decide) ?_
            exact join118   w55 _ _ ls (by rw [show (bd1 tx v9 d9 : Int → Int) = rc13 tx v9 d9 from by unfold bd1; first | rw [if_pos ‹isWR tx v9 1 = true›] | rw [if_neg (by rw [‹isWR tx v9 1 = false›]; decide), if_pos ‹isWR tx v9 5 = true›] | rw [if_neg (by rw [‹isWR tx v9 1 = false›]; decide), if_neg (by rw [‹isWR tx v9 5 = false›]; decide), if_pos ‹isWR tx v9 6 = true›] | rw [if_neg (by rw [‹isWR tx v9 1 = false›]; decide), if_neg (by rw [‹isWR tx v9 5 = false›]; decide), if_neg (by rw [‹isWR tx v9 6 = false›]; decide)]]; exact ho57) (by rw [show (bdD tx v9 d9 : Int → Int) = rcE tx v9 d9 from by unfold bdD; first | rw [if_pos ‹isWR tx v9 1 = true›] | rw [if_neg (by rw [‹isWR tx v9 1 = false›]; decide), if_pos ‹isWR tx v9 5 = true›] | rw [if_neg (by rw [‹isWR tx v9 1 = false›]; decide), if_neg (by rw [‹isWR tx v9 5 = false›]; decide), if_pos ‹isWR tx v9 6 = true›] | rw [if_neg (by rw [‹isWR tx v9 1 = false›]; decide), if_neg (by rw [‹isWR tx v9 5 = false›]; decide), if_neg (by rw [‹isWR tx v9 6 = false›]; decide)]]; exact ha58) (fun q h09 h19 => by rw [hn59 q (by omega) (by omega)])  hW hS (lv_sub hl [0, 1, 2] rfl)
  exact loop48 ((402 - 0) + 1 : Int).toNat 0 (rd4 tx v) (bgS d (rdW tx v) (rdH tx v)) (by omega) (by omega) w23 hX22 ha25 (fun q _ _ => rfl) (⟨hp4, by rw [hm4 22 (by omega)]; exact hvi.2.1, by rw [hm4 23 (by omega)]; exact hvi.2.2⟩) (rdD_W tx v d) (.inr hr4.1.1) rfl _ _ ls hW hS (lv_sub hl [0, 1, 2] rfl)
set_option maxHeartbeats 4000000 in
set_option maxRecDepth 100000 in
theorem c_X9_commandHere (l : Launch) (X : Cx) (w : Wo) (mo : Nat) (v tx : Int → Int) (hM : w mo = some (.inr (9, mL mo v))) (htx : w (mo + 7) = some (aZ X 400 tx)) (hvp : vP tx v) : CM l X yX9_commandHere cX9_commandHere 1 (some (.int)) (rmk 5 108) [.ref mo] w (some (.int (iI (cmR tx v)))) (fun w' => w' = w) := by
  refine CM.of (lv := [(0, .ref mo)]) (by decide) (Nat.le_of_ble_eq_true rfl) rfl (fun p e s m below meth c ls F hr hlk hin hW hS hl => ?_)
  have hZ0 := hW.2.2
  have hB9 := hW.1.2
  clear hin
  have join85 : ∀ (H : Heap) (locs : List Loc) (ls : Array Slot), Wd X w s H → va_S (cxA X) s.heap H locs → lv_has ls 1 [(0, .ref mo)] → W p l e (rmk 5 108) s m (List.toArray [.ref mo]) below meth c H locs 0 0 (MX X below (List.toArray [.ref mo]) s 0 0 (some (.int (iI (cmR tx v)))) (fun w' => w' = w)) (F0 m 85 ls [.int (iI (cmR tx v))]) := by
    intro  H locs ls  hW hS hl
    exact h_ireti F hr hlk hW hS rfl dX9_commandHere_85
  refine lv_aload_n F.1 F.2.1 dX9_commandHere_0 rfl (lv_at hl 0 rfl) ?_
  refine h_ldcSW (tx := "pass") (i := 7) F hW (by decide +kernel) dX9_commandHere_1 ?_
  refine cl_RX9_329 (As := [.ref (X.2.2 (10 + 7))]) (rest := []) F hl (c_X9_isWord l X w mo v tx 7 hM htx hvp (by decide)) hW hS hM rfl rfl ⟨Nat.le_of_ble_eq_true rfl, Nat.le_of_ble_eq_true rfl⟩ (Nat.le_of_ble_eq_true rfl) ⟨Nat.zero_le _, Nat.zero_le _⟩ dX9_commandHere_4 (fun w1 H locs hp1 hW hS => ?_)
  rw [hp1] at hW; clear hp1; clear w1
  refine h_ifeqb (tgt := 14) F dX9_commandHere_7 (by decide) (fun c2 => ?_) (fun c2 => ?_)
  · refine lv_aload_n F.1 F.2.1 dX9_commandHere_14 rfl (lv_at hl 0 rfl) ?_
    refine h_ldcSW (tx := "beat") (i := 8) F hW (by decide +kernel) dX9_commandHere_15 ?_
    refine cl_RX9_329 (As := [.ref (X.2.2 (10 + 8))]) (rest := []) F hl (c_X9_isWord l X w mo v tx 8 hM htx hvp (by decide)) hW hS hM rfl rfl ⟨Nat.le_of_ble_eq_true rfl, Nat.le_of_ble_eq_true rfl⟩ (Nat.le_of_ble_eq_true rfl) ⟨Nat.zero_le _, Nat.zero_le _⟩ dX9_commandHere_18 (fun w1 H locs hp3 hW hS => ?_)
    rw [hp3] at hW; clear hp3; clear w1
    refine h_ifeqb (tgt := 28) F dX9_commandHere_21 (by decide) (fun c4 => ?_) (fun c4 => ?_)
    · refine lv_aload_n F.1 F.2.1 dX9_commandHere_28 rfl (lv_at hl 0 rfl) ?_
      refine h_ldcSW (tx := "weave") (i := 9) F hW (by decide +kernel) dX9_commandHere_29 ?_
      refine cl_RX9_329 (As := [.ref (X.2.2 (10 + 9))]) (rest := []) F hl (c_X9_isWord l X w mo v tx 9 hM htx hvp (by decide)) hW hS hM rfl rfl ⟨Nat.le_of_ble_eq_true rfl, Nat.le_of_ble_eq_true rfl⟩ (Nat.le_of_ble_eq_true rfl) ⟨Nat.zero_le _, Nat.zero_le _⟩ dX9_commandHere_32 (fun w1 H locs hp5 hW hS => ?_)
      rw [hp5] at hW; clear hp5; clear w1
      refine h_ifeqb (tgt := 42) F dX9_commandHere_35 (by decide) (fun c6 => ?_) (fun c6 => ?_)
      · refine lv_aload_n F.1 F.2.1 dX9_commandHere_42 rfl (lv_at hl 0 rfl) ?_
        refine h_ldcSW (tx := "unpick") (i := 11) F hW (by decide +kernel) dX9_commandHere_43 ?_
        refine cl_RX9_329 (As := [.ref (X.2.2 (10 + 11))]) (rest := []) F hl (c_X9_isWord l X w mo v tx 11 hM htx hvp (by decide)) hW hS hM rfl rfl ⟨Nat.le_of_ble_eq_true rfl, Nat.le_of_ble_eq_true rfl⟩ (Nat.le_of_ble_eq_true rfl) ⟨Nat.zero_le _, Nat.zero_le _⟩ dX9_commandHere_46 (fun w1 H locs hp7 hW hS => ?_)
        rw [hp7] at hW; clear hp7; clear w1
        refine h_ifeqb (tgt := 56) F dX9_commandHere_49 (by decide) (fun c8 => ?_) (fun c8 => ?_)
        · refine lv_aload_n F.1 F.2.1 dX9_commandHere_56 rfl (lv_at hl 0 rfl) ?_
          refine h_ldcSW (tx := "look") (i := 12) F hW (by decide +kernel) dX9_commandHere_57 ?_
          refine cl_RX9_329 (As := [.ref (X.2.2 (10 + 12))]) (rest := []) F hl (c_X9_isWord l X w mo v tx 12 hM htx hvp (by decide)) hW hS hM rfl rfl ⟨Nat.le_of_ble_eq_true rfl, Nat.le_of_ble_eq_true rfl⟩ (Nat.le_of_ble_eq_true rfl) ⟨Nat.zero_le _, Nat.zero_le _⟩ dX9_commandHere_60 (fun w1 H locs hp9 hW hS => ?_)
          rw [hp9] at hW; clear hp9; clear w1
          refine h_ifeqb (tgt := 70) F dX9_commandHere_63 (by decide) (fun c10 => ?_) (fun c10 => ?_)
          · refine lv_aload_n F.1 F.2.1 dX9_commandHere_70 rfl (lv_at hl 0 rfl) ?_
            refine h_ldcSW (tx := "repeat") (i := 13) F hW (by decide +kernel) dX9_commandHere_71 ?_
            refine cl_RX9_329 (As := [.ref (X.2.2 (10 + 13))]) (rest := []) F hl (c_X9_isWord l X w mo v tx 13 hM htx hvp (by decide)) hW hS hM rfl rfl ⟨Nat.le_of_ble_eq_true rfl, Nat.le_of_ble_eq_true rfl⟩ (Nat.le_of_ble_eq_true rfl) ⟨Nat.zero_le _, Nat.zero_le _⟩ dX9_commandHere_74 (fun w1 H locs hp11 hW hS => ?_)
            rw [hp11] at hW; clear hp11; clear w1
            refine h_ifeqb (tgt := 84) F dX9_commandHere_77 (by decide) (fun c12 => ?_) (fun c12 => ?_)
            · refine h_iconst F dX9_commandHere_84 ?_
              refine h_top (show ((-1) : Int) = cmR tx v from by unfold cmR; simp [*]) ?_
              exact join85  _ _ ls  hW hS (lv_sub hl [0] rfl)
            · refine h_iconst F dX9_commandHere_80 ?_
              refine h_goto (tgt := 85) F dX9_commandHere_81 (by decide) ?_
              refine h_top (show (5 : Int) = cmR tx v from by unfold cmR; simp [*]) ?_
              exact join85  _ _ ls  hW hS (lv_sub hl [0] rfl)
          · refine h_iconst F dX9_commandHere_66 ?_
            refine h_goto (tgt := 85) F dX9_commandHere_67 (by decide) ?_
            refine h_top (show (4 : Int) = cmR tx v from by unfold cmR; simp [*]) ?_
            exact join85  _ _ ls  hW hS (lv_sub hl [0] rfl)
        · refine h_iconst F dX9_commandHere_52 ?_
          refine h_goto (tgt := 85) F dX9_commandHere_53 (by decide) ?_
          refine h_top (show (3 : Int) = cmR tx v from by unfold cmR; simp [*]) ?_
          exact join85  _ _ ls  hW hS (lv_sub hl [0] rfl)
      · refine h_iconst F dX9_commandHere_38 ?_
        refine h_goto (tgt := 85) F dX9_commandHere_39 (by decide) ?_
        refine h_top (show (2 : Int) = cmR tx v from by unfold cmR; simp [*]) ?_
        exact join85  _ _ ls  hW hS (lv_sub hl [0] rfl)
    · refine h_iconst F dX9_commandHere_24 ?_
      refine h_goto (tgt := 85) F dX9_commandHere_25 (by decide) ?_
      refine h_top (show (1 : Int) = cmR tx v from by unfold cmR; simp [*]) ?_
      exact join85  _ _ ls  hW hS (lv_sub hl [0] rfl)
  · refine h_iconst F dX9_commandHere_10 ?_
    refine h_goto (tgt := 85) F dX9_commandHere_11 (by decide) ?_
    refine h_top (show (0 : Int) = cmR tx v from by unfold cmR; simp [*]) ?_
    exact join85  _ _ ls  hW hS (lv_sub hl [0] rfl)
set_option maxHeartbeats 4000000 in
set_option maxRecDepth 100000 in
theorem c_X9_lays (l : Launch) (X : Cx) (w : Wo) (mo : Nat) (v sc : Int → Int) (a b x y : Int) (hM : w mo = some (.inr (9, mL mo v))) (hsc : w (mo + 9) = some (aZ X 240 sc)) (h27 : 0 ≤ v 27 ∧ v 27 < 60) : CM l X yX9_lays cX9_lays 5 none (rmk 0 0) [.ref mo, .int (iI a), .int (iI b), .int (iI x), .int (iI y)] w none (fun w' => w' mo = some (.inr (9, mL mo (up v 27 (v 27 + 1)))) ∧ w' (mo + 9) = some (aZ X 240 (laS sc (v 27) a b x y)) ∧ ∀ q : Nat, q ≠ mo → q ≠ mo + 9 → w' q = w q) := by
  refine CM.of (lv := [(0, .ref mo), (1, .int (iI a)), (2, .int (iI b)), (3, .int (iI x)), (4, .int (iI y))]) (by decide) (Nat.le_of_ble_eq_true rfl) rfl (fun p e s m below meth c ls F hr hlk hin hW hS hl => ?_)
  have hZ0 := hW.2.2
  have hB9 := hW.1.2
  clear hin
  refine lv_aload_n F.1 F.2.1 dX9_lays_0 rfl (lv_at hl 0 rfl) ?_
  refine gf_RX9_42 F hW hM rfl dX9_lays_1 ?_
  refine h_iconst F dX9_lays_4 ?_
  refine lv_aload_n F.1 F.2.1 dX9_lays_5 rfl (lv_at hl 0 rfl) ?_
  refine gf_RX9_387 F hW hM rfl dX9_lays_6 ?_
  refine h_imul (a := 4) (b := v 27) F dX9_lays_9 ?_
  refine lv_iload_n F.1 F.2.1 dX9_lays_10 rfl (lv_at hl 1 rfl) ?_
  refine h_iast F hW hS hsc (by omega) (by omega) dX9_lays_11 (fun w1 H locs ho3 hn2 hW hS => ?_)
  have hM := (hn2 _ (by omega)).trans hM
  refine lv_aload_n F.1 F.2.1 dX9_lays_12 rfl (lv_at hl 0 rfl) ?_
  refine gf_RX9_42 F hW hM rfl dX9_lays_13 ?_
  refine h_iconst F dX9_lays_16 ?_
  refine lv_aload_n F.1 F.2.1 dX9_lays_17 rfl (lv_at hl 0 rfl) ?_
  refine gf_RX9_387 F hW hM rfl dX9_lays_18 ?_
  refine h_imul (a := 4) (b := v 27) F dX9_lays_21 ?_
  refine h_iconst F dX9_lays_22 ?_
  refine h_iadd (a := 4 * (v 27)) (b := 1) F dX9_lays_23 ?_
  refine lv_iload_n F.1 F.2.1 dX9_lays_24 rfl (lv_at hl 2 rfl) ?_
  refine h_iast F hW hS ho3 (by omega) (by omega) dX9_lays_25 (fun w4 H locs ho6 hn5 hW hS => ?_)
  have hM := (hn5 _ (by omega)).trans hM
  refine lv_aload_n F.1 F.2.1 dX9_lays_26 rfl (lv_at hl 0 rfl) ?_
  refine gf_RX9_42 F hW hM rfl dX9_lays_27 ?_
  refine h_iconst F dX9_lays_30 ?_
  refine lv_aload_n F.1 F.2.1 dX9_lays_31 rfl (lv_at hl 0 rfl) ?_
  refine gf_RX9_387 F hW hM rfl dX9_lays_32 ?_
  refine h_imul (a := 4) (b := v 27) F dX9_lays_35 ?_
  refine h_iconst F dX9_lays_36 ?_
  refine h_iadd (a := 4 * (v 27)) (b := 2) F dX9_lays_37 ?_
  refine lv_iload_n F.1 F.2.1 dX9_lays_38 rfl (lv_at hl 3 rfl) ?_
  refine h_iast F hW hS ho6 (by omega) (by omega) dX9_lays_39 (fun w7 H locs ho9 hn8 hW hS => ?_)
  have hM := (hn8 _ (by omega)).trans hM
  refine lv_aload_n F.1 F.2.1 dX9_lays_40 rfl (lv_at hl 0 rfl) ?_
  refine gf_RX9_42 F hW hM rfl dX9_lays_41 ?_
  refine h_iconst F dX9_lays_44 ?_
  refine lv_aload_n F.1 F.2.1 dX9_lays_45 rfl (lv_at hl 0 rfl) ?_
  refine gf_RX9_387 F hW hM rfl dX9_lays_46 ?_
  refine h_imul (a := 4) (b := v 27) F dX9_lays_49 ?_
  refine h_iconst F dX9_lays_50 ?_
  refine h_iadd (a := 4 * (v 27)) (b := 3) F dX9_lays_51 ?_
  refine lv_iload F.1 F.2.1 dX9_lays_52 (lv_at hl 4 rfl) ?_
  refine h_iast F hW hS ho9 (by omega) (by omega) dX9_lays_54 (fun w10 H locs ho12 hn11 hW hS => ?_)
  have hM := (hn11 _ (by omega)).trans hM
  refine lv_aload_n F.1 F.2.1 dX9_lays_55 rfl (lv_at hl 0 rfl) ?_
  refine lv_dup F.1 F.2.1 dX9_lays_56 rfl ?_
  refine gf_RX9_387 F hW hM rfl dX9_lays_57 ?_
  refine h_iconst F dX9_lays_60 ?_
  refine h_iadd (a := v 27) (b := 1) F dX9_lays_61 ?_
  refine pf_RX9_387 F hW hS hM (Nat.le_of_ble_eq_true rfl) dX9_lays_62 (fun w13 H locs ho15 hn14 hW hS => ?_)
  rw [mL_27] at ho15
  have ho12 := (hn14 _ (by omega)).trans ho12
  exact h_vret F hr hlk hW hS ⟨(by (rw [ho15]) <;> (rfl)), (by (rw [ho12]) <;> (rfl)), (fun q h09 h19 => by rw [hn14 q (by omega), hn11 q (by omega), hn8 q (by omega), hn5 q (by omega), hn2 q (by omega)])⟩ dX9_lays_65
