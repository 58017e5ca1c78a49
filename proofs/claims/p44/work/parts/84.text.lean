/-! ===== bytes of an int ===== -/
def bt (x : Int32) (i : Nat) : Bool := x.toBitVec.getLsbD i
theorem b_ext {x y : Int32} (h : ∀ i, i < 32 → bt x i = bt y i) : x = y := Int32.toBitVec_inj.mp (BitVec.eq_of_getLsbD_eq (fun i hi => h i hi))
theorem b_and (x y : Int32) (i : Nat) : bt (x &&& y) i = (bt x i && bt y i) := by unfold bt; rw [Int32.toBitVec_and, BitVec.getLsbD_and]
theorem b_255 : ∀ i, i < 32 → bt 255 i = decide (i < 8) := by decide +kernel
theorem s_l : ∀ n, n < 32 → ((nI n &&& 31).toBitVec.smod 32).toNat = n := by decide +kernel
theorem s_u : ∀ n, n < 32 → (((nI n).toUInt32 &&& Int32.toUInt32 31).toBitVec % 32).toNat = n := by decide +kernel
theorem b_ushr (n : Nat) (hn : n < 32) (x : Int32) (i : Nat) : bt ((x.toUInt32 >>> ((nI n).toUInt32 &&& Int32.toUInt32 31)).toInt32) i = bt x (n + i) := by
  show (x.toUInt32 >>> ((nI n).toUInt32 &&& Int32.toUInt32 31)).toBitVec.getLsbD i = x.toUInt32.toBitVec.getLsbD (n + i)
  rw [UInt32.toBitVec_shiftRight]
  show (x.toUInt32.toBitVec >>> (((nI n).toUInt32 &&& Int32.toUInt32 31).toBitVec % 32).toNat).getLsbD i = _
  rw [s_u n hn, BitVec.getLsbD_ushiftRight]
theorem b_sshr (n : Nat) (hn : n < 32) (x : Int32) {i : Nat} (hi : i < 32) : bt (x >>> (nI n &&& 31)) i = if n + i < 32 then bt x (n + i) else bt x 31 := by
  unfold bt
  rw [Int32.toBitVec_shiftRight]
  show (x.toBitVec.sshiftRight ((nI n &&& 31).toBitVec.smod 32).toNat).getLsbD i = _
  rw [s_l n hn, BitVec.getLsbD_sshiftRight, BitVec.msb_eq_getLsbD_last]
  simp [hi]
def uhI (v s : Int) : Int := ((iI v).toUInt32 >>> ((iI s).toUInt32 &&& Int32.toUInt32 31)).toInt32.toInt
def shI (v s : Int) : Int := (iI v >>> (iI s &&& 31)).toInt
def byI (v s : Int) : Int := (iI (uhI v s) &&& iI 255).toInt
theorem and255 (x : Int32) : 0 ≤ (x &&& iI 255).toInt ∧ (x &&& iI 255).toInt ≤ 255 := by
  have h : (x &&& iI 255).toBitVec.toNat ≤ 255 := by
    rw [Int32.toBitVec_and]
    show (x.toBitVec &&& 255#32).toNat ≤ 255
    rw [BitVec.toNat_and]
    exact Nat.and_le_right
  show 0 ≤ (x &&& iI 255).toBitVec.toInt ∧ (x &&& iI 255).toBitVec.toInt ≤ 255
  rw [BitVec.toInt_eq_toNat_of_lt (by omega)]
  omega
theorem by_r (v s : Int) : 0 ≤ byI v s ∧ byI v s ≤ 255 := and255 _
theorem by_eq {v s : Int} (h : 0 ≤ s ∧ s ≤ 24) : iI (shI v s) &&& iI 255 = iI (byI v s) := by
  have e1 : iI (shI v s) = iI v >>> (iI s &&& 31) := (iI_of _).symm
  have e2 : iI (byI v s) = iI (uhI v s) &&& iI 255 := (iI_of _).symm
  have e3 : iI (uhI v s) = ((iI v).toUInt32 >>> ((iI s).toUInt32 &&& Int32.toUInt32 31)).toInt32 := (iI_of _).symm
  rw [e1, e2, e3]
  have es : iI s = nI s.toNat := by rw [iI_nI, show ((s.toNat : Nat) : Int) = s by omega]
  rw [es]
  refine b_ext (fun i hi => ?_)
  rw [b_and, b_and, b_sshr s.toNat (by omega) _ hi, b_ushr s.toNat (by omega)]
  have e255 : bt (iI 255) i = decide (i < 8) := b_255 i hi
  rw [e255]
  by_cases g : i < 8
  · rw [if_pos (by omega)]
  · rw [decide_eq_false g, Bool.and_false, Bool.and_false]
section KX6
variable {p : Program} {l : Launch} {e : Env} {R : Room} {s : State} {m : MethodId} {args : Array Value} {below : List Frame} {meth : Method} {c : Code} {H H0 : Heap} {locs : List Loc} {cells slots : Nat} {Q : State → Prop}
  {cc : ByteArray} {nL pc : Nat} {own : String} {ls : Array Slot} {rest : List Value}
theorem h_iushr {x y z : Int32} (F : Fx p m c cc nL s args own) (hd : decode cc pc = .ok (.iushr, 1)) (h : (x.toUInt32 >>> (y.toUInt32 &&& Int32.toUInt32 31)).toInt32 = z) (k : W p l e R s m args below meth c H locs cells slots Q (F0 m (pc + 1) ls (.int z :: rest))) : W p l e R s m args below meth c H locs cells slots Q (F0 m pc ls (.int y :: .int x :: rest)) := lv_iushr F.1 F.2.1 hd h k
end KX6
/-- four bytes of v from the place N on, the first i of them -/
def apN (f : Int → Int) (N v : Int) : Nat → Int → Int
  | 0 => f
  | i + 1 => up (apN f N v i) (N + i) (byI v (24 - 8 * i))
def ap4 (f : Int → Int) (N v : Int) : Int → Int := apN f N v 4
theorem apN_s (f : Int → Int) (N v : Int) {i : Int} (h : 0 ≤ i) : apN f N v (i + 1).toNat = up (apN f N v i.toNat) (N + i) (byI v (24 - 8 * i)) := by
  rw [show (i + 1).toNat = i.toNat + 1 by omega]
  show up _ (N + (i.toNat : Int)) (byI v (24 - 8 * (i.toNat : Int))) = _
  rw [show (i.toNat : Int) = i by omega]
theorem apN_r {f : Int → Int} {N v : Int} (h : ∀ i, 0 ≤ i → i < N → 0 ≤ f i ∧ f i ≤ 255) (hN : 0 ≤ N) : ∀ n : Nat, ∀ i, 0 ≤ i → i < N + n → 0 ≤ apN f N v n i ∧ apN f N v n i ≤ 255
  | 0, i, i0, i1 => h i i0 (by omega)
  | n + 1, i, i0, i1 => by
    show 0 ≤ up (apN f N v n) (N + n) (byI v (24 - 8 * n)) i ∧ up (apN f N v n) (N + n) (byI v (24 - 8 * n)) i ≤ 255
    by_cases g : i = N + n
    · rw [g, up_s]; exact by_r _ _
    · rw [up_n g]; exact apN_r h hN n i i0 (by omega)
theorem ap4_r {f : Int → Int} {N v : Int} (h : ∀ i, 0 ≤ i → i < N → 0 ≤ f i ∧ f i ≤ 255) (hN : 0 ≤ N) : ∀ i, 0 ≤ i → i < N + 4 → 0 ≤ ap4 f N v i ∧ ap4 f N v i ≤ 255 := apN_r h hN 4
def ap20 (f : Int → Int) (N a b c d e : Int) : Int → Int := ap4 (ap4 (ap4 (ap4 (ap4 f N a) (N + 4) b) (N + 4 + 4) c) (N + 4 + 4 + 4) d) (N + 4 + 4 + 4 + 4) e
theorem ap20_r {f : Int → Int} {N a b c d e : Int} (h : ∀ i, 0 ≤ i → i < N → 0 ≤ f i ∧ f i ≤ 255) (hN : 0 ≤ N) : ∀ i, 0 ≤ i → i < N + 20 → 0 ≤ ap20 f N a b c d e i ∧ ap20 f N a b c d e i ≤ 255 := by
  have h1 := ap4_r (v := a) h hN
  have h2 := ap4_r (v := b) h1 (by omega)
  have h3 := ap4_r (v := c) h2 (by omega)
  have h4 := ap4_r (v := d) h3 (by omega)
  have h5 := ap4_r (v := e) h4 (by omega)
  intro i i0 i1
  exact h5 i i0 (by omega)
/-! ===== bits of the slots in use ===== -/
def slO (su k : Int) : Int := if k = 0 then (if su % 2 = 1 then su else su + 1) else (if 2 ≤ su then su else su + 2)
def slbS (su k : Int) : Int := if k = 0 then su % 2 else 2 * (su / 2)
theorem slO_eq {su k : Int} (h : 0 ≤ su ∧ su < 4) (hk : k = 0 ∨ k = 1) : iI su ||| (iI 1 <<< (iI k &&& 31)) = iI (slO su k) := by
  rcases (show su = 0 ∨ su = 1 ∨ su = 2 ∨ su = 3 by omega) with g | g | g | g <;> rcases hk with g2 | g2 <;> subst g <;> subst g2 <;> decide +kernel
theorem slbS_eq {su k : Int} (h : 0 ≤ su ∧ su < 4) (hk : k = 0 ∨ k = 1) : iI su &&& (iI 1 <<< (iI k &&& 31)) = iI (slbS su k) := by
  rcases (show su = 0 ∨ su = 1 ∨ su = 2 ∨ su = 3 by omega) with g | g | g | g <;> rcases hk with g2 | g2 <;> subst g <;> subst g2 <;> decide +kernel
def shl1 (k : Int) : Int := if k = 0 then 1 else 2
theorem shl1_eq {k : Int} (hk : k = 0 ∨ k = 1) : iI 1 <<< (iI k &&& 31) = iI (shl1 k) := by
  rcases hk with g2 | g2 <;> subst g2 <;> decide +kernel
/-! ===== a row written ===== -/
def wcol (σ : Int → Int) (b : Bool) (i : Int) : Int := if b then turnS σ i else i
def wchr (c : Int) : Int := if c = -1 then 46 else 48 + c
def wflg (σ : Int → Int) (rn : Int) (b : Bool) (i : Int) : Bool := seenS σ rn && misS σ (wcol σ b i) rn
def wrL (σ : Int → Int) (rn : Int) (b : Bool) : Nat → Int
  | 0 => 0
  | n + 1 => wrL σ rn b n + 1 + bz (wflg σ rn b n)
def wrF (f : Int → Int) (σ : Int → Int) (rn : Int) (b : Bool) : Nat → Int → Int
  | 0 => f
  | n + 1 => if wflg σ rn b n then up (up (wrF f σ rn b n) (wrL σ rn b n) (wchr (cellS σ (wcol σ b n) rn))) (wrL σ rn b n + 1) 33 else up (wrF f σ rn b n) (wrL σ rn b n) (wchr (cellS σ (wcol σ b n) rn))
theorem wrL_r (σ : Int → Int) (rn : Int) (b : Bool) : ∀ n : Nat, 0 ≤ wrL σ rn b n ∧ wrL σ rn b n ≤ 2 * n
  | 0 => by show 0 ≤ (0 : Int) ∧ (0 : Int) ≤ _; omega
  | n + 1 => by
    have h := wrL_r σ rn b n
    have h2 := bz_r (wflg σ rn b n)
    show 0 ≤ wrL σ rn b n + 1 + bz (wflg σ rn b n) ∧ wrL σ rn b n + 1 + bz (wflg σ rn b n) ≤ _
    omega
theorem wrL_s (σ : Int → Int) (rn : Int) (b : Bool) {i : Int} (h : 0 ≤ i) : wrL σ rn b (i + 1).toNat = wrL σ rn b i.toNat + 1 + bz (wflg σ rn b i) := by
  rw [show (i + 1).toNat = i.toNat + 1 by omega]
  show _ + 1 + bz (wflg σ rn b (i.toNat : Int)) = _
  rw [show (i.toNat : Int) = i by omega]
theorem wrF_t (f σ : Int → Int) (rn : Int) (b : Bool) {i : Int} (h : 0 ≤ i) (hg : wflg σ rn b i = true) : wrF f σ rn b (i + 1).toNat = up (up (wrF f σ rn b i.toNat) (wrL σ rn b i.toNat) (wchr (cellS σ (wcol σ b i) rn))) (wrL σ rn b i.toNat + 1) 33 := by
  rw [show (i + 1).toNat = i.toNat + 1 by omega]
  show (if wflg σ rn b (i.toNat : Int) then _ else _) = _
  rw [show (i.toNat : Int) = i by omega, hg]
  exact if_pos rfl
theorem wrF_f (f σ : Int → Int) (rn : Int) (b : Bool) {i : Int} (h : 0 ≤ i) (hg : wflg σ rn b i = false) : wrF f σ rn b (i + 1).toNat = up (wrF f σ rn b i.toNat) (wrL σ rn b i.toNat) (wchr (cellS σ (wcol σ b i) rn)) := by
  rw [show (i + 1).toNat = i.toNat + 1 by omega]
  show (if wflg σ rn b (i.toNat : Int) then _ else _) = _
  rw [show (i.toNat : Int) = i by omega, hg]
  exact if_neg (by decide)
/-! ===== a caption written ===== -/
def sgS (x : Int) : Int := if x = -1 then 45 else if x = 0 then 63 else 96 + x
def wcF (f σ : Int → Int) (k : Int) : Nat → Int → Int
  | 0 => f
  | n + 1 => up (wcF f σ k n) n (sgS (rdN σ k n false))
theorem wcF_s (f σ : Int → Int) (k : Int) {i : Int} (h : 0 ≤ i) : wcF f σ k (i + 1).toNat = up (wcF f σ k i.toNat) i (sgS (rdN σ k i false)) := by
  rw [show (i + 1).toNat = i.toNat + 1 by omega]
  show up _ (i.toNat : Int) (sgS (rdN σ k (i.toNat : Int) false)) = _
  rw [show (i.toNat : Int) = i by omega]
set_option maxHeartbeats 4000000 in
set_option maxRecDepth 100000 in
theorem c_X8_appendFour (l : Launch) (X : Cx) (w : Wo) (y : Nat) (su : Int) (N : Int) (fb : Int → Int) (sg : Int) (hY : clO X w y su) (hB : w (y + 307) = some (.inr (0, [.ref (y + 308), .int (iI N)]))) (hT : w (y + 308) = some (aZ X 400 fb)) (hN : 0 ≤ N ∧ N ≤ 396) : CM l X yX8_appendFour cX8_appendFour 3 none (rmk 2 43) [.ref y, .int (iI sg)] w none (fun w' => w' (y + 307) = some (.inr (0, [.ref (y + 308), .int (iI (N + 4))])) ∧ w' (y + 308) = some (aZ X 400 (ap4 fb N sg)) ∧ ∀ q : Nat, q ≠ y + 307 → q ≠ y + 308 → w' q = w q) := by
  refine CM.of (lv := [(0, .ref y), (1, .int (iI sg))]) (by decide) (Nat.le_of_ble_eq_true rfl) rfl (fun p e s m below meth c ls F hr hlk hin hW hS hl => ?_)
  have hZ0 := hW.2.2
  have hB9 := hW.1.2
  clear hin
  unfold clO at hY
  refine h_bipush F dX8_appendFour_0 rfl ?_
  refine lv_istore_n (lv' := [(2, .int (iI 24)), (0, .ref y), (1, .int (iI sg))]) F.1 F.2.1 dX8_appendFour_2 rfl hl (by decide) rfl (fun ls hl => ?_)
  have loop3 : ∀ (n9 : Nat) (i : Int), (hrg : 0 ≤ i ∧ i ≤ 4) → (hms : 4 - i < (n9 : Int)) → (wz9 : Wo) → (hO3_0 : wz9 (y + 307) = some (.inr (0, [.ref (y + 308), .int (iI (N + i))]))) → (hA3_0 : wz9 (y + 308) = some (aZ X 400 (apN fb N sg i.toNat))) → (hF3 : ∀ q : Nat, q ≠ y + 307 → q ≠ y + 308 → wz9 q = w q) → (H : Heap) → (locs : List Loc) → (ls : Array Slot) → Wd X wz9 s H → va_S (cxA X) s.heap H locs → lv_has ls 3 [(2, .int (iI (24 - 8 * i))), (0, .ref y), (1, .int (iI sg))] → W p l e (rmk 2 43) s m (List.toArray [.ref y, .int (iI sg)]) below meth c H locs 0 0 (MX X below (List.toArray [.ref y, .int (iI sg)]) s 0 0 none (fun w' => w' (y + 307) = some (.inr (0, [.ref (y + 308), .int (iI (N + 4))])) ∧ w' (y + 308) = some (aZ X 400 (ap4 fb N sg)) ∧ ∀ q : Nat, q ≠ y + 307 → q ≠ y + 308 → w' q = w q)) (F0 m 3 ls []) := by
    intro n9
    induction n9 with
    | zero => intro i  hrg hms; exfalso; omega
    | succ n9 ih3 =>
      intro i  hrg hms wz9 hO3_0 hA3_0 hF3  H locs ls hW hS hl
      have hY := (hF3 _ (by omega) (by omega)).trans hY
      refine lv_iload_n F.1 F.2.1 dX8_appendFour_3 rfl (lv_at hl 0 rfl) ?_
      refine h_iflt (tgt := 27) F dX8_appendFour_4 (by decide) (by omega) (fun c1 => ?_) (fun c1 => ?_)
      · exact h_vret F hr hlk hW hS ⟨(by (rw [hO3_0]) <;> (rw [show i = 4 by omega])), (by (rw [hA3_0]) <;> (rw [show i = 4 by omega]; rfl)), (fun q h09 h19 => by rw [hF3 q (by omega) (by omega)])⟩ dX8_appendFour_27
      · refine lv_aload_n F.1 F.2.1 dX8_appendFour_7 rfl (lv_at hl 1 rfl) ?_
        refine gf_RX8_49 F hW hY rfl dX8_appendFour_8 ?_
        refine lv_iload_n F.1 F.2.1 dX8_appendFour_11 rfl (lv_at hl 2 rfl) ?_
        refine lv_iload_n F.1 F.2.1 dX8_appendFour_12 rfl (lv_at hl 0 rfl) ?_
        refine h_iushr (z := iI (uhI sg (24 - 8 * i))) F dX8_appendFour_13 (iI_of _) ?_
        refine h_sipush F dX8_appendFour_14 rfl ?_
        refine h_iand (z := iI (byI sg (24 - 8 * i))) F dX8_appendFour_17 (iI_of _) ?_
        refine cl_RX8_406 (As := [.int (iI (byI sg (24 - 8 * i)))]) (rest := []) F hl (c_X0_addByte l X wz9 (y + 307) (y + 308) (N + i) (apN fb N sg i.toNat) (byI sg (24 - 8 * i)) hO3_0 hA3_0 (by omega) (by omega)) hW hS hO3_0 rfl rfl ⟨Nat.le_of_ble_eq_true rfl, Nat.le_of_ble_eq_true rfl⟩ (Nat.le_of_ble_eq_true rfl) ⟨Nat.zero_le _, Nat.zero_le _⟩ dX8_appendFour_18 (fun w2 H locs hp3 hW hS => ?_)
        obtain ⟨ho4, ha5, hn6⟩ := hp3
        have hY := (hn6 _ (by omega) (by omega)).trans hY
        refine h_iinc (k := 0) (a := 24 - 8 * i) (lv' := [(2, .int (iI ((24 - 8 * i) + (-8)))), (0, .ref y), (1, .int (iI sg))]) F dX8_appendFour_21 hl rfl (by decide) rfl (fun ls hl => ?_)
        refine h_goto (tgt := 3) F dX8_appendFour_24 (by decide) ?_
        have eq7 : (24 - 8 * (i + 1) : Int) = (24 - 8 * i) + (-8) := by first | rfl | omega | simp
        exact ih3 (i + 1)  (by omega) (by omega) w2 (by rw [← Int.add_assoc]; exact ho4) (by rw [show (apN fb N sg (i + 1).toNat : Int → Int) = up (apN fb N sg i.toNat) (N + i) (byI sg (24 - 8 * i)) from apN_s _ _ _ (by omega)]; exact ha5) (fun q h09 h19 => by rw [hn6 q (by omega) (by omega), hF3 q (by omega) (by omega)])  _ _ ls hW hS (by rw [eq7]; exact lv_sub hl [0, 1, 2] rfl)
  have eq8 : (24 - 8 * 0 : Int) = 24 := rfl
  exact loop3 ((4 - 0) + 1 : Int).toNat 0  (by omega) (by omega) w (by rw [Int.add_zero]; exact hB) (by rw [show (apN fb N sg (0 : Int).toNat : Int → Int) = fb from rfl]; exact hT) (fun q _ _ => rfl)  _ _ ls hW hS (by rw [eq8]; exact lv_sub hl [0, 1, 2] rfl)
set_option maxHeartbeats 4000000 in
set_option maxRecDepth 100000 in
theorem c_X8_append (l : Launch) (X : Cx) (w : Wo) (y : Nat) (su : Int) (N : Int) (fb : Int → Int) (p1 p2 p3 p4 p5 : Int) (hY : clO X w y su) (hB : w (y + 307) = some (.inr (0, [.ref (y + 308), .int (iI N)]))) (hT : w (y + 308) = some (aZ X 400 fb)) (hN : 0 ≤ N ∧ N ≤ 380) : CM l X yX8_append cX8_append 6 (some (.int)) (rmk 3 65) [.ref y, .int (iI p1), .int (iI p2), .int (iI p3), .int (iI p4), .int (iI p5)] w (some (.int (iI (N + 20)))) (fun w' => w' (y + 307) = some (.inr (0, [.ref (y + 308), .int (iI (N + 20))])) ∧ w' (y + 308) = some (aZ X 400 (ap20 fb N p1 p2 p3 p4 p5)) ∧ ∀ q : Nat, q ≠ y + 307 → q ≠ y + 308 → w' q = w q) := by
  refine CM.of (lv := [(0, .ref y), (1, .int (iI p1)), (2, .int (iI p2)), (3, .int (iI p3)), (4, .int (iI p4)), (5, .int (iI p5))]) (by decide) (Nat.le_of_ble_eq_true rfl) rfl (fun p e s m below meth c ls F hr hlk hin hW hS hl => ?_)
  have hZ0 := hW.2.2
  have hB9 := hW.1.2
  clear hin
  unfold clO at hY
  refine lv_aload_n F.1 F.2.1 dX8_append_0 rfl (lv_at hl 0 rfl) ?_
  refine gf_RX8_49 F hW hY rfl dX8_append_1 ?_
  refine cl_RX8_81 (As := []) (rest := []) F hl (c_X0_size l X w (y + 307) (y + 308) N fb hB hT) hW hS hB rfl rfl ⟨Nat.le_of_ble_eq_true rfl, Nat.le_of_ble_eq_true rfl⟩ (Nat.le_of_ble_eq_true rfl) ⟨Nat.zero_le _, Nat.zero_le _⟩ dX8_append_4 (fun w1 H locs hp1 hW hS => ?_)
  rw [hp1] at hW; clear hp1; clear w1
  refine h_sipush F dX8_append_7 rfl ?_
  refine h_icle (tgt := 23) F dX8_append_10 (by decide) (by omega) (fun c2 => ?_) (fun c2 => ?_)
  · refine lv_aload_n F.1 F.2.1 dX8_append_23 rfl (lv_at hl 0 rfl) ?_
    refine lv_iload_n F.1 F.2.1 dX8_append_24 rfl (lv_at hl 1 rfl) ?_
    refine cl_RX8_92 (As := [.int (iI p1)]) (rest := []) F hl (c_X8_appendFour l X w y su N fb p1 hY hB hT (by omega)) hW hS hY rfl rfl ⟨Nat.le_of_ble_eq_true rfl, Nat.le_of_ble_eq_true rfl⟩ (Nat.le_of_ble_eq_true rfl) ⟨Nat.zero_le _, Nat.zero_le _⟩ dX8_append_25 (fun w3 H locs hp4 hW hS => ?_)
    obtain ⟨ho5, ha6, hn7⟩ := hp4
    have hY := (hn7 _ (by omega) (by omega)).trans hY
    refine lv_aload_n F.1 F.2.1 dX8_append_28 rfl (lv_at hl 0 rfl) ?_
    refine lv_iload_n F.1 F.2.1 dX8_append_29 rfl (lv_at hl 2 rfl) ?_
    refine cl_RX8_92 (As := [.int (iI p2)]) (rest := []) F hl (c_X8_appendFour l X w3 y su (N + 4) (ap4 fb N p1) p2 hY ho5 ha6 (by omega)) hW hS hY rfl rfl ⟨Nat.le_of_ble_eq_true rfl, Nat.le_of_ble_eq_true rfl⟩ (Nat.le_of_ble_eq_true rfl) ⟨Nat.zero_le _, Nat.zero_le _⟩ dX8_append_30 (fun w8 H locs hp9 hW hS => ?_)
    obtain ⟨ho10, ha11, hn12⟩ := hp9
    have hY := (hn12 _ (by omega) (by omega)).trans hY
    refine lv_aload_n F.1 F.2.1 dX8_append_33 rfl (lv_at hl 0 rfl) ?_
    refine lv_iload_n F.1 F.2.1 dX8_append_34 rfl (lv_at hl 3 rfl) ?_
    refine cl_RX8_92 (As := [.int (iI p3)]) (rest := []) F hl (c_X8_appendFour l X w8 y su ((N + 4) + 4) (ap4 (ap4 fb N p1) (N + 4) p2) p3 hY ho10 ha11 (by omega)) hW hS hY rfl rfl ⟨Nat.le_of_ble_eq_true rfl, Nat.le_of_ble_eq_true rfl⟩ (Nat.le_of_ble_eq_true rfl) ⟨Nat.zero_le _, Nat.zero_le _⟩ dX8_append_35 (fun w13 H locs hp14 hW hS => ?_)
    obtain ⟨ho15, ha16, hn17⟩ := hp14
    have hY := (hn17 _ (by omega) (by omega)).trans hY
    refine lv_aload_n F.1 F.2.1 dX8_append_38 rfl (lv_at hl 0 rfl) ?_
    refine lv_iload F.1 F.2.1 dX8_append_39 (lv_at hl 4 rfl) ?_
    refine cl_RX8_92 (As := [.int (iI p4)]) (rest := []) F hl (c_X8_appendFour l X w13 y su (((N + 4) + 4) + 4) (ap4 (ap4 (ap4 fb N p1) (N + 4) p2) ((N + 4) + 4) p3) p4 hY ho15 ha16 (by omega)) hW hS hY rfl rfl ⟨Nat.le_of_ble_eq_true rfl, Nat.le_of_ble_eq_true rfl⟩ (Nat.le_of_ble_eq_true rfl) ⟨Nat.zero_le _, Nat.zero_le _⟩ dX8_append_41 (fun w18 H locs hp19 hW hS => ?_)
    obtain ⟨ho20, ha21, hn22⟩ := hp19
    have hY := (hn22 _ (by omega) (by omega)).trans hY
    refine lv_aload_n F.1 F.2.1 dX8_append_44 rfl (lv_at hl 0 rfl) ?_
    refine lv_iload F.1 F.2.1 dX8_append_45 (lv_at hl 5 rfl) ?_
    refine cl_RX8_92 (As := [.int (iI p5)]) (rest := []) F hl (c_X8_appendFour l X w18 y su ((((N + 4) + 4) + 4) + 4) (ap4 (ap4 (ap4 (ap4 fb N p1) (N + 4) p2) ((N + 4) + 4) p3) (((N + 4) + 4) + 4) p4) p5 hY ho20 ha21 (by omega)) hW hS hY rfl rfl ⟨Nat.le_of_ble_eq_true rfl, Nat.le_of_ble_eq_true rfl⟩ (Nat.le_of_ble_eq_true rfl) ⟨Nat.zero_le _, Nat.zero_le _⟩ dX8_append_47 (fun w23 H locs hp24 hW hS => ?_)
    obtain ⟨ho25, ha26, hn27⟩ := hp24
    have hY := (hn27 _ (by omega) (by omega)).trans hY
    refine lv_aload_n F.1 F.2.1 dX8_append_50 rfl (lv_at hl 0 rfl) ?_
    refine gf_RX8_49 F hW hY rfl dX8_append_51 ?_
    refine cl_RX8_81 (As := []) (rest := []) F hl (c_X0_size l X w23 (y + 307) (y + 308) (((((N + 4) + 4) + 4) + 4) + 4) (ap4 (ap4 (ap4 (ap4 (ap4 fb N p1) (N + 4) p2) ((N + 4) + 4) p3) (((N + 4) + 4) + 4) p4) ((((N + 4) + 4) + 4) + 4) p5) ho25 ha26) hW hS ho25 rfl rfl ⟨Nat.le_of_ble_eq_true rfl, Nat.le_of_ble_eq_true rfl⟩ (Nat.le_of_ble_eq_true rfl) ⟨Nat.zero_le _, Nat.zero_le _⟩ dX8_append_54 (fun w1 H locs hp28 hW hS => ?_)
    rw [hp28] at hW; clear hp28; clear w1
    refine h_top (show ((((((N + 4) + 4) + 4) + 4) + 4) : Int) = N + 20 from by first | rfl | omega | (simp_all; done)) ?_
    exact h_ireti F hr hlk hW hS ⟨(by (rw [ho25]) <;> (rw [show N + 4 + 4 + 4 + 4 + 4 = N + 20 by omega])), (by (rw [ha26]) <;> (rfl)), (fun q h09 h19 => by rw [hn27 q (by omega) (by omega), hn22 q (by omega) (by omega), hn17 q (by omega) (by omega), hn12 q (by omega) (by omega), hn7 q (by omega) (by omega)])⟩ dX8_append_57
  · exfalso; omega
set_option maxHeartbeats 4000000 in
set_option maxRecDepth 100000 in
theorem c_X8_truncate (l : Launch) (X : Cx) (w : Wo) (y : Nat) (su : Int) (N : Int) (fb : Int → Int) (k : Int) (hY : clO X w y su) (hB : w (y + 307) = some (.inr (0, [.ref (y + 308), .int (iI N)]))) (hT : w (y + 308) = some (aZ X 400 fb)) (hN : 0 ≤ N ∧ N ≤ 400) (hk : 0 ≤ k ∧ k ≤ N) : CM l X yX8_truncate cX8_truncate 2 (some (.int)) (rmk 1 21) [.ref y, .int (iI k)] w (some (.int (iI k))) (fun w' => w' (y + 307) = some (.inr (0, [.ref (y + 308), .int (iI k)])) ∧ ∀ q : Nat, q ≠ y + 307 → w' q = w q) := by
  refine CM.of (lv := [(0, .ref y), (1, .int (iI k))]) (by decide) (Nat.le_of_ble_eq_true rfl) rfl (fun p e s m below meth c ls F hr hlk hin hW hS hl => ?_)
  have hZ0 := hW.2.2
  have hB9 := hW.1.2
  clear hin
  unfold clO at hY
  refine lv_iload_n F.1 F.2.1 dX8_truncate_0 rfl (lv_at hl 1 rfl) ?_
  refine h_iflt (tgt := 15) F dX8_truncate_1 (by decide) (by omega) (fun c1 => ?_) (fun c1 => ?_)
  · exfalso; omega
  · refine lv_iload_n F.1 F.2.1 dX8_truncate_4 rfl (lv_at hl 1 rfl) ?_
    refine lv_aload_n F.1 F.2.1 dX8_truncate_5 rfl (lv_at hl 0 rfl) ?_
    refine gf_RX8_49 F hW hY rfl dX8_truncate_6 ?_
    refine cl_RX8_81 (As := []) (rest := [.int (iI k)]) F hl (c_X0_size l X w (y + 307) (y + 308) N fb hB hT) hW hS hB rfl rfl ⟨Nat.le_of_ble_eq_true rfl, Nat.le_of_ble_eq_true rfl⟩ (Nat.le_of_ble_eq_true rfl) ⟨Nat.zero_le _, Nat.zero_le _⟩ dX8_truncate_9 (fun w1 H locs hp2 hW hS => ?_)
    rw [hp2] at hW; clear hp2; clear w1
    refine h_icle (tgt := 25) F dX8_truncate_12 (by decide) (by omega) (fun c3 => ?_) (fun c3 => ?_)
    · refine lv_aload_n F.1 F.2.1 dX8_truncate_25 rfl (lv_at hl 0 rfl) ?_
      refine gf_RX8_49 F hW hY rfl dX8_truncate_26 ?_
      refine lv_iload_n F.1 F.2.1 dX8_truncate_29 rfl (lv_at hl 1 rfl) ?_
      refine cl_RX8_101 (As := [.int (iI k)]) (rest := []) F hl (c_X0_cutTo l X w (y + 307) (y + 308) N fb k hB hT (by omega)) hW hS hB rfl rfl ⟨Nat.le_of_ble_eq_true rfl, Nat.le_of_ble_eq_true rfl⟩ (Nat.le_of_ble_eq_true rfl) ⟨Nat.zero_le _, Nat.zero_le _⟩ dX8_truncate_30 (fun w4 H locs hp5 hW hS => ?_)
      obtain ⟨ho6, hn7⟩ := hp5
      have hY := (hn7 _ (by omega)).trans hY
      have hT := (hn7 _ (by omega)).trans hT
      refine lv_iload_n F.1 F.2.1 dX8_truncate_33 rfl (lv_at hl 1 rfl) ?_
      exact h_ireti F hr hlk hW hS ⟨ho6, (fun q h09 => by rw [hn7 q (by omega)])⟩ dX8_truncate_34
    · exfalso; omega
