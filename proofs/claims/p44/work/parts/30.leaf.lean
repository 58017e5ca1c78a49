/-- the byte of a text of n bytes; -1 where there is none -/
def byS (f : Int → Int) (n i : Int) : Int := if 0 ≤ i ∧ i < n ∧ i < 400 then f i else -1
set_option maxHeartbeats 4000000 in
set_option maxRecDepth 100000 in
theorem c_X3_isCell (l : Launch) (X : Cx) (w : Wo) (cn rn : Int) (hcn : -2147483648 ≤ cn ∧ cn < 2147483648) (hrn : -2147483648 ≤ rn ∧ rn < 2147483648) : CM l X yX3_isCell cX3_isCell 2 (some (.boolean)) (rmk 0 0) [.int (iI cn), .int (iI rn)] w (some (.int (iI (bz (decide (0 ≤ cn ∧ cn < 40 ∧ 0 ≤ rn ∧ rn < 30)))))) (fun w' => w' = w) := by
  refine CM.of (lv := [(0, .int (iI cn)), (1, .int (iI rn))]) (by decide) (Nat.le_of_ble_eq_true rfl) rfl (fun p e s m below meth c ls F hr hlk hin hW hS hl => ?_)
  have hZ0 := hW.2.2
  have hB9 := hW.1.2
  clear hin
  refine lv_iload_n F.1 F.2.1 dX3_isCell_0 rfl (lv_at hl 0 rfl) ?_
  refine h_iflt (tgt := 24) F dX3_isCell_1 (by decide) (by omega) (fun c1 => ?_) (fun c1 => ?_)
  · refine h_iconst F dX3_isCell_24 ?_
    refine h_top (show (0 : Int) = bz (decide (0 ≤ cn ∧ cn < 40 ∧ 0 ≤ rn ∧ rn < 30)) from bzf (by first | exact decide_eq_false (by omega) | (simp only [Bool.and_eq_false_iff, Bool.or_eq_false_iff, decide_eq_false_iff_not]; omega) | simp_all)) ?_
    exact h_iretz F hr hlk hW hS rfl dX3_isCell_25
  · refine lv_iload_n F.1 F.2.1 dX3_isCell_4 rfl (lv_at hl 0 rfl) ?_
    refine h_bipush F dX3_isCell_5 rfl ?_
    refine h_icge (tgt := 24) F dX3_isCell_7 (by decide) (by omega) (fun c2 => ?_) (fun c2 => ?_)
    · refine h_iconst F dX3_isCell_24 ?_
      refine h_top (show (0 : Int) = bz (decide (0 ≤ cn ∧ cn < 40 ∧ 0 ≤ rn ∧ rn < 30)) from bzf (by first | exact decide_eq_false (by omega) | (simp only [Bool.and_eq_false_iff, Bool.or_eq_false_iff, decide_eq_false_iff_not]; omega) | simp_all)) ?_
      exact h_iretz F hr hlk hW hS rfl dX3_isCell_25
    · refine lv_iload_n F.1 F.2.1 dX3_isCell_10 rfl (lv_at hl 1 rfl) ?_
      refine h_iflt (tgt := 24) F dX3_isCell_11 (by decide) (by omega) (fun c3 => ?_) (fun c3 => ?_)
      · refine h_iconst F dX3_isCell_24 ?_
        refine h_top (show (0 : Int) = bz (decide (0 ≤ cn ∧ cn < 40 ∧ 0 ≤ rn ∧ rn < 30)) from bzf (by first | exact decide_eq_false (by omega) | (simp only [Bool.and_eq_false_iff, Bool.or_eq_false_iff, decide_eq_false_iff_not]; omega) | simp_all)) ?_
        exact h_iretz F hr hlk hW hS rfl dX3_isCell_25
      · refine lv_iload_n F.1 F.2.1 dX3_isCell_14 rfl (lv_at hl 1 rfl) ?_
        refine h_bipush F dX3_isCell_15 rfl ?_
        refine h_icge (tgt := 24) F dX3_isCell_17 (by decide) (by omega) (fun c4 => ?_) (fun c4 => ?_)
        · refine h_iconst F dX3_isCell_24 ?_
          refine h_top (show (0 : Int) = bz (decide (0 ≤ cn ∧ cn < 40 ∧ 0 ≤ rn ∧ rn < 30)) from bzf (by first | exact decide_eq_false (by omega) | (simp only [Bool.and_eq_false_iff, Bool.or_eq_false_iff, decide_eq_false_iff_not]; omega) | simp_all)) ?_
          exact h_iretz F hr hlk hW hS rfl dX3_isCell_25
        · refine h_iconst F dX3_isCell_20 ?_
          refine h_goto (tgt := 25) F dX3_isCell_21 (by decide) ?_
          refine h_top (show (1 : Int) = bz (decide (0 ≤ cn ∧ cn < 40 ∧ 0 ≤ rn ∧ rn < 30)) from bzt (by first | exact decide_eq_true (by omega) | (simp only [Bool.and_eq_true, Bool.or_eq_true, decide_eq_true_eq]; omega) | simp_all)) ?_
          exact h_iretz F hr hlk hW hS rfl dX3_isCell_25
set_option maxHeartbeats 4000000 in
set_option maxRecDepth 100000 in
theorem c_X3_shiftOf (l : Launch) (X : Cx) (w : Wo) (cn : Int) (hcn : 0 ≤ cn ∧ cn < 40) : CM l X yX3_shiftOf cX3_shiftOf 1 (some (.int)) (rmk 0 0) [.int (iI cn)] w (some (.int (iI (3 * (cn % 20))))) (fun w' => w' = w) := by
  refine CM.of (lv := [(0, .int (iI cn))]) (by decide) (Nat.le_of_ble_eq_true rfl) rfl (fun p e s m below meth c ls F hr hlk hin hW hS hl => ?_)
  have hZ0 := hW.2.2
  have hB9 := hW.1.2
  clear hin
  refine h_iconst F dX3_shiftOf_0 ?_
  refine lv_iload_n F.1 F.2.1 dX3_shiftOf_1 rfl (lv_at hl 0 rfl) ?_
  refine h_bipush F dX3_shiftOf_2 rfl ?_
  refine h_irem F dX3_shiftOf_4 (by omega) ?_
  refine h_imul (a := 3) (b := cn % 20) F dX3_shiftOf_5 ?_
  exact h_ireti F hr hlk hW hS rfl dX3_shiftOf_6
set_option maxHeartbeats 4000000 in
set_option maxRecDepth 100000 in
theorem c_X8_at (l : Launch) (X : Cx) (w : Wo) (a : Nat) (n : Nat) (f : Int → Int) (i : Int) (hA : w a = some (aZ X n f)) (hn : (n : Int) < 2147483648) (hi : 0 ≤ i ∧ i < (n : Int)) : CM l X yX8_at cX8_at 2 (some (.int)) (rmk 0 0) [.ref a, .int (iI i)] w (some (.int (iI (f i)))) (fun w' => w' = w) := by
  refine CM.of (lv := [(0, .ref a), (1, .int (iI i))]) (by decide) (Nat.le_of_ble_eq_true rfl) rfl (fun p e s m below meth c ls F hr hlk hin hW hS hl => ?_)
  have hZ0 := hW.2.2
  have hB9 := hW.1.2
  clear hin
  refine lv_iload_n F.1 F.2.1 dX8_at_0 rfl (lv_at hl 1 rfl) ?_
  refine h_iflt (tgt := 16) F dX8_at_1 (by decide) (by omega) (fun c1 => ?_) (fun c1 => ?_)
  · exfalso; omega
  · refine lv_iload_n F.1 F.2.1 dX8_at_4 rfl (lv_at hl 1 rfl) ?_
    refine lv_aload_n F.1 F.2.1 dX8_at_5 rfl (lv_at hl 0 rfl) ?_
    refine h_alen (k := 0) (n := n) F hW rfl hA dX8_at_6 ?_
    refine h_icge (tgt := 16) F dX8_at_7 (by decide) (by omega) (fun c2 => ?_) (fun c2 => ?_)
    · exfalso; omega
    · refine lv_aload_n F.1 F.2.1 dX8_at_10 rfl (lv_at hl 0 rfl) ?_
      refine lv_iload_n F.1 F.2.1 dX8_at_11 rfl (lv_at hl 1 rfl) ?_
      refine h_iald F hW hA (by omega) (by omega) dX8_at_12 ?_
      refine h_goto (tgt := 17) F dX8_at_13 (by decide) ?_
      exact h_ireti F hr hlk hW hS rfl dX8_at_17
set_option maxHeartbeats 4000000 in
set_option maxRecDepth 100000 in
theorem c_X8_at_out (l : Launch) (X : Cx) (w : Wo) (a : Nat) (n : Nat) (f : Int → Int) (i : Int) (hA : w a = some (aZ X n f)) (hn : (n : Int) < 2147483648) (hi : -2147483648 ≤ i ∧ i < 2147483648) (ho : ¬ (0 ≤ i ∧ i < (n : Int))) : CM l X yX8_at cX8_at 2 (some (.int)) (rmk 0 0) [.ref a, .int (iI i)] w (some (.int (iI 0))) (fun w' => w' = w) := by
  refine CM.of (lv := [(0, .ref a), (1, .int (iI i))]) (by decide) (Nat.le_of_ble_eq_true rfl) rfl (fun p e s m below meth c ls F hr hlk hin hW hS hl => ?_)
  have hZ0 := hW.2.2
  have hB9 := hW.1.2
  clear hin
  refine lv_iload_n F.1 F.2.1 dX8_at_0 rfl (lv_at hl 1 rfl) ?_
  refine h_iflt (tgt := 16) F dX8_at_1 (by decide) (by omega) (fun c1 => ?_) (fun c1 => ?_)
  · refine h_iconst F dX8_at_16 ?_
    exact h_ireti F hr hlk hW hS rfl dX8_at_17
  · refine lv_iload_n F.1 F.2.1 dX8_at_4 rfl (lv_at hl 1 rfl) ?_
    refine lv_aload_n F.1 F.2.1 dX8_at_5 rfl (lv_at hl 0 rfl) ?_
    refine h_alen (k := 0) (n := n) F hW rfl hA dX8_at_6 ?_
    refine h_icge (tgt := 16) F dX8_at_7 (by decide) (by omega) (fun c2 => ?_) (fun c2 => ?_)
    · refine h_iconst F dX8_at_16 ?_
      exact h_ireti F hr hlk hW hS rfl dX8_at_17
    · exfalso; omega
set_option maxHeartbeats 4000000 in
set_option maxRecDepth 100000 in
theorem c_X8_put (l : Launch) (X : Cx) (w : Wo) (a : Nat) (n : Nat) (f : Int → Int) (i x : Int) (hA : w a = some (aZ X n f)) (hn : (n : Int) < 2147483648) (hi : 0 ≤ i ∧ i < (n : Int)) : CM l X yX8_put cX8_put 3 none (rmk 0 0) [.ref a, .int (iI i), .int (iI x)] w none (fun w' => w' a = some (aZ X n (up f i x)) ∧ ∀ q : Nat, q ≠ a → w' q = w q) := by
  refine CM.of (lv := [(0, .ref a), (1, .int (iI i)), (2, .int (iI x))]) (by decide) (Nat.le_of_ble_eq_true rfl) rfl (fun p e s m below meth c ls F hr hlk hin hW hS hl => ?_)
  have hZ0 := hW.2.2
  have hB9 := hW.1.2
  clear hin
  refine lv_iload_n F.1 F.2.1 dX8_put_0 rfl (lv_at hl 1 rfl) ?_
  refine h_iflt (tgt := 14) F dX8_put_1 (by decide) (by omega) (fun c1 => ?_) (fun c1 => ?_)
  · exfalso; omega
  · refine lv_iload_n F.1 F.2.1 dX8_put_4 rfl (lv_at hl 1 rfl) ?_
    refine lv_aload_n F.1 F.2.1 dX8_put_5 rfl (lv_at hl 0 rfl) ?_
    refine h_alen (k := 0) (n := n) F hW rfl hA dX8_put_6 ?_
    refine h_icge (tgt := 14) F dX8_put_7 (by decide) (by omega) (fun c2 => ?_) (fun c2 => ?_)
    · exfalso; omega
    · refine lv_aload_n F.1 F.2.1 dX8_put_10 rfl (lv_at hl 0 rfl) ?_
      refine lv_iload_n F.1 F.2.1 dX8_put_11 rfl (lv_at hl 1 rfl) ?_
      refine lv_iload_n F.1 F.2.1 dX8_put_12 rfl (lv_at hl 2 rfl) ?_
      refine h_iast F hW hS hA (by omega) (by omega) dX8_put_13 (fun w3 H locs ho5 hn4 hW hS => ?_)
      exact h_vret F hr hlk hW hS ⟨ho5, (fun q h09 => by rw [hn4 q (by omega)])⟩ dX8_put_14
set_option maxHeartbeats 4000000 in
set_option maxRecDepth 100000 in
theorem c_X8_put_out (l : Launch) (X : Cx) (w : Wo) (a : Nat) (n : Nat) (f : Int → Int) (i x : Int) (hA : w a = some (aZ X n f)) (hn : (n : Int) < 2147483648) (hi : -2147483648 ≤ i ∧ i < 2147483648) (ho : ¬ (0 ≤ i ∧ i < (n : Int))) : CM l X yX8_put cX8_put 3 none (rmk 0 0) [.ref a, .int (iI i), .int (iI x)] w none (fun w' => w' = w) := by
  refine CM.of (lv := [(0, .ref a), (1, .int (iI i)), (2, .int (iI x))]) (by decide) (Nat.le_of_ble_eq_true rfl) rfl (fun p e s m below meth c ls F hr hlk hin hW hS hl => ?_)
  have hZ0 := hW.2.2
  have hB9 := hW.1.2
  clear hin
  refine lv_iload_n F.1 F.2.1 dX8_put_0 rfl (lv_at hl 1 rfl) ?_
  refine h_iflt (tgt := 14) F dX8_put_1 (by decide) (by omega) (fun c1 => ?_) (fun c1 => ?_)
  · exact h_vret F hr hlk hW hS rfl dX8_put_14
  · refine lv_iload_n F.1 F.2.1 dX8_put_4 rfl (lv_at hl 1 rfl) ?_
    refine lv_aload_n F.1 F.2.1 dX8_put_5 rfl (lv_at hl 0 rfl) ?_
    refine h_alen (k := 0) (n := n) F hW rfl hA dX8_put_6 ?_
    refine h_icge (tgt := 14) F dX8_put_7 (by decide) (by omega) (fun c2 => ?_) (fun c2 => ?_)
    · exact h_vret F hr hlk hW hS rfl dX8_put_14
    · exfalso; omega
set_option maxHeartbeats 4000000 in
set_option maxRecDepth 100000 in
theorem c_X8_isLetter (l : Launch) (X : Cx) (w : Wo) (x : Int) (hx : -2147483648 ≤ x ∧ x < 2147483648) : CM l X yX8_isLetter cX8_isLetter 1 (some (.boolean)) (rmk 0 0) [.int (iI x)] w (some (.int (iI (bz (decide (97 ≤ x ∧ x ≤ 122)))))) (fun w' => w' = w) := by
  refine CM.of (lv := [(0, .int (iI x))]) (by decide) (Nat.le_of_ble_eq_true rfl) rfl (fun p e s m below meth c ls F hr hlk hin hW hS hl => ?_)
  have hZ0 := hW.2.2
  have hB9 := hW.1.2
  clear hin
  refine lv_iload_n F.1 F.2.1 dX8_isLetter_0 rfl (lv_at hl 0 rfl) ?_
  refine h_bipush F dX8_isLetter_1 rfl ?_
  refine h_iclt (tgt := 16) F dX8_isLetter_3 (by decide) (by omega) (fun c1 => ?_) (fun c1 => ?_)
  · refine h_iconst F dX8_isLetter_16 ?_
    refine h_top (show (0 : Int) = bz (decide (97 ≤ x ∧ x ≤ 122)) from bzf (by first | exact decide_eq_false (by omega) | (simp only [Bool.and_eq_false_iff, Bool.or_eq_false_iff, decide_eq_false_iff_not]; omega) | simp_all)) ?_
    exact h_iretz F hr hlk hW hS rfl dX8_isLetter_17
  · refine lv_iload_n F.1 F.2.1 dX8_isLetter_6 rfl (lv_at hl 0 rfl) ?_
    refine h_bipush F dX8_isLetter_7 rfl ?_
    refine h_icgt (tgt := 16) F dX8_isLetter_9 (by decide) (by omega) (fun c2 => ?_) (fun c2 => ?_)
    · refine h_iconst F dX8_isLetter_16 ?_
      refine h_top (show (0 : Int) = bz (decide (97 ≤ x ∧ x ≤ 122)) from bzf (by first | exact decide_eq_false (by omega) | (simp only [Bool.and_eq_false_iff, Bool.or_eq_false_iff, decide_eq_false_iff_not]; omega) | simp_all)) ?_
      exact h_iretz F hr hlk hW hS rfl dX8_isLetter_17
    · refine h_iconst F dX8_isLetter_12 ?_
      refine h_goto (tgt := 17) F dX8_isLetter_13 (by decide) ?_
      refine h_top (show (1 : Int) = bz (decide (97 ≤ x ∧ x ≤ 122)) from bzt (by first | exact decide_eq_true (by omega) | (simp only [Bool.and_eq_true, Bool.or_eq_true, decide_eq_true_eq]; omega) | simp_all)) ?_
      exact h_iretz F hr hlk hW hS rfl dX8_isLetter_17
set_option maxHeartbeats 4000000 in
set_option maxRecDepth 100000 in
theorem c_X8_isDigit (l : Launch) (X : Cx) (w : Wo) (x : Int) (hx : -2147483648 ≤ x ∧ x < 2147483648) : CM l X yX8_isDigit cX8_isDigit 1 (some (.boolean)) (rmk 0 0) [.int (iI x)] w (some (.int (iI (bz (decide (48 ≤ x ∧ x ≤ 57)))))) (fun w' => w' = w) := by
  refine CM.of (lv := [(0, .int (iI x))]) (by decide) (Nat.le_of_ble_eq_true rfl) rfl (fun p e s m below meth c ls F hr hlk hin hW hS hl => ?_)
  have hZ0 := hW.2.2
  have hB9 := hW.1.2
  clear hin
  refine lv_iload_n F.1 F.2.1 dX8_isDigit_0 rfl (lv_at hl 0 rfl) ?_
  refine h_bipush F dX8_isDigit_1 rfl ?_
  refine h_iclt (tgt := 16) F dX8_isDigit_3 (by decide) (by omega) (fun c1 => ?_) (fun c1 => ?_)
  · refine h_iconst F dX8_isDigit_16 ?_
    refine h_top (show (0 : Int) = bz (decide (48 ≤ x ∧ x ≤ 57)) from bzf (by first | exact decide_eq_false (by omega) | (simp only [Bool.and_eq_false_iff, Bool.or_eq_false_iff, decide_eq_false_iff_not]; omega) | simp_all)) ?_
    exact h_iretz F hr hlk hW hS rfl dX8_isDigit_17
  · refine lv_iload_n F.1 F.2.1 dX8_isDigit_6 rfl (lv_at hl 0 rfl) ?_
    refine h_bipush F dX8_isDigit_7 rfl ?_
    refine h_icgt (tgt := 16) F dX8_isDigit_9 (by decide) (by omega) (fun c2 => ?_) (fun c2 => ?_)
    · refine h_iconst F dX8_isDigit_16 ?_
      refine h_top (show (0 : Int) = bz (decide (48 ≤ x ∧ x ≤ 57)) from bzf (by first | exact decide_eq_false (by omega) | (simp only [Bool.and_eq_false_iff, Bool.or_eq_false_iff, decide_eq_false_iff_not]; omega) | simp_all)) ?_
      exact h_iretz F hr hlk hW hS rfl dX8_isDigit_17
    · refine h_iconst F dX8_isDigit_12 ?_
      refine h_goto (tgt := 17) F dX8_isDigit_13 (by decide) ?_
      refine h_top (show (1 : Int) = bz (decide (48 ≤ x ∧ x ≤ 57)) from bzt (by first | exact decide_eq_true (by omega) | (simp only [Bool.and_eq_true, Bool.or_eq_true, decide_eq_true_eq]; omega) | simp_all)) ?_
      exact h_iretz F hr hlk hW hS rfl dX8_isDigit_17
set_option maxHeartbeats 4000000 in
set_option maxRecDepth 100000 in
theorem c_X8_isSide (l : Launch) (X : Cx) (w : Wo) (x : Int) (hx : -2147483648 ≤ x ∧ x < 2147483648) : CM l X yX8_isSide cX8_isSide 1 (some (.boolean)) (rmk 0 0) [.int (iI x)] w (some (.int (iI (bz (decide (x = 0 ∨ x = 1)))))) (fun w' => w' = w) := by
  refine CM.of (lv := [(0, .int (iI x))]) (by decide) (Nat.le_of_ble_eq_true rfl) rfl (fun p e s m below meth c ls F hr hlk hin hW hS hl => ?_)
  have hZ0 := hW.2.2
  have hB9 := hW.1.2
  clear hin
  refine lv_iload_n F.1 F.2.1 dX8_isSide_0 rfl (lv_at hl 0 rfl) ?_
  refine h_ifeq (tgt := 9) F dX8_isSide_1 (by decide) (by omega) (fun c1 => ?_) (fun c1 => ?_)
  · refine h_iconst F dX8_isSide_9 ?_
    refine h_goto (tgt := 14) F dX8_isSide_10 (by decide) ?_
    refine h_top (show (1 : Int) = bz (decide (x = 0 ∨ x = 1)) from bzt (by first | exact decide_eq_true (by omega) | (simp only [Bool.and_eq_true, Bool.or_eq_true, decide_eq_true_eq]; omega) | simp_all)) ?_
    exact h_iretz F hr hlk hW hS rfl dX8_isSide_14
  · refine lv_iload_n F.1 F.2.1 dX8_isSide_4 rfl (lv_at hl 0 rfl) ?_
    refine h_iconst F dX8_isSide_5 ?_
    refine h_icne (tgt := 13) F dX8_isSide_6 (by decide) (by omega) (fun c2 => ?_) (fun c2 => ?_)
    · refine h_iconst F dX8_isSide_13 ?_
      refine h_top (show (0 : Int) = bz (decide (x = 0 ∨ x = 1)) from bzf (by first | exact decide_eq_false (by omega) | (simp only [Bool.and_eq_false_iff, Bool.or_eq_false_iff, decide_eq_false_iff_not]; omega) | simp_all)) ?_
      exact h_iretz F hr hlk hW hS rfl dX8_isSide_14
    · refine h_iconst F dX8_isSide_9 ?_
      refine h_goto (tgt := 14) F dX8_isSide_10 (by decide) ?_
      refine h_top (show (1 : Int) = bz (decide (x = 0 ∨ x = 1)) from bzt (by first | exact decide_eq_true (by omega) | (simp only [Bool.and_eq_true, Bool.or_eq_true, decide_eq_true_eq]; omega) | simp_all)) ?_
      exact h_iretz F hr hlk hW hS rfl dX8_isSide_14
set_option maxHeartbeats 4000000 in
set_option maxRecDepth 100000 in
theorem c_X0_size (l : Launch) (X : Cx) (w : Wo) (a b : Nat) (n : Int) (f : Int → Int) (hB : w a = some (.inr (0, [.ref b, .int (iI n)]))) (hT : w b = some (aZ X 400 f)) : CM l X yX0_size cX0_size 1 (some (.int)) (rmk 0 0) [.ref a] w (some (.int (iI n))) (fun w' => w' = w) := by
  refine CM.of (lv := [(0, .ref a)]) (by decide) (Nat.le_of_ble_eq_true rfl) rfl (fun p e s m below meth c ls F hr hlk hin hW hS hl => ?_)
  have hZ0 := hW.2.2
  have hB9 := hW.1.2
  clear hin
  refine lv_aload_n F.1 F.2.1 dX0_size_0 rfl (lv_at hl 0 rfl) ?_
  refine gf_RX0_15 F hW hB rfl dX0_size_1 ?_
  exact h_ireti F hr hlk hW hS rfl dX0_size_4
set_option maxHeartbeats 4000000 in
set_option maxRecDepth 100000 in
theorem c_X0_cutTo (l : Launch) (X : Cx) (w : Wo) (a b : Nat) (n : Int) (f : Int → Int) (k : Int) (hB : w a = some (.inr (0, [.ref b, .int (iI n)]))) (hT : w b = some (aZ X 400 f)) (hne : a ≠ b) : CM l X yX0_cutTo cX0_cutTo 2 none (rmk 0 0) [.ref a, .int (iI k)] w none (fun w' => w' a = some (.inr (0, [.ref b, .int (iI k)])) ∧ ∀ q : Nat, q ≠ a → w' q = w q) := by
  refine CM.of (lv := [(0, .ref a), (1, .int (iI k))]) (by decide) (Nat.le_of_ble_eq_true rfl) rfl (fun p e s m below meth c ls F hr hlk hin hW hS hl => ?_)
  have hZ0 := hW.2.2
  have hB9 := hW.1.2
  clear hin
  refine lv_aload_n F.1 F.2.1 dX0_cutTo_0 rfl (lv_at hl 0 rfl) ?_
  refine lv_iload_n F.1 F.2.1 dX0_cutTo_1 rfl (lv_at hl 1 rfl) ?_
  refine pf_RX0_15 F hW hS hB (Nat.le_of_ble_eq_true rfl) dX0_cutTo_2 (fun w1 H locs ho3 hn2 hW hS => ?_)
  have ho3 : w1 a = some (.inr (0, [.ref b, .int (iI k)])) := ho3
  have hT := (hn2 _ (by omega)).trans hT
  exact h_vret F hr hlk hW hS ⟨ho3, (fun q h09 => by rw [hn2 q (by omega)])⟩ dX0_cutTo_5
set_option maxHeartbeats 4000000 in
set_option maxRecDepth 100000 in
theorem c_X0_byteAt (l : Launch) (X : Cx) (w : Wo) (a b : Nat) (n : Int) (f : Int → Int) (i : Int) (hB : w a = some (.inr (0, [.ref b, .int (iI n)]))) (hT : w b = some (aZ X 400 f)) (hi : -2147483648 ≤ i ∧ i < 2147483648) (hn : -2147483648 ≤ n ∧ n < 2147483648) : CM l X yX0_byteAt cX0_byteAt 2 (some (.int)) (rmk 0 0) [.ref a, .int (iI i)] w (some (.int (iI (byS f n i)))) (fun w' => w' = w) := by
  refine CM.of (lv := [(0, .ref a), (1, .int (iI i))]) (by decide) (Nat.le_of_ble_eq_true rfl) rfl (fun p e s m below meth c ls F hr hlk hin hW hS hl => ?_)
  have hZ0 := hW.2.2
  have hB9 := hW.1.2
  clear hin
  refine lv_iload_n F.1 F.2.1 dX0_byteAt_0 rfl (lv_at hl 1 rfl) ?_
  refine h_iflt (tgt := 30) F dX0_byteAt_1 (by decide) (by omega) (fun c1 => ?_) (fun c1 => ?_)
  · refine h_iconst F dX0_byteAt_30 ?_
    refine h_top (show ((-1) : Int) = byS f n i from by unfold byS; first | rw [if_neg (by omega)] | rw [if_pos (by omega)]) ?_
    exact h_ireti F hr hlk hW hS rfl dX0_byteAt_31
  · refine lv_iload_n F.1 F.2.1 dX0_byteAt_4 rfl (lv_at hl 1 rfl) ?_
    refine lv_aload_n F.1 F.2.1 dX0_byteAt_5 rfl (lv_at hl 0 rfl) ?_
    refine gf_RX0_15 F hW hB rfl dX0_byteAt_6 ?_
    refine h_icge (tgt := 30) F dX0_byteAt_9 (by decide) (by omega) (fun c2 => ?_) (fun c2 => ?_)
    · refine h_iconst F dX0_byteAt_30 ?_
      refine h_top (show ((-1) : Int) = byS f n i from by unfold byS; first | rw [if_neg (by omega)] | rw [if_pos (by omega)]) ?_
      exact h_ireti F hr hlk hW hS rfl dX0_byteAt_31
    · refine lv_iload_n F.1 F.2.1 dX0_byteAt_12 rfl (lv_at hl 1 rfl) ?_
      refine lv_aload_n F.1 F.2.1 dX0_byteAt_13 rfl (lv_at hl 0 rfl) ?_
      refine gf_RX0_9 F hW hB rfl dX0_byteAt_14 ?_
      refine h_alen (k := 0) (n := 400) F hW rfl hT dX0_byteAt_17 ?_
      refine h_icge (tgt := 30) F dX0_byteAt_18 (by decide) (by omega) (fun c3 => ?_) (fun c3 => ?_)
      · refine h_iconst F dX0_byteAt_30 ?_
        refine h_top (show ((-1) : Int) = byS f n i from by unfold byS; first | rw [if_neg (by omega)] | rw [if_pos (by omega)]) ?_
        exact h_ireti F hr hlk hW hS rfl dX0_byteAt_31
      · refine lv_aload_n F.1 F.2.1 dX0_byteAt_21 rfl (lv_at hl 0 rfl) ?_
        refine gf_RX0_9 F hW hB rfl dX0_byteAt_22 ?_
        refine lv_iload_n F.1 F.2.1 dX0_byteAt_25 rfl (lv_at hl 1 rfl) ?_
        refine h_iald F hW hT (by omega) (by omega) dX0_byteAt_26 ?_
        refine h_goto (tgt := 31) F dX0_byteAt_27 (by decide) ?_
        refine h_top (show (f i : Int) = byS f n i from by unfold byS; first | rw [if_neg (by omega)] | rw [if_pos (by omega)]) ?_
        exact h_ireti F hr hlk hW hS rfl dX0_byteAt_31
set_option maxHeartbeats 4000000 in
set_option maxRecDepth 100000 in
theorem c_X0_addByte (l : Launch) (X : Cx) (w : Wo) (a b : Nat) (n : Int) (f : Int → Int) (x : Int) (hB : w a = some (.inr (0, [.ref b, .int (iI n)]))) (hT : w b = some (aZ X 400 f)) (hne : a ≠ b) (hn : 0 ≤ n ∧ n < 400) : CM l X yX0_addByte cX0_addByte 2 none (rmk 1 22) [.ref a, .int (iI x)] w none (fun w' => w' a = some (.inr (0, [.ref b, .int (iI (n + 1))])) ∧ w' b = some (aZ X 400 (up f n x)) ∧ ∀ q : Nat, q ≠ a → q ≠ b → w' q = w q) := by
  refine CM.of (lv := [(0, .ref a), (1, .int (iI x))]) (by decide) (Nat.le_of_ble_eq_true rfl) rfl (fun p e s m below meth c ls F hr hlk hin hW hS hl => ?_)
  have hZ0 := hW.2.2
  have hB9 := hW.1.2
  clear hin
  refine lv_aload_n F.1 F.2.1 dX0_addByte_0 rfl (lv_at hl 0 rfl) ?_
  refine gf_RX0_15 F hW hB rfl dX0_addByte_1 ?_
  refine lv_aload_n F.1 F.2.1 dX0_addByte_4 rfl (lv_at hl 0 rfl) ?_
  refine gf_RX0_9 F hW hB rfl dX0_addByte_5 ?_
  refine h_alen (k := 0) (n := 400) F hW rfl hT dX0_addByte_8 ?_
  refine h_icge (tgt := 34) F dX0_addByte_9 (by decide) (by omega) (fun c1 => ?_) (fun c1 => ?_)
  · exfalso; omega
  · refine lv_aload_n F.1 F.2.1 dX0_addByte_12 rfl (lv_at hl 0 rfl) ?_
    refine gf_RX0_9 F hW hB rfl dX0_addByte_13 ?_
    refine lv_aload_n F.1 F.2.1 dX0_addByte_16 rfl (lv_at hl 0 rfl) ?_
    refine gf_RX0_15 F hW hB rfl dX0_addByte_17 ?_
    refine lv_iload_n F.1 F.2.1 dX0_addByte_20 rfl (lv_at hl 1 rfl) ?_
    refine cl_RX0_19 (As := [.ref b, .int (iI n), .int (iI x)]) (rest := []) F hl (c_X8_put l X w b 400 f n x hT (by omega) (by omega)) hW hS rfl rfl ⟨Nat.le_of_ble_eq_true rfl, Nat.le_of_ble_eq_true rfl⟩ (Nat.le_of_ble_eq_true rfl) ⟨Nat.zero_le _, Nat.zero_le _⟩ dX0_addByte_21 (fun w2 H locs hp3 hW hS => ?_)
    obtain ⟨ha4, hn5⟩ := hp3
    have hB := (hn5 _ (by omega)).trans hB
    refine lv_aload_n F.1 F.2.1 dX0_addByte_24 rfl (lv_at hl 0 rfl) ?_
    refine lv_dup F.1 F.2.1 dX0_addByte_25 rfl ?_
    refine gf_RX0_15 F hW hB rfl dX0_addByte_26 ?_
    refine h_iconst F dX0_addByte_29 ?_
    refine h_iadd (a := n) (b := 1) F dX0_addByte_30 ?_
    refine pf_RX0_15 F hW hS hB (Nat.le_of_ble_eq_true rfl) dX0_addByte_31 (fun w6 H locs ho8 hn7 hW hS => ?_)
    have ho8 : w6 a = some (.inr (0, [.ref b, .int (iI (n + 1))])) := ho8
    have ha4 := (hn7 _ (by omega)).trans ha4
    exact h_vret F hr hlk hW hS ⟨ho8, ha4, (fun q h09 h19 => by rw [hn7 q (by omega), hn5 q (by omega)])⟩ dX0_addByte_34
