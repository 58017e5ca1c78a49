set_option maxHeartbeats 4000000 in
set_option maxRecDepth 100000 in
theorem c_L_slits (l : Launch) (X : Cx) (w : Wo) (y h : Nat) (N : Nat → Prop) (su : Int) (σ : Int → Int) (hO : ownN X w N h σ) (hNy : ∀ q, y ≤ q → q < y + 321 → N q) (hY : clO X w y su) (hL : loomAt X w (y + 1) σ) : CM l X yL_slits cL_slits 8 (some (.boolean)) (rmG 5 1 32 114) [.ref y, .ref h] w (some (.int (iI (bz true)))) (fun w' => w' = w) := by
  refine CM.of (lv := [(0, .ref y), (1, .ref h)]) (by decide) (Nat.le_of_ble_eq_true rfl) rfl (fun p e s m below meth c ls F hr hlk hin hW hS hl => ?_)
  have hZ0 := hW.2.2
  have hB9 := hW.1.2
  clear hin
  have hO0 := hO
  obtain ⟨st, lc, ec, kc, lr, er, kr, cd, rwa, hPw0, hern⟩ := hO.1.P
  have hh0 := (wr_some.mp hPw0.1).2
  have hWF := hPw0.2.2.2.2.2.2.2.2.2.1
  obtain ⟨wf0, wf1, wf2, wf3, wf4, wf5⟩ := hWF.1.1
  have hwb := hWF.2
  clear hern
  have hWF0 := hWF.1
  have hcs := hWF.1.2.2.2.1
  refine h_bipush F dL_slits_0 rfl ?_
  refine q_newP (N := 32) (k := 0) (atype := .int) (x := .inl (fun j : Nat => iI ((fun _ : Int => 0) (j : Int)))) F hW hS haCI rfl (hxI _) rfl (by omega) ⟨(by show 0 + 1 ≤ 1; omega), (by show 0 + 32 ≤ 32; omega)⟩ dL_slits_2 (fun mn w1 H hfr4 hcx5 ha3 hn2 hW hS => ?_)
  have ha3 : w1 mn = some (aZ X 32 (fun _ => 0)) := ha3
  have hb6 := hfr4 _ _ hh0
  have hh0 := (hn2 _ (by omega)).trans hh0
  refine lv_astore_n (lv' := [(2, .ref mn), (0, .ref y), (1, .ref h)]) F.1 F.2.1 dL_slits_4 rfl hl (by decide) rfl (fun ls hl => ?_)
  have hAk : ownA X w1 h σ := hO0.A.ex (show ext w w1 from fun q e h9 => by have z9_1 := hfr4 q e h9; have h9 := (hn2 q (by omega)).trans h9; exact h9)
  refine h_iconst F dL_slits_5 ?_
  refine lv_istore_n (lv' := [(3, .int (iI 0)), (2, .ref mn), (0, .ref y), (1, .ref h)]) F.1 F.2.1 dL_slits_6 rfl hl (by decide) rfl (fun ls hl => ?_)
  refine h_iconst F dL_slits_7 ?_
  refine lv_istore (lv' := [(4, .int (iI 0)), (3, .int (iI 0)), (2, .ref mn), (0, .ref y), (1, .ref h)]) F.1 F.2.1 dL_slits_8 hl (by decide) rfl (fun ls hl => ?_)
  refine h_iconst F dL_slits_10 ?_
  refine lv_istore (lv' := [(5, .int (iI 0)), (4, .int (iI 0)), (3, .int (iI 0)), (2, .ref mn), (0, .ref y), (1, .ref h)]) F.1 F.2.1 dL_slits_11 hl (by decide) rfl (fun ls hl => ?_)
  have loop13 : ∀ (n9 : Nat) (r0 : Int), (hrg : 0 ≤ r0 ∧ r0 ≤ σ 4) → (hms : σ 4 - r0 < (n9 : Int)) → (H : Heap) → (locs : List Loc) → (ls : Array Slot) → Wd X w1 s H → va_S (cxA X) s.heap H locs → lv_has ls 8 [(4, .int (iI (sm (jcS σ) 0 r0))), (5, .int (iI r0)), (3, .int (iI 0)), (2, .ref mn), (0, .ref y), (1, .ref h)] → W p l e (rmG 5 1 32 114) s m (List.toArray [.ref y, .ref h]) below meth c H locs (0 + 1) (0 + 32) (MX X below (List.toArray [.ref y, .ref h]) s 1 32 (some (.int (iI (bz true)))) (fun w' => w' = w)) (F0 m 13 ls []) := by
    intro n9
    induction n9 with
    | zero => intro r0  hrg hms; exfalso; omega
    | succ n9 ih13 =>
      intro r0  hrg hms   H locs ls hW hS hl
      refine lv_iload F.1 F.2.1 dL_slits_13 (lv_at hl 1 rfl) ?_
      refine lv_aload_n F.1 F.2.1 dL_slits_15 rfl (lv_at hl 5 rfl) ?_
      refine cl_RL_186 (As := []) (rest := [.int (iI r0)]) F hl (c_X10_rows l X w1 h σ hAk) hW hS hh0 rfl rfl ⟨Nat.le_of_ble_eq_true rfl, Nat.le_of_ble_eq_true rfl⟩ (Nat.le_of_ble_eq_true rfl) ⟨(by show 0 + 1 + 0 ≤ 1; omega), (by show 0 + 32 + 0 ≤ 32; omega)⟩ dL_slits_16 (fun w1 H locs hp7 hW hS => ?_)
      rw [hp7] at hW; clear hp7; clear w1
      refine h_icge (tgt := 39) F dL_slits_19 (by decide) (by omega) (fun c8 => ?_) (fun c8 => ?_)
      · refine h_iconst F dL_slits_39 ?_
        refine lv_istore (lv' := [(5, .int (iI 1)), (4, .int (iI (sm (jcS σ) 0 r0))), (3, .int (iI 0)), (2, .ref mn), (0, .ref y), (1, .ref h)]) F.1 F.2.1 dL_slits_40 hl (by decide) rfl (fun ls hl => ?_)
        have loop42 : ∀ (n9 : Nat) (k : Int) (fc : Int → Int), (hrg : 0 ≤ k ∧ k ≤ σ 0 - 1) → (hms : σ 0 - 1 - k < (n9 : Int)) → (w5 : Wo) → (hA42_0 : w5 mn = some (aZ X 32 fc)) → (hF42 : ∀ q : Nat, q ≠ mn → w5 q = w1 q) → (hfc : ∀ L : Int, 1 ≤ L → L ≤ 30 → fc L = hT σ L k) → (H : Heap) → (locs : List Loc) → (ls : Array Slot) → Wd X w5 s H → va_S (cxA X) s.heap H locs → lv_has ls 8 [(3, .int (iI (lT σ k))), (5, .int (iI (k + 1))), (4, .int (iI (sm (jcS σ) 0 r0))), (2, .ref mn), (0, .ref y), (1, .ref h)] → W p l e (rmG 5 1 32 114) s m (List.toArray [.ref y, .ref h]) below meth c H locs (0 + 1 + 0) (0 + 32 + 0) (MX X below (List.toArray [.ref y, .ref h]) s 1 32 (some (.int (iI (bz true)))) (fun w' => w' = w)) (F0 m 42 ls []) := by
          intro n9
          induction n9 with
          | zero => intro k fc  hrg hms; exfalso; omega
          | succ n9 ih42 =>
            intro k fc  hrg hms w5 hA42_0 hF42 hfc H locs ls hW hS hl
            have hh0 := (hF42 _ (by omega)).trans hh0
            have hAk : ownA X w5 h σ := hO0.A.ex (show ext w w5 from fun q e h9 => by have z9_1 := hfr4 q e h9; have h9 := (hn2 q (by omega)).trans h9; have h9 := (hF42 q (by omega)).trans h9; exact h9)
            refine lv_iload F.1 F.2.1 dL_slits_42 (lv_at hl 1 rfl) ?_
            refine lv_aload_n F.1 F.2.1 dL_slits_44 rfl (lv_at hl 5 rfl) ?_
            refine gf_RL_60 F hW hh0 rfl dL_slits_45 ?_
            refine h_icge (tgt := 145) F dL_slits_48 (by decide) (by omega) (fun c9 => ?_) (fun c9 => ?_)
            · refine h_iconst F dL_slits_145 ?_
              refine lv_istore (lv' := [(5, .int (iI 0)), (3, .int (iI (lT σ k))), (4, .int (iI (sm (jcS σ) 0 r0))), (2, .ref mn), (0, .ref y), (1, .ref h)]) F.1 F.2.1 dL_slits_146 hl (by decide) rfl (fun ls hl => ?_)
              refine h_bipush F dL_slits_148 rfl ?_
              refine lv_istore (lv' := [(6, .int (iI 30)), (5, .int (iI 0)), (3, .int (iI (lT σ k))), (4, .int (iI (sm (jcS σ) 0 r0))), (2, .ref mn), (0, .ref y), (1, .ref h)]) F.1 F.2.1 dL_slits_150 hl (by decide) rfl (fun ls hl => ?_)
              have loop152 : ∀ (n9 : Nat) (j : Int), (hrg : 0 ≤ j ∧ j ≤ 29) → (hms : 29 - j < (n9 : Int)) → (H : Heap) → (locs : List Loc) → (ls : Array Slot) → Wd X w5 s H → va_S (cxA X) s.heap H locs → lv_has ls 8 [(5, .int (iI (slQ σ (31 - j)))), (6, .int (iI (30 - j))), (3, .int (iI (lT σ k))), (4, .int (iI (sm (jcS σ) 0 r0))), (2, .ref mn), (0, .ref y), (1, .ref h)] → W p l e (rmG 5 1 32 114) s m (List.toArray [.ref y, .ref h]) below meth c H locs (0 + 1 + 0) (0 + 32 + 0) (MX X below (List.toArray [.ref y, .ref h]) s 1 32 (some (.int (iI (bz true)))) (fun w' => w' = w)) (F0 m 152 ls []) := by
                intro n9
                induction n9 with
                | zero => intro j  hrg hms; exfalso; omega
                | succ n9 ih152 =>
                  intro j  hrg hms   H locs ls hW hS hl
                  refine lv_iload F.1 F.2.1 dL_slits_152 (lv_at hl 1 rfl) ?_
                  refine h_iconst F dL_slits_154 ?_
                  refine h_icle (tgt := 186) F dL_slits_155 (by decide) (by omega) (fun c10 => ?_) (fun c10 => ?_)
                  · have hEc : ext w w5 := (show ext w w5 from fun q e h9 => by have z9_1 := hfr4 q e h9; have h9 := (hn2 q (by omega)).trans h9; have h9 := (hF42 q (by omega)).trans h9; exact h9)
                    have hYc : clO X w5 y su := (hEc.eqN hO0.2.1 y (hNy y (by omega) (by omega))).trans hY
                    have hLc := hL.mv (w2 := w5) (fun q9 h1 h2 => hEc.eqN hO0.2.1 q9 (hNy q9 (by omega) (by omega)))
                    have hltr := lT_r hWF0 k
                    refine lv_aload_n F.1 F.2.1 dL_slits_186 rfl (lv_at hl 5 rfl) ?_
                    refine cl_RL_299 (As := []) (rest := []) F hl (c_X8_longestSlit l X w5 y su σ hYc hLc) hW hS hYc rfl rfl ⟨Nat.le_of_ble_eq_true rfl, Nat.le_of_ble_eq_true rfl⟩ (Nat.le_of_ble_eq_true rfl) ⟨(by show 0 + 1 + 0 + 0 ≤ 1; omega), (by show 0 + 32 + 0 + 0 ≤ 32; omega)⟩ dL_slits_187 (fun w1 H locs hp11 hW hS => ?_)
                    rw [hp11] at hW; clear hp11; clear w1
                    refine h_top (show (if slQ σ 2 = 0 then 0 else lgQ σ : Int) = lT σ k from by rw [show k = σ 0 - 1 by omega]; exact (lT_e (by omega)).symm) ?_
                    refine lv_iload_n F.1 F.2.1 dL_slits_190 rfl (lv_at hl 2 rfl) ?_
                    refine h_icne (tgt := 222) F dL_slits_191 (by decide) (by omega) (fun c12 => ?_) (fun c12 => ?_)
                    · exact absurd rfl c12
                    · refine lv_aload_n F.1 F.2.1 dL_slits_194 rfl (lv_at hl 6 rfl) ?_
                      refine cl_RL_186 (As := []) (rest := []) F hl (c_X10_rows l X w5 h σ hAk) hW hS hh0 rfl rfl ⟨Nat.le_of_ble_eq_true rfl, Nat.le_of_ble_eq_true rfl⟩ (Nat.le_of_ble_eq_true rfl) ⟨(by show 0 + 1 + 0 + 0 + 0 ≤ 1; omega), (by show 0 + 32 + 0 + 0 + 0 ≤ 32; omega)⟩ dL_slits_195 (fun w1 H locs hp13 hW hS => ?_)
                      rw [hp13] at hW; clear hp13; clear w1
                      refine h_ifeq (tgt := 218) F dL_slits_198 (by decide) (by omega) (fun c14 => ?_) (fun c14 => ?_)
                      · refine h_iconst F dL_slits_218 ?_
                        refine h_goto (tgt := 223) F dL_slits_219 (by decide) ?_
                        refine W.wd (mc := 1) (ms := 32) (by omega) (by omega) ?_
                        have hW := Wd.dn hW (w := w) (fun q e h9 => by
                          have z9_15 := hfr4 q e h9
                          have h9 := (hn2 q (by omega)).trans h9
                          have h9 := (hF42 q (by omega)).trans h9
                          exact h9)
                        refine h_top (show (1 : Int) = bz true from rfl) ?_
                        exact h_iretz F hr hlk hW hS rfl dL_slits_223
                      · refine lv_aload_n F.1 F.2.1 dL_slits_201 rfl (lv_at hl 5 rfl) ?_
                        refine cl_RL_302 (As := []) (rest := []) F hl (c_X8_meanJoins l X w5 y su σ hYc hLc) hW hS hYc rfl rfl ⟨Nat.le_of_ble_eq_true rfl, Nat.le_of_ble_eq_true rfl⟩ (Nat.le_of_ble_eq_true rfl) ⟨(by show 0 + 1 + 0 + 0 + 0 + 0 ≤ 1; omega), (by show 0 + 32 + 0 + 0 + 0 + 0 ≤ 32; omega)⟩ dL_slits_202 (fun w1 H locs hp16 hW hS => ?_)
                        rw [hp16] at hW; clear hp16; clear w1
                        refine lv_iload F.1 F.2.1 dL_slits_205 (lv_at hl 3 rfl) ?_
                        refine lv_i2d F.1 F.2.1 dL_slits_207 ?_
                        refine lv_aload_n F.1 F.2.1 dL_slits_208 rfl (lv_at hl 6 rfl) ?_
                        refine cl_RL_186 (As := []) (rest := [.double (FP.i2d (iI (sm (jcS σ) 0 r0))), .double (mjQ σ)]) F hl (c_X10_rows l X w5 h σ hAk) hW hS hh0 rfl rfl ⟨Nat.le_of_ble_eq_true rfl, Nat.le_of_ble_eq_true rfl⟩ (Nat.le_of_ble_eq_true rfl) ⟨(by show 0 + 1 + 0 + 0 + 0 + 0 + 0 ≤ 1; omega), (by show 0 + 32 + 0 + 0 + 0 + 0 + 0 ≤ 32; omega)⟩ dL_slits_209 (fun w1 H locs hp17 hW hS => ?_)
                        rw [hp17] at hW; clear hp17; clear w1
                        refine lv_i2d F.1 F.2.1 dL_slits_212 ?_
                        refine lv_ddiv F.1 F.2.1 dL_slits_213 (ddiv_ok (by rw [show r0 = σ 4 by omega]; exact jcN_r hWF0) (by omega)) ?_
                        refine h_topv (show (.double (FP.ddiv (FP.i2d (iI (sm (jcS σ) 0 r0))) (FP.i2d (iI (σ 4)))) : Value) = .double (mjQ σ) from by unfold mjQ; rw [if_neg (by omega), show r0 = σ 4 by omega]) ?_
                        refine h_dsameN (tgt := 222) F (by unfold mjQ; rw [if_neg (by omega)]; exact ddiv_ok (jcN_r hWF0) (by omega)) dL_slits_214 rfl dL_slits_215 (by decide) ?_
                        refine h_iconst F dL_slits_218 ?_
                        refine h_goto (tgt := 223) F dL_slits_219 (by decide) ?_
                        refine W.wd (mc := 1) (ms := 32) (by omega) (by omega) ?_
                        have hW := Wd.dn hW (w := w) (fun q e h9 => by
                          have z9_18 := hfr4 q e h9
                          have h9 := (hn2 q (by omega)).trans h9
                          have h9 := (hF42 q (by omega)).trans h9
                          exact h9)
                        refine h_top (show (1 : Int) = bz true from rfl) ?_
                        exact h_iretz F hr hlk hW hS rfl dL_slits_223
                  · refine lv_iload F.1 F.2.1 dL_slits_158 (lv_at hl 0 rfl) ?_
                    refine lv_aload_n F.1 F.2.1 dL_slits_160 rfl (lv_at hl 4 rfl) ?_
                    refine lv_iload F.1 F.2.1 dL_slits_161 (lv_at hl 1 rfl) ?_
                    refine h_iald F hW hA42_0 (by omega) (by omega) dL_slits_163 ?_
                    refine h_iadd (a := slQ σ (31 - j)) (b := fc (30 - j)) F dL_slits_164 ?_
                    refine h_top (show ((slQ σ (31 - j)) + (fc (30 - j)) : Int) = slQ σ (30 - j) from by rw [slQ_s σ (30 - j), show 30 - j + 1 = 31 - j by omega, hfc (30 - j) (by omega) (by omega), show k = σ 0 - 1 by omega]) ?_
                    refine lv_istore (lv' := [(5, .int (iI (slQ σ (30 - j)))), (6, .int (iI (30 - j))), (3, .int (iI (lT σ k))), (4, .int (iI (sm (jcS σ) 0 r0))), (2, .ref mn), (0, .ref y), (1, .ref h)]) F.1 F.2.1 dL_slits_165 hl (by decide) rfl (fun ls hl => ?_)
                    have hEc : ext w w5 := (show ext w w5 from fun q e h9 => by have z9_1 := hfr4 q e h9; have h9 := (hn2 q (by omega)).trans h9; have h9 := (hF42 q (by omega)).trans h9; exact h9)
                    have hYc : clO X w5 y su := (hEc.eqN hO0.2.1 y (hNy y (by omega) (by omega))).trans hY
                    have hLc := hL.mv (w2 := w5) (fun q9 h1 h2 => hEc.eqN hO0.2.1 q9 (hNy q9 (by omega) (by omega)))
                    have hsr := slQ_r hWF0 (30 - j)
                    refine lv_aload_n F.1 F.2.1 dL_slits_167 rfl (lv_at hl 5 rfl) ?_
                    refine lv_iload F.1 F.2.1 dL_slits_168 (lv_at hl 1 rfl) ?_
                    refine cl_RL_297 (As := [.int (iI (30 - j))]) (rest := []) F hl (c_X8_slits l X w5 y su σ (30 - j) hYc hLc (by omega)) hW hS hYc rfl rfl ⟨Nat.le_of_ble_eq_true rfl, Nat.le_of_ble_eq_true rfl⟩ (Nat.le_of_ble_eq_true rfl) ⟨(by show 0 + 1 + 0 + 0 ≤ 1; omega), (by show 0 + 32 + 0 + 0 ≤ 32; omega)⟩ dL_slits_170 (fun w1 H locs hp19 hW hS => ?_)
                    rw [hp19] at hW; clear hp19; clear w1
                    refine lv_iload F.1 F.2.1 dL_slits_173 (lv_at hl 0 rfl) ?_
                    refine h_iceq (tgt := 180) F dL_slits_175 (by decide) (by omega) (fun c20 => ?_) (fun c20 => ?_)
                    · refine h_iinc (k := 1) (a := 30 - j) (lv' := [(6, .int (iI ((30 - j) + (-1)))), (5, .int (iI (slQ σ (30 - j)))), (3, .int (iI (lT σ k))), (4, .int (iI (sm (jcS σ) 0 r0))), (2, .ref mn), (0, .ref y), (1, .ref h)]) F dL_slits_180 hl rfl (by decide) rfl (fun ls hl => ?_)
                      refine h_goto (tgt := 152) F dL_slits_183 (by decide) ?_
                      have eq21 : (slQ σ (31 - (j + 1)) : Int) = slQ σ (30 - j) := by rw [show 31 - (j + 1) = 30 - j by omega]
                      have eq22 : (30 - (j + 1) : Int) = (30 - j) + (-1) := by first | rfl | omega | simp
                      exact ih152 (j + 1)  (by omega) (by omega)   _ _ ls hW hS (by rw [eq21, eq22]; exact lv_sub hl [1, 0, 2, 3, 4, 5, 6] rfl)
                    · exact absurd rfl c20
              have eq23 : (slQ σ (31 - 0) : Int) = 0 := slQ_31 hWF0
              have eq24 : (30 - 0 : Int) = 30 := by first | rfl | omega | simp
              exact loop152 ((29 - 0) + 1 : Int).toNat 0   (by omega) (by omega)   _ _ ls hW hS (by rw [eq23, eq24]; exact lv_sub hl [1, 0, 2, 3, 4, 5, 6] rfl)
            · refine h_iconst F dL_slits_51 ?_
              refine lv_istore (lv' := [(6, .int (iI 0)), (3, .int (iI (lT σ k))), (5, .int (iI (k + 1))), (4, .int (iI (sm (jcS σ) 0 r0))), (2, .ref mn), (0, .ref y), (1, .ref h)]) F.1 F.2.1 dL_slits_52 hl (by decide) rfl (fun ls hl => ?_)
              have loop54 : ∀ (n9 : Nat) (r : Int) (fd : Int → Int), (hrg : 0 ≤ r ∧ r ≤ σ 4 + 1) → (hms : σ 4 + 1 - r < (n9 : Int)) → (w6 : Wo) → (hA54_0 : w6 mn = some (aZ X 32 fd)) → (hF54 : ∀ q : Nat, q ≠ mn → w6 q = w5 q) → (hr0 : r ≤ σ 4 → rnS σ k r = 0) → (hfd : ∀ L : Int, 1 ≤ L → L ≤ 30 → fd L = hT σ L k + hC σ L k r) → (H : Heap) → (locs : List Loc) → (ls : Array Slot) → Wd X w6 s H → va_S (cxA X) s.heap H locs → lv_has ls 8 [(3, .int (iI (max (lT σ k) (lhC σ k r)))), (6, .int (iI r)), (5, .int (iI (k + 1))), (4, .int (iI (sm (jcS σ) 0 r0))), (2, .ref mn), (0, .ref y), (1, .ref h)] → W p l e (rmG 5 1 32 114) s m (List.toArray [.ref y, .ref h]) below meth c H locs (0 + 1 + 0) (0 + 32 + 0) (MX X below (List.toArray [.ref y, .ref h]) s 1 32 (some (.int (iI (bz true)))) (fun w' => w' = w)) (F0 m 54 ls []) := by
                intro n9
                induction n9 with
                | zero => intro r fd  hrg hms; exfalso; omega
                | succ n9 ih54 =>
                  intro r fd  hrg hms w6 hA54_0 hF54 hr0 hfd H locs ls hW hS hl
                  have hh0 := (hF54 _ (by omega)).trans hh0
                  have hAk : ownA X w6 h σ := hO0.A.ex (show ext w w6 from fun q e h9 => by have z9_1 := hfr4 q e h9; have h9 := (hn2 q (by omega)).trans h9; have h9 := (hF42 q (by omega)).trans h9; have h9 := (hF54 q (by omega)).trans h9; exact h9)
                  refine lv_iload F.1 F.2.1 dL_slits_54 (lv_at hl 1 rfl) ?_
                  refine lv_aload_n F.1 F.2.1 dL_slits_56 rfl (lv_at hl 6 rfl) ?_
                  refine cl_RL_186 (As := []) (rest := [.int (iI r)]) F hl (c_X10_rows l X w6 h σ hAk) hW hS hh0 rfl rfl ⟨Nat.le_of_ble_eq_true rfl, Nat.le_of_ble_eq_true rfl⟩ (Nat.le_of_ble_eq_true rfl) ⟨(by show 0 + 1 + 0 + 0 ≤ 1; omega), (by show 0 + 32 + 0 + 0 ≤ 32; omega)⟩ dL_slits_57 (fun w1 H locs hp25 hW hS => ?_)
                  rw [hp25] at hW; clear hp25; clear w1
                  refine h_icge (tgt := 139) F dL_slits_60 (by decide) (by omega) (fun c26 => ?_) (fun c26 => ?_)
                  · refine h_iinc (k := 2) (a := k + 1) (lv' := [(5, .int (iI ((k + 1) + 1))), (3, .int (iI (max (lT σ k) (lhC σ k r)))), (6, .int (iI r)), (4, .int (iI (sm (jcS σ) 0 r0))), (2, .ref mn), (0, .ref y), (1, .ref h)]) F dL_slits_139 hl rfl (by decide) rfl (fun ls hl => ?_)
                    refine h_goto (tgt := 42) F dL_slits_142 (by decide) ?_
                    have eq27 : (lT σ (k + 1) : Int) = max (lT σ k) (lhC σ k r) := by rw [lT_s σ (by omega), ← lhC_e (k := k) (by omega) ⟨by omega, by omega⟩ hr0]
                    exact ih42 (k + 1)  fd (by omega) (by omega) w6 hA54_0 (fun q h09 => by rw [hF54 q (by omega), hF42 q (by omega)]) (fun L h1 h2 => by rw [hfd L h1 h2, hT_s σ L (by omega), ← hC_e (k := k) (by omega) h1 ⟨by omega, by omega⟩ hr0]) _ _ ls hW hS (by rw [eq27]; exact lv_sub hl [1, 0, 3, 4, 5, 6] rfl)
                  · refine lv_iload F.1 F.2.1 dL_slits_63 (lv_at hl 1 rfl) ?_
                    refine lv_istore (lv' := [(7, .int (iI r)), (3, .int (iI (max (lT σ k) (lhC σ k r)))), (6, .int (iI r)), (5, .int (iI (k + 1))), (4, .int (iI (sm (jcS σ) 0 r0))), (2, .ref mn), (0, .ref y), (1, .ref h)]) F.1 F.2.1 dL_slits_65 hl (by decide) rfl (fun ls hl => ?_)
                    have loop67 : ∀ (n9 : Nat) (ri : Int), (hrg : r ≤ ri ∧ ri ≤ σ 4) → (hms : σ 4 - ri < (n9 : Int)) → (hrn : rnS σ k ri = ri - r) → (hhc : ∀ L : Int, hC σ L k ri = hC σ L k r) → (hlc : lhC σ k ri = lhC σ k r) → (H : Heap) → (locs : List Loc) → (ls : Array Slot) → Wd X w6 s H → va_S (cxA X) s.heap H locs → lv_has ls 8 [(6, .int (iI ri)), (7, .int (iI r)), (3, .int (iI (max (lT σ k) (lhC σ k r)))), (5, .int (iI (k + 1))), (4, .int (iI (sm (jcS σ) 0 r0))), (2, .ref mn), (0, .ref y), (1, .ref h)] → W p l e (rmG 5 1 32 114) s m (List.toArray [.ref y, .ref h]) below meth c H locs (0 + 1 + 0 + 0) (0 + 32 + 0 + 0) (MX X below (List.toArray [.ref y, .ref h]) s 1 32 (some (.int (iI (bz true)))) (fun w' => w' = w)) (F0 m 67 ls []) := by
                      intro n9
                      induction n9 with
                      | zero => intro ri  hrg hms; exfalso; omega
                      | succ n9 ih67 =>
                        intro ri  hrg hms  hrn hhc hlc H locs ls hW hS hl
                        refine lv_iload F.1 F.2.1 dL_slits_67 (lv_at hl 0 rfl) ?_
                        refine lv_aload_n F.1 F.2.1 dL_slits_69 rfl (lv_at hl 7 rfl) ?_
                        refine cl_RL_186 (As := []) (rest := [.int (iI ri)]) F hl (c_X10_rows l X w6 h σ hAk) hW hS hh0 rfl rfl ⟨Nat.le_of_ble_eq_true rfl, Nat.le_of_ble_eq_true rfl⟩ (Nat.le_of_ble_eq_true rfl) ⟨(by show 0 + 1 + 0 + 0 + 0 ≤ 1; omega), (by show 0 + 32 + 0 + 0 + 0 ≤ 32; omega)⟩ dL_slits_70 (fun w1 H locs hp28 hW hS => ?_)
                        rw [hp28] at hW; clear hp28; clear w1
                        refine h_icge (tgt := 103) F dL_slits_73 (by decide) (by omega) (fun c29 => ?_) (fun c29 => ?_)
                        · have hen : enB σ k ri = true := enB_e (by omega)
                          have hls := lhC_t (σ := σ) (c := k) (r := ri) (by omega) hen
                          rw [hlc, hrn] at hls
                          have hlk := lT_r hWF0 k
                          have hlp := lhC_p σ k r
                          have hlq := lhC_u hWF0 k r
                          refine lv_aload_n F.1 F.2.1 dL_slits_103 rfl (lv_at hl 5 rfl) ?_
                          refine lv_iload F.1 F.2.1 dL_slits_104 (lv_at hl 0 rfl) ?_
                          refine lv_iload F.1 F.2.1 dL_slits_106 (lv_at hl 1 rfl) ?_
                          refine h_isub (a := ri) (b := r) F dL_slits_108 ?_
                          refine lv_dup2_11 F.1 F.2.1 dL_slits_109 rfl rfl ?_
                          refine h_iald F hW hA54_0 (by omega) (by omega) dL_slits_110 ?_
                          refine h_iconst F dL_slits_111 ?_
                          refine h_iadd (a := fd (ri - r)) (b := 1) F dL_slits_112 ?_
                          refine h_iast F hW hS hA54_0 (by omega) (by omega) dL_slits_113 (fun w30 H locs ho32 hn31 hW hS => ?_)
                          have hh0 := (hn31 _ (by omega)).trans hh0
                          refine lv_iload F.1 F.2.1 dL_slits_114 (lv_at hl 0 rfl) ?_
                          refine lv_iload F.1 F.2.1 dL_slits_116 (lv_at hl 1 rfl) ?_
                          refine h_isub (a := ri) (b := r) F dL_slits_118 ?_
                          refine h_iconst F dL_slits_119 ?_
                          refine h_icle (tgt := 133) F dL_slits_120 (by decide) (by omega) (fun c33 => ?_) (fun c33 => ?_)
                          · refine h_iinc (k := 0) (a := ri) (lv' := [(6, .int (iI (ri + 1))), (7, .int (iI r)), (3, .int (iI (max (lT σ k) (lhC σ k r)))), (5, .int (iI (k + 1))), (4, .int (iI (sm (jcS σ) 0 r0))), (2, .ref mn), (0, .ref y), (1, .ref h)]) F dL_slits_133 hl rfl (by decide) rfl (fun ls hl => ?_)
                            refine h_goto (tgt := 54) F dL_slits_136 (by decide) ?_
                            have eq34 : (max (lT σ k) (lhC σ k (ri + 1)) : Int) = max (lT σ k) (lhC σ k r) := by rw [hls]; split <;> omega
                            have eq35 : ((ri + 1) : Int) = ri + 1 := by first | rfl | omega | simp
                            exact ih54 (ri + 1)  (up fd (ri - r) ((fd (ri - r)) + 1)) (by omega) (by omega) w30 ho32 (fun q h09 => by rw [hn31 q (by omega), hF54 q (by omega)]) (fun h9 => rn_en (by omega) hen h9) (fun L h1 h2 => hist_s hfd h1 h2 hhc hrn hen (by omega)) _ _ ls hW hS (by rw [eq34, eq35]; exact lv_sub hl [2, 0, 3, 4, 5, 6, 7] rfl)
                          · refine lv_iload_n F.1 F.2.1 dL_slits_123 rfl (lv_at hl 2 rfl) ?_
                            refine lv_iload F.1 F.2.1 dL_slits_124 (lv_at hl 0 rfl) ?_
                            refine lv_iload F.1 F.2.1 dL_slits_126 (lv_at hl 1 rfl) ?_
                            refine h_isub (a := ri) (b := r) F dL_slits_128 ?_
                            refine h_mmax (index := 235) (a := max (lT σ k) (lhC σ k r)) (b := ri - r) F hl km_RL_235 (Nat.le_of_ble_eq_true rfl) (Nat.le_of_ble_eq_true rfl) (by show 0 + 1 + 0 + 0 + 0 ≤ 1; omega) (by show 0 + 32 + 0 + 0 + 0 ≤ 32; omega) (by omega) dL_slits_129 ?_
                            refine lv_istore_n (lv' := [(3, .int (iI (max (max (lT σ k) (lhC σ k r)) (ri - r)))), (6, .int (iI ri)), (7, .int (iI r)), (5, .int (iI (k + 1))), (4, .int (iI (sm (jcS σ) 0 r0))), (2, .ref mn), (0, .ref y), (1, .ref h)]) F.1 F.2.1 dL_slits_132 rfl hl (by decide) rfl (fun ls hl => ?_)
                            refine h_iinc (k := 1) (a := ri) (lv' := [(6, .int (iI (ri + 1))), (3, .int (iI (max (max (lT σ k) (lhC σ k r)) (ri - r)))), (7, .int (iI r)), (5, .int (iI (k + 1))), (4, .int (iI (sm (jcS σ) 0 r0))), (2, .ref mn), (0, .ref y), (1, .ref h)]) F dL_slits_133 hl rfl (by decide) rfl (fun ls hl => ?_)
                            refine h_goto (tgt := 54) F dL_slits_136 (by decide) ?_
                            have eq36 : (max (lT σ k) (lhC σ k (ri + 1)) : Int) = max (max (lT σ k) (lhC σ k r)) (ri - r) := by rw [hls]; split <;> omega
                            have eq37 : ((ri + 1) : Int) = ri + 1 := by first | rfl | omega | simp
                            exact ih54 (ri + 1)  (up fd (ri - r) ((fd (ri - r)) + 1)) (by omega) (by omega) w30 ho32 (fun q h09 => by rw [hn31 q (by omega), hF54 q (by omega)]) (fun h9 => rn_en (by omega) hen h9) (fun L h1 h2 => hist_s hfd h1 h2 hhc hrn hen (by omega)) _ _ ls hW hS (by rw [eq36, eq37]; exact lv_sub hl [1, 0, 3, 4, 5, 6, 7] rfl)
                        · have hc1 := hcs (k + 1) ri (by omega) (by omega) (by omega) (by omega)
                          have hc2 := hcs k ri (by omega) (by omega) (by omega) (by omega)
                          refine lv_aload_n F.1 F.2.1 dL_slits_76 rfl (lv_at hl 7 rfl) ?_
                          refine lv_iload F.1 F.2.1 dL_slits_77 (lv_at hl 3 rfl) ?_
                          refine lv_iload F.1 F.2.1 dL_slits_79 (lv_at hl 0 rfl) ?_
                          refine cl_RL_175 (As := [.int (iI (k + 1)), .int (iI ri)]) (rest := []) F hl (c_X10_at l X w6 h σ (k + 1) ri hAk (by omega) (by omega)) hW hS hh0 rfl rfl ⟨Nat.le_of_ble_eq_true rfl, Nat.le_of_ble_eq_true rfl⟩ (Nat.le_of_ble_eq_true rfl) ⟨(by show 0 + 1 + 0 + 0 + 0 + 0 ≤ 1; omega), (by show 0 + 32 + 0 + 0 + 0 + 0 ≤ 32; omega)⟩ dL_slits_81 (fun w1 H locs hp38 hW hS => ?_)
                          rw [hp38] at hW; clear hp38; clear w1
                          refine lv_aload_n F.1 F.2.1 dL_slits_84 rfl (lv_at hl 7 rfl) ?_
                          refine lv_iload F.1 F.2.1 dL_slits_85 (lv_at hl 3 rfl) ?_
                          refine h_iconst F dL_slits_87 ?_
                          refine h_isub (a := k + 1) (b := 1) F dL_slits_88 ?_
                          refine h_top (show ((k + 1) - 1 : Int) = k from by omega) ?_
                          refine lv_iload F.1 F.2.1 dL_slits_89 (lv_at hl 0 rfl) ?_
                          refine cl_RL_175 (As := [.int (iI k), .int (iI ri)]) (rest := [.int (iI (cellS σ (k + 1) ri))]) F hl (c_X10_at l X w6 h σ k ri hAk (by omega) (by omega)) hW hS hh0 rfl rfl ⟨Nat.le_of_ble_eq_true rfl, Nat.le_of_ble_eq_true rfl⟩ (Nat.le_of_ble_eq_true rfl) ⟨(by show 0 + 1 + 0 + 0 + 0 + 0 + 0 ≤ 1; omega), (by show 0 + 32 + 0 + 0 + 0 + 0 + 0 ≤ 32; omega)⟩ dL_slits_91 (fun w1 H locs hp39 hW hS => ?_)
                          rw [hp39] at hW; clear hp39; clear w1
                          refine h_iceq (tgt := 103) F dL_slits_94 (by decide) (by omega) (fun c40 => ?_) (fun c40 => ?_)
                          · have hen : enB σ k ri = true := enB_n (by unfold jnS; exact decide_eq_false (fun z9 => z9 (by omega)))
                            have hls := lhC_t (σ := σ) (c := k) (r := ri) (by omega) hen
                            rw [hlc, hrn] at hls
                            have hlk := lT_r hWF0 k
                            have hlp := lhC_p σ k r
                            have hlq := lhC_u hWF0 k r
                            refine lv_aload_n F.1 F.2.1 dL_slits_103 rfl (lv_at hl 5 rfl) ?_
                            refine lv_iload F.1 F.2.1 dL_slits_104 (lv_at hl 0 rfl) ?_
                            refine lv_iload F.1 F.2.1 dL_slits_106 (lv_at hl 1 rfl) ?_
                            refine h_isub (a := ri) (b := r) F dL_slits_108 ?_
                            refine lv_dup2_11 F.1 F.2.1 dL_slits_109 rfl rfl ?_
                            refine h_iald F hW hA54_0 (by omega) (by omega) dL_slits_110 ?_
                            refine h_iconst F dL_slits_111 ?_
                            refine h_iadd (a := fd (ri - r)) (b := 1) F dL_slits_112 ?_
                            refine h_iast F hW hS hA54_0 (by omega) (by omega) dL_slits_113 (fun w41 H locs ho43 hn42 hW hS => ?_)
                            have hh0 := (hn42 _ (by omega)).trans hh0
                            refine lv_iload F.1 F.2.1 dL_slits_114 (lv_at hl 0 rfl) ?_
                            refine lv_iload F.1 F.2.1 dL_slits_116 (lv_at hl 1 rfl) ?_
                            refine h_isub (a := ri) (b := r) F dL_slits_118 ?_
                            refine h_iconst F dL_slits_119 ?_
                            refine h_icle (tgt := 133) F dL_slits_120 (by decide) (by omega) (fun c44 => ?_) (fun c44 => ?_)
                            · refine h_iinc (k := 0) (a := ri) (lv' := [(6, .int (iI (ri + 1))), (7, .int (iI r)), (3, .int (iI (max (lT σ k) (lhC σ k r)))), (5, .int (iI (k + 1))), (4, .int (iI (sm (jcS σ) 0 r0))), (2, .ref mn), (0, .ref y), (1, .ref h)]) F dL_slits_133 hl rfl (by decide) rfl (fun ls hl => ?_)
                              refine h_goto (tgt := 54) F dL_slits_136 (by decide) ?_
                              have eq45 : (max (lT σ k) (lhC σ k (ri + 1)) : Int) = max (lT σ k) (lhC σ k r) := by rw [hls]; split <;> omega
                              have eq46 : ((ri + 1) : Int) = ri + 1 := by first | rfl | omega | simp
                              exact ih54 (ri + 1)  (up fd (ri - r) ((fd (ri - r)) + 1)) (by omega) (by omega) w41 ho43 (fun q h09 => by rw [hn42 q (by omega), hF54 q (by omega)]) (fun h9 => rn_en (by omega) hen h9) (fun L h1 h2 => hist_s hfd h1 h2 hhc hrn hen (by omega)) _ _ ls hW hS (by rw [eq45, eq46]; exact lv_sub hl [2, 0, 3, 4, 5, 6, 7] rfl)
                            · refine lv_iload_n F.1 F.2.1 dL_slits_123 rfl (lv_at hl 2 rfl) ?_
                              refine lv_iload F.1 F.2.1 dL_slits_124 (lv_at hl 0 rfl) ?_
                              refine lv_iload F.1 F.2.1 dL_slits_126 (lv_at hl 1 rfl) ?_
                              refine h_isub (a := ri) (b := r) F dL_slits_128 ?_
                              refine h_mmax (index := 235) (a := max (lT σ k) (lhC σ k r)) (b := ri - r) F hl km_RL_235 (Nat.le_of_ble_eq_true rfl) (Nat.le_of_ble_eq_true rfl) (by show 0 + 1 + 0 + 0 + 0 + 0 + 0 ≤ 1; omega) (by show 0 + 32 + 0 + 0 + 0 + 0 + 0 ≤ 32; omega) (by omega) dL_slits_129 ?_
                              refine lv_istore_n (lv' := [(3, .int (iI (max (max (lT σ k) (lhC σ k r)) (ri - r)))), (6, .int (iI ri)), (7, .int (iI r)), (5, .int (iI (k + 1))), (4, .int (iI (sm (jcS σ) 0 r0))), (2, .ref mn), (0, .ref y), (1, .ref h)]) F.1 F.2.1 dL_slits_132 rfl hl (by decide) rfl (fun ls hl => ?_)
                              refine h_iinc (k := 1) (a := ri) (lv' := [(6, .int (iI (ri + 1))), (3, .int (iI (max (max (lT σ k) (lhC σ k r)) (ri - r)))), (7, .int (iI r)), (5, .int (iI (k + 1))), (4, .int (iI (sm (jcS σ) 0 r0))), (2, .ref mn), (0, .ref y), (1, .ref h)]) F dL_slits_133 hl rfl (by decide) rfl (fun ls hl => ?_)
                              refine h_goto (tgt := 54) F dL_slits_136 (by decide) ?_
                              have eq47 : (max (lT σ k) (lhC σ k (ri + 1)) : Int) = max (max (lT σ k) (lhC σ k r)) (ri - r) := by rw [hls]; split <;> omega
                              have eq48 : ((ri + 1) : Int) = ri + 1 := by first | rfl | omega | simp
                              exact ih54 (ri + 1)  (up fd (ri - r) ((fd (ri - r)) + 1)) (by omega) (by omega) w41 ho43 (fun q h09 => by rw [hn42 q (by omega), hF54 q (by omega)]) (fun h9 => rn_en (by omega) hen h9) (fun L h1 h2 => hist_s hfd h1 h2 hhc hrn hen (by omega)) _ _ ls hW hS (by rw [eq47, eq48]; exact lv_sub hl [1, 0, 3, 4, 5, 6, 7] rfl)
                          · have hjt : jnS σ k ri = true := by unfold jnS; exact decide_eq_true (by omega)
                            refine h_iinc (k := 0) (a := ri) (lv' := [(6, .int (iI (ri + 1))), (7, .int (iI r)), (3, .int (iI (max (lT σ k) (lhC σ k r)))), (5, .int (iI (k + 1))), (4, .int (iI (sm (jcS σ) 0 r0))), (2, .ref mn), (0, .ref y), (1, .ref h)]) F dL_slits_97 hl rfl (by decide) rfl (fun ls hl => ?_)
                            refine h_goto (tgt := 67) F dL_slits_100 (by decide) ?_
                            have eq49 : ((ri + 1) : Int) = ri + 1 := by first | rfl | omega | simp
                            exact ih67 (ri + 1)  (by omega) (by omega)  (by rw [rnS_s σ k (by omega), if_pos hjt]; omega) (fun L => (hC_f ⟨by omega, by omega⟩ hjt).trans (hhc L)) ((lhC_f ⟨by omega, by omega⟩ hjt).trans hlc) _ _ ls hW hS (by rw [eq49]; exact lv_sub hl [0, 1, 2, 3, 4, 5, 6, 7] rfl)
                    exact loop67 ((σ 4 - r) + 1 : Int).toNat r   (by omega) (by omega)  (by rw [hr0 (by omega)]; omega) (fun L => rfl) rfl _ _ ls hW hS (lv_sub hl [2, 0, 1, 3, 4, 5, 6, 7] rfl)
              have eq50 : (max (lT σ k) (lhC σ k 0) : Int) = lT σ k := by rw [lhC_0]; have := lT_p σ k; omega
              exact loop54 ((σ 4 + 1 - 0) + 1 : Int).toNat 0  fc (by omega) (by omega) w5 hA42_0 (fun q _ => rfl) (fun _ => rnS_0 σ k) (fun L h1 h2 => by rw [hfc L h1 h2, hC_0]; omega) _ _ ls hW hS (by rw [eq50]; exact lv_sub hl [1, 0, 2, 3, 4, 5, 6] rfl)
        have eq51 : (lT σ 0 : Int) = 0 := lT_0 σ
        have eq52 : (0 + 1 : Int) = 1 := by first | rfl | omega | simp
        exact loop42 ((σ 0 - 1 - 0) + 1 : Int).toNat 0  (fun _ => 0) (by omega) (by omega) w1 ha3 (fun q _ => rfl) (fun L h1 h2 => (hT_0 σ L).symm) _ _ ls hW hS (by rw [eq51, eq52]; exact lv_sub hl [2, 0, 1, 3, 4, 5] rfl)
      · refine lv_iload F.1 F.2.1 dL_slits_22 (lv_at hl 0 rfl) ?_
        refine lv_aload_n F.1 F.2.1 dL_slits_24 rfl (lv_at hl 5 rfl) ?_
        refine lv_iload F.1 F.2.1 dL_slits_25 (lv_at hl 1 rfl) ?_
        refine cl_RL_192 (As := [.int (iI r0)]) (rest := [.int (iI (sm (jcS σ) 0 r0))]) F hl (c_X10_joins l X w1 h σ r0 hAk (by omega)) hW hS hh0 rfl rfl ⟨Nat.le_of_ble_eq_true rfl, Nat.le_of_ble_eq_true rfl⟩ (Nat.le_of_ble_eq_true rfl) ⟨(by show 0 + 1 + 0 + 0 ≤ 1; omega), (by show 0 + 32 + 0 + 0 ≤ 32; omega)⟩ dL_slits_27 (fun w1 H locs hp53 hW hS => ?_)
        rw [hp53] at hW; clear hp53; clear w1
        refine h_iadd (a := sm (jcS σ) 0 r0) (b := jcS σ r0) F dL_slits_30 ?_
        refine lv_istore (lv' := [(4, .int (iI ((sm (jcS σ) 0 r0) + (jcS σ r0)))), (5, .int (iI r0)), (3, .int (iI 0)), (2, .ref mn), (0, .ref y), (1, .ref h)]) F.1 F.2.1 dL_slits_31 hl (by decide) rfl (fun ls hl => ?_)
        refine h_iinc (k := 1) (a := r0) (lv' := [(5, .int (iI (r0 + 1))), (4, .int (iI ((sm (jcS σ) 0 r0) + (jcS σ r0)))), (3, .int (iI 0)), (2, .ref mn), (0, .ref y), (1, .ref h)]) F dL_slits_33 hl rfl (by decide) rfl (fun ls hl => ?_)
        refine h_goto (tgt := 13) F dL_slits_36 (by decide) ?_
        have eq54 : (sm (jcS σ) 0 (r0 + 1) : Int) = (sm (jcS σ) 0 r0) + (jcS σ r0) := sm_s _ (by omega)
        have eq55 : ((r0 + 1) : Int) = r0 + 1 := by first | rfl | omega | simp
        exact ih13 (r0 + 1)  (by omega) (by omega)   _ _ ls hW hS (by rw [eq54, eq55]; exact lv_sub hl [1, 0, 2, 3, 4, 5] rfl)
  have eq56 : (sm (jcS σ) 0 0 : Int) = 0 := sm_0 _ _
  exact loop13 ((σ 4 - 0) + 1 : Int).toNat 0   (by omega) (by omega)   _ _ ls hW hS (by rw [eq56]; exact lv_sub hl [1, 0, 2, 3, 4, 5] rfl)
