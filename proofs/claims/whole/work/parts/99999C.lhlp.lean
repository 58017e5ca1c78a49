/-! ===== the law's own methods ===== -/
abbrev aD (X : Cx) (n : Nat) (f : Nat → UInt64) : va_E := .inl (X.2.1 5, n, .inr (.inr (.inr (.inl f))))
theorem h_dast {p : Program} {l : Launch} {e : Env} {R : Room} {s : State} {m : MethodId} {args : Array Value} {below : List Frame} {meth : Method} {c : Code} {H H0 : Heap} {locs : List Loc} {cells slots : Nat} {Q : State → Prop} {cc : ByteArray} {nL pc : Nat} {own : String} {ls : Array Slot} {rest : List Value} {X : Cx} {w : Wo} {a n : Nat} {g : Nat → UInt64} {i : Int} {x : UInt64} (F : Fx p m c cc nL s args own) (hW : Wd X w s H) (hS : va_S (cxA X) H0 H locs) (ha : w a = some (aD X n g)) (hi : 0 ≤ i ∧ i < (n : Int)) (hn : (n : Int) < 2147483648) (hd : decode cc pc = .ok (.dastore, 1))
    (kk : ∀ (w1 : Wo) (H1 : Heap) (locs1 : List Loc), w1 a = some (aD X n (fun q => if q = i.toNat then x else g q)) → (∀ q, q ≠ a → w1 q = w q) → Wd X w1 s H1 → va_S (cxA X) H0 H1 locs1 → W p l e R s m args below meth c H1 locs1 cells slots Q (F0 m (pc + 1) ls rest)) : W p l e R s m args below meth c H locs cells slots Q (F0 m pc ls (.double x :: .int (iI i) :: .ref a :: rest)) := by
  refine W.dast F.1 F.2.1 (hW.1.1 a _ ha).1 ((hW.2.1.1.2 5 _ rfl).1 n (fun j => .double (g j))) (fun q => by cases q) (by show ¬ (iI i < 0 ∨ (arrV _ _ _).slots.size ≤ _); rw [arrV_size]; exact iI_in hi hn) rfl rfl hd fun H1 e1 z oq => ?_
  have he : va_at X.1 vwCl (a, aD X n (fun q => if q = i.toNat then x else g q)) H1 := by
    show H1[a]? = some (vp_cell _ _)
    rw [e1]
    show some ((vp_cell _ _).setSlot _ _) = _
    rw [vp_cell_d, vp_cell_d, arrV_store]
    congr 2
    funext q
    rw [iI_clamp (by omega)]
    by_cases hq : q = i.toNat
    · subst hq
      simp [updV]
    · simp [updV, hq]
  obtain ⟨w1, g1, g2, g3⟩ := hW.put ha he z oq
  exact kk w1 H1 _ g1 g2 g3 (hS.put z oq (hW.1.1 a _ ha).2)
set_option maxHeartbeats 1000000 in
theorem hk_append (l : Launch) (X : Cx) (w : Wo) (y ao : Nat) (p0 p1 p2 p3 p4 : Int) (fs : List Value) (P : Wo → Prop) (hy : w y = some (.inr (8, fs))) (b : Int) (hM : CM l X yX8_append cX8_append 6 (some (.int)) (rmk 3 65) [.ref y, .int (iI p0), .int (iI p1), .int (iI p2), .int (iI p3), .int (iI p4)] w (some (.int (iI b))) P) (ho : ∀ w' : Wo, P w' → ∃ g, w' ao = some (aJ X 1 g)) : CL l X yL_append cL_append 8 (some (.int)) [(0, 16, 19, 13)] (rmx 8 129) [.ref y, .int (iI p0), .int (iI p1), .int (iI p2), .int (iI p3), .int (iI p4), .ref ao] w (some (.int (iI 0))) (fun w2 => ∃ w1, P w1 ∧ (∃ g, w2 ao = some (aJ X 1 g) ∧ g 0 = (iI b).toInt64) ∧ ∀ q : Nat, q ≠ ao → w2 q = w1 q) := by
  refine CL.of (lv := [(0, .ref y), (1, .int (iI p0)), (2, .int (iI p1)), (3, .int (iI p2)), (4, .int (iI p3)), (5, .int (iI p4)), (6, .ref ao)]) (by decide) (Nat.le_of_ble_eq_true rfl) rfl (fun p e s m below meth c ls F htb hr hlk hW hS hl => ?_)
  refine W.widen (k := 1) (n := 6) (Nat.zero_le _) (Nat.zero_le _) ?_
  refine lv_aload F.1 F.2.1 dL_append_0 (lv_at hl 6 rfl) ?_
  refine h_iconst F dL_append_2 ?_
  refine lv_aload_n F.1 F.2.1 dL_append_3 rfl (lv_at hl 0 rfl) ?_
  refine lv_iload_n F.1 F.2.1 dL_append_4 rfl (lv_at hl 1 rfl) ?_
  refine lv_iload_n F.1 F.2.1 dL_append_5 rfl (lv_at hl 2 rfl) ?_
  refine lv_iload_n F.1 F.2.1 dL_append_6 rfl (lv_at hl 3 rfl) ?_
  refine lv_iload F.1 F.2.1 dL_append_7 (lv_at hl 4 rfl) ?_
  refine lv_iload F.1 F.2.1 dL_append_9 (lv_at hl 5 rfl) ?_
  refine cl_RL_7 (As := [.int (iI p0), .int (iI p1), .int (iI p2), .int (iI p3), .int (iI p4)]) (rest := [.int (iI 0), .ref ao]) F hl hM hW hS hy rfl rfl ⟨Nat.le_of_ble_eq_true rfl, Nat.le_of_ble_eq_true rfl⟩ (Nat.le_of_ble_eq_true rfl) ⟨Nat.le_of_ble_eq_true rfl, Nat.le_of_ble_eq_true rfl⟩ dL_append_11 (fun w1 H1 locs1 hp hW hS => ?_)
  obtain ⟨g, hg⟩ := ho w1 hp
  refine lv_i2l F.1 F.2.1 dL_append_14 rfl ?_
  refine h_last F hW hS hg (by omega) (by omega) dL_append_15 (fun w2 H2 locs2 hg2 hn2 hW hS => ?_)
  refine h_goto (tgt := 23) F dL_append_16 (by decide) ?_
  refine h_iconst F dL_append_23 ?_
  exact h_ireti F hr hlk hW hS ⟨w1, hp, ⟨_, hg2, by simp [vp_updL]⟩, hn2⟩ dL_append_24
set_option maxHeartbeats 1000000 in
theorem ht_append_1 (l : Launch) (X : Cx) (w : Wo) (y ao : Nat) (p0 p1 p2 p3 p4 : Int) (fs : List Value) (P : Wo → Prop) (hy : w y = some (.inr (8, fs))) (hM : CX l X yX8_append cX8_append 6 (some (.int)) (rmx 7 104) [.ref y, .int (iI p0), .int (iI p1), .int (iI p2), .int (iI p3), .int (iI p4)] w "java/lang/IllegalStateException" P) : CL l X yL_append cL_append 8 (some (.int)) [(0, 16, 19, 13)] (rmx 8 129) [.ref y, .int (iI p0), .int (iI p1), .int (iI p2), .int (iI p3), .int (iI p4), .ref ao] w (some (.int (iI 1))) (P) := by
  refine CL.of (lv := [(0, .ref y), (1, .int (iI p0)), (2, .int (iI p1)), (3, .int (iI p2)), (4, .int (iI p3)), (5, .int (iI p4)), (6, .ref ao)]) (by decide) (Nat.le_of_ble_eq_true rfl) rfl (fun p e s m below meth c ls F htb hr hlk hW hS hl => ?_)
  refine lv_aload F.1 F.2.1 dL_append_0 (lv_at hl 6 rfl) ?_
  refine h_iconst F dL_append_2 ?_
  refine lv_aload_n F.1 F.2.1 dL_append_3 rfl (lv_at hl 0 rfl) ?_
  refine lv_iload_n F.1 F.2.1 dL_append_4 rfl (lv_at hl 1 rfl) ?_
  refine lv_iload_n F.1 F.2.1 dL_append_5 rfl (lv_at hl 2 rfl) ?_
  refine lv_iload_n F.1 F.2.1 dL_append_6 rfl (lv_at hl 3 rfl) ?_
  refine lv_iload F.1 F.2.1 dL_append_7 (lv_at hl 4 rfl) ?_
  refine lv_iload F.1 F.2.1 dL_append_9 (lv_at hl 5 rfl) ?_
  refine cx_RL_7 (As := [.int (iI p0), .int (iI p1), .int (iI p2), .int (iI p3), .int (iI p4)]) (rest := [.int (iI 0), .ref ao]) F hl hM hW hS hy rfl rfl ⟨Nat.le_of_ble_eq_true rfl, Nat.le_of_ble_eq_true rfl⟩ (Nat.le_of_ble_eq_true rfl) ⟨Nat.le_of_ble_eq_true rfl, Nat.le_of_ble_eq_true rfl⟩ dL_append_11 (fun w1 H1 locs1 ce q9 hp hW hS hce hcv hcl => ?_)
  refine h_caught1 F hW htb (by decide) (by decide) kl_RL_13 (List.mem_of_getElem? (i := 0) rfl) hce hcv hcl ?_
  refine lv_astore (lv' := (7, .ref q9) :: [(0, .ref y), (1, .int (iI p0)), (2, .int (iI p1)), (3, .int (iI p2)), (4, .int (iI p3)), (5, .int (iI p4)), (6, .ref ao)]) F.1 F.2.1 dL_append_19 hl (by decide) rfl (fun ls hl => ?_)
  refine h_iconst F dL_append_21 ?_
  exact h_ireti F hr hlk hW hS hp dL_append_22
set_option maxHeartbeats 1000000 in
theorem hk_truncate (l : Launch) (X : Cx) (w : Wo) (y ao : Nat) (p0 : Int) (fs : List Value) (P : Wo → Prop) (hy : w y = some (.inr (8, fs))) (b : Int) (hM : CM l X yX8_truncate cX8_truncate 2 (some (.int)) (rmk 1 21) [.ref y, .int (iI p0)] w (some (.int (iI b))) P) (ho : ∀ w' : Wo, P w' → ∃ g, w' ao = some (aJ X 1 g)) : CL l X yL_truncate cL_truncate 4 (some (.int)) [(0, 9, 12, 19)] (rmx 8 125) [.ref y, .int (iI p0), .ref ao] w (some (.int (iI 0))) (fun w2 => ∃ w1, P w1 ∧ (∃ g, w2 ao = some (aJ X 1 g) ∧ g 0 = (iI b).toInt64) ∧ ∀ q : Nat, q ≠ ao → w2 q = w1 q) := by
  refine CL.of (lv := [(0, .ref y), (1, .int (iI p0)), (2, .ref ao)]) (by decide) (Nat.le_of_ble_eq_true rfl) rfl (fun p e s m below meth c ls F htb hr hlk hW hS hl => ?_)
  refine W.widen (k := 1) (n := 6) (Nat.zero_le _) (Nat.zero_le _) ?_
  refine lv_aload_n F.1 F.2.1 dL_truncate_0 rfl (lv_at hl 2 rfl) ?_
  refine h_iconst F dL_truncate_1 ?_
  refine lv_aload_n F.1 F.2.1 dL_truncate_2 rfl (lv_at hl 0 rfl) ?_
  refine lv_iload_n F.1 F.2.1 dL_truncate_3 rfl (lv_at hl 1 rfl) ?_
  refine cl_RL_15 (As := [.int (iI p0)]) (rest := [.int (iI 0), .ref ao]) F hl hM hW hS hy rfl rfl ⟨Nat.le_of_ble_eq_true rfl, Nat.le_of_ble_eq_true rfl⟩ (Nat.le_of_ble_eq_true rfl) ⟨Nat.le_of_ble_eq_true rfl, Nat.le_of_ble_eq_true rfl⟩ dL_truncate_4 (fun w1 H1 locs1 hp hW hS => ?_)
  obtain ⟨g, hg⟩ := ho w1 hp
  refine lv_i2l F.1 F.2.1 dL_truncate_7 rfl ?_
  refine h_last F hW hS hg (by omega) (by omega) dL_truncate_8 (fun w2 H2 locs2 hg2 hn2 hW hS => ?_)
  refine h_goto (tgt := 15) F dL_truncate_9 (by decide) ?_
  refine h_iconst F dL_truncate_15 ?_
  exact h_ireti F hr hlk hW hS ⟨w1, hp, ⟨_, hg2, by simp [vp_updL]⟩, hn2⟩ dL_truncate_16
set_option maxHeartbeats 1000000 in
theorem ht_truncate_1 (l : Launch) (X : Cx) (w : Wo) (y ao : Nat) (p0 : Int) (fs : List Value) (P : Wo → Prop) (hy : w y = some (.inr (8, fs))) (hM : CX l X yX8_truncate cX8_truncate 2 (some (.int)) (rmx 7 104) [.ref y, .int (iI p0)] w "java/lang/IllegalArgumentException" P) : CL l X yL_truncate cL_truncate 4 (some (.int)) [(0, 9, 12, 19)] (rmx 8 125) [.ref y, .int (iI p0), .ref ao] w (some (.int (iI 1))) (P) := by
  refine CL.of (lv := [(0, .ref y), (1, .int (iI p0)), (2, .ref ao)]) (by decide) (Nat.le_of_ble_eq_true rfl) rfl (fun p e s m below meth c ls F htb hr hlk hW hS hl => ?_)
  refine lv_aload_n F.1 F.2.1 dL_truncate_0 rfl (lv_at hl 2 rfl) ?_
  refine h_iconst F dL_truncate_1 ?_
  refine lv_aload_n F.1 F.2.1 dL_truncate_2 rfl (lv_at hl 0 rfl) ?_
  refine lv_iload_n F.1 F.2.1 dL_truncate_3 rfl (lv_at hl 1 rfl) ?_
  refine cx_RL_15 (As := [.int (iI p0)]) (rest := [.int (iI 0), .ref ao]) F hl hM hW hS hy rfl rfl ⟨Nat.le_of_ble_eq_true rfl, Nat.le_of_ble_eq_true rfl⟩ (Nat.le_of_ble_eq_true rfl) ⟨Nat.le_of_ble_eq_true rfl, Nat.le_of_ble_eq_true rfl⟩ dL_truncate_4 (fun w1 H1 locs1 ce q9 hp hW hS hce hcv hcl => ?_)
  refine h_caught1 F hW htb (by decide) (by decide) kl_RL_19 (List.mem_of_getElem? (i := 1) rfl) hce hcv hcl ?_
  refine lv_astore_n (lv' := (3, .ref q9) :: [(0, .ref y), (1, .int (iI p0)), (2, .ref ao)]) F.1 F.2.1 dL_truncate_12 rfl hl (by decide) rfl (fun ls hl => ?_)
  refine h_iconst F dL_truncate_13 ?_
  exact h_ireti F hr hlk hW hS hp dL_truncate_14
set_option maxHeartbeats 1000000 in
theorem hk_count (l : Launch) (X : Cx) (w : Wo) (y ao : Nat) (p0 : Int) (fs : List Value) (P : Wo → Prop) (hy : w y = some (.inr (8, fs))) (b : Int) (hM : CM l X yX8_count cX8_count 2 (some (.int)) (rmk 4 90) [.ref y, .int (iI p0)] w (some (.int (iI b))) P) (ho : ∀ w' : Wo, P w' → ∃ g, w' ao = some (aJ X 1 g)) : CL l X yL_count cL_count 4 (some (.int)) [(0, 9, 12, 19)] (rmx 8 125) [.ref y, .int (iI p0), .ref ao] w (some (.int (iI 0))) (fun w2 => ∃ w1, P w1 ∧ (∃ g, w2 ao = some (aJ X 1 g) ∧ g 0 = (iI b).toInt64) ∧ ∀ q : Nat, q ≠ ao → w2 q = w1 q) := by
  refine CL.of (lv := [(0, .ref y), (1, .int (iI p0)), (2, .ref ao)]) (by decide) (Nat.le_of_ble_eq_true rfl) rfl (fun p e s m below meth c ls F htb hr hlk hW hS hl => ?_)
  refine W.widen (k := 1) (n := 6) (Nat.zero_le _) (Nat.zero_le _) ?_
  refine lv_aload_n F.1 F.2.1 dL_count_0 rfl (lv_at hl 2 rfl) ?_
  refine h_iconst F dL_count_1 ?_
  refine lv_aload_n F.1 F.2.1 dL_count_2 rfl (lv_at hl 0 rfl) ?_
  refine lv_iload_n F.1 F.2.1 dL_count_3 rfl (lv_at hl 1 rfl) ?_
  refine cl_RL_21 (As := [.int (iI p0)]) (rest := [.int (iI 0), .ref ao]) F hl hM hW hS hy rfl rfl ⟨Nat.le_of_ble_eq_true rfl, Nat.le_of_ble_eq_true rfl⟩ (Nat.le_of_ble_eq_true rfl) ⟨Nat.le_of_ble_eq_true rfl, Nat.le_of_ble_eq_true rfl⟩ dL_count_4 (fun w1 H1 locs1 hp hW hS => ?_)
  obtain ⟨g, hg⟩ := ho w1 hp
  refine lv_i2l F.1 F.2.1 dL_count_7 rfl ?_
  refine h_last F hW hS hg (by omega) (by omega) dL_count_8 (fun w2 H2 locs2 hg2 hn2 hW hS => ?_)
  refine h_goto (tgt := 15) F dL_count_9 (by decide) ?_
  refine h_iconst F dL_count_15 ?_
  exact h_ireti F hr hlk hW hS ⟨w1, hp, ⟨_, hg2, by simp [vp_updL]⟩, hn2⟩ dL_count_16
set_option maxHeartbeats 1000000 in
theorem ht_count_1 (l : Launch) (X : Cx) (w : Wo) (y ao : Nat) (p0 : Int) (fs : List Value) (P : Wo → Prop) (hy : w y = some (.inr (8, fs))) (hM : CX l X yX8_count cX8_count 2 (some (.int)) (rmx 7 104) [.ref y, .int (iI p0)] w "java/lang/IllegalArgumentException" P) : CL l X yL_count cL_count 4 (some (.int)) [(0, 9, 12, 19)] (rmx 8 125) [.ref y, .int (iI p0), .ref ao] w (some (.int (iI 1))) (P) := by
  refine CL.of (lv := [(0, .ref y), (1, .int (iI p0)), (2, .ref ao)]) (by decide) (Nat.le_of_ble_eq_true rfl) rfl (fun p e s m below meth c ls F htb hr hlk hW hS hl => ?_)
  refine lv_aload_n F.1 F.2.1 dL_count_0 rfl (lv_at hl 2 rfl) ?_
  refine h_iconst F dL_count_1 ?_
  refine lv_aload_n F.1 F.2.1 dL_count_2 rfl (lv_at hl 0 rfl) ?_
  refine lv_iload_n F.1 F.2.1 dL_count_3 rfl (lv_at hl 1 rfl) ?_
  refine cx_RL_21 (As := [.int (iI p0)]) (rest := [.int (iI 0), .ref ao]) F hl hM hW hS hy rfl rfl ⟨Nat.le_of_ble_eq_true rfl, Nat.le_of_ble_eq_true rfl⟩ (Nat.le_of_ble_eq_true rfl) ⟨Nat.le_of_ble_eq_true rfl, Nat.le_of_ble_eq_true rfl⟩ dL_count_4 (fun w1 H1 locs1 ce q9 hp hW hS hce hcv hcl => ?_)
  refine h_caught1 F hW htb (by decide) (by decide) kl_RL_19 (List.mem_of_getElem? (i := 1) rfl) hce hcv hcl ?_
  refine lv_astore_n (lv' := (3, .ref q9) :: [(0, .ref y), (1, .int (iI p0)), (2, .ref ao)]) F.1 F.2.1 dL_count_12 rfl hl (by decide) rfl (fun ls hl => ?_)
  refine h_iconst F dL_count_13 ?_
  exact h_ireti F hr hlk hW hS hp dL_count_14
set_option maxHeartbeats 1000000 in
theorem hk_caption (l : Launch) (X : Cx) (w : Wo) (y ao : Nat) (p0 p1 : Int) (fs : List Value) (P : Wo → Prop) (hy : w y = some (.inr (8, fs))) (b : Int) (hM : CM l X yX8_caption cX8_caption 4 (some (.int)) (rmk 5 116) [.ref y, .int (iI p0), .int (iI p1)] w (some (.int (iI b))) P) (ho : ∀ w' : Wo, P w' → ∃ g, w' ao = some (aJ X 1 g)) : CL l X yL_caption cL_caption 5 (some (.int)) [(0, 10, 13, 28), (0, 10, 17, 19)] (rmx 8 139) [.ref y, .int (iI p0), .int (iI p1), .ref ao] w (some (.int (iI 0))) (fun w2 => ∃ w1, P w1 ∧ (∃ g, w2 ao = some (aJ X 1 g) ∧ g 0 = (iI b).toInt64) ∧ ∀ q : Nat, q ≠ ao → w2 q = w1 q) := by
  refine CL.of (lv := [(0, .ref y), (1, .int (iI p0)), (2, .int (iI p1)), (3, .ref ao)]) (by decide) (Nat.le_of_ble_eq_true rfl) rfl (fun p e s m below meth c ls F htb hr hlk hW hS hl => ?_)
  refine W.widen (k := 1) (n := 6) (Nat.zero_le _) (Nat.zero_le _) ?_
  refine lv_aload_n F.1 F.2.1 dL_caption_0 rfl (lv_at hl 3 rfl) ?_
  refine h_iconst F dL_caption_1 ?_
  refine lv_aload_n F.1 F.2.1 dL_caption_2 rfl (lv_at hl 0 rfl) ?_
  refine lv_iload_n F.1 F.2.1 dL_caption_3 rfl (lv_at hl 1 rfl) ?_
  refine lv_iload_n F.1 F.2.1 dL_caption_4 rfl (lv_at hl 2 rfl) ?_
  refine cl_RL_24 (As := [.int (iI p0), .int (iI p1)]) (rest := [.int (iI 0), .ref ao]) F hl hM hW hS hy rfl rfl ⟨Nat.le_of_ble_eq_true rfl, Nat.le_of_ble_eq_true rfl⟩ (Nat.le_of_ble_eq_true rfl) ⟨Nat.le_of_ble_eq_true rfl, Nat.le_of_ble_eq_true rfl⟩ dL_caption_5 (fun w1 H1 locs1 hp hW hS => ?_)
  obtain ⟨g, hg⟩ := ho w1 hp
  refine lv_i2l F.1 F.2.1 dL_caption_8 rfl ?_
  refine h_last F hW hS hg (by omega) (by omega) dL_caption_9 (fun w2 H2 locs2 hg2 hn2 hW hS => ?_)
  refine h_goto (tgt := 21) F dL_caption_10 (by decide) ?_
  refine h_iconst F dL_caption_21 ?_
  exact h_ireti F hr hlk hW hS ⟨w1, hp, ⟨_, hg2, by simp [vp_updL]⟩, hn2⟩ dL_caption_22
set_option maxHeartbeats 1000000 in
theorem ht_caption_1 (l : Launch) (X : Cx) (w : Wo) (y ao : Nat) (p0 p1 : Int) (fs : List Value) (P : Wo → Prop) (hy : w y = some (.inr (8, fs))) (hM : CX l X yX8_caption cX8_caption 4 (some (.int)) (rmx 7 104) [.ref y, .int (iI p0), .int (iI p1)] w "java/lang/IndexOutOfBoundsException" P) : CL l X yL_caption cL_caption 5 (some (.int)) [(0, 10, 13, 28), (0, 10, 17, 19)] (rmx 8 139) [.ref y, .int (iI p0), .int (iI p1), .ref ao] w (some (.int (iI 1))) (P) := by
  refine CL.of (lv := [(0, .ref y), (1, .int (iI p0)), (2, .int (iI p1)), (3, .ref ao)]) (by decide) (Nat.le_of_ble_eq_true rfl) rfl (fun p e s m below meth c ls F htb hr hlk hW hS hl => ?_)
  refine lv_aload_n F.1 F.2.1 dL_caption_0 rfl (lv_at hl 3 rfl) ?_
  refine h_iconst F dL_caption_1 ?_
  refine lv_aload_n F.1 F.2.1 dL_caption_2 rfl (lv_at hl 0 rfl) ?_
  refine lv_iload_n F.1 F.2.1 dL_caption_3 rfl (lv_at hl 1 rfl) ?_
  refine lv_iload_n F.1 F.2.1 dL_caption_4 rfl (lv_at hl 2 rfl) ?_
  refine cx_RL_24 (As := [.int (iI p0), .int (iI p1)]) (rest := [.int (iI 0), .ref ao]) F hl hM hW hS hy rfl rfl ⟨Nat.le_of_ble_eq_true rfl, Nat.le_of_ble_eq_true rfl⟩ (Nat.le_of_ble_eq_true rfl) ⟨Nat.le_of_ble_eq_true rfl, Nat.le_of_ble_eq_true rfl⟩ dL_caption_5 (fun w1 H1 locs1 ce q9 hp hW hS hce hcv hcl => ?_)
  refine h_caught1 F hW htb (by decide) (by decide) kl_RL_28 (List.mem_of_getElem? (i := 2) rfl) hce hcv hcl ?_
  refine lv_astore (lv' := (4, .ref q9) :: [(0, .ref y), (1, .int (iI p0)), (2, .int (iI p1)), (3, .ref ao)]) F.1 F.2.1 dL_caption_13 hl (by decide) rfl (fun ls hl => ?_)
  refine h_iconst F dL_caption_15 ?_
  exact h_ireti F hr hlk hW hS hp dL_caption_16
set_option maxHeartbeats 1000000 in
theorem ht_caption_2 (l : Launch) (X : Cx) (w : Wo) (y ao : Nat) (p0 p1 : Int) (fs : List Value) (P : Wo → Prop) (hy : w y = some (.inr (8, fs))) (hM : CX l X yX8_caption cX8_caption 4 (some (.int)) (rmx 7 104) [.ref y, .int (iI p0), .int (iI p1)] w "java/lang/IllegalArgumentException" P) : CL l X yL_caption cL_caption 5 (some (.int)) [(0, 10, 13, 28), (0, 10, 17, 19)] (rmx 8 139) [.ref y, .int (iI p0), .int (iI p1), .ref ao] w (some (.int (iI 2))) (P) := by
  refine CL.of (lv := [(0, .ref y), (1, .int (iI p0)), (2, .int (iI p1)), (3, .ref ao)]) (by decide) (Nat.le_of_ble_eq_true rfl) rfl (fun p e s m below meth c ls F htb hr hlk hW hS hl => ?_)
  refine lv_aload_n F.1 F.2.1 dL_caption_0 rfl (lv_at hl 3 rfl) ?_
  refine h_iconst F dL_caption_1 ?_
  refine lv_aload_n F.1 F.2.1 dL_caption_2 rfl (lv_at hl 0 rfl) ?_
  refine lv_iload_n F.1 F.2.1 dL_caption_3 rfl (lv_at hl 1 rfl) ?_
  refine lv_iload_n F.1 F.2.1 dL_caption_4 rfl (lv_at hl 2 rfl) ?_
  refine cx_RL_24 (As := [.int (iI p0), .int (iI p1)]) (rest := [.int (iI 0), .ref ao]) F hl hM hW hS hy rfl rfl ⟨Nat.le_of_ble_eq_true rfl, Nat.le_of_ble_eq_true rfl⟩ (Nat.le_of_ble_eq_true rfl) ⟨Nat.le_of_ble_eq_true rfl, Nat.le_of_ble_eq_true rfl⟩ dL_caption_5 (fun w1 H1 locs1 ce q9 hp hW hS hce hcv hcl => ?_)
  refine h_caught2 F hW htb (by decide) kl_RL_28 (List.mem_of_getElem? (i := 0) rfl) (by decide) (by decide) kl_RL_19 (List.mem_of_getElem? (i := 1) rfl) hce hcv hcl ?_
  refine lv_astore (lv' := (4, .ref q9) :: [(0, .ref y), (1, .int (iI p0)), (2, .int (iI p1)), (3, .ref ao)]) F.1 F.2.1 dL_caption_17 hl (by decide) rfl (fun ls hl => ?_)
  refine h_iconst F dL_caption_19 ?_
  exact h_ireti F hr hlk hW hS hp dL_caption_20
set_option maxHeartbeats 1000000 in
theorem hk_letter (l : Launch) (X : Cx) (w : Wo) (y ao : Nat) (p0 p1 p2 : Int) (fs : List Value) (P : Wo → Prop) (hy : w y = some (.inr (8, fs))) (b : Int) (hM : CM l X yX8_letter cX8_letter 5 (some (.int)) (rmk 4 93) [.ref y, .int (iI p0), .int (iI p1), .int (iI p2)] w (some (.int (iI b))) P) (ho : ∀ w' : Wo, P w' → ∃ g, w' ao = some (aJ X 1 g)) : CL l X yL_letter cL_letter 6 (some (.int)) [(0, 12, 15, 28), (0, 12, 19, 19)] (rmx 8 128) [.ref y, .int (iI p0), .int (iI p1), .int (iI p2), .ref ao] w (some (.int (iI 0))) (fun w2 => ∃ w1, P w1 ∧ (∃ g, w2 ao = some (aJ X 1 g) ∧ g 0 = (iI b).toInt64) ∧ ∀ q : Nat, q ≠ ao → w2 q = w1 q) := by
  refine CL.of (lv := [(0, .ref y), (1, .int (iI p0)), (2, .int (iI p1)), (3, .int (iI p2)), (4, .ref ao)]) (by decide) (Nat.le_of_ble_eq_true rfl) rfl (fun p e s m below meth c ls F htb hr hlk hW hS hl => ?_)
  refine W.widen (k := 1) (n := 6) (Nat.zero_le _) (Nat.zero_le _) ?_
  refine lv_aload F.1 F.2.1 dL_letter_0 (lv_at hl 4 rfl) ?_
  refine h_iconst F dL_letter_2 ?_
  refine lv_aload_n F.1 F.2.1 dL_letter_3 rfl (lv_at hl 0 rfl) ?_
  refine lv_iload_n F.1 F.2.1 dL_letter_4 rfl (lv_at hl 1 rfl) ?_
  refine lv_iload_n F.1 F.2.1 dL_letter_5 rfl (lv_at hl 2 rfl) ?_
  refine lv_iload_n F.1 F.2.1 dL_letter_6 rfl (lv_at hl 3 rfl) ?_
  refine cl_RL_30 (As := [.int (iI p0), .int (iI p1), .int (iI p2)]) (rest := [.int (iI 0), .ref ao]) F hl hM hW hS hy rfl rfl ⟨Nat.le_of_ble_eq_true rfl, Nat.le_of_ble_eq_true rfl⟩ (Nat.le_of_ble_eq_true rfl) ⟨Nat.le_of_ble_eq_true rfl, Nat.le_of_ble_eq_true rfl⟩ dL_letter_7 (fun w1 H1 locs1 hp hW hS => ?_)
  obtain ⟨g, hg⟩ := ho w1 hp
  refine lv_i2l F.1 F.2.1 dL_letter_10 rfl ?_
  refine h_last F hW hS hg (by omega) (by omega) dL_letter_11 (fun w2 H2 locs2 hg2 hn2 hW hS => ?_)
  refine h_goto (tgt := 23) F dL_letter_12 (by decide) ?_
  refine h_iconst F dL_letter_23 ?_
  exact h_ireti F hr hlk hW hS ⟨w1, hp, ⟨_, hg2, by simp [vp_updL]⟩, hn2⟩ dL_letter_24
set_option maxHeartbeats 1000000 in
theorem ht_letter_1 (l : Launch) (X : Cx) (w : Wo) (y ao : Nat) (p0 p1 p2 : Int) (fs : List Value) (P : Wo → Prop) (hy : w y = some (.inr (8, fs))) (hM : CX l X yX8_letter cX8_letter 5 (some (.int)) (rmx 7 104) [.ref y, .int (iI p0), .int (iI p1), .int (iI p2)] w "java/lang/IndexOutOfBoundsException" P) : CL l X yL_letter cL_letter 6 (some (.int)) [(0, 12, 15, 28), (0, 12, 19, 19)] (rmx 8 128) [.ref y, .int (iI p0), .int (iI p1), .int (iI p2), .ref ao] w (some (.int (iI 1))) (P) := by
  refine CL.of (lv := [(0, .ref y), (1, .int (iI p0)), (2, .int (iI p1)), (3, .int (iI p2)), (4, .ref ao)]) (by decide) (Nat.le_of_ble_eq_true rfl) rfl (fun p e s m below meth c ls F htb hr hlk hW hS hl => ?_)
  refine lv_aload F.1 F.2.1 dL_letter_0 (lv_at hl 4 rfl) ?_
  refine h_iconst F dL_letter_2 ?_
  refine lv_aload_n F.1 F.2.1 dL_letter_3 rfl (lv_at hl 0 rfl) ?_
  refine lv_iload_n F.1 F.2.1 dL_letter_4 rfl (lv_at hl 1 rfl) ?_
  refine lv_iload_n F.1 F.2.1 dL_letter_5 rfl (lv_at hl 2 rfl) ?_
  refine lv_iload_n F.1 F.2.1 dL_letter_6 rfl (lv_at hl 3 rfl) ?_
  refine cx_RL_30 (As := [.int (iI p0), .int (iI p1), .int (iI p2)]) (rest := [.int (iI 0), .ref ao]) F hl hM hW hS hy rfl rfl ⟨Nat.le_of_ble_eq_true rfl, Nat.le_of_ble_eq_true rfl⟩ (Nat.le_of_ble_eq_true rfl) ⟨Nat.le_of_ble_eq_true rfl, Nat.le_of_ble_eq_true rfl⟩ dL_letter_7 (fun w1 H1 locs1 ce q9 hp hW hS hce hcv hcl => ?_)
  refine h_caught1 F hW htb (by decide) (by decide) kl_RL_28 (List.mem_of_getElem? (i := 2) rfl) hce hcv hcl ?_
  refine lv_astore (lv' := (5, .ref q9) :: [(0, .ref y), (1, .int (iI p0)), (2, .int (iI p1)), (3, .int (iI p2)), (4, .ref ao)]) F.1 F.2.1 dL_letter_15 hl (by decide) rfl (fun ls hl => ?_)
  refine h_iconst F dL_letter_17 ?_
  exact h_ireti F hr hlk hW hS hp dL_letter_18
set_option maxHeartbeats 1000000 in
theorem ht_letter_2 (l : Launch) (X : Cx) (w : Wo) (y ao : Nat) (p0 p1 p2 : Int) (fs : List Value) (P : Wo → Prop) (hy : w y = some (.inr (8, fs))) (hM : CX l X yX8_letter cX8_letter 5 (some (.int)) (rmx 7 104) [.ref y, .int (iI p0), .int (iI p1), .int (iI p2)] w "java/lang/IllegalArgumentException" P) : CL l X yL_letter cL_letter 6 (some (.int)) [(0, 12, 15, 28), (0, 12, 19, 19)] (rmx 8 128) [.ref y, .int (iI p0), .int (iI p1), .int (iI p2), .ref ao] w (some (.int (iI 2))) (P) := by
  refine CL.of (lv := [(0, .ref y), (1, .int (iI p0)), (2, .int (iI p1)), (3, .int (iI p2)), (4, .ref ao)]) (by decide) (Nat.le_of_ble_eq_true rfl) rfl (fun p e s m below meth c ls F htb hr hlk hW hS hl => ?_)
  refine lv_aload F.1 F.2.1 dL_letter_0 (lv_at hl 4 rfl) ?_
  refine h_iconst F dL_letter_2 ?_
  refine lv_aload_n F.1 F.2.1 dL_letter_3 rfl (lv_at hl 0 rfl) ?_
  refine lv_iload_n F.1 F.2.1 dL_letter_4 rfl (lv_at hl 1 rfl) ?_
  refine lv_iload_n F.1 F.2.1 dL_letter_5 rfl (lv_at hl 2 rfl) ?_
  refine lv_iload_n F.1 F.2.1 dL_letter_6 rfl (lv_at hl 3 rfl) ?_
  refine cx_RL_30 (As := [.int (iI p0), .int (iI p1), .int (iI p2)]) (rest := [.int (iI 0), .ref ao]) F hl hM hW hS hy rfl rfl ⟨Nat.le_of_ble_eq_true rfl, Nat.le_of_ble_eq_true rfl⟩ (Nat.le_of_ble_eq_true rfl) ⟨Nat.le_of_ble_eq_true rfl, Nat.le_of_ble_eq_true rfl⟩ dL_letter_7 (fun w1 H1 locs1 ce q9 hp hW hS hce hcv hcl => ?_)
  refine h_caught2 F hW htb (by decide) kl_RL_28 (List.mem_of_getElem? (i := 0) rfl) (by decide) (by decide) kl_RL_19 (List.mem_of_getElem? (i := 1) rfl) hce hcv hcl ?_
  refine lv_astore (lv' := (5, .ref q9) :: [(0, .ref y), (1, .int (iI p0)), (2, .int (iI p1)), (3, .int (iI p2)), (4, .ref ao)]) F.1 F.2.1 dL_letter_19 hl (by decide) rfl (fun ls hl => ?_)
  refine h_iconst F dL_letter_21 ?_
  exact h_ireti F hr hlk hW hS hp dL_letter_22
set_option maxHeartbeats 1000000 in
theorem hk_cell (l : Launch) (X : Cx) (w : Wo) (y ao : Nat) (p0 p1 : Int) (fs : List Value) (P : Wo → Prop) (hy : w y = some (.inr (8, fs))) (b : Int) (hM : CM l X yX8_cell cX8_cell 3 (some (.int)) (rmk 2 46) [.ref y, .int (iI p0), .int (iI p1)] w (some (.int (iI b))) P) (ho : ∀ w' : Wo, P w' → ∃ g, w' ao = some (aJ X 1 g)) : CL l X yL_cell cL_cell 5 (some (.int)) [(0, 10, 13, 28)] (rmx 8 126) [.ref y, .int (iI p0), .int (iI p1), .ref ao] w (some (.int (iI 0))) (fun w2 => ∃ w1, P w1 ∧ (∃ g, w2 ao = some (aJ X 1 g) ∧ g 0 = (iI b).toInt64) ∧ ∀ q : Nat, q ≠ ao → w2 q = w1 q) := by
  refine CL.of (lv := [(0, .ref y), (1, .int (iI p0)), (2, .int (iI p1)), (3, .ref ao)]) (by decide) (Nat.le_of_ble_eq_true rfl) rfl (fun p e s m below meth c ls F htb hr hlk hW hS hl => ?_)
  refine W.widen (k := 1) (n := 6) (Nat.zero_le _) (Nat.zero_le _) ?_
  refine lv_aload_n F.1 F.2.1 dL_cell_0 rfl (lv_at hl 3 rfl) ?_
  refine h_iconst F dL_cell_1 ?_
  refine lv_aload_n F.1 F.2.1 dL_cell_2 rfl (lv_at hl 0 rfl) ?_
  refine lv_iload_n F.1 F.2.1 dL_cell_3 rfl (lv_at hl 1 rfl) ?_
  refine lv_iload_n F.1 F.2.1 dL_cell_4 rfl (lv_at hl 2 rfl) ?_
  refine cl_RL_34 (As := [.int (iI p0), .int (iI p1)]) (rest := [.int (iI 0), .ref ao]) F hl hM hW hS hy rfl rfl ⟨Nat.le_of_ble_eq_true rfl, Nat.le_of_ble_eq_true rfl⟩ (Nat.le_of_ble_eq_true rfl) ⟨Nat.le_of_ble_eq_true rfl, Nat.le_of_ble_eq_true rfl⟩ dL_cell_5 (fun w1 H1 locs1 hp hW hS => ?_)
  obtain ⟨g, hg⟩ := ho w1 hp
  refine lv_i2l F.1 F.2.1 dL_cell_8 rfl ?_
  refine h_last F hW hS hg (by omega) (by omega) dL_cell_9 (fun w2 H2 locs2 hg2 hn2 hW hS => ?_)
  refine h_goto (tgt := 17) F dL_cell_10 (by decide) ?_
  refine h_iconst F dL_cell_17 ?_
  exact h_ireti F hr hlk hW hS ⟨w1, hp, ⟨_, hg2, by simp [vp_updL]⟩, hn2⟩ dL_cell_18
set_option maxHeartbeats 1000000 in
theorem ht_cell_1 (l : Launch) (X : Cx) (w : Wo) (y ao : Nat) (p0 p1 : Int) (fs : List Value) (P : Wo → Prop) (hy : w y = some (.inr (8, fs))) (hM : CX l X yX8_cell cX8_cell 3 (some (.int)) (rmx 7 104) [.ref y, .int (iI p0), .int (iI p1)] w "java/lang/IndexOutOfBoundsException" P) : CL l X yL_cell cL_cell 5 (some (.int)) [(0, 10, 13, 28)] (rmx 8 126) [.ref y, .int (iI p0), .int (iI p1), .ref ao] w (some (.int (iI 1))) (P) := by
  refine CL.of (lv := [(0, .ref y), (1, .int (iI p0)), (2, .int (iI p1)), (3, .ref ao)]) (by decide) (Nat.le_of_ble_eq_true rfl) rfl (fun p e s m below meth c ls F htb hr hlk hW hS hl => ?_)
  refine lv_aload_n F.1 F.2.1 dL_cell_0 rfl (lv_at hl 3 rfl) ?_
  refine h_iconst F dL_cell_1 ?_
  refine lv_aload_n F.1 F.2.1 dL_cell_2 rfl (lv_at hl 0 rfl) ?_
  refine lv_iload_n F.1 F.2.1 dL_cell_3 rfl (lv_at hl 1 rfl) ?_
  refine lv_iload_n F.1 F.2.1 dL_cell_4 rfl (lv_at hl 2 rfl) ?_
  refine cx_RL_34 (As := [.int (iI p0), .int (iI p1)]) (rest := [.int (iI 0), .ref ao]) F hl hM hW hS hy rfl rfl ⟨Nat.le_of_ble_eq_true rfl, Nat.le_of_ble_eq_true rfl⟩ (Nat.le_of_ble_eq_true rfl) ⟨Nat.le_of_ble_eq_true rfl, Nat.le_of_ble_eq_true rfl⟩ dL_cell_5 (fun w1 H1 locs1 ce q9 hp hW hS hce hcv hcl => ?_)
  refine h_caught1 F hW htb (by decide) (by decide) kl_RL_28 (List.mem_of_getElem? (i := 2) rfl) hce hcv hcl ?_
  refine lv_astore (lv' := (4, .ref q9) :: [(0, .ref y), (1, .int (iI p0)), (2, .int (iI p1)), (3, .ref ao)]) F.1 F.2.1 dL_cell_13 hl (by decide) rfl (fun ls hl => ?_)
  refine h_iconst F dL_cell_15 ?_
  exact h_ireti F hr hlk hW hS hp dL_cell_16
set_option maxHeartbeats 1000000 in
theorem hk_design (l : Launch) (X : Cx) (w : Wo) (y ao : Nat) (p0 p1 : Int) (fs : List Value) (P : Wo → Prop) (hy : w y = some (.inr (8, fs))) (b : Int) (hM : CM l X yX8_design cX8_design 3 (some (.int)) (rmk 2 46) [.ref y, .int (iI p0), .int (iI p1)] w (some (.int (iI b))) P) (ho : ∀ w' : Wo, P w' → ∃ g, w' ao = some (aJ X 1 g)) : CL l X yL_design cL_design 5 (some (.int)) [(0, 10, 13, 28)] (rmx 8 126) [.ref y, .int (iI p0), .int (iI p1), .ref ao] w (some (.int (iI 0))) (fun w2 => ∃ w1, P w1 ∧ (∃ g, w2 ao = some (aJ X 1 g) ∧ g 0 = (iI b).toInt64) ∧ ∀ q : Nat, q ≠ ao → w2 q = w1 q) := by
  refine CL.of (lv := [(0, .ref y), (1, .int (iI p0)), (2, .int (iI p1)), (3, .ref ao)]) (by decide) (Nat.le_of_ble_eq_true rfl) rfl (fun p e s m below meth c ls F htb hr hlk hW hS hl => ?_)
  refine W.widen (k := 1) (n := 6) (Nat.zero_le _) (Nat.zero_le _) ?_
  refine lv_aload_n F.1 F.2.1 dL_design_0 rfl (lv_at hl 3 rfl) ?_
  refine h_iconst F dL_design_1 ?_
  refine lv_aload_n F.1 F.2.1 dL_design_2 rfl (lv_at hl 0 rfl) ?_
  refine lv_iload_n F.1 F.2.1 dL_design_3 rfl (lv_at hl 1 rfl) ?_
  refine lv_iload_n F.1 F.2.1 dL_design_4 rfl (lv_at hl 2 rfl) ?_
  refine cl_RL_37 (As := [.int (iI p0), .int (iI p1)]) (rest := [.int (iI 0), .ref ao]) F hl hM hW hS hy rfl rfl ⟨Nat.le_of_ble_eq_true rfl, Nat.le_of_ble_eq_true rfl⟩ (Nat.le_of_ble_eq_true rfl) ⟨Nat.le_of_ble_eq_true rfl, Nat.le_of_ble_eq_true rfl⟩ dL_design_5 (fun w1 H1 locs1 hp hW hS => ?_)
  obtain ⟨g, hg⟩ := ho w1 hp
  refine lv_i2l F.1 F.2.1 dL_design_8 rfl ?_
  refine h_last F hW hS hg (by omega) (by omega) dL_design_9 (fun w2 H2 locs2 hg2 hn2 hW hS => ?_)
  refine h_goto (tgt := 17) F dL_design_10 (by decide) ?_
  refine h_iconst F dL_design_17 ?_
  exact h_ireti F hr hlk hW hS ⟨w1, hp, ⟨_, hg2, by simp [vp_updL]⟩, hn2⟩ dL_design_18
set_option maxHeartbeats 1000000 in
theorem ht_design_1 (l : Launch) (X : Cx) (w : Wo) (y ao : Nat) (p0 p1 : Int) (fs : List Value) (P : Wo → Prop) (hy : w y = some (.inr (8, fs))) (hM : CX l X yX8_design cX8_design 3 (some (.int)) (rmx 7 104) [.ref y, .int (iI p0), .int (iI p1)] w "java/lang/IndexOutOfBoundsException" P) : CL l X yL_design cL_design 5 (some (.int)) [(0, 10, 13, 28)] (rmx 8 126) [.ref y, .int (iI p0), .int (iI p1), .ref ao] w (some (.int (iI 1))) (P) := by
  refine CL.of (lv := [(0, .ref y), (1, .int (iI p0)), (2, .int (iI p1)), (3, .ref ao)]) (by decide) (Nat.le_of_ble_eq_true rfl) rfl (fun p e s m below meth c ls F htb hr hlk hW hS hl => ?_)
  refine lv_aload_n F.1 F.2.1 dL_design_0 rfl (lv_at hl 3 rfl) ?_
  refine h_iconst F dL_design_1 ?_
  refine lv_aload_n F.1 F.2.1 dL_design_2 rfl (lv_at hl 0 rfl) ?_
  refine lv_iload_n F.1 F.2.1 dL_design_3 rfl (lv_at hl 1 rfl) ?_
  refine lv_iload_n F.1 F.2.1 dL_design_4 rfl (lv_at hl 2 rfl) ?_
  refine cx_RL_37 (As := [.int (iI p0), .int (iI p1)]) (rest := [.int (iI 0), .ref ao]) F hl hM hW hS hy rfl rfl ⟨Nat.le_of_ble_eq_true rfl, Nat.le_of_ble_eq_true rfl⟩ (Nat.le_of_ble_eq_true rfl) ⟨Nat.le_of_ble_eq_true rfl, Nat.le_of_ble_eq_true rfl⟩ dL_design_5 (fun w1 H1 locs1 ce q9 hp hW hS hce hcv hcl => ?_)
  refine h_caught1 F hW htb (by decide) (by decide) kl_RL_28 (List.mem_of_getElem? (i := 2) rfl) hce hcv hcl ?_
  refine lv_astore (lv' := (4, .ref q9) :: [(0, .ref y), (1, .int (iI p0)), (2, .int (iI p1)), (3, .ref ao)]) F.1 F.2.1 dL_design_13 hl (by decide) rfl (fun ls hl => ?_)
  refine h_iconst F dL_design_15 ?_
  exact h_ireti F hr hlk hW hS hp dL_design_16
set_option maxHeartbeats 1000000 in
theorem hk_colour (l : Launch) (X : Cx) (w : Wo) (y ao : Nat) (p0 p1 : Int) (fs : List Value) (P : Wo → Prop) (hy : w y = some (.inr (8, fs))) (b : Int) (hM : CM l X yX8_colour cX8_colour 3 (some (.int)) (rmk 4 92) [.ref y, .int (iI p0), .int (iI p1)] w (some (.int (iI b))) P) (ho : ∀ w' : Wo, P w' → ∃ g, w' ao = some (aJ X 1 g)) : CL l X yL_colour cL_colour 5 (some (.int)) [(0, 10, 13, 28), (0, 10, 17, 19)] (rmx 8 126) [.ref y, .int (iI p0), .int (iI p1), .ref ao] w (some (.int (iI 0))) (fun w2 => ∃ w1, P w1 ∧ (∃ g, w2 ao = some (aJ X 1 g) ∧ g 0 = (iI b).toInt64) ∧ ∀ q : Nat, q ≠ ao → w2 q = w1 q) := by
  refine CL.of (lv := [(0, .ref y), (1, .int (iI p0)), (2, .int (iI p1)), (3, .ref ao)]) (by decide) (Nat.le_of_ble_eq_true rfl) rfl (fun p e s m below meth c ls F htb hr hlk hW hS hl => ?_)
  refine W.widen (k := 1) (n := 6) (Nat.zero_le _) (Nat.zero_le _) ?_
  refine lv_aload_n F.1 F.2.1 dL_colour_0 rfl (lv_at hl 3 rfl) ?_
  refine h_iconst F dL_colour_1 ?_
  refine lv_aload_n F.1 F.2.1 dL_colour_2 rfl (lv_at hl 0 rfl) ?_
  refine lv_iload_n F.1 F.2.1 dL_colour_3 rfl (lv_at hl 1 rfl) ?_
  refine lv_iload_n F.1 F.2.1 dL_colour_4 rfl (lv_at hl 2 rfl) ?_
  refine cl_RL_40 (As := [.int (iI p0), .int (iI p1)]) (rest := [.int (iI 0), .ref ao]) F hl hM hW hS hy rfl rfl ⟨Nat.le_of_ble_eq_true rfl, Nat.le_of_ble_eq_true rfl⟩ (Nat.le_of_ble_eq_true rfl) ⟨Nat.le_of_ble_eq_true rfl, Nat.le_of_ble_eq_true rfl⟩ dL_colour_5 (fun w1 H1 locs1 hp hW hS => ?_)
  obtain ⟨g, hg⟩ := ho w1 hp
  refine lv_i2l F.1 F.2.1 dL_colour_8 rfl ?_
  refine h_last F hW hS hg (by omega) (by omega) dL_colour_9 (fun w2 H2 locs2 hg2 hn2 hW hS => ?_)
  refine h_goto (tgt := 21) F dL_colour_10 (by decide) ?_
  refine h_iconst F dL_colour_21 ?_
  exact h_ireti F hr hlk hW hS ⟨w1, hp, ⟨_, hg2, by simp [vp_updL]⟩, hn2⟩ dL_colour_22
set_option maxHeartbeats 1000000 in
theorem ht_colour_1 (l : Launch) (X : Cx) (w : Wo) (y ao : Nat) (p0 p1 : Int) (fs : List Value) (P : Wo → Prop) (hy : w y = some (.inr (8, fs))) (hM : CX l X yX8_colour cX8_colour 3 (some (.int)) (rmx 7 104) [.ref y, .int (iI p0), .int (iI p1)] w "java/lang/IndexOutOfBoundsException" P) : CL l X yL_colour cL_colour 5 (some (.int)) [(0, 10, 13, 28), (0, 10, 17, 19)] (rmx 8 126) [.ref y, .int (iI p0), .int (iI p1), .ref ao] w (some (.int (iI 1))) (P) := by
  refine CL.of (lv := [(0, .ref y), (1, .int (iI p0)), (2, .int (iI p1)), (3, .ref ao)]) (by decide) (Nat.le_of_ble_eq_true rfl) rfl (fun p e s m below meth c ls F htb hr hlk hW hS hl => ?_)
  refine lv_aload_n F.1 F.2.1 dL_colour_0 rfl (lv_at hl 3 rfl) ?_
  refine h_iconst F dL_colour_1 ?_
  refine lv_aload_n F.1 F.2.1 dL_colour_2 rfl (lv_at hl 0 rfl) ?_
  refine lv_iload_n F.1 F.2.1 dL_colour_3 rfl (lv_at hl 1 rfl) ?_
  refine lv_iload_n F.1 F.2.1 dL_colour_4 rfl (lv_at hl 2 rfl) ?_
  refine cx_RL_40 (As := [.int (iI p0), .int (iI p1)]) (rest := [.int (iI 0), .ref ao]) F hl hM hW hS hy rfl rfl ⟨Nat.le_of_ble_eq_true rfl, Nat.le_of_ble_eq_true rfl⟩ (Nat.le_of_ble_eq_true rfl) ⟨Nat.le_of_ble_eq_true rfl, Nat.le_of_ble_eq_true rfl⟩ dL_colour_5 (fun w1 H1 locs1 ce q9 hp hW hS hce hcv hcl => ?_)
  refine h_caught1 F hW htb (by decide) (by decide) kl_RL_28 (List.mem_of_getElem? (i := 2) rfl) hce hcv hcl ?_
  refine lv_astore (lv' := (4, .ref q9) :: [(0, .ref y), (1, .int (iI p0)), (2, .int (iI p1)), (3, .ref ao)]) F.1 F.2.1 dL_colour_13 hl (by decide) rfl (fun ls hl => ?_)
  refine h_iconst F dL_colour_15 ?_
  exact h_ireti F hr hlk hW hS hp dL_colour_16
set_option maxHeartbeats 1000000 in
theorem ht_colour_2 (l : Launch) (X : Cx) (w : Wo) (y ao : Nat) (p0 p1 : Int) (fs : List Value) (P : Wo → Prop) (hy : w y = some (.inr (8, fs))) (hM : CX l X yX8_colour cX8_colour 3 (some (.int)) (rmx 7 104) [.ref y, .int (iI p0), .int (iI p1)] w "java/lang/IllegalArgumentException" P) : CL l X yL_colour cL_colour 5 (some (.int)) [(0, 10, 13, 28), (0, 10, 17, 19)] (rmx 8 126) [.ref y, .int (iI p0), .int (iI p1), .ref ao] w (some (.int (iI 2))) (P) := by
  refine CL.of (lv := [(0, .ref y), (1, .int (iI p0)), (2, .int (iI p1)), (3, .ref ao)]) (by decide) (Nat.le_of_ble_eq_true rfl) rfl (fun p e s m below meth c ls F htb hr hlk hW hS hl => ?_)
  refine lv_aload_n F.1 F.2.1 dL_colour_0 rfl (lv_at hl 3 rfl) ?_
  refine h_iconst F dL_colour_1 ?_
  refine lv_aload_n F.1 F.2.1 dL_colour_2 rfl (lv_at hl 0 rfl) ?_
  refine lv_iload_n F.1 F.2.1 dL_colour_3 rfl (lv_at hl 1 rfl) ?_
  refine lv_iload_n F.1 F.2.1 dL_colour_4 rfl (lv_at hl 2 rfl) ?_
  refine cx_RL_40 (As := [.int (iI p0), .int (iI p1)]) (rest := [.int (iI 0), .ref ao]) F hl hM hW hS hy rfl rfl ⟨Nat.le_of_ble_eq_true rfl, Nat.le_of_ble_eq_true rfl⟩ (Nat.le_of_ble_eq_true rfl) ⟨Nat.le_of_ble_eq_true rfl, Nat.le_of_ble_eq_true rfl⟩ dL_colour_5 (fun w1 H1 locs1 ce q9 hp hW hS hce hcv hcl => ?_)
  refine h_caught2 F hW htb (by decide) kl_RL_28 (List.mem_of_getElem? (i := 0) rfl) (by decide) (by decide) kl_RL_19 (List.mem_of_getElem? (i := 1) rfl) hce hcv hcl ?_
  refine lv_astore (lv' := (4, .ref q9) :: [(0, .ref y), (1, .int (iI p0)), (2, .int (iI p1)), (3, .ref ao)]) F.1 F.2.1 dL_colour_17 hl (by decide) rfl (fun ls hl => ?_)
  refine h_iconst F dL_colour_19 ?_
  exact h_ireti F hr hlk hW hS hp dL_colour_20
set_option maxHeartbeats 1000000 in
theorem hk_mistakes (l : Launch) (X : Cx) (w : Wo) (y ao : Nat) (p0 : Int) (fs : List Value) (P : Wo → Prop) (hy : w y = some (.inr (8, fs))) (b : Int) (hM : CM l X yX8_mistakes cX8_mistakes 2 (some (.int)) (rmk 5 114) [.ref y, .int (iI p0)] w (some (.int (iI b))) P) (ho : ∀ w' : Wo, P w' → ∃ g, w' ao = some (aJ X 1 g)) : CL l X yL_mistakes cL_mistakes 4 (some (.int)) [(0, 9, 12, 19)] (rmx 8 135) [.ref y, .int (iI p0), .ref ao] w (some (.int (iI 0))) (fun w2 => ∃ w1, P w1 ∧ (∃ g, w2 ao = some (aJ X 1 g) ∧ g 0 = (iI b).toInt64) ∧ ∀ q : Nat, q ≠ ao → w2 q = w1 q) := by
  refine CL.of (lv := [(0, .ref y), (1, .int (iI p0)), (2, .ref ao)]) (by decide) (Nat.le_of_ble_eq_true rfl) rfl (fun p e s m below meth c ls F htb hr hlk hW hS hl => ?_)
  refine W.widen (k := 1) (n := 6) (Nat.zero_le _) (Nat.zero_le _) ?_
  refine lv_aload_n F.1 F.2.1 dL_mistakes_0 rfl (lv_at hl 2 rfl) ?_
  refine h_iconst F dL_mistakes_1 ?_
  refine lv_aload_n F.1 F.2.1 dL_mistakes_2 rfl (lv_at hl 0 rfl) ?_
  refine lv_iload_n F.1 F.2.1 dL_mistakes_3 rfl (lv_at hl 1 rfl) ?_
  refine cl_RL_43 (As := [.int (iI p0)]) (rest := [.int (iI 0), .ref ao]) F hl hM hW hS hy rfl rfl ⟨Nat.le_of_ble_eq_true rfl, Nat.le_of_ble_eq_true rfl⟩ (Nat.le_of_ble_eq_true rfl) ⟨Nat.le_of_ble_eq_true rfl, Nat.le_of_ble_eq_true rfl⟩ dL_mistakes_4 (fun w1 H1 locs1 hp hW hS => ?_)
  obtain ⟨g, hg⟩ := ho w1 hp
  refine lv_i2l F.1 F.2.1 dL_mistakes_7 rfl ?_
  refine h_last F hW hS hg (by omega) (by omega) dL_mistakes_8 (fun w2 H2 locs2 hg2 hn2 hW hS => ?_)
  refine h_goto (tgt := 15) F dL_mistakes_9 (by decide) ?_
  refine h_iconst F dL_mistakes_15 ?_
  exact h_ireti F hr hlk hW hS ⟨w1, hp, ⟨_, hg2, by simp [vp_updL]⟩, hn2⟩ dL_mistakes_16
set_option maxHeartbeats 1000000 in
theorem ht_mistakes_1 (l : Launch) (X : Cx) (w : Wo) (y ao : Nat) (p0 : Int) (fs : List Value) (P : Wo → Prop) (hy : w y = some (.inr (8, fs))) (hM : CX l X yX8_mistakes cX8_mistakes 2 (some (.int)) (rmx 7 104) [.ref y, .int (iI p0)] w "java/lang/IllegalArgumentException" P) : CL l X yL_mistakes cL_mistakes 4 (some (.int)) [(0, 9, 12, 19)] (rmx 8 135) [.ref y, .int (iI p0), .ref ao] w (some (.int (iI 1))) (P) := by
  refine CL.of (lv := [(0, .ref y), (1, .int (iI p0)), (2, .ref ao)]) (by decide) (Nat.le_of_ble_eq_true rfl) rfl (fun p e s m below meth c ls F htb hr hlk hW hS hl => ?_)
  refine lv_aload_n F.1 F.2.1 dL_mistakes_0 rfl (lv_at hl 2 rfl) ?_
  refine h_iconst F dL_mistakes_1 ?_
  refine lv_aload_n F.1 F.2.1 dL_mistakes_2 rfl (lv_at hl 0 rfl) ?_
  refine lv_iload_n F.1 F.2.1 dL_mistakes_3 rfl (lv_at hl 1 rfl) ?_
  refine cx_RL_43 (As := [.int (iI p0)]) (rest := [.int (iI 0), .ref ao]) F hl hM hW hS hy rfl rfl ⟨Nat.le_of_ble_eq_true rfl, Nat.le_of_ble_eq_true rfl⟩ (Nat.le_of_ble_eq_true rfl) ⟨Nat.le_of_ble_eq_true rfl, Nat.le_of_ble_eq_true rfl⟩ dL_mistakes_4 (fun w1 H1 locs1 ce q9 hp hW hS hce hcv hcl => ?_)
  refine h_caught1 F hW htb (by decide) (by decide) kl_RL_19 (List.mem_of_getElem? (i := 1) rfl) hce hcv hcl ?_
  refine lv_astore_n (lv' := (3, .ref q9) :: [(0, .ref y), (1, .int (iI p0)), (2, .ref ao)]) F.1 F.2.1 dL_mistakes_12 rfl hl (by decide) rfl (fun ls hl => ?_)
  refine h_iconst F dL_mistakes_13 ?_
  exact h_ireti F hr hlk hW hS hp dL_mistakes_14
set_option maxHeartbeats 1000000 in
theorem hk_isAlike (l : Launch) (X : Cx) (w : Wo) (y ao : Nat) (p0 : Int) (fs : List Value) (P : Wo → Prop) (hy : w y = some (.inr (8, fs))) (b : Bool) (hM : CM l X yX8_isAlike cX8_isAlike 2 (some (.boolean)) (rmk 4 84) [.ref y, .int (iI p0)] w (some (.int (iI (bz b)))) P) (ho : ∀ w' : Wo, P w' → ∃ g, w' ao = some (aJ X 1 g)) : CL l X yL_isAlike cL_isAlike 4 (some (.int)) [(0, 16, 19, 28)] (rmx 8 125) [.ref y, .int (iI p0), .ref ao] w (some (.int (iI 0))) (fun w2 => ∃ w1, P w1 ∧ (∃ g, w2 ao = some (aJ X 1 g) ∧ g 0 = lI (bz b)) ∧ ∀ q : Nat, q ≠ ao → w2 q = w1 q) := by
  refine CL.of (lv := [(0, .ref y), (1, .int (iI p0)), (2, .ref ao)]) (by decide) (Nat.le_of_ble_eq_true rfl) rfl (fun p e s m below meth c ls F htb hr hlk hW hS hl => ?_)
  refine W.widen (k := 1) (n := 6) (Nat.zero_le _) (Nat.zero_le _) ?_
  refine lv_aload_n F.1 F.2.1 dL_isAlike_0 rfl (lv_at hl 2 rfl) ?_
  refine h_iconst F dL_isAlike_1 ?_
  refine lv_aload_n F.1 F.2.1 dL_isAlike_2 rfl (lv_at hl 0 rfl) ?_
  refine lv_iload_n F.1 F.2.1 dL_isAlike_3 rfl (lv_at hl 1 rfl) ?_
  refine cl_RL_46 (As := [.int (iI p0)]) (rest := [.int (iI 0), .ref ao]) F hl hM hW hS hy rfl rfl ⟨Nat.le_of_ble_eq_true rfl, Nat.le_of_ble_eq_true rfl⟩ (Nat.le_of_ble_eq_true rfl) ⟨Nat.le_of_ble_eq_true rfl, Nat.le_of_ble_eq_true rfl⟩ dL_isAlike_4 (fun w1 H1 locs1 hp hW hS => ?_)
  obtain ⟨g, hg⟩ := ho w1 hp
  refine h_ifeqb (tgt := 14) F dL_isAlike_7 (by decide) (fun hb => ?_) (fun hb => ?_)
  · subst hb
    refine h_lconst (n := 0) (z := 0) F dL_isAlike_14 rfl ?_
    refine h_last F hW hS hg (by omega) (by omega) dL_isAlike_15 (fun w2 H2 locs2 hg2 hn2 hW hS => ?_)
    refine h_goto (tgt := 22) F dL_isAlike_16 (by decide) ?_
    refine h_iconst F dL_isAlike_22 ?_
    exact h_ireti F hr hlk hW hS ⟨w1, hp, ⟨_, hg2, by simp [vp_updL, bz]⟩, hn2⟩ dL_isAlike_23
  · subst hb
    refine h_lconst (n := 1) (z := 1) F dL_isAlike_10 rfl ?_
    refine h_goto (tgt := 15) F dL_isAlike_11 (by decide) ?_
    refine h_last F hW hS hg (by omega) (by omega) dL_isAlike_15 (fun w2 H2 locs2 hg2 hn2 hW hS => ?_)
    refine h_goto (tgt := 22) F dL_isAlike_16 (by decide) ?_
    refine h_iconst F dL_isAlike_22 ?_
    exact h_ireti F hr hlk hW hS ⟨w1, hp, ⟨_, hg2, by simp [vp_updL, bz]⟩, hn2⟩ dL_isAlike_23
set_option maxHeartbeats 1000000 in
theorem ht_isAlike_1 (l : Launch) (X : Cx) (w : Wo) (y ao : Nat) (p0 : Int) (fs : List Value) (P : Wo → Prop) (hy : w y = some (.inr (8, fs))) (hM : CX l X yX8_isAlike cX8_isAlike 2 (some (.boolean)) (rmx 7 104) [.ref y, .int (iI p0)] w "java/lang/IndexOutOfBoundsException" P) : CL l X yL_isAlike cL_isAlike 4 (some (.int)) [(0, 16, 19, 28)] (rmx 8 125) [.ref y, .int (iI p0), .ref ao] w (some (.int (iI 1))) (P) := by
  refine CL.of (lv := [(0, .ref y), (1, .int (iI p0)), (2, .ref ao)]) (by decide) (Nat.le_of_ble_eq_true rfl) rfl (fun p e s m below meth c ls F htb hr hlk hW hS hl => ?_)
  refine lv_aload_n F.1 F.2.1 dL_isAlike_0 rfl (lv_at hl 2 rfl) ?_
  refine h_iconst F dL_isAlike_1 ?_
  refine lv_aload_n F.1 F.2.1 dL_isAlike_2 rfl (lv_at hl 0 rfl) ?_
  refine lv_iload_n F.1 F.2.1 dL_isAlike_3 rfl (lv_at hl 1 rfl) ?_
  refine cx_RL_46 (As := [.int (iI p0)]) (rest := [.int (iI 0), .ref ao]) F hl hM hW hS hy rfl rfl ⟨Nat.le_of_ble_eq_true rfl, Nat.le_of_ble_eq_true rfl⟩ (Nat.le_of_ble_eq_true rfl) ⟨Nat.le_of_ble_eq_true rfl, Nat.le_of_ble_eq_true rfl⟩ dL_isAlike_4 (fun w1 H1 locs1 ce q9 hp hW hS hce hcv hcl => ?_)
  refine h_caught1 F hW htb (by decide) (by decide) kl_RL_28 (List.mem_of_getElem? (i := 2) rfl) hce hcv hcl ?_
  refine lv_astore_n (lv' := (3, .ref q9) :: [(0, .ref y), (1, .int (iI p0)), (2, .ref ao)]) F.1 F.2.1 dL_isAlike_19 rfl hl (by decide) rfl (fun ls hl => ?_)
  refine h_iconst F dL_isAlike_20 ?_
  exact h_ireti F hr hlk hW hS hp dL_isAlike_21
set_option maxHeartbeats 1000000 in
theorem hk_joins (l : Launch) (X : Cx) (w : Wo) (y ao : Nat) (p0 : Int) (fs : List Value) (P : Wo → Prop) (hy : w y = some (.inr (8, fs))) (b : Int) (hM : CM l X yX8_joins cX8_joins 2 (some (.int)) (rmk 4 92) [.ref y, .int (iI p0)] w (some (.int (iI b))) P) (ho : ∀ w' : Wo, P w' → ∃ g, w' ao = some (aJ X 1 g)) : CL l X yL_joins cL_joins 4 (some (.int)) [(0, 9, 12, 28)] (rmx 8 125) [.ref y, .int (iI p0), .ref ao] w (some (.int (iI 0))) (fun w2 => ∃ w1, P w1 ∧ (∃ g, w2 ao = some (aJ X 1 g) ∧ g 0 = (iI b).toInt64) ∧ ∀ q : Nat, q ≠ ao → w2 q = w1 q) := by
  refine CL.of (lv := [(0, .ref y), (1, .int (iI p0)), (2, .ref ao)]) (by decide) (Nat.le_of_ble_eq_true rfl) rfl (fun p e s m below meth c ls F htb hr hlk hW hS hl => ?_)
  refine W.widen (k := 1) (n := 6) (Nat.zero_le _) (Nat.zero_le _) ?_
  refine lv_aload_n F.1 F.2.1 dL_joins_0 rfl (lv_at hl 2 rfl) ?_
  refine h_iconst F dL_joins_1 ?_
  refine lv_aload_n F.1 F.2.1 dL_joins_2 rfl (lv_at hl 0 rfl) ?_
  refine lv_iload_n F.1 F.2.1 dL_joins_3 rfl (lv_at hl 1 rfl) ?_
  refine cl_RL_50 (As := [.int (iI p0)]) (rest := [.int (iI 0), .ref ao]) F hl hM hW hS hy rfl rfl ⟨Nat.le_of_ble_eq_true rfl, Nat.le_of_ble_eq_true rfl⟩ (Nat.le_of_ble_eq_true rfl) ⟨Nat.le_of_ble_eq_true rfl, Nat.le_of_ble_eq_true rfl⟩ dL_joins_4 (fun w1 H1 locs1 hp hW hS => ?_)
  obtain ⟨g, hg⟩ := ho w1 hp
  refine lv_i2l F.1 F.2.1 dL_joins_7 rfl ?_
  refine h_last F hW hS hg (by omega) (by omega) dL_joins_8 (fun w2 H2 locs2 hg2 hn2 hW hS => ?_)
  refine h_goto (tgt := 15) F dL_joins_9 (by decide) ?_
  refine h_iconst F dL_joins_15 ?_
  exact h_ireti F hr hlk hW hS ⟨w1, hp, ⟨_, hg2, by simp [vp_updL]⟩, hn2⟩ dL_joins_16
set_option maxHeartbeats 1000000 in
theorem ht_joins_1 (l : Launch) (X : Cx) (w : Wo) (y ao : Nat) (p0 : Int) (fs : List Value) (P : Wo → Prop) (hy : w y = some (.inr (8, fs))) (hM : CX l X yX8_joins cX8_joins 2 (some (.int)) (rmx 7 104) [.ref y, .int (iI p0)] w "java/lang/IndexOutOfBoundsException" P) : CL l X yL_joins cL_joins 4 (some (.int)) [(0, 9, 12, 28)] (rmx 8 125) [.ref y, .int (iI p0), .ref ao] w (some (.int (iI 1))) (P) := by
  refine CL.of (lv := [(0, .ref y), (1, .int (iI p0)), (2, .ref ao)]) (by decide) (Nat.le_of_ble_eq_true rfl) rfl (fun p e s m below meth c ls F htb hr hlk hW hS hl => ?_)
  refine lv_aload_n F.1 F.2.1 dL_joins_0 rfl (lv_at hl 2 rfl) ?_
  refine h_iconst F dL_joins_1 ?_
  refine lv_aload_n F.1 F.2.1 dL_joins_2 rfl (lv_at hl 0 rfl) ?_
  refine lv_iload_n F.1 F.2.1 dL_joins_3 rfl (lv_at hl 1 rfl) ?_
  refine cx_RL_50 (As := [.int (iI p0)]) (rest := [.int (iI 0), .ref ao]) F hl hM hW hS hy rfl rfl ⟨Nat.le_of_ble_eq_true rfl, Nat.le_of_ble_eq_true rfl⟩ (Nat.le_of_ble_eq_true rfl) ⟨Nat.le_of_ble_eq_true rfl, Nat.le_of_ble_eq_true rfl⟩ dL_joins_4 (fun w1 H1 locs1 ce q9 hp hW hS hce hcv hcl => ?_)
  refine h_caught1 F hW htb (by decide) (by decide) kl_RL_28 (List.mem_of_getElem? (i := 2) rfl) hce hcv hcl ?_
  refine lv_astore_n (lv' := (3, .ref q9) :: [(0, .ref y), (1, .int (iI p0)), (2, .ref ao)]) F.1 F.2.1 dL_joins_12 rfl hl (by decide) rfl (fun ls hl => ?_)
  refine h_iconst F dL_joins_13 ?_
  exact h_ireti F hr hlk hW hS hp dL_joins_14
set_option maxHeartbeats 1000000 in
theorem hk_slits (l : Launch) (X : Cx) (w : Wo) (y ao : Nat) (p0 : Int) (fs : List Value) (P : Wo → Prop) (hy : w y = some (.inr (8, fs))) (b : Int) (hM : CM l X yX8_slits cX8_slits 2 (some (.int)) (rmk 4 93) [.ref y, .int (iI p0)] w (some (.int (iI b))) P) (ho : ∀ w' : Wo, P w' → ∃ g, w' ao = some (aJ X 1 g)) : CL l X yL_slits cL_slits 4 (some (.int)) [(0, 9, 12, 19)] (rmx 8 125) [.ref y, .int (iI p0), .ref ao] w (some (.int (iI 0))) (fun w2 => ∃ w1, P w1 ∧ (∃ g, w2 ao = some (aJ X 1 g) ∧ g 0 = (iI b).toInt64) ∧ ∀ q : Nat, q ≠ ao → w2 q = w1 q) := by
  refine CL.of (lv := [(0, .ref y), (1, .int (iI p0)), (2, .ref ao)]) (by decide) (Nat.le_of_ble_eq_true rfl) rfl (fun p e s m below meth c ls F htb hr hlk hW hS hl => ?_)
  refine W.widen (k := 1) (n := 6) (Nat.zero_le _) (Nat.zero_le _) ?_
  refine lv_aload_n F.1 F.2.1 dL_slits_0 rfl (lv_at hl 2 rfl) ?_
  refine h_iconst F dL_slits_1 ?_
  refine lv_aload_n F.1 F.2.1 dL_slits_2 rfl (lv_at hl 0 rfl) ?_
  refine lv_iload_n F.1 F.2.1 dL_slits_3 rfl (lv_at hl 1 rfl) ?_
  refine cl_RL_53 (As := [.int (iI p0)]) (rest := [.int (iI 0), .ref ao]) F hl hM hW hS hy rfl rfl ⟨Nat.le_of_ble_eq_true rfl, Nat.le_of_ble_eq_true rfl⟩ (Nat.le_of_ble_eq_true rfl) ⟨Nat.le_of_ble_eq_true rfl, Nat.le_of_ble_eq_true rfl⟩ dL_slits_4 (fun w1 H1 locs1 hp hW hS => ?_)
  obtain ⟨g, hg⟩ := ho w1 hp
  refine lv_i2l F.1 F.2.1 dL_slits_7 rfl ?_
  refine h_last F hW hS hg (by omega) (by omega) dL_slits_8 (fun w2 H2 locs2 hg2 hn2 hW hS => ?_)
  refine h_goto (tgt := 15) F dL_slits_9 (by decide) ?_
  refine h_iconst F dL_slits_15 ?_
  exact h_ireti F hr hlk hW hS ⟨w1, hp, ⟨_, hg2, by simp [vp_updL]⟩, hn2⟩ dL_slits_16
set_option maxHeartbeats 1000000 in
theorem ht_slits_1 (l : Launch) (X : Cx) (w : Wo) (y ao : Nat) (p0 : Int) (fs : List Value) (P : Wo → Prop) (hy : w y = some (.inr (8, fs))) (hM : CX l X yX8_slits cX8_slits 2 (some (.int)) (rmx 7 104) [.ref y, .int (iI p0)] w "java/lang/IllegalArgumentException" P) : CL l X yL_slits cL_slits 4 (some (.int)) [(0, 9, 12, 19)] (rmx 8 125) [.ref y, .int (iI p0), .ref ao] w (some (.int (iI 1))) (P) := by
  refine CL.of (lv := [(0, .ref y), (1, .int (iI p0)), (2, .ref ao)]) (by decide) (Nat.le_of_ble_eq_true rfl) rfl (fun p e s m below meth c ls F htb hr hlk hW hS hl => ?_)
  refine lv_aload_n F.1 F.2.1 dL_slits_0 rfl (lv_at hl 2 rfl) ?_
  refine h_iconst F dL_slits_1 ?_
  refine lv_aload_n F.1 F.2.1 dL_slits_2 rfl (lv_at hl 0 rfl) ?_
  refine lv_iload_n F.1 F.2.1 dL_slits_3 rfl (lv_at hl 1 rfl) ?_
  refine cx_RL_53 (As := [.int (iI p0)]) (rest := [.int (iI 0), .ref ao]) F hl hM hW hS hy rfl rfl ⟨Nat.le_of_ble_eq_true rfl, Nat.le_of_ble_eq_true rfl⟩ (Nat.le_of_ble_eq_true rfl) ⟨Nat.le_of_ble_eq_true rfl, Nat.le_of_ble_eq_true rfl⟩ dL_slits_4 (fun w1 H1 locs1 ce q9 hp hW hS hce hcv hcl => ?_)
  refine h_caught1 F hW htb (by decide) (by decide) kl_RL_19 (List.mem_of_getElem? (i := 1) rfl) hce hcv hcl ?_
  refine lv_astore_n (lv' := (3, .ref q9) :: [(0, .ref y), (1, .int (iI p0)), (2, .ref ao)]) F.1 F.2.1 dL_slits_12 rfl hl (by decide) rfl (fun ls hl => ?_)
  refine h_iconst F dL_slits_13 ?_
  exact h_ireti F hr hlk hW hS hp dL_slits_14
set_option maxHeartbeats 1000000 in
theorem hk_account (l : Launch) (X : Cx) (w : Wo) (y ao : Nat) (p0 : Int) (fs : List Value) (P : Wo → Prop) (hy : w y = some (.inr (8, fs))) (b : Int) (hM : CM l X yX8_account cX8_account 2 (some (.int)) (rmk 1 21) [.ref y, .int (iI p0)] w (some (.int (iI b))) P) (ho : ∀ w' : Wo, P w' → ∃ g, w' ao = some (aJ X 1 g)) : CL l X yL_account cL_account 4 (some (.int)) [(0, 9, 12, 19)] (rmx 8 125) [.ref y, .int (iI p0), .ref ao] w (some (.int (iI 0))) (fun w2 => ∃ w1, P w1 ∧ (∃ g, w2 ao = some (aJ X 1 g) ∧ g 0 = (iI b).toInt64) ∧ ∀ q : Nat, q ≠ ao → w2 q = w1 q) := by
  refine CL.of (lv := [(0, .ref y), (1, .int (iI p0)), (2, .ref ao)]) (by decide) (Nat.le_of_ble_eq_true rfl) rfl (fun p e s m below meth c ls F htb hr hlk hW hS hl => ?_)
  refine W.widen (k := 1) (n := 6) (Nat.zero_le _) (Nat.zero_le _) ?_
  refine lv_aload_n F.1 F.2.1 dL_account_0 rfl (lv_at hl 2 rfl) ?_
  refine h_iconst F dL_account_1 ?_
  refine lv_aload_n F.1 F.2.1 dL_account_2 rfl (lv_at hl 0 rfl) ?_
  refine lv_iload_n F.1 F.2.1 dL_account_3 rfl (lv_at hl 1 rfl) ?_
  refine cl_RL_56 (As := [.int (iI p0)]) (rest := [.int (iI 0), .ref ao]) F hl hM hW hS hy rfl rfl ⟨Nat.le_of_ble_eq_true rfl, Nat.le_of_ble_eq_true rfl⟩ (Nat.le_of_ble_eq_true rfl) ⟨Nat.le_of_ble_eq_true rfl, Nat.le_of_ble_eq_true rfl⟩ dL_account_4 (fun w1 H1 locs1 hp hW hS => ?_)
  obtain ⟨g, hg⟩ := ho w1 hp
  refine lv_i2l F.1 F.2.1 dL_account_7 rfl ?_
  refine h_last F hW hS hg (by omega) (by omega) dL_account_8 (fun w2 H2 locs2 hg2 hn2 hW hS => ?_)
  refine h_goto (tgt := 15) F dL_account_9 (by decide) ?_
  refine h_iconst F dL_account_15 ?_
  exact h_ireti F hr hlk hW hS ⟨w1, hp, ⟨_, hg2, by simp [vp_updL]⟩, hn2⟩ dL_account_16
set_option maxHeartbeats 1000000 in
theorem ht_account_1 (l : Launch) (X : Cx) (w : Wo) (y ao : Nat) (p0 : Int) (fs : List Value) (P : Wo → Prop) (hy : w y = some (.inr (8, fs))) (hM : CX l X yX8_account cX8_account 2 (some (.int)) (rmx 7 104) [.ref y, .int (iI p0)] w "java/lang/IllegalArgumentException" P) : CL l X yL_account cL_account 4 (some (.int)) [(0, 9, 12, 19)] (rmx 8 125) [.ref y, .int (iI p0), .ref ao] w (some (.int (iI 1))) (P) := by
  refine CL.of (lv := [(0, .ref y), (1, .int (iI p0)), (2, .ref ao)]) (by decide) (Nat.le_of_ble_eq_true rfl) rfl (fun p e s m below meth c ls F htb hr hlk hW hS hl => ?_)
  refine lv_aload_n F.1 F.2.1 dL_account_0 rfl (lv_at hl 2 rfl) ?_
  refine h_iconst F dL_account_1 ?_
  refine lv_aload_n F.1 F.2.1 dL_account_2 rfl (lv_at hl 0 rfl) ?_
  refine lv_iload_n F.1 F.2.1 dL_account_3 rfl (lv_at hl 1 rfl) ?_
  refine cx_RL_56 (As := [.int (iI p0)]) (rest := [.int (iI 0), .ref ao]) F hl hM hW hS hy rfl rfl ⟨Nat.le_of_ble_eq_true rfl, Nat.le_of_ble_eq_true rfl⟩ (Nat.le_of_ble_eq_true rfl) ⟨Nat.le_of_ble_eq_true rfl, Nat.le_of_ble_eq_true rfl⟩ dL_account_4 (fun w1 H1 locs1 ce q9 hp hW hS hce hcv hcl => ?_)
  refine h_caught1 F hW htb (by decide) (by decide) kl_RL_19 (List.mem_of_getElem? (i := 1) rfl) hce hcv hcl ?_
  refine lv_astore_n (lv' := (3, .ref q9) :: [(0, .ref y), (1, .int (iI p0)), (2, .ref ao)]) F.1 F.2.1 dL_account_12 rfl hl (by decide) rfl (fun ls hl => ?_)
  refine h_iconst F dL_account_13 ?_
  exact h_ireti F hr hlk hW hS hp dL_account_14
set_option maxHeartbeats 1000000 in
theorem hk_minutes (l : Launch) (X : Cx) (w : Wo) (y ao : Nat) (p0 : Int) (fs : List Value) (P : Wo → Prop) (hy : w y = some (.inr (8, fs))) (b : Int) (hM : CM l X yX8_minutes cX8_minutes 5 (some (.int)) (rmk 4 92) [.ref y, .int (iI p0)] w (some (.int (iI b))) P) (ho : ∀ w' : Wo, P w' → ∃ g, w' ao = some (aJ X 1 g)) : CL l X yL_minutes cL_minutes 4 (some (.int)) [(0, 9, 12, 19)] (rmx 8 128) [.ref y, .int (iI p0), .ref ao] w (some (.int (iI 0))) (fun w2 => ∃ w1, P w1 ∧ (∃ g, w2 ao = some (aJ X 1 g) ∧ g 0 = (iI b).toInt64) ∧ ∀ q : Nat, q ≠ ao → w2 q = w1 q) := by
  refine CL.of (lv := [(0, .ref y), (1, .int (iI p0)), (2, .ref ao)]) (by decide) (Nat.le_of_ble_eq_true rfl) rfl (fun p e s m below meth c ls F htb hr hlk hW hS hl => ?_)
  refine W.widen (k := 1) (n := 6) (Nat.zero_le _) (Nat.zero_le _) ?_
  refine lv_aload_n F.1 F.2.1 dL_minutes_0 rfl (lv_at hl 2 rfl) ?_
  refine h_iconst F dL_minutes_1 ?_
  refine lv_aload_n F.1 F.2.1 dL_minutes_2 rfl (lv_at hl 0 rfl) ?_
  refine lv_iload_n F.1 F.2.1 dL_minutes_3 rfl (lv_at hl 1 rfl) ?_
  refine cl_RL_59 (As := [.int (iI p0)]) (rest := [.int (iI 0), .ref ao]) F hl hM hW hS hy rfl rfl ⟨Nat.le_of_ble_eq_true rfl, Nat.le_of_ble_eq_true rfl⟩ (Nat.le_of_ble_eq_true rfl) ⟨Nat.le_of_ble_eq_true rfl, Nat.le_of_ble_eq_true rfl⟩ dL_minutes_4 (fun w1 H1 locs1 hp hW hS => ?_)
  obtain ⟨g, hg⟩ := ho w1 hp
  refine lv_i2l F.1 F.2.1 dL_minutes_7 rfl ?_
  refine h_last F hW hS hg (by omega) (by omega) dL_minutes_8 (fun w2 H2 locs2 hg2 hn2 hW hS => ?_)
  refine h_goto (tgt := 15) F dL_minutes_9 (by decide) ?_
  refine h_iconst F dL_minutes_15 ?_
  exact h_ireti F hr hlk hW hS ⟨w1, hp, ⟨_, hg2, by simp [vp_updL]⟩, hn2⟩ dL_minutes_16
set_option maxHeartbeats 1000000 in
theorem ht_minutes_1 (l : Launch) (X : Cx) (w : Wo) (y ao : Nat) (p0 : Int) (fs : List Value) (P : Wo → Prop) (hy : w y = some (.inr (8, fs))) (hM : CX l X yX8_minutes cX8_minutes 5 (some (.int)) (rmx 7 104) [.ref y, .int (iI p0)] w "java/lang/IllegalArgumentException" P) : CL l X yL_minutes cL_minutes 4 (some (.int)) [(0, 9, 12, 19)] (rmx 8 128) [.ref y, .int (iI p0), .ref ao] w (some (.int (iI 1))) (P) := by
  refine CL.of (lv := [(0, .ref y), (1, .int (iI p0)), (2, .ref ao)]) (by decide) (Nat.le_of_ble_eq_true rfl) rfl (fun p e s m below meth c ls F htb hr hlk hW hS hl => ?_)
  refine lv_aload_n F.1 F.2.1 dL_minutes_0 rfl (lv_at hl 2 rfl) ?_
  refine h_iconst F dL_minutes_1 ?_
  refine lv_aload_n F.1 F.2.1 dL_minutes_2 rfl (lv_at hl 0 rfl) ?_
  refine lv_iload_n F.1 F.2.1 dL_minutes_3 rfl (lv_at hl 1 rfl) ?_
  refine cx_RL_59 (As := [.int (iI p0)]) (rest := [.int (iI 0), .ref ao]) F hl hM hW hS hy rfl rfl ⟨Nat.le_of_ble_eq_true rfl, Nat.le_of_ble_eq_true rfl⟩ (Nat.le_of_ble_eq_true rfl) ⟨Nat.le_of_ble_eq_true rfl, Nat.le_of_ble_eq_true rfl⟩ dL_minutes_4 (fun w1 H1 locs1 ce q9 hp hW hS hce hcv hcl => ?_)
  refine h_caught1 F hW htb (by decide) (by decide) kl_RL_19 (List.mem_of_getElem? (i := 1) rfl) hce hcv hcl ?_
  refine lv_astore_n (lv' := (3, .ref q9) :: [(0, .ref y), (1, .int (iI p0)), (2, .ref ao)]) F.1 F.2.1 dL_minutes_12 rfl hl (by decide) rfl (fun ls hl => ?_)
  refine h_iconst F dL_minutes_13 ?_
  exact h_ireti F hr hlk hW hS hp dL_minutes_14
set_option maxHeartbeats 1000000 in
theorem hk_wouldErr (l : Launch) (X : Cx) (w : Wo) (y ao : Nat) (p0 : Int) (fs : List Value) (P : Wo → Prop) (hy : w y = some (.inr (8, fs))) (b : Int) (hM : CM l X yX8_wouldErr cX8_wouldErr 4 (some (.int)) (rmk 3 69) [.ref y, .int (iI p0)] w (some (.int (iI b))) P) (ho : ∀ w' : Wo, P w' → ∃ g, w' ao = some (aJ X 1 g)) : CL l X yL_wouldErr cL_wouldErr 4 (some (.int)) [(0, 9, 12, 28)] (rmx 8 127) [.ref y, .int (iI p0), .ref ao] w (some (.int (iI 0))) (fun w2 => ∃ w1, P w1 ∧ (∃ g, w2 ao = some (aJ X 1 g) ∧ g 0 = (iI b).toInt64) ∧ ∀ q : Nat, q ≠ ao → w2 q = w1 q) := by
  refine CL.of (lv := [(0, .ref y), (1, .int (iI p0)), (2, .ref ao)]) (by decide) (Nat.le_of_ble_eq_true rfl) rfl (fun p e s m below meth c ls F htb hr hlk hW hS hl => ?_)
  refine W.widen (k := 1) (n := 6) (Nat.zero_le _) (Nat.zero_le _) ?_
  refine lv_aload_n F.1 F.2.1 dL_wouldErr_0 rfl (lv_at hl 2 rfl) ?_
  refine h_iconst F dL_wouldErr_1 ?_
  refine lv_aload_n F.1 F.2.1 dL_wouldErr_2 rfl (lv_at hl 0 rfl) ?_
  refine lv_iload_n F.1 F.2.1 dL_wouldErr_3 rfl (lv_at hl 1 rfl) ?_
  refine cl_RL_62 (As := [.int (iI p0)]) (rest := [.int (iI 0), .ref ao]) F hl hM hW hS hy rfl rfl ⟨Nat.le_of_ble_eq_true rfl, Nat.le_of_ble_eq_true rfl⟩ (Nat.le_of_ble_eq_true rfl) ⟨Nat.le_of_ble_eq_true rfl, Nat.le_of_ble_eq_true rfl⟩ dL_wouldErr_4 (fun w1 H1 locs1 hp hW hS => ?_)
  obtain ⟨g, hg⟩ := ho w1 hp
  refine lv_i2l F.1 F.2.1 dL_wouldErr_7 rfl ?_
  refine h_last F hW hS hg (by omega) (by omega) dL_wouldErr_8 (fun w2 H2 locs2 hg2 hn2 hW hS => ?_)
  refine h_goto (tgt := 15) F dL_wouldErr_9 (by decide) ?_
  refine h_iconst F dL_wouldErr_15 ?_
  exact h_ireti F hr hlk hW hS ⟨w1, hp, ⟨_, hg2, by simp [vp_updL]⟩, hn2⟩ dL_wouldErr_16
set_option maxHeartbeats 1000000 in
theorem ht_wouldErr_1 (l : Launch) (X : Cx) (w : Wo) (y ao : Nat) (p0 : Int) (fs : List Value) (P : Wo → Prop) (hy : w y = some (.inr (8, fs))) (hM : CX l X yX8_wouldErr cX8_wouldErr 4 (some (.int)) (rmx 7 104) [.ref y, .int (iI p0)] w "java/lang/IndexOutOfBoundsException" P) : CL l X yL_wouldErr cL_wouldErr 4 (some (.int)) [(0, 9, 12, 28)] (rmx 8 127) [.ref y, .int (iI p0), .ref ao] w (some (.int (iI 1))) (P) := by
  refine CL.of (lv := [(0, .ref y), (1, .int (iI p0)), (2, .ref ao)]) (by decide) (Nat.le_of_ble_eq_true rfl) rfl (fun p e s m below meth c ls F htb hr hlk hW hS hl => ?_)
  refine lv_aload_n F.1 F.2.1 dL_wouldErr_0 rfl (lv_at hl 2 rfl) ?_
  refine h_iconst F dL_wouldErr_1 ?_
  refine lv_aload_n F.1 F.2.1 dL_wouldErr_2 rfl (lv_at hl 0 rfl) ?_
  refine lv_iload_n F.1 F.2.1 dL_wouldErr_3 rfl (lv_at hl 1 rfl) ?_
  refine cx_RL_62 (As := [.int (iI p0)]) (rest := [.int (iI 0), .ref ao]) F hl hM hW hS hy rfl rfl ⟨Nat.le_of_ble_eq_true rfl, Nat.le_of_ble_eq_true rfl⟩ (Nat.le_of_ble_eq_true rfl) ⟨Nat.le_of_ble_eq_true rfl, Nat.le_of_ble_eq_true rfl⟩ dL_wouldErr_4 (fun w1 H1 locs1 ce q9 hp hW hS hce hcv hcl => ?_)
  refine h_caught1 F hW htb (by decide) (by decide) kl_RL_28 (List.mem_of_getElem? (i := 2) rfl) hce hcv hcl ?_
  refine lv_astore_n (lv' := (3, .ref q9) :: [(0, .ref y), (1, .int (iI p0)), (2, .ref ao)]) F.1 F.2.1 dL_wouldErr_12 rfl hl (by decide) rfl (fun ls hl => ?_)
  refine h_iconst F dL_wouldErr_13 ?_
  exact h_ireti F hr hlk hW hS hp dL_wouldErr_14
set_option maxHeartbeats 1000000 in
theorem hk_place (l : Launch) (X : Cx) (w : Wo) (y ao : Nat) (p0 p1 : Int) (fs : List Value) (P : Wo → Prop) (hy : w y = some (.inr (8, fs))) (b : Int) (hM : CM l X yX8_place cX8_place 5 (some (.int)) (rmk 3 66) [.ref y, .int (iI p0), .int (iI p1)] w (some (.int (iI b))) P) (ho : ∀ w' : Wo, P w' → ∃ g, w' ao = some (aJ X 1 g)) : CL l X yL_place cL_place 5 (some (.int)) [(0, 10, 13, 19)] (rmx 8 128) [.ref y, .int (iI p0), .int (iI p1), .ref ao] w (some (.int (iI 0))) (fun w2 => ∃ w1, P w1 ∧ (∃ g, w2 ao = some (aJ X 1 g) ∧ g 0 = (iI b).toInt64) ∧ ∀ q : Nat, q ≠ ao → w2 q = w1 q) := by
  refine CL.of (lv := [(0, .ref y), (1, .int (iI p0)), (2, .int (iI p1)), (3, .ref ao)]) (by decide) (Nat.le_of_ble_eq_true rfl) rfl (fun p e s m below meth c ls F htb hr hlk hW hS hl => ?_)
  refine W.widen (k := 1) (n := 6) (Nat.zero_le _) (Nat.zero_le _) ?_
  refine lv_aload_n F.1 F.2.1 dL_place_0 rfl (lv_at hl 3 rfl) ?_
  refine h_iconst F dL_place_1 ?_
  refine lv_aload_n F.1 F.2.1 dL_place_2 rfl (lv_at hl 0 rfl) ?_
  refine lv_iload_n F.1 F.2.1 dL_place_3 rfl (lv_at hl 1 rfl) ?_
  refine lv_iload_n F.1 F.2.1 dL_place_4 rfl (lv_at hl 2 rfl) ?_
  refine cl_RL_65 (As := [.int (iI p0), .int (iI p1)]) (rest := [.int (iI 0), .ref ao]) F hl hM hW hS hy rfl rfl ⟨Nat.le_of_ble_eq_true rfl, Nat.le_of_ble_eq_true rfl⟩ (Nat.le_of_ble_eq_true rfl) ⟨Nat.le_of_ble_eq_true rfl, Nat.le_of_ble_eq_true rfl⟩ dL_place_5 (fun w1 H1 locs1 hp hW hS => ?_)
  obtain ⟨g, hg⟩ := ho w1 hp
  refine lv_i2l F.1 F.2.1 dL_place_8 rfl ?_
  refine h_last F hW hS hg (by omega) (by omega) dL_place_9 (fun w2 H2 locs2 hg2 hn2 hW hS => ?_)
  refine h_goto (tgt := 17) F dL_place_10 (by decide) ?_
  refine h_iconst F dL_place_17 ?_
  exact h_ireti F hr hlk hW hS ⟨w1, hp, ⟨_, hg2, by simp [vp_updL]⟩, hn2⟩ dL_place_18
set_option maxHeartbeats 1000000 in
theorem ht_place_1 (l : Launch) (X : Cx) (w : Wo) (y ao : Nat) (p0 p1 : Int) (fs : List Value) (P : Wo → Prop) (hy : w y = some (.inr (8, fs))) (hM : CX l X yX8_place cX8_place 5 (some (.int)) (rmx 7 104) [.ref y, .int (iI p0), .int (iI p1)] w "java/lang/IllegalArgumentException" P) : CL l X yL_place cL_place 5 (some (.int)) [(0, 10, 13, 19)] (rmx 8 128) [.ref y, .int (iI p0), .int (iI p1), .ref ao] w (some (.int (iI 1))) (P) := by
  refine CL.of (lv := [(0, .ref y), (1, .int (iI p0)), (2, .int (iI p1)), (3, .ref ao)]) (by decide) (Nat.le_of_ble_eq_true rfl) rfl (fun p e s m below meth c ls F htb hr hlk hW hS hl => ?_)
  refine lv_aload_n F.1 F.2.1 dL_place_0 rfl (lv_at hl 3 rfl) ?_
  refine h_iconst F dL_place_1 ?_
  refine lv_aload_n F.1 F.2.1 dL_place_2 rfl (lv_at hl 0 rfl) ?_
  refine lv_iload_n F.1 F.2.1 dL_place_3 rfl (lv_at hl 1 rfl) ?_
  refine lv_iload_n F.1 F.2.1 dL_place_4 rfl (lv_at hl 2 rfl) ?_
  refine cx_RL_65 (As := [.int (iI p0), .int (iI p1)]) (rest := [.int (iI 0), .ref ao]) F hl hM hW hS hy rfl rfl ⟨Nat.le_of_ble_eq_true rfl, Nat.le_of_ble_eq_true rfl⟩ (Nat.le_of_ble_eq_true rfl) ⟨Nat.le_of_ble_eq_true rfl, Nat.le_of_ble_eq_true rfl⟩ dL_place_5 (fun w1 H1 locs1 ce q9 hp hW hS hce hcv hcl => ?_)
  refine h_caught1 F hW htb (by decide) (by decide) kl_RL_19 (List.mem_of_getElem? (i := 1) rfl) hce hcv hcl ?_
  refine lv_astore (lv' := (4, .ref q9) :: [(0, .ref y), (1, .int (iI p0)), (2, .int (iI p1)), (3, .ref ao)]) F.1 F.2.1 dL_place_13 hl (by decide) rfl (fun ls hl => ?_)
  refine h_iconst F dL_place_15 ?_
  exact h_ireti F hr hlk hW hS hp dL_place_16
set_option maxHeartbeats 1000000 in
theorem hk_share (l : Launch) (X : Cx) (w : Wo) (y ao : Nat) (p0 : Int) (fs : List Value) (P : Wo → Prop) (hy : w y = some (.inr (8, fs))) (b : UInt32) (hM : CM l X yX8_share cX8_share 3 (some (.float)) (rmk 3 72) [.ref y, .int (iI p0)] w (some (.float b)) P) (hne : vf_n64 (FP.f2d b)) (ho : ∀ w' : Wo, P w' → ∃ g, w' ao = some (aD X 1 g)) : CL l X yL_share cL_share 4 (some (.int)) [(0, 9, 12, 28)] (rmx 8 126) [.ref y, .int (iI p0), .ref ao] w (some (.int (iI 0))) (fun w2 => ∃ w1, P w1 ∧ (∃ g, w2 ao = some (aD X 1 g) ∧ g 0 = FP.f2d b) ∧ ∀ q : Nat, q ≠ ao → w2 q = w1 q) := by
  refine CL.of (lv := [(0, .ref y), (1, .int (iI p0)), (2, .ref ao)]) (by decide) (Nat.le_of_ble_eq_true rfl) rfl (fun p e s m below meth c ls F htb hr hlk hW hS hl => ?_)
  refine W.widen (k := 1) (n := 6) (Nat.zero_le _) (Nat.zero_le _) ?_
  refine lv_aload_n F.1 F.2.1 dL_share_0 rfl (lv_at hl 2 rfl) ?_
  refine h_iconst F dL_share_1 ?_
  refine lv_aload_n F.1 F.2.1 dL_share_2 rfl (lv_at hl 0 rfl) ?_
  refine lv_iload_n F.1 F.2.1 dL_share_3 rfl (lv_at hl 1 rfl) ?_
  refine cl_RL_68 (As := [.int (iI p0)]) (rest := [.int (iI 0), .ref ao]) F hl hM hW hS hy rfl rfl ⟨Nat.le_of_ble_eq_true rfl, Nat.le_of_ble_eq_true rfl⟩ (Nat.le_of_ble_eq_true rfl) ⟨Nat.le_of_ble_eq_true rfl, Nat.le_of_ble_eq_true rfl⟩ dL_share_4 (fun w1 H1 locs1 hp hW hS => ?_)
  obtain ⟨g, hg⟩ := ho w1 hp
  refine lv_f2d F.1 F.2.1 dL_share_7 hne ?_
  refine h_dast F hW hS hg (by omega) (by omega) dL_share_8 (fun w2 H2 locs2 hg2 hn2 hW hS => ?_)
  refine h_goto (tgt := 15) F dL_share_9 (by decide) ?_
  refine h_iconst F dL_share_15 ?_
  exact h_ireti F hr hlk hW hS ⟨w1, hp, ⟨_, hg2, rfl⟩, hn2⟩ dL_share_16
set_option maxHeartbeats 1000000 in
theorem ht_share_1 (l : Launch) (X : Cx) (w : Wo) (y ao : Nat) (p0 : Int) (fs : List Value) (P : Wo → Prop) (hy : w y = some (.inr (8, fs))) (hM : CX l X yX8_share cX8_share 3 (some (.float)) (rmx 7 104) [.ref y, .int (iI p0)] w "java/lang/IndexOutOfBoundsException" P) : CL l X yL_share cL_share 4 (some (.int)) [(0, 9, 12, 28)] (rmx 8 126) [.ref y, .int (iI p0), .ref ao] w (some (.int (iI 1))) (P) := by
  refine CL.of (lv := [(0, .ref y), (1, .int (iI p0)), (2, .ref ao)]) (by decide) (Nat.le_of_ble_eq_true rfl) rfl (fun p e s m below meth c ls F htb hr hlk hW hS hl => ?_)
  refine lv_aload_n F.1 F.2.1 dL_share_0 rfl (lv_at hl 2 rfl) ?_
  refine h_iconst F dL_share_1 ?_
  refine lv_aload_n F.1 F.2.1 dL_share_2 rfl (lv_at hl 0 rfl) ?_
  refine lv_iload_n F.1 F.2.1 dL_share_3 rfl (lv_at hl 1 rfl) ?_
  refine cx_RL_68 (As := [.int (iI p0)]) (rest := [.int (iI 0), .ref ao]) F hl hM hW hS hy rfl rfl ⟨Nat.le_of_ble_eq_true rfl, Nat.le_of_ble_eq_true rfl⟩ (Nat.le_of_ble_eq_true rfl) ⟨Nat.le_of_ble_eq_true rfl, Nat.le_of_ble_eq_true rfl⟩ dL_share_4 (fun w1 H1 locs1 ce q9 hp hW hS hce hcv hcl => ?_)
  refine h_caught1 F hW htb (by decide) (by decide) kl_RL_28 (List.mem_of_getElem? (i := 2) rfl) hce hcv hcl ?_
  refine lv_astore_n (lv' := (3, .ref q9) :: [(0, .ref y), (1, .int (iI p0)), (2, .ref ao)]) F.1 F.2.1 dL_share_12 rfl hl (by decide) rfl (fun ls hl => ?_)
  refine h_iconst F dL_share_13 ?_
  exact h_ireti F hr hlk hW hS hp dL_share_14
set_option maxHeartbeats 1000000 in
theorem hk_pass (l : Launch) (X : Cx) (w : Wo) (y ao : Nat) (p0 p1 p2 : Int) (fs : List Value) (P : Wo → Prop) (hy : w y = some (.inr (8, fs))) (b : Int) (hM : CM l X yX8_pass cX8_pass 4 (some (.int)) (rmk 6 153) [.ref y, .int (iI p0), .int (iI p1), .int (iI p2)] w (some (.int (iI b))) P) (ho : ∀ w' : Wo, P w' → ∃ g, w' ao = some (aJ X 1 g)) : CL l X yL_pass cL_pass 6 (some (.int)) [(0, 12, 15, 28), (0, 12, 19, 19)] (rmx 8 176) [.ref y, .int (iI p0), .int (iI p1), .int (iI p2), .ref ao] w (some (.int (iI 0))) (fun w2 => ∃ w1, P w1 ∧ (∃ g, w2 ao = some (aJ X 1 g) ∧ g 0 = (iI b).toInt64) ∧ ∀ q : Nat, q ≠ ao → w2 q = w1 q) := by
  refine CL.of (lv := [(0, .ref y), (1, .int (iI p0)), (2, .int (iI p1)), (3, .int (iI p2)), (4, .ref ao)]) (by decide) (Nat.le_of_ble_eq_true rfl) rfl (fun p e s m below meth c ls F htb hr hlk hW hS hl => ?_)
  refine W.widen (k := 1) (n := 6) (Nat.zero_le _) (Nat.zero_le _) ?_
  refine lv_aload F.1 F.2.1 dL_pass_0 (lv_at hl 4 rfl) ?_
  refine h_iconst F dL_pass_2 ?_
  refine lv_aload_n F.1 F.2.1 dL_pass_3 rfl (lv_at hl 0 rfl) ?_
  refine lv_iload_n F.1 F.2.1 dL_pass_4 rfl (lv_at hl 1 rfl) ?_
  refine lv_iload_n F.1 F.2.1 dL_pass_5 rfl (lv_at hl 2 rfl) ?_
  refine lv_iload_n F.1 F.2.1 dL_pass_6 rfl (lv_at hl 3 rfl) ?_
  refine cl_RL_72 (As := [.int (iI p0), .int (iI p1), .int (iI p2)]) (rest := [.int (iI 0), .ref ao]) F hl hM hW hS hy rfl rfl ⟨Nat.le_of_ble_eq_true rfl, Nat.le_of_ble_eq_true rfl⟩ (Nat.le_of_ble_eq_true rfl) ⟨Nat.le_of_ble_eq_true rfl, Nat.le_of_ble_eq_true rfl⟩ dL_pass_7 (fun w1 H1 locs1 hp hW hS => ?_)
  obtain ⟨g, hg⟩ := ho w1 hp
  refine lv_i2l F.1 F.2.1 dL_pass_10 rfl ?_
  refine h_last F hW hS hg (by omega) (by omega) dL_pass_11 (fun w2 H2 locs2 hg2 hn2 hW hS => ?_)
  refine h_goto (tgt := 23) F dL_pass_12 (by decide) ?_
  refine h_iconst F dL_pass_23 ?_
  exact h_ireti F hr hlk hW hS ⟨w1, hp, ⟨_, hg2, by simp [vp_updL]⟩, hn2⟩ dL_pass_24
set_option maxHeartbeats 1000000 in
theorem ht_pass_1 (l : Launch) (X : Cx) (w : Wo) (y ao : Nat) (p0 p1 p2 : Int) (fs : List Value) (P : Wo → Prop) (hy : w y = some (.inr (8, fs))) (hM : CX l X yX8_pass cX8_pass 4 (some (.int)) (rmx 7 104) [.ref y, .int (iI p0), .int (iI p1), .int (iI p2)] w "java/lang/IndexOutOfBoundsException" P) : CL l X yL_pass cL_pass 6 (some (.int)) [(0, 12, 15, 28), (0, 12, 19, 19)] (rmx 8 176) [.ref y, .int (iI p0), .int (iI p1), .int (iI p2), .ref ao] w (some (.int (iI 1))) (P) := by
  refine CL.of (lv := [(0, .ref y), (1, .int (iI p0)), (2, .int (iI p1)), (3, .int (iI p2)), (4, .ref ao)]) (by decide) (Nat.le_of_ble_eq_true rfl) rfl (fun p e s m below meth c ls F htb hr hlk hW hS hl => ?_)
  refine lv_aload F.1 F.2.1 dL_pass_0 (lv_at hl 4 rfl) ?_
  refine h_iconst F dL_pass_2 ?_
  refine lv_aload_n F.1 F.2.1 dL_pass_3 rfl (lv_at hl 0 rfl) ?_
  refine lv_iload_n F.1 F.2.1 dL_pass_4 rfl (lv_at hl 1 rfl) ?_
  refine lv_iload_n F.1 F.2.1 dL_pass_5 rfl (lv_at hl 2 rfl) ?_
  refine lv_iload_n F.1 F.2.1 dL_pass_6 rfl (lv_at hl 3 rfl) ?_
  refine cx_RL_72 (As := [.int (iI p0), .int (iI p1), .int (iI p2)]) (rest := [.int (iI 0), .ref ao]) F hl hM hW hS hy rfl rfl ⟨Nat.le_of_ble_eq_true rfl, Nat.le_of_ble_eq_true rfl⟩ (Nat.le_of_ble_eq_true rfl) ⟨Nat.le_of_ble_eq_true rfl, Nat.le_of_ble_eq_true rfl⟩ dL_pass_7 (fun w1 H1 locs1 ce q9 hp hW hS hce hcv hcl => ?_)
  refine h_caught1 F hW htb (by decide) (by decide) kl_RL_28 (List.mem_of_getElem? (i := 2) rfl) hce hcv hcl ?_
  refine lv_astore (lv' := (5, .ref q9) :: [(0, .ref y), (1, .int (iI p0)), (2, .int (iI p1)), (3, .int (iI p2)), (4, .ref ao)]) F.1 F.2.1 dL_pass_15 hl (by decide) rfl (fun ls hl => ?_)
  refine h_iconst F dL_pass_17 ?_
  exact h_ireti F hr hlk hW hS hp dL_pass_18
set_option maxHeartbeats 1000000 in
theorem ht_pass_2 (l : Launch) (X : Cx) (w : Wo) (y ao : Nat) (p0 p1 p2 : Int) (fs : List Value) (P : Wo → Prop) (hy : w y = some (.inr (8, fs))) (hM : CX l X yX8_pass cX8_pass 4 (some (.int)) (rmx 7 104) [.ref y, .int (iI p0), .int (iI p1), .int (iI p2)] w "java/lang/IllegalArgumentException" P) : CL l X yL_pass cL_pass 6 (some (.int)) [(0, 12, 15, 28), (0, 12, 19, 19)] (rmx 8 176) [.ref y, .int (iI p0), .int (iI p1), .int (iI p2), .ref ao] w (some (.int (iI 2))) (P) := by
  refine CL.of (lv := [(0, .ref y), (1, .int (iI p0)), (2, .int (iI p1)), (3, .int (iI p2)), (4, .ref ao)]) (by decide) (Nat.le_of_ble_eq_true rfl) rfl (fun p e s m below meth c ls F htb hr hlk hW hS hl => ?_)
  refine lv_aload F.1 F.2.1 dL_pass_0 (lv_at hl 4 rfl) ?_
  refine h_iconst F dL_pass_2 ?_
  refine lv_aload_n F.1 F.2.1 dL_pass_3 rfl (lv_at hl 0 rfl) ?_
  refine lv_iload_n F.1 F.2.1 dL_pass_4 rfl (lv_at hl 1 rfl) ?_
  refine lv_iload_n F.1 F.2.1 dL_pass_5 rfl (lv_at hl 2 rfl) ?_
  refine lv_iload_n F.1 F.2.1 dL_pass_6 rfl (lv_at hl 3 rfl) ?_
  refine cx_RL_72 (As := [.int (iI p0), .int (iI p1), .int (iI p2)]) (rest := [.int (iI 0), .ref ao]) F hl hM hW hS hy rfl rfl ⟨Nat.le_of_ble_eq_true rfl, Nat.le_of_ble_eq_true rfl⟩ (Nat.le_of_ble_eq_true rfl) ⟨Nat.le_of_ble_eq_true rfl, Nat.le_of_ble_eq_true rfl⟩ dL_pass_7 (fun w1 H1 locs1 ce q9 hp hW hS hce hcv hcl => ?_)
  refine h_caught2 F hW htb (by decide) kl_RL_28 (List.mem_of_getElem? (i := 0) rfl) (by decide) (by decide) kl_RL_19 (List.mem_of_getElem? (i := 1) rfl) hce hcv hcl ?_
  refine lv_astore (lv' := (5, .ref q9) :: [(0, .ref y), (1, .int (iI p0)), (2, .int (iI p1)), (3, .int (iI p2)), (4, .ref ao)]) F.1 F.2.1 dL_pass_19 hl (by decide) rfl (fun ls hl => ?_)
  refine h_iconst F dL_pass_21 ?_
  exact h_ireti F hr hlk hW hS hp dL_pass_22
set_option maxHeartbeats 1000000 in
theorem hk_weave (l : Launch) (X : Cx) (w : Wo) (y ao : Nat) (p0 : Int) (b1 : Bool) (fs : List Value) (P : Wo → Prop) (hy : w y = some (.inr (8, fs))) (b : Int) (hM : CM l X yX8_weave cX8_weave 3 (some (.int)) (rmk 6 152) [.ref y, .int (iI p0), .int (iI (bz b1))] w (some (.int (iI b))) P) (ho : ∀ w' : Wo, P w' → ∃ g, w' ao = some (aJ X 1 g)) : CL l X yL_weave cL_weave 5 (some (.int)) [(0, 10, 13, 19)] (rmx 8 174) [.ref y, .int (iI p0), .int (iI (bz b1)), .ref ao] w (some (.int (iI 0))) (fun w2 => ∃ w1, P w1 ∧ (∃ g, w2 ao = some (aJ X 1 g) ∧ g 0 = (iI b).toInt64) ∧ ∀ q : Nat, q ≠ ao → w2 q = w1 q) := by
  refine CL.of (lv := [(0, .ref y), (1, .int (iI p0)), (2, .int (iI (bz b1))), (3, .ref ao)]) (by decide) (Nat.le_of_ble_eq_true rfl) rfl (fun p e s m below meth c ls F htb hr hlk hW hS hl => ?_)
  refine W.widen (k := 1) (n := 6) (Nat.zero_le _) (Nat.zero_le _) ?_
  refine lv_aload_n F.1 F.2.1 dL_weave_0 rfl (lv_at hl 3 rfl) ?_
  refine h_iconst F dL_weave_1 ?_
  refine lv_aload_n F.1 F.2.1 dL_weave_2 rfl (lv_at hl 0 rfl) ?_
  refine lv_iload_n F.1 F.2.1 dL_weave_3 rfl (lv_at hl 1 rfl) ?_
  refine lv_iload_n F.1 F.2.1 dL_weave_4 rfl (lv_at hl 2 rfl) ?_
  refine cl_RL_75 (As := [.int (iI p0), .int (iI (bz b1))]) (rest := [.int (iI 0), .ref ao]) F hl hM hW hS hy rfl rfl ⟨Nat.le_of_ble_eq_true rfl, Nat.le_of_ble_eq_true rfl⟩ (Nat.le_of_ble_eq_true rfl) ⟨Nat.le_of_ble_eq_true rfl, Nat.le_of_ble_eq_true rfl⟩ dL_weave_5 (fun w1 H1 locs1 hp hW hS => ?_)
  obtain ⟨g, hg⟩ := ho w1 hp
  refine lv_i2l F.1 F.2.1 dL_weave_8 rfl ?_
  refine h_last F hW hS hg (by omega) (by omega) dL_weave_9 (fun w2 H2 locs2 hg2 hn2 hW hS => ?_)
  refine h_goto (tgt := 17) F dL_weave_10 (by decide) ?_
  refine h_iconst F dL_weave_17 ?_
  exact h_ireti F hr hlk hW hS ⟨w1, hp, ⟨_, hg2, by simp [vp_updL]⟩, hn2⟩ dL_weave_18
set_option maxHeartbeats 1000000 in
theorem ht_weave_1 (l : Launch) (X : Cx) (w : Wo) (y ao : Nat) (p0 : Int) (b1 : Bool) (fs : List Value) (P : Wo → Prop) (hy : w y = some (.inr (8, fs))) (hM : CX l X yX8_weave cX8_weave 3 (some (.int)) (rmx 7 104) [.ref y, .int (iI p0), .int (iI (bz b1))] w "java/lang/IllegalArgumentException" P) : CL l X yL_weave cL_weave 5 (some (.int)) [(0, 10, 13, 19)] (rmx 8 174) [.ref y, .int (iI p0), .int (iI (bz b1)), .ref ao] w (some (.int (iI 1))) (P) := by
  refine CL.of (lv := [(0, .ref y), (1, .int (iI p0)), (2, .int (iI (bz b1))), (3, .ref ao)]) (by decide) (Nat.le_of_ble_eq_true rfl) rfl (fun p e s m below meth c ls F htb hr hlk hW hS hl => ?_)
  refine lv_aload_n F.1 F.2.1 dL_weave_0 rfl (lv_at hl 3 rfl) ?_
  refine h_iconst F dL_weave_1 ?_
  refine lv_aload_n F.1 F.2.1 dL_weave_2 rfl (lv_at hl 0 rfl) ?_
  refine lv_iload_n F.1 F.2.1 dL_weave_3 rfl (lv_at hl 1 rfl) ?_
  refine lv_iload_n F.1 F.2.1 dL_weave_4 rfl (lv_at hl 2 rfl) ?_
  refine cx_RL_75 (As := [.int (iI p0), .int (iI (bz b1))]) (rest := [.int (iI 0), .ref ao]) F hl hM hW hS hy rfl rfl ⟨Nat.le_of_ble_eq_true rfl, Nat.le_of_ble_eq_true rfl⟩ (Nat.le_of_ble_eq_true rfl) ⟨Nat.le_of_ble_eq_true rfl, Nat.le_of_ble_eq_true rfl⟩ dL_weave_5 (fun w1 H1 locs1 ce q9 hp hW hS hce hcv hcl => ?_)
  refine h_caught1 F hW htb (by decide) (by decide) kl_RL_19 (List.mem_of_getElem? (i := 1) rfl) hce hcv hcl ?_
  refine lv_astore (lv' := (4, .ref q9) :: [(0, .ref y), (1, .int (iI p0)), (2, .int (iI (bz b1))), (3, .ref ao)]) F.1 F.2.1 dL_weave_13 hl (by decide) rfl (fun ls hl => ?_)
  refine h_iconst F dL_weave_15 ?_
  exact h_ireti F hr hlk hW hS hp dL_weave_16
set_option maxHeartbeats 1000000 in
theorem hk_unpick (l : Launch) (X : Cx) (w : Wo) (y ao : Nat) (p0 : Int) (fs : List Value) (P : Wo → Prop) (hy : w y = some (.inr (8, fs))) (b : Int) (hM : CM l X yX8_unpick cX8_unpick 2 (some (.int)) (rmk 6 153) [.ref y, .int (iI p0)] w (some (.int (iI b))) P) (ho : ∀ w' : Wo, P w' → ∃ g, w' ao = some (aJ X 1 g)) : CL l X yL_unpick cL_unpick 4 (some (.int)) [(0, 9, 12, 19)] (rmx 8 174) [.ref y, .int (iI p0), .ref ao] w (some (.int (iI 0))) (fun w2 => ∃ w1, P w1 ∧ (∃ g, w2 ao = some (aJ X 1 g) ∧ g 0 = (iI b).toInt64) ∧ ∀ q : Nat, q ≠ ao → w2 q = w1 q) := by
  refine CL.of (lv := [(0, .ref y), (1, .int (iI p0)), (2, .ref ao)]) (by decide) (Nat.le_of_ble_eq_true rfl) rfl (fun p e s m below meth c ls F htb hr hlk hW hS hl => ?_)
  refine W.widen (k := 1) (n := 6) (Nat.zero_le _) (Nat.zero_le _) ?_
  refine lv_aload_n F.1 F.2.1 dL_unpick_0 rfl (lv_at hl 2 rfl) ?_
  refine h_iconst F dL_unpick_1 ?_
  refine lv_aload_n F.1 F.2.1 dL_unpick_2 rfl (lv_at hl 0 rfl) ?_
  refine lv_iload_n F.1 F.2.1 dL_unpick_3 rfl (lv_at hl 1 rfl) ?_
  refine cl_RL_79 (As := [.int (iI p0)]) (rest := [.int (iI 0), .ref ao]) F hl hM hW hS hy rfl rfl ⟨Nat.le_of_ble_eq_true rfl, Nat.le_of_ble_eq_true rfl⟩ (Nat.le_of_ble_eq_true rfl) ⟨Nat.le_of_ble_eq_true rfl, Nat.le_of_ble_eq_true rfl⟩ dL_unpick_4 (fun w1 H1 locs1 hp hW hS => ?_)
  obtain ⟨g, hg⟩ := ho w1 hp
  refine lv_i2l F.1 F.2.1 dL_unpick_7 rfl ?_
  refine h_last F hW hS hg (by omega) (by omega) dL_unpick_8 (fun w2 H2 locs2 hg2 hn2 hW hS => ?_)
  refine h_goto (tgt := 15) F dL_unpick_9 (by decide) ?_
  refine h_iconst F dL_unpick_15 ?_
  exact h_ireti F hr hlk hW hS ⟨w1, hp, ⟨_, hg2, by simp [vp_updL]⟩, hn2⟩ dL_unpick_16
set_option maxHeartbeats 1000000 in
theorem ht_unpick_1 (l : Launch) (X : Cx) (w : Wo) (y ao : Nat) (p0 : Int) (fs : List Value) (P : Wo → Prop) (hy : w y = some (.inr (8, fs))) (hM : CX l X yX8_unpick cX8_unpick 2 (some (.int)) (rmx 7 104) [.ref y, .int (iI p0)] w "java/lang/IllegalArgumentException" P) : CL l X yL_unpick cL_unpick 4 (some (.int)) [(0, 9, 12, 19)] (rmx 8 174) [.ref y, .int (iI p0), .ref ao] w (some (.int (iI 1))) (P) := by
  refine CL.of (lv := [(0, .ref y), (1, .int (iI p0)), (2, .ref ao)]) (by decide) (Nat.le_of_ble_eq_true rfl) rfl (fun p e s m below meth c ls F htb hr hlk hW hS hl => ?_)
  refine lv_aload_n F.1 F.2.1 dL_unpick_0 rfl (lv_at hl 2 rfl) ?_
  refine h_iconst F dL_unpick_1 ?_
  refine lv_aload_n F.1 F.2.1 dL_unpick_2 rfl (lv_at hl 0 rfl) ?_
  refine lv_iload_n F.1 F.2.1 dL_unpick_3 rfl (lv_at hl 1 rfl) ?_
  refine cx_RL_79 (As := [.int (iI p0)]) (rest := [.int (iI 0), .ref ao]) F hl hM hW hS hy rfl rfl ⟨Nat.le_of_ble_eq_true rfl, Nat.le_of_ble_eq_true rfl⟩ (Nat.le_of_ble_eq_true rfl) ⟨Nat.le_of_ble_eq_true rfl, Nat.le_of_ble_eq_true rfl⟩ dL_unpick_4 (fun w1 H1 locs1 ce q9 hp hW hS hce hcv hcl => ?_)
  refine h_caught1 F hW htb (by decide) (by decide) kl_RL_19 (List.mem_of_getElem? (i := 1) rfl) hce hcv hcl ?_
  refine lv_astore_n (lv' := (3, .ref q9) :: [(0, .ref y), (1, .int (iI p0)), (2, .ref ao)]) F.1 F.2.1 dL_unpick_12 rfl hl (by decide) rfl (fun ls hl => ?_)
  refine h_iconst F dL_unpick_13 ?_
  exact h_ireti F hr hlk hW hS hp dL_unpick_14
set_option maxHeartbeats 1000000 in
theorem hk_add (l : Launch) (X : Cx) (w : Wo) (y ao : Nat) (p0 p1 p2 p3 : Int) (fs : List Value) (P : Wo → Prop) (hy : w y = some (.inr (8, fs))) (b : Int) (hM : CM l X yX8_add cX8_add 7 (some (.int)) (rmk 5 128) [.ref y, .int (iI p0), .int (iI p1), .int (iI p2), .int (iI p3)] w (some (.int (iI b))) P) (ho : ∀ w' : Wo, P w' → ∃ g, w' ao = some (aJ X 1 g)) : CL l X yL_add cL_add 7 (some (.int)) [(0, 14, 17, 19)] (rmx 8 154) [.ref y, .int (iI p0), .int (iI p1), .int (iI p2), .int (iI p3), .ref ao] w (some (.int (iI 0))) (fun w2 => ∃ w1, P w1 ∧ (∃ g, w2 ao = some (aJ X 1 g) ∧ g 0 = (iI b).toInt64) ∧ ∀ q : Nat, q ≠ ao → w2 q = w1 q) := by
  refine CL.of (lv := [(0, .ref y), (1, .int (iI p0)), (2, .int (iI p1)), (3, .int (iI p2)), (4, .int (iI p3)), (5, .ref ao)]) (by decide) (Nat.le_of_ble_eq_true rfl) rfl (fun p e s m below meth c ls F htb hr hlk hW hS hl => ?_)
  refine W.widen (k := 1) (n := 6) (Nat.zero_le _) (Nat.zero_le _) ?_
  refine lv_aload F.1 F.2.1 dL_add_0 (lv_at hl 5 rfl) ?_
  refine h_iconst F dL_add_2 ?_
  refine lv_aload_n F.1 F.2.1 dL_add_3 rfl (lv_at hl 0 rfl) ?_
  refine lv_iload_n F.1 F.2.1 dL_add_4 rfl (lv_at hl 1 rfl) ?_
  refine lv_iload_n F.1 F.2.1 dL_add_5 rfl (lv_at hl 2 rfl) ?_
  refine lv_iload_n F.1 F.2.1 dL_add_6 rfl (lv_at hl 3 rfl) ?_
  refine lv_iload F.1 F.2.1 dL_add_7 (lv_at hl 4 rfl) ?_
  refine cl_RL_82 (As := [.int (iI p0), .int (iI p1), .int (iI p2), .int (iI p3)]) (rest := [.int (iI 0), .ref ao]) F hl hM hW hS hy rfl rfl ⟨Nat.le_of_ble_eq_true rfl, Nat.le_of_ble_eq_true rfl⟩ (Nat.le_of_ble_eq_true rfl) ⟨Nat.le_of_ble_eq_true rfl, Nat.le_of_ble_eq_true rfl⟩ dL_add_9 (fun w1 H1 locs1 hp hW hS => ?_)
  obtain ⟨g, hg⟩ := ho w1 hp
  refine lv_i2l F.1 F.2.1 dL_add_12 rfl ?_
  refine h_last F hW hS hg (by omega) (by omega) dL_add_13 (fun w2 H2 locs2 hg2 hn2 hW hS => ?_)
  refine h_goto (tgt := 21) F dL_add_14 (by decide) ?_
  refine h_iconst F dL_add_21 ?_
  exact h_ireti F hr hlk hW hS ⟨w1, hp, ⟨_, hg2, by simp [vp_updL]⟩, hn2⟩ dL_add_22
set_option maxHeartbeats 1000000 in
theorem ht_add_1 (l : Launch) (X : Cx) (w : Wo) (y ao : Nat) (p0 p1 p2 p3 : Int) (fs : List Value) (P : Wo → Prop) (hy : w y = some (.inr (8, fs))) (hM : CX l X yX8_add cX8_add 7 (some (.int)) (rmx 7 104) [.ref y, .int (iI p0), .int (iI p1), .int (iI p2), .int (iI p3)] w "java/lang/IllegalArgumentException" P) : CL l X yL_add cL_add 7 (some (.int)) [(0, 14, 17, 19)] (rmx 8 154) [.ref y, .int (iI p0), .int (iI p1), .int (iI p2), .int (iI p3), .ref ao] w (some (.int (iI 1))) (P) := by
  refine CL.of (lv := [(0, .ref y), (1, .int (iI p0)), (2, .int (iI p1)), (3, .int (iI p2)), (4, .int (iI p3)), (5, .ref ao)]) (by decide) (Nat.le_of_ble_eq_true rfl) rfl (fun p e s m below meth c ls F htb hr hlk hW hS hl => ?_)
  refine lv_aload F.1 F.2.1 dL_add_0 (lv_at hl 5 rfl) ?_
  refine h_iconst F dL_add_2 ?_
  refine lv_aload_n F.1 F.2.1 dL_add_3 rfl (lv_at hl 0 rfl) ?_
  refine lv_iload_n F.1 F.2.1 dL_add_4 rfl (lv_at hl 1 rfl) ?_
  refine lv_iload_n F.1 F.2.1 dL_add_5 rfl (lv_at hl 2 rfl) ?_
  refine lv_iload_n F.1 F.2.1 dL_add_6 rfl (lv_at hl 3 rfl) ?_
  refine lv_iload F.1 F.2.1 dL_add_7 (lv_at hl 4 rfl) ?_
  refine cx_RL_82 (As := [.int (iI p0), .int (iI p1), .int (iI p2), .int (iI p3)]) (rest := [.int (iI 0), .ref ao]) F hl hM hW hS hy rfl rfl ⟨Nat.le_of_ble_eq_true rfl, Nat.le_of_ble_eq_true rfl⟩ (Nat.le_of_ble_eq_true rfl) ⟨Nat.le_of_ble_eq_true rfl, Nat.le_of_ble_eq_true rfl⟩ dL_add_9 (fun w1 H1 locs1 ce q9 hp hW hS hce hcv hcl => ?_)
  refine h_caught1 F hW htb (by decide) (by decide) kl_RL_19 (List.mem_of_getElem? (i := 1) rfl) hce hcv hcl ?_
  refine lv_astore (lv' := (6, .ref q9) :: [(0, .ref y), (1, .int (iI p0)), (2, .int (iI p1)), (3, .int (iI p2)), (4, .int (iI p3)), (5, .ref ao)]) F.1 F.2.1 dL_add_17 hl (by decide) rfl (fun ls hl => ?_)
  refine h_iconst F dL_add_19 ?_
  exact h_ireti F hr hlk hW hS hp dL_add_20
set_option maxHeartbeats 1000000 in
theorem hk_drop (l : Launch) (X : Cx) (w : Wo) (y ao : Nat) (p0 : Int) (fs : List Value) (P : Wo → Prop) (hy : w y = some (.inr (8, fs))) (b : Int) (hM : CM l X yX8_drop cX8_drop 2 (some (.int)) (rmk 5 128) [.ref y, .int (iI p0)] w (some (.int (iI b))) P) (ho : ∀ w' : Wo, P w' → ∃ g, w' ao = some (aJ X 1 g)) : CL l X yL_drop cL_drop 4 (some (.int)) [(0, 9, 12, 28)] (rmx 8 149) [.ref y, .int (iI p0), .ref ao] w (some (.int (iI 0))) (fun w2 => ∃ w1, P w1 ∧ (∃ g, w2 ao = some (aJ X 1 g) ∧ g 0 = (iI b).toInt64) ∧ ∀ q : Nat, q ≠ ao → w2 q = w1 q) := by
  refine CL.of (lv := [(0, .ref y), (1, .int (iI p0)), (2, .ref ao)]) (by decide) (Nat.le_of_ble_eq_true rfl) rfl (fun p e s m below meth c ls F htb hr hlk hW hS hl => ?_)
  refine W.widen (k := 1) (n := 6) (Nat.zero_le _) (Nat.zero_le _) ?_
  refine lv_aload_n F.1 F.2.1 dL_drop_0 rfl (lv_at hl 2 rfl) ?_
  refine h_iconst F dL_drop_1 ?_
  refine lv_aload_n F.1 F.2.1 dL_drop_2 rfl (lv_at hl 0 rfl) ?_
  refine lv_iload_n F.1 F.2.1 dL_drop_3 rfl (lv_at hl 1 rfl) ?_
  refine cl_RL_86 (As := [.int (iI p0)]) (rest := [.int (iI 0), .ref ao]) F hl hM hW hS hy rfl rfl ⟨Nat.le_of_ble_eq_true rfl, Nat.le_of_ble_eq_true rfl⟩ (Nat.le_of_ble_eq_true rfl) ⟨Nat.le_of_ble_eq_true rfl, Nat.le_of_ble_eq_true rfl⟩ dL_drop_4 (fun w1 H1 locs1 hp hW hS => ?_)
  obtain ⟨g, hg⟩ := ho w1 hp
  refine lv_i2l F.1 F.2.1 dL_drop_7 rfl ?_
  refine h_last F hW hS hg (by omega) (by omega) dL_drop_8 (fun w2 H2 locs2 hg2 hn2 hW hS => ?_)
  refine h_goto (tgt := 15) F dL_drop_9 (by decide) ?_
  refine h_iconst F dL_drop_15 ?_
  exact h_ireti F hr hlk hW hS ⟨w1, hp, ⟨_, hg2, by simp [vp_updL]⟩, hn2⟩ dL_drop_16
set_option maxHeartbeats 1000000 in
theorem ht_drop_1 (l : Launch) (X : Cx) (w : Wo) (y ao : Nat) (p0 : Int) (fs : List Value) (P : Wo → Prop) (hy : w y = some (.inr (8, fs))) (hM : CX l X yX8_drop cX8_drop 2 (some (.int)) (rmx 7 104) [.ref y, .int (iI p0)] w "java/lang/IndexOutOfBoundsException" P) : CL l X yL_drop cL_drop 4 (some (.int)) [(0, 9, 12, 28)] (rmx 8 149) [.ref y, .int (iI p0), .ref ao] w (some (.int (iI 1))) (P) := by
  refine CL.of (lv := [(0, .ref y), (1, .int (iI p0)), (2, .ref ao)]) (by decide) (Nat.le_of_ble_eq_true rfl) rfl (fun p e s m below meth c ls F htb hr hlk hW hS hl => ?_)
  refine lv_aload_n F.1 F.2.1 dL_drop_0 rfl (lv_at hl 2 rfl) ?_
  refine h_iconst F dL_drop_1 ?_
  refine lv_aload_n F.1 F.2.1 dL_drop_2 rfl (lv_at hl 0 rfl) ?_
  refine lv_iload_n F.1 F.2.1 dL_drop_3 rfl (lv_at hl 1 rfl) ?_
  refine cx_RL_86 (As := [.int (iI p0)]) (rest := [.int (iI 0), .ref ao]) F hl hM hW hS hy rfl rfl ⟨Nat.le_of_ble_eq_true rfl, Nat.le_of_ble_eq_true rfl⟩ (Nat.le_of_ble_eq_true rfl) ⟨Nat.le_of_ble_eq_true rfl, Nat.le_of_ble_eq_true rfl⟩ dL_drop_4 (fun w1 H1 locs1 ce q9 hp hW hS hce hcv hcl => ?_)
  refine h_caught1 F hW htb (by decide) (by decide) kl_RL_28 (List.mem_of_getElem? (i := 2) rfl) hce hcv hcl ?_
  refine lv_astore_n (lv' := (3, .ref q9) :: [(0, .ref y), (1, .int (iI p0)), (2, .ref ao)]) F.1 F.2.1 dL_drop_12 rfl hl (by decide) rfl (fun ls hl => ?_)
  refine h_iconst F dL_drop_13 ?_
  exact h_ireti F hr hlk hW hS hp dL_drop_14
set_option maxHeartbeats 1000000 in
theorem hk_move (l : Launch) (X : Cx) (w : Wo) (y ao : Nat) (p0 p1 p2 : Int) (fs : List Value) (P : Wo → Prop) (hy : w y = some (.inr (8, fs))) (b : Int) (hM : CM l X yX8_move cX8_move 5 (some (.int)) (rmk 5 128) [.ref y, .int (iI p0), .int (iI p1), .int (iI p2)] w (some (.int (iI b))) P) (ho : ∀ w' : Wo, P w' → ∃ g, w' ao = some (aJ X 1 g)) : CL l X yL_move cL_move 6 (some (.int)) [(0, 12, 15, 28)] (rmx 8 152) [.ref y, .int (iI p0), .int (iI p1), .int (iI p2), .ref ao] w (some (.int (iI 0))) (fun w2 => ∃ w1, P w1 ∧ (∃ g, w2 ao = some (aJ X 1 g) ∧ g 0 = (iI b).toInt64) ∧ ∀ q : Nat, q ≠ ao → w2 q = w1 q) := by
  refine CL.of (lv := [(0, .ref y), (1, .int (iI p0)), (2, .int (iI p1)), (3, .int (iI p2)), (4, .ref ao)]) (by decide) (Nat.le_of_ble_eq_true rfl) rfl (fun p e s m below meth c ls F htb hr hlk hW hS hl => ?_)
  refine W.widen (k := 1) (n := 6) (Nat.zero_le _) (Nat.zero_le _) ?_
  refine lv_aload F.1 F.2.1 dL_move_0 (lv_at hl 4 rfl) ?_
  refine h_iconst F dL_move_2 ?_
  refine lv_aload_n F.1 F.2.1 dL_move_3 rfl (lv_at hl 0 rfl) ?_
  refine lv_iload_n F.1 F.2.1 dL_move_4 rfl (lv_at hl 1 rfl) ?_
  refine lv_iload_n F.1 F.2.1 dL_move_5 rfl (lv_at hl 2 rfl) ?_
  refine lv_iload_n F.1 F.2.1 dL_move_6 rfl (lv_at hl 3 rfl) ?_
  refine cl_RL_89 (As := [.int (iI p0), .int (iI p1), .int (iI p2)]) (rest := [.int (iI 0), .ref ao]) F hl hM hW hS hy rfl rfl ⟨Nat.le_of_ble_eq_true rfl, Nat.le_of_ble_eq_true rfl⟩ (Nat.le_of_ble_eq_true rfl) ⟨Nat.le_of_ble_eq_true rfl, Nat.le_of_ble_eq_true rfl⟩ dL_move_7 (fun w1 H1 locs1 hp hW hS => ?_)
  obtain ⟨g, hg⟩ := ho w1 hp
  refine lv_i2l F.1 F.2.1 dL_move_10 rfl ?_
  refine h_last F hW hS hg (by omega) (by omega) dL_move_11 (fun w2 H2 locs2 hg2 hn2 hW hS => ?_)
  refine h_goto (tgt := 19) F dL_move_12 (by decide) ?_
  refine h_iconst F dL_move_19 ?_
  exact h_ireti F hr hlk hW hS ⟨w1, hp, ⟨_, hg2, by simp [vp_updL]⟩, hn2⟩ dL_move_20
set_option maxHeartbeats 1000000 in
theorem ht_move_1 (l : Launch) (X : Cx) (w : Wo) (y ao : Nat) (p0 p1 p2 : Int) (fs : List Value) (P : Wo → Prop) (hy : w y = some (.inr (8, fs))) (hM : CX l X yX8_move cX8_move 5 (some (.int)) (rmx 7 104) [.ref y, .int (iI p0), .int (iI p1), .int (iI p2)] w "java/lang/IndexOutOfBoundsException" P) : CL l X yL_move cL_move 6 (some (.int)) [(0, 12, 15, 28)] (rmx 8 152) [.ref y, .int (iI p0), .int (iI p1), .int (iI p2), .ref ao] w (some (.int (iI 1))) (P) := by
  refine CL.of (lv := [(0, .ref y), (1, .int (iI p0)), (2, .int (iI p1)), (3, .int (iI p2)), (4, .ref ao)]) (by decide) (Nat.le_of_ble_eq_true rfl) rfl (fun p e s m below meth c ls F htb hr hlk hW hS hl => ?_)
  refine lv_aload F.1 F.2.1 dL_move_0 (lv_at hl 4 rfl) ?_
  refine h_iconst F dL_move_2 ?_
  refine lv_aload_n F.1 F.2.1 dL_move_3 rfl (lv_at hl 0 rfl) ?_
  refine lv_iload_n F.1 F.2.1 dL_move_4 rfl (lv_at hl 1 rfl) ?_
  refine lv_iload_n F.1 F.2.1 dL_move_5 rfl (lv_at hl 2 rfl) ?_
  refine lv_iload_n F.1 F.2.1 dL_move_6 rfl (lv_at hl 3 rfl) ?_
  refine cx_RL_89 (As := [.int (iI p0), .int (iI p1), .int (iI p2)]) (rest := [.int (iI 0), .ref ao]) F hl hM hW hS hy rfl rfl ⟨Nat.le_of_ble_eq_true rfl, Nat.le_of_ble_eq_true rfl⟩ (Nat.le_of_ble_eq_true rfl) ⟨Nat.le_of_ble_eq_true rfl, Nat.le_of_ble_eq_true rfl⟩ dL_move_7 (fun w1 H1 locs1 ce q9 hp hW hS hce hcv hcl => ?_)
  refine h_caught1 F hW htb (by decide) (by decide) kl_RL_28 (List.mem_of_getElem? (i := 2) rfl) hce hcv hcl ?_
  refine lv_astore (lv' := (5, .ref q9) :: [(0, .ref y), (1, .int (iI p0)), (2, .int (iI p1)), (3, .int (iI p2)), (4, .ref ao)]) F.1 F.2.1 dL_move_15 hl (by decide) rfl (fun ls hl => ?_)
  refine h_iconst F dL_move_17 ?_
  exact h_ireti F hr hlk hW hS hp dL_move_18
set_option maxHeartbeats 1000000 in
theorem hk_setStock (l : Launch) (X : Cx) (w : Wo) (y ao : Nat) (p0 p1 : Int) (fs : List Value) (P : Wo → Prop) (hy : w y = some (.inr (8, fs))) (b : Int) (hM : CM l X yX8_setStock cX8_setStock 4 (some (.int)) (rmk 5 128) [.ref y, .int (iI p0), .int (iI p1)] w (some (.int (iI b))) P) (ho : ∀ w' : Wo, P w' → ∃ g, w' ao = some (aJ X 1 g)) : CL l X yL_setStock cL_setStock 5 (some (.int)) [(0, 10, 13, 28), (0, 10, 17, 19)] (rmx 8 151) [.ref y, .int (iI p0), .int (iI p1), .ref ao] w (some (.int (iI 0))) (fun w2 => ∃ w1, P w1 ∧ (∃ g, w2 ao = some (aJ X 1 g) ∧ g 0 = (iI b).toInt64) ∧ ∀ q : Nat, q ≠ ao → w2 q = w1 q) := by
  refine CL.of (lv := [(0, .ref y), (1, .int (iI p0)), (2, .int (iI p1)), (3, .ref ao)]) (by decide) (Nat.le_of_ble_eq_true rfl) rfl (fun p e s m below meth c ls F htb hr hlk hW hS hl => ?_)
  refine W.widen (k := 1) (n := 6) (Nat.zero_le _) (Nat.zero_le _) ?_
  refine lv_aload_n F.1 F.2.1 dL_setStock_0 rfl (lv_at hl 3 rfl) ?_
  refine h_iconst F dL_setStock_1 ?_
  refine lv_aload_n F.1 F.2.1 dL_setStock_2 rfl (lv_at hl 0 rfl) ?_
  refine lv_iload_n F.1 F.2.1 dL_setStock_3 rfl (lv_at hl 1 rfl) ?_
  refine lv_iload_n F.1 F.2.1 dL_setStock_4 rfl (lv_at hl 2 rfl) ?_
  refine cl_RL_92 (As := [.int (iI p0), .int (iI p1)]) (rest := [.int (iI 0), .ref ao]) F hl hM hW hS hy rfl rfl ⟨Nat.le_of_ble_eq_true rfl, Nat.le_of_ble_eq_true rfl⟩ (Nat.le_of_ble_eq_true rfl) ⟨Nat.le_of_ble_eq_true rfl, Nat.le_of_ble_eq_true rfl⟩ dL_setStock_5 (fun w1 H1 locs1 hp hW hS => ?_)
  obtain ⟨g, hg⟩ := ho w1 hp
  refine lv_i2l F.1 F.2.1 dL_setStock_8 rfl ?_
  refine h_last F hW hS hg (by omega) (by omega) dL_setStock_9 (fun w2 H2 locs2 hg2 hn2 hW hS => ?_)
  refine h_goto (tgt := 21) F dL_setStock_10 (by decide) ?_
  refine h_iconst F dL_setStock_21 ?_
  exact h_ireti F hr hlk hW hS ⟨w1, hp, ⟨_, hg2, by simp [vp_updL]⟩, hn2⟩ dL_setStock_22
set_option maxHeartbeats 1000000 in
theorem ht_setStock_1 (l : Launch) (X : Cx) (w : Wo) (y ao : Nat) (p0 p1 : Int) (fs : List Value) (P : Wo → Prop) (hy : w y = some (.inr (8, fs))) (hM : CX l X yX8_setStock cX8_setStock 4 (some (.int)) (rmx 7 104) [.ref y, .int (iI p0), .int (iI p1)] w "java/lang/IndexOutOfBoundsException" P) : CL l X yL_setStock cL_setStock 5 (some (.int)) [(0, 10, 13, 28), (0, 10, 17, 19)] (rmx 8 151) [.ref y, .int (iI p0), .int (iI p1), .ref ao] w (some (.int (iI 1))) (P) := by
  refine CL.of (lv := [(0, .ref y), (1, .int (iI p0)), (2, .int (iI p1)), (3, .ref ao)]) (by decide) (Nat.le_of_ble_eq_true rfl) rfl (fun p e s m below meth c ls F htb hr hlk hW hS hl => ?_)
  refine lv_aload_n F.1 F.2.1 dL_setStock_0 rfl (lv_at hl 3 rfl) ?_
  refine h_iconst F dL_setStock_1 ?_
  refine lv_aload_n F.1 F.2.1 dL_setStock_2 rfl (lv_at hl 0 rfl) ?_
  refine lv_iload_n F.1 F.2.1 dL_setStock_3 rfl (lv_at hl 1 rfl) ?_
  refine lv_iload_n F.1 F.2.1 dL_setStock_4 rfl (lv_at hl 2 rfl) ?_
  refine cx_RL_92 (As := [.int (iI p0), .int (iI p1)]) (rest := [.int (iI 0), .ref ao]) F hl hM hW hS hy rfl rfl ⟨Nat.le_of_ble_eq_true rfl, Nat.le_of_ble_eq_true rfl⟩ (Nat.le_of_ble_eq_true rfl) ⟨Nat.le_of_ble_eq_true rfl, Nat.le_of_ble_eq_true rfl⟩ dL_setStock_5 (fun w1 H1 locs1 ce q9 hp hW hS hce hcv hcl => ?_)
  refine h_caught1 F hW htb (by decide) (by decide) kl_RL_28 (List.mem_of_getElem? (i := 2) rfl) hce hcv hcl ?_
  refine lv_astore (lv' := (4, .ref q9) :: [(0, .ref y), (1, .int (iI p0)), (2, .int (iI p1)), (3, .ref ao)]) F.1 F.2.1 dL_setStock_13 hl (by decide) rfl (fun ls hl => ?_)
  refine h_iconst F dL_setStock_15 ?_
  exact h_ireti F hr hlk hW hS hp dL_setStock_16
set_option maxHeartbeats 1000000 in
theorem ht_setStock_2 (l : Launch) (X : Cx) (w : Wo) (y ao : Nat) (p0 p1 : Int) (fs : List Value) (P : Wo → Prop) (hy : w y = some (.inr (8, fs))) (hM : CX l X yX8_setStock cX8_setStock 4 (some (.int)) (rmx 7 104) [.ref y, .int (iI p0), .int (iI p1)] w "java/lang/IllegalArgumentException" P) : CL l X yL_setStock cL_setStock 5 (some (.int)) [(0, 10, 13, 28), (0, 10, 17, 19)] (rmx 8 151) [.ref y, .int (iI p0), .int (iI p1), .ref ao] w (some (.int (iI 2))) (P) := by
  refine CL.of (lv := [(0, .ref y), (1, .int (iI p0)), (2, .int (iI p1)), (3, .ref ao)]) (by decide) (Nat.le_of_ble_eq_true rfl) rfl (fun p e s m below meth c ls F htb hr hlk hW hS hl => ?_)
  refine lv_aload_n F.1 F.2.1 dL_setStock_0 rfl (lv_at hl 3 rfl) ?_
  refine h_iconst F dL_setStock_1 ?_
  refine lv_aload_n F.1 F.2.1 dL_setStock_2 rfl (lv_at hl 0 rfl) ?_
  refine lv_iload_n F.1 F.2.1 dL_setStock_3 rfl (lv_at hl 1 rfl) ?_
  refine lv_iload_n F.1 F.2.1 dL_setStock_4 rfl (lv_at hl 2 rfl) ?_
  refine cx_RL_92 (As := [.int (iI p0), .int (iI p1)]) (rest := [.int (iI 0), .ref ao]) F hl hM hW hS hy rfl rfl ⟨Nat.le_of_ble_eq_true rfl, Nat.le_of_ble_eq_true rfl⟩ (Nat.le_of_ble_eq_true rfl) ⟨Nat.le_of_ble_eq_true rfl, Nat.le_of_ble_eq_true rfl⟩ dL_setStock_5 (fun w1 H1 locs1 ce q9 hp hW hS hce hcv hcl => ?_)
  refine h_caught2 F hW htb (by decide) kl_RL_28 (List.mem_of_getElem? (i := 0) rfl) (by decide) (by decide) kl_RL_19 (List.mem_of_getElem? (i := 1) rfl) hce hcv hcl ?_
  refine lv_astore (lv' := (4, .ref q9) :: [(0, .ref y), (1, .int (iI p0)), (2, .int (iI p1)), (3, .ref ao)]) F.1 F.2.1 dL_setStock_17 hl (by decide) rfl (fun ls hl => ?_)
  refine h_iconst F dL_setStock_19 ?_
  exact h_ireti F hr hlk hW hS hp dL_setStock_20
set_option maxHeartbeats 1000000 in
theorem hk_setDelay (l : Launch) (X : Cx) (w : Wo) (y ao : Nat) (p0 : Int) (fs : List Value) (P : Wo → Prop) (hy : w y = some (.inr (8, fs))) (b : Int) (hM : CM l X yX8_setDelay cX8_setDelay 3 (some (.int)) (rmk 5 128) [.ref y, .int (iI p0)] w (some (.int (iI b))) P) (ho : ∀ w' : Wo, P w' → ∃ g, w' ao = some (aJ X 1 g)) : CL l X yL_setDelay cL_setDelay 4 (some (.int)) [(0, 9, 12, 19)] (rmx 8 150) [.ref y, .int (iI p0), .ref ao] w (some (.int (iI 0))) (fun w2 => ∃ w1, P w1 ∧ (∃ g, w2 ao = some (aJ X 1 g) ∧ g 0 = (iI b).toInt64) ∧ ∀ q : Nat, q ≠ ao → w2 q = w1 q) := by
  refine CL.of (lv := [(0, .ref y), (1, .int (iI p0)), (2, .ref ao)]) (by decide) (Nat.le_of_ble_eq_true rfl) rfl (fun p e s m below meth c ls F htb hr hlk hW hS hl => ?_)
  refine W.widen (k := 1) (n := 6) (Nat.zero_le _) (Nat.zero_le _) ?_
  refine lv_aload_n F.1 F.2.1 dL_setDelay_0 rfl (lv_at hl 2 rfl) ?_
  refine h_iconst F dL_setDelay_1 ?_
  refine lv_aload_n F.1 F.2.1 dL_setDelay_2 rfl (lv_at hl 0 rfl) ?_
  refine lv_iload_n F.1 F.2.1 dL_setDelay_3 rfl (lv_at hl 1 rfl) ?_
  refine cl_RL_95 (As := [.int (iI p0)]) (rest := [.int (iI 0), .ref ao]) F hl hM hW hS hy rfl rfl ⟨Nat.le_of_ble_eq_true rfl, Nat.le_of_ble_eq_true rfl⟩ (Nat.le_of_ble_eq_true rfl) ⟨Nat.le_of_ble_eq_true rfl, Nat.le_of_ble_eq_true rfl⟩ dL_setDelay_4 (fun w1 H1 locs1 hp hW hS => ?_)
  obtain ⟨g, hg⟩ := ho w1 hp
  refine lv_i2l F.1 F.2.1 dL_setDelay_7 rfl ?_
  refine h_last F hW hS hg (by omega) (by omega) dL_setDelay_8 (fun w2 H2 locs2 hg2 hn2 hW hS => ?_)
  refine h_goto (tgt := 15) F dL_setDelay_9 (by decide) ?_
  refine h_iconst F dL_setDelay_15 ?_
  exact h_ireti F hr hlk hW hS ⟨w1, hp, ⟨_, hg2, by simp [vp_updL]⟩, hn2⟩ dL_setDelay_16
set_option maxHeartbeats 1000000 in
theorem ht_setDelay_1 (l : Launch) (X : Cx) (w : Wo) (y ao : Nat) (p0 : Int) (fs : List Value) (P : Wo → Prop) (hy : w y = some (.inr (8, fs))) (hM : CX l X yX8_setDelay cX8_setDelay 3 (some (.int)) (rmx 7 104) [.ref y, .int (iI p0)] w "java/lang/IllegalArgumentException" P) : CL l X yL_setDelay cL_setDelay 4 (some (.int)) [(0, 9, 12, 19)] (rmx 8 150) [.ref y, .int (iI p0), .ref ao] w (some (.int (iI 1))) (P) := by
  refine CL.of (lv := [(0, .ref y), (1, .int (iI p0)), (2, .ref ao)]) (by decide) (Nat.le_of_ble_eq_true rfl) rfl (fun p e s m below meth c ls F htb hr hlk hW hS hl => ?_)
  refine lv_aload_n F.1 F.2.1 dL_setDelay_0 rfl (lv_at hl 2 rfl) ?_
  refine h_iconst F dL_setDelay_1 ?_
  refine lv_aload_n F.1 F.2.1 dL_setDelay_2 rfl (lv_at hl 0 rfl) ?_
  refine lv_iload_n F.1 F.2.1 dL_setDelay_3 rfl (lv_at hl 1 rfl) ?_
  refine cx_RL_95 (As := [.int (iI p0)]) (rest := [.int (iI 0), .ref ao]) F hl hM hW hS hy rfl rfl ⟨Nat.le_of_ble_eq_true rfl, Nat.le_of_ble_eq_true rfl⟩ (Nat.le_of_ble_eq_true rfl) ⟨Nat.le_of_ble_eq_true rfl, Nat.le_of_ble_eq_true rfl⟩ dL_setDelay_4 (fun w1 H1 locs1 ce q9 hp hW hS hce hcv hcl => ?_)
  refine h_caught1 F hW htb (by decide) (by decide) kl_RL_19 (List.mem_of_getElem? (i := 1) rfl) hce hcv hcl ?_
  refine lv_astore_n (lv' := (3, .ref q9) :: [(0, .ref y), (1, .int (iI p0)), (2, .ref ao)]) F.1 F.2.1 dL_setDelay_12 rfl hl (by decide) rfl (fun ls hl => ?_)
  refine h_iconst F dL_setDelay_13 ?_
  exact h_ireti F hr hlk hW hS hp dL_setDelay_14
set_option maxHeartbeats 1000000 in
theorem hk_writeRow (l : Launch) (X : Cx) (w : Wo) (y ao : Nat) (p0 : Int) (b1 : Bool) (fs : List Value) (P : Wo → Prop) (hy : w y = some (.inr (8, fs))) (b : Int) (hM : CM l X yX8_writeRow cX8_writeRow 6 (some (.int)) (rmk 3 68) [.ref y, .int (iI p0), .int (iI (bz b1))] w (some (.int (iI b))) P) (ho : ∀ w' : Wo, P w' → ∃ g, w' ao = some (aJ X 1 g)) : CL l X yL_writeRow cL_writeRow 5 (some (.int)) [(0, 10, 13, 28)] (rmx 8 129) [.ref y, .int (iI p0), .int (iI (bz b1)), .ref ao] w (some (.int (iI 0))) (fun w2 => ∃ w1, P w1 ∧ (∃ g, w2 ao = some (aJ X 1 g) ∧ g 0 = (iI b).toInt64) ∧ ∀ q : Nat, q ≠ ao → w2 q = w1 q) := by
  refine CL.of (lv := [(0, .ref y), (1, .int (iI p0)), (2, .int (iI (bz b1))), (3, .ref ao)]) (by decide) (Nat.le_of_ble_eq_true rfl) rfl (fun p e s m below meth c ls F htb hr hlk hW hS hl => ?_)
  refine W.widen (k := 1) (n := 6) (Nat.zero_le _) (Nat.zero_le _) ?_
  refine lv_aload_n F.1 F.2.1 dL_writeRow_0 rfl (lv_at hl 3 rfl) ?_
  refine h_iconst F dL_writeRow_1 ?_
  refine lv_aload_n F.1 F.2.1 dL_writeRow_2 rfl (lv_at hl 0 rfl) ?_
  refine lv_iload_n F.1 F.2.1 dL_writeRow_3 rfl (lv_at hl 1 rfl) ?_
  refine lv_iload_n F.1 F.2.1 dL_writeRow_4 rfl (lv_at hl 2 rfl) ?_
  refine cl_RL_98 (As := [.int (iI p0), .int (iI (bz b1))]) (rest := [.int (iI 0), .ref ao]) F hl hM hW hS hy rfl rfl ⟨Nat.le_of_ble_eq_true rfl, Nat.le_of_ble_eq_true rfl⟩ (Nat.le_of_ble_eq_true rfl) ⟨Nat.le_of_ble_eq_true rfl, Nat.le_of_ble_eq_true rfl⟩ dL_writeRow_5 (fun w1 H1 locs1 hp hW hS => ?_)
  obtain ⟨g, hg⟩ := ho w1 hp
  refine lv_i2l F.1 F.2.1 dL_writeRow_8 rfl ?_
  refine h_last F hW hS hg (by omega) (by omega) dL_writeRow_9 (fun w2 H2 locs2 hg2 hn2 hW hS => ?_)
  refine h_goto (tgt := 17) F dL_writeRow_10 (by decide) ?_
  refine h_iconst F dL_writeRow_17 ?_
  exact h_ireti F hr hlk hW hS ⟨w1, hp, ⟨_, hg2, by simp [vp_updL]⟩, hn2⟩ dL_writeRow_18
set_option maxHeartbeats 1000000 in
theorem ht_writeRow_1 (l : Launch) (X : Cx) (w : Wo) (y ao : Nat) (p0 : Int) (b1 : Bool) (fs : List Value) (P : Wo → Prop) (hy : w y = some (.inr (8, fs))) (hM : CX l X yX8_writeRow cX8_writeRow 6 (some (.int)) (rmx 7 104) [.ref y, .int (iI p0), .int (iI (bz b1))] w "java/lang/IndexOutOfBoundsException" P) : CL l X yL_writeRow cL_writeRow 5 (some (.int)) [(0, 10, 13, 28)] (rmx 8 129) [.ref y, .int (iI p0), .int (iI (bz b1)), .ref ao] w (some (.int (iI 1))) (P) := by
  refine CL.of (lv := [(0, .ref y), (1, .int (iI p0)), (2, .int (iI (bz b1))), (3, .ref ao)]) (by decide) (Nat.le_of_ble_eq_true rfl) rfl (fun p e s m below meth c ls F htb hr hlk hW hS hl => ?_)
  refine lv_aload_n F.1 F.2.1 dL_writeRow_0 rfl (lv_at hl 3 rfl) ?_
  refine h_iconst F dL_writeRow_1 ?_
  refine lv_aload_n F.1 F.2.1 dL_writeRow_2 rfl (lv_at hl 0 rfl) ?_
  refine lv_iload_n F.1 F.2.1 dL_writeRow_3 rfl (lv_at hl 1 rfl) ?_
  refine lv_iload_n F.1 F.2.1 dL_writeRow_4 rfl (lv_at hl 2 rfl) ?_
  refine cx_RL_98 (As := [.int (iI p0), .int (iI (bz b1))]) (rest := [.int (iI 0), .ref ao]) F hl hM hW hS hy rfl rfl ⟨Nat.le_of_ble_eq_true rfl, Nat.le_of_ble_eq_true rfl⟩ (Nat.le_of_ble_eq_true rfl) ⟨Nat.le_of_ble_eq_true rfl, Nat.le_of_ble_eq_true rfl⟩ dL_writeRow_5 (fun w1 H1 locs1 ce q9 hp hW hS hce hcv hcl => ?_)
  refine h_caught1 F hW htb (by decide) (by decide) kl_RL_28 (List.mem_of_getElem? (i := 2) rfl) hce hcv hcl ?_
  refine lv_astore (lv' := (4, .ref q9) :: [(0, .ref y), (1, .int (iI p0)), (2, .int (iI (bz b1))), (3, .ref ao)]) F.1 F.2.1 dL_writeRow_13 hl (by decide) rfl (fun ls hl => ?_)
  refine h_iconst F dL_writeRow_15 ?_
  exact h_ireti F hr hlk hW hS hp dL_writeRow_16
set_option maxHeartbeats 1000000 in
theorem hk_writeCaption (l : Launch) (X : Cx) (w : Wo) (y ao : Nat) (p0 : Int) (fs : List Value) (P : Wo → Prop) (hy : w y = some (.inr (8, fs))) (b : Int) (hM : CM l X yX8_writeCaption cX8_writeCaption 4 (some (.int)) (rmk 4 93) [.ref y, .int (iI p0)] w (some (.int (iI b))) P) (ho : ∀ w' : Wo, P w' → ∃ g, w' ao = some (aJ X 1 g)) : CL l X yL_writeCaption cL_writeCaption 4 (some (.int)) [(0, 9, 12, 28)] (rmx 8 127) [.ref y, .int (iI p0), .ref ao] w (some (.int (iI 0))) (fun w2 => ∃ w1, P w1 ∧ (∃ g, w2 ao = some (aJ X 1 g) ∧ g 0 = (iI b).toInt64) ∧ ∀ q : Nat, q ≠ ao → w2 q = w1 q) := by
  refine CL.of (lv := [(0, .ref y), (1, .int (iI p0)), (2, .ref ao)]) (by decide) (Nat.le_of_ble_eq_true rfl) rfl (fun p e s m below meth c ls F htb hr hlk hW hS hl => ?_)
  refine W.widen (k := 1) (n := 6) (Nat.zero_le _) (Nat.zero_le _) ?_
  refine lv_aload_n F.1 F.2.1 dL_writeCaption_0 rfl (lv_at hl 2 rfl) ?_
  refine h_iconst F dL_writeCaption_1 ?_
  refine lv_aload_n F.1 F.2.1 dL_writeCaption_2 rfl (lv_at hl 0 rfl) ?_
  refine lv_iload_n F.1 F.2.1 dL_writeCaption_3 rfl (lv_at hl 1 rfl) ?_
  refine cl_RL_101 (As := [.int (iI p0)]) (rest := [.int (iI 0), .ref ao]) F hl hM hW hS hy rfl rfl ⟨Nat.le_of_ble_eq_true rfl, Nat.le_of_ble_eq_true rfl⟩ (Nat.le_of_ble_eq_true rfl) ⟨Nat.le_of_ble_eq_true rfl, Nat.le_of_ble_eq_true rfl⟩ dL_writeCaption_4 (fun w1 H1 locs1 hp hW hS => ?_)
  obtain ⟨g, hg⟩ := ho w1 hp
  refine lv_i2l F.1 F.2.1 dL_writeCaption_7 rfl ?_
  refine h_last F hW hS hg (by omega) (by omega) dL_writeCaption_8 (fun w2 H2 locs2 hg2 hn2 hW hS => ?_)
  refine h_goto (tgt := 15) F dL_writeCaption_9 (by decide) ?_
  refine h_iconst F dL_writeCaption_15 ?_
  exact h_ireti F hr hlk hW hS ⟨w1, hp, ⟨_, hg2, by simp [vp_updL]⟩, hn2⟩ dL_writeCaption_16
set_option maxHeartbeats 1000000 in
theorem ht_writeCaption_1 (l : Launch) (X : Cx) (w : Wo) (y ao : Nat) (p0 : Int) (fs : List Value) (P : Wo → Prop) (hy : w y = some (.inr (8, fs))) (hM : CX l X yX8_writeCaption cX8_writeCaption 4 (some (.int)) (rmx 7 104) [.ref y, .int (iI p0)] w "java/lang/IndexOutOfBoundsException" P) : CL l X yL_writeCaption cL_writeCaption 4 (some (.int)) [(0, 9, 12, 28)] (rmx 8 127) [.ref y, .int (iI p0), .ref ao] w (some (.int (iI 1))) (P) := by
  refine CL.of (lv := [(0, .ref y), (1, .int (iI p0)), (2, .ref ao)]) (by decide) (Nat.le_of_ble_eq_true rfl) rfl (fun p e s m below meth c ls F htb hr hlk hW hS hl => ?_)
  refine lv_aload_n F.1 F.2.1 dL_writeCaption_0 rfl (lv_at hl 2 rfl) ?_
  refine h_iconst F dL_writeCaption_1 ?_
  refine lv_aload_n F.1 F.2.1 dL_writeCaption_2 rfl (lv_at hl 0 rfl) ?_
  refine lv_iload_n F.1 F.2.1 dL_writeCaption_3 rfl (lv_at hl 1 rfl) ?_
  refine cx_RL_101 (As := [.int (iI p0)]) (rest := [.int (iI 0), .ref ao]) F hl hM hW hS hy rfl rfl ⟨Nat.le_of_ble_eq_true rfl, Nat.le_of_ble_eq_true rfl⟩ (Nat.le_of_ble_eq_true rfl) ⟨Nat.le_of_ble_eq_true rfl, Nat.le_of_ble_eq_true rfl⟩ dL_writeCaption_4 (fun w1 H1 locs1 ce q9 hp hW hS hce hcv hcl => ?_)
  refine h_caught1 F hW htb (by decide) (by decide) kl_RL_28 (List.mem_of_getElem? (i := 2) rfl) hce hcv hcl ?_
  refine lv_astore_n (lv' := (3, .ref q9) :: [(0, .ref y), (1, .int (iI p0)), (2, .ref ao)]) F.1 F.2.1 dL_writeCaption_12 rfl hl (by decide) rfl (fun ls hl => ?_)
  refine h_iconst F dL_writeCaption_13 ?_
  exact h_ireti F hr hlk hW hS hp dL_writeCaption_14
set_option maxHeartbeats 1000000 in
theorem hk_save (l : Launch) (X : Cx) (w : Wo) (y : Nat) (p0 : Int) (fs : List Value) (P : Wo → Prop) (hy : w y = some (.inr (8, fs))) (hM : CM l X yX8_save cX8_save 2 none (rmk 3 87) [.ref y, .int (iI p0)] w none P) : CL l X yL_save cL_save 3 (some (.int)) [(0, 5, 8, 19)] (rmx 8 125) [.ref y, .int (iI p0)] w (some (.int (iI 0))) (P) := by
  refine CL.of (lv := [(0, .ref y), (1, .int (iI p0))]) (by decide) (Nat.le_of_ble_eq_true rfl) rfl (fun p e s m below meth c ls F htb hr hlk hW hS hl => ?_)
  refine W.widen (k := 1) (n := 6) (Nat.zero_le _) (Nat.zero_le _) ?_
  refine lv_aload_n F.1 F.2.1 dL_save_0 rfl (lv_at hl 0 rfl) ?_
  refine lv_iload_n F.1 F.2.1 dL_save_1 rfl (lv_at hl 1 rfl) ?_
  refine cl_RL_104 (As := [.int (iI p0)]) (rest := []) F hl hM hW hS hy rfl rfl ⟨Nat.le_of_ble_eq_true rfl, Nat.le_of_ble_eq_true rfl⟩ (Nat.le_of_ble_eq_true rfl) ⟨Nat.le_of_ble_eq_true rfl, Nat.le_of_ble_eq_true rfl⟩ dL_save_2 (fun w1 H1 locs1 hp hW hS => ?_)
  refine h_goto (tgt := 11) F dL_save_5 (by decide) ?_
  refine h_iconst F dL_save_11 ?_
  exact h_ireti F hr hlk hW hS hp dL_save_12
set_option maxHeartbeats 1000000 in
theorem ht_save_1 (l : Launch) (X : Cx) (w : Wo) (y : Nat) (p0 : Int) (fs : List Value) (P : Wo → Prop) (hy : w y = some (.inr (8, fs))) (hM : CX l X yX8_save cX8_save 2 none (rmx 7 104) [.ref y, .int (iI p0)] w "java/lang/IllegalArgumentException" P) : CL l X yL_save cL_save 3 (some (.int)) [(0, 5, 8, 19)] (rmx 8 125) [.ref y, .int (iI p0)] w (some (.int (iI 1))) (P) := by
  refine CL.of (lv := [(0, .ref y), (1, .int (iI p0))]) (by decide) (Nat.le_of_ble_eq_true rfl) rfl (fun p e s m below meth c ls F htb hr hlk hW hS hl => ?_)
  refine lv_aload_n F.1 F.2.1 dL_save_0 rfl (lv_at hl 0 rfl) ?_
  refine lv_iload_n F.1 F.2.1 dL_save_1 rfl (lv_at hl 1 rfl) ?_
  refine cx_RL_104 (As := [.int (iI p0)]) (rest := []) F hl hM hW hS hy rfl rfl ⟨Nat.le_of_ble_eq_true rfl, Nat.le_of_ble_eq_true rfl⟩ (Nat.le_of_ble_eq_true rfl) ⟨Nat.le_of_ble_eq_true rfl, Nat.le_of_ble_eq_true rfl⟩ dL_save_2 (fun w1 H1 locs1 ce q9 hp hW hS hce hcv hcl => ?_)
  refine h_caught1 F hW htb (by decide) (by decide) kl_RL_19 (List.mem_of_getElem? (i := 1) rfl) hce hcv hcl ?_
  refine lv_astore_n (lv' := (2, .ref q9) :: [(0, .ref y), (1, .int (iI p0))]) F.1 F.2.1 dL_save_8 rfl hl (by decide) rfl (fun ls hl => ?_)
  refine h_iconst F dL_save_9 ?_
  exact h_ireti F hr hlk hW hS hp dL_save_10
set_option maxHeartbeats 1000000 in
theorem hk_restore (l : Launch) (X : Cx) (w : Wo) (y : Nat) (p0 : Int) (fs : List Value) (P : Wo → Prop) (hy : w y = some (.inr (8, fs))) (hM : CM l X yX8_restore cX8_restore 2 none (rmk 3 87) [.ref y, .int (iI p0)] w none P) : CL l X yL_restore cL_restore 3 (some (.int)) [(0, 5, 8, 19), (0, 5, 11, 13)] (rmx 8 125) [.ref y, .int (iI p0)] w (some (.int (iI 0))) (P) := by
  refine CL.of (lv := [(0, .ref y), (1, .int (iI p0))]) (by decide) (Nat.le_of_ble_eq_true rfl) rfl (fun p e s m below meth c ls F htb hr hlk hW hS hl => ?_)
  refine W.widen (k := 1) (n := 6) (Nat.zero_le _) (Nat.zero_le _) ?_
  refine lv_aload_n F.1 F.2.1 dL_restore_0 rfl (lv_at hl 0 rfl) ?_
  refine lv_iload_n F.1 F.2.1 dL_restore_1 rfl (lv_at hl 1 rfl) ?_
  refine cl_RL_108 (As := [.int (iI p0)]) (rest := []) F hl hM hW hS hy rfl rfl ⟨Nat.le_of_ble_eq_true rfl, Nat.le_of_ble_eq_true rfl⟩ (Nat.le_of_ble_eq_true rfl) ⟨Nat.le_of_ble_eq_true rfl, Nat.le_of_ble_eq_true rfl⟩ dL_restore_2 (fun w1 H1 locs1 hp hW hS => ?_)
  refine h_goto (tgt := 14) F dL_restore_5 (by decide) ?_
  refine h_iconst F dL_restore_14 ?_
  exact h_ireti F hr hlk hW hS hp dL_restore_15
set_option maxHeartbeats 1000000 in
theorem ht_restore_1 (l : Launch) (X : Cx) (w : Wo) (y : Nat) (p0 : Int) (fs : List Value) (P : Wo → Prop) (hy : w y = some (.inr (8, fs))) (hM : CX l X yX8_restore cX8_restore 2 none (rmx 7 104) [.ref y, .int (iI p0)] w "java/lang/IllegalArgumentException" P) : CL l X yL_restore cL_restore 3 (some (.int)) [(0, 5, 8, 19), (0, 5, 11, 13)] (rmx 8 125) [.ref y, .int (iI p0)] w (some (.int (iI 1))) (P) := by
  refine CL.of (lv := [(0, .ref y), (1, .int (iI p0))]) (by decide) (Nat.le_of_ble_eq_true rfl) rfl (fun p e s m below meth c ls F htb hr hlk hW hS hl => ?_)
  refine lv_aload_n F.1 F.2.1 dL_restore_0 rfl (lv_at hl 0 rfl) ?_
  refine lv_iload_n F.1 F.2.1 dL_restore_1 rfl (lv_at hl 1 rfl) ?_
  refine cx_RL_108 (As := [.int (iI p0)]) (rest := []) F hl hM hW hS hy rfl rfl ⟨Nat.le_of_ble_eq_true rfl, Nat.le_of_ble_eq_true rfl⟩ (Nat.le_of_ble_eq_true rfl) ⟨Nat.le_of_ble_eq_true rfl, Nat.le_of_ble_eq_true rfl⟩ dL_restore_2 (fun w1 H1 locs1 ce q9 hp hW hS hce hcv hcl => ?_)
  refine h_caught1 F hW htb (by decide) (by decide) kl_RL_19 (List.mem_of_getElem? (i := 1) rfl) hce hcv hcl ?_
  refine lv_astore_n (lv' := (2, .ref q9) :: [(0, .ref y), (1, .int (iI p0))]) F.1 F.2.1 dL_restore_8 rfl hl (by decide) rfl (fun ls hl => ?_)
  refine h_iconst F dL_restore_9 ?_
  exact h_ireti F hr hlk hW hS hp dL_restore_10
set_option maxHeartbeats 1000000 in
theorem ht_restore_2 (l : Launch) (X : Cx) (w : Wo) (y : Nat) (p0 : Int) (fs : List Value) (P : Wo → Prop) (hy : w y = some (.inr (8, fs))) (hM : CX l X yX8_restore cX8_restore 2 none (rmx 7 104) [.ref y, .int (iI p0)] w "java/lang/IllegalStateException" P) : CL l X yL_restore cL_restore 3 (some (.int)) [(0, 5, 8, 19), (0, 5, 11, 13)] (rmx 8 125) [.ref y, .int (iI p0)] w (some (.int (iI 2))) (P) := by
  refine CL.of (lv := [(0, .ref y), (1, .int (iI p0))]) (by decide) (Nat.le_of_ble_eq_true rfl) rfl (fun p e s m below meth c ls F htb hr hlk hW hS hl => ?_)
  refine lv_aload_n F.1 F.2.1 dL_restore_0 rfl (lv_at hl 0 rfl) ?_
  refine lv_iload_n F.1 F.2.1 dL_restore_1 rfl (lv_at hl 1 rfl) ?_
  refine cx_RL_108 (As := [.int (iI p0)]) (rest := []) F hl hM hW hS hy rfl rfl ⟨Nat.le_of_ble_eq_true rfl, Nat.le_of_ble_eq_true rfl⟩ (Nat.le_of_ble_eq_true rfl) ⟨Nat.le_of_ble_eq_true rfl, Nat.le_of_ble_eq_true rfl⟩ dL_restore_2 (fun w1 H1 locs1 ce q9 hp hW hS hce hcv hcl => ?_)
  refine h_caught2 F hW htb (by decide) kl_RL_19 (List.mem_of_getElem? (i := 1) rfl) (by decide) (by decide) kl_RL_13 (List.mem_of_getElem? (i := 0) rfl) hce hcv hcl ?_
  refine lv_astore_n (lv' := (2, .ref q9) :: [(0, .ref y), (1, .int (iI p0))]) F.1 F.2.1 dL_restore_11 rfl hl (by decide) rfl (fun ls hl => ?_)
  refine h_iconst F dL_restore_12 ?_
  exact h_ireti F hr hlk hW hS hp dL_restore_13
