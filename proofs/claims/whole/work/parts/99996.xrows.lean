/-! ===== places of calls of methods that throw; of the law's own methods with handlers ===== -/
section RW3
variable {p : Program} {l : Launch} {e : Env} {R : Room} {s : State} {m : MethodId} {args : Array Value} {below : List Frame} {meth : Method} {c : Code} {H H0 : Heap} {locs : List Loc} {cells slots : Nat} {Q : State → Prop} {cc : ByteArray} {nL pc : Nat} {ls : Array Slot} {rest : List Value} {X : Cx} {w : Wo} {lv0 : List (Nat × Value)}
theorem cs_RL_115 (F : Fx p m c cc nL s args RL) (hl : lv_has ls nL lv0) {f9 l9 : Nat} {As st : List Value} {v : Value} {P : Wo → Prop} (hM : CL l X yL_append cL_append 8 (some (.int)) [(0, 16, 19, 13)] (rmx f9 l9) As w (some v) P) (hW : Wd X w s H) (hS : va_S (cxA X) H0 H locs) (hst : st = As.reverse ++ rest) (hn : As.length = 7) (hR : f9 + 1 ≤ R.frames ∧ 8 + (8 + 11) + l9 ≤ R.locals) (hcat : (rest.map fun v => v.category).sum ≤ 8) (hf : cells + 1 ≤ R.cells ∧ slots + 6 ≤ R.slots) (hd : decode cc pc = .ok (.invokestatic 115, 3)) (kk : ∀ (w1 : Wo) (H1 : Heap) (locs1 : List Loc), P w1 → Wd X w1 s H1 → va_S (cxA X) H0 H1 locs1 → W p l e R s m args below meth c H1 locs1 (cells + 1) (slots + 6) Q (F0 m (pc + 3) ls (v :: rest))) : W p l e R s m args below meth c H locs cells slots Q (F0 m pc ls st) := h_callSW (n := 7) F hl hM hW hS (big_ap (fun w h => by
  simp only [List.mem_cons, List.mem_nil_iff, or_false] at h
  rcases h with rfl | rfl | rfl
  · exact km_RL_115
  · exact kt_yL_append
  · exact kn_RL) (bigw_in kc_yL_append)) ⟨by decide +kernel, by decide +kernel, by decide +kernel⟩ hst hn hR hcat hf hd kk
theorem cx_RL_7 (F : Fx p m c cc nL s args RL) (hl : lv_has ls nL lv0) {f9 l9 : Nat} {As st : List Value} {E : String} {P : Wo → Prop} {a : Nat} {fs : List Value} (hM : CX l X yX8_append cX8_append 6 (some (.int)) (rmx f9 l9) (.ref a :: As) w E P) (hW : Wd X w s H) (hS : va_S (cxA X) H0 H locs) (ha : w a = some (.inr (8, fs))) (hst : st = As.reverse ++ .ref a :: rest) (hn : As.length = 5) (hR : f9 + 1 ≤ R.frames ∧ 8 + (6 + 11) + l9 ≤ R.locals) (hcat : (rest.map fun v => v.category).sum ≤ 8) (hf : cells + 1 ≤ R.cells ∧ slots + 6 ≤ R.slots) (hd : decode cc pc = .ok (.invokevirtual 7, 3)) (kx : ∀ (w1 : Wo) (H1 : Heap) (locs1 : List Loc) (ce : Cell) (q9 : Addr), P w1 → Wd X w1 s H1 → va_S (cxA X) H0 H1 locs1 → H1[q9]? = some ce → ce.vm = .none → s.vm.findClass E = some ce.cls → vx_W p l e R s m args below meth c H1 locs1 (cells + 1) (slots + 6) Q (F0 m pc ls rest) q9) : W p l e R s m args below meth c H locs cells slots Q (F0 m pc ls st) := h_callX (C := RX8) (n := 5) F hl hM hW hS (big_ap (fun w h => by
  simp only [List.mem_cons, List.mem_nil_iff, or_false] at h
  rcases h with rfl | rfl | rfl | rfl
  · exact km_RL_7
  · exact ki_yX8_append
  · exact ks_yX8_append
  · exact kn_RX8) (big_in kc_yX8_append)) ⟨rfl, by decide +kernel, by decide +kernel, by decide +kernel⟩ rfl ha hst hn hR hcat hf hd kx
theorem cs_RL_125 (F : Fx p m c cc nL s args RL) (hl : lv_has ls nL lv0) {f9 l9 : Nat} {As st : List Value} {v : Value} {P : Wo → Prop} (hM : CL l X yL_truncate cL_truncate 4 (some (.int)) [(0, 9, 12, 19)] (rmx f9 l9) As w (some v) P) (hW : Wd X w s H) (hS : va_S (cxA X) H0 H locs) (hst : st = As.reverse ++ rest) (hn : As.length = 3) (hR : f9 + 1 ≤ R.frames ∧ 8 + (4 + 11) + l9 ≤ R.locals) (hcat : (rest.map fun v => v.category).sum ≤ 8) (hf : cells + 1 ≤ R.cells ∧ slots + 6 ≤ R.slots) (hd : decode cc pc = .ok (.invokestatic 125, 3)) (kk : ∀ (w1 : Wo) (H1 : Heap) (locs1 : List Loc), P w1 → Wd X w1 s H1 → va_S (cxA X) H0 H1 locs1 → W p l e R s m args below meth c H1 locs1 (cells + 1) (slots + 6) Q (F0 m (pc + 3) ls (v :: rest))) : W p l e R s m args below meth c H locs cells slots Q (F0 m pc ls st) := h_callSW (n := 3) F hl hM hW hS (big_ap (fun w h => by
  simp only [List.mem_cons, List.mem_nil_iff, or_false] at h
  rcases h with rfl | rfl | rfl
  · exact km_RL_125
  · exact kt_yL_truncate
  · exact kn_RL) (bigw_in kc_yL_truncate)) ⟨by decide +kernel, by decide +kernel, by decide +kernel⟩ hst hn hR hcat hf hd kk
theorem cx_RL_15 (F : Fx p m c cc nL s args RL) (hl : lv_has ls nL lv0) {f9 l9 : Nat} {As st : List Value} {E : String} {P : Wo → Prop} {a : Nat} {fs : List Value} (hM : CX l X yX8_truncate cX8_truncate 2 (some (.int)) (rmx f9 l9) (.ref a :: As) w E P) (hW : Wd X w s H) (hS : va_S (cxA X) H0 H locs) (ha : w a = some (.inr (8, fs))) (hst : st = As.reverse ++ .ref a :: rest) (hn : As.length = 1) (hR : f9 + 1 ≤ R.frames ∧ 8 + (2 + 11) + l9 ≤ R.locals) (hcat : (rest.map fun v => v.category).sum ≤ 8) (hf : cells + 1 ≤ R.cells ∧ slots + 6 ≤ R.slots) (hd : decode cc pc = .ok (.invokevirtual 15, 3)) (kx : ∀ (w1 : Wo) (H1 : Heap) (locs1 : List Loc) (ce : Cell) (q9 : Addr), P w1 → Wd X w1 s H1 → va_S (cxA X) H0 H1 locs1 → H1[q9]? = some ce → ce.vm = .none → s.vm.findClass E = some ce.cls → vx_W p l e R s m args below meth c H1 locs1 (cells + 1) (slots + 6) Q (F0 m pc ls rest) q9) : W p l e R s m args below meth c H locs cells slots Q (F0 m pc ls st) := h_callX (C := RX8) (n := 1) F hl hM hW hS (big_ap (fun w h => by
  simp only [List.mem_cons, List.mem_nil_iff, or_false] at h
  rcases h with rfl | rfl | rfl | rfl
  · exact km_RL_15
  · exact ki_yX8_truncate
  · exact ks_yX8_truncate
  · exact kn_RX8) (big_in kc_yX8_truncate)) ⟨rfl, by decide +kernel, by decide +kernel, by decide +kernel⟩ rfl ha hst hn hR hcat hf hd kx
theorem cs_RL_145 (F : Fx p m c cc nL s args RL) (hl : lv_has ls nL lv0) {f9 l9 : Nat} {As st : List Value} {v : Value} {P : Wo → Prop} (hM : CL l X yL_count cL_count 4 (some (.int)) [(0, 9, 12, 19)] (rmx f9 l9) As w (some v) P) (hW : Wd X w s H) (hS : va_S (cxA X) H0 H locs) (hst : st = As.reverse ++ rest) (hn : As.length = 3) (hR : f9 + 1 ≤ R.frames ∧ 8 + (4 + 11) + l9 ≤ R.locals) (hcat : (rest.map fun v => v.category).sum ≤ 8) (hf : cells + 1 ≤ R.cells ∧ slots + 6 ≤ R.slots) (hd : decode cc pc = .ok (.invokestatic 145, 3)) (kk : ∀ (w1 : Wo) (H1 : Heap) (locs1 : List Loc), P w1 → Wd X w1 s H1 → va_S (cxA X) H0 H1 locs1 → W p l e R s m args below meth c H1 locs1 (cells + 1) (slots + 6) Q (F0 m (pc + 3) ls (v :: rest))) : W p l e R s m args below meth c H locs cells slots Q (F0 m pc ls st) := h_callSW (n := 3) F hl hM hW hS (big_ap (fun w h => by
  simp only [List.mem_cons, List.mem_nil_iff, or_false] at h
  rcases h with rfl | rfl | rfl
  · exact km_RL_145
  · exact kt_yL_count
  · exact kn_RL) (bigw_in kc_yL_count)) ⟨by decide +kernel, by decide +kernel, by decide +kernel⟩ hst hn hR hcat hf hd kk
theorem cx_RL_21 (F : Fx p m c cc nL s args RL) (hl : lv_has ls nL lv0) {f9 l9 : Nat} {As st : List Value} {E : String} {P : Wo → Prop} {a : Nat} {fs : List Value} (hM : CX l X yX8_count cX8_count 2 (some (.int)) (rmx f9 l9) (.ref a :: As) w E P) (hW : Wd X w s H) (hS : va_S (cxA X) H0 H locs) (ha : w a = some (.inr (8, fs))) (hst : st = As.reverse ++ .ref a :: rest) (hn : As.length = 1) (hR : f9 + 1 ≤ R.frames ∧ 8 + (2 + 11) + l9 ≤ R.locals) (hcat : (rest.map fun v => v.category).sum ≤ 8) (hf : cells + 1 ≤ R.cells ∧ slots + 6 ≤ R.slots) (hd : decode cc pc = .ok (.invokevirtual 21, 3)) (kx : ∀ (w1 : Wo) (H1 : Heap) (locs1 : List Loc) (ce : Cell) (q9 : Addr), P w1 → Wd X w1 s H1 → va_S (cxA X) H0 H1 locs1 → H1[q9]? = some ce → ce.vm = .none → s.vm.findClass E = some ce.cls → vx_W p l e R s m args below meth c H1 locs1 (cells + 1) (slots + 6) Q (F0 m pc ls rest) q9) : W p l e R s m args below meth c H locs cells slots Q (F0 m pc ls st) := h_callX (C := RX8) (n := 1) F hl hM hW hS (big_ap (fun w h => by
  simp only [List.mem_cons, List.mem_nil_iff, or_false] at h
  rcases h with rfl | rfl | rfl | rfl
  · exact km_RL_21
  · exact ki_yX8_count
  · exact ks_yX8_count
  · exact kn_RX8) (big_in kc_yX8_count)) ⟨rfl, by decide +kernel, by decide +kernel, by decide +kernel⟩ rfl ha hst hn hR hcat hf hd kx
theorem cs_RL_148 (F : Fx p m c cc nL s args RL) (hl : lv_has ls nL lv0) {f9 l9 : Nat} {As st : List Value} {v : Value} {P : Wo → Prop} (hM : CL l X yL_caption cL_caption 5 (some (.int)) [(0, 10, 13, 28), (0, 10, 17, 19)] (rmx f9 l9) As w (some v) P) (hW : Wd X w s H) (hS : va_S (cxA X) H0 H locs) (hst : st = As.reverse ++ rest) (hn : As.length = 4) (hR : f9 + 1 ≤ R.frames ∧ 8 + (5 + 11) + l9 ≤ R.locals) (hcat : (rest.map fun v => v.category).sum ≤ 8) (hf : cells + 1 ≤ R.cells ∧ slots + 6 ≤ R.slots) (hd : decode cc pc = .ok (.invokestatic 148, 3)) (kk : ∀ (w1 : Wo) (H1 : Heap) (locs1 : List Loc), P w1 → Wd X w1 s H1 → va_S (cxA X) H0 H1 locs1 → W p l e R s m args below meth c H1 locs1 (cells + 1) (slots + 6) Q (F0 m (pc + 3) ls (v :: rest))) : W p l e R s m args below meth c H locs cells slots Q (F0 m pc ls st) := h_callSW (n := 4) F hl hM hW hS (big_ap (fun w h => by
  simp only [List.mem_cons, List.mem_nil_iff, or_false] at h
  rcases h with rfl | rfl | rfl
  · exact km_RL_148
  · exact kt_yL_caption
  · exact kn_RL) (bigw_in kc_yL_caption)) ⟨by decide +kernel, by decide +kernel, by decide +kernel⟩ hst hn hR hcat hf hd kk
theorem cx_RL_24 (F : Fx p m c cc nL s args RL) (hl : lv_has ls nL lv0) {f9 l9 : Nat} {As st : List Value} {E : String} {P : Wo → Prop} {a : Nat} {fs : List Value} (hM : CX l X yX8_caption cX8_caption 4 (some (.int)) (rmx f9 l9) (.ref a :: As) w E P) (hW : Wd X w s H) (hS : va_S (cxA X) H0 H locs) (ha : w a = some (.inr (8, fs))) (hst : st = As.reverse ++ .ref a :: rest) (hn : As.length = 2) (hR : f9 + 1 ≤ R.frames ∧ 8 + (4 + 11) + l9 ≤ R.locals) (hcat : (rest.map fun v => v.category).sum ≤ 8) (hf : cells + 1 ≤ R.cells ∧ slots + 6 ≤ R.slots) (hd : decode cc pc = .ok (.invokevirtual 24, 3)) (kx : ∀ (w1 : Wo) (H1 : Heap) (locs1 : List Loc) (ce : Cell) (q9 : Addr), P w1 → Wd X w1 s H1 → va_S (cxA X) H0 H1 locs1 → H1[q9]? = some ce → ce.vm = .none → s.vm.findClass E = some ce.cls → vx_W p l e R s m args below meth c H1 locs1 (cells + 1) (slots + 6) Q (F0 m pc ls rest) q9) : W p l e R s m args below meth c H locs cells slots Q (F0 m pc ls st) := h_callX (C := RX8) (n := 2) F hl hM hW hS (big_ap (fun w h => by
  simp only [List.mem_cons, List.mem_nil_iff, or_false] at h
  rcases h with rfl | rfl | rfl | rfl
  · exact km_RL_24
  · exact ki_yX8_caption
  · exact ks_yX8_caption
  · exact kn_RX8) (big_in kc_yX8_caption)) ⟨rfl, by decide +kernel, by decide +kernel, by decide +kernel⟩ rfl ha hst hn hR hcat hf hd kx
theorem cx_RX8_167 (F : Fx p m c cc nL s args RX8) (hl : lv_has ls nL lv0) {f9 l9 : Nat} {As st : List Value} {E : String} {P : Wo → Prop} {a : Nat} {fs : List Value} (hM : CX l X yX8_checkCaption cX8_checkCaption 2 none (rmx f9 l9) (.ref a :: As) w E P) (hW : Wd X w s H) (hS : va_S (cxA X) H0 H locs) (ha : w a = some (.inr (8, fs))) (hst : st = As.reverse ++ .ref a :: rest) (hn : As.length = 1) (hR : f9 + 1 ≤ R.frames ∧ 8 + (2 + 11) + l9 ≤ R.locals) (hcat : (rest.map fun v => v.category).sum ≤ 8) (hf : cells + 1 ≤ R.cells ∧ slots + 6 ≤ R.slots) (hd : decode cc pc = .ok (.invokevirtual 167, 3)) (kx : ∀ (w1 : Wo) (H1 : Heap) (locs1 : List Loc) (ce : Cell) (q9 : Addr), P w1 → Wd X w1 s H1 → va_S (cxA X) H0 H1 locs1 → H1[q9]? = some ce → ce.vm = .none → s.vm.findClass E = some ce.cls → vx_W p l e R s m args below meth c H1 locs1 (cells + 1) (slots + 6) Q (F0 m pc ls rest) q9) : W p l e R s m args below meth c H locs cells slots Q (F0 m pc ls st) := h_callX (C := RX8) (n := 1) F hl hM hW hS (big_ap (fun w h => by
  simp only [List.mem_cons, List.mem_nil_iff, or_false] at h
  rcases h with rfl | rfl | rfl | rfl
  · exact km_RX8_167
  · exact ki_yX8_checkCaption
  · exact ks_yX8_checkCaption
  · exact kn_RX8) (big_in kc_yX8_checkCaption)) ⟨rfl, by decide +kernel, by decide +kernel, by decide +kernel⟩ rfl ha hst hn hR hcat hf hd kx
theorem cs_RL_152 (F : Fx p m c cc nL s args RL) (hl : lv_has ls nL lv0) {f9 l9 : Nat} {As st : List Value} {v : Value} {P : Wo → Prop} (hM : CL l X yL_letter cL_letter 6 (some (.int)) [(0, 12, 15, 28), (0, 12, 19, 19)] (rmx f9 l9) As w (some v) P) (hW : Wd X w s H) (hS : va_S (cxA X) H0 H locs) (hst : st = As.reverse ++ rest) (hn : As.length = 5) (hR : f9 + 1 ≤ R.frames ∧ 8 + (6 + 11) + l9 ≤ R.locals) (hcat : (rest.map fun v => v.category).sum ≤ 8) (hf : cells + 1 ≤ R.cells ∧ slots + 6 ≤ R.slots) (hd : decode cc pc = .ok (.invokestatic 152, 3)) (kk : ∀ (w1 : Wo) (H1 : Heap) (locs1 : List Loc), P w1 → Wd X w1 s H1 → va_S (cxA X) H0 H1 locs1 → W p l e R s m args below meth c H1 locs1 (cells + 1) (slots + 6) Q (F0 m (pc + 3) ls (v :: rest))) : W p l e R s m args below meth c H locs cells slots Q (F0 m pc ls st) := h_callSW (n := 5) F hl hM hW hS (big_ap (fun w h => by
  simp only [List.mem_cons, List.mem_nil_iff, or_false] at h
  rcases h with rfl | rfl | rfl
  · exact km_RL_152
  · exact kt_yL_letter
  · exact kn_RL) (bigw_in kc_yL_letter)) ⟨by decide +kernel, by decide +kernel, by decide +kernel⟩ hst hn hR hcat hf hd kk
theorem cx_RL_30 (F : Fx p m c cc nL s args RL) (hl : lv_has ls nL lv0) {f9 l9 : Nat} {As st : List Value} {E : String} {P : Wo → Prop} {a : Nat} {fs : List Value} (hM : CX l X yX8_letter cX8_letter 5 (some (.int)) (rmx f9 l9) (.ref a :: As) w E P) (hW : Wd X w s H) (hS : va_S (cxA X) H0 H locs) (ha : w a = some (.inr (8, fs))) (hst : st = As.reverse ++ .ref a :: rest) (hn : As.length = 3) (hR : f9 + 1 ≤ R.frames ∧ 8 + (5 + 11) + l9 ≤ R.locals) (hcat : (rest.map fun v => v.category).sum ≤ 8) (hf : cells + 1 ≤ R.cells ∧ slots + 6 ≤ R.slots) (hd : decode cc pc = .ok (.invokevirtual 30, 3)) (kx : ∀ (w1 : Wo) (H1 : Heap) (locs1 : List Loc) (ce : Cell) (q9 : Addr), P w1 → Wd X w1 s H1 → va_S (cxA X) H0 H1 locs1 → H1[q9]? = some ce → ce.vm = .none → s.vm.findClass E = some ce.cls → vx_W p l e R s m args below meth c H1 locs1 (cells + 1) (slots + 6) Q (F0 m pc ls rest) q9) : W p l e R s m args below meth c H locs cells slots Q (F0 m pc ls st) := h_callX (C := RX8) (n := 3) F hl hM hW hS (big_ap (fun w h => by
  simp only [List.mem_cons, List.mem_nil_iff, or_false] at h
  rcases h with rfl | rfl | rfl | rfl
  · exact km_RL_30
  · exact ki_yX8_letter
  · exact ks_yX8_letter
  · exact kn_RX8) (big_in kc_yX8_letter)) ⟨rfl, by decide +kernel, by decide +kernel, by decide +kernel⟩ rfl ha hst hn hR hcat hf hd kx
theorem cs_RL_156 (F : Fx p m c cc nL s args RL) (hl : lv_has ls nL lv0) {f9 l9 : Nat} {As st : List Value} {v : Value} {P : Wo → Prop} (hM : CL l X yL_cell cL_cell 5 (some (.int)) [(0, 10, 13, 28)] (rmx f9 l9) As w (some v) P) (hW : Wd X w s H) (hS : va_S (cxA X) H0 H locs) (hst : st = As.reverse ++ rest) (hn : As.length = 4) (hR : f9 + 1 ≤ R.frames ∧ 8 + (5 + 11) + l9 ≤ R.locals) (hcat : (rest.map fun v => v.category).sum ≤ 8) (hf : cells + 1 ≤ R.cells ∧ slots + 6 ≤ R.slots) (hd : decode cc pc = .ok (.invokestatic 156, 3)) (kk : ∀ (w1 : Wo) (H1 : Heap) (locs1 : List Loc), P w1 → Wd X w1 s H1 → va_S (cxA X) H0 H1 locs1 → W p l e R s m args below meth c H1 locs1 (cells + 1) (slots + 6) Q (F0 m (pc + 3) ls (v :: rest))) : W p l e R s m args below meth c H locs cells slots Q (F0 m pc ls st) := h_callSW (n := 4) F hl hM hW hS (big_ap (fun w h => by
  simp only [List.mem_cons, List.mem_nil_iff, or_false] at h
  rcases h with rfl | rfl | rfl
  · exact km_RL_156
  · exact kt_yL_cell
  · exact kn_RL) (bigw_in kc_yL_cell)) ⟨by decide +kernel, by decide +kernel, by decide +kernel⟩ hst hn hR hcat hf hd kk
theorem cx_RL_34 (F : Fx p m c cc nL s args RL) (hl : lv_has ls nL lv0) {f9 l9 : Nat} {As st : List Value} {E : String} {P : Wo → Prop} {a : Nat} {fs : List Value} (hM : CX l X yX8_cell cX8_cell 3 (some (.int)) (rmx f9 l9) (.ref a :: As) w E P) (hW : Wd X w s H) (hS : va_S (cxA X) H0 H locs) (ha : w a = some (.inr (8, fs))) (hst : st = As.reverse ++ .ref a :: rest) (hn : As.length = 2) (hR : f9 + 1 ≤ R.frames ∧ 8 + (3 + 11) + l9 ≤ R.locals) (hcat : (rest.map fun v => v.category).sum ≤ 8) (hf : cells + 1 ≤ R.cells ∧ slots + 6 ≤ R.slots) (hd : decode cc pc = .ok (.invokevirtual 34, 3)) (kx : ∀ (w1 : Wo) (H1 : Heap) (locs1 : List Loc) (ce : Cell) (q9 : Addr), P w1 → Wd X w1 s H1 → va_S (cxA X) H0 H1 locs1 → H1[q9]? = some ce → ce.vm = .none → s.vm.findClass E = some ce.cls → vx_W p l e R s m args below meth c H1 locs1 (cells + 1) (slots + 6) Q (F0 m pc ls rest) q9) : W p l e R s m args below meth c H locs cells slots Q (F0 m pc ls st) := h_callX (C := RX8) (n := 2) F hl hM hW hS (big_ap (fun w h => by
  simp only [List.mem_cons, List.mem_nil_iff, or_false] at h
  rcases h with rfl | rfl | rfl | rfl
  · exact km_RL_34
  · exact ki_yX8_cell
  · exact ks_yX8_cell
  · exact kn_RX8) (big_in kc_yX8_cell)) ⟨rfl, by decide +kernel, by decide +kernel, by decide +kernel⟩ rfl ha hst hn hR hcat hf hd kx
theorem cx_RX8_228 (F : Fx p m c cc nL s args RX8) (hl : lv_has ls nL lv0) {f9 l9 : Nat} {As st : List Value} {E : String} {P : Wo → Prop} {a : Nat} {fs : List Value} (hM : CX l X yX8_checkCell cX8_checkCell 3 none (rmx f9 l9) (.ref a :: As) w E P) (hW : Wd X w s H) (hS : va_S (cxA X) H0 H locs) (ha : w a = some (.inr (8, fs))) (hst : st = As.reverse ++ .ref a :: rest) (hn : As.length = 2) (hR : f9 + 1 ≤ R.frames ∧ 8 + (3 + 11) + l9 ≤ R.locals) (hcat : (rest.map fun v => v.category).sum ≤ 8) (hf : cells + 1 ≤ R.cells ∧ slots + 6 ≤ R.slots) (hd : decode cc pc = .ok (.invokevirtual 228, 3)) (kx : ∀ (w1 : Wo) (H1 : Heap) (locs1 : List Loc) (ce : Cell) (q9 : Addr), P w1 → Wd X w1 s H1 → va_S (cxA X) H0 H1 locs1 → H1[q9]? = some ce → ce.vm = .none → s.vm.findClass E = some ce.cls → vx_W p l e R s m args below meth c H1 locs1 (cells + 1) (slots + 6) Q (F0 m pc ls rest) q9) : W p l e R s m args below meth c H locs cells slots Q (F0 m pc ls st) := h_callX (C := RX8) (n := 2) F hl hM hW hS (big_ap (fun w h => by
  simp only [List.mem_cons, List.mem_nil_iff, or_false] at h
  rcases h with rfl | rfl | rfl | rfl
  · exact km_RX8_228
  · exact ki_yX8_checkCell
  · exact ks_yX8_checkCell
  · exact kn_RX8) (big_in kc_yX8_checkCell)) ⟨rfl, by decide +kernel, by decide +kernel, by decide +kernel⟩ rfl ha hst hn hR hcat hf hd kx
theorem cs_RL_159 (F : Fx p m c cc nL s args RL) (hl : lv_has ls nL lv0) {f9 l9 : Nat} {As st : List Value} {v : Value} {P : Wo → Prop} (hM : CL l X yL_design cL_design 5 (some (.int)) [(0, 10, 13, 28)] (rmx f9 l9) As w (some v) P) (hW : Wd X w s H) (hS : va_S (cxA X) H0 H locs) (hst : st = As.reverse ++ rest) (hn : As.length = 4) (hR : f9 + 1 ≤ R.frames ∧ 8 + (5 + 11) + l9 ≤ R.locals) (hcat : (rest.map fun v => v.category).sum ≤ 8) (hf : cells + 1 ≤ R.cells ∧ slots + 6 ≤ R.slots) (hd : decode cc pc = .ok (.invokestatic 159, 3)) (kk : ∀ (w1 : Wo) (H1 : Heap) (locs1 : List Loc), P w1 → Wd X w1 s H1 → va_S (cxA X) H0 H1 locs1 → W p l e R s m args below meth c H1 locs1 (cells + 1) (slots + 6) Q (F0 m (pc + 3) ls (v :: rest))) : W p l e R s m args below meth c H locs cells slots Q (F0 m pc ls st) := h_callSW (n := 4) F hl hM hW hS (big_ap (fun w h => by
  simp only [List.mem_cons, List.mem_nil_iff, or_false] at h
  rcases h with rfl | rfl | rfl
  · exact km_RL_159
  · exact kt_yL_design
  · exact kn_RL) (bigw_in kc_yL_design)) ⟨by decide +kernel, by decide +kernel, by decide +kernel⟩ hst hn hR hcat hf hd kk
theorem cx_RL_37 (F : Fx p m c cc nL s args RL) (hl : lv_has ls nL lv0) {f9 l9 : Nat} {As st : List Value} {E : String} {P : Wo → Prop} {a : Nat} {fs : List Value} (hM : CX l X yX8_design cX8_design 3 (some (.int)) (rmx f9 l9) (.ref a :: As) w E P) (hW : Wd X w s H) (hS : va_S (cxA X) H0 H locs) (ha : w a = some (.inr (8, fs))) (hst : st = As.reverse ++ .ref a :: rest) (hn : As.length = 2) (hR : f9 + 1 ≤ R.frames ∧ 8 + (3 + 11) + l9 ≤ R.locals) (hcat : (rest.map fun v => v.category).sum ≤ 8) (hf : cells + 1 ≤ R.cells ∧ slots + 6 ≤ R.slots) (hd : decode cc pc = .ok (.invokevirtual 37, 3)) (kx : ∀ (w1 : Wo) (H1 : Heap) (locs1 : List Loc) (ce : Cell) (q9 : Addr), P w1 → Wd X w1 s H1 → va_S (cxA X) H0 H1 locs1 → H1[q9]? = some ce → ce.vm = .none → s.vm.findClass E = some ce.cls → vx_W p l e R s m args below meth c H1 locs1 (cells + 1) (slots + 6) Q (F0 m pc ls rest) q9) : W p l e R s m args below meth c H locs cells slots Q (F0 m pc ls st) := h_callX (C := RX8) (n := 2) F hl hM hW hS (big_ap (fun w h => by
  simp only [List.mem_cons, List.mem_nil_iff, or_false] at h
  rcases h with rfl | rfl | rfl | rfl
  · exact km_RL_37
  · exact ki_yX8_design
  · exact ks_yX8_design
  · exact kn_RX8) (big_in kc_yX8_design)) ⟨rfl, by decide +kernel, by decide +kernel, by decide +kernel⟩ rfl ha hst hn hR hcat hf hd kx
theorem cs_RL_162 (F : Fx p m c cc nL s args RL) (hl : lv_has ls nL lv0) {f9 l9 : Nat} {As st : List Value} {v : Value} {P : Wo → Prop} (hM : CL l X yL_colour cL_colour 5 (some (.int)) [(0, 10, 13, 28), (0, 10, 17, 19)] (rmx f9 l9) As w (some v) P) (hW : Wd X w s H) (hS : va_S (cxA X) H0 H locs) (hst : st = As.reverse ++ rest) (hn : As.length = 4) (hR : f9 + 1 ≤ R.frames ∧ 8 + (5 + 11) + l9 ≤ R.locals) (hcat : (rest.map fun v => v.category).sum ≤ 8) (hf : cells + 1 ≤ R.cells ∧ slots + 6 ≤ R.slots) (hd : decode cc pc = .ok (.invokestatic 162, 3)) (kk : ∀ (w1 : Wo) (H1 : Heap) (locs1 : List Loc), P w1 → Wd X w1 s H1 → va_S (cxA X) H0 H1 locs1 → W p l e R s m args below meth c H1 locs1 (cells + 1) (slots + 6) Q (F0 m (pc + 3) ls (v :: rest))) : W p l e R s m args below meth c H locs cells slots Q (F0 m pc ls st) := h_callSW (n := 4) F hl hM hW hS (big_ap (fun w h => by
  simp only [List.mem_cons, List.mem_nil_iff, or_false] at h
  rcases h with rfl | rfl | rfl
  · exact km_RL_162
  · exact kt_yL_colour
  · exact kn_RL) (bigw_in kc_yL_colour)) ⟨by decide +kernel, by decide +kernel, by decide +kernel⟩ hst hn hR hcat hf hd kk
theorem cx_RL_40 (F : Fx p m c cc nL s args RL) (hl : lv_has ls nL lv0) {f9 l9 : Nat} {As st : List Value} {E : String} {P : Wo → Prop} {a : Nat} {fs : List Value} (hM : CX l X yX8_colour cX8_colour 3 (some (.int)) (rmx f9 l9) (.ref a :: As) w E P) (hW : Wd X w s H) (hS : va_S (cxA X) H0 H locs) (ha : w a = some (.inr (8, fs))) (hst : st = As.reverse ++ .ref a :: rest) (hn : As.length = 2) (hR : f9 + 1 ≤ R.frames ∧ 8 + (3 + 11) + l9 ≤ R.locals) (hcat : (rest.map fun v => v.category).sum ≤ 8) (hf : cells + 1 ≤ R.cells ∧ slots + 6 ≤ R.slots) (hd : decode cc pc = .ok (.invokevirtual 40, 3)) (kx : ∀ (w1 : Wo) (H1 : Heap) (locs1 : List Loc) (ce : Cell) (q9 : Addr), P w1 → Wd X w1 s H1 → va_S (cxA X) H0 H1 locs1 → H1[q9]? = some ce → ce.vm = .none → s.vm.findClass E = some ce.cls → vx_W p l e R s m args below meth c H1 locs1 (cells + 1) (slots + 6) Q (F0 m pc ls rest) q9) : W p l e R s m args below meth c H locs cells slots Q (F0 m pc ls st) := h_callX (C := RX8) (n := 2) F hl hM hW hS (big_ap (fun w h => by
  simp only [List.mem_cons, List.mem_nil_iff, or_false] at h
  rcases h with rfl | rfl | rfl | rfl
  · exact km_RL_40
  · exact ki_yX8_colour
  · exact ks_yX8_colour
  · exact kn_RX8) (big_in kc_yX8_colour)) ⟨rfl, by decide +kernel, by decide +kernel, by decide +kernel⟩ rfl ha hst hn hR hcat hf hd kx
theorem cx_RX8_245 (F : Fx p m c cc nL s args RX8) (hl : lv_has ls nL lv0) {f9 l9 : Nat} {As st : List Value} {E : String} {P : Wo → Prop} {a : Nat} {fs : List Value} (hM : CX l X yX8_checkColour cX8_checkColour 2 none (rmx f9 l9) (.ref a :: As) w E P) (hW : Wd X w s H) (hS : va_S (cxA X) H0 H locs) (ha : w a = some (.inr (8, fs))) (hst : st = As.reverse ++ .ref a :: rest) (hn : As.length = 1) (hR : f9 + 1 ≤ R.frames ∧ 8 + (2 + 11) + l9 ≤ R.locals) (hcat : (rest.map fun v => v.category).sum ≤ 8) (hf : cells + 1 ≤ R.cells ∧ slots + 6 ≤ R.slots) (hd : decode cc pc = .ok (.invokevirtual 245, 3)) (kx : ∀ (w1 : Wo) (H1 : Heap) (locs1 : List Loc) (ce : Cell) (q9 : Addr), P w1 → Wd X w1 s H1 → va_S (cxA X) H0 H1 locs1 → H1[q9]? = some ce → ce.vm = .none → s.vm.findClass E = some ce.cls → vx_W p l e R s m args below meth c H1 locs1 (cells + 1) (slots + 6) Q (F0 m pc ls rest) q9) : W p l e R s m args below meth c H locs cells slots Q (F0 m pc ls st) := h_callX (C := RX8) (n := 1) F hl hM hW hS (big_ap (fun w h => by
  simp only [List.mem_cons, List.mem_nil_iff, or_false] at h
  rcases h with rfl | rfl | rfl | rfl
  · exact km_RX8_245
  · exact ki_yX8_checkColour
  · exact ks_yX8_checkColour
  · exact kn_RX8) (big_in kc_yX8_checkColour)) ⟨rfl, by decide +kernel, by decide +kernel, by decide +kernel⟩ rfl ha hst hn hR hcat hf hd kx
theorem cs_RL_165 (F : Fx p m c cc nL s args RL) (hl : lv_has ls nL lv0) {f9 l9 : Nat} {As st : List Value} {v : Value} {P : Wo → Prop} (hM : CL l X yL_mistakes cL_mistakes 4 (some (.int)) [(0, 9, 12, 19)] (rmx f9 l9) As w (some v) P) (hW : Wd X w s H) (hS : va_S (cxA X) H0 H locs) (hst : st = As.reverse ++ rest) (hn : As.length = 3) (hR : f9 + 1 ≤ R.frames ∧ 8 + (4 + 11) + l9 ≤ R.locals) (hcat : (rest.map fun v => v.category).sum ≤ 8) (hf : cells + 1 ≤ R.cells ∧ slots + 6 ≤ R.slots) (hd : decode cc pc = .ok (.invokestatic 165, 3)) (kk : ∀ (w1 : Wo) (H1 : Heap) (locs1 : List Loc), P w1 → Wd X w1 s H1 → va_S (cxA X) H0 H1 locs1 → W p l e R s m args below meth c H1 locs1 (cells + 1) (slots + 6) Q (F0 m (pc + 3) ls (v :: rest))) : W p l e R s m args below meth c H locs cells slots Q (F0 m pc ls st) := h_callSW (n := 3) F hl hM hW hS (big_ap (fun w h => by
  simp only [List.mem_cons, List.mem_nil_iff, or_false] at h
  rcases h with rfl | rfl | rfl
  · exact km_RL_165
  · exact kt_yL_mistakes
  · exact kn_RL) (bigw_in kc_yL_mistakes)) ⟨by decide +kernel, by decide +kernel, by decide +kernel⟩ hst hn hR hcat hf hd kk
theorem cx_RL_43 (F : Fx p m c cc nL s args RL) (hl : lv_has ls nL lv0) {f9 l9 : Nat} {As st : List Value} {E : String} {P : Wo → Prop} {a : Nat} {fs : List Value} (hM : CX l X yX8_mistakes cX8_mistakes 2 (some (.int)) (rmx f9 l9) (.ref a :: As) w E P) (hW : Wd X w s H) (hS : va_S (cxA X) H0 H locs) (ha : w a = some (.inr (8, fs))) (hst : st = As.reverse ++ .ref a :: rest) (hn : As.length = 1) (hR : f9 + 1 ≤ R.frames ∧ 8 + (2 + 11) + l9 ≤ R.locals) (hcat : (rest.map fun v => v.category).sum ≤ 8) (hf : cells + 1 ≤ R.cells ∧ slots + 6 ≤ R.slots) (hd : decode cc pc = .ok (.invokevirtual 43, 3)) (kx : ∀ (w1 : Wo) (H1 : Heap) (locs1 : List Loc) (ce : Cell) (q9 : Addr), P w1 → Wd X w1 s H1 → va_S (cxA X) H0 H1 locs1 → H1[q9]? = some ce → ce.vm = .none → s.vm.findClass E = some ce.cls → vx_W p l e R s m args below meth c H1 locs1 (cells + 1) (slots + 6) Q (F0 m pc ls rest) q9) : W p l e R s m args below meth c H locs cells slots Q (F0 m pc ls st) := h_callX (C := RX8) (n := 1) F hl hM hW hS (big_ap (fun w h => by
  simp only [List.mem_cons, List.mem_nil_iff, or_false] at h
  rcases h with rfl | rfl | rfl | rfl
  · exact km_RL_43
  · exact ki_yX8_mistakes
  · exact ks_yX8_mistakes
  · exact kn_RX8) (big_in kc_yX8_mistakes)) ⟨rfl, by decide +kernel, by decide +kernel, by decide +kernel⟩ rfl ha hst hn hR hcat hf hd kx
theorem cs_RL_173 (F : Fx p m c cc nL s args RL) (hl : lv_has ls nL lv0) {f9 l9 : Nat} {As st : List Value} {v : Value} {P : Wo → Prop} (hM : CL l X yL_isAlike cL_isAlike 4 (some (.int)) [(0, 16, 19, 28)] (rmx f9 l9) As w (some v) P) (hW : Wd X w s H) (hS : va_S (cxA X) H0 H locs) (hst : st = As.reverse ++ rest) (hn : As.length = 3) (hR : f9 + 1 ≤ R.frames ∧ 8 + (4 + 11) + l9 ≤ R.locals) (hcat : (rest.map fun v => v.category).sum ≤ 8) (hf : cells + 1 ≤ R.cells ∧ slots + 6 ≤ R.slots) (hd : decode cc pc = .ok (.invokestatic 173, 3)) (kk : ∀ (w1 : Wo) (H1 : Heap) (locs1 : List Loc), P w1 → Wd X w1 s H1 → va_S (cxA X) H0 H1 locs1 → W p l e R s m args below meth c H1 locs1 (cells + 1) (slots + 6) Q (F0 m (pc + 3) ls (v :: rest))) : W p l e R s m args below meth c H locs cells slots Q (F0 m pc ls st) := h_callSW (n := 3) F hl hM hW hS (big_ap (fun w h => by
  simp only [List.mem_cons, List.mem_nil_iff, or_false] at h
  rcases h with rfl | rfl | rfl
  · exact km_RL_173
  · exact kt_yL_isAlike
  · exact kn_RL) (bigw_in kc_yL_isAlike)) ⟨by decide +kernel, by decide +kernel, by decide +kernel⟩ hst hn hR hcat hf hd kk
theorem cx_RL_46 (F : Fx p m c cc nL s args RL) (hl : lv_has ls nL lv0) {f9 l9 : Nat} {As st : List Value} {E : String} {P : Wo → Prop} {a : Nat} {fs : List Value} (hM : CX l X yX8_isAlike cX8_isAlike 2 (some (.boolean)) (rmx f9 l9) (.ref a :: As) w E P) (hW : Wd X w s H) (hS : va_S (cxA X) H0 H locs) (ha : w a = some (.inr (8, fs))) (hst : st = As.reverse ++ .ref a :: rest) (hn : As.length = 1) (hR : f9 + 1 ≤ R.frames ∧ 8 + (2 + 11) + l9 ≤ R.locals) (hcat : (rest.map fun v => v.category).sum ≤ 8) (hf : cells + 1 ≤ R.cells ∧ slots + 6 ≤ R.slots) (hd : decode cc pc = .ok (.invokevirtual 46, 3)) (kx : ∀ (w1 : Wo) (H1 : Heap) (locs1 : List Loc) (ce : Cell) (q9 : Addr), P w1 → Wd X w1 s H1 → va_S (cxA X) H0 H1 locs1 → H1[q9]? = some ce → ce.vm = .none → s.vm.findClass E = some ce.cls → vx_W p l e R s m args below meth c H1 locs1 (cells + 1) (slots + 6) Q (F0 m pc ls rest) q9) : W p l e R s m args below meth c H locs cells slots Q (F0 m pc ls st) := h_callX (C := RX8) (n := 1) F hl hM hW hS (big_ap (fun w h => by
  simp only [List.mem_cons, List.mem_nil_iff, or_false] at h
  rcases h with rfl | rfl | rfl | rfl
  · exact km_RL_46
  · exact ki_yX8_isAlike
  · exact ks_yX8_isAlike
  · exact kn_RX8) (big_in kc_yX8_isAlike)) ⟨rfl, by decide +kernel, by decide +kernel, by decide +kernel⟩ rfl ha hst hn hR hcat hf hd kx
theorem cs_RL_176 (F : Fx p m c cc nL s args RL) (hl : lv_has ls nL lv0) {f9 l9 : Nat} {As st : List Value} {v : Value} {P : Wo → Prop} (hM : CL l X yL_joins cL_joins 4 (some (.int)) [(0, 9, 12, 28)] (rmx f9 l9) As w (some v) P) (hW : Wd X w s H) (hS : va_S (cxA X) H0 H locs) (hst : st = As.reverse ++ rest) (hn : As.length = 3) (hR : f9 + 1 ≤ R.frames ∧ 8 + (4 + 11) + l9 ≤ R.locals) (hcat : (rest.map fun v => v.category).sum ≤ 8) (hf : cells + 1 ≤ R.cells ∧ slots + 6 ≤ R.slots) (hd : decode cc pc = .ok (.invokestatic 176, 3)) (kk : ∀ (w1 : Wo) (H1 : Heap) (locs1 : List Loc), P w1 → Wd X w1 s H1 → va_S (cxA X) H0 H1 locs1 → W p l e R s m args below meth c H1 locs1 (cells + 1) (slots + 6) Q (F0 m (pc + 3) ls (v :: rest))) : W p l e R s m args below meth c H locs cells slots Q (F0 m pc ls st) := h_callSW (n := 3) F hl hM hW hS (big_ap (fun w h => by
  simp only [List.mem_cons, List.mem_nil_iff, or_false] at h
  rcases h with rfl | rfl | rfl
  · exact km_RL_176
  · exact kt_yL_joins
  · exact kn_RL) (bigw_in kc_yL_joins)) ⟨by decide +kernel, by decide +kernel, by decide +kernel⟩ hst hn hR hcat hf hd kk
theorem cx_RL_50 (F : Fx p m c cc nL s args RL) (hl : lv_has ls nL lv0) {f9 l9 : Nat} {As st : List Value} {E : String} {P : Wo → Prop} {a : Nat} {fs : List Value} (hM : CX l X yX8_joins cX8_joins 2 (some (.int)) (rmx f9 l9) (.ref a :: As) w E P) (hW : Wd X w s H) (hS : va_S (cxA X) H0 H locs) (ha : w a = some (.inr (8, fs))) (hst : st = As.reverse ++ .ref a :: rest) (hn : As.length = 1) (hR : f9 + 1 ≤ R.frames ∧ 8 + (2 + 11) + l9 ≤ R.locals) (hcat : (rest.map fun v => v.category).sum ≤ 8) (hf : cells + 1 ≤ R.cells ∧ slots + 6 ≤ R.slots) (hd : decode cc pc = .ok (.invokevirtual 50, 3)) (kx : ∀ (w1 : Wo) (H1 : Heap) (locs1 : List Loc) (ce : Cell) (q9 : Addr), P w1 → Wd X w1 s H1 → va_S (cxA X) H0 H1 locs1 → H1[q9]? = some ce → ce.vm = .none → s.vm.findClass E = some ce.cls → vx_W p l e R s m args below meth c H1 locs1 (cells + 1) (slots + 6) Q (F0 m pc ls rest) q9) : W p l e R s m args below meth c H locs cells slots Q (F0 m pc ls st) := h_callX (C := RX8) (n := 1) F hl hM hW hS (big_ap (fun w h => by
  simp only [List.mem_cons, List.mem_nil_iff, or_false] at h
  rcases h with rfl | rfl | rfl | rfl
  · exact km_RL_50
  · exact ki_yX8_joins
  · exact ks_yX8_joins
  · exact kn_RX8) (big_in kc_yX8_joins)) ⟨rfl, by decide +kernel, by decide +kernel, by decide +kernel⟩ rfl ha hst hn hR hcat hf hd kx
theorem cx_RX8_283 (F : Fx p m c cc nL s args RX8) (hl : lv_has ls nL lv0) {f9 l9 : Nat} {As st : List Value} {E : String} {P : Wo → Prop} {a : Nat} {fs : List Value} (hM : CX l X yX8_checkRow cX8_checkRow 2 none (rmx f9 l9) (.ref a :: As) w E P) (hW : Wd X w s H) (hS : va_S (cxA X) H0 H locs) (ha : w a = some (.inr (8, fs))) (hst : st = As.reverse ++ .ref a :: rest) (hn : As.length = 1) (hR : f9 + 1 ≤ R.frames ∧ 8 + (2 + 11) + l9 ≤ R.locals) (hcat : (rest.map fun v => v.category).sum ≤ 8) (hf : cells + 1 ≤ R.cells ∧ slots + 6 ≤ R.slots) (hd : decode cc pc = .ok (.invokevirtual 283, 3)) (kx : ∀ (w1 : Wo) (H1 : Heap) (locs1 : List Loc) (ce : Cell) (q9 : Addr), P w1 → Wd X w1 s H1 → va_S (cxA X) H0 H1 locs1 → H1[q9]? = some ce → ce.vm = .none → s.vm.findClass E = some ce.cls → vx_W p l e R s m args below meth c H1 locs1 (cells + 1) (slots + 6) Q (F0 m pc ls rest) q9) : W p l e R s m args below meth c H locs cells slots Q (F0 m pc ls st) := h_callX (C := RX8) (n := 1) F hl hM hW hS (big_ap (fun w h => by
  simp only [List.mem_cons, List.mem_nil_iff, or_false] at h
  rcases h with rfl | rfl | rfl | rfl
  · exact km_RX8_283
  · exact ki_yX8_checkRow
  · exact ks_yX8_checkRow
  · exact kn_RX8) (big_in kc_yX8_checkRow)) ⟨rfl, by decide +kernel, by decide +kernel, by decide +kernel⟩ rfl ha hst hn hR hcat hf hd kx
theorem cs_RL_179 (F : Fx p m c cc nL s args RL) (hl : lv_has ls nL lv0) {f9 l9 : Nat} {As st : List Value} {v : Value} {P : Wo → Prop} (hM : CL l X yL_slits cL_slits 4 (some (.int)) [(0, 9, 12, 19)] (rmx f9 l9) As w (some v) P) (hW : Wd X w s H) (hS : va_S (cxA X) H0 H locs) (hst : st = As.reverse ++ rest) (hn : As.length = 3) (hR : f9 + 1 ≤ R.frames ∧ 8 + (4 + 11) + l9 ≤ R.locals) (hcat : (rest.map fun v => v.category).sum ≤ 8) (hf : cells + 1 ≤ R.cells ∧ slots + 6 ≤ R.slots) (hd : decode cc pc = .ok (.invokestatic 179, 3)) (kk : ∀ (w1 : Wo) (H1 : Heap) (locs1 : List Loc), P w1 → Wd X w1 s H1 → va_S (cxA X) H0 H1 locs1 → W p l e R s m args below meth c H1 locs1 (cells + 1) (slots + 6) Q (F0 m (pc + 3) ls (v :: rest))) : W p l e R s m args below meth c H locs cells slots Q (F0 m pc ls st) := h_callSW (n := 3) F hl hM hW hS (big_ap (fun w h => by
  simp only [List.mem_cons, List.mem_nil_iff, or_false] at h
  rcases h with rfl | rfl | rfl
  · exact km_RL_179
  · exact kt_yL_slits
  · exact kn_RL) (bigw_in kc_yL_slits)) ⟨by decide +kernel, by decide +kernel, by decide +kernel⟩ hst hn hR hcat hf hd kk
theorem cx_RL_53 (F : Fx p m c cc nL s args RL) (hl : lv_has ls nL lv0) {f9 l9 : Nat} {As st : List Value} {E : String} {P : Wo → Prop} {a : Nat} {fs : List Value} (hM : CX l X yX8_slits cX8_slits 2 (some (.int)) (rmx f9 l9) (.ref a :: As) w E P) (hW : Wd X w s H) (hS : va_S (cxA X) H0 H locs) (ha : w a = some (.inr (8, fs))) (hst : st = As.reverse ++ .ref a :: rest) (hn : As.length = 1) (hR : f9 + 1 ≤ R.frames ∧ 8 + (2 + 11) + l9 ≤ R.locals) (hcat : (rest.map fun v => v.category).sum ≤ 8) (hf : cells + 1 ≤ R.cells ∧ slots + 6 ≤ R.slots) (hd : decode cc pc = .ok (.invokevirtual 53, 3)) (kx : ∀ (w1 : Wo) (H1 : Heap) (locs1 : List Loc) (ce : Cell) (q9 : Addr), P w1 → Wd X w1 s H1 → va_S (cxA X) H0 H1 locs1 → H1[q9]? = some ce → ce.vm = .none → s.vm.findClass E = some ce.cls → vx_W p l e R s m args below meth c H1 locs1 (cells + 1) (slots + 6) Q (F0 m pc ls rest) q9) : W p l e R s m args below meth c H locs cells slots Q (F0 m pc ls st) := h_callX (C := RX8) (n := 1) F hl hM hW hS (big_ap (fun w h => by
  simp only [List.mem_cons, List.mem_nil_iff, or_false] at h
  rcases h with rfl | rfl | rfl | rfl
  · exact km_RL_53
  · exact ki_yX8_slits
  · exact ks_yX8_slits
  · exact kn_RX8) (big_in kc_yX8_slits)) ⟨rfl, by decide +kernel, by decide +kernel, by decide +kernel⟩ rfl ha hst hn hR hcat hf hd kx
theorem cs_RL_186 (F : Fx p m c cc nL s args RL) (hl : lv_has ls nL lv0) {f9 l9 : Nat} {As st : List Value} {v : Value} {P : Wo → Prop} (hM : CL l X yL_account cL_account 4 (some (.int)) [(0, 9, 12, 19)] (rmx f9 l9) As w (some v) P) (hW : Wd X w s H) (hS : va_S (cxA X) H0 H locs) (hst : st = As.reverse ++ rest) (hn : As.length = 3) (hR : f9 + 1 ≤ R.frames ∧ 8 + (4 + 11) + l9 ≤ R.locals) (hcat : (rest.map fun v => v.category).sum ≤ 8) (hf : cells + 1 ≤ R.cells ∧ slots + 6 ≤ R.slots) (hd : decode cc pc = .ok (.invokestatic 186, 3)) (kk : ∀ (w1 : Wo) (H1 : Heap) (locs1 : List Loc), P w1 → Wd X w1 s H1 → va_S (cxA X) H0 H1 locs1 → W p l e R s m args below meth c H1 locs1 (cells + 1) (slots + 6) Q (F0 m (pc + 3) ls (v :: rest))) : W p l e R s m args below meth c H locs cells slots Q (F0 m pc ls st) := h_callSW (n := 3) F hl hM hW hS (big_ap (fun w h => by
  simp only [List.mem_cons, List.mem_nil_iff, or_false] at h
  rcases h with rfl | rfl | rfl
  · exact km_RL_186
  · exact kt_yL_account
  · exact kn_RL) (bigw_in kc_yL_account)) ⟨by decide +kernel, by decide +kernel, by decide +kernel⟩ hst hn hR hcat hf hd kk
theorem cx_RL_56 (F : Fx p m c cc nL s args RL) (hl : lv_has ls nL lv0) {f9 l9 : Nat} {As st : List Value} {E : String} {P : Wo → Prop} {a : Nat} {fs : List Value} (hM : CX l X yX8_account cX8_account 2 (some (.int)) (rmx f9 l9) (.ref a :: As) w E P) (hW : Wd X w s H) (hS : va_S (cxA X) H0 H locs) (ha : w a = some (.inr (8, fs))) (hst : st = As.reverse ++ .ref a :: rest) (hn : As.length = 1) (hR : f9 + 1 ≤ R.frames ∧ 8 + (2 + 11) + l9 ≤ R.locals) (hcat : (rest.map fun v => v.category).sum ≤ 8) (hf : cells + 1 ≤ R.cells ∧ slots + 6 ≤ R.slots) (hd : decode cc pc = .ok (.invokevirtual 56, 3)) (kx : ∀ (w1 : Wo) (H1 : Heap) (locs1 : List Loc) (ce : Cell) (q9 : Addr), P w1 → Wd X w1 s H1 → va_S (cxA X) H0 H1 locs1 → H1[q9]? = some ce → ce.vm = .none → s.vm.findClass E = some ce.cls → vx_W p l e R s m args below meth c H1 locs1 (cells + 1) (slots + 6) Q (F0 m pc ls rest) q9) : W p l e R s m args below meth c H locs cells slots Q (F0 m pc ls st) := h_callX (C := RX8) (n := 1) F hl hM hW hS (big_ap (fun w h => by
  simp only [List.mem_cons, List.mem_nil_iff, or_false] at h
  rcases h with rfl | rfl | rfl | rfl
  · exact km_RL_56
  · exact ki_yX8_account
  · exact ks_yX8_account
  · exact kn_RX8) (big_in kc_yX8_account)) ⟨rfl, by decide +kernel, by decide +kernel, by decide +kernel⟩ rfl ha hst hn hR hcat hf hd kx
theorem cs_RL_193 (F : Fx p m c cc nL s args RL) (hl : lv_has ls nL lv0) {f9 l9 : Nat} {As st : List Value} {v : Value} {P : Wo → Prop} (hM : CL l X yL_minutes cL_minutes 4 (some (.int)) [(0, 9, 12, 19)] (rmx f9 l9) As w (some v) P) (hW : Wd X w s H) (hS : va_S (cxA X) H0 H locs) (hst : st = As.reverse ++ rest) (hn : As.length = 3) (hR : f9 + 1 ≤ R.frames ∧ 8 + (4 + 11) + l9 ≤ R.locals) (hcat : (rest.map fun v => v.category).sum ≤ 8) (hf : cells + 1 ≤ R.cells ∧ slots + 6 ≤ R.slots) (hd : decode cc pc = .ok (.invokestatic 193, 3)) (kk : ∀ (w1 : Wo) (H1 : Heap) (locs1 : List Loc), P w1 → Wd X w1 s H1 → va_S (cxA X) H0 H1 locs1 → W p l e R s m args below meth c H1 locs1 (cells + 1) (slots + 6) Q (F0 m (pc + 3) ls (v :: rest))) : W p l e R s m args below meth c H locs cells slots Q (F0 m pc ls st) := h_callSW (n := 3) F hl hM hW hS (big_ap (fun w h => by
  simp only [List.mem_cons, List.mem_nil_iff, or_false] at h
  rcases h with rfl | rfl | rfl
  · exact km_RL_193
  · exact kt_yL_minutes
  · exact kn_RL) (bigw_in kc_yL_minutes)) ⟨by decide +kernel, by decide +kernel, by decide +kernel⟩ hst hn hR hcat hf hd kk
theorem cx_RL_59 (F : Fx p m c cc nL s args RL) (hl : lv_has ls nL lv0) {f9 l9 : Nat} {As st : List Value} {E : String} {P : Wo → Prop} {a : Nat} {fs : List Value} (hM : CX l X yX8_minutes cX8_minutes 5 (some (.int)) (rmx f9 l9) (.ref a :: As) w E P) (hW : Wd X w s H) (hS : va_S (cxA X) H0 H locs) (ha : w a = some (.inr (8, fs))) (hst : st = As.reverse ++ .ref a :: rest) (hn : As.length = 1) (hR : f9 + 1 ≤ R.frames ∧ 8 + (5 + 11) + l9 ≤ R.locals) (hcat : (rest.map fun v => v.category).sum ≤ 8) (hf : cells + 1 ≤ R.cells ∧ slots + 6 ≤ R.slots) (hd : decode cc pc = .ok (.invokevirtual 59, 3)) (kx : ∀ (w1 : Wo) (H1 : Heap) (locs1 : List Loc) (ce : Cell) (q9 : Addr), P w1 → Wd X w1 s H1 → va_S (cxA X) H0 H1 locs1 → H1[q9]? = some ce → ce.vm = .none → s.vm.findClass E = some ce.cls → vx_W p l e R s m args below meth c H1 locs1 (cells + 1) (slots + 6) Q (F0 m pc ls rest) q9) : W p l e R s m args below meth c H locs cells slots Q (F0 m pc ls st) := h_callX (C := RX8) (n := 1) F hl hM hW hS (big_ap (fun w h => by
  simp only [List.mem_cons, List.mem_nil_iff, or_false] at h
  rcases h with rfl | rfl | rfl | rfl
  · exact km_RL_59
  · exact ki_yX8_minutes
  · exact ks_yX8_minutes
  · exact kn_RX8) (big_in kc_yX8_minutes)) ⟨rfl, by decide +kernel, by decide +kernel, by decide +kernel⟩ rfl ha hst hn hR hcat hf hd kx
theorem cs_RL_196 (F : Fx p m c cc nL s args RL) (hl : lv_has ls nL lv0) {f9 l9 : Nat} {As st : List Value} {v : Value} {P : Wo → Prop} (hM : CL l X yL_wouldErr cL_wouldErr 4 (some (.int)) [(0, 9, 12, 28)] (rmx f9 l9) As w (some v) P) (hW : Wd X w s H) (hS : va_S (cxA X) H0 H locs) (hst : st = As.reverse ++ rest) (hn : As.length = 3) (hR : f9 + 1 ≤ R.frames ∧ 8 + (4 + 11) + l9 ≤ R.locals) (hcat : (rest.map fun v => v.category).sum ≤ 8) (hf : cells + 1 ≤ R.cells ∧ slots + 6 ≤ R.slots) (hd : decode cc pc = .ok (.invokestatic 196, 3)) (kk : ∀ (w1 : Wo) (H1 : Heap) (locs1 : List Loc), P w1 → Wd X w1 s H1 → va_S (cxA X) H0 H1 locs1 → W p l e R s m args below meth c H1 locs1 (cells + 1) (slots + 6) Q (F0 m (pc + 3) ls (v :: rest))) : W p l e R s m args below meth c H locs cells slots Q (F0 m pc ls st) := h_callSW (n := 3) F hl hM hW hS (big_ap (fun w h => by
  simp only [List.mem_cons, List.mem_nil_iff, or_false] at h
  rcases h with rfl | rfl | rfl
  · exact km_RL_196
  · exact kt_yL_wouldErr
  · exact kn_RL) (bigw_in kc_yL_wouldErr)) ⟨by decide +kernel, by decide +kernel, by decide +kernel⟩ hst hn hR hcat hf hd kk
theorem cx_RL_62 (F : Fx p m c cc nL s args RL) (hl : lv_has ls nL lv0) {f9 l9 : Nat} {As st : List Value} {E : String} {P : Wo → Prop} {a : Nat} {fs : List Value} (hM : CX l X yX8_wouldErr cX8_wouldErr 4 (some (.int)) (rmx f9 l9) (.ref a :: As) w E P) (hW : Wd X w s H) (hS : va_S (cxA X) H0 H locs) (ha : w a = some (.inr (8, fs))) (hst : st = As.reverse ++ .ref a :: rest) (hn : As.length = 1) (hR : f9 + 1 ≤ R.frames ∧ 8 + (4 + 11) + l9 ≤ R.locals) (hcat : (rest.map fun v => v.category).sum ≤ 8) (hf : cells + 1 ≤ R.cells ∧ slots + 6 ≤ R.slots) (hd : decode cc pc = .ok (.invokevirtual 62, 3)) (kx : ∀ (w1 : Wo) (H1 : Heap) (locs1 : List Loc) (ce : Cell) (q9 : Addr), P w1 → Wd X w1 s H1 → va_S (cxA X) H0 H1 locs1 → H1[q9]? = some ce → ce.vm = .none → s.vm.findClass E = some ce.cls → vx_W p l e R s m args below meth c H1 locs1 (cells + 1) (slots + 6) Q (F0 m pc ls rest) q9) : W p l e R s m args below meth c H locs cells slots Q (F0 m pc ls st) := h_callX (C := RX8) (n := 1) F hl hM hW hS (big_ap (fun w h => by
  simp only [List.mem_cons, List.mem_nil_iff, or_false] at h
  rcases h with rfl | rfl | rfl | rfl
  · exact km_RL_62
  · exact ki_yX8_wouldErr
  · exact ks_yX8_wouldErr
  · exact kn_RX8) (big_in kc_yX8_wouldErr)) ⟨rfl, by decide +kernel, by decide +kernel, by decide +kernel⟩ rfl ha hst hn hR hcat hf hd kx
theorem cs_RL_199 (F : Fx p m c cc nL s args RL) (hl : lv_has ls nL lv0) {f9 l9 : Nat} {As st : List Value} {v : Value} {P : Wo → Prop} (hM : CL l X yL_place cL_place 5 (some (.int)) [(0, 10, 13, 19)] (rmx f9 l9) As w (some v) P) (hW : Wd X w s H) (hS : va_S (cxA X) H0 H locs) (hst : st = As.reverse ++ rest) (hn : As.length = 4) (hR : f9 + 1 ≤ R.frames ∧ 8 + (5 + 11) + l9 ≤ R.locals) (hcat : (rest.map fun v => v.category).sum ≤ 8) (hf : cells + 1 ≤ R.cells ∧ slots + 6 ≤ R.slots) (hd : decode cc pc = .ok (.invokestatic 199, 3)) (kk : ∀ (w1 : Wo) (H1 : Heap) (locs1 : List Loc), P w1 → Wd X w1 s H1 → va_S (cxA X) H0 H1 locs1 → W p l e R s m args below meth c H1 locs1 (cells + 1) (slots + 6) Q (F0 m (pc + 3) ls (v :: rest))) : W p l e R s m args below meth c H locs cells slots Q (F0 m pc ls st) := h_callSW (n := 4) F hl hM hW hS (big_ap (fun w h => by
  simp only [List.mem_cons, List.mem_nil_iff, or_false] at h
  rcases h with rfl | rfl | rfl
  · exact km_RL_199
  · exact kt_yL_place
  · exact kn_RL) (bigw_in kc_yL_place)) ⟨by decide +kernel, by decide +kernel, by decide +kernel⟩ hst hn hR hcat hf hd kk
theorem cx_RL_65 (F : Fx p m c cc nL s args RL) (hl : lv_has ls nL lv0) {f9 l9 : Nat} {As st : List Value} {E : String} {P : Wo → Prop} {a : Nat} {fs : List Value} (hM : CX l X yX8_place cX8_place 5 (some (.int)) (rmx f9 l9) (.ref a :: As) w E P) (hW : Wd X w s H) (hS : va_S (cxA X) H0 H locs) (ha : w a = some (.inr (8, fs))) (hst : st = As.reverse ++ .ref a :: rest) (hn : As.length = 2) (hR : f9 + 1 ≤ R.frames ∧ 8 + (5 + 11) + l9 ≤ R.locals) (hcat : (rest.map fun v => v.category).sum ≤ 8) (hf : cells + 1 ≤ R.cells ∧ slots + 6 ≤ R.slots) (hd : decode cc pc = .ok (.invokevirtual 65, 3)) (kx : ∀ (w1 : Wo) (H1 : Heap) (locs1 : List Loc) (ce : Cell) (q9 : Addr), P w1 → Wd X w1 s H1 → va_S (cxA X) H0 H1 locs1 → H1[q9]? = some ce → ce.vm = .none → s.vm.findClass E = some ce.cls → vx_W p l e R s m args below meth c H1 locs1 (cells + 1) (slots + 6) Q (F0 m pc ls rest) q9) : W p l e R s m args below meth c H locs cells slots Q (F0 m pc ls st) := h_callX (C := RX8) (n := 2) F hl hM hW hS (big_ap (fun w h => by
  simp only [List.mem_cons, List.mem_nil_iff, or_false] at h
  rcases h with rfl | rfl | rfl | rfl
  · exact km_RL_65
  · exact ki_yX8_place
  · exact ks_yX8_place
  · exact kn_RX8) (big_in kc_yX8_place)) ⟨rfl, by decide +kernel, by decide +kernel, by decide +kernel⟩ rfl ha hst hn hR hcat hf hd kx
theorem cs_RL_202 (F : Fx p m c cc nL s args RL) (hl : lv_has ls nL lv0) {f9 l9 : Nat} {As st : List Value} {v : Value} {P : Wo → Prop} (hM : CL l X yL_share cL_share 4 (some (.int)) [(0, 9, 12, 28)] (rmx f9 l9) As w (some v) P) (hW : Wd X w s H) (hS : va_S (cxA X) H0 H locs) (hst : st = As.reverse ++ rest) (hn : As.length = 3) (hR : f9 + 1 ≤ R.frames ∧ 8 + (4 + 11) + l9 ≤ R.locals) (hcat : (rest.map fun v => v.category).sum ≤ 8) (hf : cells + 1 ≤ R.cells ∧ slots + 6 ≤ R.slots) (hd : decode cc pc = .ok (.invokestatic 202, 3)) (kk : ∀ (w1 : Wo) (H1 : Heap) (locs1 : List Loc), P w1 → Wd X w1 s H1 → va_S (cxA X) H0 H1 locs1 → W p l e R s m args below meth c H1 locs1 (cells + 1) (slots + 6) Q (F0 m (pc + 3) ls (v :: rest))) : W p l e R s m args below meth c H locs cells slots Q (F0 m pc ls st) := h_callSW (n := 3) F hl hM hW hS (big_ap (fun w h => by
  simp only [List.mem_cons, List.mem_nil_iff, or_false] at h
  rcases h with rfl | rfl | rfl
  · exact km_RL_202
  · exact kt_yL_share
  · exact kn_RL) (bigw_in kc_yL_share)) ⟨by decide +kernel, by decide +kernel, by decide +kernel⟩ hst hn hR hcat hf hd kk
theorem cx_RL_68 (F : Fx p m c cc nL s args RL) (hl : lv_has ls nL lv0) {f9 l9 : Nat} {As st : List Value} {E : String} {P : Wo → Prop} {a : Nat} {fs : List Value} (hM : CX l X yX8_share cX8_share 3 (some (.float)) (rmx f9 l9) (.ref a :: As) w E P) (hW : Wd X w s H) (hS : va_S (cxA X) H0 H locs) (ha : w a = some (.inr (8, fs))) (hst : st = As.reverse ++ .ref a :: rest) (hn : As.length = 1) (hR : f9 + 1 ≤ R.frames ∧ 8 + (3 + 11) + l9 ≤ R.locals) (hcat : (rest.map fun v => v.category).sum ≤ 8) (hf : cells + 1 ≤ R.cells ∧ slots + 6 ≤ R.slots) (hd : decode cc pc = .ok (.invokevirtual 68, 3)) (kx : ∀ (w1 : Wo) (H1 : Heap) (locs1 : List Loc) (ce : Cell) (q9 : Addr), P w1 → Wd X w1 s H1 → va_S (cxA X) H0 H1 locs1 → H1[q9]? = some ce → ce.vm = .none → s.vm.findClass E = some ce.cls → vx_W p l e R s m args below meth c H1 locs1 (cells + 1) (slots + 6) Q (F0 m pc ls rest) q9) : W p l e R s m args below meth c H locs cells slots Q (F0 m pc ls st) := h_callX (C := RX8) (n := 1) F hl hM hW hS (big_ap (fun w h => by
  simp only [List.mem_cons, List.mem_nil_iff, or_false] at h
  rcases h with rfl | rfl | rfl | rfl
  · exact km_RL_68
  · exact ki_yX8_share
  · exact ks_yX8_share
  · exact kn_RX8) (big_in kc_yX8_share)) ⟨rfl, by decide +kernel, by decide +kernel, by decide +kernel⟩ rfl ha hst hn hR hcat hf hd kx
theorem cs_RL_211 (F : Fx p m c cc nL s args RL) (hl : lv_has ls nL lv0) {f9 l9 : Nat} {As st : List Value} {v : Value} {P : Wo → Prop} (hM : CL l X yL_pass cL_pass 6 (some (.int)) [(0, 12, 15, 28), (0, 12, 19, 19)] (rmx f9 l9) As w (some v) P) (hW : Wd X w s H) (hS : va_S (cxA X) H0 H locs) (hst : st = As.reverse ++ rest) (hn : As.length = 5) (hR : f9 + 1 ≤ R.frames ∧ 8 + (6 + 11) + l9 ≤ R.locals) (hcat : (rest.map fun v => v.category).sum ≤ 8) (hf : cells + 1 ≤ R.cells ∧ slots + 6 ≤ R.slots) (hd : decode cc pc = .ok (.invokestatic 211, 3)) (kk : ∀ (w1 : Wo) (H1 : Heap) (locs1 : List Loc), P w1 → Wd X w1 s H1 → va_S (cxA X) H0 H1 locs1 → W p l e R s m args below meth c H1 locs1 (cells + 1) (slots + 6) Q (F0 m (pc + 3) ls (v :: rest))) : W p l e R s m args below meth c H locs cells slots Q (F0 m pc ls st) := h_callSW (n := 5) F hl hM hW hS (big_ap (fun w h => by
  simp only [List.mem_cons, List.mem_nil_iff, or_false] at h
  rcases h with rfl | rfl | rfl
  · exact km_RL_211
  · exact kt_yL_pass
  · exact kn_RL) (bigw_in kc_yL_pass)) ⟨by decide +kernel, by decide +kernel, by decide +kernel⟩ hst hn hR hcat hf hd kk
theorem cx_RL_72 (F : Fx p m c cc nL s args RL) (hl : lv_has ls nL lv0) {f9 l9 : Nat} {As st : List Value} {E : String} {P : Wo → Prop} {a : Nat} {fs : List Value} (hM : CX l X yX8_pass cX8_pass 4 (some (.int)) (rmx f9 l9) (.ref a :: As) w E P) (hW : Wd X w s H) (hS : va_S (cxA X) H0 H locs) (ha : w a = some (.inr (8, fs))) (hst : st = As.reverse ++ .ref a :: rest) (hn : As.length = 3) (hR : f9 + 1 ≤ R.frames ∧ 8 + (4 + 11) + l9 ≤ R.locals) (hcat : (rest.map fun v => v.category).sum ≤ 8) (hf : cells + 1 ≤ R.cells ∧ slots + 6 ≤ R.slots) (hd : decode cc pc = .ok (.invokevirtual 72, 3)) (kx : ∀ (w1 : Wo) (H1 : Heap) (locs1 : List Loc) (ce : Cell) (q9 : Addr), P w1 → Wd X w1 s H1 → va_S (cxA X) H0 H1 locs1 → H1[q9]? = some ce → ce.vm = .none → s.vm.findClass E = some ce.cls → vx_W p l e R s m args below meth c H1 locs1 (cells + 1) (slots + 6) Q (F0 m pc ls rest) q9) : W p l e R s m args below meth c H locs cells slots Q (F0 m pc ls st) := h_callX (C := RX8) (n := 3) F hl hM hW hS (big_ap (fun w h => by
  simp only [List.mem_cons, List.mem_nil_iff, or_false] at h
  rcases h with rfl | rfl | rfl | rfl
  · exact km_RL_72
  · exact ki_yX8_pass
  · exact ks_yX8_pass
  · exact kn_RX8) (big_in kc_yX8_pass)) ⟨rfl, by decide +kernel, by decide +kernel, by decide +kernel⟩ rfl ha hst hn hR hcat hf hd kx
theorem cs_RL_218 (F : Fx p m c cc nL s args RL) (hl : lv_has ls nL lv0) {f9 l9 : Nat} {As st : List Value} {v : Value} {P : Wo → Prop} (hM : CL l X yL_weave cL_weave 5 (some (.int)) [(0, 10, 13, 19)] (rmx f9 l9) As w (some v) P) (hW : Wd X w s H) (hS : va_S (cxA X) H0 H locs) (hst : st = As.reverse ++ rest) (hn : As.length = 4) (hR : f9 + 1 ≤ R.frames ∧ 8 + (5 + 11) + l9 ≤ R.locals) (hcat : (rest.map fun v => v.category).sum ≤ 8) (hf : cells + 1 ≤ R.cells ∧ slots + 6 ≤ R.slots) (hd : decode cc pc = .ok (.invokestatic 218, 3)) (kk : ∀ (w1 : Wo) (H1 : Heap) (locs1 : List Loc), P w1 → Wd X w1 s H1 → va_S (cxA X) H0 H1 locs1 → W p l e R s m args below meth c H1 locs1 (cells + 1) (slots + 6) Q (F0 m (pc + 3) ls (v :: rest))) : W p l e R s m args below meth c H locs cells slots Q (F0 m pc ls st) := h_callSW (n := 4) F hl hM hW hS (big_ap (fun w h => by
  simp only [List.mem_cons, List.mem_nil_iff, or_false] at h
  rcases h with rfl | rfl | rfl
  · exact km_RL_218
  · exact kt_yL_weave
  · exact kn_RL) (bigw_in kc_yL_weave)) ⟨by decide +kernel, by decide +kernel, by decide +kernel⟩ hst hn hR hcat hf hd kk
theorem cx_RL_75 (F : Fx p m c cc nL s args RL) (hl : lv_has ls nL lv0) {f9 l9 : Nat} {As st : List Value} {E : String} {P : Wo → Prop} {a : Nat} {fs : List Value} (hM : CX l X yX8_weave cX8_weave 3 (some (.int)) (rmx f9 l9) (.ref a :: As) w E P) (hW : Wd X w s H) (hS : va_S (cxA X) H0 H locs) (ha : w a = some (.inr (8, fs))) (hst : st = As.reverse ++ .ref a :: rest) (hn : As.length = 2) (hR : f9 + 1 ≤ R.frames ∧ 8 + (3 + 11) + l9 ≤ R.locals) (hcat : (rest.map fun v => v.category).sum ≤ 8) (hf : cells + 1 ≤ R.cells ∧ slots + 6 ≤ R.slots) (hd : decode cc pc = .ok (.invokevirtual 75, 3)) (kx : ∀ (w1 : Wo) (H1 : Heap) (locs1 : List Loc) (ce : Cell) (q9 : Addr), P w1 → Wd X w1 s H1 → va_S (cxA X) H0 H1 locs1 → H1[q9]? = some ce → ce.vm = .none → s.vm.findClass E = some ce.cls → vx_W p l e R s m args below meth c H1 locs1 (cells + 1) (slots + 6) Q (F0 m pc ls rest) q9) : W p l e R s m args below meth c H locs cells slots Q (F0 m pc ls st) := h_callX (C := RX8) (n := 2) F hl hM hW hS (big_ap (fun w h => by
  simp only [List.mem_cons, List.mem_nil_iff, or_false] at h
  rcases h with rfl | rfl | rfl | rfl
  · exact km_RL_75
  · exact ki_yX8_weave
  · exact ks_yX8_weave
  · exact kn_RX8) (big_in kc_yX8_weave)) ⟨rfl, by decide +kernel, by decide +kernel, by decide +kernel⟩ rfl ha hst hn hR hcat hf hd kx
theorem cs_RL_222 (F : Fx p m c cc nL s args RL) (hl : lv_has ls nL lv0) {f9 l9 : Nat} {As st : List Value} {v : Value} {P : Wo → Prop} (hM : CL l X yL_unpick cL_unpick 4 (some (.int)) [(0, 9, 12, 19)] (rmx f9 l9) As w (some v) P) (hW : Wd X w s H) (hS : va_S (cxA X) H0 H locs) (hst : st = As.reverse ++ rest) (hn : As.length = 3) (hR : f9 + 1 ≤ R.frames ∧ 8 + (4 + 11) + l9 ≤ R.locals) (hcat : (rest.map fun v => v.category).sum ≤ 8) (hf : cells + 1 ≤ R.cells ∧ slots + 6 ≤ R.slots) (hd : decode cc pc = .ok (.invokestatic 222, 3)) (kk : ∀ (w1 : Wo) (H1 : Heap) (locs1 : List Loc), P w1 → Wd X w1 s H1 → va_S (cxA X) H0 H1 locs1 → W p l e R s m args below meth c H1 locs1 (cells + 1) (slots + 6) Q (F0 m (pc + 3) ls (v :: rest))) : W p l e R s m args below meth c H locs cells slots Q (F0 m pc ls st) := h_callSW (n := 3) F hl hM hW hS (big_ap (fun w h => by
  simp only [List.mem_cons, List.mem_nil_iff, or_false] at h
  rcases h with rfl | rfl | rfl
  · exact km_RL_222
  · exact kt_yL_unpick
  · exact kn_RL) (bigw_in kc_yL_unpick)) ⟨by decide +kernel, by decide +kernel, by decide +kernel⟩ hst hn hR hcat hf hd kk
theorem cx_RL_79 (F : Fx p m c cc nL s args RL) (hl : lv_has ls nL lv0) {f9 l9 : Nat} {As st : List Value} {E : String} {P : Wo → Prop} {a : Nat} {fs : List Value} (hM : CX l X yX8_unpick cX8_unpick 2 (some (.int)) (rmx f9 l9) (.ref a :: As) w E P) (hW : Wd X w s H) (hS : va_S (cxA X) H0 H locs) (ha : w a = some (.inr (8, fs))) (hst : st = As.reverse ++ .ref a :: rest) (hn : As.length = 1) (hR : f9 + 1 ≤ R.frames ∧ 8 + (2 + 11) + l9 ≤ R.locals) (hcat : (rest.map fun v => v.category).sum ≤ 8) (hf : cells + 1 ≤ R.cells ∧ slots + 6 ≤ R.slots) (hd : decode cc pc = .ok (.invokevirtual 79, 3)) (kx : ∀ (w1 : Wo) (H1 : Heap) (locs1 : List Loc) (ce : Cell) (q9 : Addr), P w1 → Wd X w1 s H1 → va_S (cxA X) H0 H1 locs1 → H1[q9]? = some ce → ce.vm = .none → s.vm.findClass E = some ce.cls → vx_W p l e R s m args below meth c H1 locs1 (cells + 1) (slots + 6) Q (F0 m pc ls rest) q9) : W p l e R s m args below meth c H locs cells slots Q (F0 m pc ls st) := h_callX (C := RX8) (n := 1) F hl hM hW hS (big_ap (fun w h => by
  simp only [List.mem_cons, List.mem_nil_iff, or_false] at h
  rcases h with rfl | rfl | rfl | rfl
  · exact km_RL_79
  · exact ki_yX8_unpick
  · exact ks_yX8_unpick
  · exact kn_RX8) (big_in kc_yX8_unpick)) ⟨rfl, by decide +kernel, by decide +kernel, by decide +kernel⟩ rfl ha hst hn hR hcat hf hd kx
theorem cs_RL_229 (F : Fx p m c cc nL s args RL) (hl : lv_has ls nL lv0) {f9 l9 : Nat} {As st : List Value} {v : Value} {P : Wo → Prop} (hM : CL l X yL_add cL_add 7 (some (.int)) [(0, 14, 17, 19)] (rmx f9 l9) As w (some v) P) (hW : Wd X w s H) (hS : va_S (cxA X) H0 H locs) (hst : st = As.reverse ++ rest) (hn : As.length = 6) (hR : f9 + 1 ≤ R.frames ∧ 8 + (7 + 11) + l9 ≤ R.locals) (hcat : (rest.map fun v => v.category).sum ≤ 8) (hf : cells + 1 ≤ R.cells ∧ slots + 6 ≤ R.slots) (hd : decode cc pc = .ok (.invokestatic 229, 3)) (kk : ∀ (w1 : Wo) (H1 : Heap) (locs1 : List Loc), P w1 → Wd X w1 s H1 → va_S (cxA X) H0 H1 locs1 → W p l e R s m args below meth c H1 locs1 (cells + 1) (slots + 6) Q (F0 m (pc + 3) ls (v :: rest))) : W p l e R s m args below meth c H locs cells slots Q (F0 m pc ls st) := h_callSW (n := 6) F hl hM hW hS (big_ap (fun w h => by
  simp only [List.mem_cons, List.mem_nil_iff, or_false] at h
  rcases h with rfl | rfl | rfl
  · exact km_RL_229
  · exact kt_yL_add
  · exact kn_RL) (bigw_in kc_yL_add)) ⟨by decide +kernel, by decide +kernel, by decide +kernel⟩ hst hn hR hcat hf hd kk
theorem cx_RL_82 (F : Fx p m c cc nL s args RL) (hl : lv_has ls nL lv0) {f9 l9 : Nat} {As st : List Value} {E : String} {P : Wo → Prop} {a : Nat} {fs : List Value} (hM : CX l X yX8_add cX8_add 7 (some (.int)) (rmx f9 l9) (.ref a :: As) w E P) (hW : Wd X w s H) (hS : va_S (cxA X) H0 H locs) (ha : w a = some (.inr (8, fs))) (hst : st = As.reverse ++ .ref a :: rest) (hn : As.length = 4) (hR : f9 + 1 ≤ R.frames ∧ 8 + (7 + 11) + l9 ≤ R.locals) (hcat : (rest.map fun v => v.category).sum ≤ 8) (hf : cells + 1 ≤ R.cells ∧ slots + 6 ≤ R.slots) (hd : decode cc pc = .ok (.invokevirtual 82, 3)) (kx : ∀ (w1 : Wo) (H1 : Heap) (locs1 : List Loc) (ce : Cell) (q9 : Addr), P w1 → Wd X w1 s H1 → va_S (cxA X) H0 H1 locs1 → H1[q9]? = some ce → ce.vm = .none → s.vm.findClass E = some ce.cls → vx_W p l e R s m args below meth c H1 locs1 (cells + 1) (slots + 6) Q (F0 m pc ls rest) q9) : W p l e R s m args below meth c H locs cells slots Q (F0 m pc ls st) := h_callX (C := RX8) (n := 4) F hl hM hW hS (big_ap (fun w h => by
  simp only [List.mem_cons, List.mem_nil_iff, or_false] at h
  rcases h with rfl | rfl | rfl | rfl
  · exact km_RL_82
  · exact ki_yX8_add
  · exact ks_yX8_add
  · exact kn_RX8) (big_in kc_yX8_add)) ⟨rfl, by decide +kernel, by decide +kernel, by decide +kernel⟩ rfl ha hst hn hR hcat hf hd kx
theorem cs_RL_233 (F : Fx p m c cc nL s args RL) (hl : lv_has ls nL lv0) {f9 l9 : Nat} {As st : List Value} {v : Value} {P : Wo → Prop} (hM : CL l X yL_drop cL_drop 4 (some (.int)) [(0, 9, 12, 28)] (rmx f9 l9) As w (some v) P) (hW : Wd X w s H) (hS : va_S (cxA X) H0 H locs) (hst : st = As.reverse ++ rest) (hn : As.length = 3) (hR : f9 + 1 ≤ R.frames ∧ 8 + (4 + 11) + l9 ≤ R.locals) (hcat : (rest.map fun v => v.category).sum ≤ 8) (hf : cells + 1 ≤ R.cells ∧ slots + 6 ≤ R.slots) (hd : decode cc pc = .ok (.invokestatic 233, 3)) (kk : ∀ (w1 : Wo) (H1 : Heap) (locs1 : List Loc), P w1 → Wd X w1 s H1 → va_S (cxA X) H0 H1 locs1 → W p l e R s m args below meth c H1 locs1 (cells + 1) (slots + 6) Q (F0 m (pc + 3) ls (v :: rest))) : W p l e R s m args below meth c H locs cells slots Q (F0 m pc ls st) := h_callSW (n := 3) F hl hM hW hS (big_ap (fun w h => by
  simp only [List.mem_cons, List.mem_nil_iff, or_false] at h
  rcases h with rfl | rfl | rfl
  · exact km_RL_233
  · exact kt_yL_drop
  · exact kn_RL) (bigw_in kc_yL_drop)) ⟨by decide +kernel, by decide +kernel, by decide +kernel⟩ hst hn hR hcat hf hd kk
theorem cx_RL_86 (F : Fx p m c cc nL s args RL) (hl : lv_has ls nL lv0) {f9 l9 : Nat} {As st : List Value} {E : String} {P : Wo → Prop} {a : Nat} {fs : List Value} (hM : CX l X yX8_drop cX8_drop 2 (some (.int)) (rmx f9 l9) (.ref a :: As) w E P) (hW : Wd X w s H) (hS : va_S (cxA X) H0 H locs) (ha : w a = some (.inr (8, fs))) (hst : st = As.reverse ++ .ref a :: rest) (hn : As.length = 1) (hR : f9 + 1 ≤ R.frames ∧ 8 + (2 + 11) + l9 ≤ R.locals) (hcat : (rest.map fun v => v.category).sum ≤ 8) (hf : cells + 1 ≤ R.cells ∧ slots + 6 ≤ R.slots) (hd : decode cc pc = .ok (.invokevirtual 86, 3)) (kx : ∀ (w1 : Wo) (H1 : Heap) (locs1 : List Loc) (ce : Cell) (q9 : Addr), P w1 → Wd X w1 s H1 → va_S (cxA X) H0 H1 locs1 → H1[q9]? = some ce → ce.vm = .none → s.vm.findClass E = some ce.cls → vx_W p l e R s m args below meth c H1 locs1 (cells + 1) (slots + 6) Q (F0 m pc ls rest) q9) : W p l e R s m args below meth c H locs cells slots Q (F0 m pc ls st) := h_callX (C := RX8) (n := 1) F hl hM hW hS (big_ap (fun w h => by
  simp only [List.mem_cons, List.mem_nil_iff, or_false] at h
  rcases h with rfl | rfl | rfl | rfl
  · exact km_RL_86
  · exact ki_yX8_drop
  · exact ks_yX8_drop
  · exact kn_RX8) (big_in kc_yX8_drop)) ⟨rfl, by decide +kernel, by decide +kernel, by decide +kernel⟩ rfl ha hst hn hR hcat hf hd kx
theorem cs_RL_236 (F : Fx p m c cc nL s args RL) (hl : lv_has ls nL lv0) {f9 l9 : Nat} {As st : List Value} {v : Value} {P : Wo → Prop} (hM : CL l X yL_move cL_move 6 (some (.int)) [(0, 12, 15, 28)] (rmx f9 l9) As w (some v) P) (hW : Wd X w s H) (hS : va_S (cxA X) H0 H locs) (hst : st = As.reverse ++ rest) (hn : As.length = 5) (hR : f9 + 1 ≤ R.frames ∧ 8 + (6 + 11) + l9 ≤ R.locals) (hcat : (rest.map fun v => v.category).sum ≤ 8) (hf : cells + 1 ≤ R.cells ∧ slots + 6 ≤ R.slots) (hd : decode cc pc = .ok (.invokestatic 236, 3)) (kk : ∀ (w1 : Wo) (H1 : Heap) (locs1 : List Loc), P w1 → Wd X w1 s H1 → va_S (cxA X) H0 H1 locs1 → W p l e R s m args below meth c H1 locs1 (cells + 1) (slots + 6) Q (F0 m (pc + 3) ls (v :: rest))) : W p l e R s m args below meth c H locs cells slots Q (F0 m pc ls st) := h_callSW (n := 5) F hl hM hW hS (big_ap (fun w h => by
  simp only [List.mem_cons, List.mem_nil_iff, or_false] at h
  rcases h with rfl | rfl | rfl
  · exact km_RL_236
  · exact kt_yL_move
  · exact kn_RL) (bigw_in kc_yL_move)) ⟨by decide +kernel, by decide +kernel, by decide +kernel⟩ hst hn hR hcat hf hd kk
theorem cx_RL_89 (F : Fx p m c cc nL s args RL) (hl : lv_has ls nL lv0) {f9 l9 : Nat} {As st : List Value} {E : String} {P : Wo → Prop} {a : Nat} {fs : List Value} (hM : CX l X yX8_move cX8_move 5 (some (.int)) (rmx f9 l9) (.ref a :: As) w E P) (hW : Wd X w s H) (hS : va_S (cxA X) H0 H locs) (ha : w a = some (.inr (8, fs))) (hst : st = As.reverse ++ .ref a :: rest) (hn : As.length = 3) (hR : f9 + 1 ≤ R.frames ∧ 8 + (5 + 11) + l9 ≤ R.locals) (hcat : (rest.map fun v => v.category).sum ≤ 8) (hf : cells + 1 ≤ R.cells ∧ slots + 6 ≤ R.slots) (hd : decode cc pc = .ok (.invokevirtual 89, 3)) (kx : ∀ (w1 : Wo) (H1 : Heap) (locs1 : List Loc) (ce : Cell) (q9 : Addr), P w1 → Wd X w1 s H1 → va_S (cxA X) H0 H1 locs1 → H1[q9]? = some ce → ce.vm = .none → s.vm.findClass E = some ce.cls → vx_W p l e R s m args below meth c H1 locs1 (cells + 1) (slots + 6) Q (F0 m pc ls rest) q9) : W p l e R s m args below meth c H locs cells slots Q (F0 m pc ls st) := h_callX (C := RX8) (n := 3) F hl hM hW hS (big_ap (fun w h => by
  simp only [List.mem_cons, List.mem_nil_iff, or_false] at h
  rcases h with rfl | rfl | rfl | rfl
  · exact km_RL_89
  · exact ki_yX8_move
  · exact ks_yX8_move
  · exact kn_RX8) (big_in kc_yX8_move)) ⟨rfl, by decide +kernel, by decide +kernel, by decide +kernel⟩ rfl ha hst hn hR hcat hf hd kx
theorem cs_RL_239 (F : Fx p m c cc nL s args RL) (hl : lv_has ls nL lv0) {f9 l9 : Nat} {As st : List Value} {v : Value} {P : Wo → Prop} (hM : CL l X yL_setStock cL_setStock 5 (some (.int)) [(0, 10, 13, 28), (0, 10, 17, 19)] (rmx f9 l9) As w (some v) P) (hW : Wd X w s H) (hS : va_S (cxA X) H0 H locs) (hst : st = As.reverse ++ rest) (hn : As.length = 4) (hR : f9 + 1 ≤ R.frames ∧ 8 + (5 + 11) + l9 ≤ R.locals) (hcat : (rest.map fun v => v.category).sum ≤ 8) (hf : cells + 1 ≤ R.cells ∧ slots + 6 ≤ R.slots) (hd : decode cc pc = .ok (.invokestatic 239, 3)) (kk : ∀ (w1 : Wo) (H1 : Heap) (locs1 : List Loc), P w1 → Wd X w1 s H1 → va_S (cxA X) H0 H1 locs1 → W p l e R s m args below meth c H1 locs1 (cells + 1) (slots + 6) Q (F0 m (pc + 3) ls (v :: rest))) : W p l e R s m args below meth c H locs cells slots Q (F0 m pc ls st) := h_callSW (n := 4) F hl hM hW hS (big_ap (fun w h => by
  simp only [List.mem_cons, List.mem_nil_iff, or_false] at h
  rcases h with rfl | rfl | rfl
  · exact km_RL_239
  · exact kt_yL_setStock
  · exact kn_RL) (bigw_in kc_yL_setStock)) ⟨by decide +kernel, by decide +kernel, by decide +kernel⟩ hst hn hR hcat hf hd kk
theorem cx_RL_92 (F : Fx p m c cc nL s args RL) (hl : lv_has ls nL lv0) {f9 l9 : Nat} {As st : List Value} {E : String} {P : Wo → Prop} {a : Nat} {fs : List Value} (hM : CX l X yX8_setStock cX8_setStock 4 (some (.int)) (rmx f9 l9) (.ref a :: As) w E P) (hW : Wd X w s H) (hS : va_S (cxA X) H0 H locs) (ha : w a = some (.inr (8, fs))) (hst : st = As.reverse ++ .ref a :: rest) (hn : As.length = 2) (hR : f9 + 1 ≤ R.frames ∧ 8 + (4 + 11) + l9 ≤ R.locals) (hcat : (rest.map fun v => v.category).sum ≤ 8) (hf : cells + 1 ≤ R.cells ∧ slots + 6 ≤ R.slots) (hd : decode cc pc = .ok (.invokevirtual 92, 3)) (kx : ∀ (w1 : Wo) (H1 : Heap) (locs1 : List Loc) (ce : Cell) (q9 : Addr), P w1 → Wd X w1 s H1 → va_S (cxA X) H0 H1 locs1 → H1[q9]? = some ce → ce.vm = .none → s.vm.findClass E = some ce.cls → vx_W p l e R s m args below meth c H1 locs1 (cells + 1) (slots + 6) Q (F0 m pc ls rest) q9) : W p l e R s m args below meth c H locs cells slots Q (F0 m pc ls st) := h_callX (C := RX8) (n := 2) F hl hM hW hS (big_ap (fun w h => by
  simp only [List.mem_cons, List.mem_nil_iff, or_false] at h
  rcases h with rfl | rfl | rfl | rfl
  · exact km_RL_92
  · exact ki_yX8_setStock
  · exact ks_yX8_setStock
  · exact kn_RX8) (big_in kc_yX8_setStock)) ⟨rfl, by decide +kernel, by decide +kernel, by decide +kernel⟩ rfl ha hst hn hR hcat hf hd kx
theorem cs_RL_242 (F : Fx p m c cc nL s args RL) (hl : lv_has ls nL lv0) {f9 l9 : Nat} {As st : List Value} {v : Value} {P : Wo → Prop} (hM : CL l X yL_setDelay cL_setDelay 4 (some (.int)) [(0, 9, 12, 19)] (rmx f9 l9) As w (some v) P) (hW : Wd X w s H) (hS : va_S (cxA X) H0 H locs) (hst : st = As.reverse ++ rest) (hn : As.length = 3) (hR : f9 + 1 ≤ R.frames ∧ 8 + (4 + 11) + l9 ≤ R.locals) (hcat : (rest.map fun v => v.category).sum ≤ 8) (hf : cells + 1 ≤ R.cells ∧ slots + 6 ≤ R.slots) (hd : decode cc pc = .ok (.invokestatic 242, 3)) (kk : ∀ (w1 : Wo) (H1 : Heap) (locs1 : List Loc), P w1 → Wd X w1 s H1 → va_S (cxA X) H0 H1 locs1 → W p l e R s m args below meth c H1 locs1 (cells + 1) (slots + 6) Q (F0 m (pc + 3) ls (v :: rest))) : W p l e R s m args below meth c H locs cells slots Q (F0 m pc ls st) := h_callSW (n := 3) F hl hM hW hS (big_ap (fun w h => by
  simp only [List.mem_cons, List.mem_nil_iff, or_false] at h
  rcases h with rfl | rfl | rfl
  · exact km_RL_242
  · exact kt_yL_setDelay
  · exact kn_RL) (bigw_in kc_yL_setDelay)) ⟨by decide +kernel, by decide +kernel, by decide +kernel⟩ hst hn hR hcat hf hd kk
theorem cx_RL_95 (F : Fx p m c cc nL s args RL) (hl : lv_has ls nL lv0) {f9 l9 : Nat} {As st : List Value} {E : String} {P : Wo → Prop} {a : Nat} {fs : List Value} (hM : CX l X yX8_setDelay cX8_setDelay 3 (some (.int)) (rmx f9 l9) (.ref a :: As) w E P) (hW : Wd X w s H) (hS : va_S (cxA X) H0 H locs) (ha : w a = some (.inr (8, fs))) (hst : st = As.reverse ++ .ref a :: rest) (hn : As.length = 1) (hR : f9 + 1 ≤ R.frames ∧ 8 + (3 + 11) + l9 ≤ R.locals) (hcat : (rest.map fun v => v.category).sum ≤ 8) (hf : cells + 1 ≤ R.cells ∧ slots + 6 ≤ R.slots) (hd : decode cc pc = .ok (.invokevirtual 95, 3)) (kx : ∀ (w1 : Wo) (H1 : Heap) (locs1 : List Loc) (ce : Cell) (q9 : Addr), P w1 → Wd X w1 s H1 → va_S (cxA X) H0 H1 locs1 → H1[q9]? = some ce → ce.vm = .none → s.vm.findClass E = some ce.cls → vx_W p l e R s m args below meth c H1 locs1 (cells + 1) (slots + 6) Q (F0 m pc ls rest) q9) : W p l e R s m args below meth c H locs cells slots Q (F0 m pc ls st) := h_callX (C := RX8) (n := 1) F hl hM hW hS (big_ap (fun w h => by
  simp only [List.mem_cons, List.mem_nil_iff, or_false] at h
  rcases h with rfl | rfl | rfl | rfl
  · exact km_RL_95
  · exact ki_yX8_setDelay
  · exact ks_yX8_setDelay
  · exact kn_RX8) (big_in kc_yX8_setDelay)) ⟨rfl, by decide +kernel, by decide +kernel, by decide +kernel⟩ rfl ha hst hn hR hcat hf hd kx
theorem cs_RL_245 (F : Fx p m c cc nL s args RL) (hl : lv_has ls nL lv0) {f9 l9 : Nat} {As st : List Value} {v : Value} {P : Wo → Prop} (hM : CL l X yL_writeRow cL_writeRow 5 (some (.int)) [(0, 10, 13, 28)] (rmx f9 l9) As w (some v) P) (hW : Wd X w s H) (hS : va_S (cxA X) H0 H locs) (hst : st = As.reverse ++ rest) (hn : As.length = 4) (hR : f9 + 1 ≤ R.frames ∧ 8 + (5 + 11) + l9 ≤ R.locals) (hcat : (rest.map fun v => v.category).sum ≤ 8) (hf : cells + 1 ≤ R.cells ∧ slots + 6 ≤ R.slots) (hd : decode cc pc = .ok (.invokestatic 245, 3)) (kk : ∀ (w1 : Wo) (H1 : Heap) (locs1 : List Loc), P w1 → Wd X w1 s H1 → va_S (cxA X) H0 H1 locs1 → W p l e R s m args below meth c H1 locs1 (cells + 1) (slots + 6) Q (F0 m (pc + 3) ls (v :: rest))) : W p l e R s m args below meth c H locs cells slots Q (F0 m pc ls st) := h_callSW (n := 4) F hl hM hW hS (big_ap (fun w h => by
  simp only [List.mem_cons, List.mem_nil_iff, or_false] at h
  rcases h with rfl | rfl | rfl
  · exact km_RL_245
  · exact kt_yL_writeRow
  · exact kn_RL) (bigw_in kc_yL_writeRow)) ⟨by decide +kernel, by decide +kernel, by decide +kernel⟩ hst hn hR hcat hf hd kk
theorem cx_RL_98 (F : Fx p m c cc nL s args RL) (hl : lv_has ls nL lv0) {f9 l9 : Nat} {As st : List Value} {E : String} {P : Wo → Prop} {a : Nat} {fs : List Value} (hM : CX l X yX8_writeRow cX8_writeRow 6 (some (.int)) (rmx f9 l9) (.ref a :: As) w E P) (hW : Wd X w s H) (hS : va_S (cxA X) H0 H locs) (ha : w a = some (.inr (8, fs))) (hst : st = As.reverse ++ .ref a :: rest) (hn : As.length = 2) (hR : f9 + 1 ≤ R.frames ∧ 8 + (6 + 11) + l9 ≤ R.locals) (hcat : (rest.map fun v => v.category).sum ≤ 8) (hf : cells + 1 ≤ R.cells ∧ slots + 6 ≤ R.slots) (hd : decode cc pc = .ok (.invokevirtual 98, 3)) (kx : ∀ (w1 : Wo) (H1 : Heap) (locs1 : List Loc) (ce : Cell) (q9 : Addr), P w1 → Wd X w1 s H1 → va_S (cxA X) H0 H1 locs1 → H1[q9]? = some ce → ce.vm = .none → s.vm.findClass E = some ce.cls → vx_W p l e R s m args below meth c H1 locs1 (cells + 1) (slots + 6) Q (F0 m pc ls rest) q9) : W p l e R s m args below meth c H locs cells slots Q (F0 m pc ls st) := h_callX (C := RX8) (n := 2) F hl hM hW hS (big_ap (fun w h => by
  simp only [List.mem_cons, List.mem_nil_iff, or_false] at h
  rcases h with rfl | rfl | rfl | rfl
  · exact km_RL_98
  · exact ki_yX8_writeRow
  · exact ks_yX8_writeRow
  · exact kn_RX8) (big_in kc_yX8_writeRow)) ⟨rfl, by decide +kernel, by decide +kernel, by decide +kernel⟩ rfl ha hst hn hR hcat hf hd kx
theorem cs_RL_248 (F : Fx p m c cc nL s args RL) (hl : lv_has ls nL lv0) {f9 l9 : Nat} {As st : List Value} {v : Value} {P : Wo → Prop} (hM : CL l X yL_writeCaption cL_writeCaption 4 (some (.int)) [(0, 9, 12, 28)] (rmx f9 l9) As w (some v) P) (hW : Wd X w s H) (hS : va_S (cxA X) H0 H locs) (hst : st = As.reverse ++ rest) (hn : As.length = 3) (hR : f9 + 1 ≤ R.frames ∧ 8 + (4 + 11) + l9 ≤ R.locals) (hcat : (rest.map fun v => v.category).sum ≤ 8) (hf : cells + 1 ≤ R.cells ∧ slots + 6 ≤ R.slots) (hd : decode cc pc = .ok (.invokestatic 248, 3)) (kk : ∀ (w1 : Wo) (H1 : Heap) (locs1 : List Loc), P w1 → Wd X w1 s H1 → va_S (cxA X) H0 H1 locs1 → W p l e R s m args below meth c H1 locs1 (cells + 1) (slots + 6) Q (F0 m (pc + 3) ls (v :: rest))) : W p l e R s m args below meth c H locs cells slots Q (F0 m pc ls st) := h_callSW (n := 3) F hl hM hW hS (big_ap (fun w h => by
  simp only [List.mem_cons, List.mem_nil_iff, or_false] at h
  rcases h with rfl | rfl | rfl
  · exact km_RL_248
  · exact kt_yL_writeCaption
  · exact kn_RL) (bigw_in kc_yL_writeCaption)) ⟨by decide +kernel, by decide +kernel, by decide +kernel⟩ hst hn hR hcat hf hd kk
theorem cx_RL_101 (F : Fx p m c cc nL s args RL) (hl : lv_has ls nL lv0) {f9 l9 : Nat} {As st : List Value} {E : String} {P : Wo → Prop} {a : Nat} {fs : List Value} (hM : CX l X yX8_writeCaption cX8_writeCaption 4 (some (.int)) (rmx f9 l9) (.ref a :: As) w E P) (hW : Wd X w s H) (hS : va_S (cxA X) H0 H locs) (ha : w a = some (.inr (8, fs))) (hst : st = As.reverse ++ .ref a :: rest) (hn : As.length = 1) (hR : f9 + 1 ≤ R.frames ∧ 8 + (4 + 11) + l9 ≤ R.locals) (hcat : (rest.map fun v => v.category).sum ≤ 8) (hf : cells + 1 ≤ R.cells ∧ slots + 6 ≤ R.slots) (hd : decode cc pc = .ok (.invokevirtual 101, 3)) (kx : ∀ (w1 : Wo) (H1 : Heap) (locs1 : List Loc) (ce : Cell) (q9 : Addr), P w1 → Wd X w1 s H1 → va_S (cxA X) H0 H1 locs1 → H1[q9]? = some ce → ce.vm = .none → s.vm.findClass E = some ce.cls → vx_W p l e R s m args below meth c H1 locs1 (cells + 1) (slots + 6) Q (F0 m pc ls rest) q9) : W p l e R s m args below meth c H locs cells slots Q (F0 m pc ls st) := h_callX (C := RX8) (n := 1) F hl hM hW hS (big_ap (fun w h => by
  simp only [List.mem_cons, List.mem_nil_iff, or_false] at h
  rcases h with rfl | rfl | rfl | rfl
  · exact km_RL_101
  · exact ki_yX8_writeCaption
  · exact ks_yX8_writeCaption
  · exact kn_RX8) (big_in kc_yX8_writeCaption)) ⟨rfl, by decide +kernel, by decide +kernel, by decide +kernel⟩ rfl ha hst hn hR hcat hf hd kx
theorem cs_RL_259 (F : Fx p m c cc nL s args RL) (hl : lv_has ls nL lv0) {f9 l9 : Nat} {As st : List Value} {v : Value} {P : Wo → Prop} (hM : CL l X yL_save cL_save 3 (some (.int)) [(0, 5, 8, 19)] (rmx f9 l9) As w (some v) P) (hW : Wd X w s H) (hS : va_S (cxA X) H0 H locs) (hst : st = As.reverse ++ rest) (hn : As.length = 2) (hR : f9 + 1 ≤ R.frames ∧ 8 + (3 + 11) + l9 ≤ R.locals) (hcat : (rest.map fun v => v.category).sum ≤ 8) (hf : cells + 1 ≤ R.cells ∧ slots + 6 ≤ R.slots) (hd : decode cc pc = .ok (.invokestatic 259, 3)) (kk : ∀ (w1 : Wo) (H1 : Heap) (locs1 : List Loc), P w1 → Wd X w1 s H1 → va_S (cxA X) H0 H1 locs1 → W p l e R s m args below meth c H1 locs1 (cells + 1) (slots + 6) Q (F0 m (pc + 3) ls (v :: rest))) : W p l e R s m args below meth c H locs cells slots Q (F0 m pc ls st) := h_callSW (n := 2) F hl hM hW hS (big_ap (fun w h => by
  simp only [List.mem_cons, List.mem_nil_iff, or_false] at h
  rcases h with rfl | rfl | rfl
  · exact km_RL_259
  · exact kt_yL_save
  · exact kn_RL) (bigw_in kc_yL_save)) ⟨by decide +kernel, by decide +kernel, by decide +kernel⟩ hst hn hR hcat hf hd kk
theorem cx_RL_104 (F : Fx p m c cc nL s args RL) (hl : lv_has ls nL lv0) {f9 l9 : Nat} {As st : List Value} {E : String} {P : Wo → Prop} {a : Nat} {fs : List Value} (hM : CX l X yX8_save cX8_save 2 none (rmx f9 l9) (.ref a :: As) w E P) (hW : Wd X w s H) (hS : va_S (cxA X) H0 H locs) (ha : w a = some (.inr (8, fs))) (hst : st = As.reverse ++ .ref a :: rest) (hn : As.length = 1) (hR : f9 + 1 ≤ R.frames ∧ 8 + (2 + 11) + l9 ≤ R.locals) (hcat : (rest.map fun v => v.category).sum ≤ 8) (hf : cells + 1 ≤ R.cells ∧ slots + 6 ≤ R.slots) (hd : decode cc pc = .ok (.invokevirtual 104, 3)) (kx : ∀ (w1 : Wo) (H1 : Heap) (locs1 : List Loc) (ce : Cell) (q9 : Addr), P w1 → Wd X w1 s H1 → va_S (cxA X) H0 H1 locs1 → H1[q9]? = some ce → ce.vm = .none → s.vm.findClass E = some ce.cls → vx_W p l e R s m args below meth c H1 locs1 (cells + 1) (slots + 6) Q (F0 m pc ls rest) q9) : W p l e R s m args below meth c H locs cells slots Q (F0 m pc ls st) := h_callX (C := RX8) (n := 1) F hl hM hW hS (big_ap (fun w h => by
  simp only [List.mem_cons, List.mem_nil_iff, or_false] at h
  rcases h with rfl | rfl | rfl | rfl
  · exact km_RL_104
  · exact ki_yX8_save
  · exact ks_yX8_save
  · exact kn_RX8) (big_in kc_yX8_save)) ⟨rfl, by decide +kernel, by decide +kernel, by decide +kernel⟩ rfl ha hst hn hR hcat hf hd kx
theorem cx_RX8_426 (F : Fx p m c cc nL s args RX8) (hl : lv_has ls nL lv0) {f9 l9 : Nat} {As st : List Value} {E : String} {P : Wo → Prop} {a : Nat} {fs : List Value} (hM : CX l X yX8_checkSlot cX8_checkSlot 2 none (rmx f9 l9) (.ref a :: As) w E P) (hW : Wd X w s H) (hS : va_S (cxA X) H0 H locs) (ha : w a = some (.inr (8, fs))) (hst : st = As.reverse ++ .ref a :: rest) (hn : As.length = 1) (hR : f9 + 1 ≤ R.frames ∧ 8 + (2 + 11) + l9 ≤ R.locals) (hcat : (rest.map fun v => v.category).sum ≤ 8) (hf : cells + 1 ≤ R.cells ∧ slots + 6 ≤ R.slots) (hd : decode cc pc = .ok (.invokevirtual 426, 3)) (kx : ∀ (w1 : Wo) (H1 : Heap) (locs1 : List Loc) (ce : Cell) (q9 : Addr), P w1 → Wd X w1 s H1 → va_S (cxA X) H0 H1 locs1 → H1[q9]? = some ce → ce.vm = .none → s.vm.findClass E = some ce.cls → vx_W p l e R s m args below meth c H1 locs1 (cells + 1) (slots + 6) Q (F0 m pc ls rest) q9) : W p l e R s m args below meth c H locs cells slots Q (F0 m pc ls st) := h_callX (C := RX8) (n := 1) F hl hM hW hS (big_ap (fun w h => by
  simp only [List.mem_cons, List.mem_nil_iff, or_false] at h
  rcases h with rfl | rfl | rfl | rfl
  · exact km_RX8_426
  · exact ki_yX8_checkSlot
  · exact ks_yX8_checkSlot
  · exact kn_RX8) (big_in kc_yX8_checkSlot)) ⟨rfl, by decide +kernel, by decide +kernel, by decide +kernel⟩ rfl ha hst hn hR hcat hf hd kx
theorem cs_RL_263 (F : Fx p m c cc nL s args RL) (hl : lv_has ls nL lv0) {f9 l9 : Nat} {As st : List Value} {v : Value} {P : Wo → Prop} (hM : CL l X yL_restore cL_restore 3 (some (.int)) [(0, 5, 8, 19), (0, 5, 11, 13)] (rmx f9 l9) As w (some v) P) (hW : Wd X w s H) (hS : va_S (cxA X) H0 H locs) (hst : st = As.reverse ++ rest) (hn : As.length = 2) (hR : f9 + 1 ≤ R.frames ∧ 8 + (3 + 11) + l9 ≤ R.locals) (hcat : (rest.map fun v => v.category).sum ≤ 8) (hf : cells + 1 ≤ R.cells ∧ slots + 6 ≤ R.slots) (hd : decode cc pc = .ok (.invokestatic 263, 3)) (kk : ∀ (w1 : Wo) (H1 : Heap) (locs1 : List Loc), P w1 → Wd X w1 s H1 → va_S (cxA X) H0 H1 locs1 → W p l e R s m args below meth c H1 locs1 (cells + 1) (slots + 6) Q (F0 m (pc + 3) ls (v :: rest))) : W p l e R s m args below meth c H locs cells slots Q (F0 m pc ls st) := h_callSW (n := 2) F hl hM hW hS (big_ap (fun w h => by
  simp only [List.mem_cons, List.mem_nil_iff, or_false] at h
  rcases h with rfl | rfl | rfl
  · exact km_RL_263
  · exact kt_yL_restore
  · exact kn_RL) (bigw_in kc_yL_restore)) ⟨by decide +kernel, by decide +kernel, by decide +kernel⟩ hst hn hR hcat hf hd kk
theorem cx_RL_108 (F : Fx p m c cc nL s args RL) (hl : lv_has ls nL lv0) {f9 l9 : Nat} {As st : List Value} {E : String} {P : Wo → Prop} {a : Nat} {fs : List Value} (hM : CX l X yX8_restore cX8_restore 2 none (rmx f9 l9) (.ref a :: As) w E P) (hW : Wd X w s H) (hS : va_S (cxA X) H0 H locs) (ha : w a = some (.inr (8, fs))) (hst : st = As.reverse ++ .ref a :: rest) (hn : As.length = 1) (hR : f9 + 1 ≤ R.frames ∧ 8 + (2 + 11) + l9 ≤ R.locals) (hcat : (rest.map fun v => v.category).sum ≤ 8) (hf : cells + 1 ≤ R.cells ∧ slots + 6 ≤ R.slots) (hd : decode cc pc = .ok (.invokevirtual 108, 3)) (kx : ∀ (w1 : Wo) (H1 : Heap) (locs1 : List Loc) (ce : Cell) (q9 : Addr), P w1 → Wd X w1 s H1 → va_S (cxA X) H0 H1 locs1 → H1[q9]? = some ce → ce.vm = .none → s.vm.findClass E = some ce.cls → vx_W p l e R s m args below meth c H1 locs1 (cells + 1) (slots + 6) Q (F0 m pc ls rest) q9) : W p l e R s m args below meth c H locs cells slots Q (F0 m pc ls st) := h_callX (C := RX8) (n := 1) F hl hM hW hS (big_ap (fun w h => by
  simp only [List.mem_cons, List.mem_nil_iff, or_false] at h
  rcases h with rfl | rfl | rfl | rfl
  · exact km_RL_108
  · exact ki_yX8_restore
  · exact ks_yX8_restore
  · exact kn_RX8) (big_in kc_yX8_restore)) ⟨rfl, by decide +kernel, by decide +kernel, by decide +kernel⟩ rfl ha hst hn hR hcat hf hd kx
end RW3
