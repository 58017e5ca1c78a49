section RW2
variable {p : Program} {l : Launch} {e : Env} {R : Room} {s : State} {m : MethodId} {args : Array Value} {below : List Frame} {meth : Method} {c : Code} {H H0 : Heap} {locs : List Loc} {cells slots : Nat} {Q : State → Prop} {cc : ByteArray} {nL pc : Nat} {ls : Array Slot} {rest : List Value} {X : Cx} {w : Wo} {lv0 : List (Nat × Value)}
theorem cl_RX5_59 (F : Fx p m c cc nL s args RX5) (hl : lv_has ls nL lv0) {f9 l9 : Nat} {As st : List Value} {P : Wo → Prop} (hM : CM l X yJ7_fill_53178 cJ7_fill_53178 4 none (rmk f9 l9) As w none P) (hW : Wd X w s H) (hS : va_S (cxA X) H0 H locs) (hst : st = As.reverse ++ rest) (hn : As.length = 2) (hR : f9 + 1 ≤ R.frames ∧ 8 + (4 + 11) + l9 ≤ R.locals) (hcat : (rest.map fun v => v.category).sum ≤ 8) (hf : cells ≤ R.cells ∧ slots ≤ R.slots) (hd : decode cc pc = .ok (.invokestatic 59, 3)) (kk : ∀ (w1 : Wo) (H1 : Heap) (locs1 : List Loc), P w1 → Wd X w1 s H1 → va_S (cxA X) H0 H1 locs1 → W p l e R s m args below meth c H1 locs1 cells slots Q (F0 m (pc + 3) ls rest)) : W p l e R s m args below meth c H locs cells slots Q (F0 m pc ls st) := h_callS (n := 2) F hl hM hW hS (big_ap (fun w h => by
  simp only [List.mem_cons, List.mem_nil_iff, or_false] at h
  rcases h with rfl | rfl | rfl
  · exact km_RX5_59
  · exact kt_yJ7_fill_53178
  · exact kn_RJ7) (big_in kc_yJ7_fill_53178)) ⟨by decide +kernel, by decide +kernel, by decide +kernel⟩ hst hn hR hcat hf hd kk
theorem cl_RX3_33 (F : Fx p m c cc nL s args RX3) (hl : lv_has ls nL lv0) {f9 l9 : Nat} {As st : List Value} {P : Wo → Prop} (hM : CM l X yJ7_fill_d0a16 cJ7_fill_d0a16 5 none (rmk f9 l9) As w none P) (hW : Wd X w s H) (hS : va_S (cxA X) H0 H locs) (hst : st = As.reverse ++ rest) (hn : As.length = 2) (hR : f9 + 1 ≤ R.frames ∧ 8 + (5 + 11) + l9 ≤ R.locals) (hcat : (rest.map fun v => v.category).sum ≤ 8) (hf : cells ≤ R.cells ∧ slots ≤ R.slots) (hd : decode cc pc = .ok (.invokestatic 33, 3)) (kk : ∀ (w1 : Wo) (H1 : Heap) (locs1 : List Loc), P w1 → Wd X w1 s H1 → va_S (cxA X) H0 H1 locs1 → W p l e R s m args below meth c H1 locs1 cells slots Q (F0 m (pc + 3) ls rest)) : W p l e R s m args below meth c H locs cells slots Q (F0 m pc ls st) := h_callS (n := 2) F hl hM hW hS (big_ap (fun w h => by
  simp only [List.mem_cons, List.mem_nil_iff, or_false] at h
  rcases h with rfl | rfl | rfl
  · exact km_RX3_33
  · exact kt_yJ7_fill_d0a16
  · exact kn_RJ7) (big_in kc_yJ7_fill_d0a16)) ⟨by decide +kernel, by decide +kernel, by decide +kernel⟩ hst hn hR hcat hf hd kk
theorem cl_RX8_299 (F : Fx p m c cc nL s args RX8) (hl : lv_has ls nL lv0) {f9 l9 : Nat} {As st : List Value} {P : Wo → Prop} (hM : CM l X yJ7_fill_53178 cJ7_fill_53178 4 none (rmk f9 l9) As w none P) (hW : Wd X w s H) (hS : va_S (cxA X) H0 H locs) (hst : st = As.reverse ++ rest) (hn : As.length = 2) (hR : f9 + 1 ≤ R.frames ∧ 8 + (4 + 11) + l9 ≤ R.locals) (hcat : (rest.map fun v => v.category).sum ≤ 8) (hf : cells ≤ R.cells ∧ slots ≤ R.slots) (hd : decode cc pc = .ok (.invokestatic 299, 3)) (kk : ∀ (w1 : Wo) (H1 : Heap) (locs1 : List Loc), P w1 → Wd X w1 s H1 → va_S (cxA X) H0 H1 locs1 → W p l e R s m args below meth c H1 locs1 cells slots Q (F0 m (pc + 3) ls rest)) : W p l e R s m args below meth c H locs cells slots Q (F0 m pc ls st) := h_callS (n := 2) F hl hM hW hS (big_ap (fun w h => by
  simp only [List.mem_cons, List.mem_nil_iff, or_false] at h
  rcases h with rfl | rfl | rfl
  · exact km_RX8_299
  · exact kt_yJ7_fill_53178
  · exact kn_RJ7) (big_in kc_yJ7_fill_53178)) ⟨by decide +kernel, by decide +kernel, by decide +kernel⟩ hst hn hR hcat hf hd kk
end RW2
