/-! ===== the calls of the two long methods ===== -/
section RA
variable {p : Program} {l : Launch} {e : Env} {R : Room} {s : State} {m : MethodId} {args : Array Value} {below : List Frame} {meth : Method} {c : Code} {H H0 : Heap} {locs : List Loc} {cells slots : Nat} {Q : State → Prop}
  {cc : ByteArray} {nL pc : Nat} {own : String} {ls : Array Slot} {rest : List Value} {X : Cx} {w : Wo} {lv0 : List (Nat × Value)}
theorem cl_RL_163 (F : Fx p m c cc nL s args RL) (hl : lv_has ls nL lv0) {f9 mc9 ms9 l9 : Nat} {As st : List Value} {v : Value} {P : Wo → Prop} (hM : CM l X yL_still cL_still 15 (some (.boolean)) (rmG f9 mc9 ms9 l9) As w (some v) P) (hW : Wd X w s H) (hS : va_S (cxA X) H0 H locs) (hst : st = As.reverse ++ rest) (hn : As.length = 2) (hR : f9 + 1 ≤ R.frames ∧ 8 + (15 + 11) + l9 ≤ R.locals) (hcat : (rest.map fun v => v.category).sum ≤ 8) (hf : cells + mc9 ≤ R.cells ∧ slots + ms9 ≤ R.slots) (hd : decode cc pc = .ok (.invokestatic 163, 3)) (kk : ∀ (w1 : Wo) (H1 : Heap) (locs1 : List Loc), P w1 → Wd X w1 s H1 → va_S (cxA X) H0 H1 locs1 → W p l e R s m args below meth c H1 locs1 (cells + mc9) (slots + ms9) Q (F0 m (pc + 3) ls (v :: rest))) : W p l e R s m args below meth c H locs cells slots Q (F0 m pc ls st) := h_callS (n := 2) F hl hM hW hS (big_ap (fun w h => by
  simp only [List.mem_cons, List.mem_nil_iff, or_false] at h
  rcases h with rfl | rfl | rfl
  · exact km_RL_163
  · exact kt_yL_still
  · exact kn_RL) (big_in kc_yL_still)) ⟨by decide +kernel, by decide +kernel, by decide +kernel⟩ hst hn hR hcat hf hd kk
theorem cl_RL_167 (F : Fx p m c cc nL s args RL) (hl : lv_has ls nL lv0) {f9 mc9 ms9 l9 : Nat} {As st : List Value} {v : Value} {P : Wo → Prop} (hM : CM l X yL_acts cL_acts 14 (some (.boolean)) (rmG f9 mc9 ms9 l9) As w (some v) P) (hW : Wd X w s H) (hS : va_S (cxA X) H0 H locs) (hst : st = As.reverse ++ rest) (hn : As.length = 4) (hR : f9 + 1 ≤ R.frames ∧ 8 + (14 + 11) + l9 ≤ R.locals) (hcat : (rest.map fun v => v.category).sum ≤ 8) (hf : cells + mc9 ≤ R.cells ∧ slots + ms9 ≤ R.slots) (hd : decode cc pc = .ok (.invokestatic 167, 3)) (kk : ∀ (w1 : Wo) (H1 : Heap) (locs1 : List Loc), P w1 → Wd X w1 s H1 → va_S (cxA X) H0 H1 locs1 → W p l e R s m args below meth c H1 locs1 (cells + mc9) (slots + ms9) Q (F0 m (pc + 3) ls (v :: rest))) : W p l e R s m args below meth c H locs cells slots Q (F0 m pc ls st) := h_callS (n := 4) F hl hM hW hS (big_ap (fun w h => by
  simp only [List.mem_cons, List.mem_nil_iff, or_false] at h
  rcases h with rfl | rfl | rfl
  · exact km_RL_167
  · exact kt_yL_acts
  · exact kn_RL) (big_in kc_yL_acts)) ⟨by decide +kernel, by decide +kernel, by decide +kernel⟩ hst hn hR hcat hf hd kk
end RA
