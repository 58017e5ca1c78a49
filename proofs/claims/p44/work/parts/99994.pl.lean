/-! ===== one list of acts for both plays ===== -/
theorem sgV_0 {f v sc : Int → Int} {wd : Int} (hv : vP f v) (h : sgV f v sc wd 18 = 0) : sgV f v sc wd = (sgF f v sc wd).1 ∧ (sgF f v sc wd).1 29 = 0 ∧ (sgF f v sc wd).1 18 = 0 ∧ sI f (sgF f v sc wd).1 := by
  have hI : sI f (sgF f v sc wd).1 := (sgG_I (wd := wd) 402 (sc0 v) sc (sc0_I hv)).1
  have e : sgV f v sc wd = (if 0 < (sgF f v sc wd).1 29 then faV 1 (sgF f v sc wd).1 else (sgF f v sc wd).1) := rfl
  by_cases g : 0 < (sgF f v sc wd).1 29
  · rw [if_pos g] at e
    rw [e] at h
    exact (fa_0 (by decide) h).elim
  · rw [if_neg g] at e
    rw [e] at h
    have h29 := hI.2.1
    exact ⟨e, by omega, h, hI⟩
theorem pl_ex {f v sc s2 : Int → Int} {wd ln : Int} (hv : vP f v) (hw : 8 ≤ wd) (h : sgV f v sc wd 18 = 0) (hs2 : s2 = (sgF f v sc wd).2) (hln : ln = sgV f v sc wd 27) : (0 ≤ ln ∧ ln ≤ 60) ∧ ∃ L0 : List Int, (∀ be la : Int → Int, ∃ R0, Rem s2 ln wd R0 0 0 be la L0) ∧ ∀ (kd ar : Int → Int) (n : Int) (L : List Int), Sg kd ar s2 wd 0 ln n L → L = L0 ∧ ∀ tl, RC kd ar s2 ln wd L (-1) tl := by
  obtain ⟨e, h29, h18, hI⟩ := sgV_0 hv h
  have hl60 : 0 ≤ ln ∧ ln ≤ 60 := by
    have h27 := hI.2.2.2
    have h28 := hI.2.2.1
    rw [hln, e]
    omega
  refine ⟨hl60, ?_⟩
  obtain ⟨⟨ac, kd, ar, op, ah, hOp⟩, hd, hp⟩ : opX (sgF f v sc wd).1 (sgF f v sc wd).2 wd := opX_G hw 402 (sc0 v) sc (sc0_I hv) opX_0 h18
  rw [← hs2] at hOp hd hp
  have e27 : (sgF f v sc wd).1 27 = ln := by rw [hln, e]
  rw [e27] at hOp hd hp
  rw [h29] at hOp hd
  obtain ⟨L0, hSg⟩ : ∃ L, Sg kd ar s2 wd 0 ln ac L := hOp
  refine ⟨L0, fun be la => ?_, fun kd' ar' n L hS => ?_⟩
  · have hr := hSg.rem (be := be) (la := la) hl60.2 hp (Int.le_refl 0) (Int.le_refl ln) (dp := 0) (L3 := []) (by unfold dep; have e0 : ∀ g : Int → Bool, cnt g 0 0 = 0 := fun g => sm_0 _ _; rw [e0, e0]; rfl) (by omega) (fun be' la' _ => ⟨0, Int.le_refl ln, rfl⟩)
    rw [List.append_nil] at hr
    exact hr
  · have hu := hS.uniq (.inl rfl) hSg (.inl rfl)
    exact ⟨hu.2, fun tl => hS.RC hl60 tl⟩
