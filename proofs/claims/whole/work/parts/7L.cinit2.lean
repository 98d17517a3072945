/-! StruckColours' constructor: the whole of it -/
def cTau : Tau := .inl (8, cFin 12) :: cL14
theorem cTau_r : RulT cTau 167 := ⟨⟨by decide, _, rfl⟩, ⟨rfl, rfl, rfl⟩, ⟨⟨by decide, rfl⟩, ⟨by decide, rfl⟩, ⟨by decide, rfl⟩⟩, rfl, rfl, rfl⟩
theorem cM_12 {σ : Mem} : cM14 σ 0 12 = 167 := by
  unfold cM14 cM13
  rw [up_ap, if_neg (by omega)]
  unfold zs
  rw [if_neg (by omega), up_ap, if_pos ⟨rfl, rfl⟩]
theorem n_C {l : Launch} {g : GE} {d : Nat} {σ : Mem} {Q : Post} (hB : gB g = true) (h : ∀ σ', RsF (up (cM14 σ) 0 14 3) σ' 167 → RuleIs cTau σ' 167 (fun E => evE E plE) → Q none cTau σ') : WPc l g 84 (d + 6) 174 1955 [vR 0] [.inl (8, fun _ => -1)] σ Q := by
  refine wp_in (by decide +kernel) (show 1 ≤ mL 84 by decide) ?_
  refine r_aload_n (i := 0) rfl (by decide +kernel) ?_
  refine r_objI (idx := 1) (by omega) (inA (by decide +kernel)) (inA (by decide +kernel)) (inA (by decide +kernel)) (by decide) (by decide +kernel) ?_
  have e0 : (fun _ => -1 : Nat → Int) = cFin 0 := rfl
  rw [e0]
  refine s_C1 (d := d + 3) hB (s_C2 (d := d + 3) hB (s_C3 (d := d + 3) hB (s_C4 (d := d + 3) hB (s_C5 (d := d + 3) hB (s_C6 (d := d + 3) hB (s_C7 (d := d + 3) hB (s_C8 (d := d + 3) hB (s_C9 (d := d + 3) hB (s_C10 (d := d + 3) hB (s_C11 (d := d + 3) hB (s_C12 (d := d + 3) hB (s_C13 (d := d + 3) hB (s_C14 (d := d + 3) hB ?_)))))))))))))
  show Wp l g 84 (d + 3 + 3) 0 0 158 [(0, vR 0)] [] cTau (cM14 σ) Q
  refine r_aload_n (i := 0) rfl (by decide +kernel) ?_
  refine r_iconst (n := 3) (by unfold b32; omega) (by decide +kernel) ?_
  refine r_put (ci := 8) (k := 14) (kd := 0) ⟨Int.le_refl _, _, rfl⟩ (by simp [putOk]) (by decide +kernel) fl_8_83 (by decide +kernel) ?_
  refine r_aload_n (i := 0) rfl (by decide +kernel) ?_
  refine r_get (ci := 8) (k := 12) (kd := 2) ⟨Int.le_refl _, _, rfl⟩ (by decide +kernel) fl_8_76 (by decide +kernel) ?_
  have e1 : gval cTau (up (cM14 σ) 0 ((14 : Nat) : Int) (numT (vI 3))) 0 12 2 = vR 167 := by
    unfold gval
    rw [if_neg (by omega), if_pos rfl]
    rfl
  rw [e1]
  refine r_gets (idx := 87) (i := 2) (by omega) (by omega) (by decide +kernel) (by decide +kernel) ?_
  refine r_gets (idx := 87) (i := 2) (by omega) (by omega) (by decide +kernel) (by decide +kernel) ?_
  refine r_slen (i := 2) (by omega) (by omega) (by decide +kernel) ?_
  refine r_callV (kind := 1) (ci := 4) (as := [vR (-2), vI 7]) (q := (RX4, TX4, 9)) (mc := 0) (ms := 0) (Or.inr rfl) rfl rfl cTau_r.1 ca_8_91 rfl (by decide) (by omega) (by omega) (by decide +kernel) ?_
  refine u_reads ?_
  show upReads [vR 167, vR (-2), vI 7] cTau _ _
  unfold upReads
  rw [aRRI_c]
  refine ⟨cTau_r, ⟨by omega, by omega, by omega⟩, 7, plX, rfl, ⟨Or.inl ⟨rfl, rfl, rfl⟩, fun p hp => ?_⟩, fun σ' hp => ?_⟩
  · rcases (show p = 0 ∨ p = 1 ∨ p = 2 ∨ p = 3 ∨ p = 4 ∨ p = 5 ∨ p = 6 by omega) with rfl | rfl | rfl | rfl | rfl | rfl | rfl <;> decide
  · rw [show min 7 40 = 7 from rfl, plE_r] at hp
    refine r_pop rfl (by decide +kernel) ?_
    exact r_retC rfl (by decide +kernel) rfl (h σ' hp.1 (hp.2 (by omega)))
