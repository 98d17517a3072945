/-! the reference: things -/
theorem nu_q {t : Tau} {x : Nat → Int} {N : Nat} {E : Int → Int} : ∀ (r q : Nat) (v : Int) (σ : Mem), PaC t σ x N E → PaA σ N q → σ 175 13 = -1 → (0 ≤ v ∧ (r = 2 → v ≤ 9) ∧ (r = 1 → v ≤ 99) ∧ (r = 0 → v ≤ 999) ∧ r ≤ 2) → (nuM r σ v).1 = (nq x N r q v).1 ∧ PaF σ (nuM r σ v).2 ∧ PaA (nuM r σ v).2 N (nq x N r q v).2 ∧ (nuM r σ v).2 175 13 = -1 ∧ (0 ≤ (nq x N r q v).1 ∧ (nq x N r q v).1 < 1000)
  | 0, q, v, σ, hC, hA, hw, hv => ⟨rfl, PaF.rf, hA, hw, by show 0 ≤ v ∧ v < 1000; omega⟩
  | r + 1, q, v, σ, hC, hA, hw, hv => by
    have hh := hC.hh hA
    have hA2 := hA
    obtain ⟨a1, a2⟩ := hA2
    unfold nuM nq
    by_cases c : 48 ≤ hr x N q ∧ hr x N q ≤ 57
    · rw [if_pos ⟨hw, by rw [hh]; exact c⟩, if_pos c]
      obtain ⟨q', rfl, -⟩ := hr_q (x := x) (N := N) (q := q) rfl (by omega)
      have e1 : oneM σ 48 10 = up σ 175 12 (σ 175 12 + 1) := by unfold oneM; rw [if_pos hw, if_pos (by rw [hh]; omega)]
      have e2 : oneA σ 48 10 = hr x N (q' + 1) - 48 := by unfold oneA; rw [if_pos ⟨hw, by rw [hh]; omega⟩, hh]
      rw [e1, e2]
      have f : PaF σ (up σ 175 12 (σ 175 12 + 1)) := PaF.at
      have w1 : w32 (10 * v) = 10 * v := w32_id (by omega) (by omega)
      have w2 : w32 (10 * v + (hr x N (q' + 1) - 48)) = 10 * v + (hr x N (q' + 1) - 48) := w32_id (by omega) (by omega)
      rw [w1, w2]
      obtain ⟨i1, i2, i3, i4, i5⟩ := nu_q (t := t) (E := E) r q' (10 * v + (hr x N (q' + 1) - 48)) _ (f.c hC) ⟨by rw [up_ap, if_pos ⟨rfl, rfl⟩, a1]; omega, by omega⟩ (by simp [up_ap, hw]) ⟨by omega, by omega, by omega, by omega, by omega⟩
      simp only [Nat.add_sub_cancel]
      exact ⟨i1, f.tr i2, i3, i4, i5⟩
    · rw [if_neg (fun z => c (by rw [← hh]; exact z.2)), if_neg c]
      exact ⟨rfl, PaF.rf, hA, hw, by show 0 ≤ v ∧ v < 1000; omega⟩
abbrev rgT1 (dp q : Nat) : Reg := (194, leQ (mpTh dp) q) :: rgPb
theorem rgT1_ok {l : Launch} {g : GE} {d dp q : Nat} (hT : ∀ as t σ Q, leQ (mpTh dp) q as t σ Q → WPc l g 194 (d + 4) 0 0 as t σ Q) : ∀ e as t σ Q, rE l g (d + 4) (rgT1 dp q) e as t σ Q → WPc l g e (d + 4) 0 0 as t σ Q := rE_cons hT (rgPb_ok (d := d + 2))
abbrev rgT2 (dp q : Nat) : Reg := (190, leQ (mpHe (dp + 1)) q) :: (185, mpNeed) :: rgPb
theorem rgT2_ok {l : Launch} {g : GE} {d dp q : Nat} (hH : ∀ as t σ Q, leQ (mpHe (dp + 1)) q as t σ Q → WPc l g 190 (d + 4) 0 0 as t σ Q) : ∀ e as t σ Q, rE l g (d + 4) (rgT2 dp q) e as t σ Q → WPc l g e (d + 4) 0 0 as t σ Q := rE_cons hH (rE_cons (fun _ _ _ _ h => m_need h) (rgPb_ok (d := d + 2)))
abbrev rgT3 : Reg := (187, mpNum) :: (193, mpLet) :: rgPb
theorem rgT3_ok {l : Launch} {g : GE} {d : Nat} : ∀ e as t σ Q, rE l g (d + 4) rgT3 e as t σ Q → WPc l g e (d + 4) 0 0 as t σ Q := rE_cons (fun _ _ _ _ h => m_number h) (rE_cons (fun _ _ _ _ h => m_letterOf h) (rgPb_ok (d := d + 2)))
theorem leO_b {c : Int} : (ltB c = 1 → leO c = ltI c ∧ 0 ≤ leO c ∧ leO c < 6) ∧ (ltB c ≠ 1 → leO c = -1) := by
  unfold ltB leO ltI
  grind
set_option maxHeartbeats 1000000 in
theorem m_thing {l : Launch} {g : GE} {d dp q : Nat} (hdp : dp ≤ 4) (hT : 1 ≤ q → ∀ as t σ Q, leQ (mpTh dp) (q - 1) as t σ Q → WPc l g 194 (d + 4) 0 0 as t σ Q) (hH : 1 ≤ q → dp < 4 → ∀ as t σ Q, leQ (mpHe (dp + 1)) (q - 1) as t σ Q → WPc l g 190 (d + 4) 0 0 as t σ Q) {as : List TV} {t : Tau} {σ : Mem} {Q : Post} (h0 : mpTh dp q as t σ Q) : WPc l g 194 (d + 5) 0 0 as t σ Q := by
  obtain ⟨a, dp', rfl, rfl, rfl, x, N', E, hC, hA, hw, h⟩ := aRI_e h0
  clear h0
  have oM := hC.1.o
  have hM := hC.1
  have hP := hC.ps hA
  have hh := hC.hh hA
  have hA2 := hA
  obtain ⟨a1, a2⟩ := hA2
  have hB := hC.2.2.2.1
  have hN80 : (N' : Int) ≤ 80 := by have := hC.2.2.2.2.1; have := hC.2.2.1; omega
  rw [a1] at hh
  by_cases c1 : hr x N' q = 45
  · obtain ⟨q', hq, -⟩ := hr_q c1 (by omega)
    have q1 : 1 ≤ q := by omega
    have w1 : (N' : Int) - q + 1 = (N' : Int) - (q - 1 : Nat) := by omega
    generalize hσ2 : up σ 175 12 ((N' : Int) - (q - 1 : Nat)) = σ2
    have f2 : PaF σ σ2 := by rw [← hσ2]; exact PaF.at
    have A2 : PaA σ2 N' (q - 1) := ⟨by rw [← hσ2]; simp [up_ap], by omega⟩
    have w2 : σ2 175 13 = -1 := by rw [← hσ2]; simp [up_ap, hw]
    rw [c1] at hh
    have hT1 := hT q1
    refine wg (by decide) (rgT1_ok hT1) ts_194 py_194 ml_194 30 (by simp [catT]) (fun N hN => ?_)
    simp [bs_194, sg_194_0_1, hN _, x_iconst, x_ldc2_w, x_aconst_null, x_iload, x_lload, x_aload, x_istore, x_lstore, x_astore, x_iinc, x_iadd, x_isub, x_imul, x_idiv, x_irem, x_iand, x_ior, x_ixor, x_ishl, x_ishr, x_iushr, x_ineg, x_ladd, x_lsub, x_lmul, x_ldiv, x_lrem, x_lcmp, x_i2l, x_i2b, x_i2s, x_i2c, x_dup, x_pop, x_dup_x1, x_dup2, x_getfield, x_putfield, x_iaload, x_baload, x_saload, x_caload, x_daload, x_faload, x_laload, x_aaload, x_iastore, x_bastore, x_sastore, x_castore, x_lastore, x_aastore, x_arraylength, x_getstatic, x_goto, x_goto_w, x_ifCond, x_if_icmp, x_ifnull, x_ifnonnull, x_lookupswitch, x_invokevirtual, x_invokestatic, x_invokedynamic, x_ireturn, x_freturn, x_dreturn, x_lreturn, x_areturn, x_return_, pI_c, pL_c, pR_c, pV_i, pV_r, gI_c, gL_c, gR_c, pN_z, pN_s, lget_c, lins_z, lins_c, ldel_z, ldel_c, ldel2_z, ldel2_c, lset_i, lset_l, lset_r, lkeep_z, lkeep_c, largs_z, largs_c, cat_i, cat_l, cat_r, lkp_c, cnd_eq, cnd_ne, cnd_lt, cnd_ge, cnd_gt, cnd_le, swL_z, swL_c, rE_e, rOr_s, rOr_n, rlk_z, rlk_c, aR_c, aI_c, aII_c, aIII_c, aRI_c, aRII_c, aRIII_c, vJn, vJs, vlc, aRR_c, aRRI_c, aRRII_c, aRRIII_c, aRIIII_c, aRL_c, aRLL_c, aLL_c, aRRRI_c, aIL_c, aIIII_c, aRRIIII_c, aIRII_c, aIR_c, aLI_c, aRIR_c, aRIIR_c, oM, hM, mpPass, hP, hw, hh, a1, w1, hσ2]
    refine ⟨q - 1, Nat.le_refl _, rfl, rfl, x, N', E, f2.c hC, A2, w2, fun σ3 R u f3 hR hP3 => ?_⟩
    have hTk := th_neg c1 hR
    have K : Q (some (vI (w32 (-u)))) t σ3 := by
      cases R with
      | inl w => exact h σ3 (.inl w) _ (f2.tr f3) hTk hP3
      | inr p =>
        obtain ⟨r1, r2, r3, r4⟩ := hP3
        exact h σ3 _ _ (f2.tr f3) hTk ⟨r1, r2, (wfe_M r3).1, by rw [(wfe_M r3).2 E, r4]⟩
    simp [sg_194_0_2, sg_194_0_1, sg_194_25_2, sg_194_25_1, sg_194_67_1, sg_194_84_1, hN _, x_iconst, x_ldc2_w, x_aconst_null, x_iload, x_lload, x_aload, x_istore, x_lstore, x_astore, x_iinc, x_iadd, x_isub, x_imul, x_idiv, x_irem, x_iand, x_ior, x_ixor, x_ishl, x_ishr, x_iushr, x_ineg, x_ladd, x_lsub, x_lmul, x_ldiv, x_lrem, x_lcmp, x_i2l, x_i2b, x_i2s, x_i2c, x_dup, x_pop, x_dup_x1, x_dup2, x_getfield, x_putfield, x_iaload, x_baload, x_saload, x_caload, x_daload, x_faload, x_laload, x_aaload, x_iastore, x_bastore, x_sastore, x_castore, x_lastore, x_aastore, x_arraylength, x_getstatic, x_goto, x_goto_w, x_ifCond, x_if_icmp, x_ifnull, x_ifnonnull, x_lookupswitch, x_invokevirtual, x_invokestatic, x_invokedynamic, x_ireturn, x_freturn, x_dreturn, x_lreturn, x_areturn, x_return_, pI_c, pL_c, pR_c, pV_i, pV_r, gI_c, gL_c, gR_c, pN_z, pN_s, lget_c, lins_z, lins_c, ldel_z, ldel_c, ldel2_z, ldel2_c, lset_i, lset_l, lset_r, lkeep_z, lkeep_c, largs_z, largs_c, cat_i, cat_l, cat_r, lkp_c, cnd_eq, cnd_ne, cnd_lt, cnd_ge, cnd_gt, cnd_le, swL_z, swL_c, rE_e, rOr_s, rOr_n, rlk_z, rlk_c, aR_c, aI_c, aII_c, aIII_c, aRI_c, aRII_c, aRIII_c, vJn, vJs, vlc, aRR_c, aRRI_c, aRRII_c, aRRIII_c, aRIIII_c, aRL_c, aRLL_c, aLL_c, aRRRI_c, aIL_c, aIIII_c, aRRIIII_c, aIRII_c, aIR_c, aLI_c, aRIR_c, aRIIR_c]
    exact K
  · by_cases c2 : hr x N' q = 40 ∧ dp < 4
    · obtain ⟨c2, c3⟩ := c2
      obtain ⟨q', hq, -⟩ := hr_q c2 (by omega)
      have q1 : 1 ≤ q := by omega
      have w1 : w32 ((N' : Int) - q + 1) = (N' : Int) - (q - 1 : Nat) := by rw [w32_id (by omega) (by omega)]; omega
      have w3 : w32 ((dp : Int) + 1) = ((dp + 1 : Nat) : Int) := by rw [w32_id (by omega) (by omega)]; omega
      have d4 : (dp : Int) < 4 := by omega
      generalize hσ2 : up σ 175 12 ((N' : Int) - (q - 1 : Nat)) = σ2
      have f2 : PaF σ σ2 := by rw [← hσ2]; exact PaF.at
      have A2 : PaA σ2 N' (q - 1) := ⟨by rw [← hσ2]; simp [up_ap], by omega⟩
      have w2 : σ2 175 13 = -1 := by rw [← hσ2]; simp [up_ap, hw]
      rw [c2] at hh
      have hH1 := hH q1 c3
      refine wg (by decide) (rgT2_ok hH1) ts_194 py_194 ml_194 30 (by simp [catT]) (fun N hN => ?_)
      simp [bs_194, sg_194_0_1, hN _, x_iconst, x_ldc2_w, x_aconst_null, x_iload, x_lload, x_aload, x_istore, x_lstore, x_astore, x_iinc, x_iadd, x_isub, x_imul, x_idiv, x_irem, x_iand, x_ior, x_ixor, x_ishl, x_ishr, x_iushr, x_ineg, x_ladd, x_lsub, x_lmul, x_ldiv, x_lrem, x_lcmp, x_i2l, x_i2b, x_i2s, x_i2c, x_dup, x_pop, x_dup_x1, x_dup2, x_getfield, x_putfield, x_iaload, x_baload, x_saload, x_caload, x_daload, x_faload, x_laload, x_aaload, x_iastore, x_bastore, x_sastore, x_castore, x_lastore, x_aastore, x_arraylength, x_getstatic, x_goto, x_goto_w, x_ifCond, x_if_icmp, x_ifnull, x_ifnonnull, x_lookupswitch, x_invokevirtual, x_invokestatic, x_invokedynamic, x_ireturn, x_freturn, x_dreturn, x_lreturn, x_areturn, x_return_, pI_c, pL_c, pR_c, pV_i, pV_r, gI_c, gL_c, gR_c, pN_z, pN_s, lget_c, lins_z, lins_c, ldel_z, ldel_c, ldel2_z, ldel2_c, lset_i, lset_l, lset_r, lkeep_z, lkeep_c, largs_z, largs_c, cat_i, cat_l, cat_r, lkp_c, cnd_eq, cnd_ne, cnd_lt, cnd_ge, cnd_gt, cnd_le, swL_z, swL_c, rE_e, rOr_s, rOr_n, rlk_z, rlk_c, aR_c, aI_c, aII_c, aIII_c, aRI_c, aRII_c, aRIII_c, vJn, vJs, vlc, aRR_c, aRRI_c, aRRII_c, aRRIII_c, aRIIII_c, aRL_c, aRLL_c, aLL_c, aRRRI_c, aIL_c, aIIII_c, aRRIIII_c, aIRII_c, aIR_c, aLI_c, aRIR_c, aRIIR_c, oM, hM, mpPass, mpFine, mpHere, hP, hw, hh, a1, w1, hσ2, w3, c3, d4, Nat.not_le.mpr c3, Int.not_le.mpr d4]
      refine ⟨q - 1, Nat.le_refl _, rfl, by omega, x, N', E, f2.c hC, A2, w2, fun σ3 R u f3 hR hP3 => ?_⟩
      have hTk := th_par c2 c3 hR
      have hC3 := (f2.tr f3).c hC
      cases R with
      | inl w =>
        obtain ⟨r1, r2⟩ := hP3
        have n1 : ¬ σ3 175 13 = -1 := by omega
        have hP3' : PsOk t σ3 := by
          obtain ⟨e1, e2, e3, -⟩ := hC3
          exact ⟨e1, r2, e2, e3⟩
        have K := h σ3 (.inl w) u (f2.tr f3) hTk ⟨r1, r2⟩
        simp [sg_194_0_2, sg_194_0_1, sg_194_25_2, sg_194_25_1, sg_194_67_1, sg_194_84_1, hN _, x_iconst, x_ldc2_w, x_aconst_null, x_iload, x_lload, x_aload, x_istore, x_lstore, x_astore, x_iinc, x_iadd, x_isub, x_imul, x_idiv, x_irem, x_iand, x_ior, x_ixor, x_ishl, x_ishr, x_iushr, x_ineg, x_ladd, x_lsub, x_lmul, x_ldiv, x_lrem, x_lcmp, x_i2l, x_i2b, x_i2s, x_i2c, x_dup, x_pop, x_dup_x1, x_dup2, x_getfield, x_putfield, x_iaload, x_baload, x_saload, x_caload, x_daload, x_faload, x_laload, x_aaload, x_iastore, x_bastore, x_sastore, x_castore, x_lastore, x_aastore, x_arraylength, x_getstatic, x_goto, x_goto_w, x_ifCond, x_if_icmp, x_ifnull, x_ifnonnull, x_lookupswitch, x_invokevirtual, x_invokestatic, x_invokedynamic, x_ireturn, x_freturn, x_dreturn, x_lreturn, x_areturn, x_return_, pI_c, pL_c, pR_c, pV_i, pV_r, gI_c, gL_c, gR_c, pN_z, pN_s, lget_c, lins_z, lins_c, ldel_z, ldel_c, ldel2_z, ldel2_c, lset_i, lset_l, lset_r, lkeep_z, lkeep_c, largs_z, largs_c, cat_i, cat_l, cat_r, lkp_c, cnd_eq, cnd_ne, cnd_lt, cnd_ge, cnd_gt, cnd_le, swL_z, swL_c, rE_e, rOr_s, rOr_n, rlk_z, rlk_c, aR_c, aI_c, aII_c, aIII_c, aRI_c, aRII_c, aRIII_c, vJn, vJs, vlc, aRR_c, aRRI_c, aRRII_c, aRRIII_c, aRIIII_c, aRL_c, aRLL_c, aLL_c, aRRRI_c, aIL_c, aIIII_c, aRRIIII_c, aIRII_c, aIR_c, aLI_c, aRIR_c, aRIIR_c, oM, mpNeed, hP3', nedM, n1]
        exact K
      | inr p =>
        obtain ⟨e, q2⟩ := p
        obtain ⟨r1, r2, r3, r4⟩ := hP3
        have hh3 := hC3.hh r2
        have hP3' := hC3.ps r2
        have hTk : ThOk x N' dp q (if hr x N' q2 = 41 then .inr (e, q2 - 1) else .inl (N' - q2)) := hTk
        have b1 := r2.1
        have b2 := r2.2
        by_cases c5 : hr x N' q2 = 41
        · rw [if_pos c5] at hTk
          obtain ⟨q3, hq3, -⟩ := hr_q c5 (by omega)
          have K := h (up σ3 175 12 (σ3 175 12 + 1)) _ u ((f2.tr f3).tr PaF.at) hTk ⟨by simp [up_ap, r1], ⟨by rw [up_ap, if_pos ⟨rfl, rfl⟩, b1]; omega, by omega⟩, r3, r4⟩
          rw [c5] at hh3
          simp [sg_194_0_2, sg_194_0_1, sg_194_25_2, sg_194_25_1, sg_194_67_1, sg_194_84_1, hN _, x_iconst, x_ldc2_w, x_aconst_null, x_iload, x_lload, x_aload, x_istore, x_lstore, x_astore, x_iinc, x_iadd, x_isub, x_imul, x_idiv, x_irem, x_iand, x_ior, x_ixor, x_ishl, x_ishr, x_iushr, x_ineg, x_ladd, x_lsub, x_lmul, x_ldiv, x_lrem, x_lcmp, x_i2l, x_i2b, x_i2s, x_i2c, x_dup, x_pop, x_dup_x1, x_dup2, x_getfield, x_putfield, x_iaload, x_baload, x_saload, x_caload, x_daload, x_faload, x_laload, x_aaload, x_iastore, x_bastore, x_sastore, x_castore, x_lastore, x_aastore, x_arraylength, x_getstatic, x_goto, x_goto_w, x_ifCond, x_if_icmp, x_ifnull, x_ifnonnull, x_lookupswitch, x_invokevirtual, x_invokestatic, x_invokedynamic, x_ireturn, x_freturn, x_dreturn, x_lreturn, x_areturn, x_return_, pI_c, pL_c, pR_c, pV_i, pV_r, gI_c, gL_c, gR_c, pN_z, pN_s, lget_c, lins_z, lins_c, ldel_z, ldel_c, ldel2_z, ldel2_c, lset_i, lset_l, lset_r, lkeep_z, lkeep_c, largs_z, largs_c, cat_i, cat_l, cat_r, lkp_c, cnd_eq, cnd_ne, cnd_lt, cnd_ge, cnd_gt, cnd_le, swL_z, swL_c, rE_e, rOr_s, rOr_n, rlk_z, rlk_c, aR_c, aI_c, aII_c, aIII_c, aRI_c, aRII_c, aRIII_c, vJn, vJs, vlc, aRR_c, aRRI_c, aRRII_c, aRRIII_c, aRIIII_c, aRL_c, aRLL_c, aLL_c, aRRRI_c, aIL_c, aIIII_c, aRRIIII_c, aIRII_c, aIR_c, aLI_c, aRIR_c, aRIIR_c, oM, mpNeed, hP3', nedM, r1, hh3]
          exact K
        · rw [if_neg c5] at hTk
          have K := h (up σ3 175 13 (σ3 175 12)) (.inl (N' - q2)) u ((f2.tr f3).tr PaF.wr) hTk ⟨by rw [up_ap, if_pos ⟨rfl, rfl⟩, b1]; omega, by have := hP3'.2.1; simpa [up_ap] using this⟩
          simp [sg_194_0_2, sg_194_0_1, sg_194_25_2, sg_194_25_1, sg_194_67_1, sg_194_84_1, hN _, x_iconst, x_ldc2_w, x_aconst_null, x_iload, x_lload, x_aload, x_istore, x_lstore, x_astore, x_iinc, x_iadd, x_isub, x_imul, x_idiv, x_irem, x_iand, x_ior, x_ixor, x_ishl, x_ishr, x_iushr, x_ineg, x_ladd, x_lsub, x_lmul, x_ldiv, x_lrem, x_lcmp, x_i2l, x_i2b, x_i2s, x_i2c, x_dup, x_pop, x_dup_x1, x_dup2, x_getfield, x_putfield, x_iaload, x_baload, x_saload, x_caload, x_daload, x_faload, x_laload, x_aaload, x_iastore, x_bastore, x_sastore, x_castore, x_lastore, x_aastore, x_arraylength, x_getstatic, x_goto, x_goto_w, x_ifCond, x_if_icmp, x_ifnull, x_ifnonnull, x_lookupswitch, x_invokevirtual, x_invokestatic, x_invokedynamic, x_ireturn, x_freturn, x_dreturn, x_lreturn, x_areturn, x_return_, pI_c, pL_c, pR_c, pV_i, pV_r, gI_c, gL_c, gR_c, pN_z, pN_s, lget_c, lins_z, lins_c, ldel_z, ldel_c, ldel2_z, ldel2_c, lset_i, lset_l, lset_r, lkeep_z, lkeep_c, largs_z, largs_c, cat_i, cat_l, cat_r, lkp_c, cnd_eq, cnd_ne, cnd_lt, cnd_ge, cnd_gt, cnd_le, swL_z, swL_c, rE_e, rOr_s, rOr_n, rlk_z, rlk_c, aR_c, aI_c, aII_c, aIII_c, aRI_c, aRII_c, aRIII_c, vJn, vJs, vlc, aRR_c, aRRI_c, aRRII_c, aRRIII_c, aRIIII_c, aRL_c, aRLL_c, aLL_c, aRRRI_c, aIL_c, aIIII_c, aRRIIII_c, aIRII_c, aIR_c, aLI_c, aRIR_c, aRIIR_c, oM, mpNeed, hP3', nedM, r1, hh3, c5]
          exact K
    · have c2' : ¬ (hr x N' q = 40) ∨ ¬ (dp : Int) < 4 := by omega
      have n40 : ∀ {p : Prop}, (hr x N' q = 40 → (dp : Int) < 4 → p) := fun {p} z1 z2 => by exfalso; omega
      by_cases c3 : 48 ≤ hr x N' q ∧ hr x N' q ≤ 57
      · obtain ⟨q', hq, -⟩ := hr_q (x := x) (N := N') (q := q) rfl (by omega)
        have f : PaF σ (up σ 175 12 (σ 175 12 + 1)) := PaF.at
        have e1 : oneM σ 48 10 = up σ 175 12 (σ 175 12 + 1) := by unfold oneM; rw [if_pos hw, if_pos (by rw [a1, hh]; omega)]
        have e2 : oneA σ 48 10 = hr x N' q - 48 := by unfold oneA; rw [if_pos ⟨hw, by rw [a1, hh]; omega⟩, a1, hh]
        obtain ⟨i1, i2, i3, i4, i5⟩ := nu_q (t := t) (E := E) 2 (q - 1) (hr x N' q - 48) _ (f.c hC) ⟨by rw [up_ap, if_pos ⟨rfl, rfl⟩, a1]; omega, by omega⟩ (by simp [up_ap, hw]) ⟨by omega, by omega, by omega, by omega, by omega⟩
        have K := h _ _ _ (f.tr i2) (th_num c3) ⟨i4, i3, (wfe_N i5).1, by rw [(wfe_N i5).2 E]⟩
        rw [← i1] at K
        have c4 : ¬ hr x N' q = 40 := by omega
        refine wg (by decide) rgT3_ok ts_194 py_194 ml_194 30 (by simp [catT]) (fun N hN => ?_)
        simp [bs_194, sg_194_0_1, hN _, x_iconst, x_ldc2_w, x_aconst_null, x_iload, x_lload, x_aload, x_istore, x_lstore, x_astore, x_iinc, x_iadd, x_isub, x_imul, x_idiv, x_irem, x_iand, x_ior, x_ixor, x_ishl, x_ishr, x_iushr, x_ineg, x_ladd, x_lsub, x_lmul, x_ldiv, x_lrem, x_lcmp, x_i2l, x_i2b, x_i2s, x_i2c, x_dup, x_pop, x_dup_x1, x_dup2, x_getfield, x_putfield, x_iaload, x_baload, x_saload, x_caload, x_daload, x_faload, x_laload, x_aaload, x_iastore, x_bastore, x_sastore, x_castore, x_lastore, x_aastore, x_arraylength, x_getstatic, x_goto, x_goto_w, x_ifCond, x_if_icmp, x_ifnull, x_ifnonnull, x_lookupswitch, x_invokevirtual, x_invokestatic, x_invokedynamic, x_ireturn, x_freturn, x_dreturn, x_lreturn, x_areturn, x_return_, pI_c, pL_c, pR_c, pV_i, pV_r, gI_c, gL_c, gR_c, pN_z, pN_s, lget_c, lins_z, lins_c, ldel_z, ldel_c, ldel2_z, ldel2_c, lset_i, lset_l, lset_r, lkeep_z, lkeep_c, largs_z, largs_c, cat_i, cat_l, cat_r, lkp_c, cnd_eq, cnd_ne, cnd_lt, cnd_ge, cnd_gt, cnd_le, swL_z, swL_c, rE_e, rOr_s, rOr_n, rlk_z, rlk_c, aR_c, aI_c, aII_c, aIII_c, aRI_c, aRII_c, aRIII_c, vJn, vJs, vlc, aRR_c, aRRI_c, aRRII_c, aRRIII_c, aRIIII_c, aRL_c, aRLL_c, aLL_c, aRRRI_c, aIL_c, aIIII_c, aRRIIII_c, aIRII_c, aIR_c, aLI_c, aRIR_c, aRIIR_c, oM, hM, mpPass, mpFine, mpHere, mpIn, mpNum, hP, hB, hw, a1, hh, c1, c3, c4]
        rw [e1, e2]
        simp [sg_194_0_2, sg_194_0_1, sg_194_25_2, sg_194_25_1, sg_194_67_1, sg_194_84_1, hN _, x_iconst, x_ldc2_w, x_aconst_null, x_iload, x_lload, x_aload, x_istore, x_lstore, x_astore, x_iinc, x_iadd, x_isub, x_imul, x_idiv, x_irem, x_iand, x_ior, x_ixor, x_ishl, x_ishr, x_iushr, x_ineg, x_ladd, x_lsub, x_lmul, x_ldiv, x_lrem, x_lcmp, x_i2l, x_i2b, x_i2s, x_i2c, x_dup, x_pop, x_dup_x1, x_dup2, x_getfield, x_putfield, x_iaload, x_baload, x_saload, x_caload, x_daload, x_faload, x_laload, x_aaload, x_iastore, x_bastore, x_sastore, x_castore, x_lastore, x_aastore, x_arraylength, x_getstatic, x_goto, x_goto_w, x_ifCond, x_if_icmp, x_ifnull, x_ifnonnull, x_lookupswitch, x_invokevirtual, x_invokestatic, x_invokedynamic, x_ireturn, x_freturn, x_dreturn, x_lreturn, x_areturn, x_return_, pI_c, pL_c, pR_c, pV_i, pV_r, gI_c, gL_c, gR_c, pN_z, pN_s, lget_c, lins_z, lins_c, ldel_z, ldel_c, ldel2_z, ldel2_c, lset_i, lset_l, lset_r, lkeep_z, lkeep_c, largs_z, largs_c, cat_i, cat_l, cat_r, lkp_c, cnd_eq, cnd_ne, cnd_lt, cnd_ge, cnd_gt, cnd_le, swL_z, swL_c, rE_e, rOr_s, rOr_n, rlk_z, rlk_c, aR_c, aI_c, aII_c, aIII_c, aRI_c, aRII_c, aRIII_c, vJn, vJs, vlc, aRR_c, aRRI_c, aRRII_c, aRRIII_c, aRIIII_c, aRL_c, aRLL_c, aLL_c, aRRRI_c, aIL_c, aIIII_c, aRRIIII_c, aIRII_c, aIR_c, aLI_c, aRIR_c, aRIIR_c]
        exact ⟨fun z => by omega, K⟩
      · by_cases c5 : ltB (hr x N' q) = 1
        · obtain ⟨l1, l2, l3⟩ := leO_b.1 c5
          have lc := ltB_c c5
          obtain ⟨q', hq, -⟩ := hr_q (x := x) (N := N') (q := q) rfl (by omega)
          have w1 : w32 ((N' : Int) - q + 1) = (N' : Int) - (q - 1 : Nat) := by rw [w32_id (by omega) (by omega)]; omega
          have f : PaF σ (up σ 175 12 ((N' : Int) - (q - 1 : Nat))) := PaF.at
          have K := h _ _ (E (ltI (hr x N' q))) f (th_ltr c5) ⟨by simp [up_ap, hw], ⟨by simp [up_ap], by omega⟩, (wfe_L c5).1, by rw [(wfe_L c5).2 E]⟩
          have e18 := hC.2.2.2.2.2.2.2
          have eE := hC.2.2.2.2.2.2.1 (ltI (hr x N' q)) (by omega) (by omega)
          have n45 : ¬ hr x N' q = 40 := by omega
          have nd : ¬ (48 ≤ hr x N' q ∧ hr x N' q ≤ 57) := c3
          have m1 : ¬ leO (hr x N' q) = -1 := by omega
          refine wg (by decide) rgT3_ok ts_194 py_194 ml_194 30 (by simp [catT]) (fun N hN => ?_)
          simp [bs_194, sg_194_0_1, hN _, x_iconst, x_ldc2_w, x_aconst_null, x_iload, x_lload, x_aload, x_istore, x_lstore, x_astore, x_iinc, x_iadd, x_isub, x_imul, x_idiv, x_irem, x_iand, x_ior, x_ixor, x_ishl, x_ishr, x_iushr, x_ineg, x_ladd, x_lsub, x_lmul, x_ldiv, x_lrem, x_lcmp, x_i2l, x_i2b, x_i2s, x_i2c, x_dup, x_pop, x_dup_x1, x_dup2, x_getfield, x_putfield, x_iaload, x_baload, x_saload, x_caload, x_daload, x_faload, x_laload, x_aaload, x_iastore, x_bastore, x_sastore, x_castore, x_lastore, x_aastore, x_arraylength, x_getstatic, x_goto, x_goto_w, x_ifCond, x_if_icmp, x_ifnull, x_ifnonnull, x_lookupswitch, x_invokevirtual, x_invokestatic, x_invokedynamic, x_ireturn, x_freturn, x_dreturn, x_lreturn, x_areturn, x_return_, pI_c, pL_c, pR_c, pV_i, pV_r, gI_c, gL_c, gR_c, pN_z, pN_s, lget_c, lins_z, lins_c, ldel_z, ldel_c, ldel2_z, ldel2_c, lset_i, lset_l, lset_r, lkeep_z, lkeep_c, largs_z, largs_c, cat_i, cat_l, cat_r, lkp_c, cnd_eq, cnd_ne, cnd_lt, cnd_ge, cnd_gt, cnd_le, swL_z, swL_c, rE_e, rOr_s, rOr_n, rlk_z, rlk_c, aR_c, aI_c, aII_c, aIII_c, aRI_c, aRII_c, aRIII_c, vJn, vJs, vlc, aRR_c, aRRI_c, aRRII_c, aRRIII_c, aRIIII_c, aRL_c, aRLL_c, aLL_c, aRRRI_c, aIL_c, aIIII_c, aRRIIII_c, aIRII_c, aIR_c, aLI_c, aRIR_c, aRIIR_c, oM, hM, hM.f19, hM.t183, hM.l183, mpPass, mpFine, mpHere, mpIn, mpLet, hP, hw, a1, hh, c1, n45, m1, w1, up_ap]
          refine ⟨fun _ => ⟨fun z => ?_, fun z => ⟨⟨l2, l3⟩, ?_⟩⟩, fun z1 z2 => absurd ⟨z1, z2⟩ c3⟩
          · rw [eE, if_pos z] at K; exact K
          · rw [eE, if_neg z, ← l1] at K; exact K
        · have l1 := leO_b.2 c5
          have K := h (up σ 175 13 ((N' : Int) - q)) (.inl (N' - q)) 0 PaF.wr (th_bad c3 c5 c1 c2) ⟨by rw [up_ap, if_pos ⟨rfl, rfl⟩]; omega, by have := hP.2.1; simpa [up_ap] using this⟩
          refine wg (by decide) rgT3_ok ts_194 py_194 ml_194 30 (by simp [catT]) (fun N hN => ?_)
          simp [bs_194, sg_194_0_1, hN _, x_iconst, x_ldc2_w, x_aconst_null, x_iload, x_lload, x_aload, x_istore, x_lstore, x_astore, x_iinc, x_iadd, x_isub, x_imul, x_idiv, x_irem, x_iand, x_ior, x_ixor, x_ishl, x_ishr, x_iushr, x_ineg, x_ladd, x_lsub, x_lmul, x_ldiv, x_lrem, x_lcmp, x_i2l, x_i2b, x_i2s, x_i2c, x_dup, x_pop, x_dup_x1, x_dup2, x_getfield, x_putfield, x_iaload, x_baload, x_saload, x_caload, x_daload, x_faload, x_laload, x_aaload, x_iastore, x_bastore, x_sastore, x_castore, x_lastore, x_aastore, x_arraylength, x_getstatic, x_goto, x_goto_w, x_ifCond, x_if_icmp, x_ifnull, x_ifnonnull, x_lookupswitch, x_invokevirtual, x_invokestatic, x_invokedynamic, x_ireturn, x_freturn, x_dreturn, x_lreturn, x_areturn, x_return_, pI_c, pL_c, pR_c, pV_i, pV_r, gI_c, gL_c, gR_c, pN_z, pN_s, lget_c, lins_z, lins_c, ldel_z, ldel_c, ldel2_z, ldel2_c, lset_i, lset_l, lset_r, lkeep_z, lkeep_c, largs_z, largs_c, cat_i, cat_l, cat_r, lkp_c, cnd_eq, cnd_ne, cnd_lt, cnd_ge, cnd_gt, cnd_le, swL_z, swL_c, rE_e, rOr_s, rOr_n, rlk_z, rlk_c, aR_c, aI_c, aII_c, aIII_c, aRI_c, aRII_c, aRIII_c, vJn, vJs, vlc, aRR_c, aRRI_c, aRRII_c, aRRIII_c, aRIIII_c, aRL_c, aRLL_c, aLL_c, aRRRI_c, aIL_c, aIIII_c, aRRIIII_c, aIRII_c, aIR_c, aLI_c, aRIR_c, aRIIR_c, oM, hM, mpPass, mpFine, mpHere, mpIn, mpLet, mpFault, hP, hw, a1, hh, c1, l1]
          refine ⟨fun _ => ⟨fun _ => ?_, fun z1 z2 => absurd ⟨z1, z2⟩ c3⟩, fun z => ⟨fun _ => ⟨fun _ => ?_, fun z1 z2 => absurd ⟨z1, z2⟩ c3⟩, fun z3 => by exfalso; omega⟩⟩
          · simp [sg_194_84_1, hN _, x_iconst, x_ldc2_w, x_aconst_null, x_iload, x_lload, x_aload, x_istore, x_lstore, x_astore, x_iinc, x_iadd, x_isub, x_imul, x_idiv, x_irem, x_iand, x_ior, x_ixor, x_ishl, x_ishr, x_iushr, x_ineg, x_ladd, x_lsub, x_lmul, x_ldiv, x_lrem, x_lcmp, x_i2l, x_i2b, x_i2s, x_i2c, x_dup, x_pop, x_dup_x1, x_dup2, x_getfield, x_putfield, x_iaload, x_baload, x_saload, x_caload, x_daload, x_faload, x_laload, x_aaload, x_iastore, x_bastore, x_sastore, x_castore, x_lastore, x_aastore, x_arraylength, x_getstatic, x_goto, x_goto_w, x_ifCond, x_if_icmp, x_ifnull, x_ifnonnull, x_lookupswitch, x_invokevirtual, x_invokestatic, x_invokedynamic, x_ireturn, x_freturn, x_dreturn, x_lreturn, x_areturn, x_return_, pI_c, pL_c, pR_c, pV_i, pV_r, gI_c, gL_c, gR_c, pN_z, pN_s, lget_c, lins_z, lins_c, ldel_z, ldel_c, ldel2_z, ldel2_c, lset_i, lset_l, lset_r, lkeep_z, lkeep_c, largs_z, largs_c, cat_i, cat_l, cat_r, lkp_c, cnd_eq, cnd_ne, cnd_lt, cnd_ge, cnd_gt, cnd_le, swL_z, swL_c, rE_e, rOr_s, rOr_n, rlk_z, rlk_c, aR_c, aI_c, aII_c, aIII_c, aRI_c, aRII_c, aRIII_c, vJn, vJs, vlc, aRR_c, aRRI_c, aRRII_c, aRRIII_c, aRIIII_c, aRL_c, aRLL_c, aLL_c, aRRRI_c, aIL_c, aIIII_c, aRRIIII_c, aIRII_c, aIR_c, aLI_c, aRIR_c, aRIIR_c]; exact K
          · simp [sg_194_84_1, hN _, x_iconst, x_ldc2_w, x_aconst_null, x_iload, x_lload, x_aload, x_istore, x_lstore, x_astore, x_iinc, x_iadd, x_isub, x_imul, x_idiv, x_irem, x_iand, x_ior, x_ixor, x_ishl, x_ishr, x_iushr, x_ineg, x_ladd, x_lsub, x_lmul, x_ldiv, x_lrem, x_lcmp, x_i2l, x_i2b, x_i2s, x_i2c, x_dup, x_pop, x_dup_x1, x_dup2, x_getfield, x_putfield, x_iaload, x_baload, x_saload, x_caload, x_daload, x_faload, x_laload, x_aaload, x_iastore, x_bastore, x_sastore, x_castore, x_lastore, x_aastore, x_arraylength, x_getstatic, x_goto, x_goto_w, x_ifCond, x_if_icmp, x_ifnull, x_ifnonnull, x_lookupswitch, x_invokevirtual, x_invokestatic, x_invokedynamic, x_ireturn, x_freturn, x_dreturn, x_lreturn, x_areturn, x_return_, pI_c, pL_c, pR_c, pV_i, pV_r, gI_c, gL_c, gR_c, pN_z, pN_s, lget_c, lins_z, lins_c, ldel_z, ldel_c, ldel2_z, ldel2_c, lset_i, lset_l, lset_r, lkeep_z, lkeep_c, largs_z, largs_c, cat_i, cat_l, cat_r, lkp_c, cnd_eq, cnd_ne, cnd_lt, cnd_ge, cnd_gt, cnd_le, swL_z, swL_c, rE_e, rOr_s, rOr_n, rlk_z, rlk_c, aR_c, aI_c, aII_c, aIII_c, aRI_c, aRII_c, aRIII_c, vJn, vJs, vlc, aRR_c, aRRI_c, aRRII_c, aRRIII_c, aRIIII_c, aRL_c, aRLL_c, aLL_c, aRRRI_c, aIL_c, aIIII_c, aRRIIII_c, aIRII_c, aIR_c, aLI_c, aRIR_c, aRIIR_c]; exact K
