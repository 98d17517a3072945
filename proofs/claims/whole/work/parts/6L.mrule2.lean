/-! the reference: sums, comparisons -/
abbrev rgSm (dp q : Nat) : Reg := (192, leQ (mpPd dp) q) :: rgPa
theorem rgSm_ok {l : Launch} {g : GE} {d dp q : Nat} (hT : ∀ as t σ Q, leQ (mpPd dp) q as t σ Q → WPc l g 192 (d + 2) 0 0 as t σ Q) : ∀ e as t σ Q, rE l g (d + 2) (rgSm dp q) e as t σ Q → WPc l g e (d + 2) 0 0 as t σ Q := rE_cons hT (rgPa_ok (d := d + 1))
set_option maxHeartbeats 1000000 in
theorem m_sum {l : Launch} {g : GE} {d dp q0 : Nat} (hT : ∀ as t σ Q, leQ (mpPd dp) q0 as t σ Q → WPc l g 192 (d + 2) 0 0 as t σ Q) {as : List TV} {t : Tau} {σ : Mem} {Q : Post} (h0 : mpSm dp q0 as t σ Q) : WPc l g 191 (d + 3) 0 0 as t σ Q := by
  obtain ⟨a, dp', rfl, rfl, rfl, x, N', E, hC, hA, hw, h⟩ := aRI_e h0
  clear h0
  have oM := hC.1.o
  have hM := hC.1
  have bad : ∀ (w : Nat) (σ' : Mem) (v : Int), PaF σ σ' → σ' 175 13 = w → (0 ≤ σ' 175 12 ∧ σ' 175 12 ≤ σ' 175 10) → SmOk x N' dp q0 (.inl w) → Wp l g 191 (d + 3) 0 0 6 [(0, vR 175), (1, vI dp), (2, vI v)] [] t σ' Q := by
    intro w σ' v f hw' hat hO
    have n1 : ¬ σ' 175 13 = -1 := by omega
    refine wa (by decide) (rgSm_ok hT) ts_191 30 (fun N hN => ?_)
    simp [bs_191, hN _, x_iconst, x_ldc2_w, x_aconst_null, x_iload, x_lload, x_aload, x_istore, x_lstore, x_astore, x_iinc, x_iadd, x_isub, x_imul, x_idiv, x_irem, x_iand, x_ior, x_ixor, x_ishl, x_ishr, x_iushr, x_ineg, x_ladd, x_lsub, x_lmul, x_ldiv, x_lrem, x_lcmp, x_i2l, x_i2b, x_i2s, x_i2c, x_dup, x_pop, x_dup_x1, x_dup2, x_getfield, x_putfield, x_iaload, x_baload, x_saload, x_caload, x_daload, x_faload, x_laload, x_aaload, x_iastore, x_bastore, x_sastore, x_castore, x_lastore, x_aastore, x_arraylength, x_getstatic, x_goto, x_goto_w, x_ifCond, x_if_icmp, x_ifnull, x_ifnonnull, x_lookupswitch, x_invokevirtual, x_invokestatic, x_invokedynamic, x_ireturn, x_freturn, x_dreturn, x_lreturn, x_areturn, x_return_, pI_c, pL_c, pR_c, pV_i, pV_r, gI_c, gL_c, gR_c, pN_z, pN_s, lget_c, lins_z, lins_c, ldel_z, ldel_c, ldel2_z, ldel2_c, lset_i, lset_l, lset_r, lkeep_z, lkeep_c, largs_z, largs_c, cat_i, cat_l, cat_r, lkp_c, cnd_eq, cnd_ne, cnd_lt, cnd_ge, cnd_gt, cnd_le, swL_z, swL_c, rE_e, rOr_s, rOr_n, rlk_z, rlk_c, aR_c, aI_c, aII_c, aIII_c, aRI_c, aRII_c, aRIII_c, vJn, vJs, vlc, aRR_c, aRRI_c, aRRII_c, aRRIII_c, aRIIII_c, aRL_c, aRLL_c, aLL_c, aRRRI_c, aIL_c, aIIII_c, aRRIIII_c, aIRII_c, aIR_c, aLI_c, aRIR_c, aRIIR_c, oM, hM, mpFine, n1]
    exact h σ' (.inl w) v f hO ⟨hw', hat⟩
  have K : ∀ (m q : Nat) (e : Ex) (σ' : Mem) (v : Int), q ≤ m → PaF σ σ' → PaA σ' N' q → σ' 175 13 = -1 → SmI x N' dp q0 e q → WfE e → v = evE E e → Wp l g 191 (d + 3) 0 0 6 [(0, vR 175), (1, vI dp), (2, vI v)] [] t σ' Q := by
    intro m
    induction m with
    | zero =>
      intro q e σ' v hq f hA' hw' hI hE hv
      obtain rfl : q = 0 := by omega
      have hr0 : hr x N' 0 = -1 := rfl
      have hP := (f.c hC).ps hA'
      have hh := (f.c hC).hh hA'
      rw [hr0] at hh
      refine wa (by decide) (rgSm_ok hT) ts_191 30 (fun N hN => ?_)
      simp [bs_191, hN _, x_iconst, x_ldc2_w, x_aconst_null, x_iload, x_lload, x_aload, x_istore, x_lstore, x_astore, x_iinc, x_iadd, x_isub, x_imul, x_idiv, x_irem, x_iand, x_ior, x_ixor, x_ishl, x_ishr, x_iushr, x_ineg, x_ladd, x_lsub, x_lmul, x_ldiv, x_lrem, x_lcmp, x_i2l, x_i2b, x_i2s, x_i2c, x_dup, x_pop, x_dup_x1, x_dup2, x_getfield, x_putfield, x_iaload, x_baload, x_saload, x_caload, x_daload, x_faload, x_laload, x_aaload, x_iastore, x_bastore, x_sastore, x_castore, x_lastore, x_aastore, x_arraylength, x_getstatic, x_goto, x_goto_w, x_ifCond, x_if_icmp, x_ifnull, x_ifnonnull, x_lookupswitch, x_invokevirtual, x_invokestatic, x_invokedynamic, x_ireturn, x_freturn, x_dreturn, x_lreturn, x_areturn, x_return_, pI_c, pL_c, pR_c, pV_i, pV_r, gI_c, gL_c, gR_c, pN_z, pN_s, lget_c, lins_z, lins_c, ldel_z, ldel_c, ldel2_z, ldel2_c, lset_i, lset_l, lset_r, lkeep_z, lkeep_c, largs_z, largs_c, cat_i, cat_l, cat_r, lkp_c, cnd_eq, cnd_ne, cnd_lt, cnd_ge, cnd_gt, cnd_le, swL_z, swL_c, rE_e, rOr_s, rOr_n, rlk_z, rlk_c, aR_c, aI_c, aII_c, aIII_c, aRI_c, aRII_c, aRIII_c, vJn, vJs, vlc, aRR_c, aRRI_c, aRRII_c, aRRIII_c, aRIIII_c, aRL_c, aRLL_c, aLL_c, aRRRI_c, aIL_c, aIIII_c, aRRIIII_c, aIRII_c, aIR_c, aLI_c, aRIR_c, aRIIR_c, oM, hM, mpFine, mpHere, hP, hw', hh]
      exact h σ' _ v f (sm_e hI (by rw [hr0]; omega) (by rw [hr0]; omega)) ⟨hw', hA', hE, hv⟩
    | succ m ih =>
      intro q e σ' v hq f hA' hw' hI hE hv
      have hP := (f.c hC).ps hA'
      have hh := (f.c hC).hh hA'
      have q0l := hI.1
      have hA2 := hA'
      obtain ⟨a1, a2⟩ := hA2
      by_cases c1 : hr x N' q = 43 ∨ hr x N' q = 45
      · have go := sm_go hI c1
        have q1 : 1 ≤ q := by omega
        have hN80 : (N' : Int) ≤ 80 := by have := hC.2.2.2.2.1; have := hC.2.2.1; omega
        have w1 : w32 ((N' : Int) - q + 1) = (N' : Int) - (q - 1 : Nat) := by rw [w32_id (by omega) (by omega)]; omega
        generalize hσ2 : up σ' 175 12 ((N' : Int) - (q - 1 : Nat)) = σ2
        have f2 : PaF σ σ2 := f.tr (by rw [← hσ2]; exact PaF.at)
        have A2 : PaA σ2 N' (q - 1) := ⟨by rw [← hσ2]; simp [up_ap], by omega⟩
        have w2 : σ2 175 13 = -1 := by rw [← hσ2]; simp [up_ap, hw']
        have nxt : ∀ (σ3 : Mem) (R : RT) (u : Int), PaF σ2 σ3 → PdOk x N' dp (q - 1) R → PaR σ3 N' E R u → Wp l g 191 (d + 3) 0 0 6 [(0, vR 175), (1, vI dp), (2, vI (joinV (hr x N' q) v u))] [] t σ3 Q := by
          intro σ3 R u f3 hR hP3
          cases R with
          | inl w => exact bad w σ3 _ (f2.tr f3) hP3.1 hP3.2 (sm_sb hI c1 hR)
          | inr p =>
            obtain ⟨o, q'⟩ := p
            obtain ⟨p1, p2, p3, p4⟩ := hP3
            obtain ⟨s1, s2⟩ := sm_s hI c1 hR
            have ho : opB (hr x N' q) := by unfold opB; omega
            exact ih q' _ σ3 _ (by omega) (f2.tr f3) p2 p1 s1 (wfe_B ho hE p3).1 (evE_join ho hE p3 hv p4)
        refine wa (by decide) (rgSm_ok hT) ts_191 30 (fun N hN => ?_)
        rcases c1 with c1 | c1
        · rw [c1] at hh nxt
          rw [a1] at hh
          simp [bs_191, hN _, x_iconst, x_ldc2_w, x_aconst_null, x_iload, x_lload, x_aload, x_istore, x_lstore, x_astore, x_iinc, x_iadd, x_isub, x_imul, x_idiv, x_irem, x_iand, x_ior, x_ixor, x_ishl, x_ishr, x_iushr, x_ineg, x_ladd, x_lsub, x_lmul, x_ldiv, x_lrem, x_lcmp, x_i2l, x_i2b, x_i2s, x_i2c, x_dup, x_pop, x_dup_x1, x_dup2, x_getfield, x_putfield, x_iaload, x_baload, x_saload, x_caload, x_daload, x_faload, x_laload, x_aaload, x_iastore, x_bastore, x_sastore, x_castore, x_lastore, x_aastore, x_arraylength, x_getstatic, x_goto, x_goto_w, x_ifCond, x_if_icmp, x_ifnull, x_ifnonnull, x_lookupswitch, x_invokevirtual, x_invokestatic, x_invokedynamic, x_ireturn, x_freturn, x_dreturn, x_lreturn, x_areturn, x_return_, pI_c, pL_c, pR_c, pV_i, pV_r, gI_c, gL_c, gR_c, pN_z, pN_s, lget_c, lins_z, lins_c, ldel_z, ldel_c, ldel2_z, ldel2_c, lset_i, lset_l, lset_r, lkeep_z, lkeep_c, largs_z, largs_c, cat_i, cat_l, cat_r, lkp_c, cnd_eq, cnd_ne, cnd_lt, cnd_ge, cnd_gt, cnd_le, swL_z, swL_c, rE_e, rOr_s, rOr_n, rlk_z, rlk_c, aR_c, aI_c, aII_c, aIII_c, aRI_c, aRII_c, aRIII_c, vJn, vJs, vlc, aRR_c, aRRI_c, aRRII_c, aRRIII_c, aRIIII_c, aRL_c, aRLL_c, aLL_c, aRRRI_c, aIL_c, aIIII_c, aRRIIII_c, aIRII_c, aIR_c, aLI_c, aRIR_c, aRIIR_c, oM, hM, mpFine, mpHere, hP, hw', hh, a1, w1, hσ2]
          refine ⟨q - 1, by omega, rfl, rfl, x, N', E, f2.c hC, A2, w2, fun σ3 R u f3 hR hP3 => ?_⟩
          have K := nxt σ3 R u f3 hR hP3
          unfold joinV at K
          simp at K
          simp [sg_191_0_1, sg_191_44_1, sg_191_45_1, bs_191, hN _, x_iconst, x_ldc2_w, x_aconst_null, x_iload, x_lload, x_aload, x_istore, x_lstore, x_astore, x_iinc, x_iadd, x_isub, x_imul, x_idiv, x_irem, x_iand, x_ior, x_ixor, x_ishl, x_ishr, x_iushr, x_ineg, x_ladd, x_lsub, x_lmul, x_ldiv, x_lrem, x_lcmp, x_i2l, x_i2b, x_i2s, x_i2c, x_dup, x_pop, x_dup_x1, x_dup2, x_getfield, x_putfield, x_iaload, x_baload, x_saload, x_caload, x_daload, x_faload, x_laload, x_aaload, x_iastore, x_bastore, x_sastore, x_castore, x_lastore, x_aastore, x_arraylength, x_getstatic, x_goto, x_goto_w, x_ifCond, x_if_icmp, x_ifnull, x_ifnonnull, x_lookupswitch, x_invokevirtual, x_invokestatic, x_invokedynamic, x_ireturn, x_freturn, x_dreturn, x_lreturn, x_areturn, x_return_, pI_c, pL_c, pR_c, pV_i, pV_r, gI_c, gL_c, gR_c, pN_z, pN_s, lget_c, lins_z, lins_c, ldel_z, ldel_c, ldel2_z, ldel2_c, lset_i, lset_l, lset_r, lkeep_z, lkeep_c, largs_z, largs_c, cat_i, cat_l, cat_r, lkp_c, cnd_eq, cnd_ne, cnd_lt, cnd_ge, cnd_gt, cnd_le, swL_z, swL_c, rE_e, rOr_s, rOr_n, rlk_z, rlk_c, aR_c, aI_c, aII_c, aIII_c, aRI_c, aRII_c, aRIII_c, vJn, vJs, vlc, aRR_c, aRRI_c, aRRII_c, aRRIII_c, aRIIII_c, aRL_c, aRLL_c, aLL_c, aRRRI_c, aIL_c, aIIII_c, aRRIIII_c, aIRII_c, aIR_c, aLI_c, aRIR_c, aRIIR_c]
          exact K
        · rw [c1] at hh nxt
          rw [a1] at hh
          simp [bs_191, hN _, x_iconst, x_ldc2_w, x_aconst_null, x_iload, x_lload, x_aload, x_istore, x_lstore, x_astore, x_iinc, x_iadd, x_isub, x_imul, x_idiv, x_irem, x_iand, x_ior, x_ixor, x_ishl, x_ishr, x_iushr, x_ineg, x_ladd, x_lsub, x_lmul, x_ldiv, x_lrem, x_lcmp, x_i2l, x_i2b, x_i2s, x_i2c, x_dup, x_pop, x_dup_x1, x_dup2, x_getfield, x_putfield, x_iaload, x_baload, x_saload, x_caload, x_daload, x_faload, x_laload, x_aaload, x_iastore, x_bastore, x_sastore, x_castore, x_lastore, x_aastore, x_arraylength, x_getstatic, x_goto, x_goto_w, x_ifCond, x_if_icmp, x_ifnull, x_ifnonnull, x_lookupswitch, x_invokevirtual, x_invokestatic, x_invokedynamic, x_ireturn, x_freturn, x_dreturn, x_lreturn, x_areturn, x_return_, pI_c, pL_c, pR_c, pV_i, pV_r, gI_c, gL_c, gR_c, pN_z, pN_s, lget_c, lins_z, lins_c, ldel_z, ldel_c, ldel2_z, ldel2_c, lset_i, lset_l, lset_r, lkeep_z, lkeep_c, largs_z, largs_c, cat_i, cat_l, cat_r, lkp_c, cnd_eq, cnd_ne, cnd_lt, cnd_ge, cnd_gt, cnd_le, swL_z, swL_c, rE_e, rOr_s, rOr_n, rlk_z, rlk_c, aR_c, aI_c, aII_c, aIII_c, aRI_c, aRII_c, aRIII_c, vJn, vJs, vlc, aRR_c, aRRI_c, aRRII_c, aRRIII_c, aRIIII_c, aRL_c, aRLL_c, aLL_c, aRRRI_c, aIL_c, aIIII_c, aRRIIII_c, aIRII_c, aIR_c, aLI_c, aRIR_c, aRIIR_c, oM, hM, mpFine, mpHere, hP, hw', hh, a1, w1, hσ2]
          refine ⟨q - 1, by omega, rfl, rfl, x, N', E, f2.c hC, A2, w2, fun σ3 R u f3 hR hP3 => ?_⟩
          have K := nxt σ3 R u f3 hR hP3
          unfold joinV at K
          simp at K
          simp [sg_191_0_1, sg_191_44_1, sg_191_45_1, bs_191, hN _, x_iconst, x_ldc2_w, x_aconst_null, x_iload, x_lload, x_aload, x_istore, x_lstore, x_astore, x_iinc, x_iadd, x_isub, x_imul, x_idiv, x_irem, x_iand, x_ior, x_ixor, x_ishl, x_ishr, x_iushr, x_ineg, x_ladd, x_lsub, x_lmul, x_ldiv, x_lrem, x_lcmp, x_i2l, x_i2b, x_i2s, x_i2c, x_dup, x_pop, x_dup_x1, x_dup2, x_getfield, x_putfield, x_iaload, x_baload, x_saload, x_caload, x_daload, x_faload, x_laload, x_aaload, x_iastore, x_bastore, x_sastore, x_castore, x_lastore, x_aastore, x_arraylength, x_getstatic, x_goto, x_goto_w, x_ifCond, x_if_icmp, x_ifnull, x_ifnonnull, x_lookupswitch, x_invokevirtual, x_invokestatic, x_invokedynamic, x_ireturn, x_freturn, x_dreturn, x_lreturn, x_areturn, x_return_, pI_c, pL_c, pR_c, pV_i, pV_r, gI_c, gL_c, gR_c, pN_z, pN_s, lget_c, lins_z, lins_c, ldel_z, ldel_c, ldel2_z, ldel2_c, lset_i, lset_l, lset_r, lkeep_z, lkeep_c, largs_z, largs_c, cat_i, cat_l, cat_r, lkp_c, cnd_eq, cnd_ne, cnd_lt, cnd_ge, cnd_gt, cnd_le, swL_z, swL_c, rE_e, rOr_s, rOr_n, rlk_z, rlk_c, aR_c, aI_c, aII_c, aIII_c, aRI_c, aRII_c, aRIII_c, vJn, vJs, vlc, aRR_c, aRRI_c, aRRII_c, aRRIII_c, aRIIII_c, aRL_c, aRLL_c, aLL_c, aRRRI_c, aIL_c, aIIII_c, aRRIIII_c, aIRII_c, aIR_c, aLI_c, aRIR_c, aRIIR_c]
          exact K
      · have c2 : hr x N' q ≠ 43 ∧ hr x N' q ≠ 45 := by omega
        have K := h σ' _ v f (sm_e hI c2.1 c2.2) ⟨hw', hA', hE, hv⟩
        refine wa (by decide) (rgSm_ok hT) ts_191 30 (fun N hN => ?_)
        simp [bs_191, hN _, x_iconst, x_ldc2_w, x_aconst_null, x_iload, x_lload, x_aload, x_istore, x_lstore, x_astore, x_iinc, x_iadd, x_isub, x_imul, x_idiv, x_irem, x_iand, x_ior, x_ixor, x_ishl, x_ishr, x_iushr, x_ineg, x_ladd, x_lsub, x_lmul, x_ldiv, x_lrem, x_lcmp, x_i2l, x_i2b, x_i2s, x_i2c, x_dup, x_pop, x_dup_x1, x_dup2, x_getfield, x_putfield, x_iaload, x_baload, x_saload, x_caload, x_daload, x_faload, x_laload, x_aaload, x_iastore, x_bastore, x_sastore, x_castore, x_lastore, x_aastore, x_arraylength, x_getstatic, x_goto, x_goto_w, x_ifCond, x_if_icmp, x_ifnull, x_ifnonnull, x_lookupswitch, x_invokevirtual, x_invokestatic, x_invokedynamic, x_ireturn, x_freturn, x_dreturn, x_lreturn, x_areturn, x_return_, pI_c, pL_c, pR_c, pV_i, pV_r, gI_c, gL_c, gR_c, pN_z, pN_s, lget_c, lins_z, lins_c, ldel_z, ldel_c, ldel2_z, ldel2_c, lset_i, lset_l, lset_r, lkeep_z, lkeep_c, largs_z, largs_c, cat_i, cat_l, cat_r, lkp_c, cnd_eq, cnd_ne, cnd_lt, cnd_ge, cnd_gt, cnd_le, swL_z, swL_c, rE_e, rOr_s, rOr_n, rlk_z, rlk_c, aR_c, aI_c, aII_c, aIII_c, aRI_c, aRII_c, aRIII_c, vJn, vJs, vlc, aRR_c, aRRI_c, aRRII_c, aRRIII_c, aRIIII_c, aRL_c, aRLL_c, aLL_c, aRRRI_c, aIL_c, aIIII_c, aRRIIII_c, aIRII_c, aIR_c, aLI_c, aRIR_c, aRIIR_c, oM, hM, mpFine, mpHere, hP, hw', hh, c2.1, c2.2]
        exact K
  refine wg (by decide) (rgSm_ok hT) ts_191 py_191 ml_191 30 (by simp [catT]) (fun N hN => ?_)
  simp [bs_191, hN _, x_iconst, x_ldc2_w, x_aconst_null, x_iload, x_lload, x_aload, x_istore, x_lstore, x_astore, x_iinc, x_iadd, x_isub, x_imul, x_idiv, x_irem, x_iand, x_ior, x_ixor, x_ishl, x_ishr, x_iushr, x_ineg, x_ladd, x_lsub, x_lmul, x_ldiv, x_lrem, x_lcmp, x_i2l, x_i2b, x_i2s, x_i2c, x_dup, x_pop, x_dup_x1, x_dup2, x_getfield, x_putfield, x_iaload, x_baload, x_saload, x_caload, x_daload, x_faload, x_laload, x_aaload, x_iastore, x_bastore, x_sastore, x_castore, x_lastore, x_aastore, x_arraylength, x_getstatic, x_goto, x_goto_w, x_ifCond, x_if_icmp, x_ifnull, x_ifnonnull, x_lookupswitch, x_invokevirtual, x_invokestatic, x_invokedynamic, x_ireturn, x_freturn, x_dreturn, x_lreturn, x_areturn, x_return_, pI_c, pL_c, pR_c, pV_i, pV_r, gI_c, gL_c, gR_c, pN_z, pN_s, lget_c, lins_z, lins_c, ldel_z, ldel_c, ldel2_z, ldel2_c, lset_i, lset_l, lset_r, lkeep_z, lkeep_c, largs_z, largs_c, cat_i, cat_l, cat_r, lkp_c, cnd_eq, cnd_ne, cnd_lt, cnd_ge, cnd_gt, cnd_le, swL_z, swL_c, rE_e, rOr_s, rOr_n, rlk_z, rlk_c, aR_c, aI_c, aII_c, aIII_c, aRI_c, aRII_c, aRIII_c, vJn, vJs, vlc, aRR_c, aRRI_c, aRRII_c, aRRIII_c, aRIIII_c, aRL_c, aRLL_c, aLL_c, aRRRI_c, aIL_c, aIIII_c, aRRIIII_c, aIRII_c, aIR_c, aLI_c, aRIR_c, aRIIR_c, oM]
  refine ⟨q0, Nat.le_refl _, rfl, rfl, x, N', E, hC, hA, hw, fun σ1 R v f1 hR hP1 => ?_⟩
  simp [sg_191_0_1, sg_191_44_1, sg_191_45_1, hN _, x_iconst, x_ldc2_w, x_aconst_null, x_iload, x_lload, x_aload, x_istore, x_lstore, x_astore, x_iinc, x_iadd, x_isub, x_imul, x_idiv, x_irem, x_iand, x_ior, x_ixor, x_ishl, x_ishr, x_iushr, x_ineg, x_ladd, x_lsub, x_lmul, x_ldiv, x_lrem, x_lcmp, x_i2l, x_i2b, x_i2s, x_i2c, x_dup, x_pop, x_dup_x1, x_dup2, x_getfield, x_putfield, x_iaload, x_baload, x_saload, x_caload, x_daload, x_faload, x_laload, x_aaload, x_iastore, x_bastore, x_sastore, x_castore, x_lastore, x_aastore, x_arraylength, x_getstatic, x_goto, x_goto_w, x_ifCond, x_if_icmp, x_ifnull, x_ifnonnull, x_lookupswitch, x_invokevirtual, x_invokestatic, x_invokedynamic, x_ireturn, x_freturn, x_dreturn, x_lreturn, x_areturn, x_return_, pI_c, pL_c, pR_c, pV_i, pV_r, gI_c, gL_c, gR_c, pN_z, pN_s, lget_c, lins_z, lins_c, ldel_z, ldel_c, ldel2_z, ldel2_c, lset_i, lset_l, lset_r, lkeep_z, lkeep_c, largs_z, largs_c, cat_i, cat_l, cat_r, lkp_c, cnd_eq, cnd_ne, cnd_lt, cnd_ge, cnd_gt, cnd_le, swL_z, swL_c, rE_e, rOr_s, rOr_n, rlk_z, rlk_c, aR_c, aI_c, aII_c, aIII_c, aRI_c, aRII_c, aRIII_c, vJn, vJs, vlc, aRR_c, aRRI_c, aRRII_c, aRRIII_c, aRIIII_c, aRL_c, aRLL_c, aLL_c, aRRRI_c, aIL_c, aIIII_c, aRRIIII_c, aIRII_c, aIR_c, aLI_c, aRIR_c, aRIIR_c]
  cases R with
  | inl w => exact bad w σ1 v f1 hP1.1 hP1.2 (sm_0b hR)
  | inr p =>
    obtain ⟨o, q'⟩ := p
    obtain ⟨p1, p2, p3, p4⟩ := hP1
    exact K q' q' o σ1 v (Nat.le_refl _) f1 p2 p1 (sm_0 hR) p3 p4
abbrev rgHe (dp q : Nat) : Reg := (191, leQ (mpSm dp) q) :: rgPb
theorem rgHe_ok {l : Launch} {g : GE} {d dp q : Nat} (hT : ∀ as t σ Q, leQ (mpSm dp) q as t σ Q → WPc l g 191 (d + 3) 0 0 as t σ Q) : ∀ e as t σ Q, rE l g (d + 3) (rgHe dp q) e as t σ Q → WPc l g e (d + 3) 0 0 as t σ Q := rE_cons hT (rgPb_ok (d := d + 1))
set_option maxHeartbeats 1000000 in
theorem m_held {l : Launch} {g : GE} {d dp q0 : Nat} (hT : ∀ as t σ Q, leQ (mpSm dp) q0 as t σ Q → WPc l g 191 (d + 3) 0 0 as t σ Q) {as : List TV} {t : Tau} {σ : Mem} {Q : Post} (h0 : mpHe dp q0 as t σ Q) : WPc l g 190 (d + 4) 0 0 as t σ Q := by
  obtain ⟨a, dp', rfl, rfl, rfl, x, N', E, hC, hA, hw, h⟩ := aRI_e h0
  clear h0
  have oM := hC.1.o
  have hM := hC.1
  refine wg (by decide) (rgHe_ok hT) ts_190 py_190 ml_190 30 (by simp [catT]) (fun N hN => ?_)
  simp [bs_190, hN _, x_iconst, x_ldc2_w, x_aconst_null, x_iload, x_lload, x_aload, x_istore, x_lstore, x_astore, x_iinc, x_iadd, x_isub, x_imul, x_idiv, x_irem, x_iand, x_ior, x_ixor, x_ishl, x_ishr, x_iushr, x_ineg, x_ladd, x_lsub, x_lmul, x_ldiv, x_lrem, x_lcmp, x_i2l, x_i2b, x_i2s, x_i2c, x_dup, x_pop, x_dup_x1, x_dup2, x_getfield, x_putfield, x_iaload, x_baload, x_saload, x_caload, x_daload, x_faload, x_laload, x_aaload, x_iastore, x_bastore, x_sastore, x_castore, x_lastore, x_aastore, x_arraylength, x_getstatic, x_goto, x_goto_w, x_ifCond, x_if_icmp, x_ifnull, x_ifnonnull, x_lookupswitch, x_invokevirtual, x_invokestatic, x_invokedynamic, x_ireturn, x_freturn, x_dreturn, x_lreturn, x_areturn, x_return_, pI_c, pL_c, pR_c, pV_i, pV_r, gI_c, gL_c, gR_c, pN_z, pN_s, lget_c, lins_z, lins_c, ldel_z, ldel_c, ldel2_z, ldel2_c, lset_i, lset_l, lset_r, lkeep_z, lkeep_c, largs_z, largs_c, cat_i, cat_l, cat_r, lkp_c, cnd_eq, cnd_ne, cnd_lt, cnd_ge, cnd_gt, cnd_le, swL_z, swL_c, rE_e, rOr_s, rOr_n, rlk_z, rlk_c, aR_c, aI_c, aII_c, aIII_c, aRI_c, aRII_c, aRIII_c, vJn, vJs, vlc, aRR_c, aRRI_c, aRRII_c, aRRIII_c, aRIIII_c, aRL_c, aRLL_c, aLL_c, aRRRI_c, aIL_c, aIIII_c, aRRIIII_c, aIRII_c, aIR_c, aLI_c, aRIR_c, aRIIR_c, oM]
  refine ⟨q0, Nat.le_refl _, rfl, rfl, x, N', E, hC, hA, hw, fun σ1 R v f1 hR hP1 => ?_⟩
  cases R with
  | inl w =>
    obtain ⟨p1, p2⟩ := hP1
    have n1 : ¬ σ1 175 13 = -1 := by omega
    have hP : PsOk t σ1 := by
      obtain ⟨c1, c2, c3, -⟩ := f1.c hC
      exact ⟨c1, p2, c2, c3⟩
    have K := h σ1 (.inl w) v f1 (he_b hR) ⟨p1, p2⟩
    simp [sg_190_0_3, sg_190_0_2, sg_190_0_1, sg_190_30_2, sg_190_30_1, sg_190_54_2, sg_190_54_1, bs_190, hN _, x_iconst, x_ldc2_w, x_aconst_null, x_iload, x_lload, x_aload, x_istore, x_lstore, x_astore, x_iinc, x_iadd, x_isub, x_imul, x_idiv, x_irem, x_iand, x_ior, x_ixor, x_ishl, x_ishr, x_iushr, x_ineg, x_ladd, x_lsub, x_lmul, x_ldiv, x_lrem, x_lcmp, x_i2l, x_i2b, x_i2s, x_i2c, x_dup, x_pop, x_dup_x1, x_dup2, x_getfield, x_putfield, x_iaload, x_baload, x_saload, x_caload, x_daload, x_faload, x_laload, x_aaload, x_iastore, x_bastore, x_sastore, x_castore, x_lastore, x_aastore, x_arraylength, x_getstatic, x_goto, x_goto_w, x_ifCond, x_if_icmp, x_ifnull, x_ifnonnull, x_lookupswitch, x_invokevirtual, x_invokestatic, x_invokedynamic, x_ireturn, x_freturn, x_dreturn, x_lreturn, x_areturn, x_return_, pI_c, pL_c, pR_c, pV_i, pV_r, gI_c, gL_c, gR_c, pN_z, pN_s, lget_c, lins_z, lins_c, ldel_z, ldel_c, ldel2_z, ldel2_c, lset_i, lset_l, lset_r, lkeep_z, lkeep_c, largs_z, largs_c, cat_i, cat_l, cat_r, lkp_c, cnd_eq, cnd_ne, cnd_lt, cnd_ge, cnd_gt, cnd_le, swL_z, swL_c, rE_e, rOr_s, rOr_n, rlk_z, rlk_c, aR_c, aI_c, aII_c, aIII_c, aRI_c, aRII_c, aRIII_c, vJn, vJs, vlc, aRR_c, aRRI_c, aRRII_c, aRRIII_c, aRIIII_c, aRL_c, aRLL_c, aLL_c, aRRRI_c, aIL_c, aIIII_c, aRRIIII_c, aIRII_c, aIR_c, aLI_c, aRIR_c, aRIIR_c, oM, mpPass, hP, n1]
    exact K
  | inr p =>
    obtain ⟨e, q⟩ := p
    obtain ⟨p1, p2, p3, p4⟩ := hP1
    have hC1 := f1.c hC
    have hP := hC1.ps p2
    have hh := hC1.hh p2
    have a1 := p2.1
    have a2 := p2.2
    have qle : q ≤ q0 := hR.1
    by_cases c1 : hr x N' q = 60 ∨ hr x N' q = 61 ∨ hr x N' q = 62
    · obtain ⟨g1, -⟩ := he_go hR c1
      have q1 : 1 ≤ q := by omega
      have w1 : (N' : Int) - q + 1 = (N' : Int) - (q - 1 : Nat) := by omega
      generalize hσ2 : up σ1 175 12 ((N' : Int) - (q - 1 : Nat)) = σ2
      have f2 : PaF σ σ2 := f1.tr (by rw [← hσ2]; exact PaF.at)
      have A2 : PaA σ2 N' (q - 1) := ⟨by rw [← hσ2]; simp [up_ap], by omega⟩
      have w2 : σ2 175 13 = -1 := by rw [← hσ2]; simp [up_ap, p1]
      have nxt : ∀ (σ3 : Mem) (R : RT) (u : Int), PaF σ2 σ3 → SmOk x N' dp (q - 1) R → PaR σ3 N' E R u → Q (some (vI (joinV (hr x N' q) v u))) t σ3 := by
        intro σ3 R u f3 hR3 hP3
        cases R with
        | inl w => exact h σ3 (.inl w) _ (f2.tr f3) (he_2b hR c1 hR3) hP3
        | inr p =>
          obtain ⟨o, q'⟩ := p
          obtain ⟨r1, r2, r3, r4⟩ := hP3
          have ho : opB (hr x N' q) := by unfold opB; omega
          exact h σ3 _ _ (f2.tr f3) (he_2 hR c1 hR3) ⟨r1, r2, (wfe_B ho p3 r3).1, evE_join ho p3 r3 p4 r4⟩
      rw [a1] at hh
      rcases c1 with c1 | c1 | c1
      · rw [c1] at hh nxt
        simp [sg_190_0_3, sg_190_0_2, sg_190_0_1, sg_190_30_2, sg_190_30_1, sg_190_54_2, sg_190_54_1, bs_190, hN _, x_iconst, x_ldc2_w, x_aconst_null, x_iload, x_lload, x_aload, x_istore, x_lstore, x_astore, x_iinc, x_iadd, x_isub, x_imul, x_idiv, x_irem, x_iand, x_ior, x_ixor, x_ishl, x_ishr, x_iushr, x_ineg, x_ladd, x_lsub, x_lmul, x_ldiv, x_lrem, x_lcmp, x_i2l, x_i2b, x_i2s, x_i2c, x_dup, x_pop, x_dup_x1, x_dup2, x_getfield, x_putfield, x_iaload, x_baload, x_saload, x_caload, x_daload, x_faload, x_laload, x_aaload, x_iastore, x_bastore, x_sastore, x_castore, x_lastore, x_aastore, x_arraylength, x_getstatic, x_goto, x_goto_w, x_ifCond, x_if_icmp, x_ifnull, x_ifnonnull, x_lookupswitch, x_invokevirtual, x_invokestatic, x_invokedynamic, x_ireturn, x_freturn, x_dreturn, x_lreturn, x_areturn, x_return_, pI_c, pL_c, pR_c, pV_i, pV_r, gI_c, gL_c, gR_c, pN_z, pN_s, lget_c, lins_z, lins_c, ldel_z, ldel_c, ldel2_z, ldel2_c, lset_i, lset_l, lset_r, lkeep_z, lkeep_c, largs_z, largs_c, cat_i, cat_l, cat_r, lkp_c, cnd_eq, cnd_ne, cnd_lt, cnd_ge, cnd_gt, cnd_le, swL_z, swL_c, rE_e, rOr_s, rOr_n, rlk_z, rlk_c, aR_c, aI_c, aII_c, aIII_c, aRI_c, aRII_c, aRIII_c, vJn, vJs, vlc, aRR_c, aRRI_c, aRRII_c, aRRIII_c, aRIIII_c, aRL_c, aRLL_c, aLL_c, aRRRI_c, aIL_c, aIIII_c, aRRIIII_c, aIRII_c, aIR_c, aLI_c, aRIR_c, aRIIR_c, oM, mpPass, hP, p1, hh, a1, w1, hσ2]
        refine ⟨q - 1, by omega, rfl, rfl, x, N', E, f2.c hC, A2, w2, fun σ3 R u f3 hR hP3 => ?_⟩
        have K := nxt σ3 R u f3 hR hP3
        unfold joinV at K
        simp [sg_190_0_3, sg_190_0_2, sg_190_0_1, sg_190_30_2, sg_190_30_1, sg_190_54_2, sg_190_54_1, bs_190, hN _, x_iconst, x_ldc2_w, x_aconst_null, x_iload, x_lload, x_aload, x_istore, x_lstore, x_astore, x_iinc, x_iadd, x_isub, x_imul, x_idiv, x_irem, x_iand, x_ior, x_ixor, x_ishl, x_ishr, x_iushr, x_ineg, x_ladd, x_lsub, x_lmul, x_ldiv, x_lrem, x_lcmp, x_i2l, x_i2b, x_i2s, x_i2c, x_dup, x_pop, x_dup_x1, x_dup2, x_getfield, x_putfield, x_iaload, x_baload, x_saload, x_caload, x_daload, x_faload, x_laload, x_aaload, x_iastore, x_bastore, x_sastore, x_castore, x_lastore, x_aastore, x_arraylength, x_getstatic, x_goto, x_goto_w, x_ifCond, x_if_icmp, x_ifnull, x_ifnonnull, x_lookupswitch, x_invokevirtual, x_invokestatic, x_invokedynamic, x_ireturn, x_freturn, x_dreturn, x_lreturn, x_areturn, x_return_, pI_c, pL_c, pR_c, pV_i, pV_r, gI_c, gL_c, gR_c, pN_z, pN_s, lget_c, lins_z, lins_c, ldel_z, ldel_c, ldel2_z, ldel2_c, lset_i, lset_l, lset_r, lkeep_z, lkeep_c, largs_z, largs_c, cat_i, cat_l, cat_r, lkp_c, cnd_eq, cnd_ne, cnd_lt, cnd_ge, cnd_gt, cnd_le, swL_z, swL_c, rE_e, rOr_s, rOr_n, rlk_z, rlk_c, aR_c, aI_c, aII_c, aIII_c, aRI_c, aRII_c, aRIII_c, vJn, vJs, vlc, aRR_c, aRRI_c, aRRII_c, aRRIII_c, aRIIII_c, aRL_c, aRLL_c, aLL_c, aRRRI_c, aIL_c, aIIII_c, aRRIIII_c, aIRII_c, aIR_c, aLI_c, aRIR_c, aRIIR_c] at K ⊢
        grind
      · rw [c1] at hh nxt
        simp [sg_190_0_3, sg_190_0_2, sg_190_0_1, sg_190_30_2, sg_190_30_1, sg_190_54_2, sg_190_54_1, bs_190, hN _, x_iconst, x_ldc2_w, x_aconst_null, x_iload, x_lload, x_aload, x_istore, x_lstore, x_astore, x_iinc, x_iadd, x_isub, x_imul, x_idiv, x_irem, x_iand, x_ior, x_ixor, x_ishl, x_ishr, x_iushr, x_ineg, x_ladd, x_lsub, x_lmul, x_ldiv, x_lrem, x_lcmp, x_i2l, x_i2b, x_i2s, x_i2c, x_dup, x_pop, x_dup_x1, x_dup2, x_getfield, x_putfield, x_iaload, x_baload, x_saload, x_caload, x_daload, x_faload, x_laload, x_aaload, x_iastore, x_bastore, x_sastore, x_castore, x_lastore, x_aastore, x_arraylength, x_getstatic, x_goto, x_goto_w, x_ifCond, x_if_icmp, x_ifnull, x_ifnonnull, x_lookupswitch, x_invokevirtual, x_invokestatic, x_invokedynamic, x_ireturn, x_freturn, x_dreturn, x_lreturn, x_areturn, x_return_, pI_c, pL_c, pR_c, pV_i, pV_r, gI_c, gL_c, gR_c, pN_z, pN_s, lget_c, lins_z, lins_c, ldel_z, ldel_c, ldel2_z, ldel2_c, lset_i, lset_l, lset_r, lkeep_z, lkeep_c, largs_z, largs_c, cat_i, cat_l, cat_r, lkp_c, cnd_eq, cnd_ne, cnd_lt, cnd_ge, cnd_gt, cnd_le, swL_z, swL_c, rE_e, rOr_s, rOr_n, rlk_z, rlk_c, aR_c, aI_c, aII_c, aIII_c, aRI_c, aRII_c, aRIII_c, vJn, vJs, vlc, aRR_c, aRRI_c, aRRII_c, aRRIII_c, aRIIII_c, aRL_c, aRLL_c, aLL_c, aRRRI_c, aIL_c, aIIII_c, aRRIIII_c, aIRII_c, aIR_c, aLI_c, aRIR_c, aRIIR_c, oM, mpPass, hP, p1, hh, a1, w1, hσ2]
        refine ⟨q - 1, by omega, rfl, rfl, x, N', E, f2.c hC, A2, w2, fun σ3 R u f3 hR hP3 => ?_⟩
        have K := nxt σ3 R u f3 hR hP3
        unfold joinV at K
        simp [sg_190_0_3, sg_190_0_2, sg_190_0_1, sg_190_30_2, sg_190_30_1, sg_190_54_2, sg_190_54_1, bs_190, hN _, x_iconst, x_ldc2_w, x_aconst_null, x_iload, x_lload, x_aload, x_istore, x_lstore, x_astore, x_iinc, x_iadd, x_isub, x_imul, x_idiv, x_irem, x_iand, x_ior, x_ixor, x_ishl, x_ishr, x_iushr, x_ineg, x_ladd, x_lsub, x_lmul, x_ldiv, x_lrem, x_lcmp, x_i2l, x_i2b, x_i2s, x_i2c, x_dup, x_pop, x_dup_x1, x_dup2, x_getfield, x_putfield, x_iaload, x_baload, x_saload, x_caload, x_daload, x_faload, x_laload, x_aaload, x_iastore, x_bastore, x_sastore, x_castore, x_lastore, x_aastore, x_arraylength, x_getstatic, x_goto, x_goto_w, x_ifCond, x_if_icmp, x_ifnull, x_ifnonnull, x_lookupswitch, x_invokevirtual, x_invokestatic, x_invokedynamic, x_ireturn, x_freturn, x_dreturn, x_lreturn, x_areturn, x_return_, pI_c, pL_c, pR_c, pV_i, pV_r, gI_c, gL_c, gR_c, pN_z, pN_s, lget_c, lins_z, lins_c, ldel_z, ldel_c, ldel2_z, ldel2_c, lset_i, lset_l, lset_r, lkeep_z, lkeep_c, largs_z, largs_c, cat_i, cat_l, cat_r, lkp_c, cnd_eq, cnd_ne, cnd_lt, cnd_ge, cnd_gt, cnd_le, swL_z, swL_c, rE_e, rOr_s, rOr_n, rlk_z, rlk_c, aR_c, aI_c, aII_c, aIII_c, aRI_c, aRII_c, aRIII_c, vJn, vJs, vlc, aRR_c, aRRI_c, aRRII_c, aRRIII_c, aRIIII_c, aRL_c, aRLL_c, aLL_c, aRRRI_c, aIL_c, aIIII_c, aRRIIII_c, aIRII_c, aIR_c, aLI_c, aRIR_c, aRIIR_c] at K ⊢
        grind
      · rw [c1] at hh nxt
        simp [sg_190_0_3, sg_190_0_2, sg_190_0_1, sg_190_30_2, sg_190_30_1, sg_190_54_2, sg_190_54_1, bs_190, hN _, x_iconst, x_ldc2_w, x_aconst_null, x_iload, x_lload, x_aload, x_istore, x_lstore, x_astore, x_iinc, x_iadd, x_isub, x_imul, x_idiv, x_irem, x_iand, x_ior, x_ixor, x_ishl, x_ishr, x_iushr, x_ineg, x_ladd, x_lsub, x_lmul, x_ldiv, x_lrem, x_lcmp, x_i2l, x_i2b, x_i2s, x_i2c, x_dup, x_pop, x_dup_x1, x_dup2, x_getfield, x_putfield, x_iaload, x_baload, x_saload, x_caload, x_daload, x_faload, x_laload, x_aaload, x_iastore, x_bastore, x_sastore, x_castore, x_lastore, x_aastore, x_arraylength, x_getstatic, x_goto, x_goto_w, x_ifCond, x_if_icmp, x_ifnull, x_ifnonnull, x_lookupswitch, x_invokevirtual, x_invokestatic, x_invokedynamic, x_ireturn, x_freturn, x_dreturn, x_lreturn, x_areturn, x_return_, pI_c, pL_c, pR_c, pV_i, pV_r, gI_c, gL_c, gR_c, pN_z, pN_s, lget_c, lins_z, lins_c, ldel_z, ldel_c, ldel2_z, ldel2_c, lset_i, lset_l, lset_r, lkeep_z, lkeep_c, largs_z, largs_c, cat_i, cat_l, cat_r, lkp_c, cnd_eq, cnd_ne, cnd_lt, cnd_ge, cnd_gt, cnd_le, swL_z, swL_c, rE_e, rOr_s, rOr_n, rlk_z, rlk_c, aR_c, aI_c, aII_c, aIII_c, aRI_c, aRII_c, aRIII_c, vJn, vJs, vlc, aRR_c, aRRI_c, aRRII_c, aRRIII_c, aRIIII_c, aRL_c, aRLL_c, aLL_c, aRRRI_c, aIL_c, aIIII_c, aRRIIII_c, aIRII_c, aIR_c, aLI_c, aRIR_c, aRIIR_c, oM, mpPass, hP, p1, hh, a1, w1, hσ2]
        refine ⟨q - 1, by omega, rfl, rfl, x, N', E, f2.c hC, A2, w2, fun σ3 R u f3 hR hP3 => ?_⟩
        have K := nxt σ3 R u f3 hR hP3
        unfold joinV at K
        simp [sg_190_0_3, sg_190_0_2, sg_190_0_1, sg_190_30_2, sg_190_30_1, sg_190_54_2, sg_190_54_1, bs_190, hN _, x_iconst, x_ldc2_w, x_aconst_null, x_iload, x_lload, x_aload, x_istore, x_lstore, x_astore, x_iinc, x_iadd, x_isub, x_imul, x_idiv, x_irem, x_iand, x_ior, x_ixor, x_ishl, x_ishr, x_iushr, x_ineg, x_ladd, x_lsub, x_lmul, x_ldiv, x_lrem, x_lcmp, x_i2l, x_i2b, x_i2s, x_i2c, x_dup, x_pop, x_dup_x1, x_dup2, x_getfield, x_putfield, x_iaload, x_baload, x_saload, x_caload, x_daload, x_faload, x_laload, x_aaload, x_iastore, x_bastore, x_sastore, x_castore, x_lastore, x_aastore, x_arraylength, x_getstatic, x_goto, x_goto_w, x_ifCond, x_if_icmp, x_ifnull, x_ifnonnull, x_lookupswitch, x_invokevirtual, x_invokestatic, x_invokedynamic, x_ireturn, x_freturn, x_dreturn, x_lreturn, x_areturn, x_return_, pI_c, pL_c, pR_c, pV_i, pV_r, gI_c, gL_c, gR_c, pN_z, pN_s, lget_c, lins_z, lins_c, ldel_z, ldel_c, ldel2_z, ldel2_c, lset_i, lset_l, lset_r, lkeep_z, lkeep_c, largs_z, largs_c, cat_i, cat_l, cat_r, lkp_c, cnd_eq, cnd_ne, cnd_lt, cnd_ge, cnd_gt, cnd_le, swL_z, swL_c, rE_e, rOr_s, rOr_n, rlk_z, rlk_c, aR_c, aI_c, aII_c, aIII_c, aRI_c, aRII_c, aRIII_c, vJn, vJs, vlc, aRR_c, aRRI_c, aRRII_c, aRRIII_c, aRIIII_c, aRL_c, aRLL_c, aLL_c, aRRRI_c, aIL_c, aIIII_c, aRRIIII_c, aIRII_c, aIR_c, aLI_c, aRIR_c, aRIIR_c] at K ⊢
        grind
    · have c2 : hr x N' q ≠ 60 ∧ hr x N' q ≠ 61 ∧ hr x N' q ≠ 62 := by omega
      have K := h σ1 _ v f1 (he_1 hR c2) ⟨p1, p2, p3, p4⟩
      simp [sg_190_0_3, sg_190_0_2, sg_190_0_1, sg_190_30_2, sg_190_30_1, sg_190_54_2, sg_190_54_1, bs_190, hN _, x_iconst, x_ldc2_w, x_aconst_null, x_iload, x_lload, x_aload, x_istore, x_lstore, x_astore, x_iinc, x_iadd, x_isub, x_imul, x_idiv, x_irem, x_iand, x_ior, x_ixor, x_ishl, x_ishr, x_iushr, x_ineg, x_ladd, x_lsub, x_lmul, x_ldiv, x_lrem, x_lcmp, x_i2l, x_i2b, x_i2s, x_i2c, x_dup, x_pop, x_dup_x1, x_dup2, x_getfield, x_putfield, x_iaload, x_baload, x_saload, x_caload, x_daload, x_faload, x_laload, x_aaload, x_iastore, x_bastore, x_sastore, x_castore, x_lastore, x_aastore, x_arraylength, x_getstatic, x_goto, x_goto_w, x_ifCond, x_if_icmp, x_ifnull, x_ifnonnull, x_lookupswitch, x_invokevirtual, x_invokestatic, x_invokedynamic, x_ireturn, x_freturn, x_dreturn, x_lreturn, x_areturn, x_return_, pI_c, pL_c, pR_c, pV_i, pV_r, gI_c, gL_c, gR_c, pN_z, pN_s, lget_c, lins_z, lins_c, ldel_z, ldel_c, ldel2_z, ldel2_c, lset_i, lset_l, lset_r, lkeep_z, lkeep_c, largs_z, largs_c, cat_i, cat_l, cat_r, lkp_c, cnd_eq, cnd_ne, cnd_lt, cnd_ge, cnd_gt, cnd_le, swL_z, swL_c, rE_e, rOr_s, rOr_n, rlk_z, rlk_c, aR_c, aI_c, aII_c, aIII_c, aRI_c, aRII_c, aRIII_c, vJn, vJs, vlc, aRR_c, aRRI_c, aRRII_c, aRRIII_c, aRIIII_c, aRL_c, aRLL_c, aLL_c, aRRRI_c, aIL_c, aIIII_c, aRRIIII_c, aIRII_c, aIR_c, aLI_c, aRIR_c, aRIIR_c, oM, mpPass, hP, p1, hh, c2.1, c2.2.1, c2.2.2]
      exact K
