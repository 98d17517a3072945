/-! the reference: wholes, foreign, count -/
def mpFrg : Sp := fun as t σ Q => aR as fun a => a = 175 ∧ MK t σ ∧ Q (some (vI (frgN (vA σ 176) (nM σ)))) t σ
theorem m_foreign {l : Launch} {g : GE} {d : Nat} {t : Tau} {σ : Mem} {Q : Post} {as : List TV} (h0 : mpFrg as t σ Q) : WPc l g 280 (d + 3) 0 0 as t σ Q := by
  obtain ⟨a, rfl, rfl, hk, h⟩ := aR_e h0
  clear h0
  obtain ⟨hM, hW⟩ := hk
  have n6 := hM.2.2
  have z0 := hM.2.1
  unfold frgN at h
  have K : Wp l g 280 (d + 3) 0 0 4 [(0, vR 175), (1, vI (sumN (fun i => 12 - ownV (vA σ 176) i) 0)), (2, vI (0 : Nat))] [] t σ Q := by
    refine lpU (P := fun i => Wp l g 280 (d + 3) 0 0 4 [(0, vR 175), (1, vI (sumN (fun i => 12 - ownV (vA σ 176) i) i)), (2, vI i)] [] t σ Q) (n := nM σ) ?_ (fun i hi K => ?_)
    · refine wa (by decide) rgM2_ok tk_280 30 (fun N hN => ?_)
      simp [bl_280, hN _, x_iconst, x_ldc2_w, x_aconst_null, x_iload, x_lload, x_aload, x_istore, x_lstore, x_astore, x_iinc, x_iadd, x_isub, x_imul, x_idiv, x_irem, x_iand, x_ior, x_ixor, x_ishl, x_ishr, x_iushr, x_ineg, x_ladd, x_lsub, x_lmul, x_ldiv, x_lrem, x_lcmp, x_i2l, x_i2b, x_i2s, x_i2c, x_dup, x_pop, x_dup_x1, x_dup2, x_getfield, x_putfield, x_iaload, x_baload, x_saload, x_caload, x_daload, x_faload, x_laload, x_aaload, x_iastore, x_bastore, x_sastore, x_castore, x_lastore, x_aastore, x_arraylength, x_getstatic, x_goto, x_goto_w, x_ifCond, x_if_icmp, x_ifnull, x_ifnonnull, x_lookupswitch, x_invokevirtual, x_invokestatic, x_invokedynamic, x_ireturn, x_freturn, x_dreturn, x_lreturn, x_areturn, x_return_, pI_c, pL_c, pR_c, pV_i, pV_r, gI_c, gL_c, gR_c, pN_z, pN_s, lget_c, lins_z, lins_c, ldel_z, ldel_c, ldel2_z, ldel2_c, lset_i, lset_l, lset_r, lkeep_z, lkeep_c, largs_z, largs_c, cat_i, cat_l, cat_r, lkp_c, cnd_eq, cnd_ne, cnd_lt, cnd_ge, cnd_gt, cnd_le, swL_z, swL_c, rE_e, rOr_s, rOr_n, rlk_z, rlk_c, aR_c, aI_c, aII_c, aIII_c, aRI_c, aRII_c, aRIII_c, vJn, vJs, vlc, aRR_c, aRRI_c, aRRII_c, aRRIII_c, aRIIII_c, aRL_c, aRLL_c, aLL_c, aRRRI_c, aIL_c, aIIII_c, aRRIIII_c, aIRII_c, aIR_c, aLI_c, aRIR_c, aRIIR_c, hM.1.o, z0]
      exact h
    · have e2 := w32_succ (k := i) (by omega); have i1 : ((i : Nat) : Int) < (nM σ : Nat) := (by omega); have i1n : i < nM σ := (by omega); have i1x : ¬ nM σ ≤ i := (by omega)
      have i6 : (i : Int) < 6 := by omega
      have i6n : i < 6 := by omega
      have hob := own_in hW (i := i) (by omega) (by omega)
      have hsd := sd_in hW (i := i) (by omega) (by omega)
      have hb := sumN_b (f := fun i => 12 - ownV (vA σ 176) i) (B := 12) i (fun j j0 j1 => by
        have := own_in hW (i := j) j0 (by omega)
        show 0 ≤ 12 - ownV (vA σ 176) j ∧ 12 - ownV (vA σ 176) j ≤ 12
        omega)
      have w1 : w32 (12 - ownV (vA σ 176) i) = 12 - ownV (vA σ 176) i := w32_id (by omega) (by omega)
      have es : sumN (fun i => 12 - ownV (vA σ 176) i) (i + 1) = sumN (fun i => 12 - ownV (vA σ 176) i) i + (12 - ownV (vA σ 176) i) := rfl
      rw [es] at K
      generalize sumN (fun i => 12 - ownV (vA σ 176) i) i = S at K hb
      have w2 : w32 (S + (12 - ownV (vA σ 176) i)) = S + (12 - ownV (vA σ 176) i) := w32_id (by omega) (by omega)
      refine wa (by decide) rgM2_ok tk_280 30 (fun N hN => ?_)
      simp [bl_280, hN _, x_iconst, x_ldc2_w, x_aconst_null, x_iload, x_lload, x_aload, x_istore, x_lstore, x_astore, x_iinc, x_iadd, x_isub, x_imul, x_idiv, x_irem, x_iand, x_ior, x_ixor, x_ishl, x_ishr, x_iushr, x_ineg, x_ladd, x_lsub, x_lmul, x_ldiv, x_lrem, x_lcmp, x_i2l, x_i2b, x_i2s, x_i2c, x_dup, x_pop, x_dup_x1, x_dup2, x_getfield, x_putfield, x_iaload, x_baload, x_saload, x_caload, x_daload, x_faload, x_laload, x_aaload, x_iastore, x_bastore, x_sastore, x_castore, x_lastore, x_aastore, x_arraylength, x_getstatic, x_goto, x_goto_w, x_ifCond, x_if_icmp, x_ifnull, x_ifnonnull, x_lookupswitch, x_invokevirtual, x_invokestatic, x_invokedynamic, x_ireturn, x_freturn, x_dreturn, x_lreturn, x_areturn, x_return_, pI_c, pL_c, pR_c, pV_i, pV_r, gI_c, gL_c, gR_c, pN_z, pN_s, lget_c, lins_z, lins_c, ldel_z, ldel_c, ldel2_z, ldel2_c, lset_i, lset_l, lset_r, lkeep_z, lkeep_c, largs_z, largs_c, cat_i, cat_l, cat_r, lkp_c, cnd_eq, cnd_ne, cnd_lt, cnd_ge, cnd_gt, cnd_le, swL_z, swL_c, rE_e, rOr_s, rOr_n, rlk_z, rlk_c, aR_c, aI_c, aII_c, aIII_c, aRI_c, aRII_c, aRIII_c, vJn, vJs, vlc, aRR_c, aRRI_c, aRRII_c, aRRIII_c, aRIIII_c, aRL_c, aRLL_c, aLL_c, aRRRI_c, aIL_c, aIIII_c, aRRIIII_c, aIRII_c, aIR_c, aLI_c, aRIR_c, aRIIR_c, hM.1.o, hM.1.f0, z0, mpOwn, RowT.now hM.1, hsd, e2, i1, i1n, i1x, i6, i6n, w1, w2]
      exact K
  refine wg (by decide) rgM2_ok tk_280 py_280 ml_280 30 (by simp [catT]) (fun N hN => ?_)
  simp [bl_280, hN _, x_iconst, x_ldc2_w, x_aconst_null, x_iload, x_lload, x_aload, x_istore, x_lstore, x_astore, x_iinc, x_iadd, x_isub, x_imul, x_idiv, x_irem, x_iand, x_ior, x_ixor, x_ishl, x_ishr, x_iushr, x_ineg, x_ladd, x_lsub, x_lmul, x_ldiv, x_lrem, x_lcmp, x_i2l, x_i2b, x_i2s, x_i2c, x_dup, x_pop, x_dup_x1, x_dup2, x_getfield, x_putfield, x_iaload, x_baload, x_saload, x_caload, x_daload, x_faload, x_laload, x_aaload, x_iastore, x_bastore, x_sastore, x_castore, x_lastore, x_aastore, x_arraylength, x_getstatic, x_goto, x_goto_w, x_ifCond, x_if_icmp, x_ifnull, x_ifnonnull, x_lookupswitch, x_invokevirtual, x_invokestatic, x_invokedynamic, x_ireturn, x_freturn, x_dreturn, x_lreturn, x_areturn, x_return_, pI_c, pL_c, pR_c, pV_i, pV_r, gI_c, gL_c, gR_c, pN_z, pN_s, lget_c, lins_z, lins_c, ldel_z, ldel_c, ldel2_z, ldel2_c, lset_i, lset_l, lset_r, lkeep_z, lkeep_c, largs_z, largs_c, cat_i, cat_l, cat_r, lkp_c, cnd_eq, cnd_ne, cnd_lt, cnd_ge, cnd_gt, cnd_le, swL_z, swL_c, rE_e, rOr_s, rOr_n, rlk_z, rlk_c, aR_c, aI_c, aII_c, aIII_c, aRI_c, aRII_c, aRIII_c, vJn, vJs, vlc, aRR_c, aRRI_c, aRRII_c, aRRIII_c, aRIIII_c, aRL_c, aRLL_c, aLL_c, aRRRI_c, aIL_c, aIIII_c, aRRIIII_c, aIRII_c, aIR_c, aLI_c, aRIR_c, aRIIR_c]
  exact K
theorem rgWo_ok {l : Launch} {g : GE} {d : Nat} : ∀ e as t σ Q, rE l g (d + 2) [(229, mpWhO)] e as t σ Q → WPc l g e (d + 2) 0 0 as t σ Q := rE_cons (fun _ _ _ _ h => m_wholeOf h) rE_nil
def mpWhl : Sp := fun as t σ Q => aR as fun a => a = 175 ∧ MK t σ ∧ Q (some (vI (setN (whB (vA σ 176)) (nM σ) : Nat))) t σ
theorem m_wholes {l : Launch} {g : GE} {d : Nat} {t : Tau} {σ : Mem} {Q : Post} {as : List TV} (h0 : mpWhl as t σ Q) : WPc l g 281 (d + 3) 0 0 as t σ Q := by
  obtain ⟨a, rfl, rfl, hk, h⟩ := aR_e h0
  clear h0
  obtain ⟨hM, hW⟩ := hk
  have n6 := hM.2.2
  have z0 := hM.2.1
  have K : Wp l g 281 (d + 3) 0 0 4 [(0, vR 175), (1, vI (setN (whB (vA σ 176)) 0 : Nat)), (2, vI (0 : Nat))] [] t σ Q := by
    refine lpU (P := fun i => Wp l g 281 (d + 3) 0 0 4 [(0, vR 175), (1, vI (setN (whB (vA σ 176)) i : Nat)), (2, vI i)] [] t σ Q) (n := nM σ) ?_ (fun i hi K => ?_)
    · refine wa (by decide) rgWo_ok tk_281 30 (fun N hN => ?_)
      simp [bl_281, hN _, x_iconst, x_ldc2_w, x_aconst_null, x_iload, x_lload, x_aload, x_istore, x_lstore, x_astore, x_iinc, x_iadd, x_isub, x_imul, x_idiv, x_irem, x_iand, x_ior, x_ixor, x_ishl, x_ishr, x_iushr, x_ineg, x_ladd, x_lsub, x_lmul, x_ldiv, x_lrem, x_lcmp, x_i2l, x_i2b, x_i2s, x_i2c, x_dup, x_pop, x_dup_x1, x_dup2, x_getfield, x_putfield, x_iaload, x_baload, x_saload, x_caload, x_daload, x_faload, x_laload, x_aaload, x_iastore, x_bastore, x_sastore, x_castore, x_lastore, x_aastore, x_arraylength, x_getstatic, x_goto, x_goto_w, x_ifCond, x_if_icmp, x_ifnull, x_ifnonnull, x_lookupswitch, x_invokevirtual, x_invokestatic, x_invokedynamic, x_ireturn, x_freturn, x_dreturn, x_lreturn, x_areturn, x_return_, pI_c, pL_c, pR_c, pV_i, pV_r, gI_c, gL_c, gR_c, pN_z, pN_s, lget_c, lins_z, lins_c, ldel_z, ldel_c, ldel2_z, ldel2_c, lset_i, lset_l, lset_r, lkeep_z, lkeep_c, largs_z, largs_c, cat_i, cat_l, cat_r, lkp_c, cnd_eq, cnd_ne, cnd_lt, cnd_ge, cnd_gt, cnd_le, swL_z, swL_c, rE_e, rOr_s, rOr_n, rlk_z, rlk_c, aR_c, aI_c, aII_c, aIII_c, aRI_c, aRII_c, aRIII_c, vJn, vJs, vlc, aRR_c, aRRI_c, aRRII_c, aRRIII_c, aRIIII_c, aRL_c, aRLL_c, aLL_c, aRRRI_c, aIL_c, aIIII_c, aRRIIII_c, aIRII_c, aIR_c, aLI_c, aRIR_c, aRIIR_c, hM.1.o, z0]
      exact h
    · have e2 := w32_succ (k := i) (by omega); have i1 : ((i : Nat) : Int) < (nM σ : Nat) := (by omega); have i1n : i < nM σ := (by omega); have i1x : ¬ nM σ ≤ i := (by omega)
      have i6 : (i : Int) < 6 := by omega
      have i6n : i < 6 := by omega
      have ho := or_set (p := whB (vA σ 176)) (k := i) (by omega)
      rw [← ho] at K
      have ew := whO_own hW (i := i) (by omega) (by omega)
      have hsd := sd_in hW (i := i) (by omega) (by omega)
      refine wa (by decide) rgWo_ok tk_281 30 (fun N hN => ?_)
      by_cases y : ownV (vA σ 176) i = 12
      · have ne : ¬ vA σ 176 (6 + i) = -1 := by omega
        rw [if_pos (by unfold whB; simpa using y)] at K
        rw [if_pos y] at ew
        simp [bl_281, hN _, x_iconst, x_ldc2_w, x_aconst_null, x_iload, x_lload, x_aload, x_istore, x_lstore, x_astore, x_iinc, x_iadd, x_isub, x_imul, x_idiv, x_irem, x_iand, x_ior, x_ixor, x_ishl, x_ishr, x_iushr, x_ineg, x_ladd, x_lsub, x_lmul, x_ldiv, x_lrem, x_lcmp, x_i2l, x_i2b, x_i2s, x_i2c, x_dup, x_pop, x_dup_x1, x_dup2, x_getfield, x_putfield, x_iaload, x_baload, x_saload, x_caload, x_daload, x_faload, x_laload, x_aaload, x_iastore, x_bastore, x_sastore, x_castore, x_lastore, x_aastore, x_arraylength, x_getstatic, x_goto, x_goto_w, x_ifCond, x_if_icmp, x_ifnull, x_ifnonnull, x_lookupswitch, x_invokevirtual, x_invokestatic, x_invokedynamic, x_ireturn, x_freturn, x_dreturn, x_lreturn, x_areturn, x_return_, pI_c, pL_c, pR_c, pV_i, pV_r, gI_c, gL_c, gR_c, pN_z, pN_s, lget_c, lins_z, lins_c, ldel_z, ldel_c, ldel2_z, ldel2_c, lset_i, lset_l, lset_r, lkeep_z, lkeep_c, largs_z, largs_c, cat_i, cat_l, cat_r, lkp_c, cnd_eq, cnd_ne, cnd_lt, cnd_ge, cnd_gt, cnd_le, swL_z, swL_c, rE_e, rOr_s, rOr_n, rlk_z, rlk_c, aR_c, aI_c, aII_c, aIII_c, aRI_c, aRII_c, aRIII_c, vJn, vJs, vlc, aRR_c, aRRI_c, aRRII_c, aRRIII_c, aRIIII_c, aRL_c, aRLL_c, aLL_c, aRRRI_c, aIL_c, aIIII_c, aRRIIII_c, aIRII_c, aIR_c, aLI_c, aRIR_c, aRIIR_c, hM.1.o, hM.1.f0, z0, mpWhO, RowT.now hM.1, e2, i1, i1n, i1x, i6, i6n, ew, ne]
        exact K
      · rw [if_neg (by unfold whB; simpa using y)] at K
        rw [if_neg y] at ew
        simp [bl_281, hN _, x_iconst, x_ldc2_w, x_aconst_null, x_iload, x_lload, x_aload, x_istore, x_lstore, x_astore, x_iinc, x_iadd, x_isub, x_imul, x_idiv, x_irem, x_iand, x_ior, x_ixor, x_ishl, x_ishr, x_iushr, x_ineg, x_ladd, x_lsub, x_lmul, x_ldiv, x_lrem, x_lcmp, x_i2l, x_i2b, x_i2s, x_i2c, x_dup, x_pop, x_dup_x1, x_dup2, x_getfield, x_putfield, x_iaload, x_baload, x_saload, x_caload, x_daload, x_faload, x_laload, x_aaload, x_iastore, x_bastore, x_sastore, x_castore, x_lastore, x_aastore, x_arraylength, x_getstatic, x_goto, x_goto_w, x_ifCond, x_if_icmp, x_ifnull, x_ifnonnull, x_lookupswitch, x_invokevirtual, x_invokestatic, x_invokedynamic, x_ireturn, x_freturn, x_dreturn, x_lreturn, x_areturn, x_return_, pI_c, pL_c, pR_c, pV_i, pV_r, gI_c, gL_c, gR_c, pN_z, pN_s, lget_c, lins_z, lins_c, ldel_z, ldel_c, ldel2_z, ldel2_c, lset_i, lset_l, lset_r, lkeep_z, lkeep_c, largs_z, largs_c, cat_i, cat_l, cat_r, lkp_c, cnd_eq, cnd_ne, cnd_lt, cnd_ge, cnd_gt, cnd_le, swL_z, swL_c, rE_e, rOr_s, rOr_n, rlk_z, rlk_c, aR_c, aI_c, aII_c, aIII_c, aRI_c, aRII_c, aRIII_c, vJn, vJs, vlc, aRR_c, aRRI_c, aRRII_c, aRRIII_c, aRIIII_c, aRL_c, aRLL_c, aLL_c, aRRRI_c, aIL_c, aIIII_c, aRRIIII_c, aIRII_c, aIR_c, aLI_c, aRIR_c, aRIIR_c, hM.1.o, hM.1.f0, z0, mpWhO, RowT.now hM.1, e2, i1, i1n, i1x, i6, i6n, ew]
        exact K
  refine wg (by decide) rgWo_ok tk_281 py_281 ml_281 30 (by simp [catT]) (fun N hN => ?_)
  simp [bl_281, hN _, x_iconst, x_ldc2_w, x_aconst_null, x_iload, x_lload, x_aload, x_istore, x_lstore, x_astore, x_iinc, x_iadd, x_isub, x_imul, x_idiv, x_irem, x_iand, x_ior, x_ixor, x_ishl, x_ishr, x_iushr, x_ineg, x_ladd, x_lsub, x_lmul, x_ldiv, x_lrem, x_lcmp, x_i2l, x_i2b, x_i2s, x_i2c, x_dup, x_pop, x_dup_x1, x_dup2, x_getfield, x_putfield, x_iaload, x_baload, x_saload, x_caload, x_daload, x_faload, x_laload, x_aaload, x_iastore, x_bastore, x_sastore, x_castore, x_lastore, x_aastore, x_arraylength, x_getstatic, x_goto, x_goto_w, x_ifCond, x_if_icmp, x_ifnull, x_ifnonnull, x_lookupswitch, x_invokevirtual, x_invokestatic, x_invokedynamic, x_ireturn, x_freturn, x_dreturn, x_lreturn, x_areturn, x_return_, pI_c, pL_c, pR_c, pV_i, pV_r, gI_c, gL_c, gR_c, pN_z, pN_s, lget_c, lins_z, lins_c, ldel_z, ldel_c, ldel2_z, ldel2_c, lset_i, lset_l, lset_r, lkeep_z, lkeep_c, largs_z, largs_c, cat_i, cat_l, cat_r, lkp_c, cnd_eq, cnd_ne, cnd_lt, cnd_ge, cnd_gt, cnd_le, swL_z, swL_c, rE_e, rOr_s, rOr_n, rlk_z, rlk_c, aR_c, aI_c, aII_c, aIII_c, aRI_c, aRII_c, aRIII_c, vJn, vJs, vlc, aRR_c, aRRI_c, aRRII_c, aRRIII_c, aRIIII_c, aRL_c, aRLL_c, aLL_c, aRRRI_c, aIL_c, aIIII_c, aRRIIII_c, aIRII_c, aIR_c, aLI_c, aRIR_c, aRIIR_c]
  exact K
theorem sumW_V {n : Nat} {M V : Int → Int} (h : WFV n M V) : sumW V n = sumN V n ∧ sumW (fun i => V (36 + i)) n = sumN (fun i => V (36 + i)) n ∧ sumW (fun i => V (42 + i)) n = sumN (fun i => V (42 + i)) n := by
  have n6 := h.1
  refine ⟨sumW_eq n (by omega) (fun i i0 i1 => ?_), sumW_eq n (by omega) (fun i i0 i1 => ?_), sumW_eq n (by omega) (fun i i0 i1 => ?_)⟩
  · have := (h.2.1 i i0 i1).1; omega
  · have := (h.2.1 i i0 i1).2.2.2.2.1; omega
  · have := (h.2.1 i i0 i1).2.2.2.2.2; omega
abbrev rgNc : Reg := (280, mpFrg) :: (281, mpWhl) :: rgNw
theorem rgNc_ok {l : Launch} {g : GE} {d : Nat} : ∀ e as t σ Q, rE l g (d + 5) rgNc e as t σ Q → WPc l g e (d + 5) 0 0 as t σ Q := rE_cons (fun _ _ _ _ h => m_foreign h) (rE_cons (fun _ _ _ _ h => m_wholes h) rgNw_ok)
set_option maxHeartbeats 1000000 in
theorem mo_count {l : Launch} {g : GE} {d : Nat} {t : Tau} {σ : Mem} {Q : Post} {w : Int} (hk : MK t σ) (h : Q (some (vI (cntA (nM σ) (vA σ 176) (σ 175 2) (σ 175 30) (σ 175 34) (σ 175 21) (σ 175 7) (σ 175 5) w))) t (up σ 175 8 0)) : WPc l g 282 (d + 6) 0 0 [vR 175, vI w] t σ Q := by
  have hk' := hk
  obtain ⟨hM, hW⟩ := hk
  have z0 := hM.2.1
  have x1 : σ 176 48 = vA σ 176 48 := vA_at (by omega) (by omega)
  have x2 : σ 176 49 = vA σ 176 49 := vA_at (by omega) (by omega)
  obtain ⟨w1, w2, w3⟩ := sumW_V hW
  have w1' : sumW (fun i => vA σ 176 i) (nM σ) = sumN (vA σ 176) (nM σ) := w1
  have hk2 : MK t (up σ 175 8 0) := by rw [mk_up (by omega) (by omega) (by omega)]; exact hk'
  unfold cntA at h
  refine wg (by decide) rgNc_ok tk_282 py_282 ml_282 30 (by simp [catT]) (fun N hN => ?_)
  simp [bl_282, hN _, x_iconst, x_ldc2_w, x_aconst_null, x_iload, x_lload, x_aload, x_istore, x_lstore, x_astore, x_iinc, x_iadd, x_isub, x_imul, x_idiv, x_irem, x_iand, x_ior, x_ixor, x_ishl, x_ishr, x_iushr, x_ineg, x_ladd, x_lsub, x_lmul, x_ldiv, x_lrem, x_lcmp, x_i2l, x_i2b, x_i2s, x_i2c, x_dup, x_pop, x_dup_x1, x_dup2, x_getfield, x_putfield, x_iaload, x_baload, x_saload, x_caload, x_daload, x_faload, x_laload, x_aaload, x_iastore, x_bastore, x_sastore, x_castore, x_lastore, x_aastore, x_arraylength, x_getstatic, x_goto, x_goto_w, x_ifCond, x_if_icmp, x_ifnull, x_ifnonnull, x_lookupswitch, x_invokevirtual, x_invokestatic, x_invokedynamic, x_ireturn, x_freturn, x_dreturn, x_lreturn, x_areturn, x_return_, pI_c, pL_c, pR_c, pV_i, pV_r, gI_c, gL_c, gR_c, pN_z, pN_s, lget_c, lins_z, lins_c, ldel_z, ldel_c, ldel2_z, ldel2_c, lset_i, lset_l, lset_r, lkeep_z, lkeep_c, largs_z, largs_c, cat_i, cat_l, cat_r, lkp_c, cnd_eq, cnd_ne, cnd_lt, cnd_ge, cnd_gt, cnd_le, swL_z, swL_c, rE_e, rOr_s, rOr_n, rlk_z, rlk_c, aR_c, aI_c, aII_c, aIII_c, aRI_c, aRII_c, aRIII_c, vJn, vJs, vlc, aRR_c, aRRI_c, aRRII_c, aRRIII_c, aRIIII_c, aRL_c, aRLL_c, aLL_c, aRRRI_c, aIL_c, aIIII_c, aRRIIII_c, aIRII_c, aIR_c, aLI_c, aRIR_c, aRIIR_c, hM.1.o, hM.1.f0, hM.1.t176, hM.1.l176, mpSumOf, mpFrg, mpWhl, hM, md_up, nM_up, vA_up, RowT.now hM.1, hk2, z0, x1, x2, up_ap, w1, w1', w2, w3]
  by_cases c0 : w = 0
  · subst c0; simpa using h
  by_cases c1 : w = 1
  · subst c1; simpa using h
  by_cases c2 : w = 2
  · subst c2; simpa using h
  by_cases c3 : w = 3
  · subst c3; simpa using h
  by_cases c4 : w = 4
  · subst c4; simpa using h
  by_cases c5 : w = 5
  · subst c5; simpa using h
  by_cases c6 : w = 6
  · subst c6; simpa using h
  by_cases c7 : w = 7
  · subst c7; simpa using h
  by_cases c8 : w = 8
  · subst c8; simpa using h
  by_cases c9 : w = 9
  · subst c9; simpa using h
  by_cases c10 : w = 10
  · subst c10; simpa using h
  by_cases c11 : w = 11
  · subst c11; simpa using h
  by_cases c12 : w = 12
  · subst c12; simpa using h
  by_cases c13 : w = 13
  · subst c13; simpa using h
  simpa [c0, c1, c2, c3, c4, c5, c6, c7, c8, c9, c10, c11, c12, c13] using h
