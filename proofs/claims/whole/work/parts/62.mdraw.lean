/-! the reference: draw, layDeep -/
def mpDraw : Sp := fun as t σ Q => aRI as fun a n => a = 175 ∧ TM t ∧ 0 < n ∧ Q (some (vI (drw (σ 175 36) n))) t (up σ 175 36 (nxR (σ 175 36)))
theorem m_draw {l : Launch} {g : GE} {d : Nat} {t : Tau} {σ : Mem} {Q : Post} {as : List TV} (h0 : mpDraw as t σ Q) : WPc l g 276 (d + 1) 0 0 as t σ Q := by
  obtain ⟨a, n, rfl, rfl, hM, hn, h⟩ := aRI_e h0
  clear h0
  unfold drw nxR at h
  refine wg (by decide) rE_nil tk_276 py_276 ml_276 30 (by simp [catT]) (fun N hN => ?_)
  simp [bl_276, hN _, x_iconst, x_ldc2_w, x_aconst_null, x_iload, x_lload, x_aload, x_istore, x_lstore, x_astore, x_iinc, x_iadd, x_isub, x_imul, x_idiv, x_irem, x_iand, x_ior, x_ixor, x_ishl, x_ishr, x_iushr, x_ineg, x_ladd, x_lsub, x_lmul, x_ldiv, x_lrem, x_lcmp, x_i2l, x_i2b, x_i2s, x_i2c, x_dup, x_pop, x_dup_x1, x_dup2, x_getfield, x_putfield, x_iaload, x_baload, x_saload, x_caload, x_daload, x_faload, x_laload, x_aaload, x_iastore, x_bastore, x_sastore, x_castore, x_lastore, x_aastore, x_arraylength, x_getstatic, x_goto, x_goto_w, x_ifCond, x_if_icmp, x_ifnull, x_ifnonnull, x_lookupswitch, x_invokevirtual, x_invokestatic, x_invokedynamic, x_ireturn, x_freturn, x_dreturn, x_lreturn, x_areturn, x_return_, pI_c, pL_c, pR_c, pV_i, pV_r, gI_c, gL_c, gR_c, pN_z, pN_s, lget_c, lins_z, lins_c, ldel_z, ldel_c, ldel2_z, ldel2_c, lset_i, lset_l, lset_r, lkeep_z, lkeep_c, largs_z, largs_c, cat_i, cat_l, cat_r, lkp_c, cnd_eq, cnd_ne, cnd_lt, cnd_ge, cnd_gt, cnd_le, swL_z, swL_c, rE_e, rOr_s, rOr_n, rlk_z, rlk_c, aR_c, aI_c, aII_c, aIII_c, aRI_c, aRII_c, aRIII_c, vJn, vJs, vlc, aRR_c, aRRI_c, aRRII_c, aRRIII_c, aRIIII_c, aRL_c, aRLL_c, aLL_c, aRRRI_c, aIL_c, aIIII_c, aRRIIII_c, aIRII_c, aIR_c, aLI_c, aRIR_c, aRIIR_c, hM.o, up_ap, Int.not_le.mpr hn, hn]
  exact ⟨by omega, h⟩
def mpLyD : Sp := fun as t σ Q => aRI as fun a k => a = 175 ∧ TM t ∧ (0 ≤ k ∧ 50 * k + 50 ≤ lenOf t 188) ∧ (lenOf t 188 : Int) ≤ 1000 ∧ ∀ σ', RowTo σ σ' 190 (sgA (σ 188) k) → Q none t σ'
theorem m_layDeep {l : Launch} {g : GE} {d : Nat} {t : Tau} {σ : Mem} {Q : Post} {as : List TV} (h0 : mpLyD as t σ Q) : WPc l g 239 (d + 1) 0 0 as t σ Q := by
  obtain ⟨a, k, rfl, rfl, hM, ⟨k0, k1⟩, kl, h⟩ := aRI_e h0
  clear h0
  have w1 : w32 (50 * k) = 50 * k := w32_id (by omega) (by omega)
  have x1 : ∀ j, 0 ≤ j → j < 50 → σ 188 (50 * k + j) = sgA (σ 188) k j := fun j j0 j1 => by
    unfold sgA clp
    rw [if_pos ⟨j0, j1⟩]
  have K : ∀ σ', (∀ o, o ≠ 190 → σ' o = σ o) → (∀ j, 0 ≤ j → j < ((0 : Nat) : Int) → σ' 190 j = sgA (σ 188) k j) → Wp l g 239 (d + 1) 0 0 2 [(0, vR 175), (1, vI k), (2, vI (0 : Nat))] [] t σ' Q := by
    refine lpU (P := fun i => ∀ σ', (∀ o, o ≠ 190 → σ' o = σ o) → (∀ j, 0 ≤ j → j < ((i : Nat) : Int) → σ' 190 j = sgA (σ 188) k j) → Wp l g 239 (d + 1) 0 0 2 [(0, vR 175), (1, vI k), (2, vI i)] [] t σ' Q) (n := 50) ?_ (fun i hi K σ' h1 h3 => ?_)
    · intro σ' h1 h3
      refine wa (by decide) rE_nil tk_239 30 (fun N hN => ?_)
      simp [bl_239, hN _, x_iconst, x_ldc2_w, x_aconst_null, x_iload, x_lload, x_aload, x_istore, x_lstore, x_astore, x_iinc, x_iadd, x_isub, x_imul, x_idiv, x_irem, x_iand, x_ior, x_ixor, x_ishl, x_ishr, x_iushr, x_ineg, x_ladd, x_lsub, x_lmul, x_ldiv, x_lrem, x_lcmp, x_i2l, x_i2b, x_i2s, x_i2c, x_dup, x_pop, x_dup_x1, x_dup2, x_getfield, x_putfield, x_iaload, x_baload, x_saload, x_caload, x_daload, x_faload, x_laload, x_aaload, x_iastore, x_bastore, x_sastore, x_castore, x_lastore, x_aastore, x_arraylength, x_getstatic, x_goto, x_goto_w, x_ifCond, x_if_icmp, x_ifnull, x_ifnonnull, x_lookupswitch, x_invokevirtual, x_invokestatic, x_invokedynamic, x_ireturn, x_freturn, x_dreturn, x_lreturn, x_areturn, x_return_, pI_c, pL_c, pR_c, pV_i, pV_r, gI_c, gL_c, gR_c, pN_z, pN_s, lget_c, lins_z, lins_c, ldel_z, ldel_c, ldel2_z, ldel2_c, lset_i, lset_l, lset_r, lkeep_z, lkeep_c, largs_z, largs_c, cat_i, cat_l, cat_r, lkp_c, cnd_eq, cnd_ne, cnd_lt, cnd_ge, cnd_gt, cnd_le, swL_z, swL_c, rE_e, rOr_s, rOr_n, rlk_z, rlk_c, aR_c, aI_c, aII_c, aIII_c, aRI_c, aRII_c, aRIII_c, vJn, vJs, vlc, aRR_c, aRRI_c, aRRII_c, aRRIII_c, aRIIII_c, aRL_c, aRLL_c, aLL_c, aRRRI_c, aIL_c, aIIII_c, aRRIIII_c, aIRII_c, aIR_c, aLI_c, aRIR_c, aRIIR_c]
      exact h σ' ⟨h1, by rw [vA_of (σ := σ') (r := 190) rfl (fun j j0 j1 => h3 j j0 (by omega)), sgA_clp]⟩
    · have e2 := w32_succ (k := i) (by omega); have i1 : ((i : Nat) : Int) < 50 := (by omega); have i1n : i < 50 := (by omega); have i1x : ¬ (50 : Int) ≤ (i : Nat) := (by omega)
      have w2 : w32 (50 * k + i) = 50 * k + i := w32_id (by omega) (by omega)
      have w3 : (0 : Int) ≤ 50 * k + i := by omega
      have w4 : 50 * k + (i : Int) < lenOf t 188 := by omega
      have x2 := x1 i (by omega) (by omega)
      have h8 := h1 188 (by omega)
      refine wa (by decide) rE_nil tk_239 30 (fun N hN => ?_)
      simp [bl_239, hN _, x_iconst, x_ldc2_w, x_aconst_null, x_iload, x_lload, x_aload, x_istore, x_lstore, x_astore, x_iinc, x_iadd, x_isub, x_imul, x_idiv, x_irem, x_iand, x_ior, x_ixor, x_ishl, x_ishr, x_iushr, x_ineg, x_ladd, x_lsub, x_lmul, x_ldiv, x_lrem, x_lcmp, x_i2l, x_i2b, x_i2s, x_i2c, x_dup, x_pop, x_dup_x1, x_dup2, x_getfield, x_putfield, x_iaload, x_baload, x_saload, x_caload, x_daload, x_faload, x_laload, x_aaload, x_iastore, x_bastore, x_sastore, x_castore, x_lastore, x_aastore, x_arraylength, x_getstatic, x_goto, x_goto_w, x_ifCond, x_if_icmp, x_ifnull, x_ifnonnull, x_lookupswitch, x_invokevirtual, x_invokestatic, x_invokedynamic, x_ireturn, x_freturn, x_dreturn, x_lreturn, x_areturn, x_return_, pI_c, pL_c, pR_c, pV_i, pV_r, gI_c, gL_c, gR_c, pN_z, pN_s, lget_c, lins_z, lins_c, ldel_z, ldel_c, ldel2_z, ldel2_c, lset_i, lset_l, lset_r, lkeep_z, lkeep_c, largs_z, largs_c, cat_i, cat_l, cat_r, lkp_c, cnd_eq, cnd_ne, cnd_lt, cnd_ge, cnd_gt, cnd_le, swL_z, swL_c, rE_e, rOr_s, rOr_n, rlk_z, rlk_c, aR_c, aI_c, aII_c, aIII_c, aRI_c, aRII_c, aRIII_c, vJn, vJs, vlc, aRR_c, aRRI_c, aRRII_c, aRRIII_c, aRIIII_c, aRL_c, aRLL_c, aLL_c, aRRRI_c, aIL_c, aIIII_c, aRRIIII_c, aIRII_c, aIR_c, aLI_c, aRIR_c, aRIIR_c, hM.o, hM.f25, hM.f27, hM.t188, hM.t190, hM.l190, e2, i1, i1n, i1x, w1, w2, w3, w4, h8, x2]
      refine K _ (fun o a => by rw [up_ne a]; exact h1 o a) (fun j j0 j1 => ?_)
      rw [up_ap]
      by_cases hj : j = i
      · rw [if_pos ⟨rfl, hj⟩, hj]
      · rw [if_neg (fun z => hj z.2)]; exact h3 j j0 (by omega)
  have K := K σ (fun _ _ => rfl) (fun j j0 j1 => by omega)
  refine wg (by decide) rE_nil tk_239 py_239 ml_239 30 (by simp [catT]) (fun N hN => ?_)
  simp [bl_239, hN _, x_iconst, x_ldc2_w, x_aconst_null, x_iload, x_lload, x_aload, x_istore, x_lstore, x_astore, x_iinc, x_iadd, x_isub, x_imul, x_idiv, x_irem, x_iand, x_ior, x_ixor, x_ishl, x_ishr, x_iushr, x_ineg, x_ladd, x_lsub, x_lmul, x_ldiv, x_lrem, x_lcmp, x_i2l, x_i2b, x_i2s, x_i2c, x_dup, x_pop, x_dup_x1, x_dup2, x_getfield, x_putfield, x_iaload, x_baload, x_saload, x_caload, x_daload, x_faload, x_laload, x_aaload, x_iastore, x_bastore, x_sastore, x_castore, x_lastore, x_aastore, x_arraylength, x_getstatic, x_goto, x_goto_w, x_ifCond, x_if_icmp, x_ifnull, x_ifnonnull, x_lookupswitch, x_invokevirtual, x_invokestatic, x_invokedynamic, x_ireturn, x_freturn, x_dreturn, x_lreturn, x_areturn, x_return_, pI_c, pL_c, pR_c, pV_i, pV_r, gI_c, gL_c, gR_c, pN_z, pN_s, lget_c, lins_z, lins_c, ldel_z, ldel_c, ldel2_z, ldel2_c, lset_i, lset_l, lset_r, lkeep_z, lkeep_c, largs_z, largs_c, cat_i, cat_l, cat_r, lkp_c, cnd_eq, cnd_ne, cnd_lt, cnd_ge, cnd_gt, cnd_le, swL_z, swL_c, rE_e, rOr_s, rOr_n, rlk_z, rlk_c, aR_c, aI_c, aII_c, aIII_c, aRI_c, aRII_c, aRIII_c, vJn, vJs, vlc, aRR_c, aRRI_c, aRRII_c, aRRIII_c, aRIIII_c, aRL_c, aRLL_c, aLL_c, aRRRI_c, aIL_c, aIIII_c, aRRIIII_c, aIRII_c, aIR_c, aLI_c, aRIR_c, aRIIR_c]
  exact K
