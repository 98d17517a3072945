/-! the reference: later, motley, order, patched -/
theorem lay_v {σ σ1 : Mem} {f r : Int} (h : ∀ j, σ1 r j = if (0 : Int) ≤ j ∧ j < 0 + 50 then σ f (j - 0) else σ r j) : vA σ1 r = vA σ f := by
  funext j
  unfold vA clp
  split
  · rename_i hc; rw [h j, if_pos (by omega)]; congr 1; omega
  · rfl
theorem mo_later {l : Launch} {g : GE} {d : Nat} {t : Tau} {σ : Mem} {Q : Post} {s k : Int} (hk : MK t σ) (h : ansM (laterQ (nM σ) (mM σ) (vA σ 176) s k) t σ Q) : WPc l g 228 (d + 6) 0 0 [vR 175, vI s, vI k] t σ Q := by
  obtain ⟨hM, hW⟩ := hk
  have n6 := hM.2.2
  unfold ansM laterQ at h
  by_cases hs : (0 ≤ s ∧ s < nM σ) ∧ (0 ≤ k ∧ k ≤ 99)
  · rw [if_pos hs] at h
    obtain ⟨⟨s0, s1⟩, k0, k1⟩ := hs
    generalize hWd : daysV (nM σ) (mM σ) (vA σ 176) k.toNat = W at h
    have s6 : s < 6 := by omega
    have e3 : w32 (6 + s) = 6 + s := w32_id (by omega) (by omega)
    have e4 : (0 : Int) ≤ 6 + s := by omega
    have e5 : 6 + s < 50 := by omega
    have K : ∀ σ', (QFM σ σ' ∧ σ' 175 8 = 0 ∧ vA σ' 186 = W) → rmIs σ' (rowN (fun f => partV W s f) 0) → Wp l g 228 (d + 6) 0 0 53 [(0, vR 175), (1, vI s), (3, vI (0 : Nat))] [] t σ' Q := by
      refine lpU (P := fun j => ∀ σ', (QFM σ σ' ∧ σ' 175 8 = 0 ∧ vA σ' 186 = W) → rmIs σ' (rowN (fun f => partV W s f) j) → Wp l g 228 (d + 6) 0 0 53 [(0, vR 175), (1, vI s), (3, vI j)] [] t σ' Q) (n := 4) ?_ (fun j hj K σ' hσ hr => ?_)
      · rintro σ' ⟨h1, h2, h3⟩ hr
        have x1 : σ' 186 (6 + s) = W (6 + s) := by rw [vA_at (σ := σ') (r := 186) e4 e5, h3]
        refine wa (by decide) rgN_ok tk_228 30 (fun N hN => ?_)
        simp [bl_228, hN _, x_iconst, x_ldc2_w, x_aconst_null, x_iload, x_lload, x_aload, x_istore, x_lstore, x_astore, x_iinc, x_iadd, x_isub, x_imul, x_idiv, x_irem, x_iand, x_ior, x_ixor, x_ishl, x_ishr, x_iushr, x_ineg, x_ladd, x_lsub, x_lmul, x_ldiv, x_lrem, x_lcmp, x_i2l, x_i2b, x_i2s, x_i2c, x_dup, x_pop, x_dup_x1, x_dup2, x_getfield, x_putfield, x_iaload, x_baload, x_saload, x_caload, x_daload, x_faload, x_laload, x_aaload, x_iastore, x_bastore, x_sastore, x_castore, x_lastore, x_aastore, x_arraylength, x_getstatic, x_goto, x_goto_w, x_ifCond, x_if_icmp, x_ifnull, x_ifnonnull, x_lookupswitch, x_invokevirtual, x_invokestatic, x_invokedynamic, x_ireturn, x_freturn, x_dreturn, x_lreturn, x_areturn, x_return_, pI_c, pL_c, pR_c, pV_i, pV_r, gI_c, gL_c, gR_c, pN_z, pN_s, lget_c, lins_z, lins_c, ldel_z, ldel_c, ldel2_z, ldel2_c, lset_i, lset_l, lset_r, lkeep_z, lkeep_c, largs_z, largs_c, cat_i, cat_l, cat_r, lkp_c, cnd_eq, cnd_ne, cnd_lt, cnd_ge, cnd_gt, cnd_le, swL_z, swL_c, rE_e, rOr_s, rOr_n, rlk_z, rlk_c, aR_c, aI_c, aII_c, aIII_c, aRI_c, aRII_c, aRIII_c, vJn, vJs, vlc, aRR_c, aRRI_c, aRRII_c, aRRIII_c, aRIIII_c, aRL_c, aRLL_c, aLL_c, aRRRI_c, aIL_c, aIIII_c, aRRIIII_c, aIRII_c, aIR_c, aLI_c, aRIR_c, aRIIR_c, hM.1.o, hM.1.f23, hM.1.t186, hM.1.l186, e3, e4, e5, x1]
        exact h σ' ⟨h1, h2, hr⟩
      · obtain ⟨h1, h2, h3⟩ := hσ
        have e2 := w32_succ (k := j) (by omega); have i1 : ((j : Nat) : Int) < 4 := (by omega); have i1n : j < 4 := (by omega); have i1x : ¬ (4 : Int) ≤ (j : Nat) := (by omega)
        have hl := rowN_l (fun f => partV W s f) j
        have a1 : σ' 175 7 = j := by rw [hr.1, hl]
        have K := K (up (up σ' 179 (σ' 175 7) (partV W s j)) 175 7 (σ' 175 7 + 1)) ⟨(h1.up s179).up sf7, by simp [up_ap, h2], by rw [vA_up (by omega), vA_up (by omega)]; exact h3⟩ (hr.add (by omega))
        rw [a1] at K
        refine wa (by decide) rgN_ok tk_228 30 (fun N hN => ?_)
        simp [bl_228, hN _, x_iconst, x_ldc2_w, x_aconst_null, x_iload, x_lload, x_aload, x_istore, x_lstore, x_astore, x_iinc, x_iadd, x_isub, x_imul, x_idiv, x_irem, x_iand, x_ior, x_ixor, x_ishl, x_ishr, x_iushr, x_ineg, x_ladd, x_lsub, x_lmul, x_ldiv, x_lrem, x_lcmp, x_i2l, x_i2b, x_i2s, x_i2c, x_dup, x_pop, x_dup_x1, x_dup2, x_getfield, x_putfield, x_iaload, x_baload, x_saload, x_caload, x_daload, x_faload, x_laload, x_aaload, x_iastore, x_bastore, x_sastore, x_castore, x_lastore, x_aastore, x_arraylength, x_getstatic, x_goto, x_goto_w, x_ifCond, x_if_icmp, x_ifnull, x_ifnonnull, x_lookupswitch, x_invokevirtual, x_invokestatic, x_invokedynamic, x_ireturn, x_freturn, x_dreturn, x_lreturn, x_areturn, x_return_, pI_c, pL_c, pR_c, pV_i, pV_r, gI_c, gL_c, gR_c, pN_z, pN_s, lget_c, lins_z, lins_c, ldel_z, ldel_c, ldel2_z, ldel2_c, lset_i, lset_l, lset_r, lkeep_z, lkeep_c, largs_z, largs_c, cat_i, cat_l, cat_r, lkp_c, cnd_eq, cnd_ne, cnd_lt, cnd_ge, cnd_gt, cnd_le, swL_z, swL_c, rE_e, rOr_s, rOr_n, rlk_z, rlk_c, aR_c, aI_c, aII_c, aIII_c, aRI_c, aRII_c, aRIII_c, vJn, vJs, vlc, aRR_c, aRRI_c, aRRII_c, aRRIII_c, aRIIII_c, aRL_c, aRLL_c, aLL_c, aRRRI_c, aIL_c, aIIII_c, aRRIIII_c, aIRII_c, aIR_c, aLI_c, aRIR_c, aRIIR_c, hM.1.o, hM.1, hM.1.f23, mpPart, mpTell, RowT.thn hM.1, s0, s6, h3, e2, i1, i1n, i1x, a1]
        exact ⟨by omega, K⟩
    refine wg (by decide) rgN_ok ts_228 py_228 ml_228 30 (by simp [catT]) (fun N hN => ?_)
    simp [bs_228, hN _, x_iconst, x_ldc2_w, x_aconst_null, x_iload, x_lload, x_aload, x_istore, x_lstore, x_astore, x_iinc, x_iadd, x_isub, x_imul, x_idiv, x_irem, x_iand, x_ior, x_ixor, x_ishl, x_ishr, x_iushr, x_ineg, x_ladd, x_lsub, x_lmul, x_ldiv, x_lrem, x_lcmp, x_i2l, x_i2b, x_i2s, x_i2c, x_dup, x_pop, x_dup_x1, x_dup2, x_getfield, x_putfield, x_iaload, x_baload, x_saload, x_caload, x_daload, x_faload, x_laload, x_aaload, x_iastore, x_bastore, x_sastore, x_castore, x_lastore, x_aastore, x_arraylength, x_getstatic, x_goto, x_goto_w, x_ifCond, x_if_icmp, x_ifnull, x_ifnonnull, x_lookupswitch, x_invokevirtual, x_invokestatic, x_invokedynamic, x_ireturn, x_freturn, x_dreturn, x_lreturn, x_areturn, x_return_, pI_c, pL_c, pR_c, pV_i, pV_r, gI_c, gL_c, gR_c, pN_z, pN_s, lget_c, lins_z, lins_c, ldel_z, ldel_c, ldel2_z, ldel2_c, lset_i, lset_l, lset_r, lkeep_z, lkeep_c, largs_z, largs_c, cat_i, cat_l, cat_r, lkp_c, cnd_eq, cnd_ne, cnd_lt, cnd_ge, cnd_gt, cnd_le, swL_z, swL_c, rE_e, rOr_s, rOr_n, rlk_z, rlk_c, aR_c, aI_c, aII_c, aIII_c, aRI_c, aRII_c, aRIII_c, vJn, vJs, vlc, aRR_c, aRRI_c, aRRII_c, aRRIII_c, aRIIII_c, aRL_c, aRLL_c, aLL_c, aRRRI_c, aIL_c, aIIII_c, aRRIIII_c, aIRII_c, aIR_c, aLI_c, aRIR_c, aRIIR_c, hM.1.o, hM.1.f0, hM.1.f23, mpShip, mpIn, mpLay, hM, md_up, nM_up, RowT.now hM.1, hM.1.t186, hM.1.l186, s0, s1, Int.not_le.mpr s1, Int.not_lt.mpr s0, k0, k1, Int.not_lt.mpr k0, Int.not_lt.mpr k1]
    intro σ1 y1 y2
    have q1 : QFM σ σ1 := ⟨fun o a b => by rw [y1 o (fun z => b (by rw [z]; unfold scrM; omega)), up_ne a], fun j a => by rw [y1 175 (by omega), up_ap, if_neg (fun z => a (by rw [z.2]; unfold scrF; omega))]⟩
    have v1 : vA σ1 186 = vA σ 176 := lay_v (f := 176) (fun j => by rw [y2 j]; simp [up_ap])
    have hM1 := q1.md hM
    simp [sg_228_25_1, hN _, x_iconst, x_ldc2_w, x_aconst_null, x_iload, x_lload, x_aload, x_istore, x_lstore, x_astore, x_iinc, x_iadd, x_isub, x_imul, x_idiv, x_irem, x_iand, x_ior, x_ixor, x_ishl, x_ishr, x_iushr, x_ineg, x_ladd, x_lsub, x_lmul, x_ldiv, x_lrem, x_lcmp, x_i2l, x_i2b, x_i2s, x_i2c, x_dup, x_pop, x_dup_x1, x_dup2, x_getfield, x_putfield, x_iaload, x_baload, x_saload, x_caload, x_daload, x_faload, x_laload, x_aaload, x_iastore, x_bastore, x_sastore, x_castore, x_lastore, x_aastore, x_arraylength, x_getstatic, x_goto, x_goto_w, x_ifCond, x_if_icmp, x_ifnull, x_ifnonnull, x_lookupswitch, x_invokevirtual, x_invokestatic, x_invokedynamic, x_ireturn, x_freturn, x_dreturn, x_lreturn, x_areturn, x_return_, pI_c, pL_c, pR_c, pV_i, pV_r, gI_c, gL_c, gR_c, pN_z, pN_s, lget_c, lins_z, lins_c, ldel_z, ldel_c, ldel2_z, ldel2_c, lset_i, lset_l, lset_r, lkeep_z, lkeep_c, largs_z, largs_c, cat_i, cat_l, cat_r, lkp_c, cnd_eq, cnd_ne, cnd_lt, cnd_ge, cnd_gt, cnd_le, swL_z, swL_c, rE_e, rOr_s, rOr_n, rlk_z, rlk_c, aR_c, aI_c, aII_c, aIII_c, aRI_c, aRII_c, aRIII_c, vJn, vJs, vlc, aRR_c, aRRI_c, aRRII_c, aRRIII_c, aRIIII_c, aRL_c, aRLL_c, aLL_c, aRRRI_c, aIL_c, aIIII_c, aRRIIII_c, aIRII_c, aIR_c, aLI_c, aRIR_c, aRIIR_c, hM.1.o, hM.1.f23, mpDays, hM1, ARow, RowT.thn hM.1, q1.n, q1.m, v1, hW, k0]
    refine ⟨by omega, fun σ2 T => ?_⟩
    rw [hWd] at T
    have x8 : σ2 175 8 = 0 := by rw [T.1 175 (by omega), y1 175 (by omega)]; simp [up_ap]
    simp [sg_228_25_2, hN _, x_iconst, x_ldc2_w, x_aconst_null, x_iload, x_lload, x_aload, x_istore, x_lstore, x_astore, x_iinc, x_iadd, x_isub, x_imul, x_idiv, x_irem, x_iand, x_ior, x_ixor, x_ishl, x_ishr, x_iushr, x_ineg, x_ladd, x_lsub, x_lmul, x_ldiv, x_lrem, x_lcmp, x_i2l, x_i2b, x_i2s, x_i2c, x_dup, x_pop, x_dup_x1, x_dup2, x_getfield, x_putfield, x_iaload, x_baload, x_saload, x_caload, x_daload, x_faload, x_laload, x_aaload, x_iastore, x_bastore, x_sastore, x_castore, x_lastore, x_aastore, x_arraylength, x_getstatic, x_goto, x_goto_w, x_ifCond, x_if_icmp, x_ifnull, x_ifnonnull, x_lookupswitch, x_invokevirtual, x_invokestatic, x_invokedynamic, x_ireturn, x_freturn, x_dreturn, x_lreturn, x_areturn, x_return_, pI_c, pL_c, pR_c, pV_i, pV_r, gI_c, gL_c, gR_c, pN_z, pN_s, lget_c, lins_z, lins_c, ldel_z, ldel_c, ldel2_z, ldel2_c, lset_i, lset_l, lset_r, lkeep_z, lkeep_c, largs_z, largs_c, cat_i, cat_l, cat_r, lkp_c, cnd_eq, cnd_ne, cnd_lt, cnd_ge, cnd_gt, cnd_le, swL_z, swL_c, rE_e, rOr_s, rOr_n, rlk_z, rlk_c, aR_c, aI_c, aII_c, aIII_c, aRI_c, aRII_c, aRIII_c, vJn, vJs, vlc, aRR_c, aRRI_c, aRRII_c, aRRIII_c, aRIIII_c, aRL_c, aRLL_c, aLL_c, aRRRI_c, aIL_c, aIIII_c, aRRIIII_c, aIRII_c, aIR_c, aLI_c, aRIR_c, aRIIR_c, hM.1.o]
    refine K _ ⟨(q1.tr ⟨fun o a b => T.1 o (fun z => b (by rw [z]; unfold scrM; omega)), fun j _ => by rw [T.1 175 (by omega)]⟩).up sf7, by simp [up_ap, x8], by rw [vA_up (by omega)]; exact T.2⟩ rmIs.nil
  · rw [if_neg hs] at h
    have h := h _ QTM.rf
    refine wg (by decide) rgN_ok tk_228 py_228 ml_228 30 (by simp [catT]) (fun N hN => ?_)
    simp [bl_228, hN _, x_iconst, x_ldc2_w, x_aconst_null, x_iload, x_lload, x_aload, x_istore, x_lstore, x_astore, x_iinc, x_iadd, x_isub, x_imul, x_idiv, x_irem, x_iand, x_ior, x_ixor, x_ishl, x_ishr, x_iushr, x_ineg, x_ladd, x_lsub, x_lmul, x_ldiv, x_lrem, x_lcmp, x_i2l, x_i2b, x_i2s, x_i2c, x_dup, x_pop, x_dup_x1, x_dup2, x_getfield, x_putfield, x_iaload, x_baload, x_saload, x_caload, x_daload, x_faload, x_laload, x_aaload, x_iastore, x_bastore, x_sastore, x_castore, x_lastore, x_aastore, x_arraylength, x_getstatic, x_goto, x_goto_w, x_ifCond, x_if_icmp, x_ifnull, x_ifnonnull, x_lookupswitch, x_invokevirtual, x_invokestatic, x_invokedynamic, x_ireturn, x_freturn, x_dreturn, x_lreturn, x_areturn, x_return_, pI_c, pL_c, pR_c, pV_i, pV_r, gI_c, gL_c, gR_c, pN_z, pN_s, lget_c, lins_z, lins_c, ldel_z, ldel_c, ldel2_z, ldel2_c, lset_i, lset_l, lset_r, lkeep_z, lkeep_c, largs_z, largs_c, cat_i, cat_l, cat_r, lkp_c, cnd_eq, cnd_ne, cnd_lt, cnd_ge, cnd_gt, cnd_le, swL_z, swL_c, rE_e, rOr_s, rOr_n, rlk_z, rlk_c, aR_c, aI_c, aII_c, aIII_c, aRI_c, aRII_c, aRIII_c, vJn, vJs, vlc, aRR_c, aRRI_c, aRRII_c, aRRIII_c, aRIIII_c, aRL_c, aRLL_c, aLL_c, aRRRI_c, aIL_c, aIIII_c, aRRIIII_c, aIRII_c, aIR_c, aLI_c, aRIR_c, aRIIR_c, hM.1.o, mpShip, mpIn, hM, md_up, nM_up]
    grind
theorem mo_motley {l : Launch} {g : GE} {d : Nat} {t : Tau} {σ : Mem} {Q : Post} (hk : MK t σ) (h : ansM (motQ (nM σ) (vA σ 176)) t σ Q) : WPc l g 232 (d + 6) 0 0 [vR 175] t σ Q := by
  have hk' := hk
  obtain ⟨hM, hW⟩ := hk
  have n6 := hM.2.2
  have z0 := hM.2.1
  unfold ansM motQ at h
  by_cases hn : nM σ = 0
  · rw [if_pos hn] at h
    have h := h _ QTM.rf
    have z0' : σ 175 1 = 0 := by rw [z0, hn]; rfl
    refine wg (by decide) rgN_ok tk_232 py_232 ml_232 30 (by simp [catT]) (fun N hN => ?_)
    simp [bl_232, hN _, x_iconst, x_ldc2_w, x_aconst_null, x_iload, x_lload, x_aload, x_istore, x_lstore, x_astore, x_iinc, x_iadd, x_isub, x_imul, x_idiv, x_irem, x_iand, x_ior, x_ixor, x_ishl, x_ishr, x_iushr, x_ineg, x_ladd, x_lsub, x_lmul, x_ldiv, x_lrem, x_lcmp, x_i2l, x_i2b, x_i2s, x_i2c, x_dup, x_pop, x_dup_x1, x_dup2, x_getfield, x_putfield, x_iaload, x_baload, x_saload, x_caload, x_daload, x_faload, x_laload, x_aaload, x_iastore, x_bastore, x_sastore, x_castore, x_lastore, x_aastore, x_arraylength, x_getstatic, x_goto, x_goto_w, x_ifCond, x_if_icmp, x_ifnull, x_ifnonnull, x_lookupswitch, x_invokevirtual, x_invokestatic, x_invokedynamic, x_ireturn, x_freturn, x_dreturn, x_lreturn, x_areturn, x_return_, pI_c, pL_c, pR_c, pV_i, pV_r, gI_c, gL_c, gR_c, pN_z, pN_s, lget_c, lins_z, lins_c, ldel_z, ldel_c, ldel2_z, ldel2_c, lset_i, lset_l, lset_r, lkeep_z, lkeep_c, largs_z, largs_c, cat_i, cat_l, cat_r, lkp_c, cnd_eq, cnd_ne, cnd_lt, cnd_ge, cnd_gt, cnd_le, swL_z, swL_c, rE_e, rOr_s, rOr_n, rlk_z, rlk_c, aR_c, aI_c, aII_c, aIII_c, aRI_c, aRII_c, aRIII_c, vJn, vJs, vlc, aRR_c, aRRI_c, aRRII_c, aRRIII_c, aRIIII_c, aRL_c, aRLL_c, aLL_c, aRRRI_c, aIL_c, aIIII_c, aRRIIII_c, aIRII_c, aIR_c, aLI_c, aRIR_c, aRIIR_c, hM.1.o, up_ap, z0']
    exact h
  · rw [if_neg hn] at h
    have hn' : ¬ (nM σ : Int) = 0 := by omega
    have hb := motB_l (vA σ 176) (nM σ - 1)
    generalize hB : motB (vA σ 176) (nM σ - 1) = B at h hb
    have hB1 : (B : Int) < nM σ := by omega
    have hB6 : (B : Int) < 6 := by omega
    have hB6n : B < 6 := by omega
    have hsd := sd_in hW (i := B) (by omega) hB1
    have hob := own_in hW (i := B) (by omega) hB1
    have e3 : w32 (6 + (B : Int)) = 6 + B := w32_id (by omega) (by omega)
    have e4 : (0 : Int) ≤ 6 + B := by omega
    have e5 : 6 + (B : Int) < 50 := by omega
    have x2 := (hk'.st (i := B) (by omega) hB1).2
    have e7 : w32 (12 - ownV (vA σ 176) B) = 12 - ownV (vA σ 176) B := w32_id (by omega) (by omega)
    have K2 : Wp l g 232 (d + 6) 0 0 62 [(0, vR 175), (1, vI B), (2, vI (motC (vA σ 176) B 0 : Nat)), (3, vI (0 : Nat))] [] t (up σ 175 8 0) Q := by
      refine lpU (P := fun i => Wp l g 232 (d + 6) 0 0 62 [(0, vR 175), (1, vI B), (2, vI (motC (vA σ 176) B i : Nat)), (3, vI i)] [] t (up σ 175 8 0) Q) (n := 4) ?_ (fun i hi K => ?_)
      · refine wa (by decide) rgN_ok tk_232 30 (fun N hN => ?_)
        simp [bl_232, hN _, x_iconst, x_ldc2_w, x_aconst_null, x_iload, x_lload, x_aload, x_istore, x_lstore, x_astore, x_iinc, x_iadd, x_isub, x_imul, x_idiv, x_irem, x_iand, x_ior, x_ixor, x_ishl, x_ishr, x_iushr, x_ineg, x_ladd, x_lsub, x_lmul, x_ldiv, x_lrem, x_lcmp, x_i2l, x_i2b, x_i2s, x_i2c, x_dup, x_pop, x_dup_x1, x_dup2, x_getfield, x_putfield, x_iaload, x_baload, x_saload, x_caload, x_daload, x_faload, x_laload, x_aaload, x_iastore, x_bastore, x_sastore, x_castore, x_lastore, x_aastore, x_arraylength, x_getstatic, x_goto, x_goto_w, x_ifCond, x_if_icmp, x_ifnull, x_ifnonnull, x_lookupswitch, x_invokevirtual, x_invokestatic, x_invokedynamic, x_ireturn, x_freturn, x_dreturn, x_lreturn, x_areturn, x_return_, pI_c, pL_c, pR_c, pV_i, pV_r, gI_c, gL_c, gR_c, pN_z, pN_s, lget_c, lins_z, lins_c, ldel_z, ldel_c, ldel2_z, ldel2_c, lset_i, lset_l, lset_r, lkeep_z, lkeep_c, largs_z, largs_c, cat_i, cat_l, cat_r, lkp_c, cnd_eq, cnd_ne, cnd_lt, cnd_ge, cnd_gt, cnd_le, swL_z, swL_c, rE_e, rOr_s, rOr_n, rlk_z, rlk_c, aR_c, aI_c, aII_c, aIII_c, aRI_c, aRII_c, aRIII_c, vJn, vJs, vlc, aRR_c, aRRI_c, aRRII_c, aRRIII_c, aRIIII_c, aRL_c, aRLL_c, aLL_c, aRRRI_c, aIL_c, aIIII_c, aRRIIII_c, aIRII_c, aIR_c, aLI_c, aRIR_c, aRIIR_c, hM.1.o, hM.1, hM.1.f0, mpOwn, mpTell, RowT.now hM.1, vA_up, up_ap, hB6, hB6n, hsd, e7]
        exact h _ (QTM.q2 (QFM.rf.up sf8) (by simp [up_ap]))
      · have e2 := w32_succ (k := i) (by omega); have i1 : ((i : Nat) : Int) < 4 := (by omega); have i1n : i < 4 := (by omega); have i1x : ¬ (4 : Int) ≤ (i : Nat) := (by omega)
        have hc := motC_l (vA σ 176) B i
        have e8 := w32_succ (k := motC (vA σ 176) B i) (by omega)
        have e9 : w32 (motC (vA σ 176) B i : Int) = motC (vA σ 176) B i := w32_id (by omega) (by omega)
        have es : motC (vA σ 176) B (i + 1) = if (i : Int) ≠ vA σ 176 (6 + B) ∧ 0 < partV (vA σ 176) B i then motC (vA σ 176) B i + 1 else motC (vA σ 176) B i := rfl
        rw [es] at K
        refine wa (by decide) rgN_ok tk_232 30 (fun N hN => ?_)
        simp [bl_232, hN _, x_iconst, x_ldc2_w, x_aconst_null, x_iload, x_lload, x_aload, x_istore, x_lstore, x_astore, x_iinc, x_iadd, x_isub, x_imul, x_idiv, x_irem, x_iand, x_ior, x_ixor, x_ishl, x_ishr, x_iushr, x_ineg, x_ladd, x_lsub, x_lmul, x_ldiv, x_lrem, x_lcmp, x_i2l, x_i2b, x_i2s, x_i2c, x_dup, x_pop, x_dup_x1, x_dup2, x_getfield, x_putfield, x_iaload, x_baload, x_saload, x_caload, x_daload, x_faload, x_laload, x_aaload, x_iastore, x_bastore, x_sastore, x_castore, x_lastore, x_aastore, x_arraylength, x_getstatic, x_goto, x_goto_w, x_ifCond, x_if_icmp, x_ifnull, x_ifnonnull, x_lookupswitch, x_invokevirtual, x_invokestatic, x_invokedynamic, x_ireturn, x_freturn, x_dreturn, x_lreturn, x_areturn, x_return_, pI_c, pL_c, pR_c, pV_i, pV_r, gI_c, gL_c, gR_c, pN_z, pN_s, lget_c, lins_z, lins_c, ldel_z, ldel_c, ldel2_z, ldel2_c, lset_i, lset_l, lset_r, lkeep_z, lkeep_c, largs_z, largs_c, cat_i, cat_l, cat_r, lkp_c, cnd_eq, cnd_ne, cnd_lt, cnd_ge, cnd_gt, cnd_le, swL_z, swL_c, rE_e, rOr_s, rOr_n, rlk_z, rlk_c, aR_c, aI_c, aII_c, aIII_c, aRI_c, aRII_c, aRIII_c, vJn, vJs, vlc, aRR_c, aRRI_c, aRRII_c, aRRIII_c, aRIIII_c, aRL_c, aRLL_c, aLL_c, aRRRI_c, aIL_c, aIIII_c, aRRIIII_c, aIRII_c, aIR_c, aLI_c, aRIR_c, aRIIR_c, hM.1.o, hM.1.f0, hM.1.t176, hM.1.l176, mpPart, RowT.now hM.1, vA_up, up_ap, e2, i1, i1n, i1x, hB6, hB6n, e3, e4, e5, x2, e8, e9]
        refine ⟨fun z => ?_, fun z => ⟨fun y => ?_, fun y => ?_⟩⟩
        · rw [if_neg (fun w => w.1 z)] at K; exact K
        · rw [if_neg (fun w => by omega)] at K; exact K
        · rw [if_pos ⟨z, y⟩] at K; exact K
    have K1 : Wp l g 232 (d + 6) 0 0 19 [(0, vR 175), (1, vI (motB (vA σ 176) 0 : Nat)), (2, vI (0 + 1 : Nat))] [] t (up σ 175 8 0) Q := by
      refine lpU (P := fun i => Wp l g 232 (d + 6) 0 0 19 [(0, vR 175), (1, vI (motB (vA σ 176) i : Nat)), (2, vI (i + 1 : Nat))] [] t (up σ 175 8 0) Q) (n := nM σ - 1) ?_ (fun i hi K => ?_)
      · have e1 : nM σ - 1 + 1 = nM σ := by omega
        rw [hB, e1]
        refine wa (by decide) rgN_ok tk_232 30 (fun N hN => ?_)
        simp [bl_232, hN _, x_iconst, x_ldc2_w, x_aconst_null, x_iload, x_lload, x_aload, x_istore, x_lstore, x_astore, x_iinc, x_iadd, x_isub, x_imul, x_idiv, x_irem, x_iand, x_ior, x_ixor, x_ishl, x_ishr, x_iushr, x_ineg, x_ladd, x_lsub, x_lmul, x_ldiv, x_lrem, x_lcmp, x_i2l, x_i2b, x_i2s, x_i2c, x_dup, x_pop, x_dup_x1, x_dup2, x_getfield, x_putfield, x_iaload, x_baload, x_saload, x_caload, x_daload, x_faload, x_laload, x_aaload, x_iastore, x_bastore, x_sastore, x_castore, x_lastore, x_aastore, x_arraylength, x_getstatic, x_goto, x_goto_w, x_ifCond, x_if_icmp, x_ifnull, x_ifnonnull, x_lookupswitch, x_invokevirtual, x_invokestatic, x_invokedynamic, x_ireturn, x_freturn, x_dreturn, x_lreturn, x_areturn, x_return_, pI_c, pL_c, pR_c, pV_i, pV_r, gI_c, gL_c, gR_c, pN_z, pN_s, lget_c, lins_z, lins_c, ldel_z, ldel_c, ldel2_z, ldel2_c, lset_i, lset_l, lset_r, lkeep_z, lkeep_c, largs_z, largs_c, cat_i, cat_l, cat_r, lkp_c, cnd_eq, cnd_ne, cnd_lt, cnd_ge, cnd_gt, cnd_le, swL_z, swL_c, rE_e, rOr_s, rOr_n, rlk_z, rlk_c, aR_c, aI_c, aII_c, aIII_c, aRI_c, aRII_c, aRIII_c, vJn, vJs, vlc, aRR_c, aRRI_c, aRRII_c, aRRIII_c, aRIIII_c, aRL_c, aRLL_c, aLL_c, aRRRI_c, aIL_c, aIIII_c, aRRIIII_c, aIRII_c, aIR_c, aLI_c, aRIR_c, aRIIR_c, hM.1.o, up_ap, z0]
        exact K2
      · have e2 := w32_succ (k := i + 1) (by omega)
        have hl := motB_l (vA σ 176) i
        have i1 : ((i : Nat) : Int) + 1 < nM σ := by omega
        have i2 : ¬ (nM σ : Int) ≤ (i : Int) + 1 := by omega
        have i6 : (i : Int) + 1 < 6 := by omega
        have i6n : i + 1 < 6 := by omega
        have i7 : (motB (vA σ 176) i : Int) < 6 := by omega
        have i7n : motB (vA σ 176) i < 6 := by omega
        have i8 : (0 : Int) ≤ (i : Int) + 1 := by omega
        have i9 : ¬ nM σ ≤ i + 1 := by omega
        have d1 := sd_in hW (i := (i + 1 : Nat)) (by omega) (by omega)
        have d2 := sd_in hW (i := (motB (vA σ 176) i : Nat)) (by omega) (by omega)
        simp at d1
        have es : motB (vA σ 176) (i + 1) = if ownV (vA σ 176) (i + 1 : Nat) < ownV (vA σ 176) (motB (vA σ 176) i) then i + 1 else motB (vA σ 176) i := rfl
        rw [es] at K
        refine wa (by decide) rgN_ok tk_232 30 (fun N hN => ?_)
        simp [bl_232, hN _, x_iconst, x_ldc2_w, x_aconst_null, x_iload, x_lload, x_aload, x_istore, x_lstore, x_astore, x_iinc, x_iadd, x_isub, x_imul, x_idiv, x_irem, x_iand, x_ior, x_ixor, x_ishl, x_ishr, x_iushr, x_ineg, x_ladd, x_lsub, x_lmul, x_ldiv, x_lrem, x_lcmp, x_i2l, x_i2b, x_i2s, x_i2c, x_dup, x_pop, x_dup_x1, x_dup2, x_getfield, x_putfield, x_iaload, x_baload, x_saload, x_caload, x_daload, x_faload, x_laload, x_aaload, x_iastore, x_bastore, x_sastore, x_castore, x_lastore, x_aastore, x_arraylength, x_getstatic, x_goto, x_goto_w, x_ifCond, x_if_icmp, x_ifnull, x_ifnonnull, x_lookupswitch, x_invokevirtual, x_invokestatic, x_invokedynamic, x_ireturn, x_freturn, x_dreturn, x_lreturn, x_areturn, x_return_, pI_c, pL_c, pR_c, pV_i, pV_r, gI_c, gL_c, gR_c, pN_z, pN_s, lget_c, lins_z, lins_c, ldel_z, ldel_c, ldel2_z, ldel2_c, lset_i, lset_l, lset_r, lkeep_z, lkeep_c, largs_z, largs_c, cat_i, cat_l, cat_r, lkp_c, cnd_eq, cnd_ne, cnd_lt, cnd_ge, cnd_gt, cnd_le, swL_z, swL_c, rE_e, rOr_s, rOr_n, rlk_z, rlk_c, aR_c, aI_c, aII_c, aIII_c, aRI_c, aRII_c, aRIII_c, vJn, vJs, vlc, aRR_c, aRRI_c, aRRII_c, aRRIII_c, aRIIII_c, aRL_c, aRLL_c, aLL_c, aRRRI_c, aIL_c, aIIII_c, aRRIIII_c, aIRII_c, aIR_c, aLI_c, aRIR_c, aRIIR_c, hM.1.o, hM.1.f0, up_ap, z0, mpOwn, RowT.now hM.1, vA_up, i1, i2, i6, i6n, i7, i7n, i8, i9, d1, d2]
        simp at e2 K
        rw [e2]
        refine ⟨fun z => ?_, fun z => ?_⟩
        · rw [if_neg (Int.not_lt.mpr z)] at K; exact K
        · rw [if_pos z] at K; simpa using K
    refine wg (by decide) rgN_ok tk_232 py_232 ml_232 30 (by simp [catT]) (fun N hN => ?_)
    simp [bl_232, hN _, x_iconst, x_ldc2_w, x_aconst_null, x_iload, x_lload, x_aload, x_istore, x_lstore, x_astore, x_iinc, x_iadd, x_isub, x_imul, x_idiv, x_irem, x_iand, x_ior, x_ixor, x_ishl, x_ishr, x_iushr, x_ineg, x_ladd, x_lsub, x_lmul, x_ldiv, x_lrem, x_lcmp, x_i2l, x_i2b, x_i2s, x_i2c, x_dup, x_pop, x_dup_x1, x_dup2, x_getfield, x_putfield, x_iaload, x_baload, x_saload, x_caload, x_daload, x_faload, x_laload, x_aaload, x_iastore, x_bastore, x_sastore, x_castore, x_lastore, x_aastore, x_arraylength, x_getstatic, x_goto, x_goto_w, x_ifCond, x_if_icmp, x_ifnull, x_ifnonnull, x_lookupswitch, x_invokevirtual, x_invokestatic, x_invokedynamic, x_ireturn, x_freturn, x_dreturn, x_lreturn, x_areturn, x_return_, pI_c, pL_c, pR_c, pV_i, pV_r, gI_c, gL_c, gR_c, pN_z, pN_s, lget_c, lins_z, lins_c, ldel_z, ldel_c, ldel2_z, ldel2_c, lset_i, lset_l, lset_r, lkeep_z, lkeep_c, largs_z, largs_c, cat_i, cat_l, cat_r, lkp_c, cnd_eq, cnd_ne, cnd_lt, cnd_ge, cnd_gt, cnd_le, swL_z, swL_c, rE_e, rOr_s, rOr_n, rlk_z, rlk_c, aR_c, aI_c, aII_c, aIII_c, aRI_c, aRII_c, aRIII_c, vJn, vJs, vlc, aRR_c, aRRI_c, aRRII_c, aRRIII_c, aRIIII_c, aRL_c, aRLL_c, aLL_c, aRRRI_c, aIL_c, aIIII_c, aRRIIII_c, aIRII_c, aIR_c, aLI_c, aRIR_c, aRIIR_c, hM.1.o, up_ap, z0, hn, hn']
    exact K1
set_option maxHeartbeats 1000000 in
theorem mo_order {l : Launch} {g : GE} {d : Nat} {t : Tau} {σ : Mem} {Q : Post} {s : Int} (hk : MK t σ) (h : ansM (orderQ (nM σ) (vA σ 176) s) t σ Q) : WPc l g 233 (d + 6) 0 0 [vR 175, vI s] t σ Q := by
  obtain ⟨hM, hW⟩ := hk
  have n6 := hM.2.2
  have z0 := hM.2.1
  unfold ansM orderQ at h
  by_cases hs : 0 ≤ s ∧ s < 4
  · rw [if_pos hs] at h
    obtain ⟨s0, s1⟩ := hs
    have hp := fun i i0 i1 => (hW.pt (i := i) (s := s) i0 i1 s0 s1).2
    have hO := ordO_l (V := vA σ 176) (s := s) (n := nM σ) hp
    have O : ∀ σ', QFM σ σ' ∧ σ' 175 8 = 0 → rmIs σ' (ordO (vA σ 176) s (nM σ) 0).1 → Wp l g 233 (d + 6) 0 0 24 [(0, vR 175), (1, vI s), (2, vI (ordO (vA σ 176) s (nM σ) 0).2), (3, vI (12 - (0 : Nat)))] [] t σ' Q := by
      refine lpU (P := fun j => ∀ σ', QFM σ σ' ∧ σ' 175 8 = 0 → rmIs σ' (ordO (vA σ 176) s (nM σ) j).1 → Wp l g 233 (d + 6) 0 0 24 [(0, vR 175), (1, vI s), (2, vI (ordO (vA σ 176) s (nM σ) j).2), (3, vI (12 - (j : Nat)))] [] t σ' Q) (n := 13) ?_ (fun j hj KO σ' q hr => ?_)
      · intro σ' q hr
        refine wa (by decide) rgN_ok tk_233 30 (fun N hN => ?_)
        simp [bl_233, hN _, x_iconst, x_ldc2_w, x_aconst_null, x_iload, x_lload, x_aload, x_istore, x_lstore, x_astore, x_iinc, x_iadd, x_isub, x_imul, x_idiv, x_irem, x_iand, x_ior, x_ixor, x_ishl, x_ishr, x_iushr, x_ineg, x_ladd, x_lsub, x_lmul, x_ldiv, x_lrem, x_lcmp, x_i2l, x_i2b, x_i2s, x_i2c, x_dup, x_pop, x_dup_x1, x_dup2, x_getfield, x_putfield, x_iaload, x_baload, x_saload, x_caload, x_daload, x_faload, x_laload, x_aaload, x_iastore, x_bastore, x_sastore, x_castore, x_lastore, x_aastore, x_arraylength, x_getstatic, x_goto, x_goto_w, x_ifCond, x_if_icmp, x_ifnull, x_ifnonnull, x_lookupswitch, x_invokevirtual, x_invokestatic, x_invokedynamic, x_ireturn, x_freturn, x_dreturn, x_lreturn, x_areturn, x_return_, pI_c, pL_c, pR_c, pV_i, pV_r, gI_c, gL_c, gR_c, pN_z, pN_s, lget_c, lins_z, lins_c, ldel_z, ldel_c, ldel2_z, ldel2_c, lset_i, lset_l, lset_r, lkeep_z, lkeep_c, largs_z, largs_c, cat_i, cat_l, cat_r, lkp_c, cnd_eq, cnd_ne, cnd_lt, cnd_ge, cnd_gt, cnd_le, swL_z, swL_c, rE_e, rOr_s, rOr_n, rlk_z, rlk_c, aR_c, aI_c, aII_c, aIII_c, aRI_c, aRII_c, aRIII_c, vJn, vJs, vlc, aRR_c, aRRI_c, aRRII_c, aRRIII_c, aRIIII_c, aRL_c, aRLL_c, aLL_c, aRRRI_c, aIL_c, aIIII_c, aRRIIII_c, aIRII_c, aIR_c, aLI_c, aRIR_c, aRIIR_c]
        exact h σ' ⟨q.1, q.2, hr⟩
      · have hOj := hO j
        have hOn := hO (j + 1)
        have es : ordO (vA σ 176) s (nM σ) (j + 1) = ordJ (vA σ 176) s (12 - j) (ordO (vA σ 176) s (nM σ) j) (nM σ) := rfl
        rw [es] at KO
        generalize hP : ordO (vA σ 176) s (nM σ) j = P at KO hr hOj es
        have hbig : ∀ i, i ≤ nM σ → (ordJ (vA σ 176) s (12 - j) P i).1.length ≤ nM σ ∧ (ordJ (vA σ 176) s (12 - j) P i).2 ≤ 100 := by
          intro i hi
          have h1 := ordJ_l (vA σ 176) s (12 - j) P i
          have h2 := ordJ_l (vA σ 176) s (12 - j) P (nM σ)
          rw [es] at hOn
          have h3 := cntN_l (fun k => decide (12 - ((j + 1 : Nat) : Int) < partV (vA σ 176) k s)) (nM σ)
          have h4 := cntN_mono (p := fun k => decide (partV (vA σ 176) k s = 12 - (j : Int))) hi
          have h5 : j * nM σ ≤ 12 * 6 := Nat.mul_le_mul (by omega) n6
          omega
        have I : ∀ σ', QFM σ σ' ∧ σ' 175 8 = 0 → rmIs σ' (ordJ (vA σ 176) s (12 - j) P 0).1 → Wp l g 233 (d + 6) 0 0 31 [(0, vR 175), (1, vI s), (2, vI (ordJ (vA σ 176) s (12 - j) P 0).2), (3, vI (12 - j)), (4, vI (0 : Nat))] [] t σ' Q := by
          refine lpU (P := fun i => ∀ σ', QFM σ σ' ∧ σ' 175 8 = 0 → rmIs σ' (ordJ (vA σ 176) s (12 - j) P i).1 → Wp l g 233 (d + 6) 0 0 31 [(0, vR 175), (1, vI s), (2, vI (ordJ (vA σ 176) s (12 - j) P i).2), (3, vI (12 - j)), (4, vI i)] [] t σ' Q) (n := nM σ) ?_ (fun i hi K σ' q hr => ?_)
          · intro σ' q hr
            have z1 : σ' 175 1 = nM σ := by rw [q.1.2 1 (by unfold scrF; omega)]; exact z0
            have K := KO σ' q hr
            have e2 : w32 (12 - (j : Int) + -1) = 12 - ((j + 1 : Nat) : Int) := by rw [w32_id (by omega) (by omega)]; omega
            refine wa (by decide) rgN_ok tk_233 30 (fun N hN => ?_)
            simp [bl_233, hN _, x_iconst, x_ldc2_w, x_aconst_null, x_iload, x_lload, x_aload, x_istore, x_lstore, x_astore, x_iinc, x_iadd, x_isub, x_imul, x_idiv, x_irem, x_iand, x_ior, x_ixor, x_ishl, x_ishr, x_iushr, x_ineg, x_ladd, x_lsub, x_lmul, x_ldiv, x_lrem, x_lcmp, x_i2l, x_i2b, x_i2s, x_i2c, x_dup, x_pop, x_dup_x1, x_dup2, x_getfield, x_putfield, x_iaload, x_baload, x_saload, x_caload, x_daload, x_faload, x_laload, x_aaload, x_iastore, x_bastore, x_sastore, x_castore, x_lastore, x_aastore, x_arraylength, x_getstatic, x_goto, x_goto_w, x_ifCond, x_if_icmp, x_ifnull, x_ifnonnull, x_lookupswitch, x_invokevirtual, x_invokestatic, x_invokedynamic, x_ireturn, x_freturn, x_dreturn, x_lreturn, x_areturn, x_return_, pI_c, pL_c, pR_c, pV_i, pV_r, gI_c, gL_c, gR_c, pN_z, pN_s, lget_c, lins_z, lins_c, ldel_z, ldel_c, ldel2_z, ldel2_c, lset_i, lset_l, lset_r, lkeep_z, lkeep_c, largs_z, largs_c, cat_i, cat_l, cat_r, lkp_c, cnd_eq, cnd_ne, cnd_lt, cnd_ge, cnd_gt, cnd_le, swL_z, swL_c, rE_e, rOr_s, rOr_n, rlk_z, rlk_c, aR_c, aI_c, aII_c, aIII_c, aRI_c, aRII_c, aRIII_c, vJn, vJs, vlc, aRR_c, aRRI_c, aRRII_c, aRRIII_c, aRIIII_c, aRL_c, aRLL_c, aLL_c, aRRRI_c, aIL_c, aIIII_c, aRRIIII_c, aIRII_c, aIR_c, aLI_c, aRIR_c, aRIIR_c, hM.1.o, z1, e2]
            simpa using K
          · have e2 := w32_succ (k := i) (by omega); have i1 : ((i : Nat) : Int) < (nM σ : Nat) := (by omega); have i1n : i < nM σ := (by omega); have i1x : ¬ nM σ ≤ i := (by omega)
            have z1 : σ' 175 1 = nM σ := by rw [q.1.2 1 (by unfold scrF; omega)]; exact z0
            have hv := q.1.v
            have i6 : (i : Int) < 6 := by omega
            have i6n : i < 6 := by omega
            have hb := hbig i (by omega)
            have hb1 := hbig (i + 1) (by omega)
            have er : ordJ (vA σ 176) s (12 - j) P (i + 1) = if partV (vA σ 176) i s = 12 - j then ((ordJ (vA σ 176) s (12 - j) P i).1 ++ [(i : Int)], (ordJ (vA σ 176) s (12 - j) P i).2 + if 0 < (12 : Int) - j then 1 else 0) else ordJ (vA σ 176) s (12 - j) P i := rfl
            rw [er] at K hb1
            generalize hR : ordJ (vA σ 176) s (12 - j) P i = R at K hr hb hb1
            have a1 : σ' 175 7 = R.1.length := hr.1
            have e5 : w32 (R.2 : Int) = R.2 := w32_id (by omega) (by omega)
            have e6 : w32 ((R.2 : Int) + 1) = R.2 + 1 := w32_id (by omega) (by omega)
            refine wa (by decide) rgN_ok tk_233 30 (fun N hN => ?_)
            simp [bl_233, hN _, x_iconst, x_ldc2_w, x_aconst_null, x_iload, x_lload, x_aload, x_istore, x_lstore, x_astore, x_iinc, x_iadd, x_isub, x_imul, x_idiv, x_irem, x_iand, x_ior, x_ixor, x_ishl, x_ishr, x_iushr, x_ineg, x_ladd, x_lsub, x_lmul, x_ldiv, x_lrem, x_lcmp, x_i2l, x_i2b, x_i2s, x_i2c, x_dup, x_pop, x_dup_x1, x_dup2, x_getfield, x_putfield, x_iaload, x_baload, x_saload, x_caload, x_daload, x_faload, x_laload, x_aaload, x_iastore, x_bastore, x_sastore, x_castore, x_lastore, x_aastore, x_arraylength, x_getstatic, x_goto, x_goto_w, x_ifCond, x_if_icmp, x_ifnull, x_ifnonnull, x_lookupswitch, x_invokevirtual, x_invokestatic, x_invokedynamic, x_ireturn, x_freturn, x_dreturn, x_lreturn, x_areturn, x_return_, pI_c, pL_c, pR_c, pV_i, pV_r, gI_c, gL_c, gR_c, pN_z, pN_s, lget_c, lins_z, lins_c, ldel_z, ldel_c, ldel2_z, ldel2_c, lset_i, lset_l, lset_r, lkeep_z, lkeep_c, largs_z, largs_c, cat_i, cat_l, cat_r, lkp_c, cnd_eq, cnd_ne, cnd_lt, cnd_ge, cnd_gt, cnd_le, swL_z, swL_c, rE_e, rOr_s, rOr_n, rlk_z, rlk_c, aR_c, aI_c, aII_c, aIII_c, aRI_c, aRII_c, aRIII_c, vJn, vJs, vlc, aRR_c, aRRI_c, aRRII_c, aRRIII_c, aRIIII_c, aRL_c, aRLL_c, aLL_c, aRRRI_c, aIL_c, aIIII_c, aRRIIII_c, aIRII_c, aIR_c, aLI_c, aRIR_c, aRIIR_c, hM.1.o, hM.1, hM.1.f0, z1, e2, i1, i1n, i1x, mpPart, mpTell, RowT.now hM.1, hv, i6, i6n, s0, s1, e5, e6]
            have ad : ∀ v, QFM σ (up (up σ' 179 (σ' 175 7) v) 175 7 (σ' 175 7 + 1)) ∧ up (up σ' 179 (σ' 175 7) v) 175 7 (σ' 175 7 + 1) 175 8 = 0 := fun v => ⟨(q.1.up s179).up sf7, by simp [up_ap, q.2]⟩
            by_cases hv : partV (vA σ 176) i s = 12 - j
            · rw [if_pos hv] at K hb1
              simp at hb1
              refine ⟨fun z => ⟨by omega, fun y => ?_, fun y => ?_⟩, fun z => (z hv).elim⟩
              · rw [if_neg (by omega)] at K
                exact K _ (ad _) (hr.add (by omega))
              · rw [if_pos (by omega)] at K
                simpa using K _ (ad _) (hr.add (by omega))
            · rw [if_neg hv] at K
              exact ⟨fun z => (hv z).elim, fun z => K _ q hr⟩
        have K := I σ' q hr
        have e7 : ¬ 12 - (j : Int) < 0 := by omega
        refine wa (by decide) rgN_ok tk_233 30 (fun N hN => ?_)
        simp [bl_233, hN _, x_iconst, x_ldc2_w, x_aconst_null, x_iload, x_lload, x_aload, x_istore, x_lstore, x_astore, x_iinc, x_iadd, x_isub, x_imul, x_idiv, x_irem, x_iand, x_ior, x_ixor, x_ishl, x_ishr, x_iushr, x_ineg, x_ladd, x_lsub, x_lmul, x_ldiv, x_lrem, x_lcmp, x_i2l, x_i2b, x_i2s, x_i2c, x_dup, x_pop, x_dup_x1, x_dup2, x_getfield, x_putfield, x_iaload, x_baload, x_saload, x_caload, x_daload, x_faload, x_laload, x_aaload, x_iastore, x_bastore, x_sastore, x_castore, x_lastore, x_aastore, x_arraylength, x_getstatic, x_goto, x_goto_w, x_ifCond, x_if_icmp, x_ifnull, x_ifnonnull, x_lookupswitch, x_invokevirtual, x_invokestatic, x_invokedynamic, x_ireturn, x_freturn, x_dreturn, x_lreturn, x_areturn, x_return_, pI_c, pL_c, pR_c, pV_i, pV_r, gI_c, gL_c, gR_c, pN_z, pN_s, lget_c, lins_z, lins_c, ldel_z, ldel_c, ldel2_z, ldel2_c, lset_i, lset_l, lset_r, lkeep_z, lkeep_c, largs_z, largs_c, cat_i, cat_l, cat_r, lkp_c, cnd_eq, cnd_ne, cnd_lt, cnd_ge, cnd_gt, cnd_le, swL_z, swL_c, rE_e, rOr_s, rOr_n, rlk_z, rlk_c, aR_c, aI_c, aII_c, aIII_c, aRI_c, aRII_c, aRIII_c, vJn, vJs, vlc, aRR_c, aRRI_c, aRRII_c, aRRIII_c, aRIIII_c, aRL_c, aRLL_c, aLL_c, aRRRI_c, aIL_c, aIIII_c, aRRIIII_c, aIRII_c, aIR_c, aLI_c, aRIR_c, aRIIR_c, e7]
        exact fun _ => K
    have K := O (up (up σ 175 8 0) 175 7 0) ⟨(QFM.rf.up sf8).up sf7, by simp [up_ap]⟩ rmIs.nil
    refine wg (by decide) rgN_ok tk_233 py_233 ml_233 30 (by simp [catT]) (fun N hN => ?_)
    simp [bl_233, hN _, x_iconst, x_ldc2_w, x_aconst_null, x_iload, x_lload, x_aload, x_istore, x_lstore, x_astore, x_iinc, x_iadd, x_isub, x_imul, x_idiv, x_irem, x_iand, x_ior, x_ixor, x_ishl, x_ishr, x_iushr, x_ineg, x_ladd, x_lsub, x_lmul, x_ldiv, x_lrem, x_lcmp, x_i2l, x_i2b, x_i2s, x_i2c, x_dup, x_pop, x_dup_x1, x_dup2, x_getfield, x_putfield, x_iaload, x_baload, x_saload, x_caload, x_daload, x_faload, x_laload, x_aaload, x_iastore, x_bastore, x_sastore, x_castore, x_lastore, x_aastore, x_arraylength, x_getstatic, x_goto, x_goto_w, x_ifCond, x_if_icmp, x_ifnull, x_ifnonnull, x_lookupswitch, x_invokevirtual, x_invokestatic, x_invokedynamic, x_ireturn, x_freturn, x_dreturn, x_lreturn, x_areturn, x_return_, pI_c, pL_c, pR_c, pV_i, pV_r, gI_c, gL_c, gR_c, pN_z, pN_s, lget_c, lins_z, lins_c, ldel_z, ldel_c, ldel2_z, ldel2_c, lset_i, lset_l, lset_r, lkeep_z, lkeep_c, largs_z, largs_c, cat_i, cat_l, cat_r, lkp_c, cnd_eq, cnd_ne, cnd_lt, cnd_ge, cnd_gt, cnd_le, swL_z, swL_c, rE_e, rOr_s, rOr_n, rlk_z, rlk_c, aR_c, aI_c, aII_c, aIII_c, aRI_c, aRII_c, aRIII_c, vJn, vJs, vlc, aRR_c, aRRI_c, aRRII_c, aRRIII_c, aRIIII_c, aRL_c, aRLL_c, aLL_c, aRRRI_c, aIL_c, aIIII_c, aRRIIII_c, aIRII_c, aIR_c, aLI_c, aRIR_c, aRIIR_c, hM.1.o, mpSide, s0, s1, Int.not_le.mpr s1, Int.not_lt.mpr s0]
    exact K
  · rw [if_neg hs] at h
    have h := h _ QTM.rf
    refine wg (by decide) rgN_ok tk_233 py_233 ml_233 30 (by simp [catT]) (fun N hN => ?_)
    simp [bl_233, hN _, x_iconst, x_ldc2_w, x_aconst_null, x_iload, x_lload, x_aload, x_istore, x_lstore, x_astore, x_iinc, x_iadd, x_isub, x_imul, x_idiv, x_irem, x_iand, x_ior, x_ixor, x_ishl, x_ishr, x_iushr, x_ineg, x_ladd, x_lsub, x_lmul, x_ldiv, x_lrem, x_lcmp, x_i2l, x_i2b, x_i2s, x_i2c, x_dup, x_pop, x_dup_x1, x_dup2, x_getfield, x_putfield, x_iaload, x_baload, x_saload, x_caload, x_daload, x_faload, x_laload, x_aaload, x_iastore, x_bastore, x_sastore, x_castore, x_lastore, x_aastore, x_arraylength, x_getstatic, x_goto, x_goto_w, x_ifCond, x_if_icmp, x_ifnull, x_ifnonnull, x_lookupswitch, x_invokevirtual, x_invokestatic, x_invokedynamic, x_ireturn, x_freturn, x_dreturn, x_lreturn, x_areturn, x_return_, pI_c, pL_c, pR_c, pV_i, pV_r, gI_c, gL_c, gR_c, pN_z, pN_s, lget_c, lins_z, lins_c, ldel_z, ldel_c, ldel2_z, ldel2_c, lset_i, lset_l, lset_r, lkeep_z, lkeep_c, largs_z, largs_c, cat_i, cat_l, cat_r, lkp_c, cnd_eq, cnd_ne, cnd_lt, cnd_ge, cnd_gt, cnd_le, swL_z, swL_c, rE_e, rOr_s, rOr_n, rlk_z, rlk_c, aR_c, aI_c, aII_c, aIII_c, aRI_c, aRII_c, aRIII_c, vJn, vJs, vlc, aRR_c, aRRI_c, aRRII_c, aRRIII_c, aRIIII_c, aRL_c, aRLL_c, aLL_c, aRRRI_c, aIL_c, aIIII_c, aRRIIII_c, aIRII_c, aIR_c, aLI_c, aRIR_c, aRIIR_c, hM.1.o, mpSide]
    grind
