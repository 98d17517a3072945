/-! the reference: days, sewing, yielding -/
theorem RowTo.at {σ σ' : Mem} {r : Int} {V : Int → Int} (h : RowTo σ σ' r V) {j : Int} (h0 : 0 ≤ j) (h1 : j < 50) : σ' r j = V j := by rw [vA_at (σ := σ') (r := r) h0 h1, h.2]
abbrev rgM3 : Reg := (209, mpMend) :: (205, mpGo) :: rgM2
theorem rgM3_ok {l : Launch} {g : GE} {d : Nat} : ∀ e as t σ Q, rE l g (d + 3) rgM3 e as t σ Q → WPc l g e (d + 3) 0 0 as t σ Q := rE_cons (fun _ _ _ _ h => m_mend h) (rE_cons (fun _ _ _ _ h => m_goOver h) (rgM2_ok (d := d + 1)))
def mpDay : Sp := fun as t σ Q => aRR as fun a r => a = 175 ∧ MdOk t σ ∧ ARow t σ r ∧ ∀ σ', RowTo σ σ' r (dayV (nM σ) (mM σ) (vA σ r)) → Q none t σ'
theorem m_goDay {l : Launch} {g : GE} {d : Nat} {t : Tau} {σ : Mem} {Q : Post} {as : List TV} (h0 : mpDay as t σ Q) : WPc l g 210 (d + 4) 0 0 as t σ Q := by
  obtain ⟨a, r, rfl, rfl, hM, ⟨hr, hW⟩, h⟩ := aRR_e h0
  clear h0
  obtain ⟨r5, r7⟩ := hr.ne hM.1
  have hM' := hM
  obtain ⟨hM1, z0, n6⟩ := hM
  generalize hn : nM σ = n at h z0 n6 hW
  generalize hMm : mM σ = Mm at h hW
  generalize hV : vA σ r = V at h hW
  have K : ∀ σ', RowTo σ σ' r (dayI Mm V 0) → Wp l g 210 (d + 4) 0 0 2 [(0, vR 175), (1, vR r), (2, vI (0 : Nat))] [] t σ' Q := by
    refine lpU (P := fun i => ∀ σ', RowTo σ σ' r (dayI Mm V i) → Wp l g 210 (d + 4) 0 0 2 [(0, vR 175), (1, vR r), (2, vI i)] [] t σ' Q) (n := n) ?_ (fun i hi K σ' T => ?_)
    · intro σ' T
      have x1 : σ' 175 1 = n := by rw [T.1 175 (fun z => r5 z.symm)]; exact z0
      have x48 : σ' r 48 = dayI Mm V n 48 := T.at (by omega) (by omega)
      refine wa (by decide) rgM3_ok tk_210 30 (fun N hN => ?_)
      simp [bl_210, hN _, x_iconst, x_ldc2_w, x_aconst_null, x_iload, x_lload, x_aload, x_istore, x_lstore, x_astore, x_iinc, x_iadd, x_isub, x_imul, x_idiv, x_irem, x_iand, x_ior, x_ixor, x_ishl, x_ishr, x_iushr, x_ineg, x_ladd, x_lsub, x_lmul, x_ldiv, x_lrem, x_lcmp, x_i2l, x_i2b, x_i2s, x_i2c, x_dup, x_pop, x_dup_x1, x_dup2, x_getfield, x_putfield, x_iaload, x_baload, x_saload, x_caload, x_daload, x_faload, x_laload, x_aaload, x_iastore, x_bastore, x_sastore, x_castore, x_lastore, x_aastore, x_arraylength, x_getstatic, x_goto, x_goto_w, x_ifCond, x_if_icmp, x_ifnull, x_ifnonnull, x_lookupswitch, x_invokevirtual, x_invokestatic, x_invokedynamic, x_ireturn, x_freturn, x_dreturn, x_lreturn, x_areturn, x_return_, pI_c, pL_c, pR_c, pV_i, pV_r, gI_c, gL_c, gR_c, pN_z, pN_s, lget_c, lins_z, lins_c, ldel_z, ldel_c, ldel2_z, ldel2_c, lset_i, lset_l, lset_r, lkeep_z, lkeep_c, largs_z, largs_c, cat_i, cat_l, cat_r, lkp_c, cnd_eq, cnd_ne, cnd_lt, cnd_ge, cnd_gt, cnd_le, swL_z, swL_c, rE_e, rOr_s, rOr_n, rlk_z, rlk_c, aR_c, aI_c, aII_c, aIII_c, aRI_c, aRII_c, aRIII_c, vJn, vJs, vlc, aRR_c, aRRI_c, aRRII_c, aRRIII_c, aRIIII_c, aRL_c, aRLL_c, aLL_c, aRRRI_c, aIL_c, aIIII_c, aRRIIII_c, aIRII_c, aIR_c, aLI_c, aRIR_c, aRIIR_c, hM1.o, x1, hr.1, hr.2, x48]
      exact h _ (T.put (by omega) (by omega))
    · have e2 := w32_succ (k := i) (by omega); have i1 : ((i : Nat) : Int) < (n : Nat) := (by omega); have i1n : i < n := (by omega); have i1x : ¬ n ≤ i := (by omega)
      have x1 : σ' 175 1 = n := by rw [T.1 175 (fun z => r5 z.symm)]; exact z0
      have x7 : σ' 177 i = Mm i := by rw [T.1 177 (fun z => r7 z.symm), ← hMm]; exact mM_in (by omega) (by omega)
      have xi : σ' r i = dayI Mm V i i := T.at (by omega) (by omega)
      have hWi := wf_dayI hW i (by omega)
      have hs := (hWi.2.1 i (by omega) (by omega)).1
      have e3 : w32 (dayI Mm V i i + 1) = dayI Mm V i i + 1 := w32_id (by omega) (by omega)
      have i6 : (i : Int) < 6 := by omega
      have i6n : i < 6 := by omega
      have i50 : (i : Int) < 50 := by omega
      have i50n : i < 50 := by omega
      have T1 := T.put (j := i) (x := min (Mm i) (dayI Mm V i i + 1)) (by omega) (by omega)
      have hW1 : WFV n Mm (upv (dayI Mm V i) i (min (Mm i) (dayI Mm V i i + 1))) := hWi.st (by omega) (by omega) (by omega) (by omega)
      have hSh := hW1.sh (i := i) (by omega) (by omega)
      rw [← T1.2] at hSh
      refine wa (by decide) rgM3_ok ts_210 30 (fun N hN => ?_)
      simp [bs_210, hN _, x_iconst, x_ldc2_w, x_aconst_null, x_iload, x_lload, x_aload, x_istore, x_lstore, x_astore, x_iinc, x_iadd, x_isub, x_imul, x_idiv, x_irem, x_iand, x_ior, x_ixor, x_ishl, x_ishr, x_iushr, x_ineg, x_ladd, x_lsub, x_lmul, x_ldiv, x_lrem, x_lcmp, x_i2l, x_i2b, x_i2s, x_i2c, x_dup, x_pop, x_dup_x1, x_dup2, x_getfield, x_putfield, x_iaload, x_baload, x_saload, x_caload, x_daload, x_faload, x_laload, x_aaload, x_iastore, x_bastore, x_sastore, x_castore, x_lastore, x_aastore, x_arraylength, x_getstatic, x_goto, x_goto_w, x_ifCond, x_if_icmp, x_ifnull, x_ifnonnull, x_lookupswitch, x_invokevirtual, x_invokestatic, x_invokedynamic, x_ireturn, x_freturn, x_dreturn, x_lreturn, x_areturn, x_return_, pI_c, pL_c, pR_c, pV_i, pV_r, gI_c, gL_c, gR_c, pN_z, pN_s, lget_c, lins_z, lins_c, ldel_z, ldel_c, ldel2_z, ldel2_c, lset_i, lset_l, lset_r, lkeep_z, lkeep_c, largs_z, largs_c, cat_i, cat_l, cat_r, lkp_c, cnd_eq, cnd_ne, cnd_lt, cnd_ge, cnd_gt, cnd_le, swL_z, swL_c, rE_e, rOr_s, rOr_n, rlk_z, rlk_c, aR_c, aI_c, aII_c, aIII_c, aRI_c, aRII_c, aRIII_c, vJn, vJs, vlc, aRR_c, aRRI_c, aRRII_c, aRRIII_c, aRIIII_c, aRL_c, aRLL_c, aLL_c, aRRRI_c, aIL_c, aIIII_c, aRRIIII_c, aIRII_c, aIR_c, aLI_c, aRIR_c, aRIIR_c, hM1.o, hM1.f3, hM1.t177, hM1.l177, x1, x7, xi, hr, hr.1, hr.2, e2, i1, i1n, i1x, spMin, e3, mpMend, i6, i6n, i50, i50n, hSh]
      intro σ2 T2
      rw [T1.2] at T2
      have K := K σ2 (T1.tr T2)
      simp [sg_210_2_1, hN _, x_iconst, x_ldc2_w, x_aconst_null, x_iload, x_lload, x_aload, x_istore, x_lstore, x_astore, x_iinc, x_iadd, x_isub, x_imul, x_idiv, x_irem, x_iand, x_ior, x_ixor, x_ishl, x_ishr, x_iushr, x_ineg, x_ladd, x_lsub, x_lmul, x_ldiv, x_lrem, x_lcmp, x_i2l, x_i2b, x_i2s, x_i2c, x_dup, x_pop, x_dup_x1, x_dup2, x_getfield, x_putfield, x_iaload, x_baload, x_saload, x_caload, x_daload, x_faload, x_laload, x_aaload, x_iastore, x_bastore, x_sastore, x_castore, x_lastore, x_aastore, x_arraylength, x_getstatic, x_goto, x_goto_w, x_ifCond, x_if_icmp, x_ifnull, x_ifnonnull, x_lookupswitch, x_invokevirtual, x_invokestatic, x_invokedynamic, x_ireturn, x_freturn, x_dreturn, x_lreturn, x_areturn, x_return_, pI_c, pL_c, pR_c, pV_i, pV_r, gI_c, gL_c, gR_c, pN_z, pN_s, lget_c, lins_z, lins_c, ldel_z, ldel_c, ldel2_z, ldel2_c, lset_i, lset_l, lset_r, lkeep_z, lkeep_c, largs_z, largs_c, cat_i, cat_l, cat_r, lkp_c, cnd_eq, cnd_ne, cnd_lt, cnd_ge, cnd_gt, cnd_le, swL_z, swL_c, rE_e, rOr_s, rOr_n, rlk_z, rlk_c, aR_c, aI_c, aII_c, aIII_c, aRI_c, aRII_c, aRIII_c, vJn, vJs, vlc, aRR_c, aRRI_c, aRRII_c, aRRIII_c, aRIIII_c, aRL_c, aRLL_c, aLL_c, aRRRI_c, aIL_c, aIIII_c, aRRIIII_c, aIRII_c, aIR_c, aLI_c, aRIR_c, aRIIR_c, e2]
      exact K
  have K := K σ (by rw [← hV]; exact RowTo.rf)
  refine wg (by decide) rgM3_ok tk_210 py_210 ml_210 30 (by simp [catT]) (fun N hN => ?_)
  simp [bl_210, hN _, x_iconst, x_ldc2_w, x_aconst_null, x_iload, x_lload, x_aload, x_istore, x_lstore, x_astore, x_iinc, x_iadd, x_isub, x_imul, x_idiv, x_irem, x_iand, x_ior, x_ixor, x_ishl, x_ishr, x_iushr, x_ineg, x_ladd, x_lsub, x_lmul, x_ldiv, x_lrem, x_lcmp, x_i2l, x_i2b, x_i2s, x_i2c, x_dup, x_pop, x_dup_x1, x_dup2, x_getfield, x_putfield, x_iaload, x_baload, x_saload, x_caload, x_daload, x_faload, x_laload, x_aaload, x_iastore, x_bastore, x_sastore, x_castore, x_lastore, x_aastore, x_arraylength, x_getstatic, x_goto, x_goto_w, x_ifCond, x_if_icmp, x_ifnull, x_ifnonnull, x_lookupswitch, x_invokevirtual, x_invokestatic, x_invokedynamic, x_ireturn, x_freturn, x_dreturn, x_lreturn, x_areturn, x_return_, pI_c, pL_c, pR_c, pV_i, pV_r, gI_c, gL_c, gR_c, pN_z, pN_s, lget_c, lins_z, lins_c, ldel_z, ldel_c, ldel2_z, ldel2_c, lset_i, lset_l, lset_r, lkeep_z, lkeep_c, largs_z, largs_c, cat_i, cat_l, cat_r, lkp_c, cnd_eq, cnd_ne, cnd_lt, cnd_ge, cnd_gt, cnd_le, swL_z, swL_c, rE_e, rOr_s, rOr_n, rlk_z, rlk_c, aR_c, aI_c, aII_c, aIII_c, aRI_c, aRII_c, aRIII_c, vJn, vJs, vlc, aRR_c, aRRI_c, aRRII_c, aRRIII_c, aRIIII_c, aRL_c, aRLL_c, aLL_c, aRRRI_c, aIL_c, aIIII_c, aRRIIII_c, aIRII_c, aIR_c, aLI_c, aRIR_c, aRIIR_c]
  exact K
theorem rgDy_ok {l : Launch} {g : GE} {d : Nat} : ∀ e as t σ Q, rE l g (d + 4) [(210, mpDay)] e as t σ Q → WPc l g e (d + 4) 0 0 as t σ Q := rE_cons (fun _ _ _ _ h => m_goDay h) rE_nil
def mpDays : Sp := fun as t σ Q => aRRI as fun a r k => a = 175 ∧ MdOk t σ ∧ ARow t σ r ∧ (0 ≤ k ∧ k ≤ 1000) ∧ ∀ σ', RowTo σ σ' r (daysV (nM σ) (mM σ) (vA σ r) k.toNat) → Q none t σ'
theorem m_goDays {l : Launch} {g : GE} {d : Nat} {t : Tau} {σ : Mem} {Q : Post} {as : List TV} (h0 : mpDays as t σ Q) : WPc l g 211 (d + 5) 0 0 as t σ Q := by
  obtain ⟨a, r, k', rfl, rfl, hM, ⟨hr, hW⟩, hk, h⟩ := aRRI_e h0
  clear h0
  obtain ⟨k, rfl⟩ : ∃ n : Nat, k' = n := ⟨k'.toNat, by omega⟩
  simp only [Int.toNat_natCast] at h
  obtain ⟨r5, r7⟩ := hr.ne hM.1
  have K : ∀ σ', RowTo σ σ' r (daysV (nM σ) (mM σ) (vA σ r) 0) → Wp l g 211 (d + 5) 0 0 2 [(0, vR 175), (1, vR r), (2, vI k), (3, vI (0 : Nat))] [] t σ' Q := by
    refine lpU (P := fun i => ∀ σ', RowTo σ σ' r (daysV (nM σ) (mM σ) (vA σ r) i) → Wp l g 211 (d + 5) 0 0 2 [(0, vR 175), (1, vR r), (2, vI k), (3, vI i)] [] t σ' Q) (n := k) ?_ (fun i hi K σ' T => ?_)
    · intro σ' T
      refine wa (by decide) rgDy_ok tk_211 30 (fun N hN => ?_)
      simp [bl_211, hN _, x_iconst, x_ldc2_w, x_aconst_null, x_iload, x_lload, x_aload, x_istore, x_lstore, x_astore, x_iinc, x_iadd, x_isub, x_imul, x_idiv, x_irem, x_iand, x_ior, x_ixor, x_ishl, x_ishr, x_iushr, x_ineg, x_ladd, x_lsub, x_lmul, x_ldiv, x_lrem, x_lcmp, x_i2l, x_i2b, x_i2s, x_i2c, x_dup, x_pop, x_dup_x1, x_dup2, x_getfield, x_putfield, x_iaload, x_baload, x_saload, x_caload, x_daload, x_faload, x_laload, x_aaload, x_iastore, x_bastore, x_sastore, x_castore, x_lastore, x_aastore, x_arraylength, x_getstatic, x_goto, x_goto_w, x_ifCond, x_if_icmp, x_ifnull, x_ifnonnull, x_lookupswitch, x_invokevirtual, x_invokestatic, x_invokedynamic, x_ireturn, x_freturn, x_dreturn, x_lreturn, x_areturn, x_return_, pI_c, pL_c, pR_c, pV_i, pV_r, gI_c, gL_c, gR_c, pN_z, pN_s, lget_c, lins_z, lins_c, ldel_z, ldel_c, ldel2_z, ldel2_c, lset_i, lset_l, lset_r, lkeep_z, lkeep_c, largs_z, largs_c, cat_i, cat_l, cat_r, lkp_c, cnd_eq, cnd_ne, cnd_lt, cnd_ge, cnd_gt, cnd_le, swL_z, swL_c, rE_e, rOr_s, rOr_n, rlk_z, rlk_c, aR_c, aI_c, aII_c, aIII_c, aRI_c, aRII_c, aRIII_c, vJn, vJs, vlc, aRR_c, aRRI_c, aRRII_c, aRRIII_c, aRIIII_c, aRL_c, aRLL_c, aLL_c, aRRRI_c, aIL_c, aIIII_c, aRRIIII_c, aIRII_c, aIR_c, aLI_c, aRIR_c, aRIIR_c]
      exact h σ' T
    · have e2 := w32_succ (k := i) (by omega); have i1 : ((i : Nat) : Int) < (k : Nat) := (by omega); have i1n : i < k := (by omega); have i1x : ¬ k ≤ i := (by omega)
      have hM' := T.md r5 hM
      have hA : ARow t σ' r := ⟨hr, by rw [T.n r5, T.m r7, T.2]; exact wf_days hW i⟩
      refine wa (by decide) rgDy_ok ts_211 30 (fun N hN => ?_)
      simp [bs_211, hN _, x_iconst, x_ldc2_w, x_aconst_null, x_iload, x_lload, x_aload, x_istore, x_lstore, x_astore, x_iinc, x_iadd, x_isub, x_imul, x_idiv, x_irem, x_iand, x_ior, x_ixor, x_ishl, x_ishr, x_iushr, x_ineg, x_ladd, x_lsub, x_lmul, x_ldiv, x_lrem, x_lcmp, x_i2l, x_i2b, x_i2s, x_i2c, x_dup, x_pop, x_dup_x1, x_dup2, x_getfield, x_putfield, x_iaload, x_baload, x_saload, x_caload, x_daload, x_faload, x_laload, x_aaload, x_iastore, x_bastore, x_sastore, x_castore, x_lastore, x_aastore, x_arraylength, x_getstatic, x_goto, x_goto_w, x_ifCond, x_if_icmp, x_ifnull, x_ifnonnull, x_lookupswitch, x_invokevirtual, x_invokestatic, x_invokedynamic, x_ireturn, x_freturn, x_dreturn, x_lreturn, x_areturn, x_return_, pI_c, pL_c, pR_c, pV_i, pV_r, gI_c, gL_c, gR_c, pN_z, pN_s, lget_c, lins_z, lins_c, ldel_z, ldel_c, ldel2_z, ldel2_c, lset_i, lset_l, lset_r, lkeep_z, lkeep_c, largs_z, largs_c, cat_i, cat_l, cat_r, lkp_c, cnd_eq, cnd_ne, cnd_lt, cnd_ge, cnd_gt, cnd_le, swL_z, swL_c, rE_e, rOr_s, rOr_n, rlk_z, rlk_c, aR_c, aI_c, aII_c, aIII_c, aRI_c, aRII_c, aRIII_c, vJn, vJs, vlc, aRR_c, aRRI_c, aRRII_c, aRRIII_c, aRIIII_c, aRL_c, aRLL_c, aLL_c, aRRRI_c, aIL_c, aIIII_c, aRRIIII_c, aIRII_c, aIR_c, aLI_c, aRIR_c, aRIIR_c, hM.1.o, e2, i1, i1n, i1x, mpDay, hM', hA]
      intro σ2 T2
      rw [T.n r5, T.m r7, T.2] at T2
      have K := K σ2 (T.tr T2)
      simp [sg_211_2_1, hN _, x_iconst, x_ldc2_w, x_aconst_null, x_iload, x_lload, x_aload, x_istore, x_lstore, x_astore, x_iinc, x_iadd, x_isub, x_imul, x_idiv, x_irem, x_iand, x_ior, x_ixor, x_ishl, x_ishr, x_iushr, x_ineg, x_ladd, x_lsub, x_lmul, x_ldiv, x_lrem, x_lcmp, x_i2l, x_i2b, x_i2s, x_i2c, x_dup, x_pop, x_dup_x1, x_dup2, x_getfield, x_putfield, x_iaload, x_baload, x_saload, x_caload, x_daload, x_faload, x_laload, x_aaload, x_iastore, x_bastore, x_sastore, x_castore, x_lastore, x_aastore, x_arraylength, x_getstatic, x_goto, x_goto_w, x_ifCond, x_if_icmp, x_ifnull, x_ifnonnull, x_lookupswitch, x_invokevirtual, x_invokestatic, x_invokedynamic, x_ireturn, x_freturn, x_dreturn, x_lreturn, x_areturn, x_return_, pI_c, pL_c, pR_c, pV_i, pV_r, gI_c, gL_c, gR_c, pN_z, pN_s, lget_c, lins_z, lins_c, ldel_z, ldel_c, ldel2_z, ldel2_c, lset_i, lset_l, lset_r, lkeep_z, lkeep_c, largs_z, largs_c, cat_i, cat_l, cat_r, lkp_c, cnd_eq, cnd_ne, cnd_lt, cnd_ge, cnd_gt, cnd_le, swL_z, swL_c, rE_e, rOr_s, rOr_n, rlk_z, rlk_c, aR_c, aI_c, aII_c, aIII_c, aRI_c, aRII_c, aRIII_c, vJn, vJs, vlc, aRR_c, aRRI_c, aRRII_c, aRRIII_c, aRIIII_c, aRL_c, aRLL_c, aLL_c, aRRRI_c, aIL_c, aIIII_c, aRRIIII_c, aIRII_c, aIR_c, aLI_c, aRIR_c, aRIIR_c, e2]
      exact K
  have K := K σ RowTo.rf
  refine wg (by decide) rgDy_ok tk_211 py_211 ml_211 30 (by simp [catT]) (fun N hN => ?_)
  simp [bl_211, hN _, x_iconst, x_ldc2_w, x_aconst_null, x_iload, x_lload, x_aload, x_istore, x_lstore, x_astore, x_iinc, x_iadd, x_isub, x_imul, x_idiv, x_irem, x_iand, x_ior, x_ixor, x_ishl, x_ishr, x_iushr, x_ineg, x_ladd, x_lsub, x_lmul, x_ldiv, x_lrem, x_lcmp, x_i2l, x_i2b, x_i2s, x_i2c, x_dup, x_pop, x_dup_x1, x_dup2, x_getfield, x_putfield, x_iaload, x_baload, x_saload, x_caload, x_daload, x_faload, x_laload, x_aaload, x_iastore, x_bastore, x_sastore, x_castore, x_lastore, x_aastore, x_arraylength, x_getstatic, x_goto, x_goto_w, x_ifCond, x_if_icmp, x_ifnull, x_ifnonnull, x_lookupswitch, x_invokevirtual, x_invokestatic, x_invokedynamic, x_ireturn, x_freturn, x_dreturn, x_lreturn, x_areturn, x_return_, pI_c, pL_c, pR_c, pV_i, pV_r, gI_c, gL_c, gR_c, pN_z, pN_s, lget_c, lins_z, lins_c, ldel_z, ldel_c, ldel2_z, ldel2_c, lset_i, lset_l, lset_r, lkeep_z, lkeep_c, largs_z, largs_c, cat_i, cat_l, cat_r, lkp_c, cnd_eq, cnd_ne, cnd_lt, cnd_ge, cnd_gt, cnd_le, swL_z, swL_c, rE_e, rOr_s, rOr_n, rlk_z, rlk_c, aR_c, aI_c, aII_c, aIII_c, aRI_c, aRII_c, aRIII_c, vJn, vJs, vlc, aRR_c, aRRI_c, aRRII_c, aRRIII_c, aRIIII_c, aRL_c, aRLL_c, aLL_c, aRRRI_c, aIL_c, aIIII_c, aRRIIII_c, aIRII_c, aIR_c, aLI_c, aRIR_c, aRIIR_c]
  exact K
/-! sewing -/
def rfSew (n : Nat) (V : Int → Int) (s f k : Int) : Int := if (0 ≤ s ∧ s < n) ∧ (0 ≤ f ∧ f < 4) ∧ (1 ≤ k ∧ k ≤ 12) then (if ownV V s < k then -2 else if V (6 + s) = f then -3 else 0) else -1
def mpRefS : Sp := fun as t σ Q => aRRIII as fun a r s f k => a = 175 ∧ MdOk t σ ∧ ARow t σ r ∧ Q (some (vI (rfSew (nM σ) (vA σ r) s f k))) t σ
theorem m_refS {l : Launch} {g : GE} {d : Nat} {t : Tau} {σ : Mem} {Q : Post} {as : List TV} (h0 : mpRefS as t σ Q) : WPc l g 214 (d + 4) 0 0 as t σ Q := by
  obtain ⟨a, r, s, f, k, rfl, rfl, hM, ⟨hr, hW⟩, h⟩ := aRRIII_e h0
  clear h0
  have n6 := hM.2.2
  unfold rfSew at h
  refine wg (by decide) rgM3_ok tk_214 py_214 ml_214 30 (by simp [catT]) (fun N hN => ?_)
  by_cases hs : 0 ≤ s ∧ s < nM σ
  · have hsd := sd_in hW hs.1 hs.2
    have e1 : w32 (6 + s) = 6 + s := w32_id (by omega) (by omega)
    have e2 : σ r (6 + s) = vA σ r (6 + s) := vA_at (by omega) (by omega)
    have e3 : (0 : Int) ≤ 6 + s := by omega
    have e4 : 6 + s < 50 := by omega
    have s6 : s < 6 := by omega
    simp [bl_214, hN _, x_iconst, x_ldc2_w, x_aconst_null, x_iload, x_lload, x_aload, x_istore, x_lstore, x_astore, x_iinc, x_iadd, x_isub, x_imul, x_idiv, x_irem, x_iand, x_ior, x_ixor, x_ishl, x_ishr, x_iushr, x_ineg, x_ladd, x_lsub, x_lmul, x_ldiv, x_lrem, x_lcmp, x_i2l, x_i2b, x_i2s, x_i2c, x_dup, x_pop, x_dup_x1, x_dup2, x_getfield, x_putfield, x_iaload, x_baload, x_saload, x_caload, x_daload, x_faload, x_laload, x_aaload, x_iastore, x_bastore, x_sastore, x_castore, x_lastore, x_aastore, x_arraylength, x_getstatic, x_goto, x_goto_w, x_ifCond, x_if_icmp, x_ifnull, x_ifnonnull, x_lookupswitch, x_invokevirtual, x_invokestatic, x_invokedynamic, x_ireturn, x_freturn, x_dreturn, x_lreturn, x_areturn, x_return_, pI_c, pL_c, pR_c, pV_i, pV_r, gI_c, gL_c, gR_c, pN_z, pN_s, lget_c, lins_z, lins_c, ldel_z, ldel_c, ldel2_z, ldel2_c, lset_i, lset_l, lset_r, lkeep_z, lkeep_c, largs_z, largs_c, cat_i, cat_l, cat_r, lkp_c, cnd_eq, cnd_ne, cnd_lt, cnd_ge, cnd_gt, cnd_le, swL_z, swL_c, rE_e, rOr_s, rOr_n, rlk_z, rlk_c, aR_c, aI_c, aII_c, aIII_c, aRI_c, aRII_c, aRIII_c, vJn, vJs, vlc, aRR_c, aRRI_c, aRRII_c, aRRIII_c, aRIIII_c, aRL_c, aRLL_c, aLL_c, aRRRI_c, aIL_c, aIIII_c, aRRIIII_c, aIRII_c, aIR_c, aLI_c, aRIR_c, aRIIR_c, hM.1.o, mpShip, mpSide, mpIn, mpOwn, hM, hr, hr.1, hr.2, hs, s6, hsd, e1, e2, e3, e4]
    have hs2 := hs.2
    simp only [hs.1, hs.2, true_and] at h
    grind
  · rw [if_neg (fun z => hs z.1)] at h
    simp [bl_214, hN _, x_iconst, x_ldc2_w, x_aconst_null, x_iload, x_lload, x_aload, x_istore, x_lstore, x_astore, x_iinc, x_iadd, x_isub, x_imul, x_idiv, x_irem, x_iand, x_ior, x_ixor, x_ishl, x_ishr, x_iushr, x_ineg, x_ladd, x_lsub, x_lmul, x_ldiv, x_lrem, x_lcmp, x_i2l, x_i2b, x_i2s, x_i2c, x_dup, x_pop, x_dup_x1, x_dup2, x_getfield, x_putfield, x_iaload, x_baload, x_saload, x_caload, x_daload, x_faload, x_laload, x_aaload, x_iastore, x_bastore, x_sastore, x_castore, x_lastore, x_aastore, x_arraylength, x_getstatic, x_goto, x_goto_w, x_ifCond, x_if_icmp, x_ifnull, x_ifnonnull, x_lookupswitch, x_invokevirtual, x_invokestatic, x_invokedynamic, x_ireturn, x_freturn, x_dreturn, x_lreturn, x_areturn, x_return_, pI_c, pL_c, pR_c, pV_i, pV_r, gI_c, gL_c, gR_c, pN_z, pN_s, lget_c, lins_z, lins_c, ldel_z, ldel_c, ldel2_z, ldel2_c, lset_i, lset_l, lset_r, lkeep_z, lkeep_c, largs_z, largs_c, cat_i, cat_l, cat_r, lkp_c, cnd_eq, cnd_ne, cnd_lt, cnd_ge, cnd_gt, cnd_le, swL_z, swL_c, rE_e, rOr_s, rOr_n, rlk_z, rlk_c, aR_c, aI_c, aII_c, aIII_c, aRI_c, aRII_c, aRIII_c, vJn, vJs, vlc, aRR_c, aRRI_c, aRRII_c, aRRIII_c, aRIIII_c, aRL_c, aRLL_c, aLL_c, aRRRI_c, aIL_c, aIIII_c, aRRIIII_c, aIRII_c, aIR_c, aLI_c, aRIR_c, aRIIR_c, hM.1.o, mpShip, hM]
    grind
theorem goSew_V {W : Int → Int} {i s k : Int} (h0 : 0 ≤ i) (h1 : i < 6) (u0 : 0 ≤ W (6 + i)) (u1 : W (6 + i) < 4) (s0 : 0 ≤ s) (s1 : s < 4) : clp (upv (upv W (12 + 4 * i + W (6 + i)) (W (12 + 4 * i + W (6 + i)) - k)) (12 + 4 * i + s) (upv W (12 + 4 * i + W (6 + i)) (W (12 + 4 * i + W (6 + i)) - k) (12 + 4 * i + s) + k)) = sewP (clp W) i (clp W (6 + i)) s k := by
  rw [clp_in (W := W) (j := 6 + i) (by omega) (by omega)]
  exact sewP_up h0 h1 u0 u1 s0 s1
def mpSew : Sp := fun as t σ Q => aRIII as fun r i s k => RowT t r ∧ (0 ≤ i ∧ i < 6) ∧ ShOK (vA σ r) i ∧ (0 ≤ s ∧ s < 4) ∧ (0 ≤ k ∧ k ≤ 12) ∧ ∀ σ', RowTo σ σ' r (sewV (vA σ r) i s k) → Q none t σ'
theorem m_goSewing {l : Launch} {g : GE} {d : Nat} {t : Tau} {σ : Mem} {Q : Post} {as : List TV} (h0 : mpSew as t σ Q) : WPc l g 215 (d + 4) 0 0 as t σ Q := by
  obtain ⟨r, i, s, k, rfl, hr, ⟨i0, i6⟩, ⟨⟨u0, u1⟩, hp, ho⟩, ⟨s0, s1⟩, hk, h⟩ := aRIII_e h0
  clear h0
  have e1 : w32 (6 + i) = 6 + i := w32_id (by omega) (by omega)
  have e2 : σ r (6 + i) = vA σ r (6 + i) := vA_at (by omega) (by omega)
  have e3 : (0 : Int) ≤ 6 + i := by omega
  have e4 : 6 + i < 50 := by omega
  have e8 : w32 (12 + w32 (4 * i)) = 12 + 4 * i := by rw [w32_id (x := 4 * i) (by omega) (by omega), w32_id (by omega) (by omega)]
  generalize hu : vA σ r (6 + i) = u at u0 u1 e2
  have e9 : w32 (12 + 4 * i + u) = 12 + 4 * i + u := w32_id (by omega) (by omega)
  have e10 : 0 ≤ 12 + 4 * i + u ∧ 12 + 4 * i + u < 50 := by omega
  have e11 : w32 (12 + 4 * i + s) = 12 + 4 * i + s := w32_id (by omega) (by omega)
  have e12 : 0 ≤ 12 + 4 * i + s ∧ 12 + 4 * i + s < 50 := by omega
  have p1 := hp u u0 u1
  have p2 := hp s s0 s1
  have e14 : σ r (12 + 4 * i + u) = partV (vA σ r) i u := vA_at e10.1 e10.2
  have e15 : w32 (partV (vA σ r) i u - k) = partV (vA σ r) i u - k := w32_id (by omega) (by omega)
  have e17 : w32 (up σ r (12 + 4 * i + u) (partV (vA σ r) i u - k) r (12 + 4 * i + s) + k) = up σ r (12 + 4 * i + u) (partV (vA σ r) i u - k) r (12 + 4 * i + s) + k := by
    refine w32_id ?_ ?_ <;> rw [up_ap] <;> split <;> first | omega | (rw [vA_at (σ := σ) (r := r) e12.1 e12.2]; simp only [partV] at p2; omega)
  have hT : RowTo σ (up (up σ r (12 + 4 * i + u) (partV (vA σ r) i u - k)) r (12 + 4 * i + s) (up σ r (12 + 4 * i + u) (partV (vA σ r) i u - k) r (12 + 4 * i + s) + k)) r (sewP (vA σ r) i u s k) := by
    refine ⟨fun o ho => by rw [up_ne ho, up_ne ho], ?_⟩
    show clp (up _ r _ _ r) = _
    rw [up_r, up_r, ← e14]
    exact sewP_up i0 i6 u0 u1 s0 s1
  have q6 : sewP (vA σ r) i u s k (6 + i) = u := by rw [sewP_n (by omega) (by omega), hu]
  have q49 : sewP (vA σ r) i u s k 49 = vA σ r 49 := sewP_n (by omega) (by omega)
  have g6 : vA (up (up σ r (12 + 4 * i + u) (partV (vA σ r) i u - k)) r (12 + 4 * i + s) (up σ r (12 + 4 * i + u) (partV (vA σ r) i u - k) r (12 + 4 * i + s) + k)) r = sewP (vA σ r) i u s k := hT.2
  refine wg (by decide) rgM3_ok ts_215 py_215 ml_215 30 (by simp [catT]) (fun N hN => ?_)
  simp [bs_215, hN _, x_iconst, x_ldc2_w, x_aconst_null, x_iload, x_lload, x_aload, x_istore, x_lstore, x_astore, x_iinc, x_iadd, x_isub, x_imul, x_idiv, x_irem, x_iand, x_ior, x_ixor, x_ishl, x_ishr, x_iushr, x_ineg, x_ladd, x_lsub, x_lmul, x_ldiv, x_lrem, x_lcmp, x_i2l, x_i2b, x_i2s, x_i2c, x_dup, x_pop, x_dup_x1, x_dup2, x_getfield, x_putfield, x_iaload, x_baload, x_saload, x_caload, x_daload, x_faload, x_laload, x_aaload, x_iastore, x_bastore, x_sastore, x_castore, x_lastore, x_aastore, x_arraylength, x_getstatic, x_goto, x_goto_w, x_ifCond, x_if_icmp, x_ifnull, x_ifnonnull, x_lookupswitch, x_invokevirtual, x_invokestatic, x_invokedynamic, x_ireturn, x_freturn, x_dreturn, x_lreturn, x_areturn, x_return_, pI_c, pL_c, pR_c, pV_i, pV_r, gI_c, gL_c, gR_c, pN_z, pN_s, lget_c, lins_z, lins_c, ldel_z, ldel_c, ldel2_z, ldel2_c, lset_i, lset_l, lset_r, lkeep_z, lkeep_c, largs_z, largs_c, cat_i, cat_l, cat_r, lkp_c, cnd_eq, cnd_ne, cnd_lt, cnd_ge, cnd_gt, cnd_le, swL_z, swL_c, rE_e, rOr_s, rOr_n, rlk_z, rlk_c, aR_c, aI_c, aII_c, aIII_c, aRI_c, aRII_c, aRIII_c, vJn, vJs, vlc, aRR_c, aRRI_c, aRRII_c, aRRIII_c, aRIIII_c, aRL_c, aRLL_c, aLL_c, aRRRI_c, aIL_c, aIIII_c, aRRIIII_c, aIRII_c, aIR_c, aLI_c, aRIR_c, aRIIR_c, hr, hr.1, hr.2, e1, e2, e3, e4, e8, e9, e10, e11, e12, e14, e15, e17, mpGo, i0, i6, g6, q6, q49, u0, u1, ho]
  intro σ2 T2
  simp [sg_215_0_1, hN _, x_iconst, x_ldc2_w, x_aconst_null, x_iload, x_lload, x_aload, x_istore, x_lstore, x_astore, x_iinc, x_iadd, x_isub, x_imul, x_idiv, x_irem, x_iand, x_ior, x_ixor, x_ishl, x_ishr, x_iushr, x_ineg, x_ladd, x_lsub, x_lmul, x_ldiv, x_lrem, x_lcmp, x_i2l, x_i2b, x_i2s, x_i2c, x_dup, x_pop, x_dup_x1, x_dup2, x_getfield, x_putfield, x_iaload, x_baload, x_saload, x_caload, x_daload, x_faload, x_laload, x_aaload, x_iastore, x_bastore, x_sastore, x_castore, x_lastore, x_aastore, x_arraylength, x_getstatic, x_goto, x_goto_w, x_ifCond, x_if_icmp, x_ifnull, x_ifnonnull, x_lookupswitch, x_invokevirtual, x_invokestatic, x_invokedynamic, x_ireturn, x_freturn, x_dreturn, x_lreturn, x_areturn, x_return_, pI_c, pL_c, pR_c, pV_i, pV_r, gI_c, gL_c, gR_c, pN_z, pN_s, lget_c, lins_z, lins_c, ldel_z, ldel_c, ldel2_z, ldel2_c, lset_i, lset_l, lset_r, lkeep_z, lkeep_c, largs_z, largs_c, cat_i, cat_l, cat_r, lkp_c, cnd_eq, cnd_ne, cnd_lt, cnd_ge, cnd_gt, cnd_le, swL_z, swL_c, rE_e, rOr_s, rOr_n, rlk_z, rlk_c, aR_c, aI_c, aII_c, aIII_c, aRI_c, aRII_c, aRIII_c, vJn, vJs, vlc, aRR_c, aRRI_c, aRRII_c, aRRIII_c, aRIIII_c, aRL_c, aRLL_c, aLL_c, aRRRI_c, aIL_c, aIIII_c, aRRIIII_c, aIRII_c, aIR_c, aLI_c, aRIR_c, aRIIR_c]
  refine h σ2 ?_
  have := hT.tr T2
  unfold sewV
  rw [hu]
  exact this
