/-! the reference: ship, row, thrown -/
def shpA (M V : Int → Int) (i w : Int) : Int := if w = 0 then M i else if w = 1 then V i else if w = 2 then V (6 + i) else if w = 7 then V (36 + i) else if w = 8 then V (42 + i) else partV V i (w - 3)
def mpLo1 : Sp := fun as t σ Q => aR as fun a => a = 175 ∧ TM t ∧ Q (some (vI 0)) t (up σ 175 8 1)
theorem m_lo1 {l : Launch} {g : GE} {d : Nat} {t : Tau} {σ : Mem} {Q : Post} {as : List TV} (h0 : mpLo1 as t σ Q) : WPc l g 169 (d + 1) 0 0 as t σ Q := by
  obtain ⟨a, rfl, rfl, hM, h⟩ := aR_e h0
  refine wg (by decide) rE_nil tk_169 py_169 ml_169 30 (by simp [catT]) (fun N hN => ?_)
  simp [bl_169, hN _, x_iconst, x_ldc2_w, x_aconst_null, x_iload, x_lload, x_aload, x_istore, x_lstore, x_astore, x_iinc, x_iadd, x_isub, x_imul, x_idiv, x_irem, x_iand, x_ior, x_ixor, x_ishl, x_ishr, x_iushr, x_ineg, x_ladd, x_lsub, x_lmul, x_ldiv, x_lrem, x_lcmp, x_i2l, x_i2b, x_i2s, x_i2c, x_dup, x_pop, x_dup_x1, x_dup2, x_getfield, x_putfield, x_iaload, x_baload, x_saload, x_caload, x_daload, x_faload, x_laload, x_aaload, x_iastore, x_bastore, x_sastore, x_castore, x_lastore, x_aastore, x_arraylength, x_getstatic, x_goto, x_goto_w, x_ifCond, x_if_icmp, x_ifnull, x_ifnonnull, x_lookupswitch, x_invokevirtual, x_invokestatic, x_invokedynamic, x_ireturn, x_freturn, x_dreturn, x_lreturn, x_areturn, x_return_, pI_c, pL_c, pR_c, pV_i, pV_r, gI_c, gL_c, gR_c, pN_z, pN_s, lget_c, lins_z, lins_c, ldel_z, ldel_c, ldel2_z, ldel2_c, lset_i, lset_l, lset_r, lkeep_z, lkeep_c, largs_z, largs_c, cat_i, cat_l, cat_r, lkp_c, cnd_eq, cnd_ne, cnd_lt, cnd_ge, cnd_gt, cnd_le, swL_z, swL_c, rE_e, rOr_s, rOr_n, rlk_z, rlk_c, aR_c, aI_c, aII_c, aIII_c, aRI_c, aRII_c, aRIII_c, vJn, vJs, vlc, aRR_c, aRRI_c, aRRII_c, aRRIII_c, aRIIII_c, aRL_c, aRLL_c, aLL_c, aRRRI_c, aIL_c, aIIII_c, aRRIIII_c, aIRII_c, aIR_c, aLI_c, aRIR_c, aRIIR_c, hM.o]
  exact h
abbrev rgLo1 : Reg := (169, mpLo1) :: rgM3
theorem rgLo1_ok {l : Launch} {g : GE} {d : Nat} : ∀ e as t σ Q, rE l g (d + 3) rgLo1 e as t σ Q → WPc l g e (d + 3) 0 0 as t σ Q := rE_cons (fun _ _ _ _ h => m_lo1 (d := d + 2) h) rgM3_ok
theorem mo_ship {l : Launch} {g : GE} {d : Nat} {t : Tau} {σ : Mem} {Q : Post} {i w : Int} (hk : MK t σ) (h : if (0 ≤ i ∧ i < nM σ) ∧ (0 ≤ w ∧ w ≤ 8) then Q (some (vI (shpA (mM σ) (vA σ 176) i w))) t (up σ 175 8 0) else Q (some (vI 0)) t (up (up σ 175 8 0) 175 8 1)) : WPc l g 198 (d + 4) 0 0 [vR 175, vI i, vI w] t σ Q := by
  have hk8 : MK t (up σ 175 8 0) := by rw [mk_up (by omega) (by omega) (by omega)]; exact hk
  have hM8 := hk8.1
  obtain ⟨hM, hW⟩ := hk
  have n6 := hM.2.2
  have oM := hM.1.o
  refine wg (by decide) rgLo1_ok tk_198 py_198 ml_198 30 (by simp [catT]) (fun N hN => ?_)
  by_cases hs : (0 ≤ i ∧ i < nM σ) ∧ (0 ≤ w ∧ w ≤ 8)
  · rw [if_pos hs] at h
    obtain ⟨⟨i0, i1'⟩, w0, w8⟩ := hs
    have i6 : i < 6 := by omega
    have i50 : i < 50 := by omega
    have c1 : w32 (6 + i) = 6 + i := w32_id (by omega) (by omega)
    have c2 : w32 (36 + i) = 36 + i := w32_id (by omega) (by omega)
    have c3 : w32 (42 + i) = 42 + i := w32_id (by omega) (by omega)
    have b1 : 0 ≤ 6 + i ∧ 6 + i < 50 := by omega
    have b2 : 0 ≤ 36 + i ∧ 36 + i < 50 := by omega
    have b3 : 0 ≤ 42 + i ∧ 42 + i < 50 := by omega
    have x0 : σ 177 i = mM σ i := by unfold mM; rw [if_pos ⟨i0, i6⟩]
    have x1 : σ 176 i = vA σ 176 i := vA_at i0 i50
    have x2 : σ 176 (6 + i) = vA σ 176 (6 + i) := vA_at b1.1 b1.2
    have x3 : σ 176 (36 + i) = vA σ 176 (36 + i) := vA_at b2.1 b2.2
    have x4 : σ 176 (42 + i) = vA σ 176 (42 + i) := vA_at b3.1 b3.2
    have u7 : ∀ j, up σ 175 8 0 177 j = σ 177 j := fun j => by rw [up_ne (by omega)]
    have u6 : ∀ j, up σ 175 8 0 176 j = σ 176 j := fun j => by rw [up_ne (by omega)]
    have q0 : w32 0 = 0 ∧ w32 1 = 1 ∧ w32 2 = 2 ∧ w32 3 = 3 := ⟨w32_id (by omega) (by omega), w32_id (by omega) (by omega), w32_id (by omega) (by omega), w32_id (by omega) (by omega)⟩
    unfold shpA at h
    rcases (show w = 0 ∨ w = 1 ∨ w = 2 ∨ w = 3 ∨ w = 4 ∨ w = 5 ∨ w = 6 ∨ w = 7 ∨ w = 8 by omega) with rfl | rfl | rfl | rfl | rfl | rfl | rfl | rfl | rfl <;>
    · simp [bl_198, hN _, x_iconst, x_ldc2_w, x_aconst_null, x_iload, x_lload, x_aload, x_istore, x_lstore, x_astore, x_iinc, x_iadd, x_isub, x_imul, x_idiv, x_irem, x_iand, x_ior, x_ixor, x_ishl, x_ishr, x_iushr, x_ineg, x_ladd, x_lsub, x_lmul, x_ldiv, x_lrem, x_lcmp, x_i2l, x_i2b, x_i2s, x_i2c, x_dup, x_pop, x_dup_x1, x_dup2, x_getfield, x_putfield, x_iaload, x_baload, x_saload, x_caload, x_daload, x_faload, x_laload, x_aaload, x_iastore, x_bastore, x_sastore, x_castore, x_lastore, x_aastore, x_arraylength, x_getstatic, x_goto, x_goto_w, x_ifCond, x_if_icmp, x_ifnull, x_ifnonnull, x_lookupswitch, x_invokevirtual, x_invokestatic, x_invokedynamic, x_ireturn, x_freturn, x_dreturn, x_lreturn, x_areturn, x_return_, pI_c, pL_c, pR_c, pV_i, pV_r, gI_c, gL_c, gR_c, pN_z, pN_s, lget_c, lins_z, lins_c, ldel_z, ldel_c, ldel2_z, ldel2_c, lset_i, lset_l, lset_r, lkeep_z, lkeep_c, largs_z, largs_c, cat_i, cat_l, cat_r, lkp_c, cnd_eq, cnd_ne, cnd_lt, cnd_ge, cnd_gt, cnd_le, swL_z, swL_c, rE_e, rOr_s, rOr_n, rlk_z, rlk_c, aR_c, aI_c, aII_c, aIII_c, aRI_c, aRII_c, aRIII_c, vJn, vJs, vlc, aRR_c, aRRI_c, aRRII_c, aRRIII_c, aRIIII_c, aRL_c, aRLL_c, aLL_c, aRRRI_c, aIL_c, aIIII_c, aRRIIII_c, aIRII_c, aIR_c, aLI_c, aRIR_c, aRIIR_c, oM, mpShip, mpIn, mpPart, hM8, nM_up, i0, i1', hM.1.f3, hM.1.f0, hM.1.t177, hM.1.l177, hM.1.t176, hM.1.l176, u6, u7, i6, i50, c1, c2, c3, b1, b2, b3, x0, x1, x2, x3, x4, RowT.now hM.1, vA_up, q0]
      simp at h
      exact ⟨fun z => by omega, h⟩
  · rw [if_neg hs] at h
    simp [bl_198, hN _, x_iconst, x_ldc2_w, x_aconst_null, x_iload, x_lload, x_aload, x_istore, x_lstore, x_astore, x_iinc, x_iadd, x_isub, x_imul, x_idiv, x_irem, x_iand, x_ior, x_ixor, x_ishl, x_ishr, x_iushr, x_ineg, x_ladd, x_lsub, x_lmul, x_ldiv, x_lrem, x_lcmp, x_i2l, x_i2b, x_i2s, x_i2c, x_dup, x_pop, x_dup_x1, x_dup2, x_getfield, x_putfield, x_iaload, x_baload, x_saload, x_caload, x_daload, x_faload, x_laload, x_aaload, x_iastore, x_bastore, x_sastore, x_castore, x_lastore, x_aastore, x_arraylength, x_getstatic, x_goto, x_goto_w, x_ifCond, x_if_icmp, x_ifnull, x_ifnonnull, x_lookupswitch, x_invokevirtual, x_invokestatic, x_invokedynamic, x_ireturn, x_freturn, x_dreturn, x_lreturn, x_areturn, x_return_, pI_c, pL_c, pR_c, pV_i, pV_r, gI_c, gL_c, gR_c, pN_z, pN_s, lget_c, lins_z, lins_c, ldel_z, ldel_c, ldel2_z, ldel2_c, lset_i, lset_l, lset_r, lkeep_z, lkeep_c, largs_z, largs_c, cat_i, cat_l, cat_r, lkp_c, cnd_eq, cnd_ne, cnd_lt, cnd_ge, cnd_gt, cnd_le, swL_z, swL_c, rE_e, rOr_s, rOr_n, rlk_z, rlk_c, aR_c, aI_c, aII_c, aIII_c, aRI_c, aRII_c, aRIII_c, vJn, vJs, vlc, aRR_c, aRRI_c, aRRII_c, aRRIII_c, aRIIII_c, aRL_c, aRLL_c, aLL_c, aRRRI_c, aIL_c, aIIII_c, aRRIIII_c, aIRII_c, aIR_c, aLI_c, aRIR_c, aRIIR_c, oM, hM.1, mpShip, mpIn, mpLo1, hM8, nM_up]
    exact ⟨fun _ => h, fun z1 z2 => ⟨fun z3 z4 => absurd ⟨⟨z1, z2⟩, z3, z4⟩ hs, fun _ => h⟩⟩
theorem mo_row {l : Launch} {g : GE} {d : Nat} {t : Tau} {σ : Mem} {Q : Post} {i : Int} (hM : TM t) (h7 : 0 ≤ σ 175 7 ∧ σ 175 7 ≤ 16) (h : if 0 ≤ i ∧ i < σ 175 7 then Q (some (vL (σ 179 i))) t (up σ 175 8 0) else Q (some (vL 0)) t (up (up σ 175 8 0) 175 8 1)) : WPc l g 283 (d + 4) 0 0 [vR 175, vI i] t σ Q := by
  have oM := hM.o
  have w1 : w32 (σ 175 7 - 1) = σ 175 7 - 1 := w32_id (by omega) (by omega)
  refine wg (by decide) rgLo1_ok tk_283 py_283 ml_283 30 (by simp [catT]) (fun N hN => ?_)
  by_cases hs : 0 ≤ i ∧ i < σ 175 7
  · rw [if_pos hs] at h
    have c1 : i ≤ σ 175 7 - 1 := by omega
    have c2 : i < 16 := by omega
    have u9 : up σ 175 8 0 179 i = σ 179 i := by rw [up_ne (by omega)]
    simp [bl_283, hN _, x_iconst, x_ldc2_w, x_aconst_null, x_iload, x_lload, x_aload, x_istore, x_lstore, x_astore, x_iinc, x_iadd, x_isub, x_imul, x_idiv, x_irem, x_iand, x_ior, x_ixor, x_ishl, x_ishr, x_iushr, x_ineg, x_ladd, x_lsub, x_lmul, x_ldiv, x_lrem, x_lcmp, x_i2l, x_i2b, x_i2s, x_i2c, x_dup, x_pop, x_dup_x1, x_dup2, x_getfield, x_putfield, x_iaload, x_baload, x_saload, x_caload, x_daload, x_faload, x_laload, x_aaload, x_iastore, x_bastore, x_sastore, x_castore, x_lastore, x_aastore, x_arraylength, x_getstatic, x_goto, x_goto_w, x_ifCond, x_if_icmp, x_ifnull, x_ifnonnull, x_lookupswitch, x_invokevirtual, x_invokestatic, x_invokedynamic, x_ireturn, x_freturn, x_dreturn, x_lreturn, x_areturn, x_return_, pI_c, pL_c, pR_c, pV_i, pV_r, gI_c, gL_c, gR_c, pN_z, pN_s, lget_c, lins_z, lins_c, ldel_z, ldel_c, ldel2_z, ldel2_c, lset_i, lset_l, lset_r, lkeep_z, lkeep_c, largs_z, largs_c, cat_i, cat_l, cat_r, lkp_c, cnd_eq, cnd_ne, cnd_lt, cnd_ge, cnd_gt, cnd_le, swL_z, swL_c, rE_e, rOr_s, rOr_n, rlk_z, rlk_c, aR_c, aI_c, aII_c, aIII_c, aRI_c, aRII_c, aRIII_c, vJn, vJs, vlc, aRR_c, aRRI_c, aRRII_c, aRRIII_c, aRIIII_c, aRL_c, aRLL_c, aLL_c, aRRRI_c, aIL_c, aIIII_c, aRRIIII_c, aIRII_c, aIR_c, aLI_c, aRIR_c, aRIIR_c, oM, mpIn, up_ap, w1, hs.1, c1, c2, hM.f6, hM.t179, hM.l179, u9]
    exact ⟨fun z => by omega, h⟩
  · rw [if_neg hs] at h
    simp [bl_283, hN _, x_iconst, x_ldc2_w, x_aconst_null, x_iload, x_lload, x_aload, x_istore, x_lstore, x_astore, x_iinc, x_iadd, x_isub, x_imul, x_idiv, x_irem, x_iand, x_ior, x_ixor, x_ishl, x_ishr, x_iushr, x_ineg, x_ladd, x_lsub, x_lmul, x_ldiv, x_lrem, x_lcmp, x_i2l, x_i2b, x_i2s, x_i2c, x_dup, x_pop, x_dup_x1, x_dup2, x_getfield, x_putfield, x_iaload, x_baload, x_saload, x_caload, x_daload, x_faload, x_laload, x_aaload, x_iastore, x_bastore, x_sastore, x_castore, x_lastore, x_aastore, x_arraylength, x_getstatic, x_goto, x_goto_w, x_ifCond, x_if_icmp, x_ifnull, x_ifnonnull, x_lookupswitch, x_invokevirtual, x_invokestatic, x_invokedynamic, x_ireturn, x_freturn, x_dreturn, x_lreturn, x_areturn, x_return_, pI_c, pL_c, pR_c, pV_i, pV_r, gI_c, gL_c, gR_c, pN_z, pN_s, lget_c, lins_z, lins_c, ldel_z, ldel_c, ldel2_z, ldel2_c, lset_i, lset_l, lset_r, lkeep_z, lkeep_c, largs_z, largs_c, cat_i, cat_l, cat_r, lkp_c, cnd_eq, cnd_ne, cnd_lt, cnd_ge, cnd_gt, cnd_le, swL_z, swL_c, rE_e, rOr_s, rOr_n, rlk_z, rlk_c, aR_c, aI_c, aII_c, aIII_c, aRI_c, aRII_c, aRIII_c, vJn, vJs, vlc, aRR_c, aRRI_c, aRRII_c, aRRIII_c, aRIIII_c, aRL_c, aRLL_c, aLL_c, aRRRI_c, aIL_c, aIIII_c, aRRIIII_c, aIRII_c, aIR_c, aLI_c, aRIR_c, aRIIR_c, oM, hM, mpIn, mpLo1, up_ap, w1]
    exact ⟨fun _ => h, fun z1 z2 => absurd ⟨z1, by omega⟩ hs⟩
