/-! the reference: lesserWins -/
noncomputable def lsJ (F : (Int → Int) → Int) (V : Int → Int) (i : Nat) (s : Nat) : Nat → Nat := fo (fun k s => s + if winV F V i (i + 1 + k : Nat) = i then 1 else 0) s
noncomputable def lsI (F : (Int → Int) → Int) (V : Int → Int) (n : Nat) : Nat → Nat := fo (fun i s => lsJ F V i s (n - (i + 1))) 0
theorem lsJ_l {F : (Int → Int) → Int} {V : Int → Int} {i s : Nat} : ∀ k, lsJ F V i s k ≤ s + k
  | 0 => Nat.le_refl _
  | k + 1 => by
    have ih := lsJ_l (F := F) (V := V) (i := i) (s := s) k
    have es : lsJ F V i s (k + 1) = lsJ F V i s k + if winV F V i (i + 1 + k : Nat) = i then 1 else 0 := rfl
    rw [es]; split <;> omega
theorem lsI_l {F : (Int → Int) → Int} {V : Int → Int} {n : Nat} : ∀ i, lsI F V n i ≤ n * i
  | 0 => Nat.zero_le _
  | i + 1 => by
    have ih := lsI_l (F := F) (V := V) (n := n) i
    have h1 := lsJ_l (F := F) (V := V) (i := i) (s := lsI F V n i) (n - (i + 1))
    have es : lsI F V n (i + 1) = lsJ F V i (lsI F V n i) (n - (i + 1)) := rfl
    rw [es, Nat.mul_succ]; omega
def mpLes : Sp := fun as t σ Q => aR as fun a => a = 175 ∧ ∃ F, MR t σ F ∧ MK t σ ∧ ∀ σ', FoF σ σ' → Q (some (vI (lsI F (vA σ 176) (nM σ) (nM σ)))) t σ'
set_option maxHeartbeats 1000000 in
theorem m_lesserWins {l : Launch} {g : GE} {d : Nat} {t : Tau} {σ : Mem} {Q : Post} {as : List TV} (h0 : mpLes as t σ Q) : WPc l g 274 (d + 93) 0 0 as t σ Q := by
  obtain ⟨a, rfl, rfl, F, hR, hk, h⟩ := aR_e h0
  clear h0
  obtain ⟨hM, hW⟩ := hk
  have n6 := hM.2.2
  have z0 := hM.2.1
  have hl := fun i (hi : i ≤ nM σ) => Nat.le_trans (lsI_l (F := F) (V := vA σ 176) (n := nM σ) i) (Nat.mul_le_mul n6 (Nat.le_trans hi n6))
  have O : ∀ σ', FoF σ σ' → Wp l g 274 (d + 93) 0 0 4 [(0, vR 175), (1, vI (lsI F (vA σ 176) (nM σ) 0 : Nat)), (2, vI (0 : Nat))] [] t σ' Q := by
    refine lpU (P := fun i => ∀ σ', FoF σ σ' → Wp l g 274 (d + 93) 0 0 4 [(0, vR 175), (1, vI (lsI F (vA σ 176) (nM σ) i : Nat)), (2, vI i)] [] t σ' Q) (n := nM σ) ?_ (fun i hi KO σ' f => ?_)
    · intro σ' f
      have z1 : σ' 175 1 = nM σ := by rw [f.2 1 (by omega) (by omega), z0]
      refine wa (by decide) rgMw_ok tk_274 30 (fun N hN => ?_)
      simp [bl_274, hN _, x_iconst, x_ldc2_w, x_aconst_null, x_iload, x_lload, x_aload, x_istore, x_lstore, x_astore, x_iinc, x_iadd, x_isub, x_imul, x_idiv, x_irem, x_iand, x_ior, x_ixor, x_ishl, x_ishr, x_iushr, x_ineg, x_ladd, x_lsub, x_lmul, x_ldiv, x_lrem, x_lcmp, x_i2l, x_i2b, x_i2s, x_i2c, x_dup, x_pop, x_dup_x1, x_dup2, x_getfield, x_putfield, x_iaload, x_baload, x_saload, x_caload, x_daload, x_faload, x_laload, x_aaload, x_iastore, x_bastore, x_sastore, x_castore, x_lastore, x_aastore, x_arraylength, x_getstatic, x_goto, x_goto_w, x_ifCond, x_if_icmp, x_ifnull, x_ifnonnull, x_lookupswitch, x_invokevirtual, x_invokestatic, x_invokedynamic, x_ireturn, x_freturn, x_dreturn, x_lreturn, x_areturn, x_return_, pI_c, pL_c, pR_c, pV_i, pV_r, gI_c, gL_c, gR_c, pN_z, pN_s, lget_c, lins_z, lins_c, ldel_z, ldel_c, ldel2_z, ldel2_c, lset_i, lset_l, lset_r, lkeep_z, lkeep_c, largs_z, largs_c, cat_i, cat_l, cat_r, lkp_c, cnd_eq, cnd_ne, cnd_lt, cnd_ge, cnd_gt, cnd_le, swL_z, swL_c, rE_e, rOr_s, rOr_n, rlk_z, rlk_c, aR_c, aI_c, aII_c, aIII_c, aRI_c, aRII_c, aRIII_c, vJn, vJs, vlc, aRR_c, aRRI_c, aRRII_c, aRRIII_c, aRIIII_c, aRL_c, aRLL_c, aLL_c, aRRRI_c, aIL_c, aIIII_c, aRRIIII_c, aIRII_c, aIR_c, aLI_c, aRIR_c, aRIIR_c, hM.1.o, z1]
      exact h σ' f
    · have es : lsI F (vA σ 176) (nM σ) (i + 1) = lsJ F (vA σ 176) i (lsI F (vA σ 176) (nM σ) i) (nM σ - (i + 1)) := rfl
      rw [es] at KO
      have hb := hl i (by omega)
      generalize lsI F (vA σ 176) (nM σ) i = S at KO hb
      have I : ∀ σ', FoF σ σ' → Wp l g 274 (d + 93) 0 0 16 [(0, vR 175), (1, vI (lsJ F (vA σ 176) i S 0 : Nat)), (2, vI i), (3, vI (i + 1 + 0 : Nat))] [] t σ' Q := by
        refine lpU (P := fun k => ∀ σ', FoF σ σ' → Wp l g 274 (d + 93) 0 0 16 [(0, vR 175), (1, vI (lsJ F (vA σ 176) i S k : Nat)), (2, vI i), (3, vI (i + 1 + k : Nat))] [] t σ' Q) (n := nM σ - (i + 1)) ?_ (fun k hkk K σ' f => ?_)
        · intro σ' f
          have z1 : σ' 175 1 = nM σ := by rw [f.2 1 (by omega) (by omega), z0]
          have e4 : i + 1 + (nM σ - (i + 1)) = nM σ := by omega
          rw [e4]
          have K := KO σ' f
          have e2 := w32_succ (k := i) (by omega)
          refine wa (by decide) rgMw_ok tk_274 30 (fun N hN => ?_)
          simp [bl_274, hN _, x_iconst, x_ldc2_w, x_aconst_null, x_iload, x_lload, x_aload, x_istore, x_lstore, x_astore, x_iinc, x_iadd, x_isub, x_imul, x_idiv, x_irem, x_iand, x_ior, x_ixor, x_ishl, x_ishr, x_iushr, x_ineg, x_ladd, x_lsub, x_lmul, x_ldiv, x_lrem, x_lcmp, x_i2l, x_i2b, x_i2s, x_i2c, x_dup, x_pop, x_dup_x1, x_dup2, x_getfield, x_putfield, x_iaload, x_baload, x_saload, x_caload, x_daload, x_faload, x_laload, x_aaload, x_iastore, x_bastore, x_sastore, x_castore, x_lastore, x_aastore, x_arraylength, x_getstatic, x_goto, x_goto_w, x_ifCond, x_if_icmp, x_ifnull, x_ifnonnull, x_lookupswitch, x_invokevirtual, x_invokestatic, x_invokedynamic, x_ireturn, x_freturn, x_dreturn, x_lreturn, x_areturn, x_return_, pI_c, pL_c, pR_c, pV_i, pV_r, gI_c, gL_c, gR_c, pN_z, pN_s, lget_c, lins_z, lins_c, ldel_z, ldel_c, ldel2_z, ldel2_c, lset_i, lset_l, lset_r, lkeep_z, lkeep_c, largs_z, largs_c, cat_i, cat_l, cat_r, lkp_c, cnd_eq, cnd_ne, cnd_lt, cnd_ge, cnd_gt, cnd_le, swL_z, swL_c, rE_e, rOr_s, rOr_n, rlk_z, rlk_c, aR_c, aI_c, aII_c, aIII_c, aRI_c, aRII_c, aRIII_c, vJn, vJs, vlc, aRR_c, aRRI_c, aRRII_c, aRRIII_c, aRIIII_c, aRL_c, aRLL_c, aLL_c, aRRRI_c, aIL_c, aIIII_c, aRRIIII_c, aIRII_c, aIR_c, aLI_c, aRIR_c, aRIIR_c, hM.1.o, z1, e2]
          exact K
        · have er : lsJ F (vA σ 176) i S (k + 1) = lsJ F (vA σ 176) i S k + if winV F (vA σ 176) i (i + 1 + k : Nat) = i then 1 else 0 := rfl
          have hc := lsJ_l (F := F) (V := vA σ 176) (i := i) (s := S) k
          rw [er] at K
          generalize lsJ F (vA σ 176) i S k = c at K hc
          generalize hj : i + 1 + k = j at K ⊢
          have hj' : i + 1 + (k + 1) = j + 1 := by omega
          rw [hj'] at K
          have jN : j < nM σ := by omega
          have e2 := w32_succ (k := j) (by omega); have i1 : ((j : Nat) : Int) < (nM σ : Nat) := (by omega); have i1n : j < nM σ := (by omega); have i1x : ¬ nM σ ≤ j := (by omega)
          have z1 : σ' 175 1 = nM σ := by rw [f.2 1 (by omega) (by omega), z0]
          have iN : (i : Int) < nM σ := by omega
          have iNn : i < nM σ := by omega
          have hA : ARow t σ' 176 := ⟨RowT.now hM.1, by rw [f.q.n, f.q.m, f.q.v]; exact hW⟩
          have w1 : w32 (c : Int) = c := w32_id (by omega) (by omega)
          have w2 := w32_succ (k := c) (by omega)
          refine wa (by decide) rgMw_ok ts_274 30 (fun N hN => ?_)
          simp [bs_274, hN _, x_iconst, x_ldc2_w, x_aconst_null, x_iload, x_lload, x_aload, x_istore, x_lstore, x_astore, x_iinc, x_iadd, x_isub, x_imul, x_idiv, x_irem, x_iand, x_ior, x_ixor, x_ishl, x_ishr, x_iushr, x_ineg, x_ladd, x_lsub, x_lmul, x_ldiv, x_lrem, x_lcmp, x_i2l, x_i2b, x_i2s, x_i2c, x_dup, x_pop, x_dup_x1, x_dup2, x_getfield, x_putfield, x_iaload, x_baload, x_saload, x_caload, x_daload, x_faload, x_laload, x_aaload, x_iastore, x_bastore, x_sastore, x_castore, x_lastore, x_aastore, x_arraylength, x_getstatic, x_goto, x_goto_w, x_ifCond, x_if_icmp, x_ifnull, x_ifnonnull, x_lookupswitch, x_invokevirtual, x_invokestatic, x_invokedynamic, x_ireturn, x_freturn, x_dreturn, x_lreturn, x_areturn, x_return_, pI_c, pL_c, pR_c, pV_i, pV_r, gI_c, gL_c, gR_c, pN_z, pN_s, lget_c, lins_z, lins_c, ldel_z, ldel_c, ldel2_z, ldel2_c, lset_i, lset_l, lset_r, lkeep_z, lkeep_c, largs_z, largs_c, cat_i, cat_l, cat_r, lkp_c, cnd_eq, cnd_ne, cnd_lt, cnd_ge, cnd_gt, cnd_le, swL_z, swL_c, rE_e, rOr_s, rOr_n, rlk_z, rlk_c, aR_c, aI_c, aII_c, aIII_c, aRI_c, aRII_c, aRIII_c, vJn, vJs, vlc, aRR_c, aRRI_c, aRRII_c, aRRIII_c, aRIIII_c, aRL_c, aRLL_c, aLL_c, aRRRI_c, aIL_c, aIIII_c, aRRIIII_c, aIRII_c, aIR_c, aLI_c, aRIR_c, aRIIR_c, hM.1.o, hM.1.f0, z1, e2, i1, i1n, i1x, mpWin, f.q.md hM, hA, f.q.n, f.q.v, iN, iNn]
          refine ⟨F, hR.cg f.q.rs, fun σ2 f2 => ?_⟩
          have K := K σ2 (f.tr f2)
          by_cases hw : winV F (vA σ 176) i j = i
          · rw [if_pos hw] at K
            simp [sg_274_16_1, bs_274, hN _, x_iconst, x_ldc2_w, x_aconst_null, x_iload, x_lload, x_aload, x_istore, x_lstore, x_astore, x_iinc, x_iadd, x_isub, x_imul, x_idiv, x_irem, x_iand, x_ior, x_ixor, x_ishl, x_ishr, x_iushr, x_ineg, x_ladd, x_lsub, x_lmul, x_ldiv, x_lrem, x_lcmp, x_i2l, x_i2b, x_i2s, x_i2c, x_dup, x_pop, x_dup_x1, x_dup2, x_getfield, x_putfield, x_iaload, x_baload, x_saload, x_caload, x_daload, x_faload, x_laload, x_aaload, x_iastore, x_bastore, x_sastore, x_castore, x_lastore, x_aastore, x_arraylength, x_getstatic, x_goto, x_goto_w, x_ifCond, x_if_icmp, x_ifnull, x_ifnonnull, x_lookupswitch, x_invokevirtual, x_invokestatic, x_invokedynamic, x_ireturn, x_freturn, x_dreturn, x_lreturn, x_areturn, x_return_, pI_c, pL_c, pR_c, pV_i, pV_r, gI_c, gL_c, gR_c, pN_z, pN_s, lget_c, lins_z, lins_c, ldel_z, ldel_c, ldel2_z, ldel2_c, lset_i, lset_l, lset_r, lkeep_z, lkeep_c, largs_z, largs_c, cat_i, cat_l, cat_r, lkp_c, cnd_eq, cnd_ne, cnd_lt, cnd_ge, cnd_gt, cnd_le, swL_z, swL_c, rE_e, rOr_s, rOr_n, rlk_z, rlk_c, aR_c, aI_c, aII_c, aIII_c, aRI_c, aRII_c, aRIII_c, vJn, vJs, vlc, aRR_c, aRRI_c, aRRII_c, aRRIII_c, aRIIII_c, aRL_c, aRLL_c, aLL_c, aRRRI_c, aIL_c, aIIII_c, aRRIIII_c, aIRII_c, aIR_c, aLI_c, aRIR_c, aRIIR_c, hw, w2, e2]
            exact K
          · rw [if_neg hw] at K
            simp [sg_274_16_1, bs_274, hN _, x_iconst, x_ldc2_w, x_aconst_null, x_iload, x_lload, x_aload, x_istore, x_lstore, x_astore, x_iinc, x_iadd, x_isub, x_imul, x_idiv, x_irem, x_iand, x_ior, x_ixor, x_ishl, x_ishr, x_iushr, x_ineg, x_ladd, x_lsub, x_lmul, x_ldiv, x_lrem, x_lcmp, x_i2l, x_i2b, x_i2s, x_i2c, x_dup, x_pop, x_dup_x1, x_dup2, x_getfield, x_putfield, x_iaload, x_baload, x_saload, x_caload, x_daload, x_faload, x_laload, x_aaload, x_iastore, x_bastore, x_sastore, x_castore, x_lastore, x_aastore, x_arraylength, x_getstatic, x_goto, x_goto_w, x_ifCond, x_if_icmp, x_ifnull, x_ifnonnull, x_lookupswitch, x_invokevirtual, x_invokestatic, x_invokedynamic, x_ireturn, x_freturn, x_dreturn, x_lreturn, x_areturn, x_return_, pI_c, pL_c, pR_c, pV_i, pV_r, gI_c, gL_c, gR_c, pN_z, pN_s, lget_c, lins_z, lins_c, ldel_z, ldel_c, ldel2_z, ldel2_c, lset_i, lset_l, lset_r, lkeep_z, lkeep_c, largs_z, largs_c, cat_i, cat_l, cat_r, lkp_c, cnd_eq, cnd_ne, cnd_lt, cnd_ge, cnd_gt, cnd_le, swL_z, swL_c, rE_e, rOr_s, rOr_n, rlk_z, rlk_c, aR_c, aI_c, aII_c, aIII_c, aRI_c, aRII_c, aRIII_c, vJn, vJs, vlc, aRR_c, aRRI_c, aRRII_c, aRRIII_c, aRIIII_c, aRL_c, aRLL_c, aLL_c, aRRRI_c, aIL_c, aIIII_c, aRRIIII_c, aIRII_c, aIR_c, aLI_c, aRIR_c, aRIIR_c, hw, w1, e2]
            exact K
      have z1 : σ' 175 1 = nM σ := by rw [f.2 1 (by omega) (by omega), z0]
      have K := I σ' f
      have e2 := w32_succ (k := i) (by omega); have i1 : ((i : Nat) : Int) < (nM σ : Nat) := (by omega); have i1n : i < nM σ := (by omega); have i1x : ¬ nM σ ≤ i := (by omega)
      refine wa (by decide) rgMw_ok tk_274 30 (fun N hN => ?_)
      simp [bl_274, hN _, x_iconst, x_ldc2_w, x_aconst_null, x_iload, x_lload, x_aload, x_istore, x_lstore, x_astore, x_iinc, x_iadd, x_isub, x_imul, x_idiv, x_irem, x_iand, x_ior, x_ixor, x_ishl, x_ishr, x_iushr, x_ineg, x_ladd, x_lsub, x_lmul, x_ldiv, x_lrem, x_lcmp, x_i2l, x_i2b, x_i2s, x_i2c, x_dup, x_pop, x_dup_x1, x_dup2, x_getfield, x_putfield, x_iaload, x_baload, x_saload, x_caload, x_daload, x_faload, x_laload, x_aaload, x_iastore, x_bastore, x_sastore, x_castore, x_lastore, x_aastore, x_arraylength, x_getstatic, x_goto, x_goto_w, x_ifCond, x_if_icmp, x_ifnull, x_ifnonnull, x_lookupswitch, x_invokevirtual, x_invokestatic, x_invokedynamic, x_ireturn, x_freturn, x_dreturn, x_lreturn, x_areturn, x_return_, pI_c, pL_c, pR_c, pV_i, pV_r, gI_c, gL_c, gR_c, pN_z, pN_s, lget_c, lins_z, lins_c, ldel_z, ldel_c, ldel2_z, ldel2_c, lset_i, lset_l, lset_r, lkeep_z, lkeep_c, largs_z, largs_c, cat_i, cat_l, cat_r, lkp_c, cnd_eq, cnd_ne, cnd_lt, cnd_ge, cnd_gt, cnd_le, swL_z, swL_c, rE_e, rOr_s, rOr_n, rlk_z, rlk_c, aR_c, aI_c, aII_c, aIII_c, aRI_c, aRII_c, aRIII_c, vJn, vJs, vlc, aRR_c, aRRI_c, aRRII_c, aRRIII_c, aRIIII_c, aRL_c, aRLL_c, aLL_c, aRRRI_c, aIL_c, aIIII_c, aRRIIII_c, aIRII_c, aIR_c, aLI_c, aRIR_c, aRIIR_c, hM.1.o, z1, e2, i1, i1n, i1x]
      exact K
  have K := O σ FoF.rf
  refine wg (by decide) rgMw_ok tk_274 py_274 ml_274 30 (by simp [catT]) (fun N hN => ?_)
  simp [bl_274, hN _, x_iconst, x_ldc2_w, x_aconst_null, x_iload, x_lload, x_aload, x_istore, x_lstore, x_astore, x_iinc, x_iadd, x_isub, x_imul, x_idiv, x_irem, x_iand, x_ior, x_ixor, x_ishl, x_ishr, x_iushr, x_ineg, x_ladd, x_lsub, x_lmul, x_ldiv, x_lrem, x_lcmp, x_i2l, x_i2b, x_i2s, x_i2c, x_dup, x_pop, x_dup_x1, x_dup2, x_getfield, x_putfield, x_iaload, x_baload, x_saload, x_caload, x_daload, x_faload, x_laload, x_aaload, x_iastore, x_bastore, x_sastore, x_castore, x_lastore, x_aastore, x_arraylength, x_getstatic, x_goto, x_goto_w, x_ifCond, x_if_icmp, x_ifnull, x_ifnonnull, x_lookupswitch, x_invokevirtual, x_invokestatic, x_invokedynamic, x_ireturn, x_freturn, x_dreturn, x_lreturn, x_areturn, x_return_, pI_c, pL_c, pR_c, pV_i, pV_r, gI_c, gL_c, gR_c, pN_z, pN_s, lget_c, lins_z, lins_c, ldel_z, ldel_c, ldel2_z, ldel2_c, lset_i, lset_l, lset_r, lkeep_z, lkeep_c, largs_z, largs_c, cat_i, cat_l, cat_r, lkp_c, cnd_eq, cnd_ne, cnd_lt, cnd_ge, cnd_gt, cnd_le, swL_z, swL_c, rE_e, rOr_s, rOr_n, rlk_z, rlk_c, aR_c, aI_c, aII_c, aIII_c, aRI_c, aRII_c, aRIII_c, vJn, vJs, vlc, aRR_c, aRRI_c, aRRII_c, aRRIII_c, aRIIII_c, aRL_c, aRLL_c, aLL_c, aRRRI_c, aIL_c, aIIII_c, aRRIIII_c, aIRII_c, aIR_c, aLI_c, aRIR_c, aRIIR_c]
  exact K
