/-! the reference: fits, looks -/
def MsOk (σ : Mem) : Prop := (0 ≤ σ 175 30 ∧ σ 175 30 ≤ 12) ∧ ∀ k : Int, 0 ≤ k → k < σ 175 30 → 0 ≤ σ 192 k ∧ σ 192 k ≤ mostS (σ 191 k)
def mpFit3 : Sp := fun as t σ Q => aRIII as fun a i w v => a = 175 ∧ MK t σ ∧ (0 ≤ i ∧ i < nM σ) ∧ (0 ≤ v ∧ v ≤ mostS w) ∧ Q (some (vI (if fitS (vA σ 176) i w v then 1 else 0))) t σ
set_option maxHeartbeats 1000000 in
theorem m_fits3 {l : Launch} {g : GE} {d : Nat} {t : Tau} {σ : Mem} {Q : Post} {as : List TV} (h0 : mpFit3 as t σ Q) : WPc l g 255 (d + 2) 0 0 as t σ Q := by
  obtain ⟨a, i, w, v, rfl, rfl, hk, ⟨i0, si⟩, ⟨v0, v1⟩, h⟩ := aRIII_e h0
  clear h0
  obtain ⟨hM, hW⟩ := hk
  have n6 := hM.2.2
  have i6 : i < 6 := by omega
  have i50 : i < 50 := by omega
  unfold fitS at h
  unfold mostS at v1
  have e1 : w32 (6 + i) = 6 + i := w32_id (by omega) (by omega)
  have e2 : w32 (36 + i) = 36 + i := w32_id (by omega) (by omega)
  have e3 : w32 (42 + i) = 42 + i := w32_id (by omega) (by omega)
  have a1 : 0 ≤ 6 + i ∧ 6 + i < 50 := by omega
  have a2 : 0 ≤ 36 + i ∧ 36 + i < 50 := by omega
  have a3 : 0 ≤ 42 + i ∧ 42 + i < 50 := by omega
  have x0 : σ 176 i = vA σ 176 i := vA_at i0 i50
  have x1 : σ 176 (6 + i) = vA σ 176 (6 + i) := vA_at a1.1 a1.2
  have x2 : σ 176 (36 + i) = vA σ 176 (36 + i) := vA_at a2.1 a2.2
  have x3 : σ 176 (42 + i) = vA σ 176 (42 + i) := vA_at a3.1 a3.2
  refine wg (by decide) rgM1_ok tk_255 py_255 ml_255 30 (by simp [catT]) (fun N hN => ?_)
  simp [bl_255, hN _, x_iconst, x_ldc2_w, x_aconst_null, x_iload, x_lload, x_aload, x_istore, x_lstore, x_astore, x_iinc, x_iadd, x_isub, x_imul, x_idiv, x_irem, x_iand, x_ior, x_ixor, x_ishl, x_ishr, x_iushr, x_ineg, x_ladd, x_lsub, x_lmul, x_ldiv, x_lrem, x_lcmp, x_i2l, x_i2b, x_i2s, x_i2c, x_dup, x_pop, x_dup_x1, x_dup2, x_getfield, x_putfield, x_iaload, x_baload, x_saload, x_caload, x_daload, x_faload, x_laload, x_aaload, x_iastore, x_bastore, x_sastore, x_castore, x_lastore, x_aastore, x_arraylength, x_getstatic, x_goto, x_goto_w, x_ifCond, x_if_icmp, x_ifnull, x_ifnonnull, x_lookupswitch, x_invokevirtual, x_invokestatic, x_invokedynamic, x_ireturn, x_freturn, x_dreturn, x_lreturn, x_areturn, x_return_, pI_c, pL_c, pR_c, pV_i, pV_r, gI_c, gL_c, gR_c, pN_z, pN_s, lget_c, lins_z, lins_c, ldel_z, ldel_c, ldel2_z, ldel2_c, lset_i, lset_l, lset_r, lkeep_z, lkeep_c, largs_z, largs_c, cat_i, cat_l, cat_r, lkp_c, cnd_eq, cnd_ne, cnd_lt, cnd_ge, cnd_gt, cnd_le, swL_z, swL_c, rE_e, rOr_s, rOr_n, rlk_z, rlk_c, aR_c, aI_c, aII_c, aIII_c, aRI_c, aRII_c, aRIII_c, vJn, vJs, vlc, aRR_c, aRRI_c, aRRII_c, aRRIII_c, aRIIII_c, aRL_c, aRLL_c, aLL_c, aRRRI_c, aIL_c, aIIII_c, aRRIIII_c, aIRII_c, aIR_c, aLI_c, aRIR_c, aRIIR_c, hM.1.o, hM.1.f0, hM.1.t176, hM.1.l176, mpPart, RowT.now hM.1, i0, i6, i50, e1, e2, e3, a1, a2, a3, x0, x1, x2, x3]
  by_cases w0 : w = 0
  · subst w0; simp at h ⊢; grind
  by_cases w1 : w = 1
  · subst w1; simp at h ⊢; grind
  by_cases w2 : w = 2
  · subst w2; simp at h v1 ⊢
    have v4 : v < 4 := by omega
    simp [v0, v4]
    grind
  by_cases w3 : w = 3
  · subst w3; simp at h ⊢; grind
  simp [w0, w1, w2, w3] at h ⊢
  by_cases hv : v = 1 <;> by_cases hl : 0 < vA σ 176 (42 + i) <;> simp [hv, hl] at h ⊢ <;> grind
theorem rgF3_ok {l : Launch} {g : GE} {d : Nat} : ∀ e as t σ Q, rE l g (d + 2) [(255, mpFit3)] e as t σ Q → WPc l g e (d + 2) 0 0 as t σ Q := rE_cons (fun _ _ _ _ h => m_fits3 h) rE_nil
def mpFit : Sp := fun as t σ Q => aR as fun a => a = 175 ∧ MK t σ ∧ MsOk σ ∧ Q (some (vI (setN (fitB (vA σ 176) (σ 191) (σ 192) (σ 175 30).toNat) (nM σ) : Nat))) t σ
theorem m_fitting {l : Launch} {g : GE} {d : Nat} {t : Tau} {σ : Mem} {Q : Post} {as : List TV} (h0 : mpFit as t σ Q) : WPc l g 256 (d + 3) 0 0 as t σ Q := by
  obtain ⟨a, rfl, rfl, hk, ⟨⟨m0, m1⟩, hv⟩, h⟩ := aR_e h0
  clear h0
  have hk' := hk
  obtain ⟨hM, hW⟩ := hk
  have n6 := hM.2.2
  have z0 := hM.2.1
  obtain ⟨m, hm⟩ : ∃ m : Nat, σ 175 30 = m := ⟨(σ 175 30).toNat, by omega⟩
  rw [hm] at h m1
  simp only [Int.toNat_natCast] at h
  generalize hp : fitB (vA σ 176) (σ 191) (σ 192) m = p at h
  have K : Wp l g 256 (d + 3) 0 0 4 [(0, vR 175), (1, vI (setN p 0 : Nat)), (2, vI (0 : Nat))] [] t σ Q := by
    refine lpU (P := fun i => Wp l g 256 (d + 3) 0 0 4 [(0, vR 175), (1, vI (setN p i : Nat)), (2, vI i)] [] t σ Q) (n := nM σ) ?_ (fun i hi K => ?_)
    · refine wa (by decide) rgF3_ok tk_256 30 (fun N hN => ?_)
      simp [bl_256, hN _, x_iconst, x_ldc2_w, x_aconst_null, x_iload, x_lload, x_aload, x_istore, x_lstore, x_astore, x_iinc, x_iadd, x_isub, x_imul, x_idiv, x_irem, x_iand, x_ior, x_ixor, x_ishl, x_ishr, x_iushr, x_ineg, x_ladd, x_lsub, x_lmul, x_ldiv, x_lrem, x_lcmp, x_i2l, x_i2b, x_i2s, x_i2c, x_dup, x_pop, x_dup_x1, x_dup2, x_getfield, x_putfield, x_iaload, x_baload, x_saload, x_caload, x_daload, x_faload, x_laload, x_aaload, x_iastore, x_bastore, x_sastore, x_castore, x_lastore, x_aastore, x_arraylength, x_getstatic, x_goto, x_goto_w, x_ifCond, x_if_icmp, x_ifnull, x_ifnonnull, x_lookupswitch, x_invokevirtual, x_invokestatic, x_invokedynamic, x_ireturn, x_freturn, x_dreturn, x_lreturn, x_areturn, x_return_, pI_c, pL_c, pR_c, pV_i, pV_r, gI_c, gL_c, gR_c, pN_z, pN_s, lget_c, lins_z, lins_c, ldel_z, ldel_c, ldel2_z, ldel2_c, lset_i, lset_l, lset_r, lkeep_z, lkeep_c, largs_z, largs_c, cat_i, cat_l, cat_r, lkp_c, cnd_eq, cnd_ne, cnd_lt, cnd_ge, cnd_gt, cnd_le, swL_z, swL_c, rE_e, rOr_s, rOr_n, rlk_z, rlk_c, aR_c, aI_c, aII_c, aIII_c, aRI_c, aRII_c, aRIII_c, vJn, vJs, vlc, aRR_c, aRRI_c, aRRII_c, aRRIII_c, aRIIII_c, aRL_c, aRLL_c, aLL_c, aRRRI_c, aIL_c, aIIII_c, aRRIIII_c, aIRII_c, aIR_c, aLI_c, aRIR_c, aRIIR_c, hM.1.o, z0]
      exact h
    · have e2 := w32_succ (k := i) (by omega); have i1 : ((i : Nat) : Int) < (nM σ : Nat) := (by omega); have i1n : i < nM σ := (by omega); have i1x : ¬ nM σ ≤ i := (by omega)
      have ho := or_set (p := p) (k := i) (by omega)
      have hpi : sA (fun k => fitS (vA σ 176) i (σ 191 k) (σ 192 k)) m = p i := by rw [← hp]; rfl
      rw [← ho] at K
      have I : Wp l g 256 (d + 3) 0 0 17 [(0, vR 175), (1, vI (setN p i : Nat)), (2, vI i), (3, vI (if sA (fun k => fitS (vA σ 176) i (σ 191 k) (σ 192 k)) 0 then 1 else 0)), (4, vI (0 : Nat))] [] t σ Q := by
        refine lpU (P := fun j => Wp l g 256 (d + 3) 0 0 17 [(0, vR 175), (1, vI (setN p i : Nat)), (2, vI i), (3, vI (if sA (fun k => fitS (vA σ 176) i (σ 191 k) (σ 192 k)) j then 1 else 0)), (4, vI j)] [] t σ Q) (n := m) ?_ (fun j hj K => ?_)
        · rw [hpi]
          refine wa (by decide) rgF3_ok tk_256 30 (fun N hN => ?_)
          cases hc : p i
          · rw [hc] at K
            simp [bl_256, hN _, x_iconst, x_ldc2_w, x_aconst_null, x_iload, x_lload, x_aload, x_istore, x_lstore, x_astore, x_iinc, x_iadd, x_isub, x_imul, x_idiv, x_irem, x_iand, x_ior, x_ixor, x_ishl, x_ishr, x_iushr, x_ineg, x_ladd, x_lsub, x_lmul, x_ldiv, x_lrem, x_lcmp, x_i2l, x_i2b, x_i2s, x_i2c, x_dup, x_pop, x_dup_x1, x_dup2, x_getfield, x_putfield, x_iaload, x_baload, x_saload, x_caload, x_daload, x_faload, x_laload, x_aaload, x_iastore, x_bastore, x_sastore, x_castore, x_lastore, x_aastore, x_arraylength, x_getstatic, x_goto, x_goto_w, x_ifCond, x_if_icmp, x_ifnull, x_ifnonnull, x_lookupswitch, x_invokevirtual, x_invokestatic, x_invokedynamic, x_ireturn, x_freturn, x_dreturn, x_lreturn, x_areturn, x_return_, pI_c, pL_c, pR_c, pV_i, pV_r, gI_c, gL_c, gR_c, pN_z, pN_s, lget_c, lins_z, lins_c, ldel_z, ldel_c, ldel2_z, ldel2_c, lset_i, lset_l, lset_r, lkeep_z, lkeep_c, largs_z, largs_c, cat_i, cat_l, cat_r, lkp_c, cnd_eq, cnd_ne, cnd_lt, cnd_ge, cnd_gt, cnd_le, swL_z, swL_c, rE_e, rOr_s, rOr_n, rlk_z, rlk_c, aR_c, aI_c, aII_c, aIII_c, aRI_c, aRII_c, aRIII_c, vJn, vJs, vlc, aRR_c, aRRI_c, aRRII_c, aRRIII_c, aRIIII_c, aRL_c, aRLL_c, aLL_c, aRRRI_c, aIL_c, aIIII_c, aRRIIII_c, aIRII_c, aIR_c, aLI_c, aRIR_c, aRIIR_c, hM.1.o, hm, e2]
            simpa using K
          · rw [hc] at K
            simp [bl_256, hN _, x_iconst, x_ldc2_w, x_aconst_null, x_iload, x_lload, x_aload, x_istore, x_lstore, x_astore, x_iinc, x_iadd, x_isub, x_imul, x_idiv, x_irem, x_iand, x_ior, x_ixor, x_ishl, x_ishr, x_iushr, x_ineg, x_ladd, x_lsub, x_lmul, x_ldiv, x_lrem, x_lcmp, x_i2l, x_i2b, x_i2s, x_i2c, x_dup, x_pop, x_dup_x1, x_dup2, x_getfield, x_putfield, x_iaload, x_baload, x_saload, x_caload, x_daload, x_faload, x_laload, x_aaload, x_iastore, x_bastore, x_sastore, x_castore, x_lastore, x_aastore, x_arraylength, x_getstatic, x_goto, x_goto_w, x_ifCond, x_if_icmp, x_ifnull, x_ifnonnull, x_lookupswitch, x_invokevirtual, x_invokestatic, x_invokedynamic, x_ireturn, x_freturn, x_dreturn, x_lreturn, x_areturn, x_return_, pI_c, pL_c, pR_c, pV_i, pV_r, gI_c, gL_c, gR_c, pN_z, pN_s, lget_c, lins_z, lins_c, ldel_z, ldel_c, ldel2_z, ldel2_c, lset_i, lset_l, lset_r, lkeep_z, lkeep_c, largs_z, largs_c, cat_i, cat_l, cat_r, lkp_c, cnd_eq, cnd_ne, cnd_lt, cnd_ge, cnd_gt, cnd_le, swL_z, swL_c, rE_e, rOr_s, rOr_n, rlk_z, rlk_c, aR_c, aI_c, aII_c, aIII_c, aRI_c, aRII_c, aRIII_c, vJn, vJs, vlc, aRR_c, aRRI_c, aRRII_c, aRRIII_c, aRIIII_c, aRL_c, aRLL_c, aLL_c, aRRRI_c, aIL_c, aIIII_c, aRRIIII_c, aIRII_c, aIR_c, aLI_c, aRIR_c, aRIIR_c, hM.1.o, hm, e2]
            simpa using K
        · have hvj := hv j (by omega) (by omega)
          have j12 : (j : Int) < 12 := by omega
          have j12n : j < 12 := by omega
          have jm : (j : Int) < m := by omega
          have jm' : ¬ (m : Int) ≤ j := by omega
          have jm2 : ¬ m ≤ j := by omega
          have e5 := w32_succ (k := j) (by omega)
          have es : sA (fun k => fitS (vA σ 176) i (σ 191 k) (σ 192 k)) (j + 1) = (sA (fun k => fitS (vA σ 176) i (σ 191 k) (σ 192 k)) j && fitS (vA σ 176) i (σ 191 j) (σ 192 j)) := rfl
          rw [es] at K
          generalize sA (fun k => fitS (vA σ 176) i (σ 191 k) (σ 192 k)) j = b at K
          refine wa (by decide) rgF3_ok tk_256 30 (fun N hN => ?_)
          cases b
          · simp [bl_256, hN _, x_iconst, x_ldc2_w, x_aconst_null, x_iload, x_lload, x_aload, x_istore, x_lstore, x_astore, x_iinc, x_iadd, x_isub, x_imul, x_idiv, x_irem, x_iand, x_ior, x_ixor, x_ishl, x_ishr, x_iushr, x_ineg, x_ladd, x_lsub, x_lmul, x_ldiv, x_lrem, x_lcmp, x_i2l, x_i2b, x_i2s, x_i2c, x_dup, x_pop, x_dup_x1, x_dup2, x_getfield, x_putfield, x_iaload, x_baload, x_saload, x_caload, x_daload, x_faload, x_laload, x_aaload, x_iastore, x_bastore, x_sastore, x_castore, x_lastore, x_aastore, x_arraylength, x_getstatic, x_goto, x_goto_w, x_ifCond, x_if_icmp, x_ifnull, x_ifnonnull, x_lookupswitch, x_invokevirtual, x_invokestatic, x_invokedynamic, x_ireturn, x_freturn, x_dreturn, x_lreturn, x_areturn, x_return_, pI_c, pL_c, pR_c, pV_i, pV_r, gI_c, gL_c, gR_c, pN_z, pN_s, lget_c, lins_z, lins_c, ldel_z, ldel_c, ldel2_z, ldel2_c, lset_i, lset_l, lset_r, lkeep_z, lkeep_c, largs_z, largs_c, cat_i, cat_l, cat_r, lkp_c, cnd_eq, cnd_ne, cnd_lt, cnd_ge, cnd_gt, cnd_le, swL_z, swL_c, rE_e, rOr_s, rOr_n, rlk_z, rlk_c, aR_c, aI_c, aII_c, aIII_c, aRI_c, aRII_c, aRIII_c, vJn, vJs, vlc, aRR_c, aRRI_c, aRRII_c, aRRIII_c, aRIIII_c, aRL_c, aRLL_c, aLL_c, aRRRI_c, aIL_c, aIIII_c, aRRIIII_c, aIRII_c, aIR_c, aLI_c, aRIR_c, aRIIR_c, hM.1.o, hm, jm, jm', jm2, hj, e5]
            simpa using K
          · cases hc : fitS (vA σ 176) i (σ 191 j) (σ 192 j)
            · rw [hc] at K
              simp [bl_256, hN _, x_iconst, x_ldc2_w, x_aconst_null, x_iload, x_lload, x_aload, x_istore, x_lstore, x_astore, x_iinc, x_iadd, x_isub, x_imul, x_idiv, x_irem, x_iand, x_ior, x_ixor, x_ishl, x_ishr, x_iushr, x_ineg, x_ladd, x_lsub, x_lmul, x_ldiv, x_lrem, x_lcmp, x_i2l, x_i2b, x_i2s, x_i2c, x_dup, x_pop, x_dup_x1, x_dup2, x_getfield, x_putfield, x_iaload, x_baload, x_saload, x_caload, x_daload, x_faload, x_laload, x_aaload, x_iastore, x_bastore, x_sastore, x_castore, x_lastore, x_aastore, x_arraylength, x_getstatic, x_goto, x_goto_w, x_ifCond, x_if_icmp, x_ifnull, x_ifnonnull, x_lookupswitch, x_invokevirtual, x_invokestatic, x_invokedynamic, x_ireturn, x_freturn, x_dreturn, x_lreturn, x_areturn, x_return_, pI_c, pL_c, pR_c, pV_i, pV_r, gI_c, gL_c, gR_c, pN_z, pN_s, lget_c, lins_z, lins_c, ldel_z, ldel_c, ldel2_z, ldel2_c, lset_i, lset_l, lset_r, lkeep_z, lkeep_c, largs_z, largs_c, cat_i, cat_l, cat_r, lkp_c, cnd_eq, cnd_ne, cnd_lt, cnd_ge, cnd_gt, cnd_le, swL_z, swL_c, rE_e, rOr_s, rOr_n, rlk_z, rlk_c, aR_c, aI_c, aII_c, aIII_c, aRI_c, aRII_c, aRIII_c, vJn, vJs, vlc, aRR_c, aRRI_c, aRRII_c, aRRIII_c, aRIIII_c, aRL_c, aRLL_c, aLL_c, aRRRI_c, aIL_c, aIIII_c, aRRIIII_c, aIRII_c, aIR_c, aLI_c, aRIR_c, aRIIR_c, hM.1.o, hM.1.f28, hM.1.f29, hM.1.t191, hM.1.l191, hM.1.t192, hM.1.l192, hm, jm, jm', jm2, hj, j12, j12n, mpFit3, hk', i1, hi, hvj, hc, e5]
              simpa using K
            · rw [hc] at K
              simp [bl_256, hN _, x_iconst, x_ldc2_w, x_aconst_null, x_iload, x_lload, x_aload, x_istore, x_lstore, x_astore, x_iinc, x_iadd, x_isub, x_imul, x_idiv, x_irem, x_iand, x_ior, x_ixor, x_ishl, x_ishr, x_iushr, x_ineg, x_ladd, x_lsub, x_lmul, x_ldiv, x_lrem, x_lcmp, x_i2l, x_i2b, x_i2s, x_i2c, x_dup, x_pop, x_dup_x1, x_dup2, x_getfield, x_putfield, x_iaload, x_baload, x_saload, x_caload, x_daload, x_faload, x_laload, x_aaload, x_iastore, x_bastore, x_sastore, x_castore, x_lastore, x_aastore, x_arraylength, x_getstatic, x_goto, x_goto_w, x_ifCond, x_if_icmp, x_ifnull, x_ifnonnull, x_lookupswitch, x_invokevirtual, x_invokestatic, x_invokedynamic, x_ireturn, x_freturn, x_dreturn, x_lreturn, x_areturn, x_return_, pI_c, pL_c, pR_c, pV_i, pV_r, gI_c, gL_c, gR_c, pN_z, pN_s, lget_c, lins_z, lins_c, ldel_z, ldel_c, ldel2_z, ldel2_c, lset_i, lset_l, lset_r, lkeep_z, lkeep_c, largs_z, largs_c, cat_i, cat_l, cat_r, lkp_c, cnd_eq, cnd_ne, cnd_lt, cnd_ge, cnd_gt, cnd_le, swL_z, swL_c, rE_e, rOr_s, rOr_n, rlk_z, rlk_c, aR_c, aI_c, aII_c, aIII_c, aRI_c, aRII_c, aRIII_c, vJn, vJs, vlc, aRR_c, aRRI_c, aRRII_c, aRRIII_c, aRIIII_c, aRL_c, aRLL_c, aLL_c, aRRRI_c, aIL_c, aIIII_c, aRRIIII_c, aIRII_c, aIR_c, aLI_c, aRIR_c, aRIIR_c, hM.1.o, hM.1.f28, hM.1.f29, hM.1.t191, hM.1.l191, hM.1.t192, hM.1.l192, hm, jm, jm', jm2, hj, j12, j12n, mpFit3, hk', i1, hi, hvj, hc, e5]
              simpa using K
      refine wa (by decide) rgF3_ok tk_256 30 (fun N hN => ?_)
      simp [bl_256, hN _, x_iconst, x_ldc2_w, x_aconst_null, x_iload, x_lload, x_aload, x_istore, x_lstore, x_astore, x_iinc, x_iadd, x_isub, x_imul, x_idiv, x_irem, x_iand, x_ior, x_ixor, x_ishl, x_ishr, x_iushr, x_ineg, x_ladd, x_lsub, x_lmul, x_ldiv, x_lrem, x_lcmp, x_i2l, x_i2b, x_i2s, x_i2c, x_dup, x_pop, x_dup_x1, x_dup2, x_getfield, x_putfield, x_iaload, x_baload, x_saload, x_caload, x_daload, x_faload, x_laload, x_aaload, x_iastore, x_bastore, x_sastore, x_castore, x_lastore, x_aastore, x_arraylength, x_getstatic, x_goto, x_goto_w, x_ifCond, x_if_icmp, x_ifnull, x_ifnonnull, x_lookupswitch, x_invokevirtual, x_invokestatic, x_invokedynamic, x_ireturn, x_freturn, x_dreturn, x_lreturn, x_areturn, x_return_, pI_c, pL_c, pR_c, pV_i, pV_r, gI_c, gL_c, gR_c, pN_z, pN_s, lget_c, lins_z, lins_c, ldel_z, ldel_c, ldel2_z, ldel2_c, lset_i, lset_l, lset_r, lkeep_z, lkeep_c, largs_z, largs_c, cat_i, cat_l, cat_r, lkp_c, cnd_eq, cnd_ne, cnd_lt, cnd_ge, cnd_gt, cnd_le, swL_z, swL_c, rE_e, rOr_s, rOr_n, rlk_z, rlk_c, aR_c, aI_c, aII_c, aIII_c, aRI_c, aRII_c, aRIII_c, vJn, vJs, vlc, aRR_c, aRRI_c, aRRII_c, aRRIII_c, aRIIII_c, aRL_c, aRLL_c, aLL_c, aRRRI_c, aIL_c, aIIII_c, aRRIIII_c, aIRII_c, aIR_c, aLI_c, aRIR_c, aRIIR_c, hM.1.o, z0, e2, i1, i1n, i1x]
      exact I
  refine wg (by decide) rgF3_ok tk_256 py_256 ml_256 30 (by simp [catT]) (fun N hN => ?_)
  simp [bl_256, hN _, x_iconst, x_ldc2_w, x_aconst_null, x_iload, x_lload, x_aload, x_istore, x_lstore, x_astore, x_iinc, x_iadd, x_isub, x_imul, x_idiv, x_irem, x_iand, x_ior, x_ixor, x_ishl, x_ishr, x_iushr, x_ineg, x_ladd, x_lsub, x_lmul, x_ldiv, x_lrem, x_lcmp, x_i2l, x_i2b, x_i2s, x_i2c, x_dup, x_pop, x_dup_x1, x_dup2, x_getfield, x_putfield, x_iaload, x_baload, x_saload, x_caload, x_daload, x_faload, x_laload, x_aaload, x_iastore, x_bastore, x_sastore, x_castore, x_lastore, x_aastore, x_arraylength, x_getstatic, x_goto, x_goto_w, x_ifCond, x_if_icmp, x_ifnull, x_ifnonnull, x_lookupswitch, x_invokevirtual, x_invokestatic, x_invokedynamic, x_ireturn, x_freturn, x_dreturn, x_lreturn, x_areturn, x_return_, pI_c, pL_c, pR_c, pV_i, pV_r, gI_c, gL_c, gR_c, pN_z, pN_s, lget_c, lins_z, lins_c, ldel_z, ldel_c, ldel2_z, ldel2_c, lset_i, lset_l, lset_r, lkeep_z, lkeep_c, largs_z, largs_c, cat_i, cat_l, cat_r, lkp_c, cnd_eq, cnd_ne, cnd_lt, cnd_ge, cnd_gt, cnd_le, swL_z, swL_c, rE_e, rOr_s, rOr_n, rlk_z, rlk_c, aR_c, aI_c, aII_c, aIII_c, aRI_c, aRII_c, aRIII_c, vJn, vJs, vlc, aRR_c, aRRI_c, aRRII_c, aRRIII_c, aRIIII_c, aRL_c, aRLL_c, aLL_c, aRRRI_c, aIL_c, aIIII_c, aRRIIII_c, aIRII_c, aIR_c, aLI_c, aRIR_c, aRIIR_c]
  exact K
abbrev rgNf : Reg := (256, mpFit) :: rgNs
theorem rgNf_ok {l : Launch} {g : GE} {d : Nat} : ∀ e as t σ Q, rE l g (d + 5) rgNf e as t σ Q → WPc l g e (d + 5) 0 0 as t σ Q := rE_cons (fun _ _ _ _ h => m_fitting h) rgNs_ok
theorem ms_up {σ : Mem} (h : MsOk σ) : MsOk (up σ 175 8 0) := by
  unfold MsOk at *
  simp [up_ap]
  simpa using h
theorem mo_fits {l : Launch} {g : GE} {d : Nat} {t : Tau} {σ : Mem} {Q : Post} (hk : MK t σ) (hS : MsOk σ) (h : ansM (fitsQ (nM σ) (vA σ 176) (σ 191) (σ 192) (σ 175 30).toNat) t σ Q) : WPc l g 257 (d + 6) 0 0 [vR 175] t σ Q := by
  have hk8 : MK t (up σ 175 8 0) := by rw [mk_up (by omega) (by omega) (by omega)]; exact hk
  have hM := hk.1
  have ec := bc_n (set64 (p := fitB (vA σ 176) (σ 191) (σ 192) (σ 175 30).toNat) hM.2.2)
  unfold ansM fitsQ at h
  refine wg (by decide) rgNf_ok tk_257 py_257 ml_257 30 (by simp [catT]) (fun N hN => ?_)
  simp [bl_257, hN _, x_iconst, x_ldc2_w, x_aconst_null, x_iload, x_lload, x_aload, x_istore, x_lstore, x_astore, x_iinc, x_iadd, x_isub, x_imul, x_idiv, x_irem, x_iand, x_ior, x_ixor, x_ishl, x_ishr, x_iushr, x_ineg, x_ladd, x_lsub, x_lmul, x_ldiv, x_lrem, x_lcmp, x_i2l, x_i2b, x_i2s, x_i2c, x_dup, x_pop, x_dup_x1, x_dup2, x_getfield, x_putfield, x_iaload, x_baload, x_saload, x_caload, x_daload, x_faload, x_laload, x_aaload, x_iastore, x_bastore, x_sastore, x_castore, x_lastore, x_aastore, x_arraylength, x_getstatic, x_goto, x_goto_w, x_ifCond, x_if_icmp, x_ifnull, x_ifnonnull, x_lookupswitch, x_invokevirtual, x_invokestatic, x_invokedynamic, x_ireturn, x_freturn, x_dreturn, x_lreturn, x_areturn, x_return_, pI_c, pL_c, pR_c, pV_i, pV_r, gI_c, gL_c, gR_c, pN_z, pN_s, lget_c, lins_z, lins_c, ldel_z, ldel_c, ldel2_z, ldel2_c, lset_i, lset_l, lset_r, lkeep_z, lkeep_c, largs_z, largs_c, cat_i, cat_l, cat_r, lkp_c, cnd_eq, cnd_ne, cnd_lt, cnd_ge, cnd_gt, cnd_le, swL_z, swL_c, rE_e, rOr_s, rOr_n, rlk_z, rlk_c, aR_c, aI_c, aII_c, aIII_c, aRI_c, aRII_c, aRIII_c, vJn, vJs, vlc, aRR_c, aRRI_c, aRRII_c, aRRIII_c, aRIIII_c, aRL_c, aRLL_c, aLL_c, aRRRI_c, aIL_c, aIIII_c, aRRIIII_c, aIRII_c, aIR_c, aLI_c, aRIR_c, aRIIR_c, hM.1.o, hM.1, mpFit, mpTell, bpCount, hk8, ms_up hS, nM_up, vA_up, up_ne, up_ap, ec]
  exact h _ (QTM.q1 (QFM.rf.up sf8) (by simp [up_ap]))
/-! looks -/
def cB (p : Nat → Bool) : Nat → Nat
  | 0 => 0
  | n + 1 => cB p n + if p n then 1 else 0
theorem cB_6 (b : Nat) : popc b = cB (tb b) 6 := by
  unfold popc
  simp [cB]
theorem cB_n {p q : Nat → Bool} {n : Nat} (h : ∀ j, j < 6 → p j = (decide (j < n) && q j)) : ∀ k, k ≤ 6 → n ≤ 6 → (k ≤ n → cB p k = cB q k) ∧ (n ≤ k → cB p k = cB q n)
  | 0, _, _ => ⟨fun _ => rfl, fun z => by rw [show n = 0 by omega]; rfl⟩
  | k + 1, hk, hn => by
    obtain ⟨ih1, ih2⟩ := cB_n h k (by omega) hn
    have e1 : cB p (k + 1) = cB p k + if p k then 1 else 0 := rfl
    have e2 : cB q (k + 1) = cB q k + if q k then 1 else 0 := rfl
    rw [e1, h k (by omega)]
    refine ⟨fun z => ?_, fun z => ?_⟩
    · rw [ih1 (by omega), e2]
      simp [show k < n by omega]
    · by_cases hc : k < n
      · rw [show n = k + 1 by omega, e2, ih1 (by omega)]
        simp
      · rw [ih2 (by omega)]
        simp [hc]
theorem pop_look {V : Int → Int} {s : Int} {b n : Nat} (hb : b < 64) (hn : n ≤ 6) : popc (b &&& setN (wthB V s) n) = cB (fun j => tb b j && wthB V s j) n := by
  rw [cB_6]
  have hw := set64 (p := wthB V s) hn
  refine (cB_n (q := fun j => tb b j && wthB V s j) (n := n) (fun j hj => ?_) 6 (by omega) hn).2 hn
  have := (and_t0 ⟨b, hb⟩ ⟨_, hw⟩).2 ⟨j, hj⟩
  simp only at this
  rw [this, setN_tb]
  cases tb b j <;> cases decide (j < n) <;> simp
