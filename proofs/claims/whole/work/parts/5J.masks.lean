/-! the reference: asks -/
theorem cF_two (p q : Nat → Bool) : ∀ r a, cF (fun k => p k && q k) a r + cF (fun k => p k && !q k) a r = cF p a r
  | 0, _ => rfl
  | r + 1, a => by
    have := cF_two p q r (a + 1)
    show ((if (p a && q a) = true then 1 else 0) + _) + ((if (p a && !q a) = true then 1 else 0) + _) = (if p a = true then 1 else 0) + _
    cases p a <;> cases q a <;> simp <;> omega
abbrev rgLb : Reg := [(262, mpLaw), (261, mpGby), (288, spMax)]
theorem rgLb_ok {l : Launch} {g : GE} {d : Nat} : ∀ e as t σ Q, rE l g (d + 2) rgLb e as t σ Q → WPc l g e (d + 2) 0 0 as t σ Q := rE_cons (fun _ _ _ _ h => m_isLaw h) (rE_cons (fun _ _ _ _ h => m_goesBy h) (rE_cons (fun _ _ _ _ h => c_max h) rE_nil))
def mpLeft : Sp := fun as t σ Q => aRII as fun x o e => x = 175 ∧ TM t ∧ MtOk σ ∧ (0 ≤ o ∧ o ≤ 12) ∧ (0 ≤ e ∧ e ≤ 12) ∧ Q (some (vI (leftA (mtP σ) o.toNat e.toNat))) t σ
set_option maxHeartbeats 1000000 in
theorem m_leftBy {l : Launch} {g : GE} {d : Nat} {t : Tau} {σ : Mem} {Q : Post} {as : List TV} (h0 : mpLeft as t σ Q) : WPc l g 264 (d + 3) 0 0 as t σ Q := by
  obtain ⟨x, o, e, rfl, rfl, hM, hT, ho, he, h⟩ := aRII_e h0
  clear h0
  obtain ⟨o, rfl⟩ : ∃ o' : Nat, o = o' := ⟨o.toNat, by omega⟩
  obtain ⟨e, rfl⟩ : ∃ e' : Nat, e = e' := ⟨e.toNat, by omega⟩
  simp only [Int.toNat_natCast] at h
  have o1 : (o : Int) ≤ 12 := ho.2
  have o2 : o ≤ 12 := by omega
  have c1 : (e : Int) ≤ 12 := he.2
  have c2 : e ≤ 12 := by omega
  unfold leftA at h
  generalize hp : mtP σ = p at h
  have hl1 := fun k => cF_l (fun k => p k && ovB k o e) k 0
  have hl2 := fun k => cF_l (fun k => p k && !ovB k o e) k 0
  have hsum := cF_two p (fun k => ovB k o e) 169 0
  generalize hy : (fun k => cF (fun k => p k && ovB k o e) 0 k) = Y
  generalize hn : (fun k => cF (fun k => p k && !ovB k o e) 0 k) = Z
  have hY0 : Y 0 = 0 := by rw [← hy]; rfl
  have hZ0 : Z 0 = 0 := by rw [← hn]; rfl
  have hYs : ∀ k, Y (k + 1) = Y k + if (p k && ovB k o e) then 1 else 0 := fun k => by rw [← hy]; exact cF_up _ k
  have hZs : ∀ k, Z (k + 1) = Z k + if (p k && !ovB k o e) then 1 else 0 := fun k => by rw [← hn]; exact cF_up _ k
  have hYl : ∀ k, Y k ≤ k := fun k => by rw [← hy]; exact hl1 k
  have hZl : ∀ k, Z k ≤ k := fun k => by rw [← hn]; exact hl2 k
  have hYe : Y 169 = cF (fun k => p k && ovB k o e) 0 169 := by rw [← hy]
  have hZe : Z 169 = cF (fun k => p k && !ovB k o e) 0 169 := by rw [← hn]
  rw [← hYe] at h hsum
  rw [← hZe] at hsum
  have hR : max (Y 169) (cF p 0 169 - Y 169) = max (Y 169) (Z 169) := by omega
  rw [hR] at h
  have O : Wp l g 264 (d + 3) 0 0 8 [(0, vR 175), (1, vI o), (2, vI e), (3, vI (Y (13 * 0) : Nat)), (4, vI (Z (13 * 0) : Nat)), (5, vI (0 : Nat))] [] t σ Q := by
    refine lpU (P := fun a => Wp l g 264 (d + 3) 0 0 8 [(0, vR 175), (1, vI o), (2, vI e), (3, vI (Y (13 * a) : Nat)), (4, vI (Z (13 * a) : Nat)), (5, vI a)] [] t σ Q) (n := 13) ?_ (fun a ha KO => ?_)
    · have e4 : max (Y 169 : Int) (Z 169 : Int) = ((max (Y 169) (Z 169) : Nat) : Int) := by omega
      refine wa (by decide) rgLb_ok tk_264 30 (fun N hN => ?_)
      simp [bl_264, hN _, x_iconst, x_ldc2_w, x_aconst_null, x_iload, x_lload, x_aload, x_istore, x_lstore, x_astore, x_iinc, x_iadd, x_isub, x_imul, x_idiv, x_irem, x_iand, x_ior, x_ixor, x_ishl, x_ishr, x_iushr, x_ineg, x_ladd, x_lsub, x_lmul, x_ldiv, x_lrem, x_lcmp, x_i2l, x_i2b, x_i2s, x_i2c, x_dup, x_pop, x_dup_x1, x_dup2, x_getfield, x_putfield, x_iaload, x_baload, x_saload, x_caload, x_daload, x_faload, x_laload, x_aaload, x_iastore, x_bastore, x_sastore, x_castore, x_lastore, x_aastore, x_arraylength, x_getstatic, x_goto, x_goto_w, x_ifCond, x_if_icmp, x_ifnull, x_ifnonnull, x_lookupswitch, x_invokevirtual, x_invokestatic, x_invokedynamic, x_ireturn, x_freturn, x_dreturn, x_lreturn, x_areturn, x_return_, pI_c, pL_c, pR_c, pV_i, pV_r, gI_c, gL_c, gR_c, pN_z, pN_s, lget_c, lins_z, lins_c, ldel_z, ldel_c, ldel2_z, ldel2_c, lset_i, lset_l, lset_r, lkeep_z, lkeep_c, largs_z, largs_c, cat_i, cat_l, cat_r, lkp_c, cnd_eq, cnd_ne, cnd_lt, cnd_ge, cnd_gt, cnd_le, swL_z, swL_c, rE_e, rOr_s, rOr_n, rlk_z, rlk_c, aR_c, aI_c, aII_c, aIII_c, aRI_c, aRII_c, aRIII_c, vJn, vJs, vlc, aRR_c, aRRI_c, aRRII_c, aRRIII_c, aRIIII_c, aRL_c, aRLL_c, aLL_c, aRRRI_c, aIL_c, aIIII_c, aRRIIII_c, aIRII_c, aIR_c, aLI_c, aRIR_c, aRIIR_c, spMax]
      rw [e4]
      exact h
    · have ea := w32_succ (k := a) (by omega)
      have a1 : ¬ (12 : Int) < a := by omega
      have a2 : (a : Int) ≤ 12 := by omega
      have a3 : a ≤ 12 := by omega
      have a4 : ¬ 12 < a := by omega
      have I : Wp l g 264 (d + 3) 0 0 18 [(0, vR 175), (1, vI o), (2, vI e), (3, vI (Y (13 * a + 0) : Nat)), (4, vI (Z (13 * a + 0) : Nat)), (5, vI a), (6, vI (0 : Nat))] [] t σ Q := by
        refine lpU (P := fun b => Wp l g 264 (d + 3) 0 0 18 [(0, vR 175), (1, vI o), (2, vI e), (3, vI (Y (13 * a + b) : Nat)), (4, vI (Z (13 * a + b) : Nat)), (5, vI a), (6, vI b)] [] t σ Q) (n := 13) ?_ (fun b hb K => ?_)
        · rw [show 13 * (a + 1) = 13 * a + 13 by omega] at KO
          refine wa (by decide) rgLb_ok tk_264 30 (fun N hN => ?_)
          simp [bl_264, hN _, x_iconst, x_ldc2_w, x_aconst_null, x_iload, x_lload, x_aload, x_istore, x_lstore, x_astore, x_iinc, x_iadd, x_isub, x_imul, x_idiv, x_irem, x_iand, x_ior, x_ixor, x_ishl, x_ishr, x_iushr, x_ineg, x_ladd, x_lsub, x_lmul, x_ldiv, x_lrem, x_lcmp, x_i2l, x_i2b, x_i2s, x_i2c, x_dup, x_pop, x_dup_x1, x_dup2, x_getfield, x_putfield, x_iaload, x_baload, x_saload, x_caload, x_daload, x_faload, x_laload, x_aaload, x_iastore, x_bastore, x_sastore, x_castore, x_lastore, x_aastore, x_arraylength, x_getstatic, x_goto, x_goto_w, x_ifCond, x_if_icmp, x_ifnull, x_ifnonnull, x_lookupswitch, x_invokevirtual, x_invokestatic, x_invokedynamic, x_ireturn, x_freturn, x_dreturn, x_lreturn, x_areturn, x_return_, pI_c, pL_c, pR_c, pV_i, pV_r, gI_c, gL_c, gR_c, pN_z, pN_s, lget_c, lins_z, lins_c, ldel_z, ldel_c, ldel2_z, ldel2_c, lset_i, lset_l, lset_r, lkeep_z, lkeep_c, largs_z, largs_c, cat_i, cat_l, cat_r, lkp_c, cnd_eq, cnd_ne, cnd_lt, cnd_ge, cnd_gt, cnd_le, swL_z, swL_c, rE_e, rOr_s, rOr_n, rlk_z, rlk_c, aR_c, aI_c, aII_c, aIII_c, aRI_c, aRII_c, aRIII_c, vJn, vJs, vlc, aRR_c, aRRI_c, aRRII_c, aRRIII_c, aRIIII_c, aRL_c, aRLL_c, aLL_c, aRRRI_c, aIL_c, aIIII_c, aRRIIII_c, aIRII_c, aIR_c, aLI_c, aRIR_c, aRIIR_c, ea]
          exact KO
        · have eb := w32_succ (k := b) (by omega)
          have b1 : ¬ (12 : Int) < b := by omega
          have b2 : (b : Int) ≤ 12 := by omega
          have b3 : b ≤ 12 := by omega
          have b4 : ¬ 12 < b := by omega
          rw [show 13 * a + (b + 1) = 13 * a + b + 1 by omega, hYs, hZs] at K
          have hy1 := hYl (13 * a + b)
          have hz1 := hZl (13 * a + b)
          have hpk : mtP σ (13 * a + b) = p (13 * a + b) := by rw [hp]
          generalize Y (13 * a + b) = y at K hy1
          generalize Z (13 * a + b) = z at K hz1
          have w1 := w32_succ (k := y) (by omega)
          have w2 := w32_succ (k := z) (by omega)
          refine wa (by decide) rgLb_ok tk_264 30 (fun N hN => ?_)
          cases h1 : p (13 * a + b)
          · rw [h1] at hpk
            simp [h1] at K
            simp [bl_264, hN _, x_iconst, x_ldc2_w, x_aconst_null, x_iload, x_lload, x_aload, x_istore, x_lstore, x_astore, x_iinc, x_iadd, x_isub, x_imul, x_idiv, x_irem, x_iand, x_ior, x_ixor, x_ishl, x_ishr, x_iushr, x_ineg, x_ladd, x_lsub, x_lmul, x_ldiv, x_lrem, x_lcmp, x_i2l, x_i2b, x_i2s, x_i2c, x_dup, x_pop, x_dup_x1, x_dup2, x_getfield, x_putfield, x_iaload, x_baload, x_saload, x_caload, x_daload, x_faload, x_laload, x_aaload, x_iastore, x_bastore, x_sastore, x_castore, x_lastore, x_aastore, x_arraylength, x_getstatic, x_goto, x_goto_w, x_ifCond, x_if_icmp, x_ifnull, x_ifnonnull, x_lookupswitch, x_invokevirtual, x_invokestatic, x_invokedynamic, x_ireturn, x_freturn, x_dreturn, x_lreturn, x_areturn, x_return_, pI_c, pL_c, pR_c, pV_i, pV_r, gI_c, gL_c, gR_c, pN_z, pN_s, lget_c, lins_z, lins_c, ldel_z, ldel_c, ldel2_z, ldel2_c, lset_i, lset_l, lset_r, lkeep_z, lkeep_c, largs_z, largs_c, cat_i, cat_l, cat_r, lkp_c, cnd_eq, cnd_ne, cnd_lt, cnd_ge, cnd_gt, cnd_le, swL_z, swL_c, rE_e, rOr_s, rOr_n, rlk_z, rlk_c, aR_c, aI_c, aII_c, aIII_c, aRI_c, aRII_c, aRIII_c, vJn, vJs, vlc, aRR_c, aRRI_c, aRRII_c, aRRIII_c, aRIIII_c, aRL_c, aRLL_c, aLL_c, aRRRI_c, aIL_c, aIIII_c, aRRIIII_c, aIRII_c, aIR_c, aLI_c, aRIR_c, aRIIR_c, hM.o, hM, mpLaw, hT, hpk, a1, a2, a3, a4, b1, b2, b3, b4, eb]
            exact K
          · rw [h1] at hpk
            cases h2 : ovB (13 * a + b) o e
            · simp [h1, h2] at K
              simp [bl_264, hN _, x_iconst, x_ldc2_w, x_aconst_null, x_iload, x_lload, x_aload, x_istore, x_lstore, x_astore, x_iinc, x_iadd, x_isub, x_imul, x_idiv, x_irem, x_iand, x_ior, x_ixor, x_ishl, x_ishr, x_iushr, x_ineg, x_ladd, x_lsub, x_lmul, x_ldiv, x_lrem, x_lcmp, x_i2l, x_i2b, x_i2s, x_i2c, x_dup, x_pop, x_dup_x1, x_dup2, x_getfield, x_putfield, x_iaload, x_baload, x_saload, x_caload, x_daload, x_faload, x_laload, x_aaload, x_iastore, x_bastore, x_sastore, x_castore, x_lastore, x_aastore, x_arraylength, x_getstatic, x_goto, x_goto_w, x_ifCond, x_if_icmp, x_ifnull, x_ifnonnull, x_lookupswitch, x_invokevirtual, x_invokestatic, x_invokedynamic, x_ireturn, x_freturn, x_dreturn, x_lreturn, x_areturn, x_return_, pI_c, pL_c, pR_c, pV_i, pV_r, gI_c, gL_c, gR_c, pN_z, pN_s, lget_c, lins_z, lins_c, ldel_z, ldel_c, ldel2_z, ldel2_c, lset_i, lset_l, lset_r, lkeep_z, lkeep_c, largs_z, largs_c, cat_i, cat_l, cat_r, lkp_c, cnd_eq, cnd_ne, cnd_lt, cnd_ge, cnd_gt, cnd_le, swL_z, swL_c, rE_e, rOr_s, rOr_n, rlk_z, rlk_c, aR_c, aI_c, aII_c, aIII_c, aRI_c, aRII_c, aRIII_c, vJn, vJs, vlc, aRR_c, aRRI_c, aRRII_c, aRRIII_c, aRIIII_c, aRL_c, aRLL_c, aLL_c, aRRRI_c, aIL_c, aIIII_c, aRRIIII_c, aIRII_c, aIR_c, aLI_c, aRIR_c, aRIIR_c, hM.o, hM, mpLaw, mpGby, hT, hpk, h2, a1, a2, a3, a4, b1, b2, b3, b4, o1, o2, c1, c2, eb, w2]
              exact K
            · simp [h1, h2] at K
              simp [bl_264, hN _, x_iconst, x_ldc2_w, x_aconst_null, x_iload, x_lload, x_aload, x_istore, x_lstore, x_astore, x_iinc, x_iadd, x_isub, x_imul, x_idiv, x_irem, x_iand, x_ior, x_ixor, x_ishl, x_ishr, x_iushr, x_ineg, x_ladd, x_lsub, x_lmul, x_ldiv, x_lrem, x_lcmp, x_i2l, x_i2b, x_i2s, x_i2c, x_dup, x_pop, x_dup_x1, x_dup2, x_getfield, x_putfield, x_iaload, x_baload, x_saload, x_caload, x_daload, x_faload, x_laload, x_aaload, x_iastore, x_bastore, x_sastore, x_castore, x_lastore, x_aastore, x_arraylength, x_getstatic, x_goto, x_goto_w, x_ifCond, x_if_icmp, x_ifnull, x_ifnonnull, x_lookupswitch, x_invokevirtual, x_invokestatic, x_invokedynamic, x_ireturn, x_freturn, x_dreturn, x_lreturn, x_areturn, x_return_, pI_c, pL_c, pR_c, pV_i, pV_r, gI_c, gL_c, gR_c, pN_z, pN_s, lget_c, lins_z, lins_c, ldel_z, ldel_c, ldel2_z, ldel2_c, lset_i, lset_l, lset_r, lkeep_z, lkeep_c, largs_z, largs_c, cat_i, cat_l, cat_r, lkp_c, cnd_eq, cnd_ne, cnd_lt, cnd_ge, cnd_gt, cnd_le, swL_z, swL_c, rE_e, rOr_s, rOr_n, rlk_z, rlk_c, aR_c, aI_c, aII_c, aIII_c, aRI_c, aRII_c, aRIII_c, vJn, vJs, vlc, aRR_c, aRRI_c, aRRII_c, aRRIII_c, aRIIII_c, aRL_c, aRLL_c, aLL_c, aRRRI_c, aIL_c, aIIII_c, aRRIIII_c, aIRII_c, aIR_c, aLI_c, aRIR_c, aRIIR_c, hM.o, hM, mpLaw, mpGby, hT, hpk, h2, a1, a2, a3, a4, b1, b2, b3, b4, o1, o2, c1, c2, eb, w1]
              exact K
      refine wa (by decide) rgLb_ok tk_264 30 (fun N hN => ?_)
      simp [bl_264, hN _, x_iconst, x_ldc2_w, x_aconst_null, x_iload, x_lload, x_aload, x_istore, x_lstore, x_astore, x_iinc, x_iadd, x_isub, x_imul, x_idiv, x_irem, x_iand, x_ior, x_ixor, x_ishl, x_ishr, x_iushr, x_ineg, x_ladd, x_lsub, x_lmul, x_ldiv, x_lrem, x_lcmp, x_i2l, x_i2b, x_i2s, x_i2c, x_dup, x_pop, x_dup_x1, x_dup2, x_getfield, x_putfield, x_iaload, x_baload, x_saload, x_caload, x_daload, x_faload, x_laload, x_aaload, x_iastore, x_bastore, x_sastore, x_castore, x_lastore, x_aastore, x_arraylength, x_getstatic, x_goto, x_goto_w, x_ifCond, x_if_icmp, x_ifnull, x_ifnonnull, x_lookupswitch, x_invokevirtual, x_invokestatic, x_invokedynamic, x_ireturn, x_freturn, x_dreturn, x_lreturn, x_areturn, x_return_, pI_c, pL_c, pR_c, pV_i, pV_r, gI_c, gL_c, gR_c, pN_z, pN_s, lget_c, lins_z, lins_c, ldel_z, ldel_c, ldel2_z, ldel2_c, lset_i, lset_l, lset_r, lkeep_z, lkeep_c, largs_z, largs_c, cat_i, cat_l, cat_r, lkp_c, cnd_eq, cnd_ne, cnd_lt, cnd_ge, cnd_gt, cnd_le, swL_z, swL_c, rE_e, rOr_s, rOr_n, rlk_z, rlk_c, aR_c, aI_c, aII_c, aIII_c, aRI_c, aRII_c, aRIII_c, vJn, vJs, vlc, aRR_c, aRRI_c, aRRII_c, aRRIII_c, aRIIII_c, aRL_c, aRLL_c, aLL_c, aRRRI_c, aIL_c, aIIII_c, aRRIIII_c, aIRII_c, aIR_c, aLI_c, aRIR_c, aRIIR_c, a1, a2, a3, a4]
      exact I
  rw [show 13 * 0 = 0 from rfl, hY0, hZ0] at O
  refine wg (by decide) rgLb_ok tk_264 py_264 ml_264 30 (by simp [catT]) (fun N hN => ?_)
  simp [bl_264, hN _, x_iconst, x_ldc2_w, x_aconst_null, x_iload, x_lload, x_aload, x_istore, x_lstore, x_astore, x_iinc, x_iadd, x_isub, x_imul, x_idiv, x_irem, x_iand, x_ior, x_ixor, x_ishl, x_ishr, x_iushr, x_ineg, x_ladd, x_lsub, x_lmul, x_ldiv, x_lrem, x_lcmp, x_i2l, x_i2b, x_i2s, x_i2c, x_dup, x_pop, x_dup_x1, x_dup2, x_getfield, x_putfield, x_iaload, x_baload, x_saload, x_caload, x_daload, x_faload, x_laload, x_aaload, x_iastore, x_bastore, x_sastore, x_castore, x_lastore, x_aastore, x_arraylength, x_getstatic, x_goto, x_goto_w, x_ifCond, x_if_icmp, x_ifnull, x_ifnonnull, x_lookupswitch, x_invokevirtual, x_invokestatic, x_invokedynamic, x_ireturn, x_freturn, x_dreturn, x_lreturn, x_areturn, x_return_, pI_c, pL_c, pR_c, pV_i, pV_r, gI_c, gL_c, gR_c, pN_z, pN_s, lget_c, lins_z, lins_c, ldel_z, ldel_c, ldel2_z, ldel2_c, lset_i, lset_l, lset_r, lkeep_z, lkeep_c, largs_z, largs_c, cat_i, cat_l, cat_r, lkp_c, cnd_eq, cnd_ne, cnd_lt, cnd_ge, cnd_gt, cnd_le, swL_z, swL_c, rE_e, rOr_s, rOr_n, rlk_z, rlk_c, aR_c, aI_c, aII_c, aIII_c, aRI_c, aRII_c, aRIII_c, vJn, vJs, vlc, aRR_c, aRRI_c, aRRII_c, aRRIII_c, aRIIII_c, aRL_c, aRLL_c, aLL_c, aRRRI_c, aIL_c, aIIII_c, aRRIIII_c, aIRII_c, aIR_c, aLI_c, aRIR_c, aRIIR_c]
  exact O
/-! the best question -/
def akJ (p : Nat → Bool) (o : Nat) (s : Nat × Int) : Nat → Nat × Int := fo (fun e s => if leftA p o e < s.1 then (leftA p o e, ((13 * o + e : Nat) : Int)) else s) s
def akI (p : Nat → Bool) (s : Nat × Int) : Nat → Nat × Int := fo (fun o s => akJ p o s (13 - o)) s
def akC (s : Nat × Nat) : Nat × Int := (s.1, (s.2 : Int))
theorem akJ_c (p : Nat → Bool) (o : Nat) (s : Nat × Nat) : ∀ k, akJ p o (akC s) k = akC (askJ p o s k)
  | 0 => rfl
  | k + 1 => by
    have ih := akJ_c p o s k
    show (if leftA p o k < (akJ p o (akC s) k).1 then (leftA p o k, ((13 * o + k : Nat) : Int)) else akJ p o (akC s) k) = akC (if leftA p o k < (askJ p o s k).1 then (leftA p o k, 13 * o + k) else askJ p o s k)
    rw [ih]
    by_cases hc : leftA p o k < (askJ p o s k).1
    · rw [if_pos hc, if_pos (by exact hc)]; rfl
    · rw [if_neg hc, if_neg (by exact hc)]
theorem leftA_l (p : Nat → Bool) (o e : Nat) : leftA p o e ≤ cF p 0 169 ∧ cF p 0 169 ≤ 2 * leftA p o e := by
  have := cF_and p (fun k => ovB k o e) 169 0
  unfold leftA
  omega
theorem akJ_s (p : Nat → Bool) (o : Nat) (s : Nat × Int) (k : Nat) : akJ p o s (k + 1) = if leftA p o k < (akJ p o s k).1 then (leftA p o k, ((13 * o + k : Nat) : Int)) else akJ p o s k := rfl
theorem askJ_s (p : Nat → Bool) (o : Nat) (s : Nat × Nat) (k : Nat) : askJ p o s (k + 1) = if leftA p o k < (askJ p o s k).1 then (leftA p o k, 13 * o + k) else askJ p o s k := rfl
theorem akI_s (p : Nat → Bool) (s : Nat × Int) (o : Nat) : akI p s (o + 1) = akJ p o (akI p s o) (13 - o) := rfl
theorem askI_s (p : Nat → Bool) (s : Nat × Nat) (o : Nat) : askI p s (o + 1) = askJ p o (askI p s o) (13 - o) := rfl
theorem akJ_0 (p : Nat → Bool) {B c : Nat} (hB : leftA p 0 0 < B) (hc : leftA p 0 0 < c) (x : Int) (y : Nat) : ∀ k, akJ p 0 (B, x) (k + 1) = akC (askJ p 0 (c, y) (k + 1))
  | 0 => by
    rw [akJ_s, askJ_s]
    rw [if_pos (show leftA p 0 0 < (akJ p 0 (B, x) 0).1 from hB), if_pos (show leftA p 0 0 < (askJ p 0 (c, y) 0).1 from hc)]; rfl
  | k + 1 => by
    have ih := akJ_0 p hB hc x y k
    rw [akJ_s, askJ_s, ih]
    by_cases hc : leftA p 0 (k + 1) < (askJ p 0 (c, y) (k + 1)).1
    · rw [if_pos hc, if_pos (by exact hc)]; rfl
    · rw [if_neg hc, if_neg (by exact hc)]
theorem akI_0 (p : Nat → Bool) {B c : Nat} (hB : leftA p 0 0 < B) (hc : leftA p 0 0 < c) (x : Int) (y : Nat) : ∀ o, akI p (B, x) (o + 1) = akC (askI p (c, y) (o + 1))
  | 0 => by
    rw [akI_s, askI_s]
    exact akJ_0 p hB hc x y 12
  | o + 1 => by
    have ih := akI_0 p hB hc x y o
    rw [akI_s, askI_s, ih, akJ_c]
theorem akJ_p (p : Nat → Bool) (o : Nat) (hc : 0 < cF p 0 169) {s : Nat × Int} (hs : 0 < s.1) : ∀ k, 0 < (akJ p o s k).1
  | 0 => hs
  | k + 1 => by
    have ih := akJ_p p o hc hs k
    have h1 := leftA_l p o k
    rw [akJ_s]
    split
    · show 0 < leftA p o k; omega
    · exact ih
theorem akI_p (p : Nat → Bool) (hc : 0 < cF p 0 169) {s : Nat × Int} (hs : 0 < s.1) : ∀ o, 0 < (akI p s o).1
  | 0 => hs
  | o + 1 => by rw [akI_s]; exact akJ_p p o hc (akI_p p hc hs o) (13 - o)
theorem akJ_z (p : Nat → Bool) (o : Nat) (hc : cF p 0 169 = 0) (s : Nat × Int) (k : Nat) : (akJ p o s (k + 1)).1 = 0 := by
  have h1 := leftA_l p o k
  rw [akJ_s]
  split
  · show leftA p o k = 0; omega
  · omega
theorem ak_q (p : Nat → Bool) {B : Nat} (hB : 169 < B) (x : Int) : asksQ p = if (akI p (B, x) 13).1 = 0 then (-2, none) else ((akI p (B, x) 13).2, some [((akI p (B, x) 13).1 : Int)]) := by
  have h1 := leftA_l p 0 0
  have h2 := cF_l p 169 0
  unfold asksQ
  by_cases hc : cF p 0 169 = 0
  · rw [if_pos hc]
    have : (akI p (B, x) (12 + 1)).1 = 0 := by
      rw [akI_s]
      exact akJ_z p 12 hc (akI p (B, x) 12) 0
    rw [if_pos this]
  · rw [if_neg hc]
    have h3 := akI_p p (by omega) (s := (B, x)) (show 0 < B by omega) 13
    rw [if_neg (by omega), akI_0 p (B := B) (c := cF p 0 169 + 1) (by omega) (by omega) x 0 12]
    generalize askI p (cF p 0 169 + 1, 0) (12 + 1) = S
    rfl
abbrev rgNk : Reg := (264, mpLeft) :: rgNl
theorem rgNk_ok {l : Launch} {g : GE} {d : Nat} : ∀ e as t σ Q, rE l g (d + 5) rgNk e as t σ Q → WPc l g e (d + 5) 0 0 as t σ Q := rE_cons (fun _ _ _ _ h => m_leftBy h) rgNl_ok
set_option maxHeartbeats 1000000 in
theorem mo_asks {l : Launch} {g : GE} {d : Nat} {t : Tau} {σ : Mem} {Q : Post} (hM : TM t) (hT : MtOk σ) (h : ansM (asksQ (mtP σ)) t σ Q) : WPc l g 265 (d + 6) 0 0 [vR 175] t σ Q := by
  obtain ⟨t1, t2⟩ := (QFM.rf (σ := σ) |>.up (v := 0) sf8).mt
  have hT8 := t1 hT
  generalize hBB : (1000000 : Int) = BB
  obtain ⟨B, hB⟩ : ∃ B : Nat, BB = B := ⟨1000000, hBB.symm⟩
  have hB2 : 169 < B := by omega
  unfold ansM at h
  rw [ak_q (mtP σ) hB2 (-1)] at h
  generalize mtP σ = p at h t2
  have hi0 : akI p (B, -1) 0 = (B, -1) := rfl
  have hl := fun o e => leftA_l p o e
  have hc := cF_l p 169 0
  have O : Wp l g 265 (d + 6) 0 0 13 [(0, vR 175), (1, vI (akI p (B, -1) 0).2), (2, vI ((akI p (B, -1) 0).1 : Nat)), (3, vI (0 : Nat))] [] t (up σ 175 8 0) Q := by
    refine lpU (P := fun o => Wp l g 265 (d + 6) 0 0 13 [(0, vR 175), (1, vI (akI p (B, -1) o).2), (2, vI ((akI p (B, -1) o).1 : Nat)), (3, vI o)] [] t (up σ 175 8 0) Q) (n := 13) ?_ (fun o ho KO => ?_)
    · generalize akI p (B, -1) 13 = S at h
      refine wa (by decide) rgNk_ok tk_265 30 (fun N hN => ?_)
      by_cases hz : S.1 = 0
      · rw [if_pos hz] at h
        simp [bl_265, hN _, x_iconst, x_ldc2_w, x_aconst_null, x_iload, x_lload, x_aload, x_istore, x_lstore, x_astore, x_iinc, x_iadd, x_isub, x_imul, x_idiv, x_irem, x_iand, x_ior, x_ixor, x_ishl, x_ishr, x_iushr, x_ineg, x_ladd, x_lsub, x_lmul, x_ldiv, x_lrem, x_lcmp, x_i2l, x_i2b, x_i2s, x_i2c, x_dup, x_pop, x_dup_x1, x_dup2, x_getfield, x_putfield, x_iaload, x_baload, x_saload, x_caload, x_daload, x_faload, x_laload, x_aaload, x_iastore, x_bastore, x_sastore, x_castore, x_lastore, x_aastore, x_arraylength, x_getstatic, x_goto, x_goto_w, x_ifCond, x_if_icmp, x_ifnull, x_ifnonnull, x_lookupswitch, x_invokevirtual, x_invokestatic, x_invokedynamic, x_ireturn, x_freturn, x_dreturn, x_lreturn, x_areturn, x_return_, pI_c, pL_c, pR_c, pV_i, pV_r, gI_c, gL_c, gR_c, pN_z, pN_s, lget_c, lins_z, lins_c, ldel_z, ldel_c, ldel2_z, ldel2_c, lset_i, lset_l, lset_r, lkeep_z, lkeep_c, largs_z, largs_c, cat_i, cat_l, cat_r, lkp_c, cnd_eq, cnd_ne, cnd_lt, cnd_ge, cnd_gt, cnd_le, swL_z, swL_c, rE_e, rOr_s, rOr_n, rlk_z, rlk_c, aR_c, aI_c, aII_c, aIII_c, aRI_c, aRII_c, aRIII_c, vJn, vJs, vlc, aRR_c, aRRI_c, aRRII_c, aRRIII_c, aRIIII_c, aRL_c, aRLL_c, aLL_c, aRRRI_c, aIL_c, aIIII_c, aRRIIII_c, aIRII_c, aIR_c, aLI_c, aRIR_c, aRIIR_c, hz]
        exact h _ QTM.rf
      · rw [if_neg hz] at h
        have hz' : ¬ (S.1 : Int) = 0 := by omega
        simp [bl_265, hN _, x_iconst, x_ldc2_w, x_aconst_null, x_iload, x_lload, x_aload, x_istore, x_lstore, x_astore, x_iinc, x_iadd, x_isub, x_imul, x_idiv, x_irem, x_iand, x_ior, x_ixor, x_ishl, x_ishr, x_iushr, x_ineg, x_ladd, x_lsub, x_lmul, x_ldiv, x_lrem, x_lcmp, x_i2l, x_i2b, x_i2s, x_i2c, x_dup, x_pop, x_dup_x1, x_dup2, x_getfield, x_putfield, x_iaload, x_baload, x_saload, x_caload, x_daload, x_faload, x_laload, x_aaload, x_iastore, x_bastore, x_sastore, x_castore, x_lastore, x_aastore, x_arraylength, x_getstatic, x_goto, x_goto_w, x_ifCond, x_if_icmp, x_ifnull, x_ifnonnull, x_lookupswitch, x_invokevirtual, x_invokestatic, x_invokedynamic, x_ireturn, x_freturn, x_dreturn, x_lreturn, x_areturn, x_return_, pI_c, pL_c, pR_c, pV_i, pV_r, gI_c, gL_c, gR_c, pN_z, pN_s, lget_c, lins_z, lins_c, ldel_z, ldel_c, ldel2_z, ldel2_c, lset_i, lset_l, lset_r, lkeep_z, lkeep_c, largs_z, largs_c, cat_i, cat_l, cat_r, lkp_c, cnd_eq, cnd_ne, cnd_lt, cnd_ge, cnd_gt, cnd_le, swL_z, swL_c, rE_e, rOr_s, rOr_n, rlk_z, rlk_c, aR_c, aI_c, aII_c, aIII_c, aRI_c, aRII_c, aRIII_c, vJn, vJs, vlc, aRR_c, aRRI_c, aRRII_c, aRRIII_c, aRIIII_c, aRL_c, aRLL_c, aLL_c, aRRRI_c, aIL_c, aIIII_c, aRRIIII_c, aIRII_c, aIR_c, aLI_c, aRIR_c, aRIIR_c, hM.o, hM, hz, hz', mpTell, up_ap]
        exact h _ (QTM.q1 (QFM.rf.up sf8) (by simp [up_ap]))
    · have eo := w32_succ (k := o) (by omega)
      have o1 : ¬ (12 : Int) < o := by omega
      have o2 : (o : Int) ≤ 12 := by omega
      have o3 : o ≤ 12 := by omega
      have o4 : ¬ 12 < o := by omega
      have w1 : w32 (12 - (o : Int)) = 12 - o := w32_id (by omega) (by omega)
      rw [akI_s] at KO
      generalize akI p (B, -1) o = S at KO
      have I : Wp l g 265 (d + 6) 0 0 22 [(0, vR 175), (1, vI (akJ p o S 0).2), (2, vI ((akJ p o S 0).1 : Nat)), (3, vI o), (4, vI (0 : Nat))] [] t (up σ 175 8 0) Q := by
        refine lpU (P := fun e => Wp l g 265 (d + 6) 0 0 22 [(0, vR 175), (1, vI (akJ p o S e).2), (2, vI ((akJ p o S e).1 : Nat)), (3, vI o), (4, vI e)] [] t (up σ 175 8 0) Q) (n := 13 - o) ?_ (fun e he K => ?_)
        · generalize akJ p o S (13 - o) = S' at KO
          refine wa (by decide) rgNk_ok tk_265 30 (fun N hN => ?_)
          simp [bl_265, hN _, x_iconst, x_ldc2_w, x_aconst_null, x_iload, x_lload, x_aload, x_istore, x_lstore, x_astore, x_iinc, x_iadd, x_isub, x_imul, x_idiv, x_irem, x_iand, x_ior, x_ixor, x_ishl, x_ishr, x_iushr, x_ineg, x_ladd, x_lsub, x_lmul, x_ldiv, x_lrem, x_lcmp, x_i2l, x_i2b, x_i2s, x_i2c, x_dup, x_pop, x_dup_x1, x_dup2, x_getfield, x_putfield, x_iaload, x_baload, x_saload, x_caload, x_daload, x_faload, x_laload, x_aaload, x_iastore, x_bastore, x_sastore, x_castore, x_lastore, x_aastore, x_arraylength, x_getstatic, x_goto, x_goto_w, x_ifCond, x_if_icmp, x_ifnull, x_ifnonnull, x_lookupswitch, x_invokevirtual, x_invokestatic, x_invokedynamic, x_ireturn, x_freturn, x_dreturn, x_lreturn, x_areturn, x_return_, pI_c, pL_c, pR_c, pV_i, pV_r, gI_c, gL_c, gR_c, pN_z, pN_s, lget_c, lins_z, lins_c, ldel_z, ldel_c, ldel2_z, ldel2_c, lset_i, lset_l, lset_r, lkeep_z, lkeep_c, largs_z, largs_c, cat_i, cat_l, cat_r, lkp_c, cnd_eq, cnd_ne, cnd_lt, cnd_ge, cnd_gt, cnd_le, swL_z, swL_c, rE_e, rOr_s, rOr_n, rlk_z, rlk_c, aR_c, aI_c, aII_c, aIII_c, aRI_c, aRII_c, aRIII_c, vJn, vJs, vlc, aRR_c, aRRI_c, aRRII_c, aRRIII_c, aRIIII_c, aRL_c, aRLL_c, aLL_c, aRRRI_c, aIL_c, aIIII_c, aRRIIII_c, aIRII_c, aIR_c, aLI_c, aRIR_c, aRIIR_c, w1, eo]
          exact ⟨fun _ => KO, fun z => by omega⟩
        · have ee := w32_succ (k := e) (by omega)
          have e1 : ¬ 12 - (o : Int) < e := by omega
          have e2 : (e : Int) ≤ 12 := by omega
          have e3 : e ≤ 12 := by omega
          have w2 : w32 (13 * (o : Int)) = 13 * o := w32_id (by omega) (by omega)
          have w3 : w32 (13 * (o : Int) + e) = ((13 * o + e : Nat) : Int) := by rw [w32_id (by omega) (by omega)]; omega
          rw [akJ_s] at K
          generalize akJ p o S e = S' at K
          refine wa (by decide) rgNk_ok tk_265 30 (fun N hN => ?_)
          simp [bl_265, hN _, x_iconst, x_ldc2_w, x_aconst_null, x_iload, x_lload, x_aload, x_istore, x_lstore, x_astore, x_iinc, x_iadd, x_isub, x_imul, x_idiv, x_irem, x_iand, x_ior, x_ixor, x_ishl, x_ishr, x_iushr, x_ineg, x_ladd, x_lsub, x_lmul, x_ldiv, x_lrem, x_lcmp, x_i2l, x_i2b, x_i2s, x_i2c, x_dup, x_pop, x_dup_x1, x_dup2, x_getfield, x_putfield, x_iaload, x_baload, x_saload, x_caload, x_daload, x_faload, x_laload, x_aaload, x_iastore, x_bastore, x_sastore, x_castore, x_lastore, x_aastore, x_arraylength, x_getstatic, x_goto, x_goto_w, x_ifCond, x_if_icmp, x_ifnull, x_ifnonnull, x_lookupswitch, x_invokevirtual, x_invokestatic, x_invokedynamic, x_ireturn, x_freturn, x_dreturn, x_lreturn, x_areturn, x_return_, pI_c, pL_c, pR_c, pV_i, pV_r, gI_c, gL_c, gR_c, pN_z, pN_s, lget_c, lins_z, lins_c, ldel_z, ldel_c, ldel2_z, ldel2_c, lset_i, lset_l, lset_r, lkeep_z, lkeep_c, largs_z, largs_c, cat_i, cat_l, cat_r, lkp_c, cnd_eq, cnd_ne, cnd_lt, cnd_ge, cnd_gt, cnd_le, swL_z, swL_c, rE_e, rOr_s, rOr_n, rlk_z, rlk_c, aR_c, aI_c, aII_c, aIII_c, aRI_c, aRII_c, aRIII_c, vJn, vJs, vlc, aRR_c, aRRI_c, aRRII_c, aRRIII_c, aRIIII_c, aRL_c, aRLL_c, aLL_c, aRRRI_c, aIL_c, aIIII_c, aRRIIII_c, aIRII_c, aIR_c, aLI_c, aRIR_c, aRIIR_c, hM, mpLeft, hT8, t2, o2, o3, e1, e2, e3, w1, w2, w3, ee]
          generalize leftA p o e = L at K
          refine fun _ => ⟨hM.o, fun z => ?_, fun z => ?_⟩
          · rw [if_pos (by omega)] at K; simpa using K
          · rw [if_neg (by omega)] at K; simpa using K
      refine wa (by decide) rgNk_ok tk_265 30 (fun N hN => ?_)
      simp [bl_265, hN _, x_iconst, x_ldc2_w, x_aconst_null, x_iload, x_lload, x_aload, x_istore, x_lstore, x_astore, x_iinc, x_iadd, x_isub, x_imul, x_idiv, x_irem, x_iand, x_ior, x_ixor, x_ishl, x_ishr, x_iushr, x_ineg, x_ladd, x_lsub, x_lmul, x_ldiv, x_lrem, x_lcmp, x_i2l, x_i2b, x_i2s, x_i2c, x_dup, x_pop, x_dup_x1, x_dup2, x_getfield, x_putfield, x_iaload, x_baload, x_saload, x_caload, x_daload, x_faload, x_laload, x_aaload, x_iastore, x_bastore, x_sastore, x_castore, x_lastore, x_aastore, x_arraylength, x_getstatic, x_goto, x_goto_w, x_ifCond, x_if_icmp, x_ifnull, x_ifnonnull, x_lookupswitch, x_invokevirtual, x_invokestatic, x_invokedynamic, x_ireturn, x_freturn, x_dreturn, x_lreturn, x_areturn, x_return_, pI_c, pL_c, pR_c, pV_i, pV_r, gI_c, gL_c, gR_c, pN_z, pN_s, lget_c, lins_z, lins_c, ldel_z, ldel_c, ldel2_z, ldel2_c, lset_i, lset_l, lset_r, lkeep_z, lkeep_c, largs_z, largs_c, cat_i, cat_l, cat_r, lkp_c, cnd_eq, cnd_ne, cnd_lt, cnd_ge, cnd_gt, cnd_le, swL_z, swL_c, rE_e, rOr_s, rOr_n, rlk_z, rlk_c, aR_c, aI_c, aII_c, aIII_c, aRI_c, aRII_c, aRIII_c, vJn, vJs, vlc, aRR_c, aRRI_c, aRRII_c, aRRIII_c, aRIIII_c, aRL_c, aRLL_c, aLL_c, aRRRI_c, aIL_c, aIIII_c, aRRIIII_c, aIRII_c, aIR_c, aLI_c, aRIR_c, aRIIR_c, o1, o2, o3, o4]
      exact I
  rw [hi0, ← hB] at O
  refine wg (by decide) rgNk_ok tk_265 py_265 ml_265 30 (by simp [catT]) (fun N hN => ?_)
  simp [bl_265, hN _, x_iconst, x_ldc2_w, x_aconst_null, x_iload, x_lload, x_aload, x_istore, x_lstore, x_astore, x_iinc, x_iadd, x_isub, x_imul, x_idiv, x_irem, x_iand, x_ior, x_ixor, x_ishl, x_ishr, x_iushr, x_ineg, x_ladd, x_lsub, x_lmul, x_ldiv, x_lrem, x_lcmp, x_i2l, x_i2b, x_i2s, x_i2c, x_dup, x_pop, x_dup_x1, x_dup2, x_getfield, x_putfield, x_iaload, x_baload, x_saload, x_caload, x_daload, x_faload, x_laload, x_aaload, x_iastore, x_bastore, x_sastore, x_castore, x_lastore, x_aastore, x_arraylength, x_getstatic, x_goto, x_goto_w, x_ifCond, x_if_icmp, x_ifnull, x_ifnonnull, x_lookupswitch, x_invokevirtual, x_invokestatic, x_invokedynamic, x_ireturn, x_freturn, x_dreturn, x_lreturn, x_areturn, x_return_, pI_c, pL_c, pR_c, pV_i, pV_r, gI_c, gL_c, gR_c, pN_z, pN_s, lget_c, lins_z, lins_c, ldel_z, ldel_c, ldel2_z, ldel2_c, lset_i, lset_l, lset_r, lkeep_z, lkeep_c, largs_z, largs_c, cat_i, cat_l, cat_r, lkp_c, cnd_eq, cnd_ne, cnd_lt, cnd_ge, cnd_gt, cnd_le, swL_z, swL_c, rE_e, rOr_s, rOr_n, rlk_z, rlk_c, aR_c, aI_c, aII_c, aIII_c, aRI_c, aRII_c, aRIII_c, vJn, vJs, vlc, aRR_c, aRRI_c, aRRII_c, aRRIII_c, aRIIII_c, aRL_c, aRLL_c, aLL_c, aRRRI_c, aIL_c, aIIII_c, aRRIIII_c, aIRII_c, aIR_c, aLI_c, aRIR_c, aRIIR_c, hM.o, hBB]
  exact O
