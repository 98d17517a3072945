/-! the reference: looks -/
theorem cB_l (p : Nat → Bool) : ∀ n, cB p n ≤ n
  | 0 => Nat.le_refl _
  | n + 1 => by have := cB_l p n; unfold cB; split <;> omega
set_option maxHeartbeats 1000000 in
theorem mo_looks {l : Launch} {g : GE} {d : Nat} {t : Tau} {σ : Mem} {Q : Post} (hk : MK t σ) (hS : MsOk σ) (h : ansM (lookQ (nM σ) (vA σ 176) (setN (fitB (vA σ 176) (σ 191) (σ 192) (σ 175 30).toNat) (nM σ))) t σ Q) : WPc l g 258 (d + 6) 0 0 [vR 175] t σ Q := by
  have hk8 : MK t (up σ 175 8 0) := by rw [mk_up (by omega) (by omega) (by omega)]; exact hk
  obtain ⟨hM, hW⟩ := hk
  have n6 := hM.2.2
  have z0 := hM.2.1
  have hb := set64 (p := fitB (vA σ 176) (σ 191) (σ 192) (σ 175 30).toNat) n6
  unfold ansM lookQ at h
  generalize hbb : setN (fitB (vA σ 176) (σ 191) (σ 192) (σ 175 30).toNat) (nM σ) = b at h hb
  have ec := bc_n hb
  have hpl := popc_l b
  by_cases hz : b = 0
  · rw [if_pos hz] at h
    have h := h _ QTM.rf
    refine wg (by decide) rgNf_ok tk_258 py_258 ml_258 30 (by simp [catT]) (fun N hN => ?_)
    simp [bl_258, hN _, x_iconst, x_ldc2_w, x_aconst_null, x_iload, x_lload, x_aload, x_istore, x_lstore, x_astore, x_iinc, x_iadd, x_isub, x_imul, x_idiv, x_irem, x_iand, x_ior, x_ixor, x_ishl, x_ishr, x_iushr, x_ineg, x_ladd, x_lsub, x_lmul, x_ldiv, x_lrem, x_lcmp, x_i2l, x_i2b, x_i2s, x_i2c, x_dup, x_pop, x_dup_x1, x_dup2, x_getfield, x_putfield, x_iaload, x_baload, x_saload, x_caload, x_daload, x_faload, x_laload, x_aaload, x_iastore, x_bastore, x_sastore, x_castore, x_lastore, x_aastore, x_arraylength, x_getstatic, x_goto, x_goto_w, x_ifCond, x_if_icmp, x_ifnull, x_ifnonnull, x_lookupswitch, x_invokevirtual, x_invokestatic, x_invokedynamic, x_ireturn, x_freturn, x_dreturn, x_lreturn, x_areturn, x_return_, pI_c, pL_c, pR_c, pV_i, pV_r, gI_c, gL_c, gR_c, pN_z, pN_s, lget_c, lins_z, lins_c, ldel_z, ldel_c, ldel2_z, ldel2_c, lset_i, lset_l, lset_r, lkeep_z, lkeep_c, largs_z, largs_c, cat_i, cat_l, cat_r, lkp_c, cnd_eq, cnd_ne, cnd_lt, cnd_ge, cnd_gt, cnd_le, swL_z, swL_c, rE_e, rOr_s, rOr_n, rlk_z, rlk_c, aR_c, aI_c, aII_c, aIII_c, aRI_c, aRII_c, aRIII_c, vJn, vJs, vlc, aRR_c, aRRI_c, aRRII_c, aRRIII_c, aRIIII_c, aRL_c, aRLL_c, aLL_c, aRRRI_c, aIL_c, aIIII_c, aRRIIII_c, aIRII_c, aIR_c, aLI_c, aRIR_c, aRIIR_c, hM.1.o, mpFit, hk8, ms_up hS, nM_up, vA_up, up_ne, up_ap, hbb, hz]
    exact h
  · rw [if_neg hz] at h
    have hz' : ¬ (b : Int) = 0 := by omega
    generalize hF : lookF (vA σ 176) b (nM σ) = F at h
    have hF0 : F 0 = (7, 0) := by rw [← hF]; rfl
    have hFs : ∀ s, F (s + 1) = if max (cB (fun j => tb b j && wthB (vA σ 176) s j) (nM σ)) (popc b - cB (fun j => tb b j && wthB (vA σ 176) s j) (nM σ)) < (F s).1 then (max (cB (fun j => tb b j && wthB (vA σ 176) s j) (nM σ)) (popc b - cB (fun j => tb b j && wthB (vA σ 176) s j) (nM σ)), s) else F s := by
      rw [← hF]; intro s
      rw [← pop_look hb n6]; rfl
    have hcl : ∀ s : Nat, cB (fun j => tb b j && wthB (vA σ 176) s j) (nM σ) ≤ popc b := fun s => by
      rw [← pop_look hb n6]; exact and_pl hb (set64 n6)
    have K : Wp l g 258 (d + 6) 0 0 26 [(0, vR 175), (1, vI b), (2, vI (if (0 : Nat) = 0 then -1 else ((F 0).2 : Int))), (3, vI (if (0 : Nat) = 0 then 1000000 else ((F 0).1 : Int))), (4, vI (0 : Nat))] [] t (up σ 175 8 0) Q := by
      refine lpU (P := fun s => Wp l g 258 (d + 6) 0 0 26 [(0, vR 175), (1, vI b), (2, vI (if s = 0 then -1 else ((F s).2 : Int))), (3, vI (if s = 0 then 1000000 else ((F s).1 : Int))), (4, vI s)] [] t (up σ 175 8 0) Q) (n := 4) ?_ (fun s hs K => ?_)
      · refine wa (by decide) rgNf_ok tk_258 30 (fun N hN => ?_)
        simp [bl_258, hN _, x_iconst, x_ldc2_w, x_aconst_null, x_iload, x_lload, x_aload, x_istore, x_lstore, x_astore, x_iinc, x_iadd, x_isub, x_imul, x_idiv, x_irem, x_iand, x_ior, x_ixor, x_ishl, x_ishr, x_iushr, x_ineg, x_ladd, x_lsub, x_lmul, x_ldiv, x_lrem, x_lcmp, x_i2l, x_i2b, x_i2s, x_i2c, x_dup, x_pop, x_dup_x1, x_dup2, x_getfield, x_putfield, x_iaload, x_baload, x_saload, x_caload, x_daload, x_faload, x_laload, x_aaload, x_iastore, x_bastore, x_sastore, x_castore, x_lastore, x_aastore, x_arraylength, x_getstatic, x_goto, x_goto_w, x_ifCond, x_if_icmp, x_ifnull, x_ifnonnull, x_lookupswitch, x_invokevirtual, x_invokestatic, x_invokedynamic, x_ireturn, x_freturn, x_dreturn, x_lreturn, x_areturn, x_return_, pI_c, pL_c, pR_c, pV_i, pV_r, gI_c, gL_c, gR_c, pN_z, pN_s, lget_c, lins_z, lins_c, ldel_z, ldel_c, ldel2_z, ldel2_c, lset_i, lset_l, lset_r, lkeep_z, lkeep_c, largs_z, largs_c, cat_i, cat_l, cat_r, lkp_c, cnd_eq, cnd_ne, cnd_lt, cnd_ge, cnd_gt, cnd_le, swL_z, swL_c, rE_e, rOr_s, rOr_n, rlk_z, rlk_c, aR_c, aI_c, aII_c, aIII_c, aRI_c, aRII_c, aRIII_c, vJn, vJs, vlc, aRR_c, aRRI_c, aRRII_c, aRRIII_c, aRIIII_c, aRL_c, aRLL_c, aLL_c, aRRRI_c, aIL_c, aIIII_c, aRRIIII_c, aIRII_c, aIR_c, aLI_c, aRIR_c, aRIIR_c, hM.1.o, hM.1, mpTell, up_ap]
        exact h _ (QTM.q1 (QFM.rf.up sf8) (by simp [up_ap]))
      · have e2 := w32_succ (k := s) (by omega); have i1 : ((s : Nat) : Int) < 4 := (by omega); have i1n : s < 4 := (by omega); have i1x : ¬ (4 : Int) ≤ (s : Nat) := (by omega)
        rw [if_neg (by omega), if_neg (by omega), hFs s] at K
        have hc1 := hcl s
        generalize hX : (if s = 0 then (-1 : Int) else ((F s).2 : Int)) = X
        generalize hY : (if s = 0 then (1000000 : Int) else ((F s).1 : Int)) = Y
        have I : Wp l g 258 (d + 6) 0 0 38 [(0, vR 175), (1, vI b), (2, vI X), (3, vI Y), (4, vI s), (5, vI (cB (fun j => tb b j && wthB (vA σ 176) s j) 0 : Nat)), (6, vI (0 : Nat))] [] t (up σ 175 8 0) Q := by
          refine lpU (P := fun i => Wp l g 258 (d + 6) 0 0 38 [(0, vR 175), (1, vI b), (2, vI X), (3, vI Y), (4, vI s), (5, vI (cB (fun j => tb b j && wthB (vA σ 176) s j) i : Nat)), (6, vI i)] [] t (up σ 175 8 0) Q) (n := nM σ) ?_ (fun i hi K => ?_)
          · generalize cB (fun j => tb b j && wthB (vA σ 176) s j) (nM σ) = c at K hc1
            have e3 : w32 ((popc b : Int) - (c : Int)) = ((popc b - c : Nat) : Int) := by rw [w32_id (by omega) (by omega)]; omega
            have e4 : max (c : Int) ((popc b - c : Nat) : Int) = ((max c (popc b - c) : Nat) : Int) := by omega
            have e5 : max c (popc b - c) ≤ 6 := by omega
            refine wa (by decide) rgNf_ok tk_258 30 (fun N hN => ?_)
            simp [bl_258, hN _, x_iconst, x_ldc2_w, x_aconst_null, x_iload, x_lload, x_aload, x_istore, x_lstore, x_astore, x_iinc, x_iadd, x_isub, x_imul, x_idiv, x_irem, x_iand, x_ior, x_ixor, x_ishl, x_ishr, x_iushr, x_ineg, x_ladd, x_lsub, x_lmul, x_ldiv, x_lrem, x_lcmp, x_i2l, x_i2b, x_i2s, x_i2c, x_dup, x_pop, x_dup_x1, x_dup2, x_getfield, x_putfield, x_iaload, x_baload, x_saload, x_caload, x_daload, x_faload, x_laload, x_aaload, x_iastore, x_bastore, x_sastore, x_castore, x_lastore, x_aastore, x_arraylength, x_getstatic, x_goto, x_goto_w, x_ifCond, x_if_icmp, x_ifnull, x_ifnonnull, x_lookupswitch, x_invokevirtual, x_invokestatic, x_invokedynamic, x_ireturn, x_freturn, x_dreturn, x_lreturn, x_areturn, x_return_, pI_c, pL_c, pR_c, pV_i, pV_r, gI_c, gL_c, gR_c, pN_z, pN_s, lget_c, lins_z, lins_c, ldel_z, ldel_c, ldel2_z, ldel2_c, lset_i, lset_l, lset_r, lkeep_z, lkeep_c, largs_z, largs_c, cat_i, cat_l, cat_r, lkp_c, cnd_eq, cnd_ne, cnd_lt, cnd_ge, cnd_gt, cnd_le, swL_z, swL_c, rE_e, rOr_s, rOr_n, rlk_z, rlk_c, aR_c, aI_c, aII_c, aIII_c, aRI_c, aRII_c, aRIII_c, vJn, vJs, vlc, aRR_c, aRRI_c, aRRII_c, aRRIII_c, aRIIII_c, aRL_c, aRLL_c, aLL_c, aRRRI_c, aIL_c, aIIII_c, aRRIIII_c, aIRII_c, aIR_c, aLI_c, aRIR_c, aRIIR_c, hM.1.o, up_ap, z0, bpCount, spMax, ec, e3, e2]
            rw [e4]
            generalize max c (popc b - c) = x at K e5
            by_cases hs0 : s = 0
            · subst hs0
              rw [if_pos rfl] at hY
              rw [hF0, if_pos (by show x < 7; omega)] at K
              subst hY
              refine ⟨fun _ => K, fun z => ?_⟩
              exfalso; omega
            · rw [if_neg hs0] at hX hY
              subst hX hY
              refine ⟨fun z => ?_, fun z => ?_⟩
              · rw [if_pos (by omega)] at K; exact K
              · rw [if_neg (by omega)] at K; exact K
          · have i6 : (i : Int) < 6 := by omega
            have i6n : i < 6 := by omega
            have iN : (i : Int) < nM σ := by omega
            have iN' : ¬ (nM σ : Int) ≤ i := by omega
            have iN2 : ¬ nM σ ≤ i := by omega
            have ei := w32_succ (k := i) (by omega)
            have hcb := cB_l (fun j => tb b j && wthB (vA σ 176) s j) i
            have es : cB (fun j => tb b j && wthB (vA σ 176) s j) (i + 1) = cB (fun j => tb b j && wthB (vA σ 176) s j) i + if (tb b i && wthB (vA σ 176) s i) then 1 else 0 := rfl
            rw [es] at K
            generalize cB (fun j => tb b j && wthB (vA σ 176) s j) i = c at K hcb
            have hbt := bit_m (b := b) (k := i) hb i6n
            have w1 : w32 (c : Int) = c := w32_id (by omega) (by omega)
            have w2 := w32_succ (k := c) (by omega)
            refine wa (by decide) rgNf_ok tk_258 30 (fun N hN => ?_)
            by_cases hc : tb b i = true
            · by_cases hp : 0 < partV (vA σ 176) i s
              · have hw : wthB (vA σ 176) s i = true := by unfold wthB; simpa using hp
                rw [if_pos (by rw [hc, hw]; rfl)] at K
                simp [bl_258, hN _, x_iconst, x_ldc2_w, x_aconst_null, x_iload, x_lload, x_aload, x_istore, x_lstore, x_astore, x_iinc, x_iadd, x_isub, x_imul, x_idiv, x_irem, x_iand, x_ior, x_ixor, x_ishl, x_ishr, x_iushr, x_ineg, x_ladd, x_lsub, x_lmul, x_ldiv, x_lrem, x_lcmp, x_i2l, x_i2b, x_i2s, x_i2c, x_dup, x_pop, x_dup_x1, x_dup2, x_getfield, x_putfield, x_iaload, x_baload, x_saload, x_caload, x_daload, x_faload, x_laload, x_aaload, x_iastore, x_bastore, x_sastore, x_castore, x_lastore, x_aastore, x_arraylength, x_getstatic, x_goto, x_goto_w, x_ifCond, x_if_icmp, x_ifnull, x_ifnonnull, x_lookupswitch, x_invokevirtual, x_invokestatic, x_invokedynamic, x_ireturn, x_freturn, x_dreturn, x_lreturn, x_areturn, x_return_, pI_c, pL_c, pR_c, pV_i, pV_r, gI_c, gL_c, gR_c, pN_z, pN_s, lget_c, lins_z, lins_c, ldel_z, ldel_c, ldel2_z, ldel2_c, lset_i, lset_l, lset_r, lkeep_z, lkeep_c, largs_z, largs_c, cat_i, cat_l, cat_r, lkp_c, cnd_eq, cnd_ne, cnd_lt, cnd_ge, cnd_gt, cnd_le, swL_z, swL_c, rE_e, rOr_s, rOr_n, rlk_z, rlk_c, aR_c, aI_c, aII_c, aIII_c, aRI_c, aRII_c, aRIII_c, vJn, vJs, vlc, aRR_c, aRRI_c, aRRII_c, aRRIII_c, aRIIII_c, aRL_c, aRLL_c, aLL_c, aRRRI_c, aIL_c, aIIII_c, aRRIIII_c, aIRII_c, aIR_c, aLI_c, aRIR_c, aRIIR_c, hM.1.o, hM.1.f0, up_ap, z0, mpHas, mpPart, RowT.now hM.1, vA_up, hbt, hc, i6, i6n, iN, iN', iN2, hi, e2, i1, i1n, i1x, hp, Int.not_le.mpr hp, ei, w2]
                exact K
              · have hw : wthB (vA σ 176) s i = false := by unfold wthB; simpa using hp
                rw [if_neg (by rw [hc, hw]; simp)] at K
                simp [bl_258, hN _, x_iconst, x_ldc2_w, x_aconst_null, x_iload, x_lload, x_aload, x_istore, x_lstore, x_astore, x_iinc, x_iadd, x_isub, x_imul, x_idiv, x_irem, x_iand, x_ior, x_ixor, x_ishl, x_ishr, x_iushr, x_ineg, x_ladd, x_lsub, x_lmul, x_ldiv, x_lrem, x_lcmp, x_i2l, x_i2b, x_i2s, x_i2c, x_dup, x_pop, x_dup_x1, x_dup2, x_getfield, x_putfield, x_iaload, x_baload, x_saload, x_caload, x_daload, x_faload, x_laload, x_aaload, x_iastore, x_bastore, x_sastore, x_castore, x_lastore, x_aastore, x_arraylength, x_getstatic, x_goto, x_goto_w, x_ifCond, x_if_icmp, x_ifnull, x_ifnonnull, x_lookupswitch, x_invokevirtual, x_invokestatic, x_invokedynamic, x_ireturn, x_freturn, x_dreturn, x_lreturn, x_areturn, x_return_, pI_c, pL_c, pR_c, pV_i, pV_r, gI_c, gL_c, gR_c, pN_z, pN_s, lget_c, lins_z, lins_c, ldel_z, ldel_c, ldel2_z, ldel2_c, lset_i, lset_l, lset_r, lkeep_z, lkeep_c, largs_z, largs_c, cat_i, cat_l, cat_r, lkp_c, cnd_eq, cnd_ne, cnd_lt, cnd_ge, cnd_gt, cnd_le, swL_z, swL_c, rE_e, rOr_s, rOr_n, rlk_z, rlk_c, aR_c, aI_c, aII_c, aIII_c, aRI_c, aRII_c, aRIII_c, vJn, vJs, vlc, aRR_c, aRRI_c, aRRII_c, aRRIII_c, aRIIII_c, aRL_c, aRLL_c, aLL_c, aRRRI_c, aIL_c, aIIII_c, aRRIIII_c, aIRII_c, aIR_c, aLI_c, aRIR_c, aRIIR_c, hM.1.o, hM.1.f0, up_ap, z0, mpHas, mpPart, RowT.now hM.1, vA_up, hbt, hc, i6, i6n, iN, iN', iN2, hi, e2, i1, i1n, i1x, hp, Int.not_lt.mp hp, ei, w1]
                exact K
            · rw [if_neg (by simp [hc])] at K
              simp [bl_258, hN _, x_iconst, x_ldc2_w, x_aconst_null, x_iload, x_lload, x_aload, x_istore, x_lstore, x_astore, x_iinc, x_iadd, x_isub, x_imul, x_idiv, x_irem, x_iand, x_ior, x_ixor, x_ishl, x_ishr, x_iushr, x_ineg, x_ladd, x_lsub, x_lmul, x_ldiv, x_lrem, x_lcmp, x_i2l, x_i2b, x_i2s, x_i2c, x_dup, x_pop, x_dup_x1, x_dup2, x_getfield, x_putfield, x_iaload, x_baload, x_saload, x_caload, x_daload, x_faload, x_laload, x_aaload, x_iastore, x_bastore, x_sastore, x_castore, x_lastore, x_aastore, x_arraylength, x_getstatic, x_goto, x_goto_w, x_ifCond, x_if_icmp, x_ifnull, x_ifnonnull, x_lookupswitch, x_invokevirtual, x_invokestatic, x_invokedynamic, x_ireturn, x_freturn, x_dreturn, x_lreturn, x_areturn, x_return_, pI_c, pL_c, pR_c, pV_i, pV_r, gI_c, gL_c, gR_c, pN_z, pN_s, lget_c, lins_z, lins_c, ldel_z, ldel_c, ldel2_z, ldel2_c, lset_i, lset_l, lset_r, lkeep_z, lkeep_c, largs_z, largs_c, cat_i, cat_l, cat_r, lkp_c, cnd_eq, cnd_ne, cnd_lt, cnd_ge, cnd_gt, cnd_le, swL_z, swL_c, rE_e, rOr_s, rOr_n, rlk_z, rlk_c, aR_c, aI_c, aII_c, aIII_c, aRI_c, aRII_c, aRIII_c, vJn, vJs, vlc, aRR_c, aRRI_c, aRRII_c, aRRIII_c, aRIIII_c, aRL_c, aRLL_c, aLL_c, aRRRI_c, aIL_c, aIIII_c, aRRIIII_c, aIRII_c, aIR_c, aLI_c, aRIR_c, aRIIR_c, hM.1.o, hM.1.f0, up_ap, z0, mpHas, hbt, hc, i6, i6n, iN, iN', iN2, hi, ei, w1]
              exact K
        refine wa (by decide) rgNf_ok tk_258 30 (fun N hN => ?_)
        simp [bl_258, hN _, x_iconst, x_ldc2_w, x_aconst_null, x_iload, x_lload, x_aload, x_istore, x_lstore, x_astore, x_iinc, x_iadd, x_isub, x_imul, x_idiv, x_irem, x_iand, x_ior, x_ixor, x_ishl, x_ishr, x_iushr, x_ineg, x_ladd, x_lsub, x_lmul, x_ldiv, x_lrem, x_lcmp, x_i2l, x_i2b, x_i2s, x_i2c, x_dup, x_pop, x_dup_x1, x_dup2, x_getfield, x_putfield, x_iaload, x_baload, x_saload, x_caload, x_daload, x_faload, x_laload, x_aaload, x_iastore, x_bastore, x_sastore, x_castore, x_lastore, x_aastore, x_arraylength, x_getstatic, x_goto, x_goto_w, x_ifCond, x_if_icmp, x_ifnull, x_ifnonnull, x_lookupswitch, x_invokevirtual, x_invokestatic, x_invokedynamic, x_ireturn, x_freturn, x_dreturn, x_lreturn, x_areturn, x_return_, pI_c, pL_c, pR_c, pV_i, pV_r, gI_c, gL_c, gR_c, pN_z, pN_s, lget_c, lins_z, lins_c, ldel_z, ldel_c, ldel2_z, ldel2_c, lset_i, lset_l, lset_r, lkeep_z, lkeep_c, largs_z, largs_c, cat_i, cat_l, cat_r, lkp_c, cnd_eq, cnd_ne, cnd_lt, cnd_ge, cnd_gt, cnd_le, swL_z, swL_c, rE_e, rOr_s, rOr_n, rlk_z, rlk_c, aR_c, aI_c, aII_c, aIII_c, aRI_c, aRII_c, aRIII_c, vJn, vJs, vlc, aRR_c, aRRI_c, aRRII_c, aRRIII_c, aRIIII_c, aRL_c, aRLL_c, aLL_c, aRRRI_c, aIL_c, aIIII_c, aRRIIII_c, aIRII_c, aIR_c, aLI_c, aRIR_c, aRIIR_c, e2, i1, i1n, i1x]
        exact I
    refine wg (by decide) rgNf_ok tk_258 py_258 ml_258 30 (by simp [catT]) (fun N hN => ?_)
    simp [bl_258, hN _, x_iconst, x_ldc2_w, x_aconst_null, x_iload, x_lload, x_aload, x_istore, x_lstore, x_astore, x_iinc, x_iadd, x_isub, x_imul, x_idiv, x_irem, x_iand, x_ior, x_ixor, x_ishl, x_ishr, x_iushr, x_ineg, x_ladd, x_lsub, x_lmul, x_ldiv, x_lrem, x_lcmp, x_i2l, x_i2b, x_i2s, x_i2c, x_dup, x_pop, x_dup_x1, x_dup2, x_getfield, x_putfield, x_iaload, x_baload, x_saload, x_caload, x_daload, x_faload, x_laload, x_aaload, x_iastore, x_bastore, x_sastore, x_castore, x_lastore, x_aastore, x_arraylength, x_getstatic, x_goto, x_goto_w, x_ifCond, x_if_icmp, x_ifnull, x_ifnonnull, x_lookupswitch, x_invokevirtual, x_invokestatic, x_invokedynamic, x_ireturn, x_freturn, x_dreturn, x_lreturn, x_areturn, x_return_, pI_c, pL_c, pR_c, pV_i, pV_r, gI_c, gL_c, gR_c, pN_z, pN_s, lget_c, lins_z, lins_c, ldel_z, ldel_c, ldel2_z, ldel2_c, lset_i, lset_l, lset_r, lkeep_z, lkeep_c, largs_z, largs_c, cat_i, cat_l, cat_r, lkp_c, cnd_eq, cnd_ne, cnd_lt, cnd_ge, cnd_gt, cnd_le, swL_z, swL_c, rE_e, rOr_s, rOr_n, rlk_z, rlk_c, aR_c, aI_c, aII_c, aIII_c, aRI_c, aRII_c, aRIII_c, vJn, vJs, vlc, aRR_c, aRRI_c, aRRII_c, aRRIII_c, aRIIII_c, aRL_c, aRLL_c, aLL_c, aRRRI_c, aIL_c, aIIII_c, aRRIIII_c, aIRII_c, aIR_c, aLI_c, aRIR_c, aRIIR_c, hM.1.o, mpFit, hk8, ms_up hS, nM_up, vA_up, up_ne, up_ap, hbb, hz, hz']
    exact K
