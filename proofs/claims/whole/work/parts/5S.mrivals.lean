/-! the reference: rivals -/
theorem rivF_b {F : (Int → Int) → Int} {n : Nat} {V : Int → Int} {s : Int} : ∀ j : Nat, j ≤ 6 → ∃ a b c : Nat, (a < 64 ∧ b < 64 ∧ c < 64) ∧ rivF F n V s j = ((a : Int), (b : Int), (c : Int))
  | 0, _ => ⟨0, 0, 0, by omega, rfl⟩
  | j + 1, hj => by
    obtain ⟨a, b, c, ⟨ha, hb, hc⟩, e⟩ := rivF_b (F := F) (n := n) (V := V) (s := s) j (by omega)
    have es : rivF F n V s (j + 1) = if winA F n V s j = s then (ior (rivF F n V s j).1 (ishl 1 j), (rivF F n V s j).2.1, (rivF F n V s j).2.2) else if winA F n V s j = j then ((rivF F n V s j).1, ior (rivF F n V s j).2.1 (ishl 1 j), (rivF F n V s j).2.2) else if winA F n V s j = -3 then ((rivF F n V s j).1, (rivF F n V s j).2.1, ior (rivF F n V s j).2.2 (ishl 1 j)) else rivF F n V s j := rfl
    rw [es, e]
    have h1 := fun x (hx : x < 64) => (or_t0 ⟨x, hx⟩ ⟨j, by omega⟩ ⟨0, by omega⟩).1
    have h2 := fun x (hx : x < 64) => or_b (b := x) (k := j) hx (by omega)
    split
    · exact ⟨_, b, c, ⟨h1 a ha, hb, hc⟩, by rw [← h2 a ha]⟩
    · split
      · exact ⟨a, _, c, ⟨ha, h1 b hb, hc⟩, by rw [← h2 b hb]⟩
      · split
        · exact ⟨a, b, _, ⟨ha, hb, h1 c hc⟩, by rw [← h2 c hc]⟩
        · exact ⟨a, b, c, ⟨ha, hb, hc⟩, rfl⟩
set_option maxHeartbeats 1000000 in
theorem mo_rivals {l : Launch} {g : GE} {d : Nat} {t : Tau} {σ : Mem} {Q : Post} {s : Int} {F : (Int → Int) → Int} (hk : MK t σ) (hR : MR t σ F) (h : ansM (rivQ F (nM σ) (vA σ 176) s) t σ Q) : WPc l g 234 (d + 93) 0 0 [vR 175, vI s] t σ Q := by
  have hk8 : MK t (up σ 175 8 0) := by rw [mk_up (by omega) (by omega) (by omega)]; exact hk
  obtain ⟨hM, hW⟩ := hk
  have hM8 := hk8.1
  have n6 := hM.2.2
  have z0 := hM.2.1
  unfold ansM rivQ at h
  by_cases hs : 0 ≤ s ∧ s < nM σ
  · rw [if_pos hs] at h
    obtain ⟨s0, s1⟩ := hs
    have hSb := rivF_b (F := F) (n := nM σ) (V := vA σ 176) (s := s)
    generalize hS : rivF F (nM σ) (vA σ 176) s = S at h hSb
    have hS0 : S 0 = (0, 0, 0) := by rw [← hS]; rfl
    have hSs : ∀ j : Nat, S (j + 1) = if winA F (nM σ) (vA σ 176) s j = s then (ior (S j).1 (ishl 1 j), (S j).2.1, (S j).2.2) else if winA F (nM σ) (vA σ 176) s j = j then ((S j).1, ior (S j).2.1 (ishl 1 j), (S j).2.2) else if winA F (nM σ) (vA σ 176) s j = -3 then ((S j).1, (S j).2.1, ior (S j).2.2 (ishl 1 j)) else S j := by rw [← hS]; intro j; rfl
    have K : ∀ σ', FoF (up σ 175 8 0) σ' → Wp l g 234 (d + 93) 0 0 25 [(0, vR 175), (1, vI s), (2, vI (S 0).1), (3, vI (S 0).2.1), (4, vI (S 0).2.2), (5, vI (0 : Nat))] [] t σ' Q := by
      refine lpU (P := fun i => ∀ σ', FoF (up σ 175 8 0) σ' → Wp l g 234 (d + 93) 0 0 25 [(0, vR 175), (1, vI s), (2, vI (S i).1), (3, vI (S i).2.1), (4, vI (S i).2.2), (5, vI i)] [] t σ' Q) (n := nM σ) ?_ (fun i hi K σ' f => ?_)
      · intro σ' f
        have z1 : σ' 175 1 = nM σ := by rw [f.2 1 (by omega) (by omega)]; simp [up_ap, z0]
        have e8 : σ' 175 8 = 0 := by rw [f.2 8 (by omega) (by omega)]; simp [up_ap]
        refine wa (by decide) rgMw_ok tk_234 30 (fun N hN => ?_)
        simp [bl_234, hN _, x_iconst, x_ldc2_w, x_aconst_null, x_iload, x_lload, x_aload, x_istore, x_lstore, x_astore, x_iinc, x_iadd, x_isub, x_imul, x_idiv, x_irem, x_iand, x_ior, x_ixor, x_ishl, x_ishr, x_iushr, x_ineg, x_ladd, x_lsub, x_lmul, x_ldiv, x_lrem, x_lcmp, x_i2l, x_i2b, x_i2s, x_i2c, x_dup, x_pop, x_dup_x1, x_dup2, x_getfield, x_putfield, x_iaload, x_baload, x_saload, x_caload, x_daload, x_faload, x_laload, x_aaload, x_iastore, x_bastore, x_sastore, x_castore, x_lastore, x_aastore, x_arraylength, x_getstatic, x_goto, x_goto_w, x_ifCond, x_if_icmp, x_ifnull, x_ifnonnull, x_lookupswitch, x_invokevirtual, x_invokestatic, x_invokedynamic, x_ireturn, x_freturn, x_dreturn, x_lreturn, x_areturn, x_return_, pI_c, pL_c, pR_c, pV_i, pV_r, gI_c, gL_c, gR_c, pN_z, pN_s, lget_c, lins_z, lins_c, ldel_z, ldel_c, ldel2_z, ldel2_c, lset_i, lset_l, lset_r, lkeep_z, lkeep_c, largs_z, largs_c, cat_i, cat_l, cat_r, lkp_c, cnd_eq, cnd_ne, cnd_lt, cnd_ge, cnd_gt, cnd_le, swL_z, swL_c, rE_e, rOr_s, rOr_n, rlk_z, rlk_c, aR_c, aI_c, aII_c, aIII_c, aRI_c, aRII_c, aRIII_c, vJn, vJs, vlc, aRR_c, aRRI_c, aRRII_c, aRRIII_c, aRIIII_c, aRL_c, aRLL_c, aLL_c, aRRRI_c, aIL_c, aIIII_c, aRRIIII_c, aIRII_c, aIR_c, aLI_c, aRIR_c, aRIIR_c, hM.1.o, hM.1, z1, mpTell, up_ap]
        exact h _ (QTM.q2 ((QFM.rf.up sf8).tr f.q) e8)
      · have e2 := w32_succ (k := i) (by omega); have i1 : ((i : Nat) : Int) < (nM σ : Nat) := (by omega); have i1n : i < nM σ := (by omega); have i1x : ¬ nM σ ≤ i := (by omega)
        obtain ⟨x, y, z, ⟨hx, hy, hz⟩, e⟩ := hSb i (by omega)
        have ox := or_z hx
        have oy := or_z hy
        have oz := or_z hz
        have z1 : σ' 175 1 = nM σ := by rw [f.2 1 (by omega) (by omega)]; simp [up_ap, z0]
        rw [hSs i, e] at K
        rw [e]
        simp only at K ⊢
        by_cases his : (i : Int) = s
        · have hw : winA F (nM σ) (vA σ 176) s i = -1 := by unfold winA; rw [if_neg (fun z => z.2.2 his.symm)]
          rw [hw, if_neg (by omega), if_neg (by omega), if_neg (by omega)] at K
          have K := K σ' f
          have n2 : ¬ (-2 : Int) = i := by omega
          subst his
          refine wa (by decide) rgMw_ok tk_234 30 (fun N hN => ?_)
          simp [bl_234, hN _, x_iconst, x_ldc2_w, x_aconst_null, x_iload, x_lload, x_aload, x_istore, x_lstore, x_astore, x_iinc, x_iadd, x_isub, x_imul, x_idiv, x_irem, x_iand, x_ior, x_ixor, x_ishl, x_ishr, x_iushr, x_ineg, x_ladd, x_lsub, x_lmul, x_ldiv, x_lrem, x_lcmp, x_i2l, x_i2b, x_i2s, x_i2c, x_dup, x_pop, x_dup_x1, x_dup2, x_getfield, x_putfield, x_iaload, x_baload, x_saload, x_caload, x_daload, x_faload, x_laload, x_aaload, x_iastore, x_bastore, x_sastore, x_castore, x_lastore, x_aastore, x_arraylength, x_getstatic, x_goto, x_goto_w, x_ifCond, x_if_icmp, x_ifnull, x_ifnonnull, x_lookupswitch, x_invokevirtual, x_invokestatic, x_invokedynamic, x_ireturn, x_freturn, x_dreturn, x_lreturn, x_areturn, x_return_, pI_c, pL_c, pR_c, pV_i, pV_r, gI_c, gL_c, gR_c, pN_z, pN_s, lget_c, lins_z, lins_c, ldel_z, ldel_c, ldel2_z, ldel2_c, lset_i, lset_l, lset_r, lkeep_z, lkeep_c, largs_z, largs_c, cat_i, cat_l, cat_r, lkp_c, cnd_eq, cnd_ne, cnd_lt, cnd_ge, cnd_gt, cnd_le, swL_z, swL_c, rE_e, rOr_s, rOr_n, rlk_z, rlk_c, aR_c, aI_c, aII_c, aIII_c, aRI_c, aRII_c, aRIII_c, vJn, vJs, vlc, aRR_c, aRRI_c, aRRII_c, aRRIII_c, aRIIII_c, aRL_c, aRLL_c, aLL_c, aRRRI_c, aIL_c, aIIII_c, aRRIIII_c, aIRII_c, aIR_c, aLI_c, aRIR_c, aRIIR_c, hM.1.o, z1, e2, i1, i1n, i1x, n2, ox, oy, oz]
          exact K
        · have hp : prB (nM σ) s i := ⟨⟨s0, s1⟩, ⟨by omega, by omega⟩, fun z => his z.symm⟩
          have hw : winA F (nM σ) (vA σ 176) s i = winV F (vA σ 176) s i := by unfold winA; rw [if_pos hp]
          have hMf := f.q.md hM8
          have hAf : ARow t σ' 176 := ⟨RowT.now hM.1, by rw [f.q.n, f.q.m, f.q.v]; exact hk8.2⟩
          have e1 : nM σ' = nM σ := by rw [f.q.n, nM_up (by omega)]
          have e3 : vA σ' 176 = vA σ 176 := by rw [f.q.v, vA_up (by omega)]
          rw [hw] at K
          refine wa (by decide) rgMw_ok ts_234 30 (fun N hN => ?_)
          simp [bs_234, hN _, x_iconst, x_ldc2_w, x_aconst_null, x_iload, x_lload, x_aload, x_istore, x_lstore, x_astore, x_iinc, x_iadd, x_isub, x_imul, x_idiv, x_irem, x_iand, x_ior, x_ixor, x_ishl, x_ishr, x_iushr, x_ineg, x_ladd, x_lsub, x_lmul, x_ldiv, x_lrem, x_lcmp, x_i2l, x_i2b, x_i2s, x_i2c, x_dup, x_pop, x_dup_x1, x_dup2, x_getfield, x_putfield, x_iaload, x_baload, x_saload, x_caload, x_daload, x_faload, x_laload, x_aaload, x_iastore, x_bastore, x_sastore, x_castore, x_lastore, x_aastore, x_arraylength, x_getstatic, x_goto, x_goto_w, x_ifCond, x_if_icmp, x_ifnull, x_ifnonnull, x_lookupswitch, x_invokevirtual, x_invokestatic, x_invokedynamic, x_ireturn, x_freturn, x_dreturn, x_lreturn, x_areturn, x_return_, pI_c, pL_c, pR_c, pV_i, pV_r, gI_c, gL_c, gR_c, pN_z, pN_s, lget_c, lins_z, lins_c, ldel_z, ldel_c, ldel2_z, ldel2_c, lset_i, lset_l, lset_r, lkeep_z, lkeep_c, largs_z, largs_c, cat_i, cat_l, cat_r, lkp_c, cnd_eq, cnd_ne, cnd_lt, cnd_ge, cnd_gt, cnd_le, swL_z, swL_c, rE_e, rOr_s, rOr_n, rlk_z, rlk_c, aR_c, aI_c, aII_c, aIII_c, aRI_c, aRII_c, aRIII_c, vJn, vJs, vlc, aRR_c, aRRI_c, aRRII_c, aRRIII_c, aRIIII_c, aRL_c, aRLL_c, aLL_c, aRRRI_c, aIL_c, aIIII_c, aRRIIII_c, aIRII_c, aIR_c, aLI_c, aRIR_c, aRIIR_c, hM.1.o, hM.1.f0, z1, e2, i1, i1n, i1x, his, mpWin, hMf, hAf, e1, e3, s0, s1]
          refine ⟨F, (hR.cg rs_8).cg f.q.rs, fun σ2 f2 => ?_⟩
          have K := K σ2 (f.tr f2)
          generalize winV F (vA σ 176) s i = W at K
          by_cases c1 : W = s
          · have c2 : ¬ W = (i : Int) := by omega
            have c3 : ¬ W = -3 := by omega
            rw [if_pos c1] at K
            simp [sg_234_45_1, bs_234, hN _, x_iconst, x_ldc2_w, x_aconst_null, x_iload, x_lload, x_aload, x_istore, x_lstore, x_astore, x_iinc, x_iadd, x_isub, x_imul, x_idiv, x_irem, x_iand, x_ior, x_ixor, x_ishl, x_ishr, x_iushr, x_ineg, x_ladd, x_lsub, x_lmul, x_ldiv, x_lrem, x_lcmp, x_i2l, x_i2b, x_i2s, x_i2c, x_dup, x_pop, x_dup_x1, x_dup2, x_getfield, x_putfield, x_iaload, x_baload, x_saload, x_caload, x_daload, x_faload, x_laload, x_aaload, x_iastore, x_bastore, x_sastore, x_castore, x_lastore, x_aastore, x_arraylength, x_getstatic, x_goto, x_goto_w, x_ifCond, x_if_icmp, x_ifnull, x_ifnonnull, x_lookupswitch, x_invokevirtual, x_invokestatic, x_invokedynamic, x_ireturn, x_freturn, x_dreturn, x_lreturn, x_areturn, x_return_, pI_c, pL_c, pR_c, pV_i, pV_r, gI_c, gL_c, gR_c, pN_z, pN_s, lget_c, lins_z, lins_c, ldel_z, ldel_c, ldel2_z, ldel2_c, lset_i, lset_l, lset_r, lkeep_z, lkeep_c, largs_z, largs_c, cat_i, cat_l, cat_r, lkp_c, cnd_eq, cnd_ne, cnd_lt, cnd_ge, cnd_gt, cnd_le, swL_z, swL_c, rE_e, rOr_s, rOr_n, rlk_z, rlk_c, aR_c, aI_c, aII_c, aIII_c, aRI_c, aRII_c, aRIII_c, vJn, vJs, vlc, aRR_c, aRRI_c, aRRII_c, aRRIII_c, aRIIII_c, aRL_c, aRLL_c, aLL_c, aRRRI_c, aIL_c, aIIII_c, aRRIIII_c, aIRII_c, aIR_c, aLI_c, aRIR_c, aRIIR_c, c1, c2, c3, ox, oy, oz, e2]
            have c4 : ¬ s = (i : Int) := by omega
            have c5 : ¬ s = -3 := by omega
            simp [c4, c5, oy, oz]
            exact K
          · by_cases c2 : W = (i : Int)
            · have c3 : ¬ W = -3 := by omega
              rw [if_neg c1, if_pos c2] at K
              have c4 : ¬ (i : Int) = s := by omega
              have c5 : ¬ (i : Int) = -3 := by omega
              subst c2
              simp [sg_234_45_1, bs_234, hN _, x_iconst, x_ldc2_w, x_aconst_null, x_iload, x_lload, x_aload, x_istore, x_lstore, x_astore, x_iinc, x_iadd, x_isub, x_imul, x_idiv, x_irem, x_iand, x_ior, x_ixor, x_ishl, x_ishr, x_iushr, x_ineg, x_ladd, x_lsub, x_lmul, x_ldiv, x_lrem, x_lcmp, x_i2l, x_i2b, x_i2s, x_i2c, x_dup, x_pop, x_dup_x1, x_dup2, x_getfield, x_putfield, x_iaload, x_baload, x_saload, x_caload, x_daload, x_faload, x_laload, x_aaload, x_iastore, x_bastore, x_sastore, x_castore, x_lastore, x_aastore, x_arraylength, x_getstatic, x_goto, x_goto_w, x_ifCond, x_if_icmp, x_ifnull, x_ifnonnull, x_lookupswitch, x_invokevirtual, x_invokestatic, x_invokedynamic, x_ireturn, x_freturn, x_dreturn, x_lreturn, x_areturn, x_return_, pI_c, pL_c, pR_c, pV_i, pV_r, gI_c, gL_c, gR_c, pN_z, pN_s, lget_c, lins_z, lins_c, ldel_z, ldel_c, ldel2_z, ldel2_c, lset_i, lset_l, lset_r, lkeep_z, lkeep_c, largs_z, largs_c, cat_i, cat_l, cat_r, lkp_c, cnd_eq, cnd_ne, cnd_lt, cnd_ge, cnd_gt, cnd_le, swL_z, swL_c, rE_e, rOr_s, rOr_n, rlk_z, rlk_c, aR_c, aI_c, aII_c, aIII_c, aRI_c, aRII_c, aRIII_c, vJn, vJs, vlc, aRR_c, aRRI_c, aRRII_c, aRRIII_c, aRIIII_c, aRL_c, aRLL_c, aLL_c, aRRRI_c, aIL_c, aIIII_c, aRRIIII_c, aIRII_c, aIR_c, aLI_c, aRIR_c, aRIIR_c, c1, c3, c4, c5, ox, oy, oz, e2]
              exact K
            · rw [if_neg c1, if_neg c2] at K
              by_cases c3 : W = -3
              · rw [if_pos c3] at K
                subst c3
                simp [sg_234_45_1, bs_234, hN _, x_iconst, x_ldc2_w, x_aconst_null, x_iload, x_lload, x_aload, x_istore, x_lstore, x_astore, x_iinc, x_iadd, x_isub, x_imul, x_idiv, x_irem, x_iand, x_ior, x_ixor, x_ishl, x_ishr, x_iushr, x_ineg, x_ladd, x_lsub, x_lmul, x_ldiv, x_lrem, x_lcmp, x_i2l, x_i2b, x_i2s, x_i2c, x_dup, x_pop, x_dup_x1, x_dup2, x_getfield, x_putfield, x_iaload, x_baload, x_saload, x_caload, x_daload, x_faload, x_laload, x_aaload, x_iastore, x_bastore, x_sastore, x_castore, x_lastore, x_aastore, x_arraylength, x_getstatic, x_goto, x_goto_w, x_ifCond, x_if_icmp, x_ifnull, x_ifnonnull, x_lookupswitch, x_invokevirtual, x_invokestatic, x_invokedynamic, x_ireturn, x_freturn, x_dreturn, x_lreturn, x_areturn, x_return_, pI_c, pL_c, pR_c, pV_i, pV_r, gI_c, gL_c, gR_c, pN_z, pN_s, lget_c, lins_z, lins_c, ldel_z, ldel_c, ldel2_z, ldel2_c, lset_i, lset_l, lset_r, lkeep_z, lkeep_c, largs_z, largs_c, cat_i, cat_l, cat_r, lkp_c, cnd_eq, cnd_ne, cnd_lt, cnd_ge, cnd_gt, cnd_le, swL_z, swL_c, rE_e, rOr_s, rOr_n, rlk_z, rlk_c, aR_c, aI_c, aII_c, aIII_c, aRI_c, aRII_c, aRIII_c, vJn, vJs, vlc, aRR_c, aRRI_c, aRRII_c, aRRIII_c, aRIIII_c, aRL_c, aRLL_c, aLL_c, aRRRI_c, aIL_c, aIIII_c, aRRIIII_c, aIRII_c, aIR_c, aLI_c, aRIR_c, aRIIR_c, c1, c2, ox, oy, oz, e2]
                exact K
              · rw [if_neg c3] at K
                simp [sg_234_45_1, bs_234, hN _, x_iconst, x_ldc2_w, x_aconst_null, x_iload, x_lload, x_aload, x_istore, x_lstore, x_astore, x_iinc, x_iadd, x_isub, x_imul, x_idiv, x_irem, x_iand, x_ior, x_ixor, x_ishl, x_ishr, x_iushr, x_ineg, x_ladd, x_lsub, x_lmul, x_ldiv, x_lrem, x_lcmp, x_i2l, x_i2b, x_i2s, x_i2c, x_dup, x_pop, x_dup_x1, x_dup2, x_getfield, x_putfield, x_iaload, x_baload, x_saload, x_caload, x_daload, x_faload, x_laload, x_aaload, x_iastore, x_bastore, x_sastore, x_castore, x_lastore, x_aastore, x_arraylength, x_getstatic, x_goto, x_goto_w, x_ifCond, x_if_icmp, x_ifnull, x_ifnonnull, x_lookupswitch, x_invokevirtual, x_invokestatic, x_invokedynamic, x_ireturn, x_freturn, x_dreturn, x_lreturn, x_areturn, x_return_, pI_c, pL_c, pR_c, pV_i, pV_r, gI_c, gL_c, gR_c, pN_z, pN_s, lget_c, lins_z, lins_c, ldel_z, ldel_c, ldel2_z, ldel2_c, lset_i, lset_l, lset_r, lkeep_z, lkeep_c, largs_z, largs_c, cat_i, cat_l, cat_r, lkp_c, cnd_eq, cnd_ne, cnd_lt, cnd_ge, cnd_gt, cnd_le, swL_z, swL_c, rE_e, rOr_s, rOr_n, rlk_z, rlk_c, aR_c, aI_c, aII_c, aIII_c, aRI_c, aRII_c, aRIII_c, vJn, vJs, vlc, aRR_c, aRRI_c, aRRII_c, aRRIII_c, aRIIII_c, aRL_c, aRLL_c, aLL_c, aRRRI_c, aIL_c, aIIII_c, aRRIIII_c, aIRII_c, aIR_c, aLI_c, aRIR_c, aRIIR_c, c1, c2, c3, ox, oy, oz, e2]
                exact K
    rw [hS0] at K
    have K := K (up σ 175 8 0) FoF.rf
    refine wg (by decide) rgMw_ok tk_234 py_234 ml_234 30 (by simp [catT]) (fun N hN => ?_)
    simp [bl_234, hN _, x_iconst, x_ldc2_w, x_aconst_null, x_iload, x_lload, x_aload, x_istore, x_lstore, x_astore, x_iinc, x_iadd, x_isub, x_imul, x_idiv, x_irem, x_iand, x_ior, x_ixor, x_ishl, x_ishr, x_iushr, x_ineg, x_ladd, x_lsub, x_lmul, x_ldiv, x_lrem, x_lcmp, x_i2l, x_i2b, x_i2s, x_i2c, x_dup, x_pop, x_dup_x1, x_dup2, x_getfield, x_putfield, x_iaload, x_baload, x_saload, x_caload, x_daload, x_faload, x_laload, x_aaload, x_iastore, x_bastore, x_sastore, x_castore, x_lastore, x_aastore, x_arraylength, x_getstatic, x_goto, x_goto_w, x_ifCond, x_if_icmp, x_ifnull, x_ifnonnull, x_lookupswitch, x_invokevirtual, x_invokestatic, x_invokedynamic, x_ireturn, x_freturn, x_dreturn, x_lreturn, x_areturn, x_return_, pI_c, pL_c, pR_c, pV_i, pV_r, gI_c, gL_c, gR_c, pN_z, pN_s, lget_c, lins_z, lins_c, ldel_z, ldel_c, ldel2_z, ldel2_c, lset_i, lset_l, lset_r, lkeep_z, lkeep_c, largs_z, largs_c, cat_i, cat_l, cat_r, lkp_c, cnd_eq, cnd_ne, cnd_lt, cnd_ge, cnd_gt, cnd_le, swL_z, swL_c, rE_e, rOr_s, rOr_n, rlk_z, rlk_c, aR_c, aI_c, aII_c, aIII_c, aRI_c, aRII_c, aRIII_c, vJn, vJs, vlc, aRR_c, aRRI_c, aRRII_c, aRRIII_c, aRIIII_c, aRL_c, aRLL_c, aLL_c, aRRRI_c, aIL_c, aIIII_c, aRRIIII_c, aIRII_c, aIR_c, aLI_c, aRIR_c, aRIIR_c, hM.1.o, mpShip, hM8, nM_up, s0, s1, Int.not_le.mpr s1, Int.not_lt.mpr s0]
    exact K
  · rw [if_neg hs] at h
    have h := h _ QTM.rf
    refine wg (by decide) rgMw_ok tk_234 py_234 ml_234 30 (by simp [catT]) (fun N hN => ?_)
    simp [bl_234, hN _, x_iconst, x_ldc2_w, x_aconst_null, x_iload, x_lload, x_aload, x_istore, x_lstore, x_astore, x_iinc, x_iadd, x_isub, x_imul, x_idiv, x_irem, x_iand, x_ior, x_ixor, x_ishl, x_ishr, x_iushr, x_ineg, x_ladd, x_lsub, x_lmul, x_ldiv, x_lrem, x_lcmp, x_i2l, x_i2b, x_i2s, x_i2c, x_dup, x_pop, x_dup_x1, x_dup2, x_getfield, x_putfield, x_iaload, x_baload, x_saload, x_caload, x_daload, x_faload, x_laload, x_aaload, x_iastore, x_bastore, x_sastore, x_castore, x_lastore, x_aastore, x_arraylength, x_getstatic, x_goto, x_goto_w, x_ifCond, x_if_icmp, x_ifnull, x_ifnonnull, x_lookupswitch, x_invokevirtual, x_invokestatic, x_invokedynamic, x_ireturn, x_freturn, x_dreturn, x_lreturn, x_areturn, x_return_, pI_c, pL_c, pR_c, pV_i, pV_r, gI_c, gL_c, gR_c, pN_z, pN_s, lget_c, lins_z, lins_c, ldel_z, ldel_c, ldel2_z, ldel2_c, lset_i, lset_l, lset_r, lkeep_z, lkeep_c, largs_z, largs_c, cat_i, cat_l, cat_r, lkp_c, cnd_eq, cnd_ne, cnd_lt, cnd_ge, cnd_gt, cnd_le, swL_z, swL_c, rE_e, rOr_s, rOr_n, rlk_z, rlk_c, aR_c, aI_c, aII_c, aIII_c, aRI_c, aRII_c, aRIII_c, vJn, vJs, vlc, aRR_c, aRRI_c, aRRII_c, aRRIII_c, aRIIII_c, aRL_c, aRLL_c, aLL_c, aRRRI_c, aIL_c, aIIII_c, aRRIIII_c, aIRII_c, aIR_c, aLI_c, aRIR_c, aRIIR_c, hM.1.o, mpShip, hM8, nM_up]
    grind
