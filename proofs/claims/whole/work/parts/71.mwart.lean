/-! the reference: war -/
abbrev rgWm : Reg := (221, mpRA) :: (222, mpAct) :: (180, mpBeT) :: (188, mpWas) :: (182, mpFine) :: rgMw
theorem rgWm_ok {l : Launch} {g : GE} {d : Nat} : ∀ e as t σ Q, rE l g (d + 93) rgWm e as t σ Q → WPc l g e (d + 93) 0 0 as t σ Q := rE_cons (fun _ _ _ _ h => m_readAct (d := d + 87) h) (rE_cons (fun _ _ _ _ h => m_act h) (rE_cons (fun _ _ _ _ h => m_beginText (d := d + 91) h) (rE_cons (fun _ _ _ _ h => m_wasRight (d := d + 90) h) (rE_cons (fun _ _ _ _ h => m_fine (d := d + 92) h) (rgMw_ok (d := d + 1))))))
set_option maxHeartbeats 2000000 in
/-- the acts are read -/
theorem m_warRead {l : Launch} {g : GE} {d : Nat} {t : Tau} {σ : Mem} {Q : Post} {σ1 : Mem} {T : Int → Int} {len : Nat} (hX : PaX t σ1 T (min len 60) len)
    (hbad : ∀ σ', PwF σ1 σ' 0 → fltW T len ≠ -1 → Q (some (vI (-1 - fltW T len))) t σ')
    (hok : ∀ σ' n, PwF σ1 σ' 0 → fltW T len = -1 → psn T n = len → (∀ k, k < n → actOk T (psn T k) ∧ AcIs σ' k T (psn T k)) → ∀ σ2, (∀ o, o ≠ 185 → σ2 o = σ' o) → vA σ2 185 = vA σ' 176 → Wp l g 220 (d + 94) 0 0 72 [(0, vR 175), (1, vI n), (2, vI (0 : Nat))] [] t σ2 Q)
    : ∀ (r n : Nat) (σ' : Mem), psn T n + r = min len 60 → WrI T (psn T n) → PwF σ1 σ' 0 → σ' 175 13 = -1 → σ' 175 12 = (psn T n : Nat) → (∀ k, k < n → actOk T (psn T k) ∧ AcIs σ' k T (psn T k)) → Wp l g 220 (d + 94) 0 0 13 [(0, vR 175), (1, vI n)] [] t σ' Q := by
  have hM := hX.1
  have oM := hM.o
  have l80 := hX.2.2.2.1
  -- it was wrong at w
  have X1 : ∀ (σ' : Mem) (m : Int) (w p : Nat), PwF σ1 σ' 0 → σ' 175 13 = w → σ' 175 12 = p → p ≤ min len 60 → fltW T len = w → Wp l g 220 (d + 94) 0 0 13 [(0, vR 175), (1, vI m)] [] t σ' Q := by
    intro σ' m w p f hw hp hpl hf
    obtain ⟨hP, hB, -⟩ := (f.c hX).ps hp hpl
    have n1 : ¬ σ' 175 13 = -1 := by omega
    have hwr : wrM σ' = σ' := by unfold wrM; rw [if_neg (fun z => n1 z.2)]
    have fb := fltW_b (T := T) (len := len)
    have w1 : w32 (-1 - (w : Int)) = -1 - w := w32_id (by omega) (by omega)
    have K := hbad σ' f (by omega)
    rw [hf] at K
    have nw : ¬ (w : Int) = -1 := by omega
    refine wa (by decide) rgWm_ok ts_220 30 (fun N hN => ?_)
    simp [bs_220, sg_220_44_1, hN _, x_iconst, x_ldc2_w, x_aconst_null, x_iload, x_lload, x_aload, x_istore, x_lstore, x_astore, x_iinc, x_iadd, x_isub, x_imul, x_idiv, x_irem, x_iand, x_ior, x_ixor, x_ishl, x_ishr, x_iushr, x_ineg, x_ladd, x_lsub, x_lmul, x_ldiv, x_lrem, x_lcmp, x_i2l, x_i2b, x_i2s, x_i2c, x_dup, x_pop, x_dup_x1, x_dup2, x_getfield, x_putfield, x_iaload, x_baload, x_saload, x_caload, x_daload, x_faload, x_laload, x_aaload, x_iastore, x_bastore, x_sastore, x_castore, x_lastore, x_aastore, x_arraylength, x_getstatic, x_goto, x_goto_w, x_ifCond, x_if_icmp, x_ifnull, x_ifnonnull, x_lookupswitch, x_invokevirtual, x_invokestatic, x_invokedynamic, x_ireturn, x_freturn, x_dreturn, x_lreturn, x_areturn, x_return_, pI_c, pL_c, pR_c, pV_i, pV_r, gI_c, gL_c, gR_c, pN_z, pN_s, lget_c, lins_z, lins_c, ldel_z, ldel_c, ldel2_z, ldel2_c, lset_i, lset_l, lset_r, lkeep_z, lkeep_c, largs_z, largs_c, cat_i, cat_l, cat_r, lkp_c, cnd_eq, cnd_ne, cnd_lt, cnd_ge, cnd_gt, cnd_le, swL_z, swL_c, rE_e, rOr_s, rOr_n, rlk_z, rlk_c, aR_c, aI_c, aII_c, aIII_c, aRI_c, aRII_c, aRIII_c, vJn, vJs, vlc, aRR_c, aRRI_c, aRRII_c, aRRIII_c, aRIIII_c, aRL_c, aRLL_c, aLL_c, aRRRI_c, aIL_c, aIIII_c, aRRIIII_c, aIRII_c, aIR_c, aLI_c, aRIR_c, aRIIR_c, oM, hM, mpFine, mpWas, hP, hwr, hw, nw, w1]
    exact K
  intro r
  induction r using Nat.strongRecOn with
  | ind r ih =>
    intro n σ' hr hI f hw hp hc
    obtain ⟨hP, hB, -⟩ := (f.c hX).ps hp (by omega)
    have e10 : σ' 175 10 = len := (f.c hX).2.2.1
    have p2 := psn_2 (T := T) n
    by_cases hl : psn T n < len
    · have hl' : ¬ (len : Int) ≤ (psn T n : Nat) := by omega
      have w4 : w32 (4 * (n : Int)) = ((4 * n : Nat) : Int) := by rw [w32_id (by omega) (by omega)]; omega
      have e2 := w32_succ (k := n) (by omega)
      have hL := lnA_b (T (psn T n))
      refine wa (by decide) rgWm_ok ts_220 30 (fun N hN => ?_)
      simp [bs_220, hN _, x_iconst, x_ldc2_w, x_aconst_null, x_iload, x_lload, x_aload, x_istore, x_lstore, x_astore, x_iinc, x_iadd, x_isub, x_imul, x_idiv, x_irem, x_iand, x_ior, x_ixor, x_ishl, x_ishr, x_iushr, x_ineg, x_ladd, x_lsub, x_lmul, x_ldiv, x_lrem, x_lcmp, x_i2l, x_i2b, x_i2s, x_i2c, x_dup, x_pop, x_dup_x1, x_dup2, x_getfield, x_putfield, x_iaload, x_baload, x_saload, x_caload, x_daload, x_faload, x_laload, x_aaload, x_iastore, x_bastore, x_sastore, x_castore, x_lastore, x_aastore, x_arraylength, x_getstatic, x_goto, x_goto_w, x_ifCond, x_if_icmp, x_ifnull, x_ifnonnull, x_lookupswitch, x_invokevirtual, x_invokestatic, x_invokedynamic, x_ireturn, x_freturn, x_dreturn, x_lreturn, x_areturn, x_return_, pI_c, pL_c, pR_c, pV_i, pV_r, gI_c, gL_c, gR_c, pN_z, pN_s, lget_c, lins_z, lins_c, ldel_z, ldel_c, ldel2_z, ldel2_c, lset_i, lset_l, lset_r, lkeep_z, lkeep_c, largs_z, largs_c, cat_i, cat_l, cat_r, lkp_c, cnd_eq, cnd_ne, cnd_lt, cnd_ge, cnd_gt, cnd_le, swL_z, swL_c, rE_e, rOr_s, rOr_n, rlk_z, rlk_c, aR_c, aI_c, aII_c, aIII_c, aRI_c, aRII_c, aRIII_c, vJn, vJs, vlc, aRR_c, aRRI_c, aRRII_c, aRRIII_c, aRIIII_c, aRL_c, aRLL_c, aLL_c, aRRRI_c, aIL_c, aIIII_c, aRRIIII_c, aIRII_c, aIR_c, aLI_c, aRIR_c, aRIIR_c, oM, hM, mpFine, hw, hp, e10, w4]
      refine ⟨fun z => by omega, fun _ => ⟨rfl, T, min len 60, len, psn T n, n, by omega, by omega, f.c hX, hp, by omega, hw, fun σ2 f2 hh => ?_⟩⟩
      have f12 : PwF σ1 σ2 0 := f.tr f2 (by omega)
      have hkeep : ∀ k, k < n → AcIs σ2 k T (psn T k) := fun k hk => by
        obtain ⟨q0, q1, q2, q3, q4⟩ := (hc k hk).2
        refine ⟨by rw [f2.2.2 _ (by omega)]; exact q0, by rw [f2.2.2 _ (by omega)]; exact q1, fun z => by rw [f2.2.2 _ (by omega)]; exact q2 z, fun z => by rw [f2.2.2 _ (by omega)]; exact q3 z, fun z => by rw [f2.2.2 _ (by omega)]; exact q4 z⟩
      rcases hh with ⟨⟨s1, s2, s3, s4⟩, s5⟩ | ⟨j, b1, b2, b3, b4, b5, b6⟩
      · have hA : actOk T (psn T n) := s4.2
        have K := ih (r - lnA (T (psn T n))) (by have := s4.1; omega) (n + 1) σ2 (by show psn T n + lnA (T (psn T n)) + _ = _; have := s4.1; omega) (hI.s hA) f12 s2 s3 (fun k hk => by
          by_cases hz : k = n
          · subst hz; exact ⟨hA, s5⟩
          · exact ⟨(hc k (by omega)).1, hkeep k (by omega)⟩)
        simp [sg_220_13_1, hN _, x_iconst, x_ldc2_w, x_aconst_null, x_iload, x_lload, x_aload, x_istore, x_lstore, x_astore, x_iinc, x_iadd, x_isub, x_imul, x_idiv, x_irem, x_iand, x_ior, x_ixor, x_ishl, x_ishr, x_iushr, x_ineg, x_ladd, x_lsub, x_lmul, x_ldiv, x_lrem, x_lcmp, x_i2l, x_i2b, x_i2s, x_i2c, x_dup, x_pop, x_dup_x1, x_dup2, x_getfield, x_putfield, x_iaload, x_baload, x_saload, x_caload, x_daload, x_faload, x_laload, x_aaload, x_iastore, x_bastore, x_sastore, x_castore, x_lastore, x_aastore, x_arraylength, x_getstatic, x_goto, x_goto_w, x_ifCond, x_if_icmp, x_ifnull, x_ifnonnull, x_lookupswitch, x_invokevirtual, x_invokestatic, x_invokedynamic, x_ireturn, x_freturn, x_dreturn, x_lreturn, x_areturn, x_return_, pI_c, pL_c, pR_c, pV_i, pV_r, gI_c, gL_c, gR_c, pN_z, pN_s, lget_c, lins_z, lins_c, ldel_z, ldel_c, ldel2_z, ldel2_c, lset_i, lset_l, lset_r, lkeep_z, lkeep_c, largs_z, largs_c, cat_i, cat_l, cat_r, lkp_c, cnd_eq, cnd_ne, cnd_lt, cnd_ge, cnd_gt, cnd_le, swL_z, swL_c, rE_e, rOr_s, rOr_n, rlk_z, rlk_c, aR_c, aI_c, aII_c, aIII_c, aRI_c, aRII_c, aRIII_c, vJn, vJs, vlc, aRR_c, aRRI_c, aRRII_c, aRRIII_c, aRIIII_c, aRL_c, aRLL_c, aLL_c, aRRRI_c, aIL_c, aIIII_c, aRRIIII_c, aIRII_c, aIR_c, aLI_c, aRIR_c, aRIIR_c, e2]
        exact K
      · have hf := fltW_bad hI hl b5 b4 b6
        have K := X1 σ2 ((n + 1 : Nat) : Int) (psn T n + j) (psn T n + j) f12 b2 b3 b4.1 hf
        simp [sg_220_13_1, hN _, x_iconst, x_ldc2_w, x_aconst_null, x_iload, x_lload, x_aload, x_istore, x_lstore, x_astore, x_iinc, x_iadd, x_isub, x_imul, x_idiv, x_irem, x_iand, x_ior, x_ixor, x_ishl, x_ishr, x_iushr, x_ineg, x_ladd, x_lsub, x_lmul, x_ldiv, x_lrem, x_lcmp, x_i2l, x_i2b, x_i2s, x_i2c, x_dup, x_pop, x_dup_x1, x_dup2, x_getfield, x_putfield, x_iaload, x_baload, x_saload, x_caload, x_daload, x_faload, x_laload, x_aaload, x_iastore, x_bastore, x_sastore, x_castore, x_lastore, x_aastore, x_arraylength, x_getstatic, x_goto, x_goto_w, x_ifCond, x_if_icmp, x_ifnull, x_ifnonnull, x_lookupswitch, x_invokevirtual, x_invokestatic, x_invokedynamic, x_ireturn, x_freturn, x_dreturn, x_lreturn, x_areturn, x_return_, pI_c, pL_c, pR_c, pV_i, pV_r, gI_c, gL_c, gR_c, pN_z, pN_s, lget_c, lins_z, lins_c, ldel_z, ldel_c, ldel2_z, ldel2_c, lset_i, lset_l, lset_r, lkeep_z, lkeep_c, largs_z, largs_c, cat_i, cat_l, cat_r, lkp_c, cnd_eq, cnd_ne, cnd_lt, cnd_ge, cnd_gt, cnd_le, swL_z, swL_c, rE_e, rOr_s, rOr_n, rlk_z, rlk_c, aR_c, aI_c, aII_c, aIII_c, aRI_c, aRII_c, aRIII_c, vJn, vJs, vlc, aRR_c, aRRI_c, aRRII_c, aRRIII_c, aRIIII_c, aRL_c, aRLL_c, aLL_c, aRRRI_c, aIL_c, aIIII_c, aRRIIII_c, aIRII_c, aIR_c, aLI_c, aRIR_c, aRIIR_c, e2]
        exact K
    · have hlen : psn T n = len := by omega
      have hl60 : len ≤ 60 := by omega
      have hwr : wrM σ' = σ' := by unfold wrM; rw [if_neg (fun z => by have := z.1; rw [hp, e10] at this; omega)]
      have K := hok σ' n f (fltW_fin (by rw [← hlen]; exact hI) hl60) hlen hc
      have hl' : (len : Int) ≤ (psn T n : Nat) := by omega
      refine wa (by decide) rgWm_ok ts_220 30 (fun N hN => ?_)
      simp [bs_220, sg_220_44_1, hN _, x_iconst, x_ldc2_w, x_aconst_null, x_iload, x_lload, x_aload, x_istore, x_lstore, x_astore, x_iinc, x_iadd, x_isub, x_imul, x_idiv, x_irem, x_iand, x_ior, x_ixor, x_ishl, x_ishr, x_iushr, x_ineg, x_ladd, x_lsub, x_lmul, x_ldiv, x_lrem, x_lcmp, x_i2l, x_i2b, x_i2s, x_i2c, x_dup, x_pop, x_dup_x1, x_dup2, x_getfield, x_putfield, x_iaload, x_baload, x_saload, x_caload, x_daload, x_faload, x_laload, x_aaload, x_iastore, x_bastore, x_sastore, x_castore, x_lastore, x_aastore, x_arraylength, x_getstatic, x_goto, x_goto_w, x_ifCond, x_if_icmp, x_ifnull, x_ifnonnull, x_lookupswitch, x_invokevirtual, x_invokestatic, x_invokedynamic, x_ireturn, x_freturn, x_dreturn, x_lreturn, x_areturn, x_return_, pI_c, pL_c, pR_c, pV_i, pV_r, gI_c, gL_c, gR_c, pN_z, pN_s, lget_c, lins_z, lins_c, ldel_z, ldel_c, ldel2_z, ldel2_c, lset_i, lset_l, lset_r, lkeep_z, lkeep_c, largs_z, largs_c, cat_i, cat_l, cat_r, lkp_c, cnd_eq, cnd_ne, cnd_lt, cnd_ge, cnd_gt, cnd_le, swL_z, swL_c, rE_e, rOr_s, rOr_n, rlk_z, rlk_c, aR_c, aI_c, aII_c, aIII_c, aRI_c, aRII_c, aRIII_c, vJn, vJs, vlc, aRR_c, aRRI_c, aRRII_c, aRRIII_c, aRIIII_c, aRL_c, aRLL_c, aLL_c, aRRRI_c, aIL_c, aIIII_c, aRRIIII_c, aIRII_c, aIR_c, aLI_c, aRIR_c, aRIIR_c, oM, hM, mpFine, hw, hp, e10, hlen, mpWas, hP, hwr, hM.f0, hM.f22, mpLay, RowT.now hM, hM.t185, hM.l185]
      intro σ2 y1 y2
      have K := K σ2 y1 (lay_v (f := 176) (fun j => by rw [y2 j]; simp))
      simp [sg_220_58_1, hN _, x_iconst, x_ldc2_w, x_aconst_null, x_iload, x_lload, x_aload, x_istore, x_lstore, x_astore, x_iinc, x_iadd, x_isub, x_imul, x_idiv, x_irem, x_iand, x_ior, x_ixor, x_ishl, x_ishr, x_iushr, x_ineg, x_ladd, x_lsub, x_lmul, x_ldiv, x_lrem, x_lcmp, x_i2l, x_i2b, x_i2s, x_i2c, x_dup, x_pop, x_dup_x1, x_dup2, x_getfield, x_putfield, x_iaload, x_baload, x_saload, x_caload, x_daload, x_faload, x_laload, x_aaload, x_iastore, x_bastore, x_sastore, x_castore, x_lastore, x_aastore, x_arraylength, x_getstatic, x_goto, x_goto_w, x_ifCond, x_if_icmp, x_ifnull, x_ifnonnull, x_lookupswitch, x_invokevirtual, x_invokestatic, x_invokedynamic, x_ireturn, x_freturn, x_dreturn, x_lreturn, x_areturn, x_return_, pI_c, pL_c, pR_c, pV_i, pV_r, gI_c, gL_c, gR_c, pN_z, pN_s, lget_c, lins_z, lins_c, ldel_z, ldel_c, ldel2_z, ldel2_c, lset_i, lset_l, lset_r, lkeep_z, lkeep_c, largs_z, largs_c, cat_i, cat_l, cat_r, lkp_c, cnd_eq, cnd_ne, cnd_lt, cnd_ge, cnd_gt, cnd_le, swL_z, swL_c, rE_e, rOr_s, rOr_n, rlk_z, rlk_c, aR_c, aI_c, aII_c, aIII_c, aRI_c, aRII_c, aRIII_c, vJn, vJs, vlc, aRR_c, aRRI_c, aRRII_c, aRRIII_c, aRIIII_c, aRL_c, aRLL_c, aLL_c, aRRRI_c, aIL_c, aIIII_c, aRRIIII_c, aIRII_c, aIR_c, aLI_c, aRIR_c, aRIIR_c]
      exact K
