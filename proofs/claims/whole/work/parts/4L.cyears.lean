/-! StruckColours: years -/
noncomputable def nxR (R : Int) : Int := w32 (w32 (R * 1103515245) + 12345)
noncomputable def drw (R n : Int) : Int := w32 ((iushr (nxR R) 16).tmod n)
def fpDraws : Sp := fun as t σ Q => aRI as fun a n => a = 0 ∧ TC t ∧ 0 < n ∧ Q (some (vI (drw (σ 0 16) n))) t (up σ 0 16 (nxR (σ 0 16)))
theorem f_draws {l : Launch} {g : GE} {d : Nat} {t : Tau} {σ : Mem} {Q : Post} {as : List TV} (h0 : fpDraws as t σ Q) : WPc l g 152 (d + 1) 0 0 as t σ Q := by
  obtain ⟨a, n, rfl, rfl, hC, hn, h⟩ := aRI_e h0
  clear h0
  unfold drw nxR at h
  refine wg (by decide) rE_nil tk_152 py_152 ml_152 30 (by simp [catT]) (fun N hN => ?_)
  simp [bl_152, hN _, x_iconst, x_ldc2_w, x_aconst_null, x_iload, x_lload, x_aload, x_istore, x_lstore, x_astore, x_iinc, x_iadd, x_isub, x_imul, x_idiv, x_irem, x_iand, x_ior, x_ixor, x_ishl, x_ishr, x_iushr, x_ineg, x_ladd, x_lsub, x_lmul, x_ldiv, x_lrem, x_lcmp, x_i2l, x_i2b, x_i2s, x_i2c, x_dup, x_pop, x_dup_x1, x_dup2, x_getfield, x_putfield, x_iaload, x_baload, x_saload, x_caload, x_daload, x_faload, x_laload, x_aaload, x_iastore, x_bastore, x_sastore, x_castore, x_lastore, x_aastore, x_arraylength, x_getstatic, x_goto, x_goto_w, x_ifCond, x_if_icmp, x_ifnull, x_ifnonnull, x_lookupswitch, x_invokevirtual, x_invokestatic, x_invokedynamic, x_ireturn, x_freturn, x_dreturn, x_lreturn, x_areturn, x_return_, pI_c, pL_c, pR_c, pV_i, pV_r, gI_c, gL_c, gR_c, pN_z, pN_s, lget_c, lins_z, lins_c, ldel_z, ldel_c, ldel2_z, ldel2_c, lset_i, lset_l, lset_r, lkeep_z, lkeep_c, largs_z, largs_c, cat_i, cat_l, cat_r, lkp_c, cnd_eq, cnd_ne, cnd_lt, cnd_ge, cnd_gt, cnd_le, swL_z, swL_c, rE_e, rOr_s, rOr_n, rlk_z, rlk_c, aR_c, aI_c, aII_c, aIII_c, aRI_c, aRII_c, aRIII_c, vJn, vJs, vlc, aRR_c, aRRI_c, aRRII_c, aRRIII_c, aRIIII_c, aRL_c, aRLL_c, aLL_c, aRRRI_c, aIL_c, aIIII_c, aRRIIII_c, aIRII_c, aIR_c, aLI_c, aRIR_c, aRIIR_c, hC.o0, hC.f0_0, hC.f0_1, hC.f0_2, hC.f0_3, hC.f0_4, hC.f0_5, hC.f0_6, hC.f0_7, hC.f0_8, hC.f0_9, hC.f0_10, hC.f0_11, hC.o1, hC.f1, hC.t2, hC.l2, hC.o3, hC.f3, hC.t4, hC.l4, hC.s5, hC.s12, hC.s19, hC.s112, hC.s119, hC.o26, hC.f26, hC.t27, hC.l27, hC.s28, hC.o126, hC.f126_0, hC.f126_1, hC.t127, hC.l127, hC.t128, hC.l128, hC.s129, hC.n157, hC.n161, hC.o165, hC.f165, hC.t166, hC.l166, hC.r167, hC.r171, hC.q5, hC.q12, hC.q19, hC.q112, hC.q119, hC.a2, hC.a4, hC.a27, hC.a127, hC.a128, hC, up_ap, Int.not_le.mpr hn, hn]
  exact ⟨by omega, h⟩
noncomputable def yearV (F : (Int → Int) → Int) (n : Nat) (M : Int → Int) (k : Int) (s : Int × (Int → Int)) : Int × (Int → Int) :=
  if drw s.1 4 = 0 then (nxR s.1, dayV n M s.2)
  else if n = 0 then (nxR s.1, s.2)
  else if drw s.1 4 = 3 then (nxR (nxR (nxR s.1)), sewN n s.2 (drw (nxR s.1) n) (drw (nxR (nxR s.1)) 4) 1)
  else (nxR (nxR (nxR s.1)), fgtV F n k s.2 (drw (nxR s.1) n) (drw (nxR (nxR s.1)) n))
/-- the trial sea is W, R was drawn last -/
def YrTo (t : Tau) (σ σ' : Mem) (s : Int × (Int → Int)) : Prop := TrTo t (up σ 0 16 s.1) σ' s.2
theorem YrTo.dr {t : Tau} {σ σ' : Mem} {R R' : Int} {W : Int → Int} (h : YrTo t σ σ' (R, W)) : YrTo t σ (up σ' 0 16 R') (R', W) := by
  obtain ⟨a1, a2, a3, a4, a5, a6⟩ := h
  have e0 : σ' 0 = up σ 0 16 R 0 := a1 0 (by unfold scr; omega)
  refine ⟨fun o ho => ?_, ⟨by rw [up_ne (by omega), up_ne (by omega), a2.1, up_ne (by omega)], by rw [up_ne (by omega), up_ne (by omega), a2.2, up_ne (by omega)]⟩, by rw [ok_up (by omega)]; exact a3, by rw [nS_up (by omega), a4, nS_up (by omega), nS_up (by omega)], by rw [mS_up (by omega), a5, mS_up (by omega), mS_up (by omega)], by rw [vw_up (by omega)]; exact a6⟩
  by_cases h0 : o = 0
  · subst h0
    show up σ' 0 16 R' 0 = up σ 0 16 R' 0
    funext j
    simp only [up_ap, e0]
    split <;> simp_all
  · show up σ' 0 16 R' o = up σ 0 16 R' o
    rw [up_ne h0, up_ne h0, a1 o ho]
    exact up_ne h0
theorem YrTo.rc {t : Tau} {σ σ' : Mem} {s : Int × (Int → Int)} {F : (Int → Int) → Int} (h : YrTo t σ σ' s) (k : RC t σ F) : σ' 0 12 = σ 0 12 ∧ σ' 0 14 = σ 0 14 ∧ σ' 0 16 = s.1 ∧ RuleIs t σ' (σ 0 12) F ∧ (19 : Int) + 6 < σ 0 12 := by
  have e0 : σ' 0 = up σ 0 16 s.1 0 := h.1 0 (by unfold scr; omega)
  obtain ⟨k1, k2, k3⟩ := k
  refine ⟨by rw [e0]; simp [up_ap], by rw [e0]; simp [up_ap], by rw [e0]; simp [up_ap], k2.cg ?_ ?_, by rcases k1 with e | e <;> rw [e] <;> omega⟩
  · rw [h.1 _ (by rcases k1 with e | e <;> rw [e] <;> unfold scr <;> omega), up_ne (by rcases k1 with e | e <;> rw [e] <;> omega)]
  · rw [h.1 _ (by rcases k1 with e | e <;> rw [e] <;> unfold scr <;> omega), up_ne (by rcases k1 with e | e <;> rw [e] <;> omega)]
abbrev rgY : Reg := (152, fpDraws) :: rgC
theorem rgY_ok {l : Launch} {g : GE} {d : Nat} : ∀ e as t σ Q, rE l g (d + 6) rgY e as t σ Q → WPc l g e (d + 6) 0 0 as t σ Q := rE_cons (fun _ _ _ _ h => f_draws h) rgC_ok
def fpYear : Sp := fun as t σ Q => aR as fun a => a = 0 ∧ TC t ∧ ∃ σ0 F s, RC t σ0 F ∧ YrTo t σ0 σ s ∧ ∀ σ', YrTo t σ0 σ' (yearV F (nS σ0 5) (mS σ0 5) (σ0 0 14) s) → Q none t σ'
set_option maxHeartbeats 1000000 in
theorem f_year {l : Launch} {g : GE} {d : Nat} {t : Tau} {σ : Mem} {Q : Post} {as : List TV} (h0 : fpYear as t σ Q) : WPc l g 151 (d + 7) 0 0 as t σ Q := by
  obtain ⟨a, rfl, rfl, hC, σ0, F, ⟨R, W⟩, hR, hY, h⟩ := aR_e h0
  clear h0
  obtain ⟨c1, c2, c3, c4, c5⟩ := hY.rc hR
  simp only at c3
  have Y0 := hY
  obtain ⟨t1, t2, t3, t4, t5, t6⟩ := hY
  rw [nS_up (by omega)] at t4
  rw [mS_up (by omega)] at t5
  simp only at t6
  have z0 := t3.2.1
  rw [t4] at z0
  have Y1 := Y0.dr (R' := nxR R)
  have d1 : drw R 4 = drw R 4 := rfl
  have Y2 := Y1.dr (R' := nxR (nxR R))
  have Y3 := Y2.dr (R' := nxR (nxR (nxR R)))
  unfold yearV at h
  simp only at h
  by_cases h4 : drw R 4 = 0
  · rw [if_pos h4] at h
    refine wg (by decide) rgY_ok ts_151 py_151 ml_151 30 (by simp [catT]) (fun N hN => ?_)
    simp [bs_151, sg_151_0_2, sg_151_0_1, sg_151_21_3, sg_151_21_2, sg_151_21_1, sg_151_66_2, sg_151_66_1, hN _, x_iconst, x_ldc2_w, x_aconst_null, x_iload, x_lload, x_aload, x_istore, x_lstore, x_astore, x_iinc, x_iadd, x_isub, x_imul, x_idiv, x_irem, x_iand, x_ior, x_ixor, x_ishl, x_ishr, x_iushr, x_ineg, x_ladd, x_lsub, x_lmul, x_ldiv, x_lrem, x_lcmp, x_i2l, x_i2b, x_i2s, x_i2c, x_dup, x_pop, x_dup_x1, x_dup2, x_getfield, x_putfield, x_iaload, x_baload, x_saload, x_caload, x_daload, x_faload, x_laload, x_aaload, x_iastore, x_bastore, x_sastore, x_castore, x_lastore, x_aastore, x_arraylength, x_getstatic, x_goto, x_goto_w, x_ifCond, x_if_icmp, x_ifnull, x_ifnonnull, x_lookupswitch, x_invokevirtual, x_invokestatic, x_invokedynamic, x_ireturn, x_freturn, x_dreturn, x_lreturn, x_areturn, x_return_, pI_c, pL_c, pR_c, pV_i, pV_r, gI_c, gL_c, gR_c, pN_z, pN_s, lget_c, lins_z, lins_c, ldel_z, ldel_c, ldel2_z, ldel2_c, lset_i, lset_l, lset_r, lkeep_z, lkeep_c, largs_z, largs_c, cat_i, cat_l, cat_r, lkp_c, cnd_eq, cnd_ne, cnd_lt, cnd_ge, cnd_gt, cnd_le, swL_z, swL_c, rE_e, rOr_s, rOr_n, rlk_z, rlk_c, aR_c, aI_c, aII_c, aIII_c, aRI_c, aRII_c, aRIII_c, vJn, vJs, vlc, aRR_c, aRRI_c, aRRII_c, aRRIII_c, aRIIII_c, aRL_c, aRLL_c, aLL_c, aRRRI_c, aIL_c, aIIII_c, aRRIIII_c, aIRII_c, aIR_c, aLI_c, aRIR_c, aRIIR_c, hC.o0, hC.f0_0, hC.f0_1, hC.f0_2, hC.f0_3, hC.f0_4, hC.f0_5, hC.f0_6, hC.f0_7, hC.f0_8, hC.f0_9, hC.f0_10, hC.f0_11, hC.o1, hC.f1, hC.t2, hC.l2, hC.o3, hC.f3, hC.t4, hC.l4, hC.s5, hC.s12, hC.s19, hC.s112, hC.s119, hC.o26, hC.f26, hC.t27, hC.l27, hC.s28, hC.o126, hC.f126_0, hC.f126_1, hC.t127, hC.l127, hC.t128, hC.l128, hC.s129, hC.n157, hC.n161, hC.o165, hC.f165, hC.t166, hC.l166, hC.r167, hC.r171, hC.q5, hC.q12, hC.q19, hC.q112, hC.q119, hC.a2, hC.a4, hC.a27, hC.a127, hC.a128, hC, fpDraws, c3, h4, apDawns, ok_up, nS_up, mS_up, vw_up, t3, t4, t5, t6]
    intro σ2 c
    exact h σ2 (Y1.to c)
  · rw [if_neg h4] at h
    by_cases hn : nS σ0 5 = 0
    · rw [if_pos hn] at h
      have z0' : σ 19 0 = 0 := by rw [z0, hn]; rfl
      refine wg (by decide) rgY_ok ts_151 py_151 ml_151 30 (by simp [catT]) (fun N hN => ?_)
      simp [bs_151, sg_151_0_2, sg_151_0_1, sg_151_21_3, sg_151_21_2, sg_151_21_1, sg_151_66_2, sg_151_66_1, hN _, x_iconst, x_ldc2_w, x_aconst_null, x_iload, x_lload, x_aload, x_istore, x_lstore, x_astore, x_iinc, x_iadd, x_isub, x_imul, x_idiv, x_irem, x_iand, x_ior, x_ixor, x_ishl, x_ishr, x_iushr, x_ineg, x_ladd, x_lsub, x_lmul, x_ldiv, x_lrem, x_lcmp, x_i2l, x_i2b, x_i2s, x_i2c, x_dup, x_pop, x_dup_x1, x_dup2, x_getfield, x_putfield, x_iaload, x_baload, x_saload, x_caload, x_daload, x_faload, x_laload, x_aaload, x_iastore, x_bastore, x_sastore, x_castore, x_lastore, x_aastore, x_arraylength, x_getstatic, x_goto, x_goto_w, x_ifCond, x_if_icmp, x_ifnull, x_ifnonnull, x_lookupswitch, x_invokevirtual, x_invokestatic, x_invokedynamic, x_ireturn, x_freturn, x_dreturn, x_lreturn, x_areturn, x_return_, pI_c, pL_c, pR_c, pV_i, pV_r, gI_c, gL_c, gR_c, pN_z, pN_s, lget_c, lins_z, lins_c, ldel_z, ldel_c, ldel2_z, ldel2_c, lset_i, lset_l, lset_r, lkeep_z, lkeep_c, largs_z, largs_c, cat_i, cat_l, cat_r, lkp_c, cnd_eq, cnd_ne, cnd_lt, cnd_ge, cnd_gt, cnd_le, swL_z, swL_c, rE_e, rOr_s, rOr_n, rlk_z, rlk_c, aR_c, aI_c, aII_c, aIII_c, aRI_c, aRII_c, aRIII_c, vJn, vJs, vlc, aRR_c, aRRI_c, aRRII_c, aRRIII_c, aRIIII_c, aRL_c, aRLL_c, aLL_c, aRRRI_c, aIL_c, aIIII_c, aRRIIII_c, aIRII_c, aIR_c, aLI_c, aRIR_c, aRIIR_c, hC.o0, hC.f0_0, hC.f0_1, hC.f0_2, hC.f0_3, hC.f0_4, hC.f0_5, hC.f0_6, hC.f0_7, hC.f0_8, hC.f0_9, hC.f0_10, hC.f0_11, hC.o1, hC.f1, hC.t2, hC.l2, hC.o3, hC.f3, hC.t4, hC.l4, hC.s5, hC.s12, hC.s19, hC.s112, hC.s119, hC.o26, hC.f26, hC.t27, hC.l27, hC.s28, hC.o126, hC.f126_0, hC.f126_1, hC.t127, hC.l127, hC.t128, hC.l128, hC.s129, hC.n157, hC.n161, hC.o165, hC.f165, hC.t166, hC.l166, hC.r167, hC.r171, hC.q5, hC.q12, hC.q19, hC.q112, hC.q119, hC.a2, hC.a4, hC.a27, hC.a127, hC.a128, hC, fpDraws, c3, h4, up_ap, z0']
      exact h _ Y1
    · rw [if_neg hn] at h
      have n0 : (0 : Int) < nS σ0 5 := by omega
      have n0n : 0 < nS σ0 5 := by omega
      by_cases h3 : drw R 4 = 3
      · rw [if_pos h3] at h
        refine wg (by decide) rgY_ok ts_151 py_151 ml_151 30 (by simp [catT]) (fun N hN => ?_)
        simp [bs_151, sg_151_0_2, sg_151_0_1, sg_151_21_3, sg_151_21_2, sg_151_21_1, sg_151_66_2, sg_151_66_1, hN _, x_iconst, x_ldc2_w, x_aconst_null, x_iload, x_lload, x_aload, x_istore, x_lstore, x_astore, x_iinc, x_iadd, x_isub, x_imul, x_idiv, x_irem, x_iand, x_ior, x_ixor, x_ishl, x_ishr, x_iushr, x_ineg, x_ladd, x_lsub, x_lmul, x_ldiv, x_lrem, x_lcmp, x_i2l, x_i2b, x_i2s, x_i2c, x_dup, x_pop, x_dup_x1, x_dup2, x_getfield, x_putfield, x_iaload, x_baload, x_saload, x_caload, x_daload, x_faload, x_laload, x_aaload, x_iastore, x_bastore, x_sastore, x_castore, x_lastore, x_aastore, x_arraylength, x_getstatic, x_goto, x_goto_w, x_ifCond, x_if_icmp, x_ifnull, x_ifnonnull, x_lookupswitch, x_invokevirtual, x_invokestatic, x_invokedynamic, x_ireturn, x_freturn, x_dreturn, x_lreturn, x_areturn, x_return_, pI_c, pL_c, pR_c, pV_i, pV_r, gI_c, gL_c, gR_c, pN_z, pN_s, lget_c, lins_z, lins_c, ldel_z, ldel_c, ldel2_z, ldel2_c, lset_i, lset_l, lset_r, lkeep_z, lkeep_c, largs_z, largs_c, cat_i, cat_l, cat_r, lkp_c, cnd_eq, cnd_ne, cnd_lt, cnd_ge, cnd_gt, cnd_le, swL_z, swL_c, rE_e, rOr_s, rOr_n, rlk_z, rlk_c, aR_c, aI_c, aII_c, aIII_c, aRI_c, aRII_c, aRIII_c, vJn, vJs, vlc, aRR_c, aRRI_c, aRRII_c, aRRIII_c, aRIIII_c, aRL_c, aRLL_c, aLL_c, aRRRI_c, aIL_c, aIIII_c, aRRIIII_c, aIRII_c, aIR_c, aLI_c, aRIR_c, aRIIR_c, hC.o0, hC.f0_0, hC.f0_1, hC.f0_2, hC.f0_3, hC.f0_4, hC.f0_5, hC.f0_6, hC.f0_7, hC.f0_8, hC.f0_9, hC.f0_10, hC.f0_11, hC.o1, hC.f1, hC.t2, hC.l2, hC.o3, hC.f3, hC.t4, hC.l4, hC.s5, hC.s12, hC.s19, hC.s112, hC.s119, hC.o26, hC.f26, hC.t27, hC.l27, hC.s28, hC.o126, hC.f126_0, hC.f126_1, hC.t127, hC.l127, hC.t128, hC.l128, hC.s129, hC.n157, hC.n161, hC.o165, hC.f165, hC.t166, hC.l166, hC.r167, hC.r171, hC.q5, hC.q12, hC.q19, hC.q112, hC.q119, hC.a2, hC.a4, hC.a27, hC.a127, hC.a128, hC, fpDraws, c3, h4, h3, up_ap, z0, n0, n0n, Int.not_le.mpr n0, Nat.not_le.mpr n0n, hn, apSewsIn, ok_up, nS_up, mS_up, vw_up, t3, t4, t6]
        intro σ2 c
        exact h σ2 (Y3.to c)
      · rw [if_neg h3] at h
        refine wg (by decide) rgY_ok ts_151 py_151 ml_151 30 (by simp [catT]) (fun N hN => ?_)
        simp [bs_151, sg_151_0_2, sg_151_0_1, sg_151_21_3, sg_151_21_2, sg_151_21_1, sg_151_66_2, sg_151_66_1, hN _, x_iconst, x_ldc2_w, x_aconst_null, x_iload, x_lload, x_aload, x_istore, x_lstore, x_astore, x_iinc, x_iadd, x_isub, x_imul, x_idiv, x_irem, x_iand, x_ior, x_ixor, x_ishl, x_ishr, x_iushr, x_ineg, x_ladd, x_lsub, x_lmul, x_ldiv, x_lrem, x_lcmp, x_i2l, x_i2b, x_i2s, x_i2c, x_dup, x_pop, x_dup_x1, x_dup2, x_getfield, x_putfield, x_iaload, x_baload, x_saload, x_caload, x_daload, x_faload, x_laload, x_aaload, x_iastore, x_bastore, x_sastore, x_castore, x_lastore, x_aastore, x_arraylength, x_getstatic, x_goto, x_goto_w, x_ifCond, x_if_icmp, x_ifnull, x_ifnonnull, x_lookupswitch, x_invokevirtual, x_invokestatic, x_invokedynamic, x_ireturn, x_freturn, x_dreturn, x_lreturn, x_areturn, x_return_, pI_c, pL_c, pR_c, pV_i, pV_r, gI_c, gL_c, gR_c, pN_z, pN_s, lget_c, lins_z, lins_c, ldel_z, ldel_c, ldel2_z, ldel2_c, lset_i, lset_l, lset_r, lkeep_z, lkeep_c, largs_z, largs_c, cat_i, cat_l, cat_r, lkp_c, cnd_eq, cnd_ne, cnd_lt, cnd_ge, cnd_gt, cnd_le, swL_z, swL_c, rE_e, rOr_s, rOr_n, rlk_z, rlk_c, aR_c, aI_c, aII_c, aIII_c, aRI_c, aRII_c, aRIII_c, vJn, vJs, vlc, aRR_c, aRRI_c, aRRII_c, aRRIII_c, aRIIII_c, aRL_c, aRLL_c, aLL_c, aRRRI_c, aIL_c, aIIII_c, aRRIIII_c, aIRII_c, aIR_c, aLI_c, aRIR_c, aRIIR_c, hC.o0, hC.f0_0, hC.f0_1, hC.f0_2, hC.f0_3, hC.f0_4, hC.f0_5, hC.f0_6, hC.f0_7, hC.f0_8, hC.f0_9, hC.f0_10, hC.f0_11, hC.o1, hC.f1, hC.t2, hC.l2, hC.o3, hC.f3, hC.t4, hC.l4, hC.s5, hC.s12, hC.s19, hC.s112, hC.s119, hC.o26, hC.f26, hC.t27, hC.l27, hC.s28, hC.o126, hC.f126_0, hC.f126_1, hC.t127, hC.l127, hC.t128, hC.l128, hC.s129, hC.n157, hC.n161, hC.o165, hC.f165, hC.t166, hC.l166, hC.r167, hC.r171, hC.q5, hC.q12, hC.q19, hC.q112, hC.q119, hC.a2, hC.a4, hC.a27, hC.a127, hC.a128, hC, fpDraws, c1, c2, c3, h4, h3, up_ap, z0, n0, n0n, Int.not_le.mpr n0, Nat.not_le.mpr n0n, hn, apBattle, ok_up, nS_up, mS_up, vw_up, t3, t4, t6]
        refine ⟨F, c4.cg ?_ ?_, by omega, hR.2.2, fun σ2 c => h σ2 (Y3.fgt hR.1 c)⟩
        · rw [up_ne (by omega), up_ne (by omega), up_ne (by omega)]
        · rw [up_ne (by omega), up_ne (by omega), up_ne (by omega)]
theorem rgYr_ok {l : Launch} {g : GE} {d : Nat} : ∀ e as t σ Q, rE l g (d + 7) ((151, fpYear) :: rgC) e as t σ Q → WPc l g e (d + 7) 0 0 as t σ Q := rE_cons (fun _ _ _ _ h => f_year h) (rgC_ok (d := d + 1))
noncomputable def yrsV (F : (Int → Int) → Int) (n : Nat) (M : Int → Int) (k : Int) (R : Int) (V : Int → Int) : Nat → Int × (Int → Int) := fo (fun _ s => yearV F n M k s) (R, V)
noncomputable def yrsQ (n : Nat) (V : Int → Int) (W : Int → Int) : QA := (w32 (W 49 - V 49), some [sumN W n, sumN (fun i => W (36 + i)) n])
set_option maxHeartbeats 1000000 in
theorem o_years {l : Launch} {g : GE} {d : Nat} {t : Tau} {σ : Mem} {Q : Post} {R m : Int} {F : (Int → Int) → Int} (hC : TC t) (hk : SeaOk t σ 5) (hR : RC t σ F) (h : if 1 ≤ m ∧ m ≤ 60 then ansC (yrsQ (nS σ 5) (vwS σ 5) (yrsV F (nS σ 5) (mS σ 5) (σ 0 14) R (vwS σ 5) m.toNat).2) t (up σ 0 16 (yrsV F (nS σ 5) (mS σ 5) (σ 0 14) R (vwS σ 5) m.toNat).1) Q else Q (some (vI (-1))) t σ) : WPc l g 130 (d + 8) 0 0 [vR 0, vI R, vI m] t σ Q := by
  by_cases hm : 1 ≤ m ∧ m ≤ 60
  · rw [if_pos hm] at h
    obtain ⟨m0, m1⟩ := hm
    have K : ∀ (r i : Nat) (σ' : Mem), i + r = m.toNat → YrTo t σ σ' (yrsV F (nS σ 5) (mS σ 5) (σ 0 14) R (vwS σ 5) i) → Wp l g 130 (d + 8) 0 0 31 [(0, vR 0), (2, vI m), (3, vI i)] [] t σ' Q := by
      intro r
      induction r with
      | zero =>
        intro i σ' hi hY
        have e1 : (i : Int) = m := by omega
        have hi' : i = m.toNat := by omega
        rw [hi'] at hY
        generalize yrsV F (nS σ 5) (mS σ 5) (σ 0 14) R (vwS σ 5) m.toNat = s at h hY
        obtain ⟨t1, t2, t3, t4, t5, t6⟩ := hY
        have hk1 : SeaOk t (up σ 0 16 s.1) 5 := by rw [ok_up (by omega)]; exact hk
        obtain ⟨k5, n5, m5, v5⟩ := t1.sea hk1
        rw [vw_up (by omega)] at v5
        rw [nS_up (by omega)] at t4
        have x1 : σ' 19 2 = s.2 49 := by rw [← t6]; exact vw_ov
        have x2 : σ' 5 2 = vwS σ 5 49 := by rw [← v5]; exact vw_ov
        refine wa (by decide) rgYr_ok tk_130 30 (fun N hN => ?_)
        simp [bl_130, hN _, x_iconst, x_ldc2_w, x_aconst_null, x_iload, x_lload, x_aload, x_istore, x_lstore, x_astore, x_iinc, x_iadd, x_isub, x_imul, x_idiv, x_irem, x_iand, x_ior, x_ixor, x_ishl, x_ishr, x_iushr, x_ineg, x_ladd, x_lsub, x_lmul, x_ldiv, x_lrem, x_lcmp, x_i2l, x_i2b, x_i2s, x_i2c, x_dup, x_pop, x_dup_x1, x_dup2, x_getfield, x_putfield, x_iaload, x_baload, x_saload, x_caload, x_daload, x_faload, x_laload, x_aaload, x_iastore, x_bastore, x_sastore, x_castore, x_lastore, x_aastore, x_arraylength, x_getstatic, x_goto, x_goto_w, x_ifCond, x_if_icmp, x_ifnull, x_ifnonnull, x_lookupswitch, x_invokevirtual, x_invokestatic, x_invokedynamic, x_ireturn, x_freturn, x_dreturn, x_lreturn, x_areturn, x_return_, pI_c, pL_c, pR_c, pV_i, pV_r, gI_c, gL_c, gR_c, pN_z, pN_s, lget_c, lins_z, lins_c, ldel_z, ldel_c, ldel2_z, ldel2_c, lset_i, lset_l, lset_r, lkeep_z, lkeep_c, largs_z, largs_c, cat_i, cat_l, cat_r, lkp_c, cnd_eq, cnd_ne, cnd_lt, cnd_ge, cnd_gt, cnd_le, swL_z, swL_c, rE_e, rOr_s, rOr_n, rlk_z, rlk_c, aR_c, aI_c, aII_c, aIII_c, aRI_c, aRII_c, aRIII_c, vJn, vJs, vlc, aRR_c, aRRI_c, aRRII_c, aRRIII_c, aRIIII_c, aRL_c, aRLL_c, aLL_c, aRRRI_c, aIL_c, aIIII_c, aRRIIII_c, aIRII_c, aIR_c, aLI_c, aRIR_c, aRIIR_c, hC.o0, hC.f0_0, hC.f0_1, hC.f0_2, hC.f0_3, hC.f0_4, hC.f0_5, hC.f0_6, hC.f0_7, hC.f0_8, hC.f0_9, hC.f0_10, hC.f0_11, hC.o1, hC.f1, hC.t2, hC.l2, hC.o3, hC.f3, hC.t4, hC.l4, hC.s5, hC.s12, hC.s19, hC.s112, hC.s119, hC.o26, hC.f26, hC.t27, hC.l27, hC.s28, hC.o126, hC.f126_0, hC.f126_1, hC.t127, hC.l127, hC.t128, hC.l128, hC.s129, hC.n157, hC.n161, hC.o165, hC.f165, hC.t166, hC.l166, hC.r167, hC.r171, hC.q5, hC.q12, hC.q19, hC.q112, hC.q119, hC.a2, hC.a4, hC.a27, hC.a127, hC.a128, hC, e1, rpClears, rpAdds, apSoa, apSum, up_ap, ok_up, nS_up, vw_up, t3, t4, t6, x1, x2]
        exact h _ (QTo.q2 t1)
      | succ r ih =>
        intro i σ' hi hY
        have e1 : ¬ m ≤ (i : Int) := by omega
        have e2 := w32_succ (k := i) (by omega)
        refine wa (by decide) rgYr_ok ts_130 30 (fun N hN => ?_)
        simp [bs_130, hN _, x_iconst, x_ldc2_w, x_aconst_null, x_iload, x_lload, x_aload, x_istore, x_lstore, x_astore, x_iinc, x_iadd, x_isub, x_imul, x_idiv, x_irem, x_iand, x_ior, x_ixor, x_ishl, x_ishr, x_iushr, x_ineg, x_ladd, x_lsub, x_lmul, x_ldiv, x_lrem, x_lcmp, x_i2l, x_i2b, x_i2s, x_i2c, x_dup, x_pop, x_dup_x1, x_dup2, x_getfield, x_putfield, x_iaload, x_baload, x_saload, x_caload, x_daload, x_faload, x_laload, x_aaload, x_iastore, x_bastore, x_sastore, x_castore, x_lastore, x_aastore, x_arraylength, x_getstatic, x_goto, x_goto_w, x_ifCond, x_if_icmp, x_ifnull, x_ifnonnull, x_lookupswitch, x_invokevirtual, x_invokestatic, x_invokedynamic, x_ireturn, x_freturn, x_dreturn, x_lreturn, x_areturn, x_return_, pI_c, pL_c, pR_c, pV_i, pV_r, gI_c, gL_c, gR_c, pN_z, pN_s, lget_c, lins_z, lins_c, ldel_z, ldel_c, ldel2_z, ldel2_c, lset_i, lset_l, lset_r, lkeep_z, lkeep_c, largs_z, largs_c, cat_i, cat_l, cat_r, lkp_c, cnd_eq, cnd_ne, cnd_lt, cnd_ge, cnd_gt, cnd_le, swL_z, swL_c, rE_e, rOr_s, rOr_n, rlk_z, rlk_c, aR_c, aI_c, aII_c, aIII_c, aRI_c, aRII_c, aRIII_c, vJn, vJs, vlc, aRR_c, aRRI_c, aRRII_c, aRRIII_c, aRIIII_c, aRL_c, aRLL_c, aLL_c, aRRRI_c, aIL_c, aIIII_c, aRRIIII_c, aIRII_c, aIR_c, aLI_c, aRIR_c, aRIIR_c, hC.o0, hC.f0_0, hC.f0_1, hC.f0_2, hC.f0_3, hC.f0_4, hC.f0_5, hC.f0_6, hC.f0_7, hC.f0_8, hC.f0_9, hC.f0_10, hC.f0_11, hC.o1, hC.f1, hC.t2, hC.l2, hC.o3, hC.f3, hC.t4, hC.l4, hC.s5, hC.s12, hC.s19, hC.s112, hC.s119, hC.o26, hC.f26, hC.t27, hC.l27, hC.s28, hC.o126, hC.f126_0, hC.f126_1, hC.t127, hC.l127, hC.t128, hC.l128, hC.s129, hC.n157, hC.n161, hC.o165, hC.f165, hC.t166, hC.l166, hC.r167, hC.r171, hC.q5, hC.q12, hC.q19, hC.q112, hC.q119, hC.a2, hC.a4, hC.a27, hC.a127, hC.a128, hC, e1, fpYear]
        intro _
        refine ⟨σ, F, hR, (yrsV F (nS σ 5) (mS σ 5) (σ 0 14) R (vwS σ 5) i).1, (yrsV F (nS σ 5) (mS σ 5) (σ 0 14) R (vwS σ 5) i).2, hY, fun σ1 T1 => ?_⟩
        have K := ih (i + 1) σ1 (by omega) T1
        simp [sg_130_31_1, hN _, x_iconst, x_ldc2_w, x_aconst_null, x_iload, x_lload, x_aload, x_istore, x_lstore, x_astore, x_iinc, x_iadd, x_isub, x_imul, x_idiv, x_irem, x_iand, x_ior, x_ixor, x_ishl, x_ishr, x_iushr, x_ineg, x_ladd, x_lsub, x_lmul, x_ldiv, x_lrem, x_lcmp, x_i2l, x_i2b, x_i2s, x_i2c, x_dup, x_pop, x_dup_x1, x_dup2, x_getfield, x_putfield, x_iaload, x_baload, x_saload, x_caload, x_daload, x_faload, x_laload, x_aaload, x_iastore, x_bastore, x_sastore, x_castore, x_lastore, x_aastore, x_arraylength, x_getstatic, x_goto, x_goto_w, x_ifCond, x_if_icmp, x_ifnull, x_ifnonnull, x_lookupswitch, x_invokevirtual, x_invokestatic, x_invokedynamic, x_ireturn, x_freturn, x_dreturn, x_lreturn, x_areturn, x_return_, pI_c, pL_c, pR_c, pV_i, pV_r, gI_c, gL_c, gR_c, pN_z, pN_s, lget_c, lins_z, lins_c, ldel_z, ldel_c, ldel2_z, ldel2_c, lset_i, lset_l, lset_r, lkeep_z, lkeep_c, largs_z, largs_c, cat_i, cat_l, cat_r, lkp_c, cnd_eq, cnd_ne, cnd_lt, cnd_ge, cnd_gt, cnd_le, swL_z, swL_c, rE_e, rOr_s, rOr_n, rlk_z, rlk_c, aR_c, aI_c, aII_c, aIII_c, aRI_c, aRII_c, aRIII_c, vJn, vJs, vlc, aRR_c, aRRI_c, aRRII_c, aRRIII_c, aRIIII_c, aRL_c, aRLL_c, aLL_c, aRRRI_c, aIL_c, aIIII_c, aRRIIII_c, aIRII_c, aIR_c, aLI_c, aRIR_c, aRIIR_c, e2]
        exact K
    refine wg (by decide) rgYr_ok ts_130 py_130 ml_130 30 (by simp [catT]) (fun N hN => ?_)
    simp [bs_130, hN _, x_iconst, x_ldc2_w, x_aconst_null, x_iload, x_lload, x_aload, x_istore, x_lstore, x_astore, x_iinc, x_iadd, x_isub, x_imul, x_idiv, x_irem, x_iand, x_ior, x_ixor, x_ishl, x_ishr, x_iushr, x_ineg, x_ladd, x_lsub, x_lmul, x_ldiv, x_lrem, x_lcmp, x_i2l, x_i2b, x_i2s, x_i2c, x_dup, x_pop, x_dup_x1, x_dup2, x_getfield, x_putfield, x_iaload, x_baload, x_saload, x_caload, x_daload, x_faload, x_laload, x_aaload, x_iastore, x_bastore, x_sastore, x_castore, x_lastore, x_aastore, x_arraylength, x_getstatic, x_goto, x_goto_w, x_ifCond, x_if_icmp, x_ifnull, x_ifnonnull, x_lookupswitch, x_invokevirtual, x_invokestatic, x_invokedynamic, x_ireturn, x_freturn, x_dreturn, x_lreturn, x_areturn, x_return_, pI_c, pL_c, pR_c, pV_i, pV_r, gI_c, gL_c, gR_c, pN_z, pN_s, lget_c, lins_z, lins_c, ldel_z, ldel_c, ldel2_z, ldel2_c, lset_i, lset_l, lset_r, lkeep_z, lkeep_c, largs_z, largs_c, cat_i, cat_l, cat_r, lkp_c, cnd_eq, cnd_ne, cnd_lt, cnd_ge, cnd_gt, cnd_le, swL_z, swL_c, rE_e, rOr_s, rOr_n, rlk_z, rlk_c, aR_c, aI_c, aII_c, aIII_c, aRI_c, aRII_c, aRIII_c, vJn, vJs, vlc, aRR_c, aRRI_c, aRRII_c, aRRIII_c, aRIIII_c, aRL_c, aRLL_c, aLL_c, aRRRI_c, aIL_c, aIIII_c, aRRIIII_c, aIRII_c, aIR_c, aLI_c, aRIR_c, aRIIR_c, hC.o0, hC.f0_0, hC.f0_1, hC.f0_2, hC.f0_3, hC.f0_4, hC.f0_5, hC.f0_6, hC.f0_7, hC.f0_8, hC.f0_9, hC.f0_10, hC.f0_11, hC.o1, hC.f1, hC.t2, hC.l2, hC.o3, hC.f3, hC.t4, hC.l4, hC.s5, hC.s12, hC.s19, hC.s112, hC.s119, hC.o26, hC.f26, hC.t27, hC.l27, hC.s28, hC.o126, hC.f126_0, hC.f126_1, hC.t127, hC.l127, hC.t128, hC.l128, hC.s129, hC.n157, hC.n161, hC.o165, hC.f165, hC.t166, hC.l166, hC.r167, hC.r171, hC.q5, hC.q12, hC.q19, hC.q112, hC.q119, hC.a2, hC.a4, hC.a27, hC.a127, hC.a128, hC, apBecomes, ok_up, hk, m0, m1, Int.not_lt.mpr m0, Int.not_lt.mpr m1]
    intro σ1 b1 b2 b3 b4 b5
    have K := K m.toNat 0 σ1 (by omega) (by
      have := TrTo.of b1 b2 b3 b4 b5
      rw [vw_up (by omega)] at this
      exact this)
    simp [sg_130_13_1, hN _, x_iconst, x_ldc2_w, x_aconst_null, x_iload, x_lload, x_aload, x_istore, x_lstore, x_astore, x_iinc, x_iadd, x_isub, x_imul, x_idiv, x_irem, x_iand, x_ior, x_ixor, x_ishl, x_ishr, x_iushr, x_ineg, x_ladd, x_lsub, x_lmul, x_ldiv, x_lrem, x_lcmp, x_i2l, x_i2b, x_i2s, x_i2c, x_dup, x_pop, x_dup_x1, x_dup2, x_getfield, x_putfield, x_iaload, x_baload, x_saload, x_caload, x_daload, x_faload, x_laload, x_aaload, x_iastore, x_bastore, x_sastore, x_castore, x_lastore, x_aastore, x_arraylength, x_getstatic, x_goto, x_goto_w, x_ifCond, x_if_icmp, x_ifnull, x_ifnonnull, x_lookupswitch, x_invokevirtual, x_invokestatic, x_invokedynamic, x_ireturn, x_freturn, x_dreturn, x_lreturn, x_areturn, x_return_, pI_c, pL_c, pR_c, pV_i, pV_r, gI_c, gL_c, gR_c, pN_z, pN_s, lget_c, lins_z, lins_c, ldel_z, ldel_c, ldel2_z, ldel2_c, lset_i, lset_l, lset_r, lkeep_z, lkeep_c, largs_z, largs_c, cat_i, cat_l, cat_r, lkp_c, cnd_eq, cnd_ne, cnd_lt, cnd_ge, cnd_gt, cnd_le, swL_z, swL_c, rE_e, rOr_s, rOr_n, rlk_z, rlk_c, aR_c, aI_c, aII_c, aIII_c, aRI_c, aRII_c, aRIII_c, vJn, vJs, vlc, aRR_c, aRRI_c, aRRII_c, aRRIII_c, aRIIII_c, aRL_c, aRLL_c, aLL_c, aRRRI_c, aIL_c, aIIII_c, aRRIIII_c, aIRII_c, aIR_c, aLI_c, aRIR_c, aRIIR_c]
    exact K
  · rw [if_neg hm] at h
    refine wg (by decide) rgYr_ok tk_130 py_130 ml_130 30 (by simp [catT]) (fun N hN => ?_)
    simp [bl_130, hN _, x_iconst, x_ldc2_w, x_aconst_null, x_iload, x_lload, x_aload, x_istore, x_lstore, x_astore, x_iinc, x_iadd, x_isub, x_imul, x_idiv, x_irem, x_iand, x_ior, x_ixor, x_ishl, x_ishr, x_iushr, x_ineg, x_ladd, x_lsub, x_lmul, x_ldiv, x_lrem, x_lcmp, x_i2l, x_i2b, x_i2s, x_i2c, x_dup, x_pop, x_dup_x1, x_dup2, x_getfield, x_putfield, x_iaload, x_baload, x_saload, x_caload, x_daload, x_faload, x_laload, x_aaload, x_iastore, x_bastore, x_sastore, x_castore, x_lastore, x_aastore, x_arraylength, x_getstatic, x_goto, x_goto_w, x_ifCond, x_if_icmp, x_ifnull, x_ifnonnull, x_lookupswitch, x_invokevirtual, x_invokestatic, x_invokedynamic, x_ireturn, x_freturn, x_dreturn, x_lreturn, x_areturn, x_return_, pI_c, pL_c, pR_c, pV_i, pV_r, gI_c, gL_c, gR_c, pN_z, pN_s, lget_c, lins_z, lins_c, ldel_z, ldel_c, ldel2_z, ldel2_c, lset_i, lset_l, lset_r, lkeep_z, lkeep_c, largs_z, largs_c, cat_i, cat_l, cat_r, lkp_c, cnd_eq, cnd_ne, cnd_lt, cnd_ge, cnd_gt, cnd_le, swL_z, swL_c, rE_e, rOr_s, rOr_n, rlk_z, rlk_c, aR_c, aI_c, aII_c, aIII_c, aRI_c, aRII_c, aRIII_c, vJn, vJs, vlc, aRR_c, aRRI_c, aRRII_c, aRRIII_c, aRIIII_c, aRL_c, aRLL_c, aLL_c, aRRRI_c, aIL_c, aIIII_c, aRRIIII_c, aIRII_c, aIR_c, aLI_c, aRIR_c, aRIIR_c]
    grind
