/-! the reference: an act is done -/
theorem RowTo.gf {σ σ' : Mem} {V : Int → Int} (h : RowTo σ σ' 176 V) : GfF σ σ' 176 V := ⟨⟨fun o _ _ c => h.1 o c, fun j _ _ => by rw [h.1 175 (by omega)]⟩, h.2⟩
theorem yieldA_q {n : Nat} {V : Int → Int} {s f : Int} {M : Int → Int} (hW : WFV n M V) : (rfYield n V s f < 0 → ¬ 0 ≤ yieldA n V s f ∧ yieldN n V s f = V) ∧ (0 ≤ rfYield n V s f → ((0 ≤ s ∧ s < n) ∧ (0 ≤ f ∧ f < 4)) ∧ 0 ≤ yieldA n V s f ∧ yieldN n V s f = yieldV V s f) := by
  unfold rfYield yieldA yieldN
  by_cases hc : (0 ≤ s ∧ s < n) ∧ (0 ≤ f ∧ f < 4)
  · rw [if_pos hc, if_pos hc]
    have hp := hW.pt hc.1.1 hc.1.2 hc.2.1 hc.2.2
    by_cases h1 : partV V s f = 12
    · rw [if_pos h1, if_pos h1, if_neg (fun z => z.2 h1)]
      exact ⟨fun _ => ⟨by omega, rfl⟩, fun z => by omega⟩
    · rw [if_neg h1, if_neg h1, if_pos ⟨hc, h1⟩]
      exact ⟨fun z => by omega, fun _ => ⟨hc, by omega, rfl⟩⟩
  · rw [if_neg hc, if_neg hc, if_neg (fun z => hc z.1)]
    exact ⟨fun _ => ⟨by omega, rfl⟩, fun z => by omega⟩
def mpAct : Sp := fun as t σ Q => aRI as fun a k4 => a = 175 ∧ ∃ F T p n, k4 = (4 * n : Nat) ∧ n < 80 ∧ MR t σ F ∧ MK t σ ∧ (1 ≤ σ 175 2 ∧ σ 175 2 ≤ 6) ∧ actOk T p ∧ AcIs σ n T p ∧ ∀ σ', GfF σ σ' 176 (actV F (nM σ) (mM σ) (σ 175 2) T p (vA σ 176)).2 → Q (some (vI (if (actV F (nM σ) (mM σ) (σ 175 2) T p (vA σ 176)).1 then 1 else 0))) t σ'
theorem winV_r {F : (Int → Int) → Int} {V : Int → Int} {i j : Int} (hi : 0 ≤ i) (hj : 0 ≤ j) : winV F V i j = -2 ∨ winV F V i j = -3 ∨ 0 ≤ winV F V i j := by
  unfold winV
  split
  · exact Or.inl rfl
  split
  · exact Or.inr (Or.inl rfl)
  · refine Or.inr (Or.inr ?_)
    split <;> assumption
set_option maxHeartbeats 1000000 in
theorem m_act {l : Launch} {g : GE} {d : Nat} {t : Tau} {σ : Mem} {Q : Post} {as : List TV} (h0 : mpAct as t σ Q) : WPc l g 222 (d + 93) 0 0 as t σ Q := by
  obtain ⟨a, k4, rfl, rfl, F, T, p, n, hk4, hn, hR, ⟨hM, hW⟩, hT, hA, ⟨a0, a1, a2, a3, a4⟩, h⟩ := aRI_e h0
  clear h0
  have oM := hM.1.o
  have n6 := hM.2.2
  obtain ⟨hk, hd⟩ := act_k hA
  have e1 : ((4 * n + 1 : Nat) : Int) = k4 + 1 := by omega
  have e2 : ((4 * n + 2 : Nat) : Int) = k4 + 2 := by omega
  have e3 : ((4 * n + 3 : Nat) : Int) = k4 + 3 := by omega
  rw [← hk4] at a0
  rw [e1] at a1
  rw [e2] at a2 a3
  rw [e3] at a4
  have wa : w32 (k4 + 1) = k4 + 1 ∧ w32 (k4 + 2) = k4 + 2 ∧ w32 (k4 + 3) = k4 + 3 := ⟨w32_id (by omega) (by omega), w32_id (by omega) (by omega), w32_id (by omega) (by omega)⟩
  have ba : (0 ≤ k4 ∧ k4 < 320) ∧ (0 ≤ k4 + 1 ∧ k4 + 1 < 320) ∧ (0 ≤ k4 + 2 ∧ k4 + 2 < 320) ∧ (0 ≤ k4 + 3 ∧ k4 + 3 < 320) := by omega
  have hAr : ARow t σ 176 := ⟨RowT.now hM.1, hW⟩
  unfold actV at h
  generalize hA1 : T (p + 1 : Nat) - 48 = A at h a1
  have A0 : 0 ≤ A ∧ A ≤ 9 := by omega
  refine wg (by decide) rgMw_ok ts_222 py_222 ml_222 30 (by simp [catT]) (fun N hN => ?_)
  rcases hk with hk | hk | hk | hk
  · rw [if_pos hk] at h
    have a2 := a2 hk
    rw [hk] at a0
    generalize hB1 : T (p + 2 : Nat) - 48 = B at h a2
    simp only at h
    by_cases hp : prB (nM σ) A B
    · have hp0 := hp
      obtain ⟨⟨i0, i1⟩, ⟨j0, j1⟩, hne⟩ := hp
      have hw : winA F (nM σ) (vA σ 176) A B = winV F (vA σ 176) A B := by unfold winA; rw [if_pos hp0]
      have hr := winV_r (F := F) (V := vA σ 176) i0 j0
      rw [← hw] at hr
      simp [bs_222, hN _, x_iconst, x_ldc2_w, x_aconst_null, x_iload, x_lload, x_aload, x_istore, x_lstore, x_astore, x_iinc, x_iadd, x_isub, x_imul, x_idiv, x_irem, x_iand, x_ior, x_ixor, x_ishl, x_ishr, x_iushr, x_ineg, x_ladd, x_lsub, x_lmul, x_ldiv, x_lrem, x_lcmp, x_i2l, x_i2b, x_i2s, x_i2c, x_dup, x_pop, x_dup_x1, x_dup2, x_getfield, x_putfield, x_iaload, x_baload, x_saload, x_caload, x_daload, x_faload, x_laload, x_aaload, x_iastore, x_bastore, x_sastore, x_castore, x_lastore, x_aastore, x_arraylength, x_getstatic, x_goto, x_goto_w, x_ifCond, x_if_icmp, x_ifnull, x_ifnonnull, x_lookupswitch, x_invokevirtual, x_invokestatic, x_invokedynamic, x_ireturn, x_freturn, x_dreturn, x_lreturn, x_areturn, x_return_, pI_c, pL_c, pR_c, pV_i, pV_r, gI_c, gL_c, gR_c, pN_z, pN_s, lget_c, lins_z, lins_c, ldel_z, ldel_c, ldel2_z, ldel2_c, lset_i, lset_l, lset_r, lkeep_z, lkeep_c, largs_z, largs_c, cat_i, cat_l, cat_r, lkp_c, cnd_eq, cnd_ne, cnd_lt, cnd_ge, cnd_gt, cnd_le, swL_z, swL_c, rE_e, rOr_s, rOr_n, rlk_z, rlk_c, aR_c, aI_c, aII_c, aIII_c, aRI_c, aRII_c, aRIII_c, vJn, vJs, vlc, aRR_c, aRRI_c, aRRII_c, aRRIII_c, aRIIII_c, aRL_c, aRLL_c, aLL_c, aRRRI_c, aIL_c, aIIII_c, aRRIIII_c, aIRII_c, aIR_c, aLI_c, aRIR_c, aRIIR_c, oM, hM.1.f24, hM.1.f0, hM.1.t187, hM.1.l187, wa, ba, a0, a1, a2, mpTwo, hM, i0, i1, j0, j1, hne, mpGoF, hAr, hT]
      refine ⟨F, hR, hp0, fun σ' G => ?_⟩
      have K := h σ' G
      generalize winA F (nM σ) (vA σ 176) A B = w at K hr
      simp [sg_222_60_1, bs_222, hN _, x_iconst, x_ldc2_w, x_aconst_null, x_iload, x_lload, x_aload, x_istore, x_lstore, x_astore, x_iinc, x_iadd, x_isub, x_imul, x_idiv, x_irem, x_iand, x_ior, x_ixor, x_ishl, x_ishr, x_iushr, x_ineg, x_ladd, x_lsub, x_lmul, x_ldiv, x_lrem, x_lcmp, x_i2l, x_i2b, x_i2s, x_i2c, x_dup, x_pop, x_dup_x1, x_dup2, x_getfield, x_putfield, x_iaload, x_baload, x_saload, x_caload, x_daload, x_faload, x_laload, x_aaload, x_iastore, x_bastore, x_sastore, x_castore, x_lastore, x_aastore, x_arraylength, x_getstatic, x_goto, x_goto_w, x_ifCond, x_if_icmp, x_ifnull, x_ifnonnull, x_lookupswitch, x_invokevirtual, x_invokestatic, x_invokedynamic, x_ireturn, x_freturn, x_dreturn, x_lreturn, x_areturn, x_return_, pI_c, pL_c, pR_c, pV_i, pV_r, gI_c, gL_c, gR_c, pN_z, pN_s, lget_c, lins_z, lins_c, ldel_z, ldel_c, ldel2_z, ldel2_c, lset_i, lset_l, lset_r, lkeep_z, lkeep_c, largs_z, largs_c, cat_i, cat_l, cat_r, lkp_c, cnd_eq, cnd_ne, cnd_lt, cnd_ge, cnd_gt, cnd_le, swL_z, swL_c, rE_e, rOr_s, rOr_n, rlk_z, rlk_c, aR_c, aI_c, aII_c, aIII_c, aRI_c, aRII_c, aRIII_c, vJn, vJs, vlc, aRR_c, aRRI_c, aRRII_c, aRRIII_c, aRIIII_c, aRL_c, aRLL_c, aLL_c, aRRRI_c, aIL_c, aIIII_c, aRRIIII_c, aIRII_c, aIR_c, aLI_c, aRIR_c, aRIIR_c]
      by_cases hz : w = -2
      · have : ¬ (0 ≤ w ∨ w = -3) := by omega
        simp [hz] at K ⊢
        exact K
      · have : 0 ≤ w ∨ w = -3 := by omega
        simp [hz, this] at K ⊢
        exact K
    · have hw : winA F (nM σ) (vA σ 176) A B = -1 := by unfold winA; rw [if_neg hp]
      rw [hw, fgt_no (by rw [hw]; omega)] at h
      have K := h σ GfF.rf
      simp at K
      simp [bs_222, hN _, x_iconst, x_ldc2_w, x_aconst_null, x_iload, x_lload, x_aload, x_istore, x_lstore, x_astore, x_iinc, x_iadd, x_isub, x_imul, x_idiv, x_irem, x_iand, x_ior, x_ixor, x_ishl, x_ishr, x_iushr, x_ineg, x_ladd, x_lsub, x_lmul, x_ldiv, x_lrem, x_lcmp, x_i2l, x_i2b, x_i2s, x_i2c, x_dup, x_pop, x_dup_x1, x_dup2, x_getfield, x_putfield, x_iaload, x_baload, x_saload, x_caload, x_daload, x_faload, x_laload, x_aaload, x_iastore, x_bastore, x_sastore, x_castore, x_lastore, x_aastore, x_arraylength, x_getstatic, x_goto, x_goto_w, x_ifCond, x_if_icmp, x_ifnull, x_ifnonnull, x_lookupswitch, x_invokevirtual, x_invokestatic, x_invokedynamic, x_ireturn, x_freturn, x_dreturn, x_lreturn, x_areturn, x_return_, pI_c, pL_c, pR_c, pV_i, pV_r, gI_c, gL_c, gR_c, pN_z, pN_s, lget_c, lins_z, lins_c, ldel_z, ldel_c, ldel2_z, ldel2_c, lset_i, lset_l, lset_r, lkeep_z, lkeep_c, largs_z, largs_c, cat_i, cat_l, cat_r, lkp_c, cnd_eq, cnd_ne, cnd_lt, cnd_ge, cnd_gt, cnd_le, swL_z, swL_c, rE_e, rOr_s, rOr_n, rlk_z, rlk_c, aR_c, aI_c, aII_c, aIII_c, aRI_c, aRII_c, aRIII_c, vJn, vJs, vlc, aRR_c, aRRI_c, aRRII_c, aRRIII_c, aRIIII_c, aRL_c, aRLL_c, aLL_c, aRRRI_c, aIL_c, aIIII_c, aRRIIII_c, aIRII_c, aIR_c, aLI_c, aRIR_c, aRIIR_c, oM, hM.1.f24, hM.1.f0, hM.1.t187, hM.1.l187, wa, ba, a0, a1, a2, mpTwo, hM]
      unfold prB at hp
      exact ⟨fun _ => K, fun z1 z2 z3 z4 z5 => absurd ⟨⟨z1, z2⟩, ⟨z3, z4⟩, z5⟩ hp⟩
  · rw [if_neg (by omega), if_pos hk] at h
    rw [hk] at a0
    simp [bs_222, hN _, x_iconst, x_ldc2_w, x_aconst_null, x_iload, x_lload, x_aload, x_istore, x_lstore, x_astore, x_iinc, x_iadd, x_isub, x_imul, x_idiv, x_irem, x_iand, x_ior, x_ixor, x_ishl, x_ishr, x_iushr, x_ineg, x_ladd, x_lsub, x_lmul, x_ldiv, x_lrem, x_lcmp, x_i2l, x_i2b, x_i2s, x_i2c, x_dup, x_pop, x_dup_x1, x_dup2, x_getfield, x_putfield, x_iaload, x_baload, x_saload, x_caload, x_daload, x_faload, x_laload, x_aaload, x_iastore, x_bastore, x_sastore, x_castore, x_lastore, x_aastore, x_arraylength, x_getstatic, x_goto, x_goto_w, x_ifCond, x_if_icmp, x_ifnull, x_ifnonnull, x_lookupswitch, x_invokevirtual, x_invokestatic, x_invokedynamic, x_ireturn, x_freturn, x_dreturn, x_lreturn, x_areturn, x_return_, pI_c, pL_c, pR_c, pV_i, pV_r, gI_c, gL_c, gR_c, pN_z, pN_s, lget_c, lins_z, lins_c, ldel_z, ldel_c, ldel2_z, ldel2_c, lset_i, lset_l, lset_r, lkeep_z, lkeep_c, largs_z, largs_c, cat_i, cat_l, cat_r, lkp_c, cnd_eq, cnd_ne, cnd_lt, cnd_ge, cnd_gt, cnd_le, swL_z, swL_c, rE_e, rOr_s, rOr_n, rlk_z, rlk_c, aR_c, aI_c, aII_c, aIII_c, aRI_c, aRII_c, aRIII_c, vJn, vJs, vlc, aRR_c, aRRI_c, aRRII_c, aRRIII_c, aRIIII_c, aRL_c, aRLL_c, aLL_c, aRRRI_c, aIL_c, aIIII_c, aRRIIII_c, aIRII_c, aIR_c, aLI_c, aRIR_c, aRIIR_c, oM, hM.1.f24, hM.1.f0, hM.1.t187, hM.1.l187, wa, ba, a0, a1, mpDays, hM, hAr, A0]
    refine ⟨by omega, fun σ' G => ?_⟩
    have K := h σ' G.gf
    simp [sg_222_90_1, hN _, x_iconst, x_ldc2_w, x_aconst_null, x_iload, x_lload, x_aload, x_istore, x_lstore, x_astore, x_iinc, x_iadd, x_isub, x_imul, x_idiv, x_irem, x_iand, x_ior, x_ixor, x_ishl, x_ishr, x_iushr, x_ineg, x_ladd, x_lsub, x_lmul, x_ldiv, x_lrem, x_lcmp, x_i2l, x_i2b, x_i2s, x_i2c, x_dup, x_pop, x_dup_x1, x_dup2, x_getfield, x_putfield, x_iaload, x_baload, x_saload, x_caload, x_daload, x_faload, x_laload, x_aaload, x_iastore, x_bastore, x_sastore, x_castore, x_lastore, x_aastore, x_arraylength, x_getstatic, x_goto, x_goto_w, x_ifCond, x_if_icmp, x_ifnull, x_ifnonnull, x_lookupswitch, x_invokevirtual, x_invokestatic, x_invokedynamic, x_ireturn, x_freturn, x_dreturn, x_lreturn, x_areturn, x_return_, pI_c, pL_c, pR_c, pV_i, pV_r, gI_c, gL_c, gR_c, pN_z, pN_s, lget_c, lins_z, lins_c, ldel_z, ldel_c, ldel2_z, ldel2_c, lset_i, lset_l, lset_r, lkeep_z, lkeep_c, largs_z, largs_c, cat_i, cat_l, cat_r, lkp_c, cnd_eq, cnd_ne, cnd_lt, cnd_ge, cnd_gt, cnd_le, swL_z, swL_c, rE_e, rOr_s, rOr_n, rlk_z, rlk_c, aR_c, aI_c, aII_c, aIII_c, aRI_c, aRII_c, aRIII_c, vJn, vJs, vlc, aRR_c, aRRI_c, aRRII_c, aRRIII_c, aRIIII_c, aRL_c, aRLL_c, aLL_c, aRRRI_c, aIL_c, aIIII_c, aRRIIII_c, aIRII_c, aIR_c, aLI_c, aRIR_c, aRIIR_c]
    exact K
  · rw [if_neg (by omega), if_neg (by omega), if_pos hk] at h
    have a3 := a3 (Or.inl hk)
    have a4 := a4 hk
    rw [hk] at a0
    generalize hB1 : T (p + 2 : Nat) - 97 = B at h a3
    generalize hC1 : T (p + 3 : Nat) - 48 = C at h a4
    obtain ⟨s1, s2⟩ := sewA_r (s := A) (f := B) (k := C) hW
    by_cases hz : rfSew (nM σ) (vA σ 176) A B C < 0
    · obtain ⟨q1, q2⟩ := s1 hz
      rw [q2, q1] at h
      have K := h σ GfF.rf
      have hz' : ¬ 0 ≤ rfSew (nM σ) (vA σ 176) A B C := by omega
      simp [hz'] at K
      simp [bs_222, hN _, x_iconst, x_ldc2_w, x_aconst_null, x_iload, x_lload, x_aload, x_istore, x_lstore, x_astore, x_iinc, x_iadd, x_isub, x_imul, x_idiv, x_irem, x_iand, x_ior, x_ixor, x_ishl, x_ishr, x_iushr, x_ineg, x_ladd, x_lsub, x_lmul, x_ldiv, x_lrem, x_lcmp, x_i2l, x_i2b, x_i2s, x_i2c, x_dup, x_pop, x_dup_x1, x_dup2, x_getfield, x_putfield, x_iaload, x_baload, x_saload, x_caload, x_daload, x_faload, x_laload, x_aaload, x_iastore, x_bastore, x_sastore, x_castore, x_lastore, x_aastore, x_arraylength, x_getstatic, x_goto, x_goto_w, x_ifCond, x_if_icmp, x_ifnull, x_ifnonnull, x_lookupswitch, x_invokevirtual, x_invokestatic, x_invokedynamic, x_ireturn, x_freturn, x_dreturn, x_lreturn, x_areturn, x_return_, pI_c, pL_c, pR_c, pV_i, pV_r, gI_c, gL_c, gR_c, pN_z, pN_s, lget_c, lins_z, lins_c, ldel_z, ldel_c, ldel2_z, ldel2_c, lset_i, lset_l, lset_r, lkeep_z, lkeep_c, largs_z, largs_c, cat_i, cat_l, cat_r, lkp_c, cnd_eq, cnd_ne, cnd_lt, cnd_ge, cnd_gt, cnd_le, swL_z, swL_c, rE_e, rOr_s, rOr_n, rlk_z, rlk_c, aR_c, aI_c, aII_c, aIII_c, aRI_c, aRII_c, aRIII_c, vJn, vJs, vlc, aRR_c, aRRI_c, aRRII_c, aRRIII_c, aRIIII_c, aRL_c, aRLL_c, aLL_c, aRRRI_c, aIL_c, aIIII_c, aRRIIII_c, aIRII_c, aIR_c, aLI_c, aRIR_c, aRIIR_c, oM, hM.1.f24, hM.1.f0, hM.1.t187, hM.1.l187, wa, ba, a0, a1, a3, a4, mpRefS, hM, hAr, hz, hz']
      exact K
    · have hz' : 0 ≤ rfSew (nM σ) (vA σ 176) A B C := by omega
      obtain ⟨⟨q0, q1, q2⟩, q3, q4, q5⟩ := s2 hz'
      have A6 : A < 6 := by omega
      have hSh := hW.sh q0.1 q0.2
      simp [bs_222, hN _, x_iconst, x_ldc2_w, x_aconst_null, x_iload, x_lload, x_aload, x_istore, x_lstore, x_astore, x_iinc, x_iadd, x_isub, x_imul, x_idiv, x_irem, x_iand, x_ior, x_ixor, x_ishl, x_ishr, x_iushr, x_ineg, x_ladd, x_lsub, x_lmul, x_ldiv, x_lrem, x_lcmp, x_i2l, x_i2b, x_i2s, x_i2c, x_dup, x_pop, x_dup_x1, x_dup2, x_getfield, x_putfield, x_iaload, x_baload, x_saload, x_caload, x_daload, x_faload, x_laload, x_aaload, x_iastore, x_bastore, x_sastore, x_castore, x_lastore, x_aastore, x_arraylength, x_getstatic, x_goto, x_goto_w, x_ifCond, x_if_icmp, x_ifnull, x_ifnonnull, x_lookupswitch, x_invokevirtual, x_invokestatic, x_invokedynamic, x_ireturn, x_freturn, x_dreturn, x_lreturn, x_areturn, x_return_, pI_c, pL_c, pR_c, pV_i, pV_r, gI_c, gL_c, gR_c, pN_z, pN_s, lget_c, lins_z, lins_c, ldel_z, ldel_c, ldel2_z, ldel2_c, lset_i, lset_l, lset_r, lkeep_z, lkeep_c, largs_z, largs_c, cat_i, cat_l, cat_r, lkp_c, cnd_eq, cnd_ne, cnd_lt, cnd_ge, cnd_gt, cnd_le, swL_z, swL_c, rE_e, rOr_s, rOr_n, rlk_z, rlk_c, aR_c, aI_c, aII_c, aIII_c, aRI_c, aRII_c, aRIII_c, vJn, vJs, vlc, aRR_c, aRRI_c, aRRII_c, aRRIII_c, aRIIII_c, aRL_c, aRLL_c, aLL_c, aRRRI_c, aIL_c, aIIII_c, aRRIIII_c, aIRII_c, aIR_c, aLI_c, aRIR_c, aRIIR_c, oM, hM.1.f24, hM.1.f0, hM.1.t187, hM.1.l187, wa, ba, a0, a1, a3, a4, mpRefS, hM, hAr, hz, hz', mpSew, RowT.now hM.1, q0, A6, hSh, q1]
      refine ⟨by omega, fun σ' G => ?_⟩
      have K := h σ' (by rw [q4]; exact G.gf)
      simp only at K
      rw [q3] at K
      have q6 : 0 ≤ sewV (vA σ 176) A B C (6 + A) := by first | exact q5 | (rw [← q3]; exact q5)
      simp [q6] at K
      simp [sg_222_124_1, hN _, x_iconst, x_ldc2_w, x_aconst_null, x_iload, x_lload, x_aload, x_istore, x_lstore, x_astore, x_iinc, x_iadd, x_isub, x_imul, x_idiv, x_irem, x_iand, x_ior, x_ixor, x_ishl, x_ishr, x_iushr, x_ineg, x_ladd, x_lsub, x_lmul, x_ldiv, x_lrem, x_lcmp, x_i2l, x_i2b, x_i2s, x_i2c, x_dup, x_pop, x_dup_x1, x_dup2, x_getfield, x_putfield, x_iaload, x_baload, x_saload, x_caload, x_daload, x_faload, x_laload, x_aaload, x_iastore, x_bastore, x_sastore, x_castore, x_lastore, x_aastore, x_arraylength, x_getstatic, x_goto, x_goto_w, x_ifCond, x_if_icmp, x_ifnull, x_ifnonnull, x_lookupswitch, x_invokevirtual, x_invokestatic, x_invokedynamic, x_ireturn, x_freturn, x_dreturn, x_lreturn, x_areturn, x_return_, pI_c, pL_c, pR_c, pV_i, pV_r, gI_c, gL_c, gR_c, pN_z, pN_s, lget_c, lins_z, lins_c, ldel_z, ldel_c, ldel2_z, ldel2_c, lset_i, lset_l, lset_r, lkeep_z, lkeep_c, largs_z, largs_c, cat_i, cat_l, cat_r, lkp_c, cnd_eq, cnd_ne, cnd_lt, cnd_ge, cnd_gt, cnd_le, swL_z, swL_c, rE_e, rOr_s, rOr_n, rlk_z, rlk_c, aR_c, aI_c, aII_c, aIII_c, aRI_c, aRII_c, aRIII_c, vJn, vJs, vlc, aRR_c, aRRI_c, aRRII_c, aRRIII_c, aRIIII_c, aRL_c, aRLL_c, aLL_c, aRRRI_c, aIL_c, aIIII_c, aRRIIII_c, aIRII_c, aIR_c, aLI_c, aRIR_c, aRIIR_c]
      exact K
  · rw [if_neg (by omega), if_neg (by omega), if_neg (by omega)] at h
    have a3 := a3 (Or.inr hk)
    rw [hk] at a0
    generalize hB1 : T (p + 2 : Nat) - 97 = B at h a3
    obtain ⟨s1, s2⟩ := yieldA_q (s := A) (f := B) hW
    by_cases hz : rfYield (nM σ) (vA σ 176) A B < 0
    · obtain ⟨q1, q2⟩ := s1 hz
      rw [q2] at h
      have K := h σ GfF.rf
      have hz' : ¬ 0 ≤ rfYield (nM σ) (vA σ 176) A B := by omega
      simp [q1] at K
      simp [bs_222, hN _, x_iconst, x_ldc2_w, x_aconst_null, x_iload, x_lload, x_aload, x_istore, x_lstore, x_astore, x_iinc, x_iadd, x_isub, x_imul, x_idiv, x_irem, x_iand, x_ior, x_ixor, x_ishl, x_ishr, x_iushr, x_ineg, x_ladd, x_lsub, x_lmul, x_ldiv, x_lrem, x_lcmp, x_i2l, x_i2b, x_i2s, x_i2c, x_dup, x_pop, x_dup_x1, x_dup2, x_getfield, x_putfield, x_iaload, x_baload, x_saload, x_caload, x_daload, x_faload, x_laload, x_aaload, x_iastore, x_bastore, x_sastore, x_castore, x_lastore, x_aastore, x_arraylength, x_getstatic, x_goto, x_goto_w, x_ifCond, x_if_icmp, x_ifnull, x_ifnonnull, x_lookupswitch, x_invokevirtual, x_invokestatic, x_invokedynamic, x_ireturn, x_freturn, x_dreturn, x_lreturn, x_areturn, x_return_, pI_c, pL_c, pR_c, pV_i, pV_r, gI_c, gL_c, gR_c, pN_z, pN_s, lget_c, lins_z, lins_c, ldel_z, ldel_c, ldel2_z, ldel2_c, lset_i, lset_l, lset_r, lkeep_z, lkeep_c, largs_z, largs_c, cat_i, cat_l, cat_r, lkp_c, cnd_eq, cnd_ne, cnd_lt, cnd_ge, cnd_gt, cnd_le, swL_z, swL_c, rE_e, rOr_s, rOr_n, rlk_z, rlk_c, aR_c, aI_c, aII_c, aIII_c, aRI_c, aRII_c, aRIII_c, vJn, vJs, vlc, aRR_c, aRRI_c, aRRII_c, aRRIII_c, aRIIII_c, aRL_c, aRLL_c, aLL_c, aRRRI_c, aIL_c, aIIII_c, aRRIIII_c, aIRII_c, aIR_c, aLI_c, aRIR_c, aRIIR_c, oM, hM.1.f24, hM.1.f0, hM.1.t187, hM.1.l187, wa, ba, a0, a1, a3, mpRefY, hM, hz, hz']
      exact K
    · have hz' : 0 ≤ rfYield (nM σ) (vA σ 176) A B := by omega
      obtain ⟨⟨q0, q1⟩, q3, q4⟩ := s2 hz'
      have A6 : A < 6 := by omega
      simp [bs_222, hN _, x_iconst, x_ldc2_w, x_aconst_null, x_iload, x_lload, x_aload, x_istore, x_lstore, x_astore, x_iinc, x_iadd, x_isub, x_imul, x_idiv, x_irem, x_iand, x_ior, x_ixor, x_ishl, x_ishr, x_iushr, x_ineg, x_ladd, x_lsub, x_lmul, x_ldiv, x_lrem, x_lcmp, x_i2l, x_i2b, x_i2s, x_i2c, x_dup, x_pop, x_dup_x1, x_dup2, x_getfield, x_putfield, x_iaload, x_baload, x_saload, x_caload, x_daload, x_faload, x_laload, x_aaload, x_iastore, x_bastore, x_sastore, x_castore, x_lastore, x_aastore, x_arraylength, x_getstatic, x_goto, x_goto_w, x_ifCond, x_if_icmp, x_ifnull, x_ifnonnull, x_lookupswitch, x_invokevirtual, x_invokestatic, x_invokedynamic, x_ireturn, x_freturn, x_dreturn, x_lreturn, x_areturn, x_return_, pI_c, pL_c, pR_c, pV_i, pV_r, gI_c, gL_c, gR_c, pN_z, pN_s, lget_c, lins_z, lins_c, ldel_z, ldel_c, ldel2_z, ldel2_c, lset_i, lset_l, lset_r, lkeep_z, lkeep_c, largs_z, largs_c, cat_i, cat_l, cat_r, lkp_c, cnd_eq, cnd_ne, cnd_lt, cnd_ge, cnd_gt, cnd_le, swL_z, swL_c, rE_e, rOr_s, rOr_n, rlk_z, rlk_c, aR_c, aI_c, aII_c, aIII_c, aRI_c, aRII_c, aRIII_c, vJn, vJs, vlc, aRR_c, aRRI_c, aRRII_c, aRRIII_c, aRIIII_c, aRL_c, aRLL_c, aLL_c, aRRRI_c, aIL_c, aIIII_c, aRRIIII_c, aIRII_c, aIR_c, aLI_c, aRIR_c, aRIIR_c, oM, hM.1.f24, hM.1.f0, hM.1.t187, hM.1.l187, wa, ba, a0, a1, a3, mpRefY, hM, hM.1, hz, hz', mpYield, q0, A6, q1]
      intro σ' G
      have K := h σ' (by rw [q4]; exact G.gf)
      simp [q3] at K
      simp [sg_222_154_1, hN _, x_iconst, x_ldc2_w, x_aconst_null, x_iload, x_lload, x_aload, x_istore, x_lstore, x_astore, x_iinc, x_iadd, x_isub, x_imul, x_idiv, x_irem, x_iand, x_ior, x_ixor, x_ishl, x_ishr, x_iushr, x_ineg, x_ladd, x_lsub, x_lmul, x_ldiv, x_lrem, x_lcmp, x_i2l, x_i2b, x_i2s, x_i2c, x_dup, x_pop, x_dup_x1, x_dup2, x_getfield, x_putfield, x_iaload, x_baload, x_saload, x_caload, x_daload, x_faload, x_laload, x_aaload, x_iastore, x_bastore, x_sastore, x_castore, x_lastore, x_aastore, x_arraylength, x_getstatic, x_goto, x_goto_w, x_ifCond, x_if_icmp, x_ifnull, x_ifnonnull, x_lookupswitch, x_invokevirtual, x_invokestatic, x_invokedynamic, x_ireturn, x_freturn, x_dreturn, x_lreturn, x_areturn, x_return_, pI_c, pL_c, pR_c, pV_i, pV_r, gI_c, gL_c, gR_c, pN_z, pN_s, lget_c, lins_z, lins_c, ldel_z, ldel_c, ldel2_z, ldel2_c, lset_i, lset_l, lset_r, lkeep_z, lkeep_c, largs_z, largs_c, cat_i, cat_l, cat_r, lkp_c, cnd_eq, cnd_ne, cnd_lt, cnd_ge, cnd_gt, cnd_le, swL_z, swL_c, rE_e, rOr_s, rOr_n, rlk_z, rlk_c, aR_c, aI_c, aII_c, aIII_c, aRI_c, aRII_c, aRIII_c, vJn, vJs, vlc, aRR_c, aRRI_c, aRRII_c, aRRIII_c, aRIIII_c, aRL_c, aRLL_c, aLL_c, aRRRI_c, aIL_c, aIIII_c, aRRIIII_c, aIRII_c, aIR_c, aLI_c, aRIR_c, aRIIR_c]
      exact K
