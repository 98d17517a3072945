/-! StruckColours$Sea: sewsIn, strikesAll, mendsFlag -/
/-- what a ship's row must be for these -/
def ShOK (V : Int → Int) (s : Int) : Prop := (0 ≤ V (6 + s) ∧ V (6 + s) < 4) ∧ (∀ f, 0 ≤ f → f < 4 → 0 ≤ partV V s f ∧ partV V s f ≤ 12) ∧ (0 ≤ V 49 ∧ V 49 ≤ 9999)
def spSewsIn : Sp := fun as t σ Q => aRIII as fun a s f n => SeaT t a ∧ (hsB σ a s → ShOK (vwS σ a) s) ∧
  (¬ (hsB σ a s ∧ (0 ≤ f ∧ f < 4) ∧ (1 ≤ n ∧ n ≤ 12)) → Q (some (vI (-1))) t σ) ∧
  (hsB σ a s → (0 ≤ f ∧ f < 4) → (1 ≤ n ∧ n ≤ 12) → (ownV (vwS σ a) s < n → Q (some (vI (-2))) t σ) ∧ (¬ ownV (vwS σ a) s < n → (vwS σ a (6 + s) = f → Q (some (vI (-3))) t σ) ∧ (¬ vwS σ a (6 + s) = f → ∀ σ', SeaFr σ σ' a → σ' a 0 = σ a 0 → vwS σ' a = sewV (vwS σ a) s f n → Q (some (vI (sewV (vwS σ a) s f n (6 + s)))) t σ')))
set_option maxRecDepth 20000 in
theorem c_sewsIn {l : Launch} {g : GE} {d : Nat} {t : Tau} {σ : Mem} {Q : Post} {as : List TV} (h : spSewsIn as t σ Q) : WPc l g 67 (d + 4) 0 0 as t σ Q := by
  obtain ⟨a, s, f, n, rfl, hs, hW, h1, h2⟩ := aRIII_e h
  have hs' := hs
  obtain ⟨o, f1, f2, f3, f4, f5, f6, t1, t2, t3, t4, t5, t6, l1, l2, l3, l4, l5, l6⟩ := hs
  by_cases hv : hsB σ a s ∧ (0 ≤ f ∧ f < 4) ∧ (1 ≤ n ∧ n ≤ 12)
  · obtain ⟨⟨v0, v1, v2⟩, ⟨q0, q4⟩, n1, n2⟩ := hv
    obtain ⟨⟨a1, a2⟩, hp, p7, p8⟩ := hW ⟨v0, v1, v2⟩
    obtain ⟨h2, h3⟩ := h2 ⟨v0, v1, v2⟩ ⟨q0, q4⟩ ⟨n1, n2⟩
    obtain ⟨o1, o2⟩ := hp _ a1 a2
    obtain ⟨o3, o4⟩ := hp _ q0 q4
    refine wg (by decide) reg3_ok ts_67 py_67 ml_67 30 (by simp [catT]) (fun N hN => ?_)
    have x1 : σ (a + 3) s = vwS σ a (6 + s) := vw_sd v0 v2
    have x3 : σ (a + 6) (4 * s + vwS σ a (6 + s)) = ownV (vwS σ a) s := by rw [vw_fl (σ := σ) (a := a) (j := 4 * s + vwS σ a (6 + s)) (by omega) (by omega)]; congr 1; omega
    have m1 : ¬ n < 1 := by omega
    have m2 : ¬ 12 < n := by omega
    simp [bs_67, hN _, x_iconst, x_ldc2_w, x_aconst_null, x_iload, x_lload, x_aload, x_istore, x_lstore, x_astore, x_iinc, x_iadd, x_isub, x_imul, x_idiv, x_irem, x_iand, x_ior, x_ixor, x_ishl, x_ishr, x_iushr, x_ineg, x_ladd, x_lsub, x_lmul, x_ldiv, x_lrem, x_lcmp, x_i2l, x_i2b, x_i2s, x_i2c, x_dup, x_pop, x_dup_x1, x_dup2, x_getfield, x_putfield, x_iaload, x_baload, x_saload, x_caload, x_daload, x_faload, x_laload, x_aaload, x_iastore, x_bastore, x_sastore, x_castore, x_lastore, x_aastore, x_arraylength, x_getstatic, x_goto, x_goto_w, x_ifCond, x_if_icmp, x_ifnull, x_ifnonnull, x_lookupswitch, x_invokevirtual, x_invokestatic, x_invokedynamic, x_ireturn, x_freturn, x_dreturn, x_lreturn, x_areturn, x_return_, pI_c, pL_c, pR_c, pV_i, pV_r, gI_c, gL_c, gR_c, pN_z, pN_s, lget_c, lins_z, lins_c, ldel_z, ldel_c, ldel2_z, ldel2_c, lset_i, lset_l, lset_r, lkeep_z, lkeep_c, largs_z, largs_c, cat_i, cat_l, cat_r, lkp_c, cnd_eq, cnd_ne, cnd_lt, cnd_ge, cnd_gt, cnd_le, swL_z, swL_c, rE_e, rOr_s, rOr_n, rlk_z, rlk_c, aR_c, aI_c, aII_c, aIII_c, aRI_c, aRII_c, aRIII_c, vJn, vJs, vlc, spHas, spSide, spParts, spOf, spResews, SeaPre, hsB, o, hs', v0, v1, v2, x1, x3, a1, a2, q0, q4, n1, n2, m1, m2]
    refine ⟨fun z => by omega, fun z => by omega, fun z1 => ⟨fun z2 => ⟨by omega, ⟨o1, by omega, o3, by omega⟩, fun σ1 F1 zz V1 => ?_⟩, fun z2 => (h3 (by omega)).1 z2⟩, fun z => h2 z⟩
    have d1 : vwS σ1 a (6 + s) = vwS σ a (6 + s) := by rw [V1, sewP_n (by omega) (by omega)]
    have d2 : vwS σ1 a 49 = vwS σ a 49 := by rw [V1, sewP_n (by omega) (by omega)]
    simp [sg_67_57_1, hN _, x_iconst, x_ldc2_w, x_aconst_null, x_iload, x_lload, x_aload, x_istore, x_lstore, x_astore, x_iinc, x_iadd, x_isub, x_imul, x_idiv, x_irem, x_iand, x_ior, x_ixor, x_ishl, x_ishr, x_iushr, x_ineg, x_ladd, x_lsub, x_lmul, x_ldiv, x_lrem, x_lcmp, x_i2l, x_i2b, x_i2s, x_i2c, x_dup, x_pop, x_dup_x1, x_dup2, x_getfield, x_putfield, x_iaload, x_baload, x_saload, x_caload, x_daload, x_faload, x_laload, x_aaload, x_iastore, x_bastore, x_sastore, x_castore, x_lastore, x_aastore, x_arraylength, x_getstatic, x_goto, x_goto_w, x_ifCond, x_if_icmp, x_ifnull, x_ifnonnull, x_lookupswitch, x_invokevirtual, x_invokestatic, x_invokedynamic, x_ireturn, x_freturn, x_dreturn, x_lreturn, x_areturn, x_return_, pI_c, pL_c, pR_c, pV_i, pV_r, gI_c, gL_c, gR_c, pN_z, pN_s, lget_c, lins_z, lins_c, ldel_z, ldel_c, ldel2_z, ldel2_c, lset_i, lset_l, lset_r, lkeep_z, lkeep_c, largs_z, largs_c, cat_i, cat_l, cat_r, lkp_c, cnd_eq, cnd_ne, cnd_lt, cnd_ge, cnd_gt, cnd_le, swL_z, swL_c, rE_e, rOr_s, rOr_n, rlk_z, rlk_c, aR_c, aI_c, aII_c, aIII_c, aRI_c, aRII_c, aRIII_c, vJn, vJs, vlc, spGo, SeaPre, hsB, o, hs', v0, v1, v2, zz, d1, d2, a1, a2, p7, p8]
    intro σ2 F2 zz2 V2
    have x9 : σ2 (a + 3) s = vwS σ2 a (6 + s) := vw_sd v0 v2
    simp [sg_67_57_2, hN _, x_iconst, x_ldc2_w, x_aconst_null, x_iload, x_lload, x_aload, x_istore, x_lstore, x_astore, x_iinc, x_iadd, x_isub, x_imul, x_idiv, x_irem, x_iand, x_ior, x_ixor, x_ishl, x_ishr, x_iushr, x_ineg, x_ladd, x_lsub, x_lmul, x_ldiv, x_lrem, x_lcmp, x_i2l, x_i2b, x_i2s, x_i2c, x_dup, x_pop, x_dup_x1, x_dup2, x_getfield, x_putfield, x_iaload, x_baload, x_saload, x_caload, x_daload, x_faload, x_laload, x_aaload, x_iastore, x_bastore, x_sastore, x_castore, x_lastore, x_aastore, x_arraylength, x_getstatic, x_goto, x_goto_w, x_ifCond, x_if_icmp, x_ifnull, x_ifnonnull, x_lookupswitch, x_invokevirtual, x_invokestatic, x_invokedynamic, x_ireturn, x_freturn, x_dreturn, x_lreturn, x_areturn, x_return_, pI_c, pL_c, pR_c, pV_i, pV_r, gI_c, gL_c, gR_c, pN_z, pN_s, lget_c, lins_z, lins_c, ldel_z, ldel_c, ldel2_z, ldel2_c, lset_i, lset_l, lset_r, lkeep_z, lkeep_c, largs_z, largs_c, cat_i, cat_l, cat_r, lkp_c, cnd_eq, cnd_ne, cnd_lt, cnd_ge, cnd_gt, cnd_le, swL_z, swL_c, rE_e, rOr_s, rOr_n, rlk_z, rlk_c, aR_c, aI_c, aII_c, aIII_c, aRI_c, aRII_c, aRIII_c, vJn, vJs, vlc, spOf, hsB, o, hs', v0, v1, v2, zz2, x9]
    rw [V2, V1]
    exact (h3 (by omega)).2 z2 σ2 (F1.tr F2) (by omega) (by rw [V2, V1]; rfl)
  · have h1 := h1 hv
    refine wg (by decide) reg3_ok ts_67 py_67 ml_67 30 (by simp [catT]) (fun N hN => ?_)
    simp [bs_67, hN _, x_iconst, x_ldc2_w, x_aconst_null, x_iload, x_lload, x_aload, x_istore, x_lstore, x_astore, x_iinc, x_iadd, x_isub, x_imul, x_idiv, x_irem, x_iand, x_ior, x_ixor, x_ishl, x_ishr, x_iushr, x_ineg, x_ladd, x_lsub, x_lmul, x_ldiv, x_lrem, x_lcmp, x_i2l, x_i2b, x_i2s, x_i2c, x_dup, x_pop, x_dup_x1, x_dup2, x_getfield, x_putfield, x_iaload, x_baload, x_saload, x_caload, x_daload, x_faload, x_laload, x_aaload, x_iastore, x_bastore, x_sastore, x_castore, x_lastore, x_aastore, x_arraylength, x_getstatic, x_goto, x_goto_w, x_ifCond, x_if_icmp, x_ifnull, x_ifnonnull, x_lookupswitch, x_invokevirtual, x_invokestatic, x_invokedynamic, x_ireturn, x_freturn, x_dreturn, x_lreturn, x_areturn, x_return_, pI_c, pL_c, pR_c, pV_i, pV_r, gI_c, gL_c, gR_c, pN_z, pN_s, lget_c, lins_z, lins_c, ldel_z, ldel_c, ldel2_z, ldel2_c, lset_i, lset_l, lset_r, lkeep_z, lkeep_c, largs_z, largs_c, cat_i, cat_l, cat_r, lkp_c, cnd_eq, cnd_ne, cnd_lt, cnd_ge, cnd_gt, cnd_le, swL_z, swL_c, rE_e, rOr_s, rOr_n, rlk_z, rlk_c, aR_c, aI_c, aII_c, aIII_c, aRI_c, aRII_c, aRIII_c, vJn, vJs, vlc, spHas, spSide, spParts, spOf, spResews, SeaPre, hsB, o, hs']
    refine ⟨fun _ => h1, fun r1 r2 r3 => ⟨fun _ => h1, fun r4 r5 => ⟨fun _ => h1, fun r6 => ⟨fun r7 => (hv ⟨⟨r1, r2, r3⟩, ⟨r4, r5⟩, r6, r7⟩).elim, fun _ => h1⟩⟩⟩⟩
def spStrikesAll : Sp := fun as t σ Q => aRII as fun a s f => SeaT t a ∧ (hsB σ a s → ShOK (vwS σ a) s) ∧
  (¬ (hsB σ a s ∧ (0 ≤ f ∧ f < 4)) → Q (some (vI (-1))) t σ) ∧
  (hsB σ a s → (0 ≤ f ∧ f < 4) → (partV (vwS σ a) s f = 12 → Q (some (vI (-2))) t σ) ∧ (¬ partV (vwS σ a) s f = 12 → ∀ σ', SeaFr σ σ' a → σ' a 0 = σ a 0 → vwS σ' a = yieldV (vwS σ a) s f → Q (some (vI (12 - partV (vwS σ a) s f))) t σ'))
set_option maxRecDepth 20000 in
theorem c_strikesAll {l : Launch} {g : GE} {d : Nat} {t : Tau} {σ : Mem} {Q : Post} {as : List TV} (h : spStrikesAll as t σ Q) : WPc l g 68 (d + 4) 0 0 as t σ Q := by
  obtain ⟨a, s, f, rfl, hs, hW, h1, h2⟩ := aRII_e h
  have hs' := hs
  obtain ⟨o, f1, f2, f3, f4, f5, f6, t1, t2, t3, t4, t5, t6, l1, l2, l3, l4, l5, l6⟩ := hs
  by_cases hv : hsB σ a s ∧ (0 ≤ f ∧ f < 4)
  · obtain ⟨⟨v0, v1, v2⟩, q0, q4⟩ := hv
    obtain ⟨⟨a1, a2⟩, hp, p7, p8⟩ := hW ⟨v0, v1, v2⟩
    obtain ⟨h2, h3⟩ := h2 ⟨v0, v1, v2⟩ ⟨q0, q4⟩
    obtain ⟨o3, o4⟩ := hp _ q0 q4
    refine wg (by decide) reg3_ok ts_68 py_68 ml_68 30 (by simp [catT]) (fun N hN => ?_)
    have x3 : σ (a + 6) (4 * s + f) = partV (vwS σ a) s f := by rw [vw_fl (σ := σ) (a := a) (j := 4 * s + f) (by omega) (by omega)]; congr 1; omega
    have e1 : w32 (12 - partV (vwS σ a) s f) = 12 - partV (vwS σ a) s f := w32_id (by omega) (by omega)
    simp [bs_68, hN _, x_iconst, x_ldc2_w, x_aconst_null, x_iload, x_lload, x_aload, x_istore, x_lstore, x_astore, x_iinc, x_iadd, x_isub, x_imul, x_idiv, x_irem, x_iand, x_ior, x_ixor, x_ishl, x_ishr, x_iushr, x_ineg, x_ladd, x_lsub, x_lmul, x_ldiv, x_lrem, x_lcmp, x_i2l, x_i2b, x_i2s, x_i2c, x_dup, x_pop, x_dup_x1, x_dup2, x_getfield, x_putfield, x_iaload, x_baload, x_saload, x_caload, x_daload, x_faload, x_laload, x_aaload, x_iastore, x_bastore, x_sastore, x_castore, x_lastore, x_aastore, x_arraylength, x_getstatic, x_goto, x_goto_w, x_ifCond, x_if_icmp, x_ifnull, x_ifnonnull, x_lookupswitch, x_invokevirtual, x_invokestatic, x_invokedynamic, x_ireturn, x_freturn, x_dreturn, x_lreturn, x_areturn, x_return_, pI_c, pL_c, pR_c, pV_i, pV_r, gI_c, gL_c, gR_c, pN_z, pN_s, lget_c, lins_z, lins_c, ldel_z, ldel_c, ldel2_z, ldel2_c, lset_i, lset_l, lset_r, lkeep_z, lkeep_c, largs_z, largs_c, cat_i, cat_l, cat_r, lkp_c, cnd_eq, cnd_ne, cnd_lt, cnd_ge, cnd_gt, cnd_le, swL_z, swL_c, rE_e, rOr_s, rOr_n, rlk_z, rlk_c, aR_c, aI_c, aII_c, aIII_c, aRI_c, aRII_c, aRIII_c, vJn, vJs, vlc, spHas, spSide, spParts, spOf, spHoists, SeaPre, hsB, o, hs', v0, v1, v2, x3, q0, q4, e1]
    refine ⟨fun z => by omega, ⟨fun z1 σ1 F1 zz V1 => ?_, fun z1 => h2 (by omega)⟩, fun z => by omega⟩
    simp [sg_68_34_1, hN _, x_iconst, x_ldc2_w, x_aconst_null, x_iload, x_lload, x_aload, x_istore, x_lstore, x_astore, x_iinc, x_iadd, x_isub, x_imul, x_idiv, x_irem, x_iand, x_ior, x_ixor, x_ishl, x_ishr, x_iushr, x_ineg, x_ladd, x_lsub, x_lmul, x_ldiv, x_lrem, x_lcmp, x_i2l, x_i2b, x_i2s, x_i2c, x_dup, x_pop, x_dup_x1, x_dup2, x_getfield, x_putfield, x_iaload, x_baload, x_saload, x_caload, x_daload, x_faload, x_laload, x_aaload, x_iastore, x_bastore, x_sastore, x_castore, x_lastore, x_aastore, x_arraylength, x_getstatic, x_goto, x_goto_w, x_ifCond, x_if_icmp, x_ifnull, x_ifnonnull, x_lookupswitch, x_invokevirtual, x_invokestatic, x_invokedynamic, x_ireturn, x_freturn, x_dreturn, x_lreturn, x_areturn, x_return_, pI_c, pL_c, pR_c, pV_i, pV_r, gI_c, gL_c, gR_c, pN_z, pN_s, lget_c, lins_z, lins_c, ldel_z, ldel_c, ldel2_z, ldel2_c, lset_i, lset_l, lset_r, lkeep_z, lkeep_c, largs_z, largs_c, cat_i, cat_l, cat_r, lkp_c, cnd_eq, cnd_ne, cnd_lt, cnd_ge, cnd_gt, cnd_le, swL_z, swL_c, rE_e, rOr_s, rOr_n, rlk_z, rlk_c, aR_c, aI_c, aII_c, aIII_c, aRI_c, aRII_c, aRIII_c, vJn, vJs, vlc]
    exact h3 (by omega) σ1 F1 zz V1
  · have h1 := h1 hv
    refine wg (by decide) reg3_ok ts_68 py_68 ml_68 30 (by simp [catT]) (fun N hN => ?_)
    simp [bs_68, hN _, x_iconst, x_ldc2_w, x_aconst_null, x_iload, x_lload, x_aload, x_istore, x_lstore, x_astore, x_iinc, x_iadd, x_isub, x_imul, x_idiv, x_irem, x_iand, x_ior, x_ixor, x_ishl, x_ishr, x_iushr, x_ineg, x_ladd, x_lsub, x_lmul, x_ldiv, x_lrem, x_lcmp, x_i2l, x_i2b, x_i2s, x_i2c, x_dup, x_pop, x_dup_x1, x_dup2, x_getfield, x_putfield, x_iaload, x_baload, x_saload, x_caload, x_daload, x_faload, x_laload, x_aaload, x_iastore, x_bastore, x_sastore, x_castore, x_lastore, x_aastore, x_arraylength, x_getstatic, x_goto, x_goto_w, x_ifCond, x_if_icmp, x_ifnull, x_ifnonnull, x_lookupswitch, x_invokevirtual, x_invokestatic, x_invokedynamic, x_ireturn, x_freturn, x_dreturn, x_lreturn, x_areturn, x_return_, pI_c, pL_c, pR_c, pV_i, pV_r, gI_c, gL_c, gR_c, pN_z, pN_s, lget_c, lins_z, lins_c, ldel_z, ldel_c, ldel2_z, ldel2_c, lset_i, lset_l, lset_r, lkeep_z, lkeep_c, largs_z, largs_c, cat_i, cat_l, cat_r, lkp_c, cnd_eq, cnd_ne, cnd_lt, cnd_ge, cnd_gt, cnd_le, swL_z, swL_c, rE_e, rOr_s, rOr_n, rlk_z, rlk_c, aR_c, aI_c, aII_c, aIII_c, aRI_c, aRII_c, aRIII_c, vJn, vJs, vlc, spHas, spSide, spParts, spOf, spHoists, SeaPre, hsB, o, hs']
    refine ⟨fun _ => h1, fun r1 r2 r3 => ⟨fun r4 r5 => (hv ⟨⟨r1, r2, r3⟩, r4, r5⟩).elim, fun _ => h1⟩⟩
/-- which SIDE mends: the loop's turn -/
theorem men_step {l : Launch} {g : GE} {d : Nat} {t : Tau} {σ : Mem} {Q : Post} {a s w : Int} {k : Nat} (hs : SeaT t a) (hv : hsB σ a s) (hS : ShOK (vwS σ a) s) (hk : k < 4) (hw : w = fewS (vwS σ a) s k) (hw2 : w = -1 ∨ 0 ≤ w ∧ w < 4) (K : Wp l g 66 (d + 4) 0 0 4 [(0, vR a), (1, vI s), (2, vI (fewS (vwS σ a) s (k + 1))), (3, vI (k + 1 : Nat))] [] t σ Q) :
    Wp l g 66 (d + 4) 0 0 4 [(0, vR a), (1, vI s), (2, vI w), (3, vI k)] [] t σ Q := by
  have hs' := hs
  obtain ⟨o, f1, f2, f3, f4, f5, f6, t1, t2, t3, t4, t5, t6, l1, l2, l3, l4, l5, l6⟩ := hs
  obtain ⟨v0, v1, v2⟩ := hv
  obtain ⟨⟨a1, a2⟩, hp, p7, p8⟩ := hS
  have nk : ¬ (4 : Int) ≤ k := by omega
  have k0 : (0 : Int) ≤ k := by omega
  have k4 : (k : Int) < 4 := by omega
  have e2 := w32_succ (k := k) (by omega)
  have x1 : σ (a + 3) s = vwS σ a (6 + s) := vw_sd v0 v2
  have x3 : σ (a + 6) (4 * s + k) = partV (vwS σ a) s k := by rw [vw_fl (σ := σ) (a := a) (j := 4 * s + k) (by omega) (by omega)]; congr 1; omega
  have x4 : 0 ≤ w → w < 4 → σ (a + 6) (4 * s + w) = partV (vwS σ a) s w := fun z1 z2 => by rw [vw_fl (σ := σ) (a := a) (j := 4 * s + w) (by omega) (by omega)]; congr 1; omega
  refine wa (by decide) reg3_ok tk_66 30 (fun N hN => ?_)
  have K1 : ∀ y, y = fewS (vwS σ a) s (k + 1) → Wp l g 66 (d + 4) 0 0 4 [(0, vR a), (1, vI s), (2, vI y), (3, vI ((k : Int) + 1))] [] t σ Q := fun y hy => by
    rw [hy, show (k : Int) + 1 = ((k + 1 : Nat) : Int) by omega]
    exact K
  have hfe : fewS (vwS σ a) s (k + 1) = if (k : Int) ≠ vwS σ a (6 + s) ∧ 0 < partV (vwS σ a) s k ∧ (w = -1 ∨ partV (vwS σ a) s k < partV (vwS σ a) s w) then (k : Int) else w := by rw [hw]; rfl
  simp [bl_66, hN _, x_iconst, x_ldc2_w, x_aconst_null, x_iload, x_lload, x_aload, x_istore, x_lstore, x_astore, x_iinc, x_iadd, x_isub, x_imul, x_idiv, x_irem, x_iand, x_ior, x_ixor, x_ishl, x_ishr, x_iushr, x_ineg, x_ladd, x_lsub, x_lmul, x_ldiv, x_lrem, x_lcmp, x_i2l, x_i2b, x_i2s, x_i2c, x_dup, x_pop, x_dup_x1, x_dup2, x_getfield, x_putfield, x_iaload, x_baload, x_saload, x_caload, x_daload, x_faload, x_laload, x_aaload, x_iastore, x_bastore, x_sastore, x_castore, x_lastore, x_aastore, x_arraylength, x_getstatic, x_goto, x_goto_w, x_ifCond, x_if_icmp, x_ifnull, x_ifnonnull, x_lookupswitch, x_invokevirtual, x_invokestatic, x_invokedynamic, x_ireturn, x_freturn, x_dreturn, x_lreturn, x_areturn, x_return_, pI_c, pL_c, pR_c, pV_i, pV_r, gI_c, gL_c, gR_c, pN_z, pN_s, lget_c, lins_z, lins_c, ldel_z, ldel_c, ldel2_z, ldel2_c, lset_i, lset_l, lset_r, lkeep_z, lkeep_c, largs_z, largs_c, cat_i, cat_l, cat_r, lkp_c, cnd_eq, cnd_ne, cnd_lt, cnd_ge, cnd_gt, cnd_le, swL_z, swL_c, rE_e, rOr_s, rOr_n, rlk_z, rlk_c, aR_c, aI_c, aII_c, aIII_c, aRI_c, aRII_c, aRIII_c, vJn, vJs, vlc, spHas, spSide, spParts, spOf, hsB, o, hs', v0, v1, v2, x1, x3, a1, a2, k0, k4, e2]
  refine ⟨fun z => absurd z nk, fun z => K1 w (by rw [hfe, if_neg (fun q => q.1 z)]), fun z1 => ⟨fun z2 => K1 w (by rw [hfe, if_neg (fun q => absurd q.2.1 (Int.not_lt.mpr z2))]), fun z2 => ⟨fun z3 => K1 k (by rw [hfe, if_pos ⟨z1, z2, Or.inl z3⟩]), fun z3 => ?_⟩⟩⟩
  have hw3 : 0 ≤ w ∧ w < 4 := by omega
  rw [if_pos hw3, x4 hw3.1 hw3.2]
  exact ⟨fun z4 => K1 w (by rw [hfe, if_neg (fun q => q.2.2.elim z3 (fun q => absurd q (Int.not_lt.mpr z4)))]), fun z4 => K1 k (by rw [hfe, if_pos ⟨z1, z2, Or.inr z4⟩])⟩
theorem fewS_b (V : Int → Int) (i : Int) : ∀ n : Nat, fewS V i n = -1 ∨ (0 ≤ fewS V i n ∧ fewS V i n < n)
  | 0 => Or.inl rfl
  | n + 1 => by
    have ih := fewS_b V i n
    unfold fewS
    split <;> omega
def spMends : Sp := fun as t σ Q => aRI as fun a s => SeaPre t σ a s ∧ ShOK (vwS σ a) s ∧ ∀ σ', SeaFr σ σ' a → σ' a 0 = σ a 0 → vwS σ' a = mendV (vwS σ a) s → Q none t σ'
theorem men_end {l : Launch} {g : GE} {d : Nat} {t : Tau} {σ : Mem} {Q : Post} {a s : Int} (hs : SeaT t a) (hv : hsB σ a s) (hS : ShOK (vwS σ a) s) (h : ∀ σ', SeaFr σ σ' a → σ' a 0 = σ a 0 → vwS σ' a = mendV (vwS σ a) s → Q none t σ') :
    Wp l g 66 (d + 4) 0 0 4 [(0, vR a), (1, vI s), (2, vI (fewS (vwS σ a) s 4)), (3, vI 4)] [] t σ Q := by
  have hs' := hs
  obtain ⟨o, f1, f2, f3, f4, f5, f6, t1, t2, t3, t4, t5, t6, l1, l2, l3, l4, l5, l6⟩ := hs
  obtain ⟨v0, v1, v2⟩ := hv
  obtain ⟨⟨a1, a2⟩, hp, p7, p8⟩ := hS
  have hb := fewS_b (vwS σ a) s 4
  have x1 : σ (a + 3) s = vwS σ a (6 + s) := vw_sd v0 v2
  obtain ⟨o1, o2⟩ := hp _ a1 a2
  refine wa (by decide) reg3_ok tk_66 30 (fun N hN => ?_)
  simp [bl_66, hN _, x_iconst, x_ldc2_w, x_aconst_null, x_iload, x_lload, x_aload, x_istore, x_lstore, x_astore, x_iinc, x_iadd, x_isub, x_imul, x_idiv, x_irem, x_iand, x_ior, x_ixor, x_ishl, x_ishr, x_iushr, x_ineg, x_ladd, x_lsub, x_lmul, x_ldiv, x_lrem, x_lcmp, x_i2l, x_i2b, x_i2s, x_i2c, x_dup, x_pop, x_dup_x1, x_dup2, x_getfield, x_putfield, x_iaload, x_baload, x_saload, x_caload, x_daload, x_faload, x_laload, x_aaload, x_iastore, x_bastore, x_sastore, x_castore, x_lastore, x_aastore, x_arraylength, x_getstatic, x_goto, x_goto_w, x_ifCond, x_if_icmp, x_ifnull, x_ifnonnull, x_lookupswitch, x_invokevirtual, x_invokestatic, x_invokedynamic, x_ireturn, x_freturn, x_dreturn, x_lreturn, x_areturn, x_return_, pI_c, pL_c, pR_c, pV_i, pV_r, gI_c, gL_c, gR_c, pN_z, pN_s, lget_c, lins_z, lins_c, ldel_z, ldel_c, ldel2_z, ldel2_c, lset_i, lset_l, lset_r, lkeep_z, lkeep_c, largs_z, largs_c, cat_i, cat_l, cat_r, lkp_c, cnd_eq, cnd_ne, cnd_lt, cnd_ge, cnd_gt, cnd_le, swL_z, swL_c, rE_e, rOr_s, rOr_n, rlk_z, rlk_c, aR_c, aI_c, aII_c, aIII_c, aRI_c, aRII_c, aRIII_c, vJn, vJs, vlc, spHas, spSide, spParts, spOf, hsB, o, hs', v0, v1, v2, x1]
  refine ⟨fun z => h σ SeaFr.rf rfl (by unfold mendV; rw [if_pos z]), fun z => ?_⟩
  have hw3 : 0 ≤ fewS (vwS σ a) s 4 ∧ fewS (vwS σ a) s 4 < 4 := by omega
  obtain ⟨o3, o4⟩ := hp _ hw3.1 hw3.2
  simp [spResews, hN _, x_iconst, x_ldc2_w, x_aconst_null, x_iload, x_lload, x_aload, x_istore, x_lstore, x_astore, x_iinc, x_iadd, x_isub, x_imul, x_idiv, x_irem, x_iand, x_ior, x_ixor, x_ishl, x_ishr, x_iushr, x_ineg, x_ladd, x_lsub, x_lmul, x_ldiv, x_lrem, x_lcmp, x_i2l, x_i2b, x_i2s, x_i2c, x_dup, x_pop, x_dup_x1, x_dup2, x_getfield, x_putfield, x_iaload, x_baload, x_saload, x_caload, x_daload, x_faload, x_laload, x_aaload, x_iastore, x_bastore, x_sastore, x_castore, x_lastore, x_aastore, x_arraylength, x_getstatic, x_goto, x_goto_w, x_ifCond, x_if_icmp, x_ifnull, x_ifnonnull, x_lookupswitch, x_invokevirtual, x_invokestatic, x_invokedynamic, x_ireturn, x_freturn, x_dreturn, x_lreturn, x_areturn, x_return_, pI_c, pL_c, pR_c, pV_i, pV_r, gI_c, gL_c, gR_c, pN_z, pN_s, lget_c, lins_z, lins_c, ldel_z, ldel_c, ldel2_z, ldel2_c, lset_i, lset_l, lset_r, lkeep_z, lkeep_c, largs_z, largs_c, cat_i, cat_l, cat_r, lkp_c, cnd_eq, cnd_ne, cnd_lt, cnd_ge, cnd_gt, cnd_le, swL_z, swL_c, rE_e, rOr_s, rOr_n, rlk_z, rlk_c, aR_c, aI_c, aII_c, aIII_c, aRI_c, aRII_c, aRIII_c, vJn, vJs, vlc, SeaPre, hsB, hs', v0, v1, v2, hw3, a1, a2]
  refine ⟨by omega, fun σ' F zz V => h σ' F zz ?_⟩
  rw [V]
  unfold mendV
  rw [if_neg z]
theorem c_mendsFlag {l : Launch} {g : GE} {d : Nat} {t : Tau} {σ : Mem} {Q : Post} {as : List TV} (h : spMends as t σ Q) : WPc l g 66 (d + 4) 0 0 as t σ Q := by
  obtain ⟨a, s, rfl, ⟨hs, hv⟩, hS, h⟩ := aRI_e h
  refine wg (by decide) reg3_ok tk_66 py_66 ml_66 30 (by simp [catT]) (fun N hN => ?_)
  simp [bl_66, hN _, x_iconst, x_ldc2_w, x_aconst_null, x_iload, x_lload, x_aload, x_istore, x_lstore, x_astore, x_iinc, x_iadd, x_isub, x_imul, x_idiv, x_irem, x_iand, x_ior, x_ixor, x_ishl, x_ishr, x_iushr, x_ineg, x_ladd, x_lsub, x_lmul, x_ldiv, x_lrem, x_lcmp, x_i2l, x_i2b, x_i2s, x_i2c, x_dup, x_pop, x_dup_x1, x_dup2, x_getfield, x_putfield, x_iaload, x_baload, x_saload, x_caload, x_daload, x_faload, x_laload, x_aaload, x_iastore, x_bastore, x_sastore, x_castore, x_lastore, x_aastore, x_arraylength, x_getstatic, x_goto, x_goto_w, x_ifCond, x_if_icmp, x_ifnull, x_ifnonnull, x_lookupswitch, x_invokevirtual, x_invokestatic, x_invokedynamic, x_ireturn, x_freturn, x_dreturn, x_lreturn, x_areturn, x_return_, pI_c, pL_c, pR_c, pV_i, pV_r, gI_c, gL_c, gR_c, pN_z, pN_s, lget_c, lins_z, lins_c, ldel_z, ldel_c, ldel2_z, ldel2_c, lset_i, lset_l, lset_r, lkeep_z, lkeep_c, largs_z, largs_c, cat_i, cat_l, cat_r, lkp_c, cnd_eq, cnd_ne, cnd_lt, cnd_ge, cnd_gt, cnd_le, swL_z, swL_c, rE_e, rOr_s, rOr_n, rlk_z, rlk_c, aR_c, aI_c, aII_c, aIII_c, aRI_c, aRII_c, aRIII_c, vJn, vJs, vlc]
  refine men_step (k := 0) hs hv hS (by omega) rfl (Or.inl rfl) ?_
  refine men_step (k := 1) hs hv hS (by omega) rfl (by have := fewS_b (vwS σ a) s (0 + 1); omega) ?_
  refine men_step (k := 2) hs hv hS (by omega) rfl (by have := fewS_b (vwS σ a) s (1 + 1); omega) ?_
  refine men_step (k := 3) hs hv hS (by omega) rfl (by have := fewS_b (vwS σ a) s (2 + 1); omega) ?_
  exact men_end hs hv hS h
