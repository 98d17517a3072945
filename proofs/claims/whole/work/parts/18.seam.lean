/-! StruckColours$Sea: fights, days, what is sewn in -/
def SOK (V : Int → Int) (w l k : Int) : Prop := (0 ≤ V (6 + w) ∧ V (6 + w) < 4 ∧ 0 ≤ V (6 + l) ∧ V (6 + l) < 4) ∧ (0 ≤ ownV V w ∧ ownV V w ≤ 12 ∧ 0 ≤ partV V w (V (6 + l)) ∧ partV V w (V (6 + l)) ≤ 12) ∧ (1 ≤ k ∧ k ≤ 6) ∧ (0 ≤ V (36 + w) ∧ V (36 + w) ≤ 99 ∧ 0 ≤ V (42 + l) ∧ V (42 + l) ≤ 99 ∧ 0 ≤ V l ∧ V l ≤ 9) ∧ (0 ≤ V 49 ∧ V 49 ≤ 9999)
theorem sewP_n {V : Int → Int} {i f u k j : Int} (h1 : j ≠ 12 + 4 * i + f) (h2 : j ≠ 12 + 4 * i + u) : sewP V i f u k j = V j := by
  unfold sewP
  rw [upv_n h2, upv_n h1]
theorem goV_n {V : Int → Int} {i j : Int} (h1 : j ≠ 6 + i) (h2 : j ≠ 49) : goV V i j = V j := by
  unfold goV
  split
  · rfl
  · rw [upv_n h2, upv_n h1]
theorem goV_49 {V : Int → Int} {i : Int} (hi : 6 + i ≠ 49) (h0 : 0 ≤ V 49) (h1 : V 49 ≤ 9999) : 0 ≤ goV V i 49 ∧ goV V i 49 ≤ 9999 := by
  unfold goV
  split
  · exact ⟨h0, h1⟩
  · rw [upv_s]; omega
theorem up_ap (s : Mem) (x j v o i : Int) : up s x j v o i = if o = x ∧ i = j then v else s o i := congrArg id (rfl : up s x j v o i = _)
theorem na1 (a : Int) : (a = a + 1) = False := eq_false (by omega)
theorem na2 (a : Int) : (a = a + 2) = False := eq_false (by omega)
theorem na3 (a : Int) : (a = a + 3) = False := eq_false (by omega)
theorem na4 (a : Int) : (a = a + 4) = False := eq_false (by omega)
theorem na5 (a : Int) : (a = a + 5) = False := eq_false (by omega)
theorem na6 (a : Int) : (a = a + 6) = False := eq_false (by omega)
theorem strikeV_eq {V : Int → Int} {k w l : Int} (v0 : 0 ≤ w) (v2 : w < 6) (u0 : 0 ≤ l) (u2 : l < 6) (a1 : 0 ≤ V (6 + w)) (a3 : 0 ≤ V (6 + l)) (a2 : V (6 + w) < 4) (a4 : V (6 + l) < 4) : strikeV k V w l = goV (goV (upv (upv (upv (sewP V w (V (6 + w)) (V (6 + l)) (min k (ownV V w))) (36 + w) (min (V (36 + w) + 1) 99)) l (max (V l - 1) 0)) (42 + l) (min (V (42 + l) + 1) 99)) w) l := by
  unfold strikeV
  simp only []
  rw [sewP_n (j := 36 + w) (by omega) (by omega), upv_n (k := l) (by omega), sewP_n (j := l) (by omega) (by omega), upv_n (k := 42 + l) (by omega), upv_n (k := 42 + l) (by omega), sewP_n (j := 42 + l) (by omega) (by omega)]
def spStrikesTo : Sp := fun as t σ Q => aRIII as fun a w b k => SeaT t a ∧ hsB σ a w ∧ hsB σ a b ∧ w ≠ b ∧ SOK (vwS σ a) w b k ∧ ∀ σ', SeaFr σ σ' a → σ' a 0 = σ a 0 → vwS σ' a = strikeV k (vwS σ a) w b → Q none t σ'
set_option maxRecDepth 20000 in
theorem c_strikesTo {l : Launch} {g : GE} {d : Nat} {t : Tau} {σ : Mem} {Q : Post} {as : List TV} (h : spStrikesTo as t σ Q) : WPc l g 64 (d + 4) 0 0 as t σ Q := by
  obtain ⟨a, w, b, k, rfl, hs, ⟨v0, v1, v2⟩, ⟨u0, u1, u2⟩, hne, hS, h⟩ := aRIII_e h
  have hs' := hs
  obtain ⟨o, f1, f2, f3, f4, f5, f6, t1, t2, t3, t4, t5, t6, l1, l2, l3, l4, l5, l6⟩ := hs
  obtain ⟨⟨a1, a2, a3, a4⟩, ⟨o1, o2, o3, o4⟩, ⟨k1, k2⟩, ⟨n1, n2, n3, n4, n5, n6⟩, n7, n8⟩ := hS
  refine wg (by decide) reg3_ok ts_64 py_64 ml_64 30 (by simp [catT]) (fun N hN => ?_)
  have x1 : σ (a + 3) w = vwS σ a (6 + w) := vw_sd v0 v2
  have x2 : σ (a + 3) b = vwS σ a (6 + b) := vw_sd u0 u2
  have x3 : σ (a + 6) (4 * w + vwS σ a (6 + w)) = ownV (vwS σ a) w := by rw [vw_fl (σ := σ) (a := a) (j := 4 * w + vwS σ a (6 + w)) (by omega) (by omega)]; congr 1; omega
  simp [bs_64, hN _, x_iconst, x_ldc2_w, x_aconst_null, x_iload, x_lload, x_aload, x_istore, x_lstore, x_astore, x_iinc, x_iadd, x_isub, x_imul, x_idiv, x_irem, x_iand, x_ior, x_ixor, x_ishl, x_ishr, x_iushr, x_ineg, x_ladd, x_lsub, x_lmul, x_ldiv, x_lrem, x_lcmp, x_i2l, x_i2b, x_i2s, x_i2c, x_dup, x_pop, x_dup_x1, x_dup2, x_getfield, x_putfield, x_iaload, x_baload, x_saload, x_caload, x_daload, x_faload, x_laload, x_aaload, x_iastore, x_bastore, x_sastore, x_castore, x_lastore, x_aastore, x_arraylength, x_getstatic, x_goto, x_goto_w, x_ifCond, x_if_icmp, x_ifnull, x_ifnonnull, x_lookupswitch, x_invokevirtual, x_invokestatic, x_invokedynamic, x_ireturn, x_freturn, x_dreturn, x_lreturn, x_areturn, x_return_, pI_c, pL_c, pR_c, pV_i, pV_r, gI_c, gL_c, gR_c, pN_z, pN_s, lget_c, lins_z, lins_c, ldel_z, ldel_c, ldel2_z, ldel2_c, lset_i, lset_l, lset_r, lkeep_z, lkeep_c, largs_z, largs_c, cat_i, cat_l, cat_r, lkp_c, cnd_eq, cnd_ne, cnd_lt, cnd_ge, cnd_gt, cnd_le, swL_z, swL_c, rE_e, rOr_s, rOr_n, rlk_z, rlk_c, aR_c, aI_c, aII_c, aIII_c, aRI_c, aRII_c, aRIII_c, vJn, vJs, vlc, spHas, spIsPair, spSide, spParts, spOf, spMin, spMax, spResews, SeaPre, hsB, o, hs', v0, v1, v2, u0, u1, u2, hne, x1, x2, x3, a1, a2, a3, a4]
  refine ⟨⟨by omega, by simp only [partV, ownV] at *; omega, fun σ1 F1 z1 V1 => ?_⟩, fun z => by omega⟩
  have y1 : σ1 (a + 4) w = vwS σ a (36 + w) := by rw [vw_wn (σ := σ1) (a := a) v0 v2, V1, sewP_n (by omega) (by omega)]
  have y2 : σ1 (a + 2) b = vwS σ a b := by rw [vw_st (σ := σ1) (a := a) u0 u2, V1, sewP_n (by omega) (by omega)]
  have y3 : σ1 (a + 5) b = vwS σ a (42 + b) := by rw [vw_ls (σ := σ1) (a := a) u0 u2, V1, sewP_n (by omega) (by omega)]
  have c1 : w32 (vwS σ a (36 + w) + 1) = vwS σ a (36 + w) + 1 := w32_id (by omega) (by omega)
  have c2 : w32 (vwS σ a b - 1) = vwS σ a b - 1 := w32_id (by omega) (by omega)
  have c3 : w32 (vwS σ a (42 + b) + 1) = vwS σ a (42 + b) + 1 := w32_id (by omega) (by omega)
  have e5 : ∀ A B C, vwS (up (up (up σ1 (a + 4) w A) (a + 2) b B) (a + 5) b C) a = upv (upv (upv (sewP (vwS σ a) w (vwS σ a (6 + w)) (vwS σ a (6 + b)) (min k (ownV (vwS σ a) w))) (36 + w) A) b B) (42 + b) C := fun A B C => by
    rw [vwU_ls u0 u2, vwU_st u0 u2, vwU_wn v0 v2, V1]
  have g1 : ∀ A B C j, j ≠ 36 + w → j ≠ b → j ≠ 42 + b → j < 12 ∨ 36 ≤ j → upv (upv (upv (sewP (vwS σ a) w (vwS σ a (6 + w)) (vwS σ a (6 + b)) (min k (ownV (vwS σ a) w))) (36 + w) A) b B) (42 + b) C j = vwS σ a j := fun A B C j h1 h2 h3 h4 => by
    rw [upv_n h3, upv_n h2, upv_n h1, sewP_n (by omega) (by omega)]
  simp [sg_64_10_1, hN _, x_iconst, x_ldc2_w, x_aconst_null, x_iload, x_lload, x_aload, x_istore, x_lstore, x_astore, x_iinc, x_iadd, x_isub, x_imul, x_idiv, x_irem, x_iand, x_ior, x_ixor, x_ishl, x_ishr, x_iushr, x_ineg, x_ladd, x_lsub, x_lmul, x_ldiv, x_lrem, x_lcmp, x_i2l, x_i2b, x_i2s, x_i2c, x_dup, x_pop, x_dup_x1, x_dup2, x_getfield, x_putfield, x_iaload, x_baload, x_saload, x_caload, x_daload, x_faload, x_laload, x_aaload, x_iastore, x_bastore, x_sastore, x_castore, x_lastore, x_aastore, x_arraylength, x_getstatic, x_goto, x_goto_w, x_ifCond, x_if_icmp, x_ifnull, x_ifnonnull, x_lookupswitch, x_invokevirtual, x_invokestatic, x_invokedynamic, x_ireturn, x_freturn, x_dreturn, x_lreturn, x_areturn, x_return_, pI_c, pL_c, pR_c, pV_i, pV_r, gI_c, gL_c, gR_c, pN_z, pN_s, lget_c, lins_z, lins_c, ldel_z, ldel_c, ldel2_z, ldel2_c, lset_i, lset_l, lset_r, lkeep_z, lkeep_c, largs_z, largs_c, cat_i, cat_l, cat_r, lkp_c, cnd_eq, cnd_ne, cnd_lt, cnd_ge, cnd_gt, cnd_le, swL_z, swL_c, rE_e, rOr_s, rOr_n, rlk_z, rlk_c, aR_c, aI_c, aII_c, aIII_c, aRI_c, aRII_c, aRIII_c, vJn, vJs, vlc, spMin, spMax, spGo, SeaPre, hsB, o, hs', v0, v1, v2, u0, u1, u2, f2, t2, l2, f4, t4, l4, f5, t5, l5, up_ap, y1, y2, y3, z1, na2, na4, na5, c1, c2, c3, e5]
  rw [g1 _ _ _ (6 + w) (by omega) (by omega) (by omega) (by omega), g1 _ _ _ 49 (by omega) (by omega) (by omega) (by omega)]
  refine ⟨by omega, by omega, fun σ2 F2 z2 V2 => ?_⟩
  have d1 : vwS σ2 a (6 + b) = vwS σ a (6 + b) := by rw [V2, goV_n (by omega) (by omega), g1 _ _ _ (6 + b) (by omega) (by omega) (by omega) (by omega)]
  have d2 := goV_49 (V := upv (upv (upv (sewP (vwS σ a) w (vwS σ a (6 + w)) (vwS σ a (6 + b)) (min k (ownV (vwS σ a) w))) (36 + w) (min (vwS σ a (36 + w) + 1) 99)) b (max (vwS σ a b - 1) 0)) (42 + b) (min (vwS σ a (42 + b) + 1) 99)) (i := w) (by omega) (by rw [g1 _ _ _ 49 (by omega) (by omega) (by omega) (by omega)]; omega) (by rw [g1 _ _ _ 49 (by omega) (by omega) (by omega) (by omega)]; omega)
  rw [← V2] at d2
  simp [sg_64_10_2, hN _, x_iconst, x_ldc2_w, x_aconst_null, x_iload, x_lload, x_aload, x_istore, x_lstore, x_astore, x_iinc, x_iadd, x_isub, x_imul, x_idiv, x_irem, x_iand, x_ior, x_ixor, x_ishl, x_ishr, x_iushr, x_ineg, x_ladd, x_lsub, x_lmul, x_ldiv, x_lrem, x_lcmp, x_i2l, x_i2b, x_i2s, x_i2c, x_dup, x_pop, x_dup_x1, x_dup2, x_getfield, x_putfield, x_iaload, x_baload, x_saload, x_caload, x_daload, x_faload, x_laload, x_aaload, x_iastore, x_bastore, x_sastore, x_castore, x_lastore, x_aastore, x_arraylength, x_getstatic, x_goto, x_goto_w, x_ifCond, x_if_icmp, x_ifnull, x_ifnonnull, x_lookupswitch, x_invokevirtual, x_invokestatic, x_invokedynamic, x_ireturn, x_freturn, x_dreturn, x_lreturn, x_areturn, x_return_, pI_c, pL_c, pR_c, pV_i, pV_r, gI_c, gL_c, gR_c, pN_z, pN_s, lget_c, lins_z, lins_c, ldel_z, ldel_c, ldel2_z, ldel2_c, lset_i, lset_l, lset_r, lkeep_z, lkeep_c, largs_z, largs_c, cat_i, cat_l, cat_r, lkp_c, cnd_eq, cnd_ne, cnd_lt, cnd_ge, cnd_gt, cnd_le, swL_z, swL_c, rE_e, rOr_s, rOr_n, rlk_z, rlk_c, aR_c, aI_c, aII_c, aIII_c, aRI_c, aRII_c, aRIII_c, vJn, vJs, vlc, spGo, SeaPre, hsB, o, hs', u0, u1, u2, z2, d1, a3, a4, d2]
  intro σ3 F3 z3 V3
  simp [sg_64_10_3, hN _, x_iconst, x_ldc2_w, x_aconst_null, x_iload, x_lload, x_aload, x_istore, x_lstore, x_astore, x_iinc, x_iadd, x_isub, x_imul, x_idiv, x_irem, x_iand, x_ior, x_ixor, x_ishl, x_ishr, x_iushr, x_ineg, x_ladd, x_lsub, x_lmul, x_ldiv, x_lrem, x_lcmp, x_i2l, x_i2b, x_i2s, x_i2c, x_dup, x_pop, x_dup_x1, x_dup2, x_getfield, x_putfield, x_iaload, x_baload, x_saload, x_caload, x_daload, x_faload, x_laload, x_aaload, x_iastore, x_bastore, x_sastore, x_castore, x_lastore, x_aastore, x_arraylength, x_getstatic, x_goto, x_goto_w, x_ifCond, x_if_icmp, x_ifnull, x_ifnonnull, x_lookupswitch, x_invokevirtual, x_invokestatic, x_invokedynamic, x_ireturn, x_freturn, x_dreturn, x_lreturn, x_areturn, x_return_, pI_c, pL_c, pR_c, pV_i, pV_r, gI_c, gL_c, gR_c, pN_z, pN_s, lget_c, lins_z, lins_c, ldel_z, ldel_c, ldel2_z, ldel2_c, lset_i, lset_l, lset_r, lkeep_z, lkeep_c, largs_z, largs_c, cat_i, cat_l, cat_r, lkp_c, cnd_eq, cnd_ne, cnd_lt, cnd_ge, cnd_gt, cnd_le, swL_z, swL_c, rE_e, rOr_s, rOr_n, rlk_z, rlk_c, aR_c, aI_c, aII_c, aIII_c, aRI_c, aRII_c, aRIII_c, vJn, vJs, vlc]
  refine h σ3 (((F1.up (by omega)).up (by omega)).up (by omega) |>.tr (F2.tr F3)) (by omega) ?_
  rw [V3, V2, strikeV_eq v0 v2 u0 u2 a1 a3 a2 a4]
