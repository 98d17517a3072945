/-! StruckColours$Sea: dawns -/
abbrev reg4 : Reg := [(64, spStrikesTo), (67, spSewsIn), (68, spStrikesAll), (66, spMends)] ++ reg3
theorem reg4_ok {l : Launch} {g : GE} {d : Nat} : ∀ e as t σ Q, rE l g (d + 4) reg4 e as t σ Q → WPc l g e (d + 4) 0 0 as t σ Q :=
  rE_cons (fun _ _ _ _ h => c_strikesTo h) (rE_cons (fun _ _ _ _ h => c_sewsIn h) (rE_cons (fun _ _ _ _ h => c_strikesAll h) (rE_cons (fun _ _ _ _ h => c_mendsFlag h) (reg3_ok (d := d + 1)))))
/-- n ships, as they must be -/
def SeaW (t : Tau) (σ : Mem) (a : Int) (n : Nat) : Prop := SeaT t a ∧ σ a 0 = n ∧ WFV n (σ (a + 1)) (vwS σ a)
def spDawns : Sp := fun as t σ Q => aRI as fun a k => ∃ n m : Nat, k = m ∧ m ≤ 1000 ∧ SeaW t σ a n ∧ ∀ σ', SeaFr σ σ' a → σ' a 0 = σ a 0 → vwS σ' a = daysV n (σ (a + 1)) (vwS σ a) m → Q none t σ'
theorem daw_in {l : Launch} {g : GE} {d : Nat} {t : Tau} {σ : Mem} {Q : Post} {a : Int} {σ0 : Mem} {n m j : Nat} {V : Int → Int} (hs : SeaT t a) (hn : σ0 a 0 = n) (hV0 : WFV n (σ0 (a + 1)) V) (hj : j < 1000)
    (h : ∀ σ', SeaFr σ0 σ' a → vwS σ' a = dayI (σ0 (a + 1)) V n → Wp l g 65 (d + 5) 0 0 2 [(0, vR a), (1, vI m), (2, vI (j + 1 : Nat))] [] t (up σ' a 1 (w32 (vwS σ' a 48 + 1))) Q) :
    ∀ (r i : Nat) (σ : Mem), i + r = n → SeaFr σ0 σ a → vwS σ a = dayI (σ0 (a + 1)) V i → Wp l g 65 (d + 5) 0 0 9 [(0, vR a), (1, vI m), (2, vI j), (3, vI i)] [] t σ Q := by
  have hs' := hs
  obtain ⟨o, f1, f2, f3, f4, f5, f6, t1, t2, t3, t4, t5, t6, l1, l2, l3, l4, l5, l6⟩ := hs
  have n6 := hV0.1
  have e2 := w32_succ (k := j) (by omega)
  intro r
  induction r with
  | zero =>
    intro i σ hi hF hV
    have hi' : i = n := by omega
    subst hi'
    have z0 : σ a 0 = i := by rw [hF.2.2, hn]
    have K := h σ hF hV
    have x1 : σ a 1 = vwS σ a 48 := vw_dy
    refine wa (by decide) reg4_ok ts_65 30 (fun N hN => ?_)
    simp [bs_65, hN _, x_iconst, x_ldc2_w, x_aconst_null, x_iload, x_lload, x_aload, x_istore, x_lstore, x_astore, x_iinc, x_iadd, x_isub, x_imul, x_idiv, x_irem, x_iand, x_ior, x_ixor, x_ishl, x_ishr, x_iushr, x_ineg, x_ladd, x_lsub, x_lmul, x_ldiv, x_lrem, x_lcmp, x_i2l, x_i2b, x_i2s, x_i2c, x_dup, x_pop, x_dup_x1, x_dup2, x_getfield, x_putfield, x_iaload, x_baload, x_saload, x_caload, x_daload, x_faload, x_laload, x_aaload, x_iastore, x_bastore, x_sastore, x_castore, x_lastore, x_aastore, x_arraylength, x_getstatic, x_goto, x_goto_w, x_ifCond, x_if_icmp, x_ifnull, x_ifnonnull, x_lookupswitch, x_invokevirtual, x_invokestatic, x_invokedynamic, x_ireturn, x_freturn, x_dreturn, x_lreturn, x_areturn, x_return_, pI_c, pL_c, pR_c, pV_i, pV_r, gI_c, gL_c, gR_c, pN_z, pN_s, lget_c, lins_z, lins_c, ldel_z, ldel_c, ldel2_z, ldel2_c, lset_i, lset_l, lset_r, lkeep_z, lkeep_c, largs_z, largs_c, cat_i, cat_l, cat_r, lkp_c, cnd_eq, cnd_ne, cnd_lt, cnd_ge, cnd_gt, cnd_le, swL_z, swL_c, rE_e, rOr_s, rOr_n, rlk_z, rlk_c, aR_c, aI_c, aII_c, aIII_c, aRI_c, aRII_c, aRIII_c, vJn, vJs, vlc, o, z0, x1, e2]
    exact K
  | succ r ih =>
    intro i σ hi hF hV
    have z0 : σ a 0 = n := by rw [hF.2.2, hn]
    have hW := wf_dayI hV0 i (by omega)
    have i0 : (0 : Int) ≤ i := by omega
    have i1 : (i : Int) < n := by omega
    have i6 : (i : Int) < 6 := by omega
    have ni : ¬ (n : Int) ≤ i := by omega
    obtain ⟨⟨s0, s1, s2, s3⟩, -⟩ := hW.2.1 i i0 i1
    have x2 : σ (a + 2) i = dayI (σ0 (a + 1)) V i i := by rw [vw_st (σ := σ) (a := a) i0 i6, hV]
    have e3 : w32 (dayI (σ0 (a + 1)) V i i + 1) = dayI (σ0 (a + 1)) V i i + 1 := w32_id (by omega) (by omega)
    have e4 := w32_succ (k := i) (by omega)
    have m1 : σ (a + 1) = σ0 (a + 1) := hF.2.1
    refine wa (by decide) reg4_ok ts_65 30 (fun N hN => ?_)
    simp [bs_65, hN _, x_iconst, x_ldc2_w, x_aconst_null, x_iload, x_lload, x_aload, x_istore, x_lstore, x_astore, x_iinc, x_iadd, x_isub, x_imul, x_idiv, x_irem, x_iand, x_ior, x_ixor, x_ishl, x_ishr, x_iushr, x_ineg, x_ladd, x_lsub, x_lmul, x_ldiv, x_lrem, x_lcmp, x_i2l, x_i2b, x_i2s, x_i2c, x_dup, x_pop, x_dup_x1, x_dup2, x_getfield, x_putfield, x_iaload, x_baload, x_saload, x_caload, x_daload, x_faload, x_laload, x_aaload, x_iastore, x_bastore, x_sastore, x_castore, x_lastore, x_aastore, x_arraylength, x_getstatic, x_goto, x_goto_w, x_ifCond, x_if_icmp, x_ifnull, x_ifnonnull, x_lookupswitch, x_invokevirtual, x_invokestatic, x_invokedynamic, x_ireturn, x_freturn, x_dreturn, x_lreturn, x_areturn, x_return_, pI_c, pL_c, pR_c, pV_i, pV_r, gI_c, gL_c, gR_c, pN_z, pN_s, lget_c, lins_z, lins_c, ldel_z, ldel_c, ldel2_z, ldel2_c, lset_i, lset_l, lset_r, lkeep_z, lkeep_c, largs_z, largs_c, cat_i, cat_l, cat_r, lkp_c, cnd_eq, cnd_ne, cnd_lt, cnd_ge, cnd_gt, cnd_le, swL_z, swL_c, rE_e, rOr_s, rOr_n, rlk_z, rlk_c, aR_c, aI_c, aII_c, aIII_c, aRI_c, aRII_c, aRIII_c, vJn, vJs, vlc, spHas, spOf, spStrengthens, SeaPre, hsB, o, hs', z0, i0, i1, i6, x2, e3, m1]
    refine ⟨fun z => by omega, fun σ1 F1 zz1 V1 => ?_⟩
    have hW1 : WFV n (σ0 (a + 1)) (vwS σ1 a) := by
      rw [V1, hV]
      exact hW.st i0 i1 (by omega) (by omega)
    have hSh := hW1.sh i0 i1
    simp [sg_65_9_1, hN _, x_iconst, x_ldc2_w, x_aconst_null, x_iload, x_lload, x_aload, x_istore, x_lstore, x_astore, x_iinc, x_iadd, x_isub, x_imul, x_idiv, x_irem, x_iand, x_ior, x_ixor, x_ishl, x_ishr, x_iushr, x_ineg, x_ladd, x_lsub, x_lmul, x_ldiv, x_lrem, x_lcmp, x_i2l, x_i2b, x_i2s, x_i2c, x_dup, x_pop, x_dup_x1, x_dup2, x_getfield, x_putfield, x_iaload, x_baload, x_saload, x_caload, x_daload, x_faload, x_laload, x_aaload, x_iastore, x_bastore, x_sastore, x_castore, x_lastore, x_aastore, x_arraylength, x_getstatic, x_goto, x_goto_w, x_ifCond, x_if_icmp, x_ifnull, x_ifnonnull, x_lookupswitch, x_invokevirtual, x_invokestatic, x_invokedynamic, x_ireturn, x_freturn, x_dreturn, x_lreturn, x_areturn, x_return_, pI_c, pL_c, pR_c, pV_i, pV_r, gI_c, gL_c, gR_c, pN_z, pN_s, lget_c, lins_z, lins_c, ldel_z, ldel_c, ldel2_z, ldel2_c, lset_i, lset_l, lset_r, lkeep_z, lkeep_c, largs_z, largs_c, cat_i, cat_l, cat_r, lkp_c, cnd_eq, cnd_ne, cnd_lt, cnd_ge, cnd_gt, cnd_le, swL_z, swL_c, rE_e, rOr_s, rOr_n, rlk_z, rlk_c, aR_c, aI_c, aII_c, aIII_c, aRI_c, aRII_c, aRIII_c, vJn, vJs, vlc, spMends, SeaPre, hsB, o, hs', zz1, i0, i1, i6, hSh]
    intro σ2 F2 zz2 V2
    simp [sg_65_9_2, hN _, x_iconst, x_ldc2_w, x_aconst_null, x_iload, x_lload, x_aload, x_istore, x_lstore, x_astore, x_iinc, x_iadd, x_isub, x_imul, x_idiv, x_irem, x_iand, x_ior, x_ixor, x_ishl, x_ishr, x_iushr, x_ineg, x_ladd, x_lsub, x_lmul, x_ldiv, x_lrem, x_lcmp, x_i2l, x_i2b, x_i2s, x_i2c, x_dup, x_pop, x_dup_x1, x_dup2, x_getfield, x_putfield, x_iaload, x_baload, x_saload, x_caload, x_daload, x_faload, x_laload, x_aaload, x_iastore, x_bastore, x_sastore, x_castore, x_lastore, x_aastore, x_arraylength, x_getstatic, x_goto, x_goto_w, x_ifCond, x_if_icmp, x_ifnull, x_ifnonnull, x_lookupswitch, x_invokevirtual, x_invokestatic, x_invokedynamic, x_ireturn, x_freturn, x_dreturn, x_lreturn, x_areturn, x_return_, pI_c, pL_c, pR_c, pV_i, pV_r, gI_c, gL_c, gR_c, pN_z, pN_s, lget_c, lins_z, lins_c, ldel_z, ldel_c, ldel2_z, ldel2_c, lset_i, lset_l, lset_r, lkeep_z, lkeep_c, largs_z, largs_c, cat_i, cat_l, cat_r, lkp_c, cnd_eq, cnd_ne, cnd_lt, cnd_ge, cnd_gt, cnd_le, swL_z, swL_c, rE_e, rOr_s, rOr_n, rlk_z, rlk_c, aR_c, aI_c, aII_c, aIII_c, aRI_c, aRII_c, aRIII_c, vJn, vJs, vlc, e4]
    have hFF : SeaFr σ0 σ2 a := hF.tr (F1.tr F2)
    have hVV : vwS σ2 a = dayI (σ0 (a + 1)) V (i + 1) := by
      rw [V2, V1, hV]
      show mendV _ _ = day1 _ _ _
      unfold day1
      rw [show max 0 (min (σ0 (a + 1) i) (dayI (σ0 (a + 1)) V i i + 1)) = min (σ0 (a + 1) i) (dayI (σ0 (a + 1)) V i i + 1) by omega]
    exact ih (i + 1) σ2 (by omega) hFF hVV
theorem daw_out {l : Launch} {g : GE} {d : Nat} {t : Tau} {σ : Mem} {Q : Post} {a : Int} {σ0 : Mem} {n m : Nat} (hs : SeaT t a) (hn : σ0 a 0 = n) (hV0 : WFV n (σ0 (a + 1)) (vwS σ0 a)) (hm : m ≤ 1000) (h : ∀ σ', SeaFr σ0 σ' a → vwS σ' a = daysV n (σ0 (a + 1)) (vwS σ0 a) m → Q none t σ') :
    ∀ (r j : Nat) (σ : Mem), j + r = m → SeaFr σ0 σ a → vwS σ a = daysV n (σ0 (a + 1)) (vwS σ0 a) j → Wp l g 65 (d + 5) 0 0 2 [(0, vR a), (1, vI m), (2, vI j)] [] t σ Q := by
  have hs' := hs
  obtain ⟨o, f1, f2, f3, f4, f5, f6, t1, t2, t3, t4, t5, t6, l1, l2, l3, l4, l5, l6⟩ := hs
  intro r
  induction r with
  | zero =>
    intro j σ hj hF hV
    obtain rfl : j = m := by omega
    refine wa (by decide) reg4_ok ts_65 30 (fun N hN => ?_)
    simp [bs_65, hN _, x_iconst, x_ldc2_w, x_aconst_null, x_iload, x_lload, x_aload, x_istore, x_lstore, x_astore, x_iinc, x_iadd, x_isub, x_imul, x_idiv, x_irem, x_iand, x_ior, x_ixor, x_ishl, x_ishr, x_iushr, x_ineg, x_ladd, x_lsub, x_lmul, x_ldiv, x_lrem, x_lcmp, x_i2l, x_i2b, x_i2s, x_i2c, x_dup, x_pop, x_dup_x1, x_dup2, x_getfield, x_putfield, x_iaload, x_baload, x_saload, x_caload, x_daload, x_faload, x_laload, x_aaload, x_iastore, x_bastore, x_sastore, x_castore, x_lastore, x_aastore, x_arraylength, x_getstatic, x_goto, x_goto_w, x_ifCond, x_if_icmp, x_ifnull, x_ifnonnull, x_lookupswitch, x_invokevirtual, x_invokestatic, x_invokedynamic, x_ireturn, x_freturn, x_dreturn, x_lreturn, x_areturn, x_return_, pI_c, pL_c, pR_c, pV_i, pV_r, gI_c, gL_c, gR_c, pN_z, pN_s, lget_c, lins_z, lins_c, ldel_z, ldel_c, ldel2_z, ldel2_c, lset_i, lset_l, lset_r, lkeep_z, lkeep_c, largs_z, largs_c, cat_i, cat_l, cat_r, lkp_c, cnd_eq, cnd_ne, cnd_lt, cnd_ge, cnd_gt, cnd_le, swL_z, swL_c, rE_e, rOr_s, rOr_n, rlk_z, rlk_c, aR_c, aI_c, aII_c, aIII_c, aRI_c, aRII_c, aRIII_c, vJn, vJs, vlc]
    exact h σ hF hV
  | succ r ih =>
    intro j σ hj hF hV
    have hW := wf_days hV0 j
    have z0 : σ a 0 = n := by rw [hF.2.2, hn]
    have m1 : σ (a + 1) = σ0 (a + 1) := hF.2.1
    have K := daw_in (l := l) (g := g) (d := d) (σ := σ) (σ0 := σ) (n := n) (m := m) (j := j) (V := vwS σ a) (Q := Q) hs' z0 (by rw [m1, hV]; exact hW) (by omega) (fun σ' F' V' => by
      refine ih (j + 1) _ (by omega) (hF.tr (F'.up (by omega))) ?_
      rw [vwU_dy, V', m1, hV]
      rfl) n 0 σ (by omega) SeaFr.rf rfl
    refine wa (by decide) reg4_ok ts_65 30 (fun N hN => ?_)
    simp [bs_65, hN _, x_iconst, x_ldc2_w, x_aconst_null, x_iload, x_lload, x_aload, x_istore, x_lstore, x_astore, x_iinc, x_iadd, x_isub, x_imul, x_idiv, x_irem, x_iand, x_ior, x_ixor, x_ishl, x_ishr, x_iushr, x_ineg, x_ladd, x_lsub, x_lmul, x_ldiv, x_lrem, x_lcmp, x_i2l, x_i2b, x_i2s, x_i2c, x_dup, x_pop, x_dup_x1, x_dup2, x_getfield, x_putfield, x_iaload, x_baload, x_saload, x_caload, x_daload, x_faload, x_laload, x_aaload, x_iastore, x_bastore, x_sastore, x_castore, x_lastore, x_aastore, x_arraylength, x_getstatic, x_goto, x_goto_w, x_ifCond, x_if_icmp, x_ifnull, x_ifnonnull, x_lookupswitch, x_invokevirtual, x_invokestatic, x_invokedynamic, x_ireturn, x_freturn, x_dreturn, x_lreturn, x_areturn, x_return_, pI_c, pL_c, pR_c, pV_i, pV_r, gI_c, gL_c, gR_c, pN_z, pN_s, lget_c, lins_z, lins_c, ldel_z, ldel_c, ldel2_z, ldel2_c, lset_i, lset_l, lset_r, lkeep_z, lkeep_c, largs_z, largs_c, cat_i, cat_l, cat_r, lkp_c, cnd_eq, cnd_ne, cnd_lt, cnd_ge, cnd_gt, cnd_le, swL_z, swL_c, rE_e, rOr_s, rOr_n, rlk_z, rlk_c, aR_c, aI_c, aII_c, aIII_c, aRI_c, aRII_c, aRIII_c, vJn, vJs, vlc]
    exact ⟨fun z => by omega, fun _ => K⟩
theorem c_dawns {l : Launch} {g : GE} {d : Nat} {t : Tau} {σ : Mem} {Q : Post} {as : List TV} (h : spDawns as t σ Q) : WPc l g 65 (d + 5) 0 0 as t σ Q := by
  obtain ⟨a, k, rfl, n, m, rfl, hm, ⟨hs, hn, hW⟩, h⟩ := aRI_e h
  have K := daw_out (l := l) (g := g) (d := d) (σ := σ) (Q := Q) hs hn hW hm (fun σ' F V => h σ' F F.2.2 V) m 0 σ (by omega) SeaFr.rf rfl
  refine wg (by decide) reg4_ok ts_65 py_65 ml_65 30 (by simp [catT]) (fun N hN => ?_)
  simp [bs_65, hN _, x_iconst, x_ldc2_w, x_aconst_null, x_iload, x_lload, x_aload, x_istore, x_lstore, x_astore, x_iinc, x_iadd, x_isub, x_imul, x_idiv, x_irem, x_iand, x_ior, x_ixor, x_ishl, x_ishr, x_iushr, x_ineg, x_ladd, x_lsub, x_lmul, x_ldiv, x_lrem, x_lcmp, x_i2l, x_i2b, x_i2s, x_i2c, x_dup, x_pop, x_dup_x1, x_dup2, x_getfield, x_putfield, x_iaload, x_baload, x_saload, x_caload, x_daload, x_faload, x_laload, x_aaload, x_iastore, x_bastore, x_sastore, x_castore, x_lastore, x_aastore, x_arraylength, x_getstatic, x_goto, x_goto_w, x_ifCond, x_if_icmp, x_ifnull, x_ifnonnull, x_lookupswitch, x_invokevirtual, x_invokestatic, x_invokedynamic, x_ireturn, x_freturn, x_dreturn, x_lreturn, x_areturn, x_return_, pI_c, pL_c, pR_c, pV_i, pV_r, gI_c, gL_c, gR_c, pN_z, pN_s, lget_c, lins_z, lins_c, ldel_z, ldel_c, ldel2_z, ldel2_c, lset_i, lset_l, lset_r, lkeep_z, lkeep_c, largs_z, largs_c, cat_i, cat_l, cat_r, lkp_c, cnd_eq, cnd_ne, cnd_lt, cnd_ge, cnd_gt, cnd_le, swL_z, swL_c, rE_e, rOr_s, rOr_n, rlk_z, rlk_c, aR_c, aI_c, aII_c, aIII_c, aRI_c, aRII_c, aRIII_c, vJn, vJs, vlc]
  exact K
