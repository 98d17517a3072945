/-! StruckColours$Rule: a sign behind a thing -/
abbrev rgRc : Reg := [(33, upJoins)]
theorem rgRc_ok {l : Launch} {g : GE} {d : Nat} : ∀ e as t σ Q, rE l g (d + 2) rgRc e as t σ Q → WPc l g e (d + 2) 0 0 as t σ Q := rE_cons (fun _ _ _ _ h => u_joins h) rE_nil
def stPost (o : Option Sr) (t : Tau) (σ : Mem) (r : Int) (Q : Post) : Prop := match o with
  | none => ∀ σ', RsF σ σ' r → Q (some (vI 0)) t σ'
  | some s' => ∀ σ', RsF σ σ' r → RdS σ' r s' → Q (some (vI 1)) t σ'
def RdC (t : Tau) (σ : Mem) (r : Int) (ls : List Lv) (l : Lv) (e : Ex) (k : Nat) : Prop := RulT t r ∧ WfS (cL ls l e k) ∧ RdS σ r (cL ls l e k) ∧ cnS (cL ls l e k) ≤ 40
def upLeng : Sp := fun as t σ Q => aRI as fun r v => (0 ≤ v ∧ v ≤ 9) ∧ ∃ ls l e k, RdC t σ r ls l e k ∧ stPost (if k = 1 ∨ k = 2 then some (cL ls l (dgE e v) (k + 1)) else none) t σ r Q
theorem u_lengthens {l : Launch} {g : GE} {d : Nat} {t : Tau} {σ : Mem} {Q : Post} {as : List TV} (h0 : upLeng as t σ Q) : WPc l g 27 (d + 1) 0 0 as t σ Q := by
  obtain ⟨r, v, rfl, ⟨v0, v1⟩, ls, l', e, k, ⟨hr, hw, ⟨hC, b, hb, e6, e5, hcm, e8, e7⟩, hn⟩, h⟩ := aRI_e h0
  clear h0
  obtain ⟨o, ⟨f1, f2, f3⟩, ⟨t1, t2, t3⟩, l1, l2, l3⟩ := hr
  have a1 : isArr t (r + 1) := isArr_of t1 (by omega) l1 (by omega)
  have x1 : ¬ r + 1 < 0 := by have := t1.1; omega
  have s3 : σ r 3 = (cdS (cL ls l' e k)).length := hC.1.1
  refine wg (by decide) rE_nil tk_27 py_27 ml_27 30 (by simp [catT]) (fun N hN => ?_)
  by_cases hk : k = 1 ∨ k = 2
  · rw [if_pos hk] at h
    rcases hw.2.2.2.2 with hz | ⟨x, rfl, x0, hx⟩
    · omega
    · have hl1 : (cdS (cL ls l' (xN x) k)).length = (cd ls ++ plL l').length + 1 := by simp [cdS, xN]; omega
      have hcn : (cdS (cL ls l' (xN x) k)).length ≤ 40 := by unfold cnS at hn; omega
      generalize hD : cd ls ++ plL l' = D at hl1
      have hcd : ∀ y j, cdS (cL ls l' [y] j) = D ++ [y] := fun y j => by rw [← hD]; simp [cdS]
      have m3 : σ r 3 = (D.length : Int) + 1 := by omega
      have lst : σ (r + 1) D.length = x := by
        have := hC.1.2 D.length (by rw [hl1]; omega)
        rw [this]
        have e9 := hcd x k
        rw [show xN x = [x] from rfl, e9]
        simp
      have w1 : w32 (D.length : Int) = (D.length : Int) := w32_id (by omega) (by omega)
      have w2 : w32 (x * 10) = x * 10 := w32_id (by omega) (by omega)
      have w3 : w32 (x * 10 + v) = x * 10 + v := w32_id (by omega) (by omega)
      have w4 : w32 ((k : Int) + 1) = ((k + 1 : Nat) : Int) := by rw [w32_id (by omega) (by omega)]; omega
      have q1 : ¬ (k : Int) < 1 := by omega
      have q2 : ¬ (2 : Int) < k := by omega
      have q3 : ¬ (D.length : Int) + 1 < 1 := by omega
      have q4 : (D.length : Int) + 1 ≤ 40 := by omega
      have q5 : (D.length : Int) < 40 := by omega
      have q5n : D.length < 40 := by omega
      have nr : r ≠ r + 1 := by omega
      have K := h (up (up σ (r + 1) D.length (x * 10 + v)) r 7 ((k + 1 : Nat) : Int)) (fun o' a b c => by rw [up_ne a, up_ne b]) ⟨⟨⟨?_, fun j hj => ?_⟩, ?_, fun j hj => ?_⟩, b, hb, ?_, ?_, hcm, ?_, ?_⟩
      · simp [bl_27, hN _, x_iconst, x_ldc2_w, x_aconst_null, x_iload, x_lload, x_aload, x_istore, x_lstore, x_astore, x_iinc, x_iadd, x_isub, x_imul, x_idiv, x_irem, x_iand, x_ior, x_ixor, x_ishl, x_ishr, x_iushr, x_ineg, x_ladd, x_lsub, x_lmul, x_ldiv, x_lrem, x_lcmp, x_i2l, x_i2b, x_i2s, x_i2c, x_dup, x_pop, x_dup_x1, x_dup2, x_getfield, x_putfield, x_iaload, x_baload, x_saload, x_caload, x_daload, x_faload, x_laload, x_aaload, x_iastore, x_bastore, x_sastore, x_castore, x_lastore, x_aastore, x_arraylength, x_getstatic, x_goto, x_goto_w, x_ifCond, x_if_icmp, x_ifnull, x_ifnonnull, x_lookupswitch, x_invokevirtual, x_invokestatic, x_invokedynamic, x_ireturn, x_freturn, x_dreturn, x_lreturn, x_areturn, x_return_, pI_c, pL_c, pR_c, pV_i, pV_r, gI_c, gL_c, gR_c, pN_z, pN_s, lget_c, lins_z, lins_c, ldel_z, ldel_c, ldel2_z, ldel2_c, lset_i, lset_l, lset_r, lkeep_z, lkeep_c, largs_z, largs_c, cat_i, cat_l, cat_r, lkp_c, cnd_eq, cnd_ne, cnd_lt, cnd_ge, cnd_gt, cnd_le, swL_z, swL_c, rE_e, rOr_s, rOr_n, rlk_z, rlk_c, aR_c, aI_c, aII_c, aIII_c, aRI_c, aRII_c, aRIII_c, vJn, vJs, vlc, aRR_c, aRRI_c, aRRII_c, aRRIII_c, aRIIII_c, aRL_c, aRLL_c, aLL_c, aRRRI_c, aIL_c, aIIII_c, aRRIIII_c, aIRII_c, aIR_c, aLI_c, aRIR_c, aRIIR_c, o, f1, t1, l1, a1, x1, e7, m3, lst, w1, w2, w3, w4, q5, q5n, up_ap, nr]
        exact ⟨fun z => by omega, fun _ => ⟨fun z => by omega, fun _ => ⟨fun z => by omega, fun _ => ⟨fun _ => by simpa using K, fun z => by omega⟩⟩⟩⟩
      · rw [up_ap, if_neg (by omega), up_ne (by omega), m3]
        show _ = ((cdS (cL ls l' [x * 10 + v] (k + 1))).length : Int)
        rw [hcd]; simp
      · have e9 := hcd (x * 10 + v) (k + 1)
        show _ = (cdS (cL ls l' [x * 10 + v] (k + 1))).getD j 0
        have hj' : j < (D ++ [x * 10 + v]).length := by rw [← e9]; exact hj
        rw [e9, getD_ap hj', up_ne (by omega), up_ap]
        by_cases z : j = D.length
        · rw [if_pos ⟨rfl, by omega⟩, if_pos z]
        · rw [if_neg (fun y => z (by omega)), if_neg z]
          have hj2 : j < (cdS (cL ls l' (xN x) k)).length := by rw [hl1]; simp at hj'; omega
          rw [hC.1.2 j hj2, show xN x = [x] from rfl, hcd x k, getD_ap (by simp; simp at hj'; omega), if_neg z]
      · rw [up_ap, if_neg (by omega), up_ne (by omega)]; exact hC.2.1
      · rw [up_ne (by omega), up_ne (by omega)]; exact hC.2.2 j hj
      · simp [up_ap, nr, e6]
      · simp [up_ap, nr, e5]
      · simp [up_ap, nr, e8]
      · simp [up_ap]
  · rw [if_neg hk] at h
    have h := h σ RsF.rf
    simp [bl_27, hN _, x_iconst, x_ldc2_w, x_aconst_null, x_iload, x_lload, x_aload, x_istore, x_lstore, x_astore, x_iinc, x_iadd, x_isub, x_imul, x_idiv, x_irem, x_iand, x_ior, x_ixor, x_ishl, x_ishr, x_iushr, x_ineg, x_ladd, x_lsub, x_lmul, x_ldiv, x_lrem, x_lcmp, x_i2l, x_i2b, x_i2s, x_i2c, x_dup, x_pop, x_dup_x1, x_dup2, x_getfield, x_putfield, x_iaload, x_baload, x_saload, x_caload, x_daload, x_faload, x_laload, x_aaload, x_iastore, x_bastore, x_sastore, x_castore, x_lastore, x_aastore, x_arraylength, x_getstatic, x_goto, x_goto_w, x_ifCond, x_if_icmp, x_ifnull, x_ifnonnull, x_lookupswitch, x_invokevirtual, x_invokestatic, x_invokedynamic, x_ireturn, x_freturn, x_dreturn, x_lreturn, x_areturn, x_return_, pI_c, pL_c, pR_c, pV_i, pV_r, gI_c, gL_c, gR_c, pN_z, pN_s, lget_c, lins_z, lins_c, ldel_z, ldel_c, ldel2_z, ldel2_c, lset_i, lset_l, lset_r, lkeep_z, lkeep_c, largs_z, largs_c, cat_i, cat_l, cat_r, lkp_c, cnd_eq, cnd_ne, cnd_lt, cnd_ge, cnd_gt, cnd_le, swL_z, swL_c, rE_e, rOr_s, rOr_n, rlk_z, rlk_c, aR_c, aI_c, aII_c, aIII_c, aRI_c, aRII_c, aRIII_c, vJn, vJs, vlc, aRR_c, aRRI_c, aRRII_c, aRRIII_c, aRIIII_c, aRL_c, aRLL_c, aLL_c, aRRRI_c, aIL_c, aIIII_c, aRRIIII_c, aIRII_c, aIR_c, aLI_c, aRIR_c, aRIIR_c, o, f1, t1, l1, a1, x1, e7]
    have hk3 : k ≤ 3 := by
      rcases hw.2.2.2.2 with hz | ⟨x, rfl, x0, hx⟩ <;> omega
    exact ⟨fun _ => h, fun z1 => ⟨fun _ => h, fun z2 => by exfalso; omega⟩⟩
def upCloses : Sp := fun as t σ Q => aR as fun r => ∃ ls l e k, RdC t σ r ls l e k ∧ stPost (match ls with
  | [] => none
  | l' :: ls' => some (cL ls' l' (l.c e) 0)) t σ r Q
theorem u_closes {l : Launch} {g : GE} {d : Nat} {t : Tau} {σ : Mem} {Q : Post} {as : List TV} (h0 : upCloses as t σ Q) : WPc l g 28 (d + 3) 0 0 as t σ Q := by
  obtain ⟨r, rfl, ls, l', e, k, ⟨hr, hw, ⟨hC, b, hb, e6, e5, hcm, e8, e7⟩, hn⟩, h⟩ := aR_e h0
  clear h0
  have o := hr.1
  refine wg (by decide) rgRc_ok ts_28 py_28 ml_28 30 (by simp [catT]) (fun N hN => ?_)
  cases ls with
  | nil =>
    have h := h σ RsF.rf
    have e5' : σ r 5 = 0 := by rw [e5]; rfl
    simp [bs_28, sg_28_9_1, hN _, x_iconst, x_ldc2_w, x_aconst_null, x_iload, x_lload, x_aload, x_istore, x_lstore, x_astore, x_iinc, x_iadd, x_isub, x_imul, x_idiv, x_irem, x_iand, x_ior, x_ixor, x_ishl, x_ishr, x_iushr, x_ineg, x_ladd, x_lsub, x_lmul, x_ldiv, x_lrem, x_lcmp, x_i2l, x_i2b, x_i2s, x_i2c, x_dup, x_pop, x_dup_x1, x_dup2, x_getfield, x_putfield, x_iaload, x_baload, x_saload, x_caload, x_daload, x_faload, x_laload, x_aaload, x_iastore, x_bastore, x_sastore, x_castore, x_lastore, x_aastore, x_arraylength, x_getstatic, x_goto, x_goto_w, x_ifCond, x_if_icmp, x_ifnull, x_ifnonnull, x_lookupswitch, x_invokevirtual, x_invokestatic, x_invokedynamic, x_ireturn, x_freturn, x_dreturn, x_lreturn, x_areturn, x_return_, pI_c, pL_c, pR_c, pV_i, pV_r, gI_c, gL_c, gR_c, pN_z, pN_s, lget_c, lins_z, lins_c, ldel_z, ldel_c, ldel2_z, ldel2_c, lset_i, lset_l, lset_r, lkeep_z, lkeep_c, largs_z, largs_c, cat_i, cat_l, cat_r, lkp_c, cnd_eq, cnd_ne, cnd_lt, cnd_ge, cnd_gt, cnd_le, swL_z, swL_c, rE_e, rOr_s, rOr_n, rlk_z, rlk_c, aR_c, aI_c, aII_c, aIII_c, aRI_c, aRII_c, aRIII_c, vJn, vJs, vlc, aRR_c, aRRI_c, aRRII_c, aRRIII_c, aRIIII_c, aRL_c, aRLL_c, aLL_c, aRRRI_c, aIL_c, aIIII_c, aRRIIII_c, aIRII_c, aIR_c, aLI_c, aRIR_c, aRIIR_c, o, e5']
    exact h
  | cons l2 ls2 =>
    have e5' : σ r 5 = (ls2.length : Int) + 1 := by rw [e5]; simp
    have n5 : ¬ (ls2.length : Int) + 1 = 0 := by omega
    obtain ⟨hw1, hw2, hw3, hw4, hw5⟩ := hw
    have jn' := jn_1 (ls := l2 :: ls2) (l := l') (e := e) hw2 (cd (l2 :: ls2))
    have hC' : CW σ r (cd (l2 :: ls2) ++ (plL l' ++ e)) (wL l' ++ wt (l2 :: ls2)) := hC
    have w1 : w32 (ls2.length : Int) = (ls2.length : Int) := w32_id (by omega) (by simp at hw3; omega)
    simp [bs_28, hN _, x_iconst, x_ldc2_w, x_aconst_null, x_iload, x_lload, x_aload, x_istore, x_lstore, x_astore, x_iinc, x_iadd, x_isub, x_imul, x_idiv, x_irem, x_iand, x_ior, x_ixor, x_ishl, x_ishr, x_iushr, x_ineg, x_ladd, x_lsub, x_lmul, x_ldiv, x_lrem, x_lcmp, x_i2l, x_i2b, x_i2s, x_i2c, x_dup, x_pop, x_dup_x1, x_dup2, x_getfield, x_putfield, x_iaload, x_baload, x_saload, x_caload, x_daload, x_faload, x_laload, x_aaload, x_iastore, x_bastore, x_sastore, x_castore, x_lastore, x_aastore, x_arraylength, x_getstatic, x_goto, x_goto_w, x_ifCond, x_if_icmp, x_ifnull, x_ifnonnull, x_lookupswitch, x_invokevirtual, x_invokestatic, x_invokedynamic, x_ireturn, x_freturn, x_dreturn, x_lreturn, x_areturn, x_return_, pI_c, pL_c, pR_c, pV_i, pV_r, gI_c, gL_c, gR_c, pN_z, pN_s, lget_c, lins_z, lins_c, ldel_z, ldel_c, ldel2_z, ldel2_c, lset_i, lset_l, lset_r, lkeep_z, lkeep_c, largs_z, largs_c, cat_i, cat_l, cat_r, lkp_c, cnd_eq, cnd_ne, cnd_lt, cnd_ge, cnd_gt, cnd_le, swL_z, swL_c, rE_e, rOr_s, rOr_n, rlk_z, rlk_c, aR_c, aI_c, aII_c, aIII_c, aRI_c, aRII_c, aRIII_c, vJn, vJs, vlc, aRR_c, aRRI_c, aRRII_c, aRRIII_c, aRIIII_c, aRL_c, aRLL_c, aLL_c, aRRRI_c, aIL_c, aIIII_c, aRRIIII_c, aIRII_c, aIR_c, aLI_c, aRIR_c, aRIIR_c, o, e5', n5, upJoins]
    refine ⟨hr, _, _, hC', hn, wtw_b hw1 hw2, fun σ1 f1 c1 => ?_⟩
    rw [jn'] at c1
    have g4 : σ1 r 4 = ((wL l2 ++ wt ls2).length : Int) + 1 := by have := c1.2.1; rw [this]; show ((40 :: (wL l2 ++ wt ls2)).length : Int) = _; simp
    have g5 : σ1 r 5 = (ls2.length : Int) + 1 := by rw [f1.2 5 (by omega) (by omega)]; exact e5'
    have c2 : CW (up σ1 r 4 ((wL l2 ++ wt ls2).length : Int)) r (cd (l2 :: ls2) ++ (l'.c e)) (wL l2 ++ wt ls2) := CW.po c1
    have hcn : (cdS (cL (l2 :: ls2) l' e k)).length + (wL l' ++ wt (l2 :: ls2)).length ≤ 40 := hn
    generalize hW : wL l2 ++ wt ls2 = W at g4 c2
    have hWl : W.length ≤ 40 := by
      have : (wL l' ++ wt (l2 :: ls2)).length = (wL l').length + 1 + W.length := by rw [← hW]; simp [wt]; omega
      have h9 : (wL l' ++ wt (l2 :: ls2)).length ≤ 40 := by omega
      omega
    have w2 : w32 (W.length : Int) = (W.length : Int) := w32_id (by omega) (by omega)
    have p4 : ¬ (W.length : Int) + 1 ≤ 0 := by omega
    have p4' : 0 < (W.length : Int) + 1 := by omega
    have K := h (up (up (up σ1 r 4 W.length) r 5 ls2.length) r 7 0) (f1.s.up.up.up) ⟨?_, b, hb, ?_, ?_, hcm.2, ?_, ?_⟩
    · simp [sg_28_9_1, bs_28, hN _, x_iconst, x_ldc2_w, x_aconst_null, x_iload, x_lload, x_aload, x_istore, x_lstore, x_astore, x_iinc, x_iadd, x_isub, x_imul, x_idiv, x_irem, x_iand, x_ior, x_ixor, x_ishl, x_ishr, x_iushr, x_ineg, x_ladd, x_lsub, x_lmul, x_ldiv, x_lrem, x_lcmp, x_i2l, x_i2b, x_i2s, x_i2c, x_dup, x_pop, x_dup_x1, x_dup2, x_getfield, x_putfield, x_iaload, x_baload, x_saload, x_caload, x_daload, x_faload, x_laload, x_aaload, x_iastore, x_bastore, x_sastore, x_castore, x_lastore, x_aastore, x_arraylength, x_getstatic, x_goto, x_goto_w, x_ifCond, x_if_icmp, x_ifnull, x_ifnonnull, x_lookupswitch, x_invokevirtual, x_invokestatic, x_invokedynamic, x_ireturn, x_freturn, x_dreturn, x_lreturn, x_areturn, x_return_, pI_c, pL_c, pR_c, pV_i, pV_r, gI_c, gL_c, gR_c, pN_z, pN_s, lget_c, lins_z, lins_c, ldel_z, ldel_c, ldel2_z, ldel2_c, lset_i, lset_l, lset_r, lkeep_z, lkeep_c, largs_z, largs_c, cat_i, cat_l, cat_r, lkp_c, cnd_eq, cnd_ne, cnd_lt, cnd_ge, cnd_gt, cnd_le, swL_z, swL_c, rE_e, rOr_s, rOr_n, rlk_z, rlk_c, aR_c, aI_c, aII_c, aIII_c, aRI_c, aRII_c, aRIII_c, vJn, vJs, vlc, aRR_c, aRRI_c, aRRII_c, aRRIII_c, aRIIII_c, aRL_c, aRLL_c, aLL_c, aRRRI_c, aIL_c, aIIII_c, aRRIIII_c, aIRII_c, aIR_c, aLI_c, aRIR_c, aRIIR_c, o, g4, g5, up_ap, w1, w2]
      exact ⟨fun z => by omega, K⟩
    · have ea : cdS (cL ls2 l2 (l'.c e) 0) = cd (l2 :: ls2) ++ (l'.c e) := by simp [cdS, cd]
      have eb : wtS (cL ls2 l2 (l'.c e) 0) = W := hW
      rw [ea, eb]
      exact (c2.up (by omega) (by omega)).up (by omega) (by omega)
    · simp [up_ap, f1.2 6 (by omega) (by omega), e6]
    · simp [up_ap]
    · simp [up_ap, f1.2 8 (by omega) (by omega), e8]
    · simp [up_ap]
