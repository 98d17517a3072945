/-! the reference: whole, wholes, foreign, count, sign, sisters -/
def whO (V : Int → Int) (i : Int) : Nat → Int
  | 0 => -1
  | m + 1 => if partV V i (3 - m) = 12 then 3 - m else whO V i m
def mpWhO : Sp := fun as t σ Q => aRI as fun r i => RowT t r ∧ (0 ≤ i ∧ i < 6) ∧ Q (some (vI (whO (vA σ r) i 4))) t σ
theorem m_wholeOf {l : Launch} {g : GE} {d : Nat} {t : Tau} {σ : Mem} {Q : Post} {as : List TV} (h0 : mpWhO as t σ Q) : WPc l g 229 (d + 2) 0 0 as t σ Q := by
  obtain ⟨r, i, rfl, hr, ⟨i0, i6⟩, h⟩ := aRI_e h0
  clear h0
  have K : Q (some (vI (whO (vA σ r) i (4 - 0)))) t σ → Wp l g 229 (d + 2) 0 0 2 [(0, vR r), (1, vI i), (2, vI (0 : Nat))] [] t σ Q := by
    refine lpU (P := fun k => Q (some (vI (whO (vA σ r) i (4 - k)))) t σ → Wp l g 229 (d + 2) 0 0 2 [(0, vR r), (1, vI i), (2, vI k)] [] t σ Q) (n := 4) ?_ (fun k hk K h => ?_)
    · intro h
      refine wa (by decide) rgM1_ok tk_229 30 (fun N hN => ?_)
      simp [bl_229, hN _, x_iconst, x_ldc2_w, x_aconst_null, x_iload, x_lload, x_aload, x_istore, x_lstore, x_astore, x_iinc, x_iadd, x_isub, x_imul, x_idiv, x_irem, x_iand, x_ior, x_ixor, x_ishl, x_ishr, x_iushr, x_ineg, x_ladd, x_lsub, x_lmul, x_ldiv, x_lrem, x_lcmp, x_i2l, x_i2b, x_i2s, x_i2c, x_dup, x_pop, x_dup_x1, x_dup2, x_getfield, x_putfield, x_iaload, x_baload, x_saload, x_caload, x_daload, x_faload, x_laload, x_aaload, x_iastore, x_bastore, x_sastore, x_castore, x_lastore, x_aastore, x_arraylength, x_getstatic, x_goto, x_goto_w, x_ifCond, x_if_icmp, x_ifnull, x_ifnonnull, x_lookupswitch, x_invokevirtual, x_invokestatic, x_invokedynamic, x_ireturn, x_freturn, x_dreturn, x_lreturn, x_areturn, x_return_, pI_c, pL_c, pR_c, pV_i, pV_r, gI_c, gL_c, gR_c, pN_z, pN_s, lget_c, lins_z, lins_c, ldel_z, ldel_c, ldel2_z, ldel2_c, lset_i, lset_l, lset_r, lkeep_z, lkeep_c, largs_z, largs_c, cat_i, cat_l, cat_r, lkp_c, cnd_eq, cnd_ne, cnd_lt, cnd_ge, cnd_gt, cnd_le, swL_z, swL_c, rE_e, rOr_s, rOr_n, rlk_z, rlk_c, aR_c, aI_c, aII_c, aIII_c, aRI_c, aRII_c, aRIII_c, vJn, vJs, vlc, aRR_c, aRRI_c, aRRII_c, aRRIII_c, aRIIII_c, aRL_c, aRLL_c, aLL_c, aRRRI_c, aIL_c, aIIII_c, aRRIIII_c, aIRII_c, aIR_c, aLI_c, aRIR_c, aRIIR_c]
      exact h
    · have e2 := w32_succ (k := k) (by omega); have i1 : ((k : Nat) : Int) < 4 := (by omega); have i1n : k < 4 := (by omega); have i1x : ¬ (4 : Int) ≤ (k : Nat) := (by omega)
      have e4 : 4 - k = (4 - (k + 1)) + 1 := by omega
      have e5 : (3 : Int) - ((4 - (k + 1) : Nat) : Int) = k := by omega
      have es : whO (vA σ r) i (4 - k) = if partV (vA σ r) i k = 12 then (k : Int) else whO (vA σ r) i (4 - (k + 1)) := by
        rw [e4]
        show (if partV (vA σ r) i (3 - ((4 - (k + 1) : Nat) : Int)) = 12 then (3 - ((4 - (k + 1) : Nat) : Int)) else _) = _
        rw [e5]
      rw [es] at h
      refine wa (by decide) rgM1_ok tk_229 30 (fun N hN => ?_)
      simp [bl_229, hN _, x_iconst, x_ldc2_w, x_aconst_null, x_iload, x_lload, x_aload, x_istore, x_lstore, x_astore, x_iinc, x_iadd, x_isub, x_imul, x_idiv, x_irem, x_iand, x_ior, x_ixor, x_ishl, x_ishr, x_iushr, x_ineg, x_ladd, x_lsub, x_lmul, x_ldiv, x_lrem, x_lcmp, x_i2l, x_i2b, x_i2s, x_i2c, x_dup, x_pop, x_dup_x1, x_dup2, x_getfield, x_putfield, x_iaload, x_baload, x_saload, x_caload, x_daload, x_faload, x_laload, x_aaload, x_iastore, x_bastore, x_sastore, x_castore, x_lastore, x_aastore, x_arraylength, x_getstatic, x_goto, x_goto_w, x_ifCond, x_if_icmp, x_ifnull, x_ifnonnull, x_lookupswitch, x_invokevirtual, x_invokestatic, x_invokedynamic, x_ireturn, x_freturn, x_dreturn, x_lreturn, x_areturn, x_return_, pI_c, pL_c, pR_c, pV_i, pV_r, gI_c, gL_c, gR_c, pN_z, pN_s, lget_c, lins_z, lins_c, ldel_z, ldel_c, ldel2_z, ldel2_c, lset_i, lset_l, lset_r, lkeep_z, lkeep_c, largs_z, largs_c, cat_i, cat_l, cat_r, lkp_c, cnd_eq, cnd_ne, cnd_lt, cnd_ge, cnd_gt, cnd_le, swL_z, swL_c, rE_e, rOr_s, rOr_n, rlk_z, rlk_c, aR_c, aI_c, aII_c, aIII_c, aRI_c, aRII_c, aRIII_c, vJn, vJs, vlc, aRR_c, aRRI_c, aRRII_c, aRRIII_c, aRIIII_c, aRL_c, aRLL_c, aLL_c, aRRRI_c, aIL_c, aIIII_c, aRRIIII_c, aIRII_c, aIR_c, aLI_c, aRIR_c, aRIIR_c, mpPart, hr, i0, i6, e2, i1, i1n, i1x]
      refine ⟨fun z => ?_, fun z => ?_⟩
      · rw [if_neg z] at h; exact K h
      · rw [if_pos z] at h; exact h
  have K := K h
  refine wg (by decide) rgM1_ok tk_229 py_229 ml_229 30 (by simp [catT]) (fun N hN => ?_)
  simp [bl_229, hN _, x_iconst, x_ldc2_w, x_aconst_null, x_iload, x_lload, x_aload, x_istore, x_lstore, x_astore, x_iinc, x_iadd, x_isub, x_imul, x_idiv, x_irem, x_iand, x_ior, x_ixor, x_ishl, x_ishr, x_iushr, x_ineg, x_ladd, x_lsub, x_lmul, x_ldiv, x_lrem, x_lcmp, x_i2l, x_i2b, x_i2s, x_i2c, x_dup, x_pop, x_dup_x1, x_dup2, x_getfield, x_putfield, x_iaload, x_baload, x_saload, x_caload, x_daload, x_faload, x_laload, x_aaload, x_iastore, x_bastore, x_sastore, x_castore, x_lastore, x_aastore, x_arraylength, x_getstatic, x_goto, x_goto_w, x_ifCond, x_if_icmp, x_ifnull, x_ifnonnull, x_lookupswitch, x_invokevirtual, x_invokestatic, x_invokedynamic, x_ireturn, x_freturn, x_dreturn, x_lreturn, x_areturn, x_return_, pI_c, pL_c, pR_c, pV_i, pV_r, gI_c, gL_c, gR_c, pN_z, pN_s, lget_c, lins_z, lins_c, ldel_z, ldel_c, ldel2_z, ldel2_c, lset_i, lset_l, lset_r, lkeep_z, lkeep_c, largs_z, largs_c, cat_i, cat_l, cat_r, lkp_c, cnd_eq, cnd_ne, cnd_lt, cnd_ge, cnd_gt, cnd_le, swL_z, swL_c, rE_e, rOr_s, rOr_n, rlk_z, rlk_c, aR_c, aI_c, aII_c, aIII_c, aRI_c, aRII_c, aRIII_c, vJn, vJs, vlc, aRR_c, aRRI_c, aRRII_c, aRRIII_c, aRIIII_c, aRL_c, aRLL_c, aLL_c, aRRRI_c, aIL_c, aIIII_c, aRRIIII_c, aIRII_c, aIR_c, aLI_c, aRIR_c, aRIIR_c]
  exact K
theorem whO_own {n : Nat} {M V : Int → Int} (h : WFV n M V) {i : Int} (h0 : 0 ≤ i) (h1 : i < n) : whO V i 4 = if ownV V i = 12 then V (6 + i) else -1 := by
  obtain ⟨_, a, ⟨p0, p1, p2, p3, p4⟩, st, _⟩ := h.2.1 i h0 h1
  obtain ⟨-, q⟩ := own_12 h h0 h1
  have hd : whO V i 4 = if partV V i 0 = 12 then 0 else if partV V i 1 = 12 then 1 else if partV V i 2 = 12 then 2 else if partV V i 3 = 12 then 3 else -1 := rfl
  rw [hd]
  by_cases ho : ownV V i = 12
  · rw [if_pos ho]
    have ho' : partV V i (V (6 + i)) = 12 := ho
    generalize V (6 + i) = w at a ho' ⊢
    have a0 := a.1
    have a1 := a.2
    rcases (show w = 0 ∨ w = 1 ∨ w = 2 ∨ w = 3 by omega) with rfl | rfl | rfl | rfl
    · rw [if_pos ho']
    · rw [if_neg (by omega), if_pos ho']
    · rw [if_neg (by omega), if_neg (by omega), if_pos ho']
    · rw [if_neg (by omega), if_neg (by omega), if_neg (by omega), if_pos ho']
  · rw [if_neg ho, if_neg (fun z => ho (q.2 ⟨0, by omega, by omega, z⟩)), if_neg (fun z => ho (q.2 ⟨1, by omega, by omega, z⟩)), if_neg (fun z => ho (q.2 ⟨2, by omega, by omega, z⟩)), if_neg (fun z => ho (q.2 ⟨3, by omega, by omega, z⟩))]
theorem days_own {n : Nat} {M V : Int → Int} (h : WFV n M V) {i : Int} (h0 : 0 ≤ i) (h1 : i < n) : ∀ k : Nat, (k : Int) ≤ 12 - ownV V i → WFV n M (daysV n M V k) ∧ daysV n M V k (6 + i) = V (6 + i) ∧ ownV (daysV n M V k) i = ownV V i + k
  | 0, _ => ⟨h, rfl, by show ownV V i = ownV V i + 0; omega⟩
  | k + 1, hk => by
    obtain ⟨q1, q2, q3⟩ := days_own h h0 h1 k (by omega)
    obtain ⟨e1, e2⟩ := day_own q1 h0 h1
    refine ⟨wf_day q1, e1.trans q2, ?_⟩
    show ownV (dayV n M (daysV n M V k)) i = _
    rw [e2, if_pos (by omega), q3]
    omega
abbrev rgNw : Reg := (229, mpWhO) :: rgNb
theorem rgNw_ok {l : Launch} {g : GE} {d : Nat} : ∀ e as t σ Q, rE l g (d + 5) rgNw e as t σ Q → WPc l g e (d + 5) 0 0 as t σ Q := rE_cons (fun _ _ _ _ h => m_wholeOf h) rgNb_ok
theorem mo_whole {l : Launch} {g : GE} {d : Nat} {t : Tau} {σ : Mem} {Q : Post} {s : Int} (hk : MK t σ) (h : ansM (wholeQ (nM σ) (vA σ 176) s) t σ Q) : WPc l g 230 (d + 6) 0 0 [vR 175, vI s] t σ Q := by
  obtain ⟨hM, hW⟩ := hk
  have n6 := hM.2.2
  unfold ansM wholeQ at h
  by_cases hs : 0 ≤ s ∧ s < nM σ
  · rw [if_pos hs] at h
    obtain ⟨s0, s1⟩ := hs
    have s6 : s < 6 := by omega
    have hob := own_in hW s0 s1
    obtain ⟨N, hN'⟩ : ∃ N : Nat, (N : Int) = 12 - ownV (vA σ 176) s := ⟨(12 - ownV (vA σ 176) s).toNat, by omega⟩
    have hD := fun k hk => days_own hW s0 s1 k hk
    have K : ∀ σ', QFM σ σ' → σ' 175 8 = 0 → vA σ' 186 = daysV (nM σ) (mM σ) (vA σ 176) 0 → Wp l g 230 (d + 6) 0 0 29 [(0, vR 175), (1, vI s), (2, vI (0 : Nat))] [] t σ' Q := by
      refine lpU (P := fun j => ∀ σ', QFM σ σ' → σ' 175 8 = 0 → vA σ' 186 = daysV (nM σ) (mM σ) (vA σ 176) j → Wp l g 230 (d + 6) 0 0 29 [(0, vR 175), (1, vI s), (2, vI j)] [] t σ' Q) (n := N) ?_ (fun j hj K σ' h1 h2 h3 => ?_)
      · intro σ' h1 h2 h3
        obtain ⟨q1, q2, q3⟩ := hD N (by omega)
        have ew := whO_own q1 s0 s1
        rw [if_pos (by omega), q2] at ew
        have hsd := sd_in hW s0 s1
        have ne : ¬ vA σ 176 (6 + s) = -1 := by omega
        refine wa (by decide) rgNw_ok tk_230 30 (fun N hN => ?_)
        simp [bl_230, hN _, x_iconst, x_ldc2_w, x_aconst_null, x_iload, x_lload, x_aload, x_istore, x_lstore, x_astore, x_iinc, x_iadd, x_isub, x_imul, x_idiv, x_irem, x_iand, x_ior, x_ixor, x_ishl, x_ishr, x_iushr, x_ineg, x_ladd, x_lsub, x_lmul, x_ldiv, x_lrem, x_lcmp, x_i2l, x_i2b, x_i2s, x_i2c, x_dup, x_pop, x_dup_x1, x_dup2, x_getfield, x_putfield, x_iaload, x_baload, x_saload, x_caload, x_daload, x_faload, x_laload, x_aaload, x_iastore, x_bastore, x_sastore, x_castore, x_lastore, x_aastore, x_arraylength, x_getstatic, x_goto, x_goto_w, x_ifCond, x_if_icmp, x_ifnull, x_ifnonnull, x_lookupswitch, x_invokevirtual, x_invokestatic, x_invokedynamic, x_ireturn, x_freturn, x_dreturn, x_lreturn, x_areturn, x_return_, pI_c, pL_c, pR_c, pV_i, pV_r, gI_c, gL_c, gR_c, pN_z, pN_s, lget_c, lins_z, lins_c, ldel_z, ldel_c, ldel2_z, ldel2_c, lset_i, lset_l, lset_r, lkeep_z, lkeep_c, largs_z, largs_c, cat_i, cat_l, cat_r, lkp_c, cnd_eq, cnd_ne, cnd_lt, cnd_ge, cnd_gt, cnd_le, swL_z, swL_c, rE_e, rOr_s, rOr_n, rlk_z, rlk_c, aR_c, aI_c, aII_c, aIII_c, aRI_c, aRII_c, aRIII_c, vJn, vJs, vlc, aRR_c, aRRI_c, aRRII_c, aRRIII_c, aRIIII_c, aRL_c, aRLL_c, aLL_c, aRRRI_c, aIL_c, aIIII_c, aRRIIII_c, aIRII_c, aIR_c, aLI_c, aRIR_c, aRIIR_c, hM.1.o, hM.1, hM.1.f23, mpWhO, mpTell, RowT.thn hM.1, s0, s6, h3, ew, ne, up_ap, vA_up]
        rw [hN']
        exact h _ (QTM.q1 h1 h2)
      · have e2 := w32_succ (k := j) (by omega); have i1 : ((j : Nat) : Int) < (N : Nat) := (by omega); have i1n : j < N := (by omega); have i1x : ¬ N ≤ j := (by omega)
        obtain ⟨q1, q2, q3⟩ := hD j (by omega)
        have ew := whO_own q1 s0 s1
        rw [if_neg (by omega)] at ew
        have hM1 := h1.md hM
        refine wa (by decide) rgNw_ok ts_230 30 (fun N hN => ?_)
        simp [bs_230, hN _, x_iconst, x_ldc2_w, x_aconst_null, x_iload, x_lload, x_aload, x_istore, x_lstore, x_astore, x_iinc, x_iadd, x_isub, x_imul, x_idiv, x_irem, x_iand, x_ior, x_ixor, x_ishl, x_ishr, x_iushr, x_ineg, x_ladd, x_lsub, x_lmul, x_ldiv, x_lrem, x_lcmp, x_i2l, x_i2b, x_i2s, x_i2c, x_dup, x_pop, x_dup_x1, x_dup2, x_getfield, x_putfield, x_iaload, x_baload, x_saload, x_caload, x_daload, x_faload, x_laload, x_aaload, x_iastore, x_bastore, x_sastore, x_castore, x_lastore, x_aastore, x_arraylength, x_getstatic, x_goto, x_goto_w, x_ifCond, x_if_icmp, x_ifnull, x_ifnonnull, x_lookupswitch, x_invokevirtual, x_invokestatic, x_invokedynamic, x_ireturn, x_freturn, x_dreturn, x_lreturn, x_areturn, x_return_, pI_c, pL_c, pR_c, pV_i, pV_r, gI_c, gL_c, gR_c, pN_z, pN_s, lget_c, lins_z, lins_c, ldel_z, ldel_c, ldel2_z, ldel2_c, lset_i, lset_l, lset_r, lkeep_z, lkeep_c, largs_z, largs_c, cat_i, cat_l, cat_r, lkp_c, cnd_eq, cnd_ne, cnd_lt, cnd_ge, cnd_gt, cnd_le, swL_z, swL_c, rE_e, rOr_s, rOr_n, rlk_z, rlk_c, aR_c, aI_c, aII_c, aIII_c, aRI_c, aRII_c, aRIII_c, vJn, vJs, vlc, aRR_c, aRRI_c, aRRII_c, aRRIII_c, aRIIII_c, aRL_c, aRLL_c, aLL_c, aRRRI_c, aIL_c, aIIII_c, aRRIIII_c, aIRII_c, aIR_c, aLI_c, aRIR_c, aRIIR_c, hM.1.o, hM.1, hM.1.f23, mpWhO, mpDay, RowT.thn hM.1, s0, s6, h3, ew, hM1, ARow, h1.n, h1.m, q1]
        intro σ2 T
        have e8 : σ2 175 8 = 0 := by rw [T.1 175 (by omega), h2]
        simp [sg_230_15_1, sg_230_29_1, sg_230_55_1, hN _, x_iconst, x_ldc2_w, x_aconst_null, x_iload, x_lload, x_aload, x_istore, x_lstore, x_astore, x_iinc, x_iadd, x_isub, x_imul, x_idiv, x_irem, x_iand, x_ior, x_ixor, x_ishl, x_ishr, x_iushr, x_ineg, x_ladd, x_lsub, x_lmul, x_ldiv, x_lrem, x_lcmp, x_i2l, x_i2b, x_i2s, x_i2c, x_dup, x_pop, x_dup_x1, x_dup2, x_getfield, x_putfield, x_iaload, x_baload, x_saload, x_caload, x_daload, x_faload, x_laload, x_aaload, x_iastore, x_bastore, x_sastore, x_castore, x_lastore, x_aastore, x_arraylength, x_getstatic, x_goto, x_goto_w, x_ifCond, x_if_icmp, x_ifnull, x_ifnonnull, x_lookupswitch, x_invokevirtual, x_invokestatic, x_invokedynamic, x_ireturn, x_freturn, x_dreturn, x_lreturn, x_areturn, x_return_, pI_c, pL_c, pR_c, pV_i, pV_r, gI_c, gL_c, gR_c, pN_z, pN_s, lget_c, lins_z, lins_c, ldel_z, ldel_c, ldel2_z, ldel2_c, lset_i, lset_l, lset_r, lkeep_z, lkeep_c, largs_z, largs_c, cat_i, cat_l, cat_r, lkp_c, cnd_eq, cnd_ne, cnd_lt, cnd_ge, cnd_gt, cnd_le, swL_z, swL_c, rE_e, rOr_s, rOr_n, rlk_z, rlk_c, aR_c, aI_c, aII_c, aIII_c, aRI_c, aRII_c, aRIII_c, vJn, vJs, vlc, aRR_c, aRRI_c, aRRII_c, aRRIII_c, aRIIII_c, aRL_c, aRLL_c, aLL_c, aRRRI_c, aIL_c, aIIII_c, aRRIIII_c, aIRII_c, aIR_c, aLI_c, aRIR_c, aRIIR_c, e2]
        exact K σ2 (h1.tr ⟨fun o a b => T.1 o (fun z => b (by rw [z]; unfold scrM; omega)), fun k _ => by rw [T.1 175 (by omega)]⟩) e8 T.2
    refine wg (by decide) rgNw_ok ts_230 py_230 ml_230 30 (by simp [catT]) (fun N hN => ?_)
    simp [bs_230, hN _, x_iconst, x_ldc2_w, x_aconst_null, x_iload, x_lload, x_aload, x_istore, x_lstore, x_astore, x_iinc, x_iadd, x_isub, x_imul, x_idiv, x_irem, x_iand, x_ior, x_ixor, x_ishl, x_ishr, x_iushr, x_ineg, x_ladd, x_lsub, x_lmul, x_ldiv, x_lrem, x_lcmp, x_i2l, x_i2b, x_i2s, x_i2c, x_dup, x_pop, x_dup_x1, x_dup2, x_getfield, x_putfield, x_iaload, x_baload, x_saload, x_caload, x_daload, x_faload, x_laload, x_aaload, x_iastore, x_bastore, x_sastore, x_castore, x_lastore, x_aastore, x_arraylength, x_getstatic, x_goto, x_goto_w, x_ifCond, x_if_icmp, x_ifnull, x_ifnonnull, x_lookupswitch, x_invokevirtual, x_invokestatic, x_invokedynamic, x_ireturn, x_freturn, x_dreturn, x_lreturn, x_areturn, x_return_, pI_c, pL_c, pR_c, pV_i, pV_r, gI_c, gL_c, gR_c, pN_z, pN_s, lget_c, lins_z, lins_c, ldel_z, ldel_c, ldel2_z, ldel2_c, lset_i, lset_l, lset_r, lkeep_z, lkeep_c, largs_z, largs_c, cat_i, cat_l, cat_r, lkp_c, cnd_eq, cnd_ne, cnd_lt, cnd_ge, cnd_gt, cnd_le, swL_z, swL_c, rE_e, rOr_s, rOr_n, rlk_z, rlk_c, aR_c, aI_c, aII_c, aIII_c, aRI_c, aRII_c, aRIII_c, vJn, vJs, vlc, aRR_c, aRRI_c, aRRII_c, aRRIII_c, aRIIII_c, aRL_c, aRLL_c, aLL_c, aRRRI_c, aIL_c, aIIII_c, aRRIIII_c, aIRII_c, aIR_c, aLI_c, aRIR_c, aRIIR_c, hM.1.o, hM.1.f0, hM.1.f23, mpShip, mpLay, hM, md_up, nM_up, RowT.now hM.1, hM.1.t186, hM.1.l186, s0, s1, Int.not_le.mpr s1, Int.not_lt.mpr s0]
    intro σ1 y1 y2
    have q1 : QFM σ σ1 := ⟨fun o a b => by rw [y1 o (fun z => b (by rw [z]; unfold scrM; omega)), up_ne a], fun j a => by rw [y1 175 (by omega), up_ap, if_neg (fun z => a (by rw [z.2]; unfold scrF; omega))]⟩
    have v1 : vA σ1 186 = vA σ 176 := lay_v (f := 176) (fun j => by rw [y2 j]; simp [up_ap])
    simp [sg_230_15_1, sg_230_29_1, sg_230_55_1, hN _, x_iconst, x_ldc2_w, x_aconst_null, x_iload, x_lload, x_aload, x_istore, x_lstore, x_astore, x_iinc, x_iadd, x_isub, x_imul, x_idiv, x_irem, x_iand, x_ior, x_ixor, x_ishl, x_ishr, x_iushr, x_ineg, x_ladd, x_lsub, x_lmul, x_ldiv, x_lrem, x_lcmp, x_i2l, x_i2b, x_i2s, x_i2c, x_dup, x_pop, x_dup_x1, x_dup2, x_getfield, x_putfield, x_iaload, x_baload, x_saload, x_caload, x_daload, x_faload, x_laload, x_aaload, x_iastore, x_bastore, x_sastore, x_castore, x_lastore, x_aastore, x_arraylength, x_getstatic, x_goto, x_goto_w, x_ifCond, x_if_icmp, x_ifnull, x_ifnonnull, x_lookupswitch, x_invokevirtual, x_invokestatic, x_invokedynamic, x_ireturn, x_freturn, x_dreturn, x_lreturn, x_areturn, x_return_, pI_c, pL_c, pR_c, pV_i, pV_r, gI_c, gL_c, gR_c, pN_z, pN_s, lget_c, lins_z, lins_c, ldel_z, ldel_c, ldel2_z, ldel2_c, lset_i, lset_l, lset_r, lkeep_z, lkeep_c, largs_z, largs_c, cat_i, cat_l, cat_r, lkp_c, cnd_eq, cnd_ne, cnd_lt, cnd_ge, cnd_gt, cnd_le, swL_z, swL_c, rE_e, rOr_s, rOr_n, rlk_z, rlk_c, aR_c, aI_c, aII_c, aIII_c, aRI_c, aRII_c, aRIII_c, vJn, vJs, vlc, aRR_c, aRRI_c, aRRII_c, aRRIII_c, aRIIII_c, aRL_c, aRLL_c, aLL_c, aRRRI_c, aIL_c, aIIII_c, aRRIIII_c, aIRII_c, aIR_c, aLI_c, aRIR_c, aRIIR_c]
    exact K σ1 q1 (by rw [y1 175 (by omega)]; simp [up_ap]) v1
  · rw [if_neg hs] at h
    have h := h _ QTM.rf
    refine wg (by decide) rgN_ok tk_230 py_230 ml_230 30 (by simp [catT]) (fun N hN => ?_)
    simp [bl_230, hN _, x_iconst, x_ldc2_w, x_aconst_null, x_iload, x_lload, x_aload, x_istore, x_lstore, x_astore, x_iinc, x_iadd, x_isub, x_imul, x_idiv, x_irem, x_iand, x_ior, x_ixor, x_ishl, x_ishr, x_iushr, x_ineg, x_ladd, x_lsub, x_lmul, x_ldiv, x_lrem, x_lcmp, x_i2l, x_i2b, x_i2s, x_i2c, x_dup, x_pop, x_dup_x1, x_dup2, x_getfield, x_putfield, x_iaload, x_baload, x_saload, x_caload, x_daload, x_faload, x_laload, x_aaload, x_iastore, x_bastore, x_sastore, x_castore, x_lastore, x_aastore, x_arraylength, x_getstatic, x_goto, x_goto_w, x_ifCond, x_if_icmp, x_ifnull, x_ifnonnull, x_lookupswitch, x_invokevirtual, x_invokestatic, x_invokedynamic, x_ireturn, x_freturn, x_dreturn, x_lreturn, x_areturn, x_return_, pI_c, pL_c, pR_c, pV_i, pV_r, gI_c, gL_c, gR_c, pN_z, pN_s, lget_c, lins_z, lins_c, ldel_z, ldel_c, ldel2_z, ldel2_c, lset_i, lset_l, lset_r, lkeep_z, lkeep_c, largs_z, largs_c, cat_i, cat_l, cat_r, lkp_c, cnd_eq, cnd_ne, cnd_lt, cnd_ge, cnd_gt, cnd_le, swL_z, swL_c, rE_e, rOr_s, rOr_n, rlk_z, rlk_c, aR_c, aI_c, aII_c, aIII_c, aRI_c, aRII_c, aRIII_c, vJn, vJs, vlc, aRR_c, aRRI_c, aRRII_c, aRRIII_c, aRIIII_c, aRL_c, aRLL_c, aLL_c, aRRRI_c, aIL_c, aIIII_c, aRRIIII_c, aIRII_c, aIR_c, aLI_c, aRIR_c, aRIIR_c, hM.1.o, mpShip, hM, md_up, nM_up]
    grind
