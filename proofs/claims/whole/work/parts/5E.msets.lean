/-! the reference: sets of ships -/
def mpHas : Sp := fun as t σ Q => aII as fun b k => Q (some (vI (if iand (ishr b k) 1 = 1 then 1 else 0))) t σ
theorem m_has {l : Launch} {g : GE} {d : Nat} {t : Tau} {σ : Mem} {Q : Post} {as : List TV} (h0 : mpHas as t σ Q) : WPc l g 168 (d + 1) 0 0 as t σ Q := by
  obtain ⟨b, k, rfl, h⟩ := aII_e h0
  clear h0
  refine wg (by decide) rE_nil tk_168 py_168 ml_168 30 (by simp [catT]) (fun N hN => ?_)
  simp [bl_168, hN _, x_iconst, x_ldc2_w, x_aconst_null, x_iload, x_lload, x_aload, x_istore, x_lstore, x_astore, x_iinc, x_iadd, x_isub, x_imul, x_idiv, x_irem, x_iand, x_ior, x_ixor, x_ishl, x_ishr, x_iushr, x_ineg, x_ladd, x_lsub, x_lmul, x_ldiv, x_lrem, x_lcmp, x_i2l, x_i2b, x_i2s, x_i2c, x_dup, x_pop, x_dup_x1, x_dup2, x_getfield, x_putfield, x_iaload, x_baload, x_saload, x_caload, x_daload, x_faload, x_laload, x_aaload, x_iastore, x_bastore, x_sastore, x_castore, x_lastore, x_aastore, x_arraylength, x_getstatic, x_goto, x_goto_w, x_ifCond, x_if_icmp, x_ifnull, x_ifnonnull, x_lookupswitch, x_invokevirtual, x_invokestatic, x_invokedynamic, x_ireturn, x_freturn, x_dreturn, x_lreturn, x_areturn, x_return_, pI_c, pL_c, pR_c, pV_i, pV_r, gI_c, gL_c, gR_c, pN_z, pN_s, lget_c, lins_z, lins_c, ldel_z, ldel_c, ldel2_z, ldel2_c, lset_i, lset_l, lset_r, lkeep_z, lkeep_c, largs_z, largs_c, cat_i, cat_l, cat_r, lkp_c, cnd_eq, cnd_ne, cnd_lt, cnd_ge, cnd_gt, cnd_le, swL_z, swL_c, rE_e, rOr_s, rOr_n, rlk_z, rlk_c, aR_c, aI_c, aII_c, aIII_c, aRI_c, aRII_c, aRIII_c, vJn, vJs, vlc, aRR_c, aRRI_c, aRRII_c, aRRIII_c, aRIIII_c, aRL_c, aRLL_c, aLL_c, aRRRI_c, aIL_c, aIIII_c, aRRIIII_c, aIRII_c, aIR_c, aLI_c, aRIR_c, aRIIR_c]
  refine ⟨fun z => ?_, fun z => ?_⟩
  · rw [if_neg z] at h; exact h
  · rw [if_pos z] at h; exact h
def mpAll : Sp := fun as t σ Q => aR as fun a => a = 175 ∧ MdOk t σ ∧ Q (some (vI ((2 ^ nM σ : Nat) - 1))) t σ
theorem m_all {l : Launch} {g : GE} {d : Nat} {t : Tau} {σ : Mem} {Q : Post} {as : List TV} (h0 : mpAll as t σ Q) : WPc l g 174 (d + 1) 0 0 as t σ Q := by
  obtain ⟨a, rfl, rfl, hM, h⟩ := aR_e h0
  clear h0
  have hp2 := pow_le64 hM.2.2
  have eS := shl_1 hM.2.2
  have e1 : w32 (((2 ^ nM σ : Nat) : Int) - 1) = ((2 ^ nM σ : Nat) : Int) - 1 := w32_id (by omega) (by omega)
  refine wg (by decide) rE_nil tk_174 py_174 ml_174 30 (by simp [catT]) (fun N hN => ?_)
  simp [bl_174, hN _, x_iconst, x_ldc2_w, x_aconst_null, x_iload, x_lload, x_aload, x_istore, x_lstore, x_astore, x_iinc, x_iadd, x_isub, x_imul, x_idiv, x_irem, x_iand, x_ior, x_ixor, x_ishl, x_ishr, x_iushr, x_ineg, x_ladd, x_lsub, x_lmul, x_ldiv, x_lrem, x_lcmp, x_i2l, x_i2b, x_i2s, x_i2c, x_dup, x_pop, x_dup_x1, x_dup2, x_getfield, x_putfield, x_iaload, x_baload, x_saload, x_caload, x_daload, x_faload, x_laload, x_aaload, x_iastore, x_bastore, x_sastore, x_castore, x_lastore, x_aastore, x_arraylength, x_getstatic, x_goto, x_goto_w, x_ifCond, x_if_icmp, x_ifnull, x_ifnonnull, x_lookupswitch, x_invokevirtual, x_invokestatic, x_invokedynamic, x_ireturn, x_freturn, x_dreturn, x_lreturn, x_areturn, x_return_, pI_c, pL_c, pR_c, pV_i, pV_r, gI_c, gL_c, gR_c, pN_z, pN_s, lget_c, lins_z, lins_c, ldel_z, ldel_c, ldel2_z, ldel2_c, lset_i, lset_l, lset_r, lkeep_z, lkeep_c, largs_z, largs_c, cat_i, cat_l, cat_r, lkp_c, cnd_eq, cnd_ne, cnd_lt, cnd_ge, cnd_gt, cnd_le, swL_z, swL_c, rE_e, rOr_s, rOr_n, rlk_z, rlk_c, aR_c, aI_c, aII_c, aIII_c, aRI_c, aRII_c, aRIII_c, vJn, vJs, vlc, aRR_c, aRRI_c, aRRII_c, aRRIII_c, aRIIII_c, aRL_c, aRLL_c, aLL_c, aRRRI_c, aIL_c, aIIII_c, aRRIIII_c, aIRII_c, aIR_c, aLI_c, aRIR_c, aRIIR_c, hM.1.o, hM.2.1, eS]
  have e2 : ((2 ^ nM σ : Nat) : Int) = (2 : Int) ^ nM σ := by simp
  rw [e2] at e1 h
  rw [e1]
  exact h
theorem rgHa_ok {l : Launch} {g : GE} {d : Nat} : ∀ e as t σ Q, rE l g (d + 1) [(168, mpHas)] e as t σ Q → WPc l g e (d + 1) 0 0 as t σ Q := rE_cons (fun _ _ _ _ h => m_has h) rE_nil
def mpStO : Sp := fun as t σ Q => aRI as fun a b => a = 175 ∧ MK t σ ∧ (0 ≤ b ∧ b < 64) ∧ Q (some (vI (sumT b.toNat (vA σ 176) (nM σ)))) t σ
theorem m_strengthOf {l : Launch} {g : GE} {d : Nat} {t : Tau} {σ : Mem} {Q : Post} {as : List TV} (h0 : mpStO as t σ Q) : WPc l g 248 (d + 2) 0 0 as t σ Q := by
  obtain ⟨a, b, rfl, rfl, hk, ⟨b0, b1⟩, h⟩ := aRI_e h0
  clear h0
  obtain ⟨hM, hW⟩ := hk
  have n6 := hM.2.2
  have z0 := hM.2.1
  obtain ⟨B, rfl⟩ : ∃ B : Nat, b = B := ⟨b.toNat, by omega⟩
  rw [Int.toNat_natCast] at h
  have hB : B < 64 := by omega
  have K : Wp l g 248 (d + 2) 0 0 4 [(0, vR 175), (1, vI B), (2, vI (sumT B (vA σ 176) 0)), (3, vI (0 : Nat))] [] t σ Q := by
    refine lpU (P := fun i => Wp l g 248 (d + 2) 0 0 4 [(0, vR 175), (1, vI B), (2, vI (sumT B (vA σ 176) i)), (3, vI i)] [] t σ Q) (n := nM σ) ?_ (fun i hi K => ?_)
    · refine wa (by decide) rgHa_ok tk_248 30 (fun N hN => ?_)
      simp [bl_248, hN _, x_iconst, x_ldc2_w, x_aconst_null, x_iload, x_lload, x_aload, x_istore, x_lstore, x_astore, x_iinc, x_iadd, x_isub, x_imul, x_idiv, x_irem, x_iand, x_ior, x_ixor, x_ishl, x_ishr, x_iushr, x_ineg, x_ladd, x_lsub, x_lmul, x_ldiv, x_lrem, x_lcmp, x_i2l, x_i2b, x_i2s, x_i2c, x_dup, x_pop, x_dup_x1, x_dup2, x_getfield, x_putfield, x_iaload, x_baload, x_saload, x_caload, x_daload, x_faload, x_laload, x_aaload, x_iastore, x_bastore, x_sastore, x_castore, x_lastore, x_aastore, x_arraylength, x_getstatic, x_goto, x_goto_w, x_ifCond, x_if_icmp, x_ifnull, x_ifnonnull, x_lookupswitch, x_invokevirtual, x_invokestatic, x_invokedynamic, x_ireturn, x_freturn, x_dreturn, x_lreturn, x_areturn, x_return_, pI_c, pL_c, pR_c, pV_i, pV_r, gI_c, gL_c, gR_c, pN_z, pN_s, lget_c, lins_z, lins_c, ldel_z, ldel_c, ldel2_z, ldel2_c, lset_i, lset_l, lset_r, lkeep_z, lkeep_c, largs_z, largs_c, cat_i, cat_l, cat_r, lkp_c, cnd_eq, cnd_ne, cnd_lt, cnd_ge, cnd_gt, cnd_le, swL_z, swL_c, rE_e, rOr_s, rOr_n, rlk_z, rlk_c, aR_c, aI_c, aII_c, aIII_c, aRI_c, aRII_c, aRIII_c, vJn, vJs, vlc, aRR_c, aRRI_c, aRRII_c, aRRIII_c, aRIIII_c, aRL_c, aRLL_c, aLL_c, aRRRI_c, aIL_c, aIIII_c, aRRIIII_c, aIRII_c, aIR_c, aLI_c, aRIR_c, aRIIR_c, hM.1.o, z0]
      exact h
    · have e2 := w32_succ (k := i) (by omega); have i1 : ((i : Nat) : Int) < (nM σ : Nat) := (by omega); have i1n : i < nM σ := (by omega); have i1x : ¬ nM σ ≤ i := (by omega)
      have i50 : (i : Int) < 50 := by omega
      have i50n : i < 50 := by omega
      have ex : σ 176 i = vA σ 176 i := vA_at (by omega) (by omega)
      have hst := st_in hW (i := i) (by omega) (by omega)
      have hs := sumT_b (b := B) (f := vA σ 176) (B := 9) i (by omega) (by omega) (fun j j0 j1 => st_in hW j0 (by omega))
      have es : sumT B (vA σ 176) (i + 1) = sumT B (vA σ 176) i + (if tb B i then vA σ 176 i else 0) := rfl
      rw [es] at K
      have hb := bit_m (b := B) (k := i) hB (by omega)
      generalize sumT B (vA σ 176) i = S at K hs
      refine wa (by decide) rgHa_ok tk_248 30 (fun N hN => ?_)
      by_cases hc : tb B i = true
      · rw [if_pos hc] at K
        have w1 : w32 (S + vA σ 176 i) = S + vA σ 176 i := w32_id (by omega) (by omega)
        simp [bl_248, hN _, x_iconst, x_ldc2_w, x_aconst_null, x_iload, x_lload, x_aload, x_istore, x_lstore, x_astore, x_iinc, x_iadd, x_isub, x_imul, x_idiv, x_irem, x_iand, x_ior, x_ixor, x_ishl, x_ishr, x_iushr, x_ineg, x_ladd, x_lsub, x_lmul, x_ldiv, x_lrem, x_lcmp, x_i2l, x_i2b, x_i2s, x_i2c, x_dup, x_pop, x_dup_x1, x_dup2, x_getfield, x_putfield, x_iaload, x_baload, x_saload, x_caload, x_daload, x_faload, x_laload, x_aaload, x_iastore, x_bastore, x_sastore, x_castore, x_lastore, x_aastore, x_arraylength, x_getstatic, x_goto, x_goto_w, x_ifCond, x_if_icmp, x_ifnull, x_ifnonnull, x_lookupswitch, x_invokevirtual, x_invokestatic, x_invokedynamic, x_ireturn, x_freturn, x_dreturn, x_lreturn, x_areturn, x_return_, pI_c, pL_c, pR_c, pV_i, pV_r, gI_c, gL_c, gR_c, pN_z, pN_s, lget_c, lins_z, lins_c, ldel_z, ldel_c, ldel2_z, ldel2_c, lset_i, lset_l, lset_r, lkeep_z, lkeep_c, largs_z, largs_c, cat_i, cat_l, cat_r, lkp_c, cnd_eq, cnd_ne, cnd_lt, cnd_ge, cnd_gt, cnd_le, swL_z, swL_c, rE_e, rOr_s, rOr_n, rlk_z, rlk_c, aR_c, aI_c, aII_c, aIII_c, aRI_c, aRII_c, aRIII_c, vJn, vJs, vlc, aRR_c, aRRI_c, aRRII_c, aRRIII_c, aRIIII_c, aRL_c, aRLL_c, aLL_c, aRRRI_c, aIL_c, aIIII_c, aRRIIII_c, aIRII_c, aIR_c, aLI_c, aRIR_c, aRIIR_c, hM.1.o, hM.1.f0, hM.1.t176, hM.1.l176, z0, mpHas, hb, hc, e2, i1, i1n, i1x, i50, i50n, ex, w1]
        exact K
      · rw [if_neg hc] at K
        have w1 : w32 (S + 0) = S := by rw [w32_id (by omega) (by omega)]; omega
        have w2 : w32 S = S := w32_id (by omega) (by omega)
        simp [bl_248, hN _, x_iconst, x_ldc2_w, x_aconst_null, x_iload, x_lload, x_aload, x_istore, x_lstore, x_astore, x_iinc, x_iadd, x_isub, x_imul, x_idiv, x_irem, x_iand, x_ior, x_ixor, x_ishl, x_ishr, x_iushr, x_ineg, x_ladd, x_lsub, x_lmul, x_ldiv, x_lrem, x_lcmp, x_i2l, x_i2b, x_i2s, x_i2c, x_dup, x_pop, x_dup_x1, x_dup2, x_getfield, x_putfield, x_iaload, x_baload, x_saload, x_caload, x_daload, x_faload, x_laload, x_aaload, x_iastore, x_bastore, x_sastore, x_castore, x_lastore, x_aastore, x_arraylength, x_getstatic, x_goto, x_goto_w, x_ifCond, x_if_icmp, x_ifnull, x_ifnonnull, x_lookupswitch, x_invokevirtual, x_invokestatic, x_invokedynamic, x_ireturn, x_freturn, x_dreturn, x_lreturn, x_areturn, x_return_, pI_c, pL_c, pR_c, pV_i, pV_r, gI_c, gL_c, gR_c, pN_z, pN_s, lget_c, lins_z, lins_c, ldel_z, ldel_c, ldel2_z, ldel2_c, lset_i, lset_l, lset_r, lkeep_z, lkeep_c, largs_z, largs_c, cat_i, cat_l, cat_r, lkp_c, cnd_eq, cnd_ne, cnd_lt, cnd_ge, cnd_gt, cnd_le, swL_z, swL_c, rE_e, rOr_s, rOr_n, rlk_z, rlk_c, aR_c, aI_c, aII_c, aIII_c, aRI_c, aRII_c, aRIII_c, vJn, vJs, vlc, aRR_c, aRRI_c, aRRII_c, aRRIII_c, aRIIII_c, aRL_c, aRLL_c, aLL_c, aRRRI_c, aIL_c, aIIII_c, aRRIIII_c, aIRII_c, aIR_c, aLI_c, aRIR_c, aRIIR_c, hM.1.o, hM.1.f0, hM.1.t176, hM.1.l176, z0, mpHas, hb, hc, e2, i1, i1n, i1x, i50, i50n, ex, w1, w2]
        simpa using K
  refine wg (by decide) rgHa_ok tk_248 py_248 ml_248 30 (by simp [catT]) (fun N hN => ?_)
  simp [bl_248, hN _, x_iconst, x_ldc2_w, x_aconst_null, x_iload, x_lload, x_aload, x_istore, x_lstore, x_astore, x_iinc, x_iadd, x_isub, x_imul, x_idiv, x_irem, x_iand, x_ior, x_ixor, x_ishl, x_ishr, x_iushr, x_ineg, x_ladd, x_lsub, x_lmul, x_ldiv, x_lrem, x_lcmp, x_i2l, x_i2b, x_i2s, x_i2c, x_dup, x_pop, x_dup_x1, x_dup2, x_getfield, x_putfield, x_iaload, x_baload, x_saload, x_caload, x_daload, x_faload, x_laload, x_aaload, x_iastore, x_bastore, x_sastore, x_castore, x_lastore, x_aastore, x_arraylength, x_getstatic, x_goto, x_goto_w, x_ifCond, x_if_icmp, x_ifnull, x_ifnonnull, x_lookupswitch, x_invokevirtual, x_invokestatic, x_invokedynamic, x_ireturn, x_freturn, x_dreturn, x_lreturn, x_areturn, x_return_, pI_c, pL_c, pR_c, pV_i, pV_r, gI_c, gL_c, gR_c, pN_z, pN_s, lget_c, lins_z, lins_c, ldel_z, ldel_c, ldel2_z, ldel2_c, lset_i, lset_l, lset_r, lkeep_z, lkeep_c, largs_z, largs_c, cat_i, cat_l, cat_r, lkp_c, cnd_eq, cnd_ne, cnd_lt, cnd_ge, cnd_gt, cnd_le, swL_z, swL_c, rE_e, rOr_s, rOr_n, rlk_z, rlk_c, aR_c, aI_c, aII_c, aIII_c, aRI_c, aRII_c, aRIII_c, vJn, vJs, vlc, aRR_c, aRRI_c, aRRII_c, aRRIII_c, aRIIII_c, aRL_c, aRLL_c, aLL_c, aRRRI_c, aIL_c, aIIII_c, aRRIIII_c, aIRII_c, aIR_c, aLI_c, aRIR_c, aRIIR_c]
  exact K
abbrev rgNs : Reg := (168, mpHas) :: (174, mpAll) :: (248, mpStO) :: rgNc
theorem rgNs_ok {l : Launch} {g : GE} {d : Nat} : ∀ e as t σ Q, rE l g (d + 5) rgNs e as t σ Q → WPc l g e (d + 5) 0 0 as t σ Q := rE_cons (fun _ _ _ _ h => m_has h) (rE_cons (fun _ _ _ _ h => m_all h) (rE_cons (fun _ _ _ _ h => m_strengthOf h) rgNc_ok))
theorem sumT_all {f : Int → Int} : ∀ n : Nat, n ≤ 6 → sumT (2 ^ n - 1) f n = sumN f n := by
  intro n hn
  refine sumN_cg n fun i i0 i1 => ?_
  obtain ⟨k, rfl⟩ : ∃ k : Nat, i = k := ⟨i.toNat, by omega⟩
  rw [Int.toNat_natCast]
  have ht : ∀ n : Fin 7, ∀ k : Fin 6, k.val < n.val → tb (2 ^ n.val - 1) k.val = true := by decide +kernel
  rw [if_pos (ht ⟨n, by omega⟩ ⟨k, by omega⟩ (by show k < n; omega))]
theorem mo_evens {l : Launch} {g : GE} {d : Nat} {t : Tau} {σ : Mem} {Q : Post} (hk : MK t σ) (h : ansM (evQ (nM σ) (vA σ 176)) t σ Q) : WPc l g 249 (d + 6) 0 0 [vR 175] t σ Q := by
  have hk' := hk
  obtain ⟨hM, hW⟩ := hk
  have n6 := hM.2.2
  have z0 := hM.2.1
  have hp2 := pow_le64 n6
  have hk8 : MK t (up σ 175 8 0) := by rw [mk_up (by omega) (by omega) (by omega)]; exact hk'
  have hM8 := hk8.1
  unfold ansM evQ at h
  have hB : ∀ i : Int, 0 ≤ i → i < nM σ → 0 ≤ vA σ 176 i ∧ vA σ 176 i ≤ 9 := fun i i0 i1 => st_in hW i0 i1
  have hA := sumN_b (f := vA σ 176) (nM σ) hB
  have hA2 := mul_le12 n6 (by omega) hA.2
  have hAll := sumT_all (f := vA σ 176) (nM σ) n6
  generalize hF : evF (vA σ 176) (nM σ) = F at h
  have hF0 : F 0 = 0 := by rw [← hF]; rfl
  have hFl : ∀ k, F k ≤ 2 * k := by rw [← hF]; exact evF_l _ _
  have hFs : ∀ k, F (k + 1) = if absI (2 * sumT (2 * k) (vA σ 176) (nM σ) - sumN (vA σ 176) (nM σ)) < absI (2 * sumT (F k) (vA σ 176) (nM σ) - sumN (vA σ 176) (nM σ)) then 2 * k else F k := by rw [← hF]; intro k; rfl
  have hF1 : F 1 = 0 := by rw [hFs 0, hF0, show 2 * 0 = 0 from rfl, if_neg (by omega)]
  have hFm : ∀ k, 2 * k < 64 → F (k + 1) < 64 := fun k hk => by
    rw [hFs k]
    split
    · omega
    · have := hFl k; omega
  generalize hAl : sumN (vA σ 176) (nM σ) = A at h hA hA2 hFs hAll
  have hsum : ∀ b : Nat, 0 ≤ sumT b (vA σ 176) (nM σ) ∧ sumT b (vA σ 176) (nM σ) ≤ 54 := fun b => by
    have := sumT_b (b := b) (f := vA σ 176) (nM σ) n6 (by omega) hB
    omega
  have hw : ∀ b : Nat, w32 (2 * sumT b (vA σ 176) (nM σ)) = 2 * sumT b (vA σ 176) (nM σ) := fun b => by have := hsum b; exact w32_id (by omega) (by omega)
  have hab : ∀ b : Nat, (if w32 (2 * sumT b (vA σ 176) (nM σ) - A) < 0 then w32 (-w32 (2 * sumT b (vA σ 176) (nM σ) - A)) else w32 (2 * sumT b (vA σ 176) (nM σ) - A)) = absI (2 * sumT b (vA σ 176) (nM σ) - A) := fun b => by
    have := hsum b
    rw [w32_id (x := 2 * sumT b (vA σ 176) (nM σ) - A) (by omega) (by omega), w32_id (x := -(2 * sumT b (vA σ 176) (nM σ) - A)) (by omega) (by omega)]
    rfl
  have K : Wp l g 249 (d + 6) 0 0 18 [(0, vR 175), (1, vI A), (2, vI (F (0 + 1))), (3, vI (2 * (0 + 1) : Nat))] [] t (up σ 175 8 0) Q := by
    refine lpU (P := fun k => Wp l g 249 (d + 6) 0 0 18 [(0, vR 175), (1, vI A), (2, vI (F (k + 1))), (3, vI (2 * (k + 1) : Nat))] [] t (up σ 175 8 0) Q) (n := (2 ^ nM σ + 1) / 2 - 1) ?_ (fun k hk' K => ?_)
    · have e0 : (2 ^ nM σ + 1) / 2 - 1 + 1 = (2 ^ nM σ + 1) / 2 := by omega
      rw [e0]
      have e1 : ((2 ^ nM σ : Nat) : Int) ≤ ((2 * ((2 ^ nM σ + 1) / 2) : Nat) : Int) := by omega
      have hFb : F ((2 ^ nM σ + 1) / 2) < 64 := by
        have := hFm ((2 ^ nM σ + 1) / 2 - 1) (by omega)
        rw [e0] at this; exact this
      generalize (2 ^ nM σ + 1) / 2 = K at h e1 hFb
      have e2 : (2 : Int) ^ nM σ ≤ 2 * (K : Int) := by simpa using e1
      have e3 : ((F K : Nat) : Int) < 64 := by omega
      generalize hb : F K = b at h e3 hFb
      refine wa (by decide) rgNs_ok tk_249 30 (fun N hN => ?_)
      simp [bl_249, hN _, x_iconst, x_ldc2_w, x_aconst_null, x_iload, x_lload, x_aload, x_istore, x_lstore, x_astore, x_iinc, x_iadd, x_isub, x_imul, x_idiv, x_irem, x_iand, x_ior, x_ixor, x_ishl, x_ishr, x_iushr, x_ineg, x_ladd, x_lsub, x_lmul, x_ldiv, x_lrem, x_lcmp, x_i2l, x_i2b, x_i2s, x_i2c, x_dup, x_pop, x_dup_x1, x_dup2, x_getfield, x_putfield, x_iaload, x_baload, x_saload, x_caload, x_daload, x_faload, x_laload, x_aaload, x_iastore, x_bastore, x_sastore, x_castore, x_lastore, x_aastore, x_arraylength, x_getstatic, x_goto, x_goto_w, x_ifCond, x_if_icmp, x_ifnull, x_ifnonnull, x_lookupswitch, x_invokevirtual, x_invokestatic, x_invokedynamic, x_ireturn, x_freturn, x_dreturn, x_lreturn, x_areturn, x_return_, pI_c, pL_c, pR_c, pV_i, pV_r, gI_c, gL_c, gR_c, pN_z, pN_s, lget_c, lins_z, lins_c, ldel_z, ldel_c, ldel2_z, ldel2_c, lset_i, lset_l, lset_r, lkeep_z, lkeep_c, largs_z, largs_c, cat_i, cat_l, cat_r, lkp_c, cnd_eq, cnd_ne, cnd_lt, cnd_ge, cnd_gt, cnd_le, swL_z, swL_c, rE_e, rOr_s, rOr_n, rlk_z, rlk_c, aR_c, aI_c, aII_c, aIII_c, aRI_c, aRII_c, aRIII_c, vJn, vJs, vlc, aRR_c, aRRI_c, aRRII_c, aRRIII_c, aRIIII_c, aRL_c, aRLL_c, aLL_c, aRRRI_c, aIL_c, aIIII_c, aRRIIII_c, aIRII_c, aIR_c, aLI_c, aRIR_c, aRIIR_c, hM.1.o, hM.1, mpAll, mpTell, mpStO, spAbs, hk8, hM8, mk_up, nM_up, vA_up, up_ap, e3, hFb]
      refine ⟨fun _ => ?_, fun z => by omega⟩
      rw [hw, hab]
      exact h _ (QTM.q1 (QFM.rf.up sf8) (by simp [up_ap]))
    · have e1 : ¬ ((2 ^ nM σ : Nat) : Int) ≤ ((2 * (k + 1) : Nat) : Int) := by omega
      have e2 : ¬ (2 : Int) ^ nM σ ≤ 2 * ((k : Int) + 1) := by simpa using e1
      have e5 : w32 (2 * ((k : Int) + 1) + 2) = ((2 * (k + 1 + 1) : Nat) : Int) := by rw [w32_id (by omega) (by omega)]; omega
      have hFb := hFm k (by omega)
      rw [hFs (k + 1)] at K
      generalize hb : F (k + 1) = b at K hFb
      have b3 : (b : Int) < 64 := by omega
      have b4 : 2 * ((k : Int) + 1) < 64 := by omega
      have b5 : (0 : Int) ≤ 2 * ((k : Int) + 1) := by omega
      have b6 : (2 * ((k : Int) + 1)).toNat = 2 * (k + 1) := by omega
      refine wa (by decide) rgNs_ok tk_249 30 (fun N hN => ?_)
      simp [bl_249, hN _, x_iconst, x_ldc2_w, x_aconst_null, x_iload, x_lload, x_aload, x_istore, x_lstore, x_astore, x_iinc, x_iadd, x_isub, x_imul, x_idiv, x_irem, x_iand, x_ior, x_ixor, x_ishl, x_ishr, x_iushr, x_ineg, x_ladd, x_lsub, x_lmul, x_ldiv, x_lrem, x_lcmp, x_i2l, x_i2b, x_i2s, x_i2c, x_dup, x_pop, x_dup_x1, x_dup2, x_getfield, x_putfield, x_iaload, x_baload, x_saload, x_caload, x_daload, x_faload, x_laload, x_aaload, x_iastore, x_bastore, x_sastore, x_castore, x_lastore, x_aastore, x_arraylength, x_getstatic, x_goto, x_goto_w, x_ifCond, x_if_icmp, x_ifnull, x_ifnonnull, x_lookupswitch, x_invokevirtual, x_invokestatic, x_invokedynamic, x_ireturn, x_freturn, x_dreturn, x_lreturn, x_areturn, x_return_, pI_c, pL_c, pR_c, pV_i, pV_r, gI_c, gL_c, gR_c, pN_z, pN_s, lget_c, lins_z, lins_c, ldel_z, ldel_c, ldel2_z, ldel2_c, lset_i, lset_l, lset_r, lkeep_z, lkeep_c, largs_z, largs_c, cat_i, cat_l, cat_r, lkp_c, cnd_eq, cnd_ne, cnd_lt, cnd_ge, cnd_gt, cnd_le, swL_z, swL_c, rE_e, rOr_s, rOr_n, rlk_z, rlk_c, aR_c, aI_c, aII_c, aIII_c, aRI_c, aRII_c, aRIII_c, vJn, vJs, vlc, aRR_c, aRRI_c, aRRII_c, aRRIII_c, aRIIII_c, aRL_c, aRLL_c, aLL_c, aRRRI_c, aIL_c, aIIII_c, aRRIIII_c, aIRII_c, aIR_c, aLI_c, aRIR_c, aRIIR_c, hM.1.o, mpAll, mpStO, spAbs, hk8, hM8, nM_up, vA_up, b3, b4, b5, b6, hFb]
      refine ⟨fun z => by omega, fun _ => ?_⟩
      rw [hw, hab, hw, hab, e5]
      refine ⟨fun z => ?_, fun z => ?_⟩
      · rw [if_neg (by omega)] at K; exact K
      · rw [if_pos z] at K; simpa using K
  rw [hF1] at K
  have b7 : ((2 : Int) ^ nM σ - 1).toNat = 2 ^ nM σ - 1 := by
    have : ((2 ^ nM σ : Nat) : Int) = (2 : Int) ^ nM σ := by simp
    omega
  have b8 : (2 : Int) ^ nM σ - 1 < 64 ∧ 0 ≤ (2 : Int) ^ nM σ - 1 := by
    have : ((2 ^ nM σ : Nat) : Int) = (2 : Int) ^ nM σ := by simp
    omega
  refine wg (by decide) rgNs_ok tk_249 py_249 ml_249 30 (by simp [catT]) (fun N hN => ?_)
  simp [bl_249, hN _, x_iconst, x_ldc2_w, x_aconst_null, x_iload, x_lload, x_aload, x_istore, x_lstore, x_astore, x_iinc, x_iadd, x_isub, x_imul, x_idiv, x_irem, x_iand, x_ior, x_ixor, x_ishl, x_ishr, x_iushr, x_ineg, x_ladd, x_lsub, x_lmul, x_ldiv, x_lrem, x_lcmp, x_i2l, x_i2b, x_i2s, x_i2c, x_dup, x_pop, x_dup_x1, x_dup2, x_getfield, x_putfield, x_iaload, x_baload, x_saload, x_caload, x_daload, x_faload, x_laload, x_aaload, x_iastore, x_bastore, x_sastore, x_castore, x_lastore, x_aastore, x_arraylength, x_getstatic, x_goto, x_goto_w, x_ifCond, x_if_icmp, x_ifnull, x_ifnonnull, x_lookupswitch, x_invokevirtual, x_invokestatic, x_invokedynamic, x_ireturn, x_freturn, x_dreturn, x_lreturn, x_areturn, x_return_, pI_c, pL_c, pR_c, pV_i, pV_r, gI_c, gL_c, gR_c, pN_z, pN_s, lget_c, lins_z, lins_c, ldel_z, ldel_c, ldel2_z, ldel2_c, lset_i, lset_l, lset_r, lkeep_z, lkeep_c, largs_z, largs_c, cat_i, cat_l, cat_r, lkp_c, cnd_eq, cnd_ne, cnd_lt, cnd_ge, cnd_gt, cnd_le, swL_z, swL_c, rE_e, rOr_s, rOr_n, rlk_z, rlk_c, aR_c, aI_c, aII_c, aIII_c, aRI_c, aRII_c, aRIII_c, vJn, vJs, vlc, aRR_c, aRRI_c, aRRII_c, aRRIII_c, aRIIII_c, aRL_c, aRLL_c, aLL_c, aRRRI_c, aIL_c, aIIII_c, aRRIIII_c, aIRII_c, aIR_c, aLI_c, aRIR_c, aRIIR_c, hM.1.o, mpAll, mpStO, hk8, hM8, nM_up, vA_up, b7, b8, hAll]
  exact ⟨by omega, K⟩
set_option maxHeartbeats 1000000 in
theorem mo_halves {l : Launch} {g : GE} {d : Nat} {t : Tau} {σ : Mem} {Q : Post} {s : Int} (hk : MK t σ) (h : ansM (hlvQ (nM σ) (vA σ 176) s) t σ Q) : WPc l g 247 (d + 6) 0 0 [vR 175, vI s] t σ Q := by
  have hk' := hk
  obtain ⟨hM, hW⟩ := hk
  have n6 := hM.2.2
  have z0 := hM.2.1
  have hp2 := pow_le64 n6
  have hM8 : MdOk t (up σ 175 8 0) := by rw [md_up (by omega)]; exact hM
  unfold ansM hlvQ at h
  by_cases hs : 0 ≤ s ∧ s < 4
  · rw [if_pos hs] at h
    obtain ⟨s0, s1⟩ := hs
    have hB : ∀ i : Int, 0 ≤ i → i < nM σ → 0 ≤ partV (vA σ 176) i s ∧ partV (vA σ 176) i s ≤ 12 := fun i i0 i1 => hW.pt i0 i1 s0 s1
    generalize hF : hlvF (vA σ 176) s (nM σ) = F at h
    have hF0 : F 0 = 0 := by rw [← hF]; rfl
    have hFl : ∀ k, F k ≤ k := by rw [← hF]; exact hlvF_l _ _ _
    have hFs : ∀ k, F (k + 1) = if 2 * sumT (k + 1) (fun i => partV (vA σ 176) i s) (nM σ) = 12 * (popc (k + 1) : Int) ∧ (F k = 0 ∨ popc (k + 1) < popc (F k)) then k + 1 else F k := by rw [← hF]; intro k; rfl
    have K : Wp l g 247 (d + 6) 0 0 18 [(0, vR 175), (1, vI s), (2, vI (if F 0 = 0 then -1 else (F 0 : Int))), (3, vI (0 + 1 : Nat))] [] t (up σ 175 8 0) Q := by
      refine lpU (P := fun k => Wp l g 247 (d + 6) 0 0 18 [(0, vR 175), (1, vI s), (2, vI (if F k = 0 then -1 else (F k : Int))), (3, vI (k + 1 : Nat))] [] t (up σ 175 8 0) Q) (n := 2 ^ nM σ - 1) ?_ (fun k hk' K => ?_)
      · have e4 : 2 ^ nM σ - 1 + 1 = 2 ^ nM σ := by omega
        rw [e4]
        have hl := hFl (2 ^ nM σ - 1)
        generalize hb : F (2 ^ nM σ - 1) = b at h hl
        have ec := bc_n (b := b) (by omega)
        refine wa (by decide) rgNs_ok tk_247 30 (fun N hN => ?_)
        by_cases hz : b = 0
        · rw [if_pos hz] at h ⊢
          simp [bl_247, hN _, x_iconst, x_ldc2_w, x_aconst_null, x_iload, x_lload, x_aload, x_istore, x_lstore, x_astore, x_iinc, x_iadd, x_isub, x_imul, x_idiv, x_irem, x_iand, x_ior, x_ixor, x_ishl, x_ishr, x_iushr, x_ineg, x_ladd, x_lsub, x_lmul, x_ldiv, x_lrem, x_lcmp, x_i2l, x_i2b, x_i2s, x_i2c, x_dup, x_pop, x_dup_x1, x_dup2, x_getfield, x_putfield, x_iaload, x_baload, x_saload, x_caload, x_daload, x_faload, x_laload, x_aaload, x_iastore, x_bastore, x_sastore, x_castore, x_lastore, x_aastore, x_arraylength, x_getstatic, x_goto, x_goto_w, x_ifCond, x_if_icmp, x_ifnull, x_ifnonnull, x_lookupswitch, x_invokevirtual, x_invokestatic, x_invokedynamic, x_ireturn, x_freturn, x_dreturn, x_lreturn, x_areturn, x_return_, pI_c, pL_c, pR_c, pV_i, pV_r, gI_c, gL_c, gR_c, pN_z, pN_s, lget_c, lins_z, lins_c, ldel_z, ldel_c, ldel2_z, ldel2_c, lset_i, lset_l, lset_r, lkeep_z, lkeep_c, largs_z, largs_c, cat_i, cat_l, cat_r, lkp_c, cnd_eq, cnd_ne, cnd_lt, cnd_ge, cnd_gt, cnd_le, swL_z, swL_c, rE_e, rOr_s, rOr_n, rlk_z, rlk_c, aR_c, aI_c, aII_c, aIII_c, aRI_c, aRII_c, aRIII_c, vJn, vJs, vlc, aRR_c, aRRI_c, aRRII_c, aRRIII_c, aRIIII_c, aRL_c, aRLL_c, aLL_c, aRRRI_c, aIL_c, aIIII_c, aRRIIII_c, aIRII_c, aIR_c, aLI_c, aRIR_c, aRIIR_c, hM.1.o, mpAll, hM8, nM_up]
          exact ⟨fun _ => h _ QTM.rf, fun z => by omega⟩
        · rw [if_neg hz] at h ⊢
          have ne : ¬ (b : Int) = -1 := by omega
          simp [bl_247, hN _, x_iconst, x_ldc2_w, x_aconst_null, x_iload, x_lload, x_aload, x_istore, x_lstore, x_astore, x_iinc, x_iadd, x_isub, x_imul, x_idiv, x_irem, x_iand, x_ior, x_ixor, x_ishl, x_ishr, x_iushr, x_ineg, x_ladd, x_lsub, x_lmul, x_ldiv, x_lrem, x_lcmp, x_i2l, x_i2b, x_i2s, x_i2c, x_dup, x_pop, x_dup_x1, x_dup2, x_getfield, x_putfield, x_iaload, x_baload, x_saload, x_caload, x_daload, x_faload, x_laload, x_aaload, x_iastore, x_bastore, x_sastore, x_castore, x_lastore, x_aastore, x_arraylength, x_getstatic, x_goto, x_goto_w, x_ifCond, x_if_icmp, x_ifnull, x_ifnonnull, x_lookupswitch, x_invokevirtual, x_invokestatic, x_invokedynamic, x_ireturn, x_freturn, x_dreturn, x_lreturn, x_areturn, x_return_, pI_c, pL_c, pR_c, pV_i, pV_r, gI_c, gL_c, gR_c, pN_z, pN_s, lget_c, lins_z, lins_c, ldel_z, ldel_c, ldel2_z, ldel2_c, lset_i, lset_l, lset_r, lkeep_z, lkeep_c, largs_z, largs_c, cat_i, cat_l, cat_r, lkp_c, cnd_eq, cnd_ne, cnd_lt, cnd_ge, cnd_gt, cnd_le, swL_z, swL_c, rE_e, rOr_s, rOr_n, rlk_z, rlk_c, aR_c, aI_c, aII_c, aIII_c, aRI_c, aRII_c, aRIII_c, vJn, vJs, vlc, aRR_c, aRRI_c, aRRII_c, aRRIII_c, aRIIII_c, aRL_c, aRLL_c, aLL_c, aRRRI_c, aIL_c, aIIII_c, aRRIIII_c, aIRII_c, aIR_c, aLI_c, aRIR_c, aRIIR_c, hM.1.o, hM.1, mpAll, mpTell, bpCount, hM8, nM_up, ne, ec, up_ap]
          exact ⟨fun _ => h _ (QTM.q1 (QFM.rf.up sf8) (by simp [up_ap])), fun z => by omega⟩
      · have hsm := sumT_b (b := k + 1) (f := fun i => partV (vA σ 176) i s) (nM σ) n6 (by omega) hB
        have ec := bc_n (b := k + 1) (by omega)
        have hpl := popc_l (k + 1)
        have e7 := w32_succ (k := k + 1) (by omega)
        have hl := hFl k
        have ec2 := bc_n (b := F k) (by omega)
        rw [hFs k] at K
        generalize hP : popc (k + 1) = P at K ec hpl
        have e6 : w32 (12 * (P : Int)) = 12 * (P : Int) := w32_id (by omega) (by omega)
        generalize hC : F k = c at K ec2 hl
        have I : Wp l g 247 (d + 6) 0 0 32 [(0, vR 175), (1, vI s), (2, vI (if c = 0 then -1 else (c : Int))), (3, vI (k + 1 : Nat)), (4, vI (sumT (k + 1) (fun i => partV (vA σ 176) i s) 0)), (5, vI (0 : Nat))] [] t (up σ 175 8 0) Q := by
          refine lpU (P := fun i => Wp l g 247 (d + 6) 0 0 32 [(0, vR 175), (1, vI s), (2, vI (if c = 0 then -1 else (c : Int))), (3, vI (k + 1 : Nat)), (4, vI (sumT (k + 1) (fun i => partV (vA σ 176) i s) i)), (5, vI i)] [] t (up σ 175 8 0) Q) (n := nM σ) ?_ (fun i hi K => ?_)
          · generalize sumT (k + 1) (fun i => partV (vA σ 176) i s) (nM σ) = S at K hsm
            have e5 : w32 (2 * S) = 2 * S := w32_id (by omega) (by omega)
            have hcc : ((k + 1 : Nat) : Int) = (k : Int) + 1 := by omega
            have hcc2 : ((k + 1 + 1 : Nat) : Int) = (k : Int) + 1 + 1 := by omega
            rw [hcc] at ec e7
            rw [hcc2] at e7
            refine wa (by decide) rgNs_ok tk_247 30 (fun N hN => ?_)
            simp [bl_247, hN _, x_iconst, x_ldc2_w, x_aconst_null, x_iload, x_lload, x_aload, x_istore, x_lstore, x_astore, x_iinc, x_iadd, x_isub, x_imul, x_idiv, x_irem, x_iand, x_ior, x_ixor, x_ishl, x_ishr, x_iushr, x_ineg, x_ladd, x_lsub, x_lmul, x_ldiv, x_lrem, x_lcmp, x_i2l, x_i2b, x_i2s, x_i2c, x_dup, x_pop, x_dup_x1, x_dup2, x_getfield, x_putfield, x_iaload, x_baload, x_saload, x_caload, x_daload, x_faload, x_laload, x_aaload, x_iastore, x_bastore, x_sastore, x_castore, x_lastore, x_aastore, x_arraylength, x_getstatic, x_goto, x_goto_w, x_ifCond, x_if_icmp, x_ifnull, x_ifnonnull, x_lookupswitch, x_invokevirtual, x_invokestatic, x_invokedynamic, x_ireturn, x_freturn, x_dreturn, x_lreturn, x_areturn, x_return_, pI_c, pL_c, pR_c, pV_i, pV_r, gI_c, gL_c, gR_c, pN_z, pN_s, lget_c, lins_z, lins_c, ldel_z, ldel_c, ldel2_z, ldel2_c, lset_i, lset_l, lset_r, lkeep_z, lkeep_c, largs_z, largs_c, cat_i, cat_l, cat_r, lkp_c, cnd_eq, cnd_ne, cnd_lt, cnd_ge, cnd_gt, cnd_le, swL_z, swL_c, rE_e, rOr_s, rOr_n, rlk_z, rlk_c, aR_c, aI_c, aII_c, aIII_c, aRI_c, aRII_c, aRIII_c, vJn, vJs, vlc, aRR_c, aRRI_c, aRRII_c, aRRIII_c, aRIIII_c, aRL_c, aRLL_c, aLL_c, aRRRI_c, aIL_c, aIIII_c, aRRIIII_c, aIRII_c, aIR_c, aLI_c, aRIR_c, aRIIR_c, hM.1.o, bpCount, up_ap, z0]
            simp only [ec, e5, e6, e7]
            by_cases hf : c = 0
            · simp only [hf, if_true, true_or, and_true] at K ⊢
              by_cases hh : 2 * S = 12 * (P : Int)
              · rw [if_pos hh] at K
                simp [hh]
                simpa using K
              · rw [if_neg hh] at K
                simp [hh]
                simpa using K
            · have hp' : ¬ (c : Int) = -1 := by omega
              simp only [hf, if_false, false_or] at K ⊢
              by_cases hh : 2 * S = 12 * (P : Int) ∧ P < popc c
              · rw [if_pos hh, if_neg (by omega)] at K
                simp [hh.1, hp', ec2, Int.not_le.mpr (Int.ofNat_lt.mpr hh.2), Nat.not_le.mpr hh.2, hh.2]
                simpa using K
              · rw [if_neg hh, if_neg hf] at K
                have K3 : Wp l g 247 (d + 6) 0 0 18 [(0, vR 175), (1, vI s), (2, vI (c : Int)), (3, vI ((k : Int) + 1 + 1))] [] t (up σ 175 8 0) Q := by simpa using K
                simp [ec2, hp']
                grind
          · have e2 := w32_succ (k := i) (by omega); have i1 : ((i : Nat) : Int) < (nM σ : Nat) := (by omega); have i1n : i < nM σ := (by omega); have i1x : ¬ nM σ ≤ i := (by omega)
            have i6 : (i : Int) < 6 := by omega
            have i6n : i < 6 := by omega
            have hst := hB i (by omega) (by omega)
            have hs := sumT_b (b := k + 1) (f := fun i => partV (vA σ 176) i s) (B := 12) i (by omega) (by omega) (fun j j0 j1 => hB j j0 (by omega))
            have es : sumT (k + 1) (fun i => partV (vA σ 176) i s) (i + 1) = sumT (k + 1) (fun i => partV (vA σ 176) i s) i + (if tb (k + 1) i then partV (vA σ 176) i s else 0) := rfl
            rw [es] at K
            have hb := bit_m (b := k + 1) (k := i) (by omega) (by omega)
            rw [show ((k + 1 : Nat) : Int) = (k : Int) + 1 by omega] at hb
            generalize sumT (k + 1) (fun i => partV (vA σ 176) i s) i = S at K hs
            refine wa (by decide) rgNs_ok tk_247 30 (fun N hN => ?_)
            by_cases hc : tb (k + 1) i = true
            · rw [if_pos hc] at K
              have w1 : w32 (S + partV (vA σ 176) i s) = S + partV (vA σ 176) i s := w32_id (by omega) (by omega)
              simp [bl_247, hN _, x_iconst, x_ldc2_w, x_aconst_null, x_iload, x_lload, x_aload, x_istore, x_lstore, x_astore, x_iinc, x_iadd, x_isub, x_imul, x_idiv, x_irem, x_iand, x_ior, x_ixor, x_ishl, x_ishr, x_iushr, x_ineg, x_ladd, x_lsub, x_lmul, x_ldiv, x_lrem, x_lcmp, x_i2l, x_i2b, x_i2s, x_i2c, x_dup, x_pop, x_dup_x1, x_dup2, x_getfield, x_putfield, x_iaload, x_baload, x_saload, x_caload, x_daload, x_faload, x_laload, x_aaload, x_iastore, x_bastore, x_sastore, x_castore, x_lastore, x_aastore, x_arraylength, x_getstatic, x_goto, x_goto_w, x_ifCond, x_if_icmp, x_ifnull, x_ifnonnull, x_lookupswitch, x_invokevirtual, x_invokestatic, x_invokedynamic, x_ireturn, x_freturn, x_dreturn, x_lreturn, x_areturn, x_return_, pI_c, pL_c, pR_c, pV_i, pV_r, gI_c, gL_c, gR_c, pN_z, pN_s, lget_c, lins_z, lins_c, ldel_z, ldel_c, ldel2_z, ldel2_c, lset_i, lset_l, lset_r, lkeep_z, lkeep_c, largs_z, largs_c, cat_i, cat_l, cat_r, lkp_c, cnd_eq, cnd_ne, cnd_lt, cnd_ge, cnd_gt, cnd_le, swL_z, swL_c, rE_e, rOr_s, rOr_n, rlk_z, rlk_c, aR_c, aI_c, aII_c, aIII_c, aRI_c, aRII_c, aRIII_c, vJn, vJs, vlc, aRR_c, aRRI_c, aRRII_c, aRRIII_c, aRIIII_c, aRL_c, aRLL_c, aLL_c, aRRRI_c, aIL_c, aIIII_c, aRRIIII_c, aIRII_c, aIR_c, aLI_c, aRIR_c, aRIIR_c, hM.1.o, hM.1.f0, z0, up_ap, mpHas, mpPart, RowT.now hM.1, vA_up, hb, hc, e2, i1, i1n, i1x, i6, i6n, s0, s1, Int.not_le.mpr s1, Int.not_lt.mpr s0, w1]
              simpa using K
            · rw [if_neg hc] at K
              have w1 : w32 (S + 0) = S := by rw [w32_id (by omega) (by omega)]; omega
              have w2 : w32 S = S := w32_id (by omega) (by omega)
              simp [bl_247, hN _, x_iconst, x_ldc2_w, x_aconst_null, x_iload, x_lload, x_aload, x_istore, x_lstore, x_astore, x_iinc, x_iadd, x_isub, x_imul, x_idiv, x_irem, x_iand, x_ior, x_ixor, x_ishl, x_ishr, x_iushr, x_ineg, x_ladd, x_lsub, x_lmul, x_ldiv, x_lrem, x_lcmp, x_i2l, x_i2b, x_i2s, x_i2c, x_dup, x_pop, x_dup_x1, x_dup2, x_getfield, x_putfield, x_iaload, x_baload, x_saload, x_caload, x_daload, x_faload, x_laload, x_aaload, x_iastore, x_bastore, x_sastore, x_castore, x_lastore, x_aastore, x_arraylength, x_getstatic, x_goto, x_goto_w, x_ifCond, x_if_icmp, x_ifnull, x_ifnonnull, x_lookupswitch, x_invokevirtual, x_invokestatic, x_invokedynamic, x_ireturn, x_freturn, x_dreturn, x_lreturn, x_areturn, x_return_, pI_c, pL_c, pR_c, pV_i, pV_r, gI_c, gL_c, gR_c, pN_z, pN_s, lget_c, lins_z, lins_c, ldel_z, ldel_c, ldel2_z, ldel2_c, lset_i, lset_l, lset_r, lkeep_z, lkeep_c, largs_z, largs_c, cat_i, cat_l, cat_r, lkp_c, cnd_eq, cnd_ne, cnd_lt, cnd_ge, cnd_gt, cnd_le, swL_z, swL_c, rE_e, rOr_s, rOr_n, rlk_z, rlk_c, aR_c, aI_c, aII_c, aIII_c, aRI_c, aRII_c, aRIII_c, vJn, vJs, vlc, aRR_c, aRRI_c, aRRII_c, aRRIII_c, aRIIII_c, aRL_c, aRLL_c, aLL_c, aRRRI_c, aIL_c, aIIII_c, aRRIIII_c, aIRII_c, aIR_c, aLI_c, aRIR_c, aRIIR_c, hM.1.o, hM.1.f0, z0, up_ap, mpHas, mpPart, hb, hc, e2, i1, i1n, i1x, i6, i6n, w1, w2]
              simpa using K
        have e8 : (k : Int) + 1 ≤ ((2 ^ nM σ : Nat) : Int) - 1 := by omega
        have e9 : ¬ ((2 ^ nM σ : Nat) : Int) - 1 < (k : Int) + 1 := by omega
        refine wa (by decide) rgNs_ok tk_247 30 (fun N hN => ?_)
        simp [bl_247, hN _, x_iconst, x_ldc2_w, x_aconst_null, x_iload, x_lload, x_aload, x_istore, x_lstore, x_astore, x_iinc, x_iadd, x_isub, x_imul, x_idiv, x_irem, x_iand, x_ior, x_ixor, x_ishl, x_ishr, x_iushr, x_ineg, x_ladd, x_lsub, x_lmul, x_ldiv, x_lrem, x_lcmp, x_i2l, x_i2b, x_i2s, x_i2c, x_dup, x_pop, x_dup_x1, x_dup2, x_getfield, x_putfield, x_iaload, x_baload, x_saload, x_caload, x_daload, x_faload, x_laload, x_aaload, x_iastore, x_bastore, x_sastore, x_castore, x_lastore, x_aastore, x_arraylength, x_getstatic, x_goto, x_goto_w, x_ifCond, x_if_icmp, x_ifnull, x_ifnonnull, x_lookupswitch, x_invokevirtual, x_invokestatic, x_invokedynamic, x_ireturn, x_freturn, x_dreturn, x_lreturn, x_areturn, x_return_, pI_c, pL_c, pR_c, pV_i, pV_r, gI_c, gL_c, gR_c, pN_z, pN_s, lget_c, lins_z, lins_c, ldel_z, ldel_c, ldel2_z, ldel2_c, lset_i, lset_l, lset_r, lkeep_z, lkeep_c, largs_z, largs_c, cat_i, cat_l, cat_r, lkp_c, cnd_eq, cnd_ne, cnd_lt, cnd_ge, cnd_gt, cnd_le, swL_z, swL_c, rE_e, rOr_s, rOr_n, rlk_z, rlk_c, aR_c, aI_c, aII_c, aIII_c, aRI_c, aRII_c, aRIII_c, vJn, vJs, vlc, aRR_c, aRRI_c, aRRII_c, aRRIII_c, aRIIII_c, aRL_c, aRLL_c, aLL_c, aRRRI_c, aIL_c, aIIII_c, aRRIIII_c, aIRII_c, aIR_c, aLI_c, aRIR_c, aRIIR_c, hM.1.o, mpAll, hM8, nM_up]
        have e10 : ((2 ^ nM σ : Nat) : Int) = (2 : Int) ^ nM σ := by simp
        rw [e10] at e8 e9
        exact ⟨fun z => by omega, fun _ => I⟩
    rw [if_pos hF0] at K
    refine wg (by decide) rgNs_ok tk_247 py_247 ml_247 30 (by simp [catT]) (fun N hN => ?_)
    simp [bl_247, hN _, x_iconst, x_ldc2_w, x_aconst_null, x_iload, x_lload, x_aload, x_istore, x_lstore, x_astore, x_iinc, x_iadd, x_isub, x_imul, x_idiv, x_irem, x_iand, x_ior, x_ixor, x_ishl, x_ishr, x_iushr, x_ineg, x_ladd, x_lsub, x_lmul, x_ldiv, x_lrem, x_lcmp, x_i2l, x_i2b, x_i2s, x_i2c, x_dup, x_pop, x_dup_x1, x_dup2, x_getfield, x_putfield, x_iaload, x_baload, x_saload, x_caload, x_daload, x_faload, x_laload, x_aaload, x_iastore, x_bastore, x_sastore, x_castore, x_lastore, x_aastore, x_arraylength, x_getstatic, x_goto, x_goto_w, x_ifCond, x_if_icmp, x_ifnull, x_ifnonnull, x_lookupswitch, x_invokevirtual, x_invokestatic, x_invokedynamic, x_ireturn, x_freturn, x_dreturn, x_lreturn, x_areturn, x_return_, pI_c, pL_c, pR_c, pV_i, pV_r, gI_c, gL_c, gR_c, pN_z, pN_s, lget_c, lins_z, lins_c, ldel_z, ldel_c, ldel2_z, ldel2_c, lset_i, lset_l, lset_r, lkeep_z, lkeep_c, largs_z, largs_c, cat_i, cat_l, cat_r, lkp_c, cnd_eq, cnd_ne, cnd_lt, cnd_ge, cnd_gt, cnd_le, swL_z, swL_c, rE_e, rOr_s, rOr_n, rlk_z, rlk_c, aR_c, aI_c, aII_c, aIII_c, aRI_c, aRII_c, aRIII_c, vJn, vJs, vlc, aRR_c, aRRI_c, aRRII_c, aRRIII_c, aRIIII_c, aRL_c, aRLL_c, aLL_c, aRRRI_c, aIL_c, aIIII_c, aRRIIII_c, aIRII_c, aIR_c, aLI_c, aRIR_c, aRIIR_c, hM.1.o, mpSide, s0, s1, Int.not_le.mpr s1, Int.not_lt.mpr s0]
    exact K
  · rw [if_neg hs] at h
    have h := h _ QTM.rf
    refine wg (by decide) rgNs_ok tk_247 py_247 ml_247 30 (by simp [catT]) (fun N hN => ?_)
    simp [bl_247, hN _, x_iconst, x_ldc2_w, x_aconst_null, x_iload, x_lload, x_aload, x_istore, x_lstore, x_astore, x_iinc, x_iadd, x_isub, x_imul, x_idiv, x_irem, x_iand, x_ior, x_ixor, x_ishl, x_ishr, x_iushr, x_ineg, x_ladd, x_lsub, x_lmul, x_ldiv, x_lrem, x_lcmp, x_i2l, x_i2b, x_i2s, x_i2c, x_dup, x_pop, x_dup_x1, x_dup2, x_getfield, x_putfield, x_iaload, x_baload, x_saload, x_caload, x_daload, x_faload, x_laload, x_aaload, x_iastore, x_bastore, x_sastore, x_castore, x_lastore, x_aastore, x_arraylength, x_getstatic, x_goto, x_goto_w, x_ifCond, x_if_icmp, x_ifnull, x_ifnonnull, x_lookupswitch, x_invokevirtual, x_invokestatic, x_invokedynamic, x_ireturn, x_freturn, x_dreturn, x_lreturn, x_areturn, x_return_, pI_c, pL_c, pR_c, pV_i, pV_r, gI_c, gL_c, gR_c, pN_z, pN_s, lget_c, lins_z, lins_c, ldel_z, ldel_c, ldel2_z, ldel2_c, lset_i, lset_l, lset_r, lkeep_z, lkeep_c, largs_z, largs_c, cat_i, cat_l, cat_r, lkp_c, cnd_eq, cnd_ne, cnd_lt, cnd_ge, cnd_gt, cnd_le, swL_z, swL_c, rE_e, rOr_s, rOr_n, rlk_z, rlk_c, aR_c, aI_c, aII_c, aIII_c, aRI_c, aRII_c, aRIII_c, vJn, vJs, vlc, aRR_c, aRRI_c, aRRII_c, aRRIII_c, aRIIII_c, aRL_c, aRLL_c, aLL_c, aRRRI_c, aIL_c, aIIII_c, aRRIIII_c, aIRII_c, aIR_c, aLI_c, aRIR_c, aRIIR_c, hM.1.o, mpSide]
    grind
