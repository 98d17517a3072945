/-! the reference: signs, digits, letters -/
theorem and_255_0 : ∀ k : Fin 256, (Int32.ofInt ((k.val : Int) - 128) &&& Int32.ofInt 255).toInt = if (k.val : Int) - 128 < 0 then (k.val : Int) - 128 + 256 else (k.val : Int) - 128 := by decide +kernel
theorem and_255 {x : Int} (h0 : -128 ≤ x) (h1 : x ≤ 127) : iand x 255 = if x < 0 then x + 256 else x := by
  have := and_255_0 ⟨(x + 128).toNat, by omega⟩
  rw [iand_eq]
  simp only at this
  rw [show (((x + 128).toNat : Nat) : Int) - 128 = x by omega] at this
  exact this
def PsB (σ : Mem) : Prop := σ 175 9 ≠ 175 ∧ ∀ k, -128 ≤ σ (σ 175 9) k ∧ σ (σ 175 9) k ≤ 127
theorem hrS_b {σ : Mem} (h : PsB σ) (p : Int) : -1 ≤ hrS σ p ∧ hrS σ p ≤ 255 ∧ (0 ≤ hrS σ p → (p < σ 175 10 ∧ p < σ 175 11) ∧ (hrS σ p < 128 → σ (σ 175 9) p = hrS σ p)) := by
  unfold hrS
  by_cases c : p < σ 175 10 ∧ p < σ 175 11
  · rw [if_pos c]
    obtain ⟨b0, b1⟩ := h.2 p
    rw [and_255 b0 b1]
    by_cases c2 : σ (σ 175 9) p < 0
    · rw [if_pos c2]; exact ⟨by omega, by omega, fun _ => ⟨c, fun z => by omega⟩⟩
    · rw [if_neg c2]; exact ⟨by omega, by omega, fun _ => ⟨c, fun z => rfl⟩⟩
  · rw [if_neg c]; exact ⟨by omega, by omega, fun z => by omega⟩
abbrev rgPb : Reg := (184, mpPass) :: (183, mpFault) :: rgPa
theorem rgPb_ok {l : Launch} {g : GE} {d : Nat} : ∀ e as t σ Q, rE l g (d + 2) rgPb e as t σ Q → WPc l g e (d + 2) 0 0 as t σ Q := rE_cons (fun _ _ _ _ h => m_passes h) (rE_cons (fun _ _ _ _ h => m_fault h) (rgPa_ok (d := d + 1)))
/-- a sign that must stand here -/
noncomputable def nedM (σ : Mem) (c : Int) : Mem := if σ 175 13 = -1 then (if hrS σ (σ 175 12) = c then up σ 175 12 (σ 175 12 + 1) else up σ 175 13 (σ 175 12)) else σ
def mpNeed : Sp := fun as t σ Q => aRI as fun a c => a = 175 ∧ PsOk t σ ∧ 0 ≤ c ∧ Q none t (nedM σ c)
theorem m_need {l : Launch} {g : GE} {d : Nat} {t : Tau} {σ : Mem} {Q : Post} {as : List TV} (h0 : mpNeed as t σ Q) : WPc l g 185 (d + 3) 0 0 as t σ Q := by
  obtain ⟨a, c, rfl, rfl, hP, hc, h⟩ := aRI_e h0
  clear h0
  have hM := hP.1
  unfold nedM at h
  refine wg (by decide) rgPb_ok ts_185 py_185 ml_185 30 (by simp [catT]) (fun N hN => ?_)
  by_cases c1 : σ 175 13 = -1
  · rw [if_pos c1] at h
    by_cases c2 : hrS σ (σ 175 12) = c
    · rw [if_pos c2] at h
      simp [bs_185, sg_185_0_2, sg_185_0_1, hN _, x_iconst, x_ldc2_w, x_aconst_null, x_iload, x_lload, x_aload, x_istore, x_lstore, x_astore, x_iinc, x_iadd, x_isub, x_imul, x_idiv, x_irem, x_iand, x_ior, x_ixor, x_ishl, x_ishr, x_iushr, x_ineg, x_ladd, x_lsub, x_lmul, x_ldiv, x_lrem, x_lcmp, x_i2l, x_i2b, x_i2s, x_i2c, x_dup, x_pop, x_dup_x1, x_dup2, x_getfield, x_putfield, x_iaload, x_baload, x_saload, x_caload, x_daload, x_faload, x_laload, x_aaload, x_iastore, x_bastore, x_sastore, x_castore, x_lastore, x_aastore, x_arraylength, x_getstatic, x_goto, x_goto_w, x_ifCond, x_if_icmp, x_ifnull, x_ifnonnull, x_lookupswitch, x_invokevirtual, x_invokestatic, x_invokedynamic, x_ireturn, x_freturn, x_dreturn, x_lreturn, x_areturn, x_return_, pI_c, pL_c, pR_c, pV_i, pV_r, gI_c, gL_c, gR_c, pN_z, pN_s, lget_c, lins_z, lins_c, ldel_z, ldel_c, ldel2_z, ldel2_c, lset_i, lset_l, lset_r, lkeep_z, lkeep_c, largs_z, largs_c, cat_i, cat_l, cat_r, lkp_c, cnd_eq, cnd_ne, cnd_lt, cnd_ge, cnd_gt, cnd_le, swL_z, swL_c, rE_e, rOr_s, rOr_n, rlk_z, rlk_c, aR_c, aI_c, aII_c, aIII_c, aRI_c, aRII_c, aRIII_c, vJn, vJs, vlc, aRR_c, aRRI_c, aRRII_c, aRRIII_c, aRIIII_c, aRL_c, aRLL_c, aLL_c, aRRRI_c, aIL_c, aIIII_c, aRRIIII_c, aIRII_c, aIR_c, aLI_c, aRIR_c, aRIIR_c, hM.o, hM, mpPass, mpFault, hP, hc, c1, c2]
      exact h
    · rw [if_neg c2] at h
      simp [bs_185, sg_185_0_2, sg_185_0_1, hN _, x_iconst, x_ldc2_w, x_aconst_null, x_iload, x_lload, x_aload, x_istore, x_lstore, x_astore, x_iinc, x_iadd, x_isub, x_imul, x_idiv, x_irem, x_iand, x_ior, x_ixor, x_ishl, x_ishr, x_iushr, x_ineg, x_ladd, x_lsub, x_lmul, x_ldiv, x_lrem, x_lcmp, x_i2l, x_i2b, x_i2s, x_i2c, x_dup, x_pop, x_dup_x1, x_dup2, x_getfield, x_putfield, x_iaload, x_baload, x_saload, x_caload, x_daload, x_faload, x_laload, x_aaload, x_iastore, x_bastore, x_sastore, x_castore, x_lastore, x_aastore, x_arraylength, x_getstatic, x_goto, x_goto_w, x_ifCond, x_if_icmp, x_ifnull, x_ifnonnull, x_lookupswitch, x_invokevirtual, x_invokestatic, x_invokedynamic, x_ireturn, x_freturn, x_dreturn, x_lreturn, x_areturn, x_return_, pI_c, pL_c, pR_c, pV_i, pV_r, gI_c, gL_c, gR_c, pN_z, pN_s, lget_c, lins_z, lins_c, ldel_z, ldel_c, ldel2_z, ldel2_c, lset_i, lset_l, lset_r, lkeep_z, lkeep_c, largs_z, largs_c, cat_i, cat_l, cat_r, lkp_c, cnd_eq, cnd_ne, cnd_lt, cnd_ge, cnd_gt, cnd_le, swL_z, swL_c, rE_e, rOr_s, rOr_n, rlk_z, rlk_c, aR_c, aI_c, aII_c, aIII_c, aRI_c, aRII_c, aRIII_c, vJn, vJs, vlc, aRR_c, aRRI_c, aRRII_c, aRRIII_c, aRIIII_c, aRL_c, aRLL_c, aLL_c, aRRRI_c, aIL_c, aIIII_c, aRRIIII_c, aIRII_c, aIR_c, aLI_c, aRIR_c, aRIIR_c, hM.o, hM, mpPass, mpFault, hP, hc, c1, c2]
      exact h
  · rw [if_neg c1] at h
    simp [bs_185, sg_185_0_2, sg_185_0_1, hN _, x_iconst, x_ldc2_w, x_aconst_null, x_iload, x_lload, x_aload, x_istore, x_lstore, x_astore, x_iinc, x_iadd, x_isub, x_imul, x_idiv, x_irem, x_iand, x_ior, x_ixor, x_ishl, x_ishr, x_iushr, x_ineg, x_ladd, x_lsub, x_lmul, x_ldiv, x_lrem, x_lcmp, x_i2l, x_i2b, x_i2s, x_i2c, x_dup, x_pop, x_dup_x1, x_dup2, x_getfield, x_putfield, x_iaload, x_baload, x_saload, x_caload, x_daload, x_faload, x_laload, x_aaload, x_iastore, x_bastore, x_sastore, x_castore, x_lastore, x_aastore, x_arraylength, x_getstatic, x_goto, x_goto_w, x_ifCond, x_if_icmp, x_ifnull, x_ifnonnull, x_lookupswitch, x_invokevirtual, x_invokestatic, x_invokedynamic, x_ireturn, x_freturn, x_dreturn, x_lreturn, x_areturn, x_return_, pI_c, pL_c, pR_c, pV_i, pV_r, gI_c, gL_c, gR_c, pN_z, pN_s, lget_c, lins_z, lins_c, ldel_z, ldel_c, ldel2_z, ldel2_c, lset_i, lset_l, lset_r, lkeep_z, lkeep_c, largs_z, largs_c, cat_i, cat_l, cat_r, lkp_c, cnd_eq, cnd_ne, cnd_lt, cnd_ge, cnd_gt, cnd_le, swL_z, swL_c, rE_e, rOr_s, rOr_n, rlk_z, rlk_c, aR_c, aI_c, aII_c, aIII_c, aRI_c, aRII_c, aRIII_c, vJn, vJs, vlc, aRR_c, aRRI_c, aRRII_c, aRRIII_c, aRIIII_c, aRL_c, aRLL_c, aLL_c, aRRRI_c, aIL_c, aIIII_c, aRRIIII_c, aIRII_c, aIR_c, aLI_c, aRIR_c, aRIIR_c, hM.o, hM, mpPass, mpFault, hP, hc, c1]
    exact h
/-- one of n signs from b on: what it is worth, and the memory then -/
noncomputable def oneA (σ : Mem) (b n : Int) : Int := if σ 175 13 = -1 ∧ (b ≤ hrS σ (σ 175 12) ∧ hrS σ (σ 175 12) < b + n) then hrS σ (σ 175 12) - b else 0
noncomputable def oneM (σ : Mem) (b n : Int) : Mem := if σ 175 13 = -1 then (if b ≤ hrS σ (σ 175 12) ∧ hrS σ (σ 175 12) < b + n then up σ 175 12 (σ 175 12 + 1) else up σ 175 13 (σ 175 12)) else σ
def mpOne : Sp := fun as t σ Q => aRII as fun a b n => a = 175 ∧ PsOk t σ ∧ PsB σ ∧ (0 ≤ b ∧ 1 ≤ n ∧ b + n ≤ 128) ∧ Q (some (vI (oneA σ b n))) t (oneM σ b n)
theorem m_oneOf {l : Launch} {g : GE} {d : Nat} {t : Tau} {σ : Mem} {Q : Post} {as : List TV} (h0 : mpOne as t σ Q) : WPc l g 186 (d + 3) 0 0 as t σ Q := by
  obtain ⟨a, b, n, rfl, rfl, hP, hB, hb, h⟩ := aRII_e h0
  clear h0
  have hP' := hP
  obtain ⟨hM, ⟨p0, p1⟩, hT, q1, q2⟩ := hP
  obtain ⟨x1, x2, x3⟩ := hrS_b hB (σ 175 12)
  have e1 : w32 (b + n) = b + n := w32_id (by omega) (by omega)
  have e2 : w32 (b + n - 1) = b + n - 1 := w32_id (by omega) (by omega)
  have e3 : w32 (σ 175 12 + 1) = σ 175 12 + 1 := w32_id (by omega) (by omega)
  have e4 : w32 (σ 175 12) = σ 175 12 := w32_id (by omega) (by omega)
  unfold oneA oneM at h
  refine wg (by decide) rgPb_ok ts_186 py_186 ml_186 30 (by simp [catT]) (fun N hN => ?_)
  by_cases c1 : σ 175 13 = -1
  · by_cases c2 : b ≤ hrS σ (σ 175 12) ∧ hrS σ (σ 175 12) < b + n
    · rw [if_pos ⟨c1, c2⟩, if_pos c1, if_pos c2] at h
      obtain ⟨⟨y1, y2⟩, y3⟩ := x3 (by omega)
      have y4 := y3 (by omega)
      have c3 : hrS σ (σ 175 12) ≤ b + n - 1 := by omega
      have e5 : w32 (hrS σ (σ 175 12) - b) = hrS σ (σ 175 12) - b := w32_id (by omega) (by omega)
      have e6 : σ 175 12 < lenOf t (σ 175 9) := by omega
      simp [bs_186, sg_186_9_1, hN _, x_iconst, x_ldc2_w, x_aconst_null, x_iload, x_lload, x_aload, x_istore, x_lstore, x_astore, x_iinc, x_iadd, x_isub, x_imul, x_idiv, x_irem, x_iand, x_ior, x_ixor, x_ishl, x_ishr, x_iushr, x_ineg, x_ladd, x_lsub, x_lmul, x_ldiv, x_lrem, x_lcmp, x_i2l, x_i2b, x_i2s, x_i2c, x_dup, x_pop, x_dup_x1, x_dup2, x_getfield, x_putfield, x_iaload, x_baload, x_saload, x_caload, x_daload, x_faload, x_laload, x_aaload, x_iastore, x_bastore, x_sastore, x_castore, x_lastore, x_aastore, x_arraylength, x_getstatic, x_goto, x_goto_w, x_ifCond, x_if_icmp, x_ifnull, x_ifnonnull, x_lookupswitch, x_invokevirtual, x_invokestatic, x_invokedynamic, x_ireturn, x_freturn, x_dreturn, x_lreturn, x_areturn, x_return_, pI_c, pL_c, pR_c, pV_i, pV_r, gI_c, gL_c, gR_c, pN_z, pN_s, lget_c, lins_z, lins_c, ldel_z, ldel_c, ldel2_z, ldel2_c, lset_i, lset_l, lset_r, lkeep_z, lkeep_c, largs_z, largs_c, cat_i, cat_l, cat_r, lkp_c, cnd_eq, cnd_ne, cnd_lt, cnd_ge, cnd_gt, cnd_le, swL_z, swL_c, rE_e, rOr_s, rOr_n, rlk_z, rlk_c, aR_c, aI_c, aII_c, aIII_c, aRI_c, aRII_c, aRIII_c, vJn, vJs, vlc, aRR_c, aRRI_c, aRRII_c, aRRIII_c, aRIIII_c, aRL_c, aRLL_c, aLL_c, aRRRI_c, aIL_c, aIIII_c, aRRIIII_c, aIRII_c, aIR_c, aLI_c, aRIR_c, aRIIR_c, hM.o, hM, mpFine, mpHere, mpIn, hP', c1, c2.1, c3, e1, e2, e3, e4, up_ap, hT, p0, e6]
      rw [if_neg (fun z => hB.1 z.1), y4, e5]
      exact ⟨h, fun z => by omega⟩
    · rw [if_neg (fun z => c2 z.2), if_pos c1, if_neg c2] at h
      have c3 : ¬ (b ≤ hrS σ (σ 175 12) ∧ hrS σ (σ 175 12) ≤ b + n - 1) := by omega
      simp [bs_186, sg_186_9_1, hN _, x_iconst, x_ldc2_w, x_aconst_null, x_iload, x_lload, x_aload, x_istore, x_lstore, x_astore, x_iinc, x_iadd, x_isub, x_imul, x_idiv, x_irem, x_iand, x_ior, x_ixor, x_ishl, x_ishr, x_iushr, x_ineg, x_ladd, x_lsub, x_lmul, x_ldiv, x_lrem, x_lcmp, x_i2l, x_i2b, x_i2s, x_i2c, x_dup, x_pop, x_dup_x1, x_dup2, x_getfield, x_putfield, x_iaload, x_baload, x_saload, x_caload, x_daload, x_faload, x_laload, x_aaload, x_iastore, x_bastore, x_sastore, x_castore, x_lastore, x_aastore, x_arraylength, x_getstatic, x_goto, x_goto_w, x_ifCond, x_if_icmp, x_ifnull, x_ifnonnull, x_lookupswitch, x_invokevirtual, x_invokestatic, x_invokedynamic, x_ireturn, x_freturn, x_dreturn, x_lreturn, x_areturn, x_return_, pI_c, pL_c, pR_c, pV_i, pV_r, gI_c, gL_c, gR_c, pN_z, pN_s, lget_c, lins_z, lins_c, ldel_z, ldel_c, ldel2_z, ldel2_c, lset_i, lset_l, lset_r, lkeep_z, lkeep_c, largs_z, largs_c, cat_i, cat_l, cat_r, lkp_c, cnd_eq, cnd_ne, cnd_lt, cnd_ge, cnd_gt, cnd_le, swL_z, swL_c, rE_e, rOr_s, rOr_n, rlk_z, rlk_c, aR_c, aI_c, aII_c, aIII_c, aRI_c, aRII_c, aRIII_c, vJn, vJs, vlc, aRR_c, aRRI_c, aRRII_c, aRRIII_c, aRIIII_c, aRL_c, aRLL_c, aLL_c, aRRRI_c, aIL_c, aIIII_c, aRRIIII_c, aIRII_c, aIR_c, aLI_c, aRIR_c, aRIIR_c, hM.o, hM, mpFine, mpHere, mpIn, mpFault, hP', c1, c3, e1, e2]
      exact ⟨fun a b' => (c3 ⟨a, b'⟩).elim, fun _ => h⟩
  · rw [if_neg (fun z => c1 z.1), if_neg c1] at h
    simp [bs_186, sg_186_9_1, hN _, x_iconst, x_ldc2_w, x_aconst_null, x_iload, x_lload, x_aload, x_istore, x_lstore, x_astore, x_iinc, x_iadd, x_isub, x_imul, x_idiv, x_irem, x_iand, x_ior, x_ixor, x_ishl, x_ishr, x_iushr, x_ineg, x_ladd, x_lsub, x_lmul, x_ldiv, x_lrem, x_lcmp, x_i2l, x_i2b, x_i2s, x_i2c, x_dup, x_pop, x_dup_x1, x_dup2, x_getfield, x_putfield, x_iaload, x_baload, x_saload, x_caload, x_daload, x_faload, x_laload, x_aaload, x_iastore, x_bastore, x_sastore, x_castore, x_lastore, x_aastore, x_arraylength, x_getstatic, x_goto, x_goto_w, x_ifCond, x_if_icmp, x_ifnull, x_ifnonnull, x_lookupswitch, x_invokevirtual, x_invokestatic, x_invokedynamic, x_ireturn, x_freturn, x_dreturn, x_lreturn, x_areturn, x_return_, pI_c, pL_c, pR_c, pV_i, pV_r, gI_c, gL_c, gR_c, pN_z, pN_s, lget_c, lins_z, lins_c, ldel_z, ldel_c, ldel2_z, ldel2_c, lset_i, lset_l, lset_r, lkeep_z, lkeep_c, largs_z, largs_c, cat_i, cat_l, cat_r, lkp_c, cnd_eq, cnd_ne, cnd_lt, cnd_ge, cnd_gt, cnd_le, swL_z, swL_c, rE_e, rOr_s, rOr_n, rlk_z, rlk_c, aR_c, aI_c, aII_c, aIII_c, aRI_c, aRII_c, aRIII_c, vJn, vJs, vlc, aRR_c, aRRI_c, aRRII_c, aRRIII_c, aRIIII_c, aRL_c, aRLL_c, aLL_c, aRRRI_c, aIL_c, aIIII_c, aRRIIII_c, aIRII_c, aIR_c, aLI_c, aRIR_c, aRIIR_c, hM.o, hM, mpFine, c1]
    exact h
