/-! the reference: numbers -/
theorem PsOk.at {t : Tau} {σ : Mem} (h : PsOk t σ) (hB : PsB σ) (h0 : 0 ≤ hrS σ (σ 175 12)) : PsOk t (up σ 175 12 (σ 175 12 + 1)) ∧ PsB (up σ 175 12 (σ 175 12 + 1)) := by
  obtain ⟨hM, ⟨p0, p1⟩, hT, q1, q2⟩ := h
  obtain ⟨-, -, x3⟩ := hrS_b hB (σ 175 12)
  have y := (x3 h0).1.1
  have e9 : up σ 175 12 (σ 175 12 + 1) 175 9 = σ 175 9 := by simp [up_ap]
  have e10 : up σ 175 12 (σ 175 12 + 1) 175 10 = σ 175 10 := by simp [up_ap]
  have e12 : up σ 175 12 (σ 175 12 + 1) 175 12 = σ 175 12 + 1 := by simp [up_ap]
  refine ⟨⟨hM, by rw [e10, e12]; omega, by rw [e9]; exact hT, by rw [e9, e10]; exact ⟨q1, q2⟩⟩, ?_⟩
  unfold PsB
  rw [e9]
  exact ⟨hB.1, fun k => by rw [up_ne hB.1]; exact hB.2 k⟩
theorem PsOk.wr {t : Tau} {σ : Mem} {v : Int} (h : PsOk t σ) (hB : PsB σ) : PsOk t (up σ 175 13 v) ∧ PsB (up σ 175 13 v) := by
  obtain ⟨hM, ⟨p0, p1⟩, hT, q1, q2⟩ := h
  have e9 : up σ 175 13 v 175 9 = σ 175 9 := by simp [up_ap]
  have e10 : up σ 175 13 v 175 10 = σ 175 10 := by simp [up_ap]
  have e12 : up σ 175 13 v 175 12 = σ 175 12 := by simp [up_ap]
  refine ⟨⟨hM, by rw [e10, e12]; omega, by rw [e9]; exact hT, by rw [e9, e10]; exact ⟨q1, q2⟩⟩, ?_⟩
  unfold PsB
  rw [e9]
  exact ⟨hB.1, fun k => by rw [up_ne hB.1]; exact hB.2 k⟩
theorem PsOk.one {t : Tau} {σ : Mem} {b n : Int} (h : PsOk t σ) (hB : PsB σ) (hb : 0 ≤ b) : PsOk t (oneM σ b n) ∧ PsB (oneM σ b n) := by
  unfold oneM
  split
  · split
    · rename_i _ c; exact h.at hB (by omega)
    · exact h.wr hB
  · exact ⟨h, hB⟩
/-- up to r digits more -/
noncomputable def nuM : Nat → Mem → Int → Int × Mem
  | 0, σ, v => (v, σ)
  | r + 1, σ, v => if σ 175 13 = -1 ∧ (48 ≤ hrS σ (σ 175 12) ∧ hrS σ (σ 175 12) ≤ 57) then nuM r (oneM σ 48 10) (w32 (w32 (10 * v) + oneA σ 48 10)) else (v, σ)
def mpNum : Sp := fun as t σ Q => aRI as fun a k => a = 175 ∧ PsOk t σ ∧ PsB σ ∧ (1 ≤ k ∧ k ≤ 9) ∧ Q (some (vI (nuM (k.toNat - 1) (oneM σ 48 10) (oneA σ 48 10)).1)) t (nuM (k.toNat - 1) (oneM σ 48 10) (oneA σ 48 10)).2
theorem rgNu_ok {l : Launch} {g : GE} {d : Nat} : ∀ e as t σ Q, rE l g (d + 3) ((186, mpOne) :: rgPa) e as t σ Q → WPc l g e (d + 3) 0 0 as t σ Q := rE_cons (fun _ _ _ _ h => m_oneOf h) (rgPa_ok (d := d + 2))
theorem m_number {l : Launch} {g : GE} {d : Nat} {t : Tau} {σ : Mem} {Q : Post} {as : List TV} (h0 : mpNum as t σ Q) : WPc l g 187 (d + 4) 0 0 as t σ Q := by
  obtain ⟨a, k, rfl, rfl, hP, hB, ⟨k0, k1⟩, h⟩ := aRI_e h0
  clear h0
  have L : ∀ (r : Nat) (i : Nat) (v : Int) (σ' : Mem), 1 ≤ i → (i : Int) + r = k → PsOk t σ' → PsB σ' → Q (some (vI (nuM r σ' v).1)) t (nuM r σ' v).2 → Wp l g 187 (d + 4) 0 0 11 [(0, vR 175), (1, vI k), (2, vI v), (3, vI i)] [] t σ' Q := by
    intro r
    induction r with
    | zero =>
      intro i v σ' _ hi hP hB h
      have e1 : k ≤ (i : Int) := by omega
      refine wa (by decide) rgNu_ok ts_187 30 (fun N hN => ?_)
      simp [bs_187, hN _, x_iconst, x_ldc2_w, x_aconst_null, x_iload, x_lload, x_aload, x_istore, x_lstore, x_astore, x_iinc, x_iadd, x_isub, x_imul, x_idiv, x_irem, x_iand, x_ior, x_ixor, x_ishl, x_ishr, x_iushr, x_ineg, x_ladd, x_lsub, x_lmul, x_ldiv, x_lrem, x_lcmp, x_i2l, x_i2b, x_i2s, x_i2c, x_dup, x_pop, x_dup_x1, x_dup2, x_getfield, x_putfield, x_iaload, x_baload, x_saload, x_caload, x_daload, x_faload, x_laload, x_aaload, x_iastore, x_bastore, x_sastore, x_castore, x_lastore, x_aastore, x_arraylength, x_getstatic, x_goto, x_goto_w, x_ifCond, x_if_icmp, x_ifnull, x_ifnonnull, x_lookupswitch, x_invokevirtual, x_invokestatic, x_invokedynamic, x_ireturn, x_freturn, x_dreturn, x_lreturn, x_areturn, x_return_, pI_c, pL_c, pR_c, pV_i, pV_r, gI_c, gL_c, gR_c, pN_z, pN_s, lget_c, lins_z, lins_c, ldel_z, ldel_c, ldel2_z, ldel2_c, lset_i, lset_l, lset_r, lkeep_z, lkeep_c, largs_z, largs_c, cat_i, cat_l, cat_r, lkp_c, cnd_eq, cnd_ne, cnd_lt, cnd_ge, cnd_gt, cnd_le, swL_z, swL_c, rE_e, rOr_s, rOr_n, rlk_z, rlk_c, aR_c, aI_c, aII_c, aIII_c, aRI_c, aRII_c, aRIII_c, vJn, vJs, vlc, aRR_c, aRRI_c, aRRII_c, aRRIII_c, aRIIII_c, aRL_c, aRLL_c, aLL_c, aRRRI_c, aIL_c, aIIII_c, aRRIIII_c, aIRII_c, aIR_c, aLI_c, aRIR_c, aRIIR_c, e1, Int.not_lt.mpr e1]
      exact h
    | succ r ih =>
      intro i v σ' i1 hi hP hB h
      have hM := hP.1
      have e1 : ¬ k ≤ (i : Int) := by omega
      have e2 := w32_succ (k := i) (by omega)
      have e3 : (i : Int) < k := by omega
      refine wa (by decide) rgNu_ok ts_187 30 (fun N hN => ?_)
      by_cases c : σ' 175 13 = -1 ∧ (48 ≤ hrS σ' (σ' 175 12) ∧ hrS σ' (σ' 175 12) ≤ 57)
      · have hd : nuM (r + 1) σ' v = nuM r (oneM σ' 48 10) (w32 (w32 (10 * v) + oneA σ' 48 10)) := by
          show (if _ then _ else _) = _
          rw [if_pos c]
        rw [hd] at h
        obtain ⟨o1, o2⟩ := hP.one (b := 48) (n := 10) hB (by omega)
        have K := ih (i + 1) _ _ (by omega) (by omega) o1 o2 h
        simp [bs_187, sg_187_0_1, sg_187_11_1, hN _, x_iconst, x_ldc2_w, x_aconst_null, x_iload, x_lload, x_aload, x_istore, x_lstore, x_astore, x_iinc, x_iadd, x_isub, x_imul, x_idiv, x_irem, x_iand, x_ior, x_ixor, x_ishl, x_ishr, x_iushr, x_ineg, x_ladd, x_lsub, x_lmul, x_ldiv, x_lrem, x_lcmp, x_i2l, x_i2b, x_i2s, x_i2c, x_dup, x_pop, x_dup_x1, x_dup2, x_getfield, x_putfield, x_iaload, x_baload, x_saload, x_caload, x_daload, x_faload, x_laload, x_aaload, x_iastore, x_bastore, x_sastore, x_castore, x_lastore, x_aastore, x_arraylength, x_getstatic, x_goto, x_goto_w, x_ifCond, x_if_icmp, x_ifnull, x_ifnonnull, x_lookupswitch, x_invokevirtual, x_invokestatic, x_invokedynamic, x_ireturn, x_freturn, x_dreturn, x_lreturn, x_areturn, x_return_, pI_c, pL_c, pR_c, pV_i, pV_r, gI_c, gL_c, gR_c, pN_z, pN_s, lget_c, lins_z, lins_c, ldel_z, ldel_c, ldel2_z, ldel2_c, lset_i, lset_l, lset_r, lkeep_z, lkeep_c, largs_z, largs_c, cat_i, cat_l, cat_r, lkp_c, cnd_eq, cnd_ne, cnd_lt, cnd_ge, cnd_gt, cnd_le, swL_z, swL_c, rE_e, rOr_s, rOr_n, rlk_z, rlk_c, aR_c, aI_c, aII_c, aIII_c, aRI_c, aRII_c, aRIII_c, vJn, vJs, vlc, aRR_c, aRRI_c, aRRII_c, aRRIII_c, aRIIII_c, aRL_c, aRLL_c, aLL_c, aRRRI_c, aIL_c, aIIII_c, aRRIIII_c, aIRII_c, aIR_c, aLI_c, aRIR_c, aRIIR_c, hM.o, hM, mpFine, mpHere, mpIn, mpOne, hP, hB, e1, e3, c.1, c.2.1, c.2.2, e2]
        exact ⟨fun z => by omega, K⟩
      · have hd : nuM (r + 1) σ' v = (v, σ') := by
          show (if _ then _ else _) = _
          rw [if_neg c]
        rw [hd] at h
        by_cases c1 : σ' 175 13 = -1
        · have c2 : ¬ (48 ≤ hrS σ' (σ' 175 12) ∧ hrS σ' (σ' 175 12) ≤ 57) := fun z => c ⟨c1, z⟩
          simp [bs_187, sg_187_0_1, sg_187_11_1, hN _, x_iconst, x_ldc2_w, x_aconst_null, x_iload, x_lload, x_aload, x_istore, x_lstore, x_astore, x_iinc, x_iadd, x_isub, x_imul, x_idiv, x_irem, x_iand, x_ior, x_ixor, x_ishl, x_ishr, x_iushr, x_ineg, x_ladd, x_lsub, x_lmul, x_ldiv, x_lrem, x_lcmp, x_i2l, x_i2b, x_i2s, x_i2c, x_dup, x_pop, x_dup_x1, x_dup2, x_getfield, x_putfield, x_iaload, x_baload, x_saload, x_caload, x_daload, x_faload, x_laload, x_aaload, x_iastore, x_bastore, x_sastore, x_castore, x_lastore, x_aastore, x_arraylength, x_getstatic, x_goto, x_goto_w, x_ifCond, x_if_icmp, x_ifnull, x_ifnonnull, x_lookupswitch, x_invokevirtual, x_invokestatic, x_invokedynamic, x_ireturn, x_freturn, x_dreturn, x_lreturn, x_areturn, x_return_, pI_c, pL_c, pR_c, pV_i, pV_r, gI_c, gL_c, gR_c, pN_z, pN_s, lget_c, lins_z, lins_c, ldel_z, ldel_c, ldel2_z, ldel2_c, lset_i, lset_l, lset_r, lkeep_z, lkeep_c, largs_z, largs_c, cat_i, cat_l, cat_r, lkp_c, cnd_eq, cnd_ne, cnd_lt, cnd_ge, cnd_gt, cnd_le, swL_z, swL_c, rE_e, rOr_s, rOr_n, rlk_z, rlk_c, aR_c, aI_c, aII_c, aIII_c, aRI_c, aRII_c, aRIII_c, vJn, vJs, vlc, aRR_c, aRRI_c, aRRII_c, aRRIII_c, aRIIII_c, aRL_c, aRLL_c, aLL_c, aRRRI_c, aIL_c, aIIII_c, aRRIIII_c, aIRII_c, aIR_c, aLI_c, aRIR_c, aRIIR_c, hM.o, hM, mpFine, mpHere, mpIn, mpOne, hP, hB, e1, e3, c1]
          exact ⟨fun _ => h, fun a b => (c2 ⟨a, b⟩).elim⟩
        · simp [bs_187, sg_187_0_1, sg_187_11_1, hN _, x_iconst, x_ldc2_w, x_aconst_null, x_iload, x_lload, x_aload, x_istore, x_lstore, x_astore, x_iinc, x_iadd, x_isub, x_imul, x_idiv, x_irem, x_iand, x_ior, x_ixor, x_ishl, x_ishr, x_iushr, x_ineg, x_ladd, x_lsub, x_lmul, x_ldiv, x_lrem, x_lcmp, x_i2l, x_i2b, x_i2s, x_i2c, x_dup, x_pop, x_dup_x1, x_dup2, x_getfield, x_putfield, x_iaload, x_baload, x_saload, x_caload, x_daload, x_faload, x_laload, x_aaload, x_iastore, x_bastore, x_sastore, x_castore, x_lastore, x_aastore, x_arraylength, x_getstatic, x_goto, x_goto_w, x_ifCond, x_if_icmp, x_ifnull, x_ifnonnull, x_lookupswitch, x_invokevirtual, x_invokestatic, x_invokedynamic, x_ireturn, x_freturn, x_dreturn, x_lreturn, x_areturn, x_return_, pI_c, pL_c, pR_c, pV_i, pV_r, gI_c, gL_c, gR_c, pN_z, pN_s, lget_c, lins_z, lins_c, ldel_z, ldel_c, ldel2_z, ldel2_c, lset_i, lset_l, lset_r, lkeep_z, lkeep_c, largs_z, largs_c, cat_i, cat_l, cat_r, lkp_c, cnd_eq, cnd_ne, cnd_lt, cnd_ge, cnd_gt, cnd_le, swL_z, swL_c, rE_e, rOr_s, rOr_n, rlk_z, rlk_c, aR_c, aI_c, aII_c, aIII_c, aRI_c, aRII_c, aRIII_c, vJn, vJs, vlc, aRR_c, aRRI_c, aRRII_c, aRRIII_c, aRIIII_c, aRL_c, aRLL_c, aLL_c, aRRRI_c, aIL_c, aIIII_c, aRRIIII_c, aIRII_c, aIR_c, aLI_c, aRIR_c, aRIIR_c, hM.o, hM, mpFine, e1, e3, c1]
          exact h
  obtain ⟨o1, o2⟩ := hP.one (b := 48) (n := 10) hB (by omega)
  have K := L (k.toNat - 1) 1 _ _ (by omega) (by omega) o1 o2 h
  refine wg (by decide) rgNu_ok ts_187 py_187 ml_187 30 (by simp [catT]) (fun N hN => ?_)
  simp [bs_187, sg_187_0_1, sg_187_11_1, hN _, x_iconst, x_ldc2_w, x_aconst_null, x_iload, x_lload, x_aload, x_istore, x_lstore, x_astore, x_iinc, x_iadd, x_isub, x_imul, x_idiv, x_irem, x_iand, x_ior, x_ixor, x_ishl, x_ishr, x_iushr, x_ineg, x_ladd, x_lsub, x_lmul, x_ldiv, x_lrem, x_lcmp, x_i2l, x_i2b, x_i2s, x_i2c, x_dup, x_pop, x_dup_x1, x_dup2, x_getfield, x_putfield, x_iaload, x_baload, x_saload, x_caload, x_daload, x_faload, x_laload, x_aaload, x_iastore, x_bastore, x_sastore, x_castore, x_lastore, x_aastore, x_arraylength, x_getstatic, x_goto, x_goto_w, x_ifCond, x_if_icmp, x_ifnull, x_ifnonnull, x_lookupswitch, x_invokevirtual, x_invokestatic, x_invokedynamic, x_ireturn, x_freturn, x_dreturn, x_lreturn, x_areturn, x_return_, pI_c, pL_c, pR_c, pV_i, pV_r, gI_c, gL_c, gR_c, pN_z, pN_s, lget_c, lins_z, lins_c, ldel_z, ldel_c, ldel2_z, ldel2_c, lset_i, lset_l, lset_r, lkeep_z, lkeep_c, largs_z, largs_c, cat_i, cat_l, cat_r, lkp_c, cnd_eq, cnd_ne, cnd_lt, cnd_ge, cnd_gt, cnd_le, swL_z, swL_c, rE_e, rOr_s, rOr_n, rlk_z, rlk_c, aR_c, aI_c, aII_c, aIII_c, aRI_c, aRII_c, aRIII_c, vJn, vJs, vlc, aRR_c, aRRI_c, aRRII_c, aRRIII_c, aRIIII_c, aRL_c, aRLL_c, aLL_c, aRRRI_c, aIL_c, aIIII_c, aRRIIII_c, aIRII_c, aIR_c, aLI_c, aRIR_c, aRIIR_c, mpOne, hP, hB]
  exact ⟨hP.1.o, K⟩
