/-! the reference: sheet, sign, sisters -/
theorem sh_step {f st : Int} {s : Nat} : w32 (w32 (f + w32 ((s : Int) * st)) + st) = w32 (f + w32 (((s + 1 : Nat) : Int) * st)) := by
  have e : ((s + 1 : Nat) : Int) * st = (s : Int) * st + st := by rw [show ((s + 1 : Nat) : Int) = (s : Int) + 1 by omega, Int.add_mul, Int.one_mul]
  rw [e]
  generalize (s : Int) * st = y
  simp only [w32_eq]
  omega
noncomputable def shY (M : Int → Int) (k n f st : Int) (s : Nat) : Int := max 0 (min (M s) (shX k n f st s))
set_option maxHeartbeats 1000000 in
theorem mo_sheet {l : Launch} {g : GE} {d : Nat} {t : Tau} {σ : Mem} {Q : Post} {k n f st : Int} (hf : b32 f) (hk : MK t σ) (h : ∀ σ', RowTo (up σ 175 8 0) σ' 176 (shN (nM σ) (mM σ) (vA σ 176) k n f st) → Q (some (vI (shA (nM σ) (mM σ) (vA σ 176) k n f st))) t σ') : WPc l g 202 (d + 6) 0 0 [vR 175, vI k, vI n, vI f, vI st] t σ Q := by
  obtain ⟨hM, hW⟩ := hk
  have n6 := hM.2.2
  have z0 := hM.2.1
  have rf0 : RowTo (up σ 175 8 0) (up σ 175 8 0) 176 (vA σ 176) := ⟨fun _ _ => rfl, vA_up (by omega)⟩
  unfold shN shA at h
  by_cases hc : (0 ≤ k ∧ k ≤ 3) ∧ n ≤ 6
  · rw [if_pos hc] at h
    obtain ⟨⟨k0, k1⟩, h6⟩ := hc
    by_cases hz : k < 3 ∧ n < 0
    · rw [if_neg (fun z => z.2 hz), if_pos hz] at h
      have h := h _ rf0
      refine wg (by decide) rgN_ok tk_202 py_202 ml_202 30 (by simp [catT]) (fun N hN => ?_)
      simp [bl_202, hN _, x_iconst, x_ldc2_w, x_aconst_null, x_iload, x_lload, x_aload, x_istore, x_lstore, x_astore, x_iinc, x_iadd, x_isub, x_imul, x_idiv, x_irem, x_iand, x_ior, x_ixor, x_ishl, x_ishr, x_iushr, x_ineg, x_ladd, x_lsub, x_lmul, x_ldiv, x_lrem, x_lcmp, x_i2l, x_i2b, x_i2s, x_i2c, x_dup, x_pop, x_dup_x1, x_dup2, x_getfield, x_putfield, x_iaload, x_baload, x_saload, x_caload, x_daload, x_faload, x_laload, x_aaload, x_iastore, x_bastore, x_sastore, x_castore, x_lastore, x_aastore, x_arraylength, x_getstatic, x_goto, x_goto_w, x_ifCond, x_if_icmp, x_ifnull, x_ifnonnull, x_lookupswitch, x_invokevirtual, x_invokestatic, x_invokedynamic, x_ireturn, x_freturn, x_dreturn, x_lreturn, x_areturn, x_return_, pI_c, pL_c, pR_c, pV_i, pV_r, gI_c, gL_c, gR_c, pN_z, pN_s, lget_c, lins_z, lins_c, ldel_z, ldel_c, ldel2_z, ldel2_c, lset_i, lset_l, lset_r, lkeep_z, lkeep_c, largs_z, largs_c, cat_i, cat_l, cat_r, lkp_c, cnd_eq, cnd_ne, cnd_lt, cnd_ge, cnd_gt, cnd_le, swL_z, swL_c, rE_e, rOr_s, rOr_n, rlk_z, rlk_c, aR_c, aI_c, aII_c, aIII_c, aRI_c, aRII_c, aRIII_c, vJn, vJs, vlc, aRR_c, aRRI_c, aRRII_c, aRRIII_c, aRIIII_c, aRL_c, aRLL_c, aLL_c, aRRRI_c, aIL_c, aIIII_c, aRRIIII_c, aIRII_c, aIR_c, aLI_c, aRIR_c, aRIIR_c, hM.1.o, mpIn, Int.not_lt.mpr k0, k0, k1, Int.not_lt.mpr k1, h6, Int.not_lt.mpr h6, hz, Int.not_le.mpr hz.1, Int.not_le.mpr hz.2]
      exact h
    · rw [if_pos ⟨⟨⟨k0, k1⟩, h6⟩, hz⟩, if_neg hz] at h
      have K : ∀ σ', RowTo (up σ 175 8 0) σ' 176 (shV (mM σ) (vA σ 176) k n f st 0) → Wp l g 202 (d + 6) 0 0 40 [(0, vR 175), (1, vI k), (2, vI n), (4, vI st), (5, vI (w32 (f + w32 (((0 : Nat) : Int) * st)))), (6, vI (0 : Nat))] [] t σ' Q := by
        refine lpU (P := fun s => ∀ σ', RowTo (up σ 175 8 0) σ' 176 (shV (mM σ) (vA σ 176) k n f st s) → Wp l g 202 (d + 6) 0 0 40 [(0, vR 175), (1, vI k), (2, vI n), (4, vI st), (5, vI (w32 (f + w32 ((s : Int) * st)))), (6, vI s)] [] t σ' Q) (n := nM σ) ?_ (fun s hs K σ' T => ?_)
        · intro σ' T
          have z1 : σ' 175 1 = nM σ := by rw [T.1 175 (by omega)]; simp [up_ap, z0]
          have e1 : nM σ' = nM σ := by unfold nM; rw [z1]; rfl
          have hM' : MdOk t σ' := ⟨hM.1, by rw [e1]; exact z1, by rw [e1]; exact n6⟩
          have h := h σ' T
          have hb : sumW (shV (mM σ) (vA σ 176) k n f st (nM σ)) (nM σ) = sumN (shV (mM σ) (vA σ 176) k n f st (nM σ)) (nM σ) := by
            have hz : ∀ j : Nat, j ≤ nM σ → ∀ i : Int, 0 ≤ i → i < j → 0 ≤ shV (mM σ) (vA σ 176) k n f st j i ∧ shV (mM σ) (vA σ 176) k n f st j i ≤ 1000 := by
              intro j
              induction j with
              | zero => intro _ i i0 i1; omega
              | succ j ih =>
                intro hj i i0 i1
                have es : shV (mM σ) (vA σ 176) k n f st (j + 1) = upv (shV (mM σ) (vA σ 176) k n f st j) j (max 0 (min (mM σ j) (shX k n f st j))) := rfl
                rw [es]
                by_cases hij : i = j
                · subst hij
                  rw [upv_s]
                  have := (hW.2.1 j (by omega) (by omega)).1
                  omega
                · rw [upv_n hij]; exact ih (by omega) i i0 (by omega)
            exact sumW_eq _ (by omega) (hz _ (Nat.le_refl _))
          have hb' : sumW (fun i => shV (mM σ) (vA σ 176) k n f st (nM σ) i) (nM σ) = sumN (shV (mM σ) (vA σ 176) k n f st (nM σ)) (nM σ) := hb
          refine wa (by decide) rgN_ok tk_202 30 (fun N hN => ?_)
          simp [bl_202, hN _, x_iconst, x_ldc2_w, x_aconst_null, x_iload, x_lload, x_aload, x_istore, x_lstore, x_astore, x_iinc, x_iadd, x_isub, x_imul, x_idiv, x_irem, x_iand, x_ior, x_ixor, x_ishl, x_ishr, x_iushr, x_ineg, x_ladd, x_lsub, x_lmul, x_ldiv, x_lrem, x_lcmp, x_i2l, x_i2b, x_i2s, x_i2c, x_dup, x_pop, x_dup_x1, x_dup2, x_getfield, x_putfield, x_iaload, x_baload, x_saload, x_caload, x_daload, x_faload, x_laload, x_aaload, x_iastore, x_bastore, x_sastore, x_castore, x_lastore, x_aastore, x_arraylength, x_getstatic, x_goto, x_goto_w, x_ifCond, x_if_icmp, x_ifnull, x_ifnonnull, x_lookupswitch, x_invokevirtual, x_invokestatic, x_invokedynamic, x_ireturn, x_freturn, x_dreturn, x_lreturn, x_areturn, x_return_, pI_c, pL_c, pR_c, pV_i, pV_r, gI_c, gL_c, gR_c, pN_z, pN_s, lget_c, lins_z, lins_c, ldel_z, ldel_c, ldel2_z, ldel2_c, lset_i, lset_l, lset_r, lkeep_z, lkeep_c, largs_z, largs_c, cat_i, cat_l, cat_r, lkp_c, cnd_eq, cnd_ne, cnd_lt, cnd_ge, cnd_gt, cnd_le, swL_z, swL_c, rE_e, rOr_s, rOr_n, rlk_z, rlk_c, aR_c, aI_c, aII_c, aIII_c, aRI_c, aRII_c, aRIII_c, vJn, vJs, vlc, aRR_c, aRRI_c, aRRII_c, aRRIII_c, aRIIII_c, aRL_c, aRLL_c, aLL_c, aRRRI_c, aIL_c, aIIII_c, aRRIIII_c, aIRII_c, aIR_c, aLI_c, aRIR_c, aRIIR_c, hM.1.o, hM.1.f0, z1, mpSumOf, hM', RowT.now hM.1, T.2, e1, hb, hb']
          refine ⟨fun z => ?_, fun z => ?_⟩
          · rw [if_neg z] at h; exact h
          · rw [if_pos z] at h; exact h
        · have e2 := w32_succ (k := s) (by omega); have i1 : ((s : Nat) : Int) < (nM σ : Nat) := (by omega); have i1n : s < nM σ := (by omega); have i1x : ¬ nM σ ≤ s := (by omega)
          have s6 : (s : Int) < 6 := by omega
          have s6n : s < 6 := by omega
          have s50 : (s : Int) < 50 := by omega
          have s50n : s < 50 := by omega
          have z1 : σ' 175 1 = nM σ := by rw [T.1 175 (by omega)]; simp [up_ap, z0]
          have em : σ' 177 s = mM σ s := by rw [T.1 177 (by omega), up_ne (by omega)]; unfold mM; rw [if_pos ⟨by omega, s6⟩]
          have es : shV (mM σ) (vA σ 176) k n f st (s + 1) = upv (shV (mM σ) (vA σ 176) k n f st s) s (max 0 (min (mM σ s) (shX k n f st s))) := rfl
          have K := K _ (by rw [es]; exact T.put (j := s) (by omega) s50)
          rw [← sh_step] at K
          have hm := (hW.2.1 s (by omega) (by omega)).1
          generalize hx : w32 (f + w32 ((s : Int) * st)) = x at K
          have hX : shX k n f st s = if (s : Int) < (if k = 3 then 0 else n) then shE k x else 0 := by unfold shX; rw [hx]
          rw [hX] at K
          unfold shE at K
          refine wa (by decide) rgN_ok tk_202 30 (fun N hN => ?_)
          simp [bl_202, hN _, x_iconst, x_ldc2_w, x_aconst_null, x_iload, x_lload, x_aload, x_istore, x_lstore, x_astore, x_iinc, x_iadd, x_isub, x_imul, x_idiv, x_irem, x_iand, x_ior, x_ixor, x_ishl, x_ishr, x_iushr, x_ineg, x_ladd, x_lsub, x_lmul, x_ldiv, x_lrem, x_lcmp, x_i2l, x_i2b, x_i2s, x_i2c, x_dup, x_pop, x_dup_x1, x_dup2, x_getfield, x_putfield, x_iaload, x_baload, x_saload, x_caload, x_daload, x_faload, x_laload, x_aaload, x_iastore, x_bastore, x_sastore, x_castore, x_lastore, x_aastore, x_arraylength, x_getstatic, x_goto, x_goto_w, x_ifCond, x_if_icmp, x_ifnull, x_ifnonnull, x_lookupswitch, x_invokevirtual, x_invokestatic, x_invokedynamic, x_ireturn, x_freturn, x_dreturn, x_lreturn, x_areturn, x_return_, pI_c, pL_c, pR_c, pV_i, pV_r, gI_c, gL_c, gR_c, pN_z, pN_s, lget_c, lins_z, lins_c, ldel_z, ldel_c, ldel2_z, ldel2_c, lset_i, lset_l, lset_r, lkeep_z, lkeep_c, largs_z, largs_c, cat_i, cat_l, cat_r, lkp_c, cnd_eq, cnd_ne, cnd_lt, cnd_ge, cnd_gt, cnd_le, swL_z, swL_c, rE_e, rOr_s, rOr_n, rlk_z, rlk_c, aR_c, aI_c, aII_c, aIII_c, aRI_c, aRII_c, aRIII_c, vJn, vJs, vlc, aRR_c, aRRI_c, aRRII_c, aRRIII_c, aRIIII_c, aRL_c, aRLL_c, aLL_c, aRRRI_c, aIL_c, aIIII_c, aRRIIII_c, aIRII_c, aIR_c, aLI_c, aRIR_c, aRIIR_c, hM.1.o, hM.1.f0, hM.1.f3, hM.1.t176, hM.1.l176, hM.1.t177, hM.1.l177, z1, spMin, spMax, e2, i1, i1n, i1x, s6, s6n, s50, s50n, em]
          have kz : max 0 (min (mM σ s) 0) = 0 := by omega
          by_cases a0 : k = 0
          · subst a0
            by_cases b : (s : Int) < n
            · simp [b] at K ⊢; exact ⟨K, fun z => by omega⟩
            · simp [b, kz] at K ⊢; exact fun _ => K
          by_cases a1 : k = 1
          · subst a1
            by_cases b : (s : Int) < n
            · simp [b] at K ⊢; exact ⟨K, fun z => by omega⟩
            · simp [b, kz] at K ⊢; exact fun _ => K
          by_cases a3 : k = 3
          · subst a3
            have b : ¬ (s : Int) < 0 := by omega
            simp [b, kz] at K ⊢; exact K
          · by_cases b : (s : Int) < n
            · simp [b, a0, a1, a3] at K ⊢; exact ⟨K, fun z => by omega⟩
            · simp [b, kz, a0, a1, a3] at K ⊢; exact fun _ => K
      have K := K _ rf0
      have e0 : w32 (f + w32 (((0 : Nat) : Int) * st)) = f := by
        obtain ⟨f0, f1⟩ := hf
        rw [show ((0 : Nat) : Int) * st = 0 by simp]
        simp only [w32_eq]
        omega
      rw [e0] at K
      refine wg (by decide) rgN_ok tk_202 py_202 ml_202 30 (by simp [catT]) (fun N hN => ?_)
      simp [bl_202, hN _, x_iconst, x_ldc2_w, x_aconst_null, x_iload, x_lload, x_aload, x_istore, x_lstore, x_astore, x_iinc, x_iadd, x_isub, x_imul, x_idiv, x_irem, x_iand, x_ior, x_ixor, x_ishl, x_ishr, x_iushr, x_ineg, x_ladd, x_lsub, x_lmul, x_ldiv, x_lrem, x_lcmp, x_i2l, x_i2b, x_i2s, x_i2c, x_dup, x_pop, x_dup_x1, x_dup2, x_getfield, x_putfield, x_iaload, x_baload, x_saload, x_caload, x_daload, x_faload, x_laload, x_aaload, x_iastore, x_bastore, x_sastore, x_castore, x_lastore, x_aastore, x_arraylength, x_getstatic, x_goto, x_goto_w, x_ifCond, x_if_icmp, x_ifnull, x_ifnonnull, x_lookupswitch, x_invokevirtual, x_invokestatic, x_invokedynamic, x_ireturn, x_freturn, x_dreturn, x_lreturn, x_areturn, x_return_, pI_c, pL_c, pR_c, pV_i, pV_r, gI_c, gL_c, gR_c, pN_z, pN_s, lget_c, lins_z, lins_c, ldel_z, ldel_c, ldel2_z, ldel2_c, lset_i, lset_l, lset_r, lkeep_z, lkeep_c, largs_z, largs_c, cat_i, cat_l, cat_r, lkp_c, cnd_eq, cnd_ne, cnd_lt, cnd_ge, cnd_gt, cnd_le, swL_z, swL_c, rE_e, rOr_s, rOr_n, rlk_z, rlk_c, aR_c, aI_c, aII_c, aIII_c, aRI_c, aRII_c, aRIII_c, vJn, vJs, vlc, aRR_c, aRRI_c, aRRII_c, aRRIII_c, aRIIII_c, aRL_c, aRLL_c, aLL_c, aRRRI_c, aIL_c, aIIII_c, aRRIIII_c, aIRII_c, aIR_c, aLI_c, aRIR_c, aRIIR_c, hM.1.o, mpIn, k0, Int.not_lt.mpr k0, k1, Int.not_lt.mpr k1, h6, Int.not_lt.mpr h6]
      refine ⟨fun _ => K, fun z => ⟨fun y => K, fun y => (hz ⟨z, y⟩).elim⟩⟩
  · rw [if_neg (fun z => hc z.1), if_neg hc] at h
    have h := h _ rf0
    refine wg (by decide) rgN_ok tk_202 py_202 ml_202 30 (by simp [catT]) (fun N hN => ?_)
    simp [bl_202, hN _, x_iconst, x_ldc2_w, x_aconst_null, x_iload, x_lload, x_aload, x_istore, x_lstore, x_astore, x_iinc, x_iadd, x_isub, x_imul, x_idiv, x_irem, x_iand, x_ior, x_ixor, x_ishl, x_ishr, x_iushr, x_ineg, x_ladd, x_lsub, x_lmul, x_ldiv, x_lrem, x_lcmp, x_i2l, x_i2b, x_i2s, x_i2c, x_dup, x_pop, x_dup_x1, x_dup2, x_getfield, x_putfield, x_iaload, x_baload, x_saload, x_caload, x_daload, x_faload, x_laload, x_aaload, x_iastore, x_bastore, x_sastore, x_castore, x_lastore, x_aastore, x_arraylength, x_getstatic, x_goto, x_goto_w, x_ifCond, x_if_icmp, x_ifnull, x_ifnonnull, x_lookupswitch, x_invokevirtual, x_invokestatic, x_invokedynamic, x_ireturn, x_freturn, x_dreturn, x_lreturn, x_areturn, x_return_, pI_c, pL_c, pR_c, pV_i, pV_r, gI_c, gL_c, gR_c, pN_z, pN_s, lget_c, lins_z, lins_c, ldel_z, ldel_c, ldel2_z, ldel2_c, lset_i, lset_l, lset_r, lkeep_z, lkeep_c, largs_z, largs_c, cat_i, cat_l, cat_r, lkp_c, cnd_eq, cnd_ne, cnd_lt, cnd_ge, cnd_gt, cnd_le, swL_z, swL_c, rE_e, rOr_s, rOr_n, rlk_z, rlk_c, aR_c, aI_c, aII_c, aIII_c, aRI_c, aRII_c, aRIII_c, vJn, vJs, vlc, aRR_c, aRRI_c, aRRII_c, aRRIII_c, aRIIII_c, aRL_c, aRLL_c, aLL_c, aRRRI_c, aIL_c, aIIII_c, aRRIIII_c, aIRII_c, aIR_c, aLI_c, aRIR_c, aRIIR_c, hM.1.o, mpIn]
    grind
