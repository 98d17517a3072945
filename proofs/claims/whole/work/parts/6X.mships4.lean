/-! the reference: ships -/
/-- what a text of ships that is not right leaves as it was -/
def ShF (σ σ' : Mem) : Prop := (∀ o, o ≠ 175 → o ≠ 180 → σ' o = σ o) ∧ (∀ j, j ≠ 5 → j ≠ 8 → ¬ (9 ≤ j ∧ j ≤ 13) → σ' 175 j = σ 175 j) ∧ σ' 175 5 = 0 ∧ σ' 175 8 = 0
/-- L ships came -/
def ShM (σ σ' : Mem) (T : Int → Int) (L : Nat) : Prop := (∀ o, o ≠ 175 → o ≠ 176 → o ≠ 177 → o ≠ 180 → σ' o = σ o) ∧ (∀ j, j ≠ 1 → j ≠ 5 → j ≠ 8 → ¬ (9 ≤ j ∧ j ≤ 13) → j ≠ 21 → j ≠ 37 → σ' 175 j = σ 175 j) ∧ (σ' 175 5 = 0 ∧ σ' 175 8 = 0) ∧ σ' 175 1 = ((nM σ + L : Nat) : Int) ∧ mM σ' = (jnI (nM σ) (mM σ) (vA σ 176) T L).1 ∧ vA σ' 176 = (jnI (nM σ) (mM σ) (vA σ 176) T L).2 ∧ σ' 175 21 = 0 ∧ σ' 175 37 = w32 (σ 175 37 + 1)
theorem mo_ships {l : Launch} {g : GE} {d : Nat} {t : Tau} {σ : Mem} {Q : Post} (hM : MdOk t σ) (hT : TxM σ) (h : if (σ 175 5).toNat = 0 then (∀ σ', ShF σ σ' → Q (some (vI 0)) t σ') else if fltS (nM σ) (txB σ) (σ 175 5).toNat = -1 then (∀ σ', ShM σ σ' (txB σ) (((σ 175 5).toNat + 1) / 3) → Q (some (vI (((σ 175 5).toNat + 1) / 3 : Nat))) t σ') else (∀ σ', ShF σ σ' → Q (some (vI (-1 - fltS (nM σ) (txB σ) (σ 175 5).toNat))) t σ')) : WPc l g 189 (d + 6) 0 0 [vR 175] t σ Q := by
  obtain ⟨⟨n0, n1⟩, hb⟩ := hT
  obtain ⟨len, h5⟩ : ∃ n : Nat, σ 175 5 = n := ⟨(σ 175 5).toNat, by omega⟩
  have hn : (σ 175 5).toNat = len := by omega
  rw [hn] at h
  have oM := hM.1.o
  have z0 := hM.2.1
  have n6 := hM.2.2
  have e5 : up σ 175 8 0 175 5 = len := by simp [up_ap, h5]
  generalize hσ1 : up (up (up (up (up (up (up σ 175 8 0) 175 9 178) 175 10 len) 175 11 17) 175 12 0) 175 13 (-1)) 175 5 0 = σ1
  have g9 : σ1 175 9 = 178 := by rw [← hσ1]; simp [up_ap]
  have g10 : σ1 175 10 = len := by rw [← hσ1]; simp [up_ap]
  have g11 : σ1 175 11 = 17 := by rw [← hσ1]; simp [up_ap]
  have g12 : σ1 175 12 = 0 := by rw [← hσ1]; simp [up_ap]
  have g13 : σ1 175 13 = -1 := by rw [← hσ1]; simp [up_ap]
  have g5 : σ1 175 5 = 0 := by rw [← hσ1]; simp [up_ap]
  have g8 : σ1 175 8 = 0 := by rw [← hσ1]; simp [up_ap]
  have gj : ∀ j, j ≠ 5 → j ≠ 8 → ¬ (9 ≤ j ∧ j ≤ 13) → σ1 175 j = σ 175 j := fun j a b c => by
    rw [← hσ1]
    simp only [up_ap]
    rw [if_neg (by omega), if_neg (by omega), if_neg (by omega), if_neg (by omega), if_neg (by omega), if_neg (by omega), if_neg (by omega)]
  have go : ∀ o, o ≠ 175 → σ1 o = σ o := fun o a => by rw [← hσ1, up_ne a, up_ne a, up_ne a, up_ne a, up_ne a, up_ne a, up_ne a]
  have sF : ∀ σ', PxF σ1 σ' → ShF σ σ' := fun σ' f => ⟨fun o a b => by rw [f.1 o a b, go o a], fun j a b c => by rw [f.2 j (by omega) (by omega), gj j a b c], by rw [f.2 5 (by omega) (by omega)]; exact g5, by rw [f.2 8 (by omega) (by omega)]; exact g8⟩
  have nM1 : nM σ1 = nM σ := by unfold nM; rw [gj 1 (by omega) (by omega) (by omega)]
  have mM1 : mM σ1 = mM σ := by unfold mM; rw [go 177 (by omega)]
  have vA1 : vA σ1 176 = vA σ 176 := by unfold vA; rw [go 176 (by omega)]
  refine wg (by decide) rgShi_ok ts_189 py_189 ml_189 30 (by simp [catT]) (fun N hN => ?_)
  by_cases hz : len = 0
  · rw [if_pos hz] at h
    have K := h σ1 (sF σ1 PxF.rf)
    simp [bs_189, sg_189_0_1, hN _, x_iconst, x_ldc2_w, x_aconst_null, x_iload, x_lload, x_aload, x_istore, x_lstore, x_astore, x_iinc, x_iadd, x_isub, x_imul, x_idiv, x_irem, x_iand, x_ior, x_ixor, x_ishl, x_ishr, x_iushr, x_ineg, x_ladd, x_lsub, x_lmul, x_ldiv, x_lrem, x_lcmp, x_i2l, x_i2b, x_i2s, x_i2c, x_dup, x_pop, x_dup_x1, x_dup2, x_getfield, x_putfield, x_iaload, x_baload, x_saload, x_caload, x_daload, x_faload, x_laload, x_aaload, x_iastore, x_bastore, x_sastore, x_castore, x_lastore, x_aastore, x_arraylength, x_getstatic, x_goto, x_goto_w, x_ifCond, x_if_icmp, x_ifnull, x_ifnonnull, x_lookupswitch, x_invokevirtual, x_invokestatic, x_invokedynamic, x_ireturn, x_freturn, x_dreturn, x_lreturn, x_areturn, x_return_, pI_c, pL_c, pR_c, pV_i, pV_r, gI_c, gL_c, gR_c, pN_z, pN_s, lget_c, lins_z, lins_c, ldel_z, ldel_c, ldel2_z, ldel2_c, lset_i, lset_l, lset_r, lkeep_z, lkeep_c, largs_z, largs_c, cat_i, cat_l, cat_r, lkp_c, cnd_eq, cnd_ne, cnd_lt, cnd_ge, cnd_gt, cnd_le, swL_z, swL_c, rE_e, rOr_s, rOr_n, rlk_z, rlk_c, aR_c, aI_c, aII_c, aIII_c, aRI_c, aRII_c, aRIII_c, vJn, vJs, vlc, aRR_c, aRRI_c, aRRII_c, aRRIII_c, aRIIII_c, aRL_c, aRLL_c, aLL_c, aRRRI_c, aIL_c, aIIII_c, aRRIIII_c, aIRII_c, aIR_c, aLI_c, aRIR_c, aRIIR_c, oM, hM.1, mpBeT, e5, hσ1, g10]
    exact ⟨fun z => absurd hz z, fun _ => K⟩
  · rw [if_neg hz] at h
    have hX : PaX t σ1 (txB σ) (min len 17) len := by
      refine ⟨hM.1, g9, g10, by omega, fun k => by rw [go 178 (by omega)]; exact hb k, by omega, fun p hp => ?_⟩
      unfold hrS
      rw [g9, g10, g11, go 178 (by omega)]
      by_cases c : p < min len 17
      · rw [if_pos c, if_pos ⟨by omega, by omega⟩]
      · rw [if_neg c, if_neg (by omega)]
    have K := m_shRead (l := l) (g := g) (d := d) (t := t) (σ := σ) (Q := Q) (σ1 := σ1) (T := txB σ) (n := nM σ) (len := len) hX (by omega) (by rw [gj 1 (by omega) (by omega) (by omega)]; exact z0) n6 (fun σ' f hf => by rw [if_neg hf] at h; exact h σ' (sF σ' f)) (fun σ' L f hf hL hL6 hc => ?_) (6 - nM σ) 0 σ1 (by omega) (by omega) (fun p hp => by omega) PxF.rf g13 (by rw [g12]; rfl) (fun j hj => by omega)
    · simp [bs_189, sg_189_0_1, hN _, x_iconst, x_ldc2_w, x_aconst_null, x_iload, x_lload, x_aload, x_istore, x_lstore, x_astore, x_iinc, x_iadd, x_isub, x_imul, x_idiv, x_irem, x_iand, x_ior, x_ixor, x_ishl, x_ishr, x_iushr, x_ineg, x_ladd, x_lsub, x_lmul, x_ldiv, x_lrem, x_lcmp, x_i2l, x_i2b, x_i2s, x_i2c, x_dup, x_pop, x_dup_x1, x_dup2, x_getfield, x_putfield, x_iaload, x_baload, x_saload, x_caload, x_daload, x_faload, x_laload, x_aaload, x_iastore, x_bastore, x_sastore, x_castore, x_lastore, x_aastore, x_arraylength, x_getstatic, x_goto, x_goto_w, x_ifCond, x_if_icmp, x_ifnull, x_ifnonnull, x_lookupswitch, x_invokevirtual, x_invokestatic, x_invokedynamic, x_ireturn, x_freturn, x_dreturn, x_lreturn, x_areturn, x_return_, pI_c, pL_c, pR_c, pV_i, pV_r, gI_c, gL_c, gR_c, pN_z, pN_s, lget_c, lins_z, lins_c, ldel_z, ldel_c, ldel2_z, ldel2_c, lset_i, lset_l, lset_r, lkeep_z, lkeep_c, largs_z, largs_c, cat_i, cat_l, cat_r, lkp_c, cnd_eq, cnd_ne, cnd_lt, cnd_ge, cnd_gt, cnd_le, swL_z, swL_c, rE_e, rOr_s, rOr_n, rlk_z, rlk_c, aR_c, aI_c, aII_c, aIII_c, aRI_c, aRII_c, aRIII_c, vJn, vJs, vlc, aRR_c, aRRI_c, aRRII_c, aRRIII_c, aRIIII_c, aRL_c, aRLL_c, aLL_c, aRRRI_c, aIL_c, aIIII_c, aRRIIII_c, aIRII_c, aIR_c, aLI_c, aRIR_c, aRIIR_c, oM, hM.1, mpBeT, e5, hσ1, g10, hz]
      simpa using K
    · rw [if_pos hf, ← hL] at h
      have nM2 : nM σ' = nM σ := by unfold nM; rw [f.2 1 (by omega) (by omega), gj 1 (by omega) (by omega) (by omega)]
      have mM2 : mM σ' = mM σ := by unfold mM; rw [f.1 177 (by omega) (by omega), go 177 (by omega)]
      have vA2 : vA σ' 176 = vA σ 176 := by unfold vA; rw [f.1 176 (by omega) (by omega), go 176 (by omega)]
      have F := sF σ' f
      refine m_joins hM.1 (by rw [nM2, f.2 1 (by omega) (by omega), gj 1 (by omega) (by omega) (by omega)]; exact z0) (by rw [nM2]; exact hL6) hc (fun σ2 hJ => h _ ?_)
      obtain ⟨j1, j2, j3, j4, j5⟩ := hJ
      rw [nM2, mM2, vA2] at j4 j5
      rw [nM2] at j3
      have e37 : σ' 175 37 = σ 175 37 := F.2.1 37 (by omega) (by omega) (by omega)
      refine ⟨fun o a b c e => ?_, fun j a b c e e1 e2 => ?_, ⟨?_, ?_⟩, ?_, ?_, ?_, ?_, ?_⟩
      · rw [up_ne a, up_ne a, j1 o a b c]; exact F.1 o a e
      · rw [up_ap, if_neg (fun z => e2 z.2), up_ap, if_neg (fun z => e1 z.2), j2 j a]; exact F.2.1 j b c e
      · rw [up_ap, if_neg (by omega), up_ap, if_neg (by omega), j2 5 (by omega)]; exact F.2.2.1
      · rw [up_ap, if_neg (by omega), up_ap, if_neg (by omega), j2 8 (by omega)]; exact F.2.2.2
      · rw [up_ap, if_neg (by omega), up_ap, if_neg (by omega)]; exact j3
      · rw [mM_up (by omega), mM_up (by omega)]; exact j4
      · rw [vA_up (by omega), vA_up (by omega)]; exact j5
      · simp [up_ap]
      · rw [up_ap, if_pos ⟨rfl, rfl⟩, e37]
