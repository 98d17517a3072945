/-! who wins, a fight, a ship that comes -/
theorem RuleIs.cg {t : Tau} {σ σ' : Mem} {r : Int} {F : (Int → Int) → Int} (h : RuleIs t σ r F) (h1 : σ' r = σ r) (h2 : σ' (r + 1) = σ (r + 1)) : RuleIs t σ' r F := by
  unfold RuleIs; rw [h1, h2]; exact h
noncomputable def winV (F : (Int → Int) → Int) (V : Int → Int) (i j : Int) : Int := if V (6 + i) = V (6 + j) then -2 else if F (envV V i j) = F (envV V j i) then -3 else if F (envV V j i) < F (envV V i j) then i else j
abbrev prB (n : Nat) (i j : Int) : Prop := (0 ≤ i ∧ i < n) ∧ (0 ≤ j ∧ j < n) ∧ i ≠ j
noncomputable def winA (F : (Int → Int) → Int) (n : Nat) (V : Int → Int) (i j : Int) : Int := if prB n i j then winV F V i j else -1
noncomputable def fgtV (F : (Int → Int) → Int) (n : Nat) (k : Int) (V : Int → Int) (i j : Int) : Int → Int := if winA F n V i j < 0 then V else strikeV k V (winA F n V i j) (if winA F n V i j = i then j else i)
theorem winA_c {F : (Int → Int) → Int} {n : Nat} {V : Int → Int} {i j : Int} (h : 0 ≤ winA F n V i j) : prB n i j ∧ V (6 + i) ≠ V (6 + j) ∧ (winA F n V i j = i ∨ winA F n V i j = j) := by
  unfold winA at h ⊢
  split at h
  · rename_i hp
    rw [if_pos hp]
    unfold winV at h ⊢
    split at h
    · omega
    · rename_i h6
      rw [if_neg h6]
      split at h
      · omega
      · rename_i h7
        rw [if_neg h7]
        refine ⟨hp, h6, ?_⟩
        split
        · exact Or.inl rfl
        · exact Or.inr rfl
  · omega
theorem wf_fgtV {F : (Int → Int) → Int} {n : Nat} {M V : Int → Int} {k i j : Int} (h : WFV n M V) (hk : 1 ≤ k ∧ k ≤ 6) : WFV n M (fgtV F n k V i j) := by
  unfold fgtV
  split
  · exact h
  · rename_i hw
    obtain ⟨⟨hi, hj, hne⟩, h6, hc⟩ := winA_c (F := F) (n := n) (V := V) (i := i) (j := j) (by omega)
    by_cases hwi : winA F n V i j = i
    · rw [if_pos hwi, hwi]
      exact h.strike hi.1 hi.2 hj.1 hj.2 (by omega) h6
    · rw [if_neg hwi]
      rcases hc with hc | hc
      · exact (hwi hc).elim
      · rw [hc]
        exact h.strike hj.1 hj.2 hi.1 hi.2 (by omega) (fun z => h6 z.symm)
abbrev rgW : Reg := (34, upMeas) :: regA
theorem rgW_ok {l : Launch} {g : GE} {d : Nat} : ∀ e as t σ Q, rE l g (d + 4) rgW e as t σ Q → WPc l g e (d + 4) 0 0 as t σ Q := rE_cons (fun _ _ _ _ h => u_measures h) (regA_ok (d := d + 2))
def apWinner : Sp := fun as t σ Q => aRRII as fun a r i j => ∃ F, RuleIs t σ r F ∧ a + 6 < r ∧ SeaOk t σ a ∧ ∀ σ', (∀ o, o ≠ r + 3 → σ' o = σ o) → Q (some (vI (winA F (nS σ a) (vwS σ a) i j))) t σ'
theorem a_winner {l : Launch} {g : GE} {d : Nat} {t : Tau} {σ : Mem} {Q : Post} {as : List TV} (h : apWinner as t σ Q) : WPc l g 62 (d + 5) 0 0 as t σ Q := by
  obtain ⟨a, r, i, j, rfl, F, hR, ha, hk, h⟩ := aRRII_e h
  unfold winA at h
  refine wg (by decide) rgW_ok ts_62 py_62 ml_62 30 (by simp [catT]) (fun N hN => ?_)
  by_cases hp : prB (nS σ a) i j
  · rw [if_pos hp] at h
    unfold winV at h
    obtain ⟨⟨i0, i1⟩, ⟨j0, j1⟩, hne⟩ := hp
    simp [bs_62, hN _, x_iconst, x_ldc2_w, x_aconst_null, x_iload, x_lload, x_aload, x_istore, x_lstore, x_astore, x_iinc, x_iadd, x_isub, x_imul, x_idiv, x_irem, x_iand, x_ior, x_ixor, x_ishl, x_ishr, x_iushr, x_ineg, x_ladd, x_lsub, x_lmul, x_ldiv, x_lrem, x_lcmp, x_i2l, x_i2b, x_i2s, x_i2c, x_dup, x_pop, x_dup_x1, x_dup2, x_getfield, x_putfield, x_iaload, x_baload, x_saload, x_caload, x_daload, x_faload, x_laload, x_aaload, x_iastore, x_bastore, x_sastore, x_castore, x_lastore, x_aastore, x_arraylength, x_getstatic, x_goto, x_goto_w, x_ifCond, x_if_icmp, x_ifnull, x_ifnonnull, x_lookupswitch, x_invokevirtual, x_invokestatic, x_invokedynamic, x_ireturn, x_freturn, x_dreturn, x_lreturn, x_areturn, x_return_, pI_c, pL_c, pR_c, pV_i, pV_r, gI_c, gL_c, gR_c, pN_z, pN_s, lget_c, lins_z, lins_c, ldel_z, ldel_c, ldel2_z, ldel2_c, lset_i, lset_l, lset_r, lkeep_z, lkeep_c, largs_z, largs_c, cat_i, cat_l, cat_r, lkp_c, cnd_eq, cnd_ne, cnd_lt, cnd_ge, cnd_gt, cnd_le, swL_z, swL_c, rE_e, rOr_s, rOr_n, rlk_z, rlk_c, aR_c, aI_c, aII_c, aIII_c, aRI_c, aRII_c, aRIII_c, vJn, vJs, vlc, aRR_c, aRRI_c, aRRII_c, aRRIII_c, aRIIII_c, aRL_c, aRLL_c, aLL_c, aRRRI_c, aIL_c, aIIII_c, aRRIIII_c, aIRII_c, aIR_c, aLI_c, aRIR_c, aRIIR_c, apPair, apOf, upMeas, hk, hk.1.1, i0, i1, j0, j1, hne, hR.1.1, Int.not_le.mpr i1, Int.not_le.mpr j1]
    refine ⟨fun z => ⟨F, hR, ha, fun σ1 h1 => ?_⟩, fun z => ?_⟩
    · rw [if_neg z] at h
      have hk1 : SeaOk t σ1 a := seaok_cg (fun q h2 h3 => h1 q (by omega)) hk
      obtain ⟨s1, s2, s3⟩ := sea_cg (σ := σ) (σ' := σ1) (a := a) (fun q h2 h3 => h1 q (by omega))
      simp [sg_62_27_1, hN _, x_iconst, x_ldc2_w, x_aconst_null, x_iload, x_lload, x_aload, x_istore, x_lstore, x_astore, x_iinc, x_iadd, x_isub, x_imul, x_idiv, x_irem, x_iand, x_ior, x_ixor, x_ishl, x_ishr, x_iushr, x_ineg, x_ladd, x_lsub, x_lmul, x_ldiv, x_lrem, x_lcmp, x_i2l, x_i2b, x_i2s, x_i2c, x_dup, x_pop, x_dup_x1, x_dup2, x_getfield, x_putfield, x_iaload, x_baload, x_saload, x_caload, x_daload, x_faload, x_laload, x_aaload, x_iastore, x_bastore, x_sastore, x_castore, x_lastore, x_aastore, x_arraylength, x_getstatic, x_goto, x_goto_w, x_ifCond, x_if_icmp, x_ifnull, x_ifnonnull, x_lookupswitch, x_invokevirtual, x_invokestatic, x_invokedynamic, x_ireturn, x_freturn, x_dreturn, x_lreturn, x_areturn, x_return_, pI_c, pL_c, pR_c, pV_i, pV_r, gI_c, gL_c, gR_c, pN_z, pN_s, lget_c, lins_z, lins_c, ldel_z, ldel_c, ldel2_z, ldel2_c, lset_i, lset_l, lset_r, lkeep_z, lkeep_c, largs_z, largs_c, cat_i, cat_l, cat_r, lkp_c, cnd_eq, cnd_ne, cnd_lt, cnd_ge, cnd_gt, cnd_le, swL_z, swL_c, rE_e, rOr_s, rOr_n, rlk_z, rlk_c, aR_c, aI_c, aII_c, aIII_c, aRI_c, aRII_c, aRIII_c, vJn, vJs, vlc, aRR_c, aRRI_c, aRRII_c, aRRIII_c, aRIIII_c, aRL_c, aRLL_c, aLL_c, aRRRI_c, aIL_c, aIIII_c, aRRIIII_c, aIRII_c, aIR_c, aLI_c, aRIR_c, aRIIR_c, upMeas, hk1, s1, s3, hR.1.1, i0, i1, j0, j1]
      refine ⟨F, hR.cg (h1 r (by omega)) (h1 _ (by omega)), ha, fun σ2 h2 => ?_⟩
      have h := h σ2 (fun q hq => by rw [h2 q hq]; exact h1 q hq)
      simp [sg_62_27_2, bs_62, hN _, x_iconst, x_ldc2_w, x_aconst_null, x_iload, x_lload, x_aload, x_istore, x_lstore, x_astore, x_iinc, x_iadd, x_isub, x_imul, x_idiv, x_irem, x_iand, x_ior, x_ixor, x_ishl, x_ishr, x_iushr, x_ineg, x_ladd, x_lsub, x_lmul, x_ldiv, x_lrem, x_lcmp, x_i2l, x_i2b, x_i2s, x_i2c, x_dup, x_pop, x_dup_x1, x_dup2, x_getfield, x_putfield, x_iaload, x_baload, x_saload, x_caload, x_daload, x_faload, x_laload, x_aaload, x_iastore, x_bastore, x_sastore, x_castore, x_lastore, x_aastore, x_arraylength, x_getstatic, x_goto, x_goto_w, x_ifCond, x_if_icmp, x_ifnull, x_ifnonnull, x_lookupswitch, x_invokevirtual, x_invokestatic, x_invokedynamic, x_ireturn, x_freturn, x_dreturn, x_lreturn, x_areturn, x_return_, pI_c, pL_c, pR_c, pV_i, pV_r, gI_c, gL_c, gR_c, pN_z, pN_s, lget_c, lins_z, lins_c, ldel_z, ldel_c, ldel2_z, ldel2_c, lset_i, lset_l, lset_r, lkeep_z, lkeep_c, largs_z, largs_c, cat_i, cat_l, cat_r, lkp_c, cnd_eq, cnd_ne, cnd_lt, cnd_ge, cnd_gt, cnd_le, swL_z, swL_c, rE_e, rOr_s, rOr_n, rlk_z, rlk_c, aR_c, aI_c, aII_c, aIII_c, aRI_c, aRII_c, aRIII_c, vJn, vJs, vlc, aRR_c, aRRI_c, aRRII_c, aRRIII_c, aRIIII_c, aRL_c, aRLL_c, aLL_c, aRRRI_c, aIL_c, aIIII_c, aRRIIII_c, aIRII_c, aIR_c, aLI_c, aRIR_c, aRIIR_c]
      refine ⟨fun y => ?_, fun y => ?_⟩
      · rw [if_neg (by omega)] at h
        refine ⟨fun x => ?_, fun x => ?_⟩
        · rw [if_neg (by omega)] at h; exact h
        · rw [if_pos (by omega)] at h; exact h
      · rw [if_pos y] at h; exact h
    · rw [if_pos z] at h
      exact h σ (fun _ _ => rfl)
  · rw [if_neg hp] at h
    have h := h σ (fun _ _ => rfl)
    simp [bs_62, hN _, x_iconst, x_ldc2_w, x_aconst_null, x_iload, x_lload, x_aload, x_istore, x_lstore, x_astore, x_iinc, x_iadd, x_isub, x_imul, x_idiv, x_irem, x_iand, x_ior, x_ixor, x_ishl, x_ishr, x_iushr, x_ineg, x_ladd, x_lsub, x_lmul, x_ldiv, x_lrem, x_lcmp, x_i2l, x_i2b, x_i2s, x_i2c, x_dup, x_pop, x_dup_x1, x_dup2, x_getfield, x_putfield, x_iaload, x_baload, x_saload, x_caload, x_daload, x_faload, x_laload, x_aaload, x_iastore, x_bastore, x_sastore, x_castore, x_lastore, x_aastore, x_arraylength, x_getstatic, x_goto, x_goto_w, x_ifCond, x_if_icmp, x_ifnull, x_ifnonnull, x_lookupswitch, x_invokevirtual, x_invokestatic, x_invokedynamic, x_ireturn, x_freturn, x_dreturn, x_lreturn, x_areturn, x_return_, pI_c, pL_c, pR_c, pV_i, pV_r, gI_c, gL_c, gR_c, pN_z, pN_s, lget_c, lins_z, lins_c, ldel_z, ldel_c, ldel2_z, ldel2_c, lset_i, lset_l, lset_r, lkeep_z, lkeep_c, largs_z, largs_c, cat_i, cat_l, cat_r, lkp_c, cnd_eq, cnd_ne, cnd_lt, cnd_ge, cnd_gt, cnd_le, swL_z, swL_c, rE_e, rOr_s, rOr_n, rlk_z, rlk_c, aR_c, aI_c, aII_c, aIII_c, aRI_c, aRII_c, aRIII_c, vJn, vJs, vlc, aRR_c, aRRI_c, aRRII_c, aRRIII_c, aRIIII_c, aRL_c, aRLL_c, aLL_c, aRRRI_c, aIL_c, aIIII_c, aRRIIII_c, aIRII_c, aIR_c, aLI_c, aRIR_c, aRIIR_c, apPair, apOf, upMeas, hk, hk.1.1]
    grind
abbrev rgB : Reg := [(62, apWinner), (64, apStrikesTo)]
theorem rgB_ok {l : Launch} {g : GE} {d : Nat} : ∀ e as t σ Q, rE l g (d + 5) rgB e as t σ Q → WPc l g e (d + 5) 0 0 as t σ Q := rE_cons (fun _ _ _ _ h => a_winner h) (rE_cons (fun _ _ _ _ h => a_strikesTo (d := d + 1) h) rE_nil)
/-- a sea became V by the rule at r: all else stays -/
def FgtTo (t : Tau) (σ σ' : Mem) (a r : Int) (V : Int → Int) : Prop := (∀ o, (o < a ∨ a + 6 < o) → o ≠ r + 3 → σ' o = σ o) ∧ SeaOk t σ' a ∧ nS σ' a = nS σ a ∧ mS σ' a = mS σ a ∧ vwS σ' a = V
def apBattle : Sp := fun as t σ Q => aRRIII as fun a r k i j => ∃ F, RuleIs t σ r F ∧ a + 6 < r ∧ SeaOk t σ a ∧ (1 ≤ k ∧ k ≤ 6) ∧ ∀ σ', FgtTo t σ σ' a r (fgtV F (nS σ a) k (vwS σ a) i j) → Q (some (vI (winA F (nS σ a) (vwS σ a) i j))) t σ'
theorem a_battle {l : Launch} {g : GE} {d : Nat} {t : Tau} {σ : Mem} {Q : Post} {as : List TV} (h0 : apBattle as t σ Q) : WPc l g 63 (d + 6) 0 0 as t σ Q := by
  obtain ⟨a, r, k, i, j, rfl, F, hR, ha, hk, hk6, h⟩ := aRRIII_e h0
  clear h0
  refine wg (by decide) rgB_ok ts_63 py_63 ml_63 30 (by simp [catT]) (fun N hN => ?_)
  simp [bs_63, hN _, x_iconst, x_ldc2_w, x_aconst_null, x_iload, x_lload, x_aload, x_istore, x_lstore, x_astore, x_iinc, x_iadd, x_isub, x_imul, x_idiv, x_irem, x_iand, x_ior, x_ixor, x_ishl, x_ishr, x_iushr, x_ineg, x_ladd, x_lsub, x_lmul, x_ldiv, x_lrem, x_lcmp, x_i2l, x_i2b, x_i2s, x_i2c, x_dup, x_pop, x_dup_x1, x_dup2, x_getfield, x_putfield, x_iaload, x_baload, x_saload, x_caload, x_daload, x_faload, x_laload, x_aaload, x_iastore, x_bastore, x_sastore, x_castore, x_lastore, x_aastore, x_arraylength, x_getstatic, x_goto, x_goto_w, x_ifCond, x_if_icmp, x_ifnull, x_ifnonnull, x_lookupswitch, x_invokevirtual, x_invokestatic, x_invokedynamic, x_ireturn, x_freturn, x_dreturn, x_lreturn, x_areturn, x_return_, pI_c, pL_c, pR_c, pV_i, pV_r, gI_c, gL_c, gR_c, pN_z, pN_s, lget_c, lins_z, lins_c, ldel_z, ldel_c, ldel2_z, ldel2_c, lset_i, lset_l, lset_r, lkeep_z, lkeep_c, largs_z, largs_c, cat_i, cat_l, cat_r, lkp_c, cnd_eq, cnd_ne, cnd_lt, cnd_ge, cnd_gt, cnd_le, swL_z, swL_c, rE_e, rOr_s, rOr_n, rlk_z, rlk_c, aR_c, aI_c, aII_c, aIII_c, aRI_c, aRII_c, aRIII_c, vJn, vJs, vlc, aRR_c, aRRI_c, aRRII_c, aRRIII_c, aRIIII_c, aRL_c, aRLL_c, aLL_c, aRRRI_c, aIL_c, aIIII_c, aRRIIII_c, aIRII_c, aIR_c, aLI_c, aRIR_c, aRIIR_c, apWinner, hk.1.1]
  refine ⟨F, hR, ha, hk, fun σ1 h1 => ?_⟩
  have hk1 : SeaOk t σ1 a := seaok_cg (fun q h2 h3 => h1 q (by omega)) hk
  obtain ⟨s1, s2, s3⟩ := sea_cg (σ := σ) (σ' := σ1) (a := a) (fun q h2 h3 => h1 q (by omega))
  have hcs := winA_c (F := F) (n := nS σ a) (V := vwS σ a) (i := i) (j := j)
  generalize hw : winA F (nS σ a) (vwS σ a) i j = w at h hcs
  unfold fgtV at h
  rw [hw] at h
  simp [sg_63_0_1, bs_63, hN _, x_iconst, x_ldc2_w, x_aconst_null, x_iload, x_lload, x_aload, x_istore, x_lstore, x_astore, x_iinc, x_iadd, x_isub, x_imul, x_idiv, x_irem, x_iand, x_ior, x_ixor, x_ishl, x_ishr, x_iushr, x_ineg, x_ladd, x_lsub, x_lmul, x_ldiv, x_lrem, x_lcmp, x_i2l, x_i2b, x_i2s, x_i2c, x_dup, x_pop, x_dup_x1, x_dup2, x_getfield, x_putfield, x_iaload, x_baload, x_saload, x_caload, x_daload, x_faload, x_laload, x_aaload, x_iastore, x_bastore, x_sastore, x_castore, x_lastore, x_aastore, x_arraylength, x_getstatic, x_goto, x_goto_w, x_ifCond, x_if_icmp, x_ifnull, x_ifnonnull, x_lookupswitch, x_invokevirtual, x_invokestatic, x_invokedynamic, x_ireturn, x_freturn, x_dreturn, x_lreturn, x_areturn, x_return_, pI_c, pL_c, pR_c, pV_i, pV_r, gI_c, gL_c, gR_c, pN_z, pN_s, lget_c, lins_z, lins_c, ldel_z, ldel_c, ldel2_z, ldel2_c, lset_i, lset_l, lset_r, lkeep_z, lkeep_c, largs_z, largs_c, cat_i, cat_l, cat_r, lkp_c, cnd_eq, cnd_ne, cnd_lt, cnd_ge, cnd_gt, cnd_le, swL_z, swL_c, rE_e, rOr_s, rOr_n, rlk_z, rlk_c, aR_c, aI_c, aII_c, aIII_c, aRI_c, aRII_c, aRIII_c, vJn, vJs, vlc, aRR_c, aRRI_c, aRRII_c, aRRIII_c, aRIIII_c, aRL_c, aRLL_c, aLL_c, aRRRI_c, aIL_c, aIIII_c, aRRIIII_c, aIRII_c, aIR_c, aLI_c, aRIR_c, aRIIR_c, apStrikesTo, hk1, hk1.1.1, s1, s3, hk6]
  have fin : ∀ σ2 W, SeaTo t σ1 σ2 a W → FgtTo t σ σ2 a r W := fun σ2 W ⟨t1, t2, t3, t4, t5⟩ => ⟨fun q hq hr => by rw [t1 q hq]; exact h1 q hr, t2, by rw [t3, s1], by rw [t4, s2], t5⟩
  refine ⟨fun z => ?_, fun z => ?_⟩
  · rw [if_pos z] at h
    exact h σ1 ⟨fun q _ hr => h1 q hr, hk1, s1, s2, s3⟩
  · obtain ⟨⟨hi, hj, hne⟩, h6, hc⟩ := hcs z
    rw [if_neg (by omega)] at h
    refine ⟨fun y => ?_, fun y => ?_⟩
    · rcases hc with hc | hc
      · exact (y hc).elim
      · rw [if_neg y] at h
        subst hc
        refine ⟨hj, hi, fun x => h6 x.symm, fun σ2 h2 => ?_⟩
        simp [sg_63_29_1, hN _, x_iconst, x_ldc2_w, x_aconst_null, x_iload, x_lload, x_aload, x_istore, x_lstore, x_astore, x_iinc, x_iadd, x_isub, x_imul, x_idiv, x_irem, x_iand, x_ior, x_ixor, x_ishl, x_ishr, x_iushr, x_ineg, x_ladd, x_lsub, x_lmul, x_ldiv, x_lrem, x_lcmp, x_i2l, x_i2b, x_i2s, x_i2c, x_dup, x_pop, x_dup_x1, x_dup2, x_getfield, x_putfield, x_iaload, x_baload, x_saload, x_caload, x_daload, x_faload, x_laload, x_aaload, x_iastore, x_bastore, x_sastore, x_castore, x_lastore, x_aastore, x_arraylength, x_getstatic, x_goto, x_goto_w, x_ifCond, x_if_icmp, x_ifnull, x_ifnonnull, x_lookupswitch, x_invokevirtual, x_invokestatic, x_invokedynamic, x_ireturn, x_freturn, x_dreturn, x_lreturn, x_areturn, x_return_, pI_c, pL_c, pR_c, pV_i, pV_r, gI_c, gL_c, gR_c, pN_z, pN_s, lget_c, lins_z, lins_c, ldel_z, ldel_c, ldel2_z, ldel2_c, lset_i, lset_l, lset_r, lkeep_z, lkeep_c, largs_z, largs_c, cat_i, cat_l, cat_r, lkp_c, cnd_eq, cnd_ne, cnd_lt, cnd_ge, cnd_gt, cnd_le, swL_z, swL_c, rE_e, rOr_s, rOr_n, rlk_z, rlk_c, aR_c, aI_c, aII_c, aIII_c, aRI_c, aRII_c, aRIII_c, vJn, vJs, vlc, aRR_c, aRRI_c, aRRII_c, aRRIII_c, aRIIII_c, aRL_c, aRLL_c, aLL_c, aRRRI_c, aIL_c, aIIII_c, aRRIIII_c, aIRII_c, aIR_c, aLI_c, aRIR_c, aRIIR_c]
        exact h σ2 (fin _ _ h2)
    · subst y
      rw [if_pos rfl] at h
      refine ⟨hi, hj, h6, fun σ2 h2 => ?_⟩
      simp [sg_63_30_1, hN _, x_iconst, x_ldc2_w, x_aconst_null, x_iload, x_lload, x_aload, x_istore, x_lstore, x_astore, x_iinc, x_iadd, x_isub, x_imul, x_idiv, x_irem, x_iand, x_ior, x_ixor, x_ishl, x_ishr, x_iushr, x_ineg, x_ladd, x_lsub, x_lmul, x_ldiv, x_lrem, x_lcmp, x_i2l, x_i2b, x_i2s, x_i2c, x_dup, x_pop, x_dup_x1, x_dup2, x_getfield, x_putfield, x_iaload, x_baload, x_saload, x_caload, x_daload, x_faload, x_laload, x_aaload, x_iastore, x_bastore, x_sastore, x_castore, x_lastore, x_aastore, x_arraylength, x_getstatic, x_goto, x_goto_w, x_ifCond, x_if_icmp, x_ifnull, x_ifnonnull, x_lookupswitch, x_invokevirtual, x_invokestatic, x_invokedynamic, x_ireturn, x_freturn, x_dreturn, x_lreturn, x_areturn, x_return_, pI_c, pL_c, pR_c, pV_i, pV_r, gI_c, gL_c, gR_c, pN_z, pN_s, lget_c, lins_z, lins_c, ldel_z, ldel_c, ldel2_z, ldel2_c, lset_i, lset_l, lset_r, lkeep_z, lkeep_c, largs_z, largs_c, cat_i, cat_l, cat_r, lkp_c, cnd_eq, cnd_ne, cnd_lt, cnd_ge, cnd_gt, cnd_le, swL_z, swL_c, rE_e, rOr_s, rOr_n, rlk_z, rlk_c, aR_c, aI_c, aII_c, aIII_c, aRI_c, aRII_c, aRIII_c, vJn, vJs, vlc, aRR_c, aRRI_c, aRRII_c, aRRIII_c, aRIIII_c, aRL_c, aRLL_c, aLL_c, aRRRI_c, aIL_c, aIIII_c, aRRIIII_c, aIRII_c, aIR_c, aLI_c, aRIR_c, aRIIR_c]
      exact h σ2 (fin _ _ h2)
