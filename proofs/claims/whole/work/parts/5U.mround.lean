/-! the reference: a round of a campaign -/
theorem GfF.rf {σ : Mem} {r : Int} : GfF σ σ r (vA σ r) := ⟨⟨fun _ _ _ _ => rfl, fun _ _ _ => rfl⟩, rfl⟩
theorem GfF.tr {σ σ' σ'' : Mem} {r : Int} {V W : Int → Int} (h : GfF σ σ' r V) (h' : GfF σ' σ'' r W) : GfF σ σ'' r W := ⟨⟨fun o a b c => (h'.1.1 o a b c).trans (h.1.1 o a b c), fun j a b => (h'.1.2 j a b).trans (h.1.2 j a b)⟩, h'.2⟩
theorem GfF.row {σ σ' σ'' : Mem} {r : Int} {V W : Int → Int} (h : GfF σ σ' r V) (h' : RowTo σ' σ'' r W) (h5 : r ≠ 175) : GfF σ σ'' r W := ⟨⟨fun o a b c => (h'.1 o c).trans (h.1.1 o a b c), fun j a b => by rw [h'.1 175 (fun z => h5 z.symm)]; exact h.1.2 j a b⟩, h'.2⟩
/-- the rows that fights are tried in -/
def rwO (r : Int) : Prop := r = 176 ∨ r = 185 ∨ r = 186 ∨ r = 190
theorem GfF.n {σ σ' : Mem} {r : Int} {V : Int → Int} (h : GfF σ σ' r V) : nM σ' = nM σ := by unfold nM; rw [h.1.2 1 (by omega) (by omega)]
theorem GfF.m {σ σ' : Mem} {r : Int} {V : Int → Int} (h : GfF σ σ' r V) (hr : rwO r) : mM σ' = mM σ := by unfold mM; rw [h.1.1 177 (by omega) (by omega) (by unfold rwO at hr; omega)]
theorem GfF.md {t : Tau} {σ σ' : Mem} {r : Int} {V : Int → Int} (h : GfF σ σ' r V) (k : MdOk t σ) : MdOk t σ' := ⟨k.1, by rw [h.n, h.1.2 1 (by omega) (by omega)]; exact k.2.1, by rw [h.n]; exact k.2.2⟩
theorem GfF.rs {σ σ' : Mem} {r : Int} {V : Int → Int} (h : GfF σ σ' r V) (hr : rwO r) : RuS σ σ' := ⟨h.1.2 15 (by omega) (by omega), h.1.2 17 (by omega) (by omega), h.1.1 181 (by omega) (by omega) (by unfold rwO at hr; omega), h.1.1 182 (by omega) (by omega) (by unfold rwO at hr; omega)⟩
theorem rwO.t {t : Tau} (hM : TM t) {r : Int} (h : rwO r) : RowT t r := by
  rcases h with rfl | rfl | rfl | rfl
  · exact RowT.now hM
  · exact RowT.asd hM
  · exact RowT.thn hM
  · exact RowT.spt hM
def mpRnd : Sp := fun as t σ Q => aRR as fun a r => a = 175 ∧ rwO r ∧ ∃ F, MR t σ F ∧ MdOk t σ ∧ WFV (nM σ) (mM σ) (vA σ r) ∧ (1 ≤ σ 175 2 ∧ σ 175 2 ≤ 6) ∧ ∀ σ', GfF σ σ' r (roundV F (nM σ) (σ 175 2) (vA σ r)) → Q none t σ'
set_option maxHeartbeats 1000000 in
theorem m_goRound {l : Launch} {g : GE} {d : Nat} {t : Tau} {σ : Mem} {Q : Post} {as : List TV} (h0 : mpRnd as t σ Q) : WPc l g 245 (d + 93) 0 0 as t σ Q := by
  obtain ⟨a, r, rfl, rfl, hr, F, hR, hM, hW, hT, h⟩ := aRR_e h0
  clear h0
  have n6 := hM.2.2
  have z0 := hM.2.1
  have hr1 : r ≠ 175 ∧ r ≠ 183 := by unfold rwO at hr; omega
  have hrt := hr.t hM.1
  unfold roundV at h
  generalize hV : vA σ r = V at h hW
  have O : ∀ (q i : Nat) (σ' : Mem), i + q = nM σ → GfF σ σ' r V → (∀ σ', GfF σ σ' r (roundI F (nM σ) (σ 175 2) V q i) → Q none t σ') → Wp l g 245 (d + 93) 0 0 2 [(0, vR 175), (1, vR r), (2, vI i)] [] t σ' Q := by
    intro q
    induction q with
    | zero =>
      intro i σ' hi G hQ
      have z1 : σ' 175 1 = nM σ := by rw [G.1.2 1 (by omega) (by omega), z0]
      have hi' : i = nM σ := by omega
      subst hi'
      refine wa (by decide) rgMw_ok tk_245 30 (fun N hN => ?_)
      simp [bl_245, hN _, x_iconst, x_ldc2_w, x_aconst_null, x_iload, x_lload, x_aload, x_istore, x_lstore, x_astore, x_iinc, x_iadd, x_isub, x_imul, x_idiv, x_irem, x_iand, x_ior, x_ixor, x_ishl, x_ishr, x_iushr, x_ineg, x_ladd, x_lsub, x_lmul, x_ldiv, x_lrem, x_lcmp, x_i2l, x_i2b, x_i2s, x_i2c, x_dup, x_pop, x_dup_x1, x_dup2, x_getfield, x_putfield, x_iaload, x_baload, x_saload, x_caload, x_daload, x_faload, x_laload, x_aaload, x_iastore, x_bastore, x_sastore, x_castore, x_lastore, x_aastore, x_arraylength, x_getstatic, x_goto, x_goto_w, x_ifCond, x_if_icmp, x_ifnull, x_ifnonnull, x_lookupswitch, x_invokevirtual, x_invokestatic, x_invokedynamic, x_ireturn, x_freturn, x_dreturn, x_lreturn, x_areturn, x_return_, pI_c, pL_c, pR_c, pV_i, pV_r, gI_c, gL_c, gR_c, pN_z, pN_s, lget_c, lins_z, lins_c, ldel_z, ldel_c, ldel2_z, ldel2_c, lset_i, lset_l, lset_r, lkeep_z, lkeep_c, largs_z, largs_c, cat_i, cat_l, cat_r, lkp_c, cnd_eq, cnd_ne, cnd_lt, cnd_ge, cnd_gt, cnd_le, swL_z, swL_c, rE_e, rOr_s, rOr_n, rlk_z, rlk_c, aR_c, aI_c, aII_c, aIII_c, aRI_c, aRII_c, aRIII_c, vJn, vJs, vlc, aRR_c, aRRI_c, aRRII_c, aRRIII_c, aRIIII_c, aRL_c, aRLL_c, aLL_c, aRRRI_c, aIL_c, aIIII_c, aRRIIII_c, aIRII_c, aIR_c, aLI_c, aRIR_c, aRIIR_c, hM.1.o, z1]
      exact hQ σ' G
    | succ q ih =>
      intro i σ' hi G hQ
      have I : ∀ (p j : Nat) (σ' : Mem), j + p = nM σ → i < j → GfF σ σ' r V → (∀ σ', GfF σ σ' r (roundJ F (nM σ) (σ 175 2) V i (roundI F (nM σ) (σ 175 2) V q (i + 1)) p j) → Q none t σ') → Wp l g 245 (d + 93) 0 0 14 [(0, vR 175), (1, vR r), (2, vI i), (3, vI j)] [] t σ' Q := by
        intro p
        induction p with
        | zero =>
          intro j σ' hj hij G hQ
          have z1 : σ' 175 1 = nM σ := by rw [G.1.2 1 (by omega) (by omega), z0]
          have K := ih (i + 1) σ' (by omega) G hQ
          have hj' : j = nM σ := by omega
          subst hj'
          have e2 := w32_succ (k := i) (by omega)
          refine wa (by decide) rgMw_ok tk_245 30 (fun N hN => ?_)
          simp [bl_245, hN _, x_iconst, x_ldc2_w, x_aconst_null, x_iload, x_lload, x_aload, x_istore, x_lstore, x_astore, x_iinc, x_iadd, x_isub, x_imul, x_idiv, x_irem, x_iand, x_ior, x_ixor, x_ishl, x_ishr, x_iushr, x_ineg, x_ladd, x_lsub, x_lmul, x_ldiv, x_lrem, x_lcmp, x_i2l, x_i2b, x_i2s, x_i2c, x_dup, x_pop, x_dup_x1, x_dup2, x_getfield, x_putfield, x_iaload, x_baload, x_saload, x_caload, x_daload, x_faload, x_laload, x_aaload, x_iastore, x_bastore, x_sastore, x_castore, x_lastore, x_aastore, x_arraylength, x_getstatic, x_goto, x_goto_w, x_ifCond, x_if_icmp, x_ifnull, x_ifnonnull, x_lookupswitch, x_invokevirtual, x_invokestatic, x_invokedynamic, x_ireturn, x_freturn, x_dreturn, x_lreturn, x_areturn, x_return_, pI_c, pL_c, pR_c, pV_i, pV_r, gI_c, gL_c, gR_c, pN_z, pN_s, lget_c, lins_z, lins_c, ldel_z, ldel_c, ldel2_z, ldel2_c, lset_i, lset_l, lset_r, lkeep_z, lkeep_c, largs_z, largs_c, cat_i, cat_l, cat_r, lkp_c, cnd_eq, cnd_ne, cnd_lt, cnd_ge, cnd_gt, cnd_le, swL_z, swL_c, rE_e, rOr_s, rOr_n, rlk_z, rlk_c, aR_c, aI_c, aII_c, aIII_c, aRI_c, aRII_c, aRIII_c, vJn, vJs, vlc, aRR_c, aRRI_c, aRRII_c, aRRIII_c, aRIIII_c, aRL_c, aRLL_c, aLL_c, aRRRI_c, aIL_c, aIIII_c, aRRIIII_c, aIRII_c, aIR_c, aLI_c, aRIR_c, aRIIR_c, hM.1.o, z1, e2]
          exact K
        | succ p ihp =>
          intro j σ' hj hij G hQ
          have jN : j < nM σ := by omega
          have e2 := w32_succ (k := j) (by omega); have i1 : ((j : Nat) : Int) < (nM σ : Nat) := (by omega); have i1n : j < nM σ := (by omega); have i1x : ¬ nM σ ≤ j := (by omega)
          have z1 : σ' 175 1 = nM σ := by rw [G.1.2 1 (by omega) (by omega), z0]
          have er : roundJ F (nM σ) (σ 175 2) V i (roundI F (nM σ) (σ 175 2) V q (i + 1)) (p + 1) j = if winA F (nM σ) V i j < 0 then roundJ F (nM σ) (σ 175 2) V i (roundI F (nM σ) (σ 175 2) V q (i + 1)) p (j + 1) else fgtV F (nM σ) (σ 175 2) V i j := rfl
          rw [er] at hQ
          have e4 : σ' 175 2 = σ 175 2 := G.1.2 2 (by omega) (by omega)
          have hA : ARow t σ' r := ⟨hrt, by rw [G.n, G.m hr, G.2]; exact hW⟩
          have hp : prB (nM σ) i j := ⟨⟨by omega, by omega⟩, ⟨by omega, by omega⟩, by omega⟩
          refine wa (by decide) rgMw_ok ts_245 30 (fun N hN => ?_)
          simp [bs_245, hN _, x_iconst, x_ldc2_w, x_aconst_null, x_iload, x_lload, x_aload, x_istore, x_lstore, x_astore, x_iinc, x_iadd, x_isub, x_imul, x_idiv, x_irem, x_iand, x_ior, x_ixor, x_ishl, x_ishr, x_iushr, x_ineg, x_ladd, x_lsub, x_lmul, x_ldiv, x_lrem, x_lcmp, x_i2l, x_i2b, x_i2s, x_i2c, x_dup, x_pop, x_dup_x1, x_dup2, x_getfield, x_putfield, x_iaload, x_baload, x_saload, x_caload, x_daload, x_faload, x_laload, x_aaload, x_iastore, x_bastore, x_sastore, x_castore, x_lastore, x_aastore, x_arraylength, x_getstatic, x_goto, x_goto_w, x_ifCond, x_if_icmp, x_ifnull, x_ifnonnull, x_lookupswitch, x_invokevirtual, x_invokestatic, x_invokedynamic, x_ireturn, x_freturn, x_dreturn, x_lreturn, x_areturn, x_return_, pI_c, pL_c, pR_c, pV_i, pV_r, gI_c, gL_c, gR_c, pN_z, pN_s, lget_c, lins_z, lins_c, ldel_z, ldel_c, ldel2_z, ldel2_c, lset_i, lset_l, lset_r, lkeep_z, lkeep_c, largs_z, largs_c, cat_i, cat_l, cat_r, lkp_c, cnd_eq, cnd_ne, cnd_lt, cnd_ge, cnd_gt, cnd_le, swL_z, swL_c, rE_e, rOr_s, rOr_n, rlk_z, rlk_c, aR_c, aI_c, aII_c, aIII_c, aRI_c, aRII_c, aRIII_c, vJn, vJs, vlc, aRR_c, aRRI_c, aRRII_c, aRRIII_c, aRIIII_c, aRL_c, aRLL_c, aLL_c, aRRRI_c, aIL_c, aIIII_c, aRRIIII_c, aIRII_c, aIR_c, aLI_c, aRIR_c, aRIIR_c, hM.1.o, z1, e2, i1, i1n, i1x, mpGoF, G.md hM, hA, hr1, G.n, G.2, e4, hT]
          refine ⟨F, hR.cg (G.rs hr), hp, fun σ2 G2 => ?_⟩
          have G3 := G.tr G2
          simp [bs_245, sg_245_14_1, hN _, x_iconst, x_ldc2_w, x_aconst_null, x_iload, x_lload, x_aload, x_istore, x_lstore, x_astore, x_iinc, x_iadd, x_isub, x_imul, x_idiv, x_irem, x_iand, x_ior, x_ixor, x_ishl, x_ishr, x_iushr, x_ineg, x_ladd, x_lsub, x_lmul, x_ldiv, x_lrem, x_lcmp, x_i2l, x_i2b, x_i2s, x_i2c, x_dup, x_pop, x_dup_x1, x_dup2, x_getfield, x_putfield, x_iaload, x_baload, x_saload, x_caload, x_daload, x_faload, x_laload, x_aaload, x_iastore, x_bastore, x_sastore, x_castore, x_lastore, x_aastore, x_arraylength, x_getstatic, x_goto, x_goto_w, x_ifCond, x_if_icmp, x_ifnull, x_ifnonnull, x_lookupswitch, x_invokevirtual, x_invokestatic, x_invokedynamic, x_ireturn, x_freturn, x_dreturn, x_lreturn, x_areturn, x_return_, pI_c, pL_c, pR_c, pV_i, pV_r, gI_c, gL_c, gR_c, pN_z, pN_s, lget_c, lins_z, lins_c, ldel_z, ldel_c, ldel2_z, ldel2_c, lset_i, lset_l, lset_r, lkeep_z, lkeep_c, largs_z, largs_c, cat_i, cat_l, cat_r, lkp_c, cnd_eq, cnd_ne, cnd_lt, cnd_ge, cnd_gt, cnd_le, swL_z, swL_c, rE_e, rOr_s, rOr_n, rlk_z, rlk_c, aR_c, aI_c, aII_c, aIII_c, aRI_c, aRII_c, aRIII_c, vJn, vJs, vlc, aRR_c, aRRI_c, aRRII_c, aRRIII_c, aRIIII_c, aRL_c, aRLL_c, aLL_c, aRRRI_c, aIL_c, aIIII_c, aRRIIII_c, aIRII_c, aIR_c, aLI_c, aRIR_c, aRIIR_c, e2]
          refine ⟨fun z => ?_, fun z => ?_⟩
          · rw [if_pos z] at hQ
            rw [fgt_no z] at G3
            exact ihp (j + 1) σ2 (by omega) (by omega) G3 hQ
          · rw [if_neg (by omega)] at hQ
            exact hQ σ2 G3
      have z1 : σ' 175 1 = nM σ := by rw [G.1.2 1 (by omega) (by omega), z0]
      have K := I q (i + 1) σ' (by omega) (by omega) G hQ
      have iN : i < nM σ := by omega
      have e2 := w32_succ (k := i) (by omega); have i1 : ((i : Nat) : Int) < (nM σ : Nat) := (by omega); have i1n : i < nM σ := (by omega); have i1x : ¬ nM σ ≤ i := (by omega)
      refine wa (by decide) rgMw_ok tk_245 30 (fun N hN => ?_)
      simp [bl_245, hN _, x_iconst, x_ldc2_w, x_aconst_null, x_iload, x_lload, x_aload, x_istore, x_lstore, x_astore, x_iinc, x_iadd, x_isub, x_imul, x_idiv, x_irem, x_iand, x_ior, x_ixor, x_ishl, x_ishr, x_iushr, x_ineg, x_ladd, x_lsub, x_lmul, x_ldiv, x_lrem, x_lcmp, x_i2l, x_i2b, x_i2s, x_i2c, x_dup, x_pop, x_dup_x1, x_dup2, x_getfield, x_putfield, x_iaload, x_baload, x_saload, x_caload, x_daload, x_faload, x_laload, x_aaload, x_iastore, x_bastore, x_sastore, x_castore, x_lastore, x_aastore, x_arraylength, x_getstatic, x_goto, x_goto_w, x_ifCond, x_if_icmp, x_ifnull, x_ifnonnull, x_lookupswitch, x_invokevirtual, x_invokestatic, x_invokedynamic, x_ireturn, x_freturn, x_dreturn, x_lreturn, x_areturn, x_return_, pI_c, pL_c, pR_c, pV_i, pV_r, gI_c, gL_c, gR_c, pN_z, pN_s, lget_c, lins_z, lins_c, ldel_z, ldel_c, ldel2_z, ldel2_c, lset_i, lset_l, lset_r, lkeep_z, lkeep_c, largs_z, largs_c, cat_i, cat_l, cat_r, lkp_c, cnd_eq, cnd_ne, cnd_lt, cnd_ge, cnd_gt, cnd_le, swL_z, swL_c, rE_e, rOr_s, rOr_n, rlk_z, rlk_c, aR_c, aI_c, aII_c, aIII_c, aRI_c, aRII_c, aRIII_c, vJn, vJs, vlc, aRR_c, aRRI_c, aRRII_c, aRRIII_c, aRIIII_c, aRL_c, aRLL_c, aLL_c, aRRRI_c, aIL_c, aIIII_c, aRRIIII_c, aIRII_c, aIR_c, aLI_c, aRIR_c, aRIIR_c, hM.1.o, z1, e2, i1, i1n, i1x]
      exact K
  have K := O (nM σ) 0 σ (by omega) (by rw [← hV]; exact GfF.rf) h
  refine wg (by decide) rgMw_ok tk_245 py_245 ml_245 30 (by simp [catT]) (fun N hN => ?_)
  simp [bl_245, hN _, x_iconst, x_ldc2_w, x_aconst_null, x_iload, x_lload, x_aload, x_istore, x_lstore, x_astore, x_iinc, x_iadd, x_isub, x_imul, x_idiv, x_irem, x_iand, x_ior, x_ixor, x_ishl, x_ishr, x_iushr, x_ineg, x_ladd, x_lsub, x_lmul, x_ldiv, x_lrem, x_lcmp, x_i2l, x_i2b, x_i2s, x_i2c, x_dup, x_pop, x_dup_x1, x_dup2, x_getfield, x_putfield, x_iaload, x_baload, x_saload, x_caload, x_daload, x_faload, x_laload, x_aaload, x_iastore, x_bastore, x_sastore, x_castore, x_lastore, x_aastore, x_arraylength, x_getstatic, x_goto, x_goto_w, x_ifCond, x_if_icmp, x_ifnull, x_ifnonnull, x_lookupswitch, x_invokevirtual, x_invokestatic, x_invokedynamic, x_ireturn, x_freturn, x_dreturn, x_lreturn, x_areturn, x_return_, pI_c, pL_c, pR_c, pV_i, pV_r, gI_c, gL_c, gR_c, pN_z, pN_s, lget_c, lins_z, lins_c, ldel_z, ldel_c, ldel2_z, ldel2_c, lset_i, lset_l, lset_r, lkeep_z, lkeep_c, largs_z, largs_c, cat_i, cat_l, cat_r, lkp_c, cnd_eq, cnd_ne, cnd_lt, cnd_ge, cnd_gt, cnd_le, swL_z, swL_c, rE_e, rOr_s, rOr_n, rlk_z, rlk_c, aR_c, aI_c, aII_c, aIII_c, aRI_c, aRII_c, aRIII_c, vJn, vJs, vlc, aRR_c, aRRI_c, aRRII_c, aRRIII_c, aRIIII_c, aRL_c, aRLL_c, aLL_c, aRRRI_c, aIL_c, aIIII_c, aRRIIII_c, aIRII_c, aIR_c, aLI_c, aRIR_c, aRIIR_c]
  exact K
