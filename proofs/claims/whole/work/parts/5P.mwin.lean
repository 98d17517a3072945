/-! the reference: what its RULE of force is; who wins -/
def FoF (σ σ' : Mem) : Prop := (∀ o, o ≠ 175 → o ≠ 183 → σ' o = σ o) ∧ ∀ j, ¬ (9 ≤ j ∧ j ≤ 13) → j ≠ 18 → σ' 175 j = σ 175 j
theorem FoF.rf {σ : Mem} : FoF σ σ := ⟨fun _ _ _ => rfl, fun _ _ _ => rfl⟩
theorem FoF.tr {σ σ' σ'' : Mem} (h : FoF σ σ') (h' : FoF σ' σ'') : FoF σ σ'' := ⟨fun o a b => (h'.1 o a b).trans (h.1 o a b), fun j a b => (h'.2 j a b).trans (h.2 j a b)⟩
theorem FoF.q {σ σ' : Mem} (h : FoF σ σ') : QFM σ σ' := ⟨fun o a b => h.1 o a (fun z => b (by rw [z]; unfold scrM; omega)), fun j a => h.2 j (fun z => a (by unfold scrF; omega)) (fun z => a (by unfold scrF; omega))⟩
theorem FoF.v {σ σ' : Mem} (h : FoF σ σ') {r : Int} (h1 : r ≠ 175) (h2 : r ≠ 183) : vA σ' r = vA σ r := by unfold vA; rw [h.1 r h1 h2]
/-- F is what the RULE tells: so much of the memory decides it -/
def RuS (σ σ' : Mem) : Prop := σ' 175 15 = σ 175 15 ∧ σ' 175 17 = σ 175 17 ∧ σ' 181 = σ 181 ∧ σ' 182 = σ 182
def MR (t : Tau) (σ : Mem) (F : (Int → Int) → Int) : Prop := ∀ (l : Launch) (g : GE) (d : Nat) (σ' : Mem) (Q : Post) (r i j : Int), RuS σ σ' → MdOk t σ' → ARow t σ' r → (r ≠ 175 ∧ r ≠ 183) → (0 ≤ i ∧ i < nM σ') → (0 ≤ j ∧ j < nM σ') → (∀ σ'', FoF σ' σ'' → Q (some (vI (F (envV (vA σ' r) i j)))) t σ'') → WPc l g 197 (d + 90) 0 0 [vR 175, vR r, vI i, vI j] t σ' Q
theorem RuS.rf {σ : Mem} : RuS σ σ := ⟨rfl, rfl, rfl, rfl⟩
theorem RuS.tr {σ σ' σ'' : Mem} (h : RuS σ σ') (h' : RuS σ' σ'') : RuS σ σ'' := ⟨h'.1.trans h.1, h'.2.1.trans h.2.1, h'.2.2.1.trans h.2.2.1, h'.2.2.2.trans h.2.2.2⟩
theorem MR.cg {t : Tau} {σ σ' : Mem} {F : (Int → Int) → Int} (h : MR t σ F) (hs : RuS σ σ') : MR t σ' F := fun l g d σ'' Q r i j h1 => h l g d σ'' Q r i j (hs.tr h1)
theorem QFM.rs {σ σ' : Mem} (h : QFM σ σ') : RuS σ σ' := ⟨h.2 15 (by unfold scrF; omega), h.2 17 (by unfold scrF; omega), h.1 181 (by omega) (by unfold scrM; omega), h.1 182 (by omega) (by unfold scrM; omega)⟩
theorem RowTo.rs {σ σ' : Mem} {r : Int} {V : Int → Int} (h : RowTo σ σ' r V) (h1 : r ≠ 175) (h2 : r ≠ 181) (h3 : r ≠ 182) : RuS σ σ' := by
  have e := h.1 175 (fun z => h1 z.symm)
  exact ⟨by rw [e], by rw [e], h.1 181 (fun z => h2 z.symm), h.1 182 (fun z => h3 z.symm)⟩
def mpFo : Sp := fun as t σ Q => aRRII as fun a r i j => a = 175 ∧ ∃ F, MR t σ F ∧ MdOk t σ ∧ ARow t σ r ∧ (r ≠ 175 ∧ r ≠ 183) ∧ (0 ≤ i ∧ i < nM σ) ∧ (0 ≤ j ∧ j < nM σ) ∧ ∀ σ', FoF σ σ' → Q (some (vI (F (envV (vA σ r) i j)))) t σ'
theorem m_forceOf {l : Launch} {g : GE} {d : Nat} {t : Tau} {σ : Mem} {Q : Post} {as : List TV} (h0 : mpFo as t σ Q) : WPc l g 197 (d + 90) 0 0 as t σ Q := by
  obtain ⟨a, r, i, j, rfl, rfl, F, hR, hM, hA, hr, hi, hj, h⟩ := aRRII_e h0
  exact hR l g d σ Q r i j RuS.rf hM hA hr hi hj h
abbrev rgFo : Reg := (197, mpFo) :: rgM3
theorem rgFo_ok {l : Launch} {g : GE} {d : Nat} : ∀ e as t σ Q, rE l g (d + 90) rgFo e as t σ Q → WPc l g e (d + 90) 0 0 as t σ Q := rE_cons (fun _ _ _ _ h => m_forceOf h) (rgM3_ok (d := d + 87))
def mpWin : Sp := fun as t σ Q => aRRII as fun a r i j => a = 175 ∧ ∃ F, MR t σ F ∧ MdOk t σ ∧ ARow t σ r ∧ (r ≠ 175 ∧ r ≠ 183) ∧ (0 ≤ i ∧ i < nM σ) ∧ (0 ≤ j ∧ j < nM σ) ∧ ∀ σ', FoF σ σ' → Q (some (vI (winV F (vA σ r) i j))) t σ'
theorem m_winnerOf {l : Launch} {g : GE} {d : Nat} {t : Tau} {σ : Mem} {Q : Post} {as : List TV} (h0 : mpWin as t σ Q) : WPc l g 206 (d + 91) 0 0 as t σ Q := by
  obtain ⟨a, r, i, j, rfl, rfl, F, hR, hM, hA, ⟨r1, r2⟩, ⟨i0, si⟩, ⟨j0, sj⟩, h⟩ := aRRII_e h0
  clear h0
  have n6 := hM.2.2
  have e1 : w32 (6 + i) = 6 + i := w32_id (by omega) (by omega)
  have e2 : w32 (6 + j) = 6 + j := w32_id (by omega) (by omega)
  have a1 : 0 ≤ 6 + i ∧ 6 + i < 50 := by omega
  have a2 : 0 ≤ 6 + j ∧ 6 + j < 50 := by omega
  have x1 : σ r (6 + i) = vA σ r (6 + i) := vA_at a1.1 a1.2
  have x2 : σ r (6 + j) = vA σ r (6 + j) := vA_at a2.1 a2.2
  unfold winV at h
  refine wg (by decide) rgFo_ok ts_206 py_206 ml_206 30 (by simp [catT]) (fun N hN => ?_)
  simp [bs_206, hN _, x_iconst, x_ldc2_w, x_aconst_null, x_iload, x_lload, x_aload, x_istore, x_lstore, x_astore, x_iinc, x_iadd, x_isub, x_imul, x_idiv, x_irem, x_iand, x_ior, x_ixor, x_ishl, x_ishr, x_iushr, x_ineg, x_ladd, x_lsub, x_lmul, x_ldiv, x_lrem, x_lcmp, x_i2l, x_i2b, x_i2s, x_i2c, x_dup, x_pop, x_dup_x1, x_dup2, x_getfield, x_putfield, x_iaload, x_baload, x_saload, x_caload, x_daload, x_faload, x_laload, x_aaload, x_iastore, x_bastore, x_sastore, x_castore, x_lastore, x_aastore, x_arraylength, x_getstatic, x_goto, x_goto_w, x_ifCond, x_if_icmp, x_ifnull, x_ifnonnull, x_lookupswitch, x_invokevirtual, x_invokestatic, x_invokedynamic, x_ireturn, x_freturn, x_dreturn, x_lreturn, x_areturn, x_return_, pI_c, pL_c, pR_c, pV_i, pV_r, gI_c, gL_c, gR_c, pN_z, pN_s, lget_c, lins_z, lins_c, ldel_z, ldel_c, ldel2_z, ldel2_c, lset_i, lset_l, lset_r, lkeep_z, lkeep_c, largs_z, largs_c, cat_i, cat_l, cat_r, lkp_c, cnd_eq, cnd_ne, cnd_lt, cnd_ge, cnd_gt, cnd_le, swL_z, swL_c, rE_e, rOr_s, rOr_n, rlk_z, rlk_c, aR_c, aI_c, aII_c, aIII_c, aRI_c, aRII_c, aRIII_c, vJn, vJs, vlc, aRR_c, aRRI_c, aRRII_c, aRRIII_c, aRIIII_c, aRL_c, aRLL_c, aLL_c, aRRRI_c, aIL_c, aIIII_c, aRRIIII_c, aIRII_c, aIR_c, aLI_c, aRIR_c, aRIIR_c, hM.1.o, hA.1.1, hA.1.2, e1, e2, a1, a2, x1, x2, mpFo, hM, hA, r1, r2, i0, si, j0, sj]
  refine ⟨fun z => ⟨F, hR, fun σ1 f1 => ?_⟩, fun z => ?_⟩
  · rw [if_neg z] at h
    have hM1 := f1.q.md hM
    have hA1 : ARow t σ1 r := ⟨hA.1, by rw [f1.q.n, f1.q.m, f1.v r1 r2]; exact hA.2⟩
    simp [sg_206_18_1, hN _, x_iconst, x_ldc2_w, x_aconst_null, x_iload, x_lload, x_aload, x_istore, x_lstore, x_astore, x_iinc, x_iadd, x_isub, x_imul, x_idiv, x_irem, x_iand, x_ior, x_ixor, x_ishl, x_ishr, x_iushr, x_ineg, x_ladd, x_lsub, x_lmul, x_ldiv, x_lrem, x_lcmp, x_i2l, x_i2b, x_i2s, x_i2c, x_dup, x_pop, x_dup_x1, x_dup2, x_getfield, x_putfield, x_iaload, x_baload, x_saload, x_caload, x_daload, x_faload, x_laload, x_aaload, x_iastore, x_bastore, x_sastore, x_castore, x_lastore, x_aastore, x_arraylength, x_getstatic, x_goto, x_goto_w, x_ifCond, x_if_icmp, x_ifnull, x_ifnonnull, x_lookupswitch, x_invokevirtual, x_invokestatic, x_invokedynamic, x_ireturn, x_freturn, x_dreturn, x_lreturn, x_areturn, x_return_, pI_c, pL_c, pR_c, pV_i, pV_r, gI_c, gL_c, gR_c, pN_z, pN_s, lget_c, lins_z, lins_c, ldel_z, ldel_c, ldel2_z, ldel2_c, lset_i, lset_l, lset_r, lkeep_z, lkeep_c, largs_z, largs_c, cat_i, cat_l, cat_r, lkp_c, cnd_eq, cnd_ne, cnd_lt, cnd_ge, cnd_gt, cnd_le, swL_z, swL_c, rE_e, rOr_s, rOr_n, rlk_z, rlk_c, aR_c, aI_c, aII_c, aIII_c, aRI_c, aRII_c, aRIII_c, vJn, vJs, vlc, aRR_c, aRRI_c, aRRII_c, aRRIII_c, aRIIII_c, aRL_c, aRLL_c, aLL_c, aRRRI_c, aIL_c, aIIII_c, aRRIIII_c, aIRII_c, aIR_c, aLI_c, aRIR_c, aRIIR_c, hM.1.o, mpFo, hM1, hA1, r1, r2, f1.q.n, f1.v r1 r2, i0, si, j0, sj]
    refine ⟨F, hR.cg f1.q.rs, fun σ2 f2 => ?_⟩
    have h := h σ2 (f1.tr f2)
    generalize F (envV (vA σ r) i j) = x at h
    generalize F (envV (vA σ r) j i) = y at h
    simp [sg_206_18_2, bs_206, hN _, x_iconst, x_ldc2_w, x_aconst_null, x_iload, x_lload, x_aload, x_istore, x_lstore, x_astore, x_iinc, x_iadd, x_isub, x_imul, x_idiv, x_irem, x_iand, x_ior, x_ixor, x_ishl, x_ishr, x_iushr, x_ineg, x_ladd, x_lsub, x_lmul, x_ldiv, x_lrem, x_lcmp, x_i2l, x_i2b, x_i2s, x_i2c, x_dup, x_pop, x_dup_x1, x_dup2, x_getfield, x_putfield, x_iaload, x_baload, x_saload, x_caload, x_daload, x_faload, x_laload, x_aaload, x_iastore, x_bastore, x_sastore, x_castore, x_lastore, x_aastore, x_arraylength, x_getstatic, x_goto, x_goto_w, x_ifCond, x_if_icmp, x_ifnull, x_ifnonnull, x_lookupswitch, x_invokevirtual, x_invokestatic, x_invokedynamic, x_ireturn, x_freturn, x_dreturn, x_lreturn, x_areturn, x_return_, pI_c, pL_c, pR_c, pV_i, pV_r, gI_c, gL_c, gR_c, pN_z, pN_s, lget_c, lins_z, lins_c, ldel_z, ldel_c, ldel2_z, ldel2_c, lset_i, lset_l, lset_r, lkeep_z, lkeep_c, largs_z, largs_c, cat_i, cat_l, cat_r, lkp_c, cnd_eq, cnd_ne, cnd_lt, cnd_ge, cnd_gt, cnd_le, swL_z, swL_c, rE_e, rOr_s, rOr_n, rlk_z, rlk_c, aR_c, aI_c, aII_c, aIII_c, aRI_c, aRII_c, aRIII_c, vJn, vJs, vlc, aRR_c, aRRI_c, aRRII_c, aRRIII_c, aRIIII_c, aRL_c, aRLL_c, aLL_c, aRRRI_c, aIL_c, aIIII_c, aRRIIII_c, aIRII_c, aIR_c, aLI_c, aRIR_c, aRIIR_c, spCompare]
    rcases (show x < y ∨ x = y ∨ y < x by omega) with c | c | c
    · have c1 : ¬ x = y := by omega
      have c2 : ¬ y < x := by omega
      simp [c, c1, c2] at h ⊢
      exact h
    · subst c
      simp at h ⊢
      exact h
    · have c1 : ¬ x = y := by omega
      have c2 : ¬ x < y := by omega
      simp [c, c1, c2] at h ⊢
      exact h
  · rw [if_pos z] at h
    exact h σ FoF.rf
