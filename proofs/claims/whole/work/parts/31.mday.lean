/-! the reference: mend, days, sewing, yielding -/
theorem RowT.ne {t : Tau} {r : Int} (hr : RowT t r) (hM : TM t) : r ≠ 175 ∧ r ≠ 177 := by
  obtain ⟨⟨r0, r1⟩, r2⟩ := hr
  constructor
  · rintro rfl
    obtain ⟨-, fin, h⟩ := hM.o
    rw [r1] at h
    cases h
  · rintro rfl
    rw [hM.l177] at r2
    omega
theorem RowTo.n {σ σ' : Mem} {r : Int} {V : Int → Int} (h : RowTo σ σ' r V) (h5 : r ≠ 175) : nM σ' = nM σ := by unfold nM; rw [h.1 175 (fun z => h5 z.symm)]
theorem RowTo.m {σ σ' : Mem} {r : Int} {V : Int → Int} (h : RowTo σ σ' r V) (h5 : r ≠ 177) : mM σ' = mM σ := by unfold mM; rw [h.1 177 (fun z => h5 z.symm)]
theorem RowTo.md {t : Tau} {σ σ' : Mem} {r : Int} {V : Int → Int} (h : RowTo σ σ' r V) (h5 : r ≠ 175) (k : MdOk t σ) : MdOk t σ' := by
  refine ⟨k.1, ?_, ?_⟩
  · rw [h.n h5, h.1 175 (fun z => h5 z.symm)]; exact k.2.1
  · rw [h.n h5]; exact k.2.2
/-- a row that is as it must be -/
def ARow (t : Tau) (σ : Mem) (r : Int) : Prop := RowT t r ∧ WFV (nM σ) (mM σ) (vA σ r)
theorem mM_in {σ : Mem} {i : Int} (h0 : 0 ≤ i) (h1 : i < 6) : σ 177 i = mM σ i := by unfold mM; rw [if_pos ⟨h0, h1⟩]
theorem sewP_up {W : Int → Int} {i f u k : Int} (h0 : 0 ≤ i) (h1 : i < 6) (f0 : 0 ≤ f) (f1 : f < 4) (u0 : 0 ≤ u) (u1 : u < 4) : clp (upv (upv W (12 + 4 * i + f) (W (12 + 4 * i + f) - k)) (12 + 4 * i + u) (upv W (12 + 4 * i + f) (W (12 + 4 * i + f) - k) (12 + 4 * i + u) + k)) = sewP (clp W) i f u k := by
  rw [clp_up (by omega) (by omega), clp_up (by omega) (by omega)]
  unfold sewP partV
  rw [clp_in (W := W) (j := 12 + 4 * i + f) (by omega) (by omega), ← clp_up (by omega) (by omega), clp_in (j := 12 + 4 * i + u) (by omega) (by omega)]
def mpMend : Sp := fun as t σ Q => aRRI as fun _ r i => RowT t r ∧ (0 ≤ i ∧ i < 6) ∧ ShOK (vA σ r) i ∧ ∀ σ', RowTo σ σ' r (mendV (vA σ r) i) → Q none t σ'
theorem m_mend {l : Launch} {g : GE} {d : Nat} {t : Tau} {σ : Mem} {Q : Post} {as : List TV} (h : mpMend as t σ Q) : WPc l g 209 (d + 2) 0 0 as t σ Q := by
  obtain ⟨a, r, i, rfl, hr, ⟨i0, i6⟩, ⟨⟨s0, s4⟩, hp, -⟩, h⟩ := aRRI_e h
  have e1 : w32 (6 + i) = 6 + i := w32_id (by omega) (by omega)
  have e3 : (0 : Int) ≤ 6 + i := by omega
  have e4 : 6 + i < 50 := by omega
  have e5 : σ r (6 + i) = vA σ r (6 + i) := vA_at (by omega) (by omega)
  have hb := fewS_b (vA σ r) i
  have lp : ∀ (q k : Nat), k + q = 4 → Wp l g 209 (d + 2) 0 0 5 [(1, vR r), (2, vI i), (3, vI (fewS (vA σ r) i k)), (4, vI k)] [] t σ Q := by
    intro q
    induction q with
    | zero =>
      intro k hk
      obtain rfl : k = 4 := by omega
      have h4 := hb 4
      unfold mendV at h
      have e8 : w32 (12 + w32 (4 * i)) = 12 + 4 * i := by rw [w32_id (x := 4 * i) (by omega) (by omega), w32_id (by omega) (by omega)]
      refine wa (by decide) rgM1_ok tk_209 30 (fun N hN => ?_)
      simp [bl_209, hN _, x_iconst, x_ldc2_w, x_aconst_null, x_iload, x_lload, x_aload, x_istore, x_lstore, x_astore, x_iinc, x_iadd, x_isub, x_imul, x_idiv, x_irem, x_iand, x_ior, x_ixor, x_ishl, x_ishr, x_iushr, x_ineg, x_ladd, x_lsub, x_lmul, x_ldiv, x_lrem, x_lcmp, x_i2l, x_i2b, x_i2s, x_i2c, x_dup, x_pop, x_dup_x1, x_dup2, x_getfield, x_putfield, x_iaload, x_baload, x_saload, x_caload, x_daload, x_faload, x_laload, x_aaload, x_iastore, x_bastore, x_sastore, x_castore, x_lastore, x_aastore, x_arraylength, x_getstatic, x_goto, x_goto_w, x_ifCond, x_if_icmp, x_ifnull, x_ifnonnull, x_lookupswitch, x_invokevirtual, x_invokestatic, x_invokedynamic, x_ireturn, x_freturn, x_dreturn, x_lreturn, x_areturn, x_return_, pI_c, pL_c, pR_c, pV_i, pV_r, gI_c, gL_c, gR_c, pN_z, pN_s, lget_c, lins_z, lins_c, ldel_z, ldel_c, ldel2_z, ldel2_c, lset_i, lset_l, lset_r, lkeep_z, lkeep_c, largs_z, largs_c, cat_i, cat_l, cat_r, lkp_c, cnd_eq, cnd_ne, cnd_lt, cnd_ge, cnd_gt, cnd_le, swL_z, swL_c, rE_e, rOr_s, rOr_n, rlk_z, rlk_c, aR_c, aI_c, aII_c, aIII_c, aRI_c, aRII_c, aRIII_c, vJn, vJs, vlc, aRR_c, aRRI_c, aRRII_c, aRRIII_c, aRIIII_c, aRL_c, aRLL_c, aLL_c, aRRRI_c, aIL_c, aIIII_c, aRRIIII_c, aIRII_c, aIR_c, aLI_c, aRIR_c, aRIIR_c, hr, hr.1, hr.2, e1, e3, e4, e5, e8]
      refine ⟨fun z => ?_, fun z => ?_⟩
      · have f4 : 0 ≤ fewS (vA σ r) i 4 ∧ fewS (vA σ r) i 4 < 4 := by omega
        rw [if_neg (by omega)] at h
        generalize hfe : fewS (vA σ r) i 4 = f at f4 h z
        have p1 := hp f f4.1 f4.2
        have p2 := hp _ s0 s4
        have e9 : w32 (12 + 4 * i + f) = 12 + 4 * i + f := w32_id (by omega) (by omega)
        have e10 : 0 ≤ 12 + 4 * i + f ∧ 12 + 4 * i + f < 50 := by omega
        have e11 : ¬ 6 + i = 12 + 4 * i + f := by omega
        have e12 : w32 (12 + 4 * i + vA σ r (6 + i)) = 12 + 4 * i + vA σ r (6 + i) := w32_id (by omega) (by omega)
        have e13 : 0 ≤ 12 + 4 * i + vA σ r (6 + i) ∧ 12 + 4 * i + vA σ r (6 + i) < 50 := by omega
        have e14 : σ r (12 + 4 * i + f) = partV (vA σ r) i f := vA_at e10.1 e10.2
        have e15 : w32 (partV (vA σ r) i f - 1) = partV (vA σ r) i f - 1 := w32_id (by omega) (by omega)
        have e16 : up σ r (12 + 4 * i + f) (partV (vA σ r) i f - 1) r (6 + i) = vA σ r (6 + i) := by rw [up_r, upv_n e11, e5]
        rw [e9, e14, e15, e16]
        rw [e12]
        have e17 : w32 (up σ r (12 + 4 * i + f) (partV (vA σ r) i f - 1) r (12 + 4 * i + vA σ r (6 + i)) + 1) = up σ r (12 + 4 * i + f) (partV (vA σ r) i f - 1) r (12 + 4 * i + vA σ r (6 + i)) + 1 := by
          refine w32_id ?_ ?_ <;> rw [up_ap] <;> split <;> first | omega | (rw [vA_at (σ := σ) (r := r) e13.1 e13.2]; simp only [partV, ownV] at p2; omega)
        rw [e17]
        refine ⟨e10, e13, h _ ⟨fun o ho => by rw [up_ne ho, up_ne ho], ?_⟩⟩
        show clp (up _ r _ _ r) = _
        rw [up_r, up_r, ← e14]
        exact sewP_up i0 i6 f4.1 f4.2 s0 s4
      · rw [if_pos z] at h
        exact h σ RowTo.rf
    | succ q ih =>
      intro k hk
      have e2 := w32_succ (k := k) (by omega); have i1 : ((k : Nat) : Int) < 4 := (by omega); have i1n : k < 4 := (by omega); have i1x : ¬ (4 : Int) ≤ (k : Nat) := (by omega)
      have K := ih (k + 1) (by omega)
      have hbk := hb k
      have es : fewS (vA σ r) i (k + 1) = if (k : Int) ≠ vA σ r (6 + i) ∧ 0 < partV (vA σ r) i k ∧ (fewS (vA σ r) i k = -1 ∨ partV (vA σ r) i k < partV (vA σ r) i (fewS (vA σ r) i k)) then (k : Int) else fewS (vA σ r) i k := rfl
      have pk := hp k (by omega) (by omega)
      rw [es] at K
      refine wa (by decide) rgM1_ok tk_209 30 (fun N hN => ?_)
      simp [bl_209, hN _, x_iconst, x_ldc2_w, x_aconst_null, x_iload, x_lload, x_aload, x_istore, x_lstore, x_astore, x_iinc, x_iadd, x_isub, x_imul, x_idiv, x_irem, x_iand, x_ior, x_ixor, x_ishl, x_ishr, x_iushr, x_ineg, x_ladd, x_lsub, x_lmul, x_ldiv, x_lrem, x_lcmp, x_i2l, x_i2b, x_i2s, x_i2c, x_dup, x_pop, x_dup_x1, x_dup2, x_getfield, x_putfield, x_iaload, x_baload, x_saload, x_caload, x_daload, x_faload, x_laload, x_aaload, x_iastore, x_bastore, x_sastore, x_castore, x_lastore, x_aastore, x_arraylength, x_getstatic, x_goto, x_goto_w, x_ifCond, x_if_icmp, x_ifnull, x_ifnonnull, x_lookupswitch, x_invokevirtual, x_invokestatic, x_invokedynamic, x_ireturn, x_freturn, x_dreturn, x_lreturn, x_areturn, x_return_, pI_c, pL_c, pR_c, pV_i, pV_r, gI_c, gL_c, gR_c, pN_z, pN_s, lget_c, lins_z, lins_c, ldel_z, ldel_c, ldel2_z, ldel2_c, lset_i, lset_l, lset_r, lkeep_z, lkeep_c, largs_z, largs_c, cat_i, cat_l, cat_r, lkp_c, cnd_eq, cnd_ne, cnd_lt, cnd_ge, cnd_gt, cnd_le, swL_z, swL_c, rE_e, rOr_s, rOr_n, rlk_z, rlk_c, aR_c, aI_c, aII_c, aIII_c, aRI_c, aRII_c, aRIII_c, vJn, vJs, vlc, aRR_c, aRRI_c, aRRII_c, aRRIII_c, aRIIII_c, aRL_c, aRLL_c, aLL_c, aRRRI_c, aIL_c, aIIII_c, aRRIIII_c, aIRII_c, aIR_c, aLI_c, aRIR_c, aRIIR_c, mpPart, hr, hr.1, hr.2, e1, e3, e4, e5, i0, i6, e2, i1, i1n, i1x]
      refine ⟨fun z => ?_, fun z => ⟨fun y => ⟨fun x => ?_, fun x => ⟨?_, fun w => ?_, fun w => ?_⟩⟩, fun y => ?_⟩⟩
      · rw [if_neg (fun w => w.1 z)] at K; exact K
      · rw [if_pos ⟨z, by omega, Or.inl x⟩] at K; exact K
      · omega
      · rw [if_neg (by omega)] at K; exact K
      · rw [if_pos ⟨z, by omega, Or.inr w⟩] at K; exact K
      · rw [if_neg (by omega)] at K; exact K
  have K := lp 4 0 (by omega)
  refine wg (by decide) rgM1_ok tk_209 py_209 ml_209 30 (by simp [catT]) (fun N hN => ?_)
  simp [bl_209, hN _, x_iconst, x_ldc2_w, x_aconst_null, x_iload, x_lload, x_aload, x_istore, x_lstore, x_astore, x_iinc, x_iadd, x_isub, x_imul, x_idiv, x_irem, x_iand, x_ior, x_ixor, x_ishl, x_ishr, x_iushr, x_ineg, x_ladd, x_lsub, x_lmul, x_ldiv, x_lrem, x_lcmp, x_i2l, x_i2b, x_i2s, x_i2c, x_dup, x_pop, x_dup_x1, x_dup2, x_getfield, x_putfield, x_iaload, x_baload, x_saload, x_caload, x_daload, x_faload, x_laload, x_aaload, x_iastore, x_bastore, x_sastore, x_castore, x_lastore, x_aastore, x_arraylength, x_getstatic, x_goto, x_goto_w, x_ifCond, x_if_icmp, x_ifnull, x_ifnonnull, x_lookupswitch, x_invokevirtual, x_invokestatic, x_invokedynamic, x_ireturn, x_freturn, x_dreturn, x_lreturn, x_areturn, x_return_, pI_c, pL_c, pR_c, pV_i, pV_r, gI_c, gL_c, gR_c, pN_z, pN_s, lget_c, lins_z, lins_c, ldel_z, ldel_c, ldel2_z, ldel2_c, lset_i, lset_l, lset_r, lkeep_z, lkeep_c, largs_z, largs_c, cat_i, cat_l, cat_r, lkp_c, cnd_eq, cnd_ne, cnd_lt, cnd_ge, cnd_gt, cnd_le, swL_z, swL_c, rE_e, rOr_s, rOr_n, rlk_z, rlk_c, aR_c, aI_c, aII_c, aIII_c, aRI_c, aRII_c, aRIII_c, vJn, vJs, vlc, aRR_c, aRRI_c, aRRII_c, aRRIII_c, aRIIII_c, aRL_c, aRLL_c, aLL_c, aRRRI_c, aIL_c, aIIII_c, aRRIIII_c, aIRII_c, aIR_c, aLI_c, aRIR_c, aRIIR_c]
  exact K
