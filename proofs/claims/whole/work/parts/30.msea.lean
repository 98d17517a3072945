/-! the reference: rows of fifty numbers -/
def clp (W : Int → Int) : Int → Int := fun j => if 0 ≤ j ∧ j < 50 then W j else 0
theorem clp_in {W : Int → Int} {j : Int} (h0 : 0 ≤ j) (h1 : j < 50) : clp W j = W j := by unfold clp; rw [if_pos ⟨h0, h1⟩]
theorem clp_up {W : Int → Int} {j x : Int} (h0 : 0 ≤ j) (h1 : j < 50) : clp (upv W j x) = upv (clp W) j x := by
  funext k
  unfold clp upv
  by_cases hk : k = j
  · subst hk; simp [h0, h1]
  · simp [hk]
abbrev vA (σ : Mem) (r : Int) : Int → Int := clp (σ r)
def RowT (t : Tau) (r : Int) : Prop := isT t r 0 ∧ lenOf t r = 50
def RowTo (σ σ' : Mem) (r : Int) (V : Int → Int) : Prop := (∀ o, o ≠ r → σ' o = σ o) ∧ vA σ' r = V
theorem RowTo.rf {σ : Mem} {r : Int} : RowTo σ σ r (vA σ r) := ⟨fun _ _ => rfl, rfl⟩
theorem RowTo.put {σ σ' : Mem} {r : Int} {V : Int → Int} (h : RowTo σ σ' r V) {j x : Int} (h0 : 0 ≤ j) (h1 : j < 50) : RowTo σ (up σ' r j x) r (upv V j x) := by
  refine ⟨fun o ho => by rw [up_ne ho]; exact h.1 o ho, ?_⟩
  show clp (up σ' r j x r) = _
  rw [up_r, clp_up h0 h1, ← h.2]
theorem RowTo.tr {σ σ' σ'' : Mem} {r : Int} {V V' : Int → Int} (h : RowTo σ σ' r V) (h' : RowTo σ' σ'' r V') : RowTo σ σ'' r V' := ⟨fun o ho => (h'.1 o ho).trans (h.1 o ho), h'.2⟩
theorem vA_at {σ : Mem} {r j : Int} (h0 : 0 ≤ j) (h1 : j < 50) : σ r j = vA σ r j := (clp_in h0 h1).symm
def nM (σ : Mem) : Nat := (σ 175 1).toNat
def mM (σ : Mem) : Int → Int := fun i => if 0 ≤ i ∧ i < 6 then σ 177 i else 0
def MdOk (t : Tau) (σ : Mem) : Prop := TM t ∧ σ 175 1 = (nM σ : Int) ∧ nM σ ≤ 6
def mpIn : Sp := fun as t σ Q => aIII as fun v a b => Q (some (vI (if a ≤ v ∧ v ≤ b then 1 else 0))) t σ
theorem m_in {l : Launch} {g : GE} {d : Nat} {t : Tau} {σ : Mem} {Q : Post} {as : List TV} (h : mpIn as t σ Q) : WPc l g 167 (d + 1) 0 0 as t σ Q := by
  obtain ⟨v, a, b, rfl, h⟩ := aIII_e h
  refine wg (by decide) rE_nil tk_167 py_167 ml_167 30 (by simp [catT]) (fun N hN => ?_)
  simp [bl_167, hN _, x_iconst, x_ldc2_w, x_aconst_null, x_iload, x_lload, x_aload, x_istore, x_lstore, x_astore, x_iinc, x_iadd, x_isub, x_imul, x_idiv, x_irem, x_iand, x_ior, x_ixor, x_ishl, x_ishr, x_iushr, x_ineg, x_ladd, x_lsub, x_lmul, x_ldiv, x_lrem, x_lcmp, x_i2l, x_i2b, x_i2s, x_i2c, x_dup, x_pop, x_dup_x1, x_dup2, x_getfield, x_putfield, x_iaload, x_baload, x_saload, x_caload, x_daload, x_faload, x_laload, x_aaload, x_iastore, x_bastore, x_sastore, x_castore, x_lastore, x_aastore, x_arraylength, x_getstatic, x_goto, x_goto_w, x_ifCond, x_if_icmp, x_ifnull, x_ifnonnull, x_lookupswitch, x_invokevirtual, x_invokestatic, x_invokedynamic, x_ireturn, x_freturn, x_dreturn, x_lreturn, x_areturn, x_return_, pI_c, pL_c, pR_c, pV_i, pV_r, gI_c, gL_c, gR_c, pN_z, pN_s, lget_c, lins_z, lins_c, ldel_z, ldel_c, ldel2_z, ldel2_c, lset_i, lset_l, lset_r, lkeep_z, lkeep_c, largs_z, largs_c, cat_i, cat_l, cat_r, lkp_c, cnd_eq, cnd_ne, cnd_lt, cnd_ge, cnd_gt, cnd_le, swL_z, swL_c, rE_e, rOr_s, rOr_n, rlk_z, rlk_c, aR_c, aI_c, aII_c, aIII_c, aRI_c, aRII_c, aRIII_c, vJn, vJs, vlc, aRR_c, aRRI_c, aRRII_c, aRRIII_c, aRIIII_c, aRL_c, aRLL_c, aLL_c, aRRRI_c, aIL_c, aIIII_c, aRRIIII_c, aIRII_c, aIR_c, aLI_c, aRIR_c, aRIIR_c]
  grind
theorem pidx {i s : Int} (h0 : 0 ≤ i) (h1 : i < 6) (s0 : 0 ≤ s) (s1 : s < 4) : w32 (w32 (12 + w32 (4 * i)) + s) = 12 + 4 * i + s ∧ 0 ≤ 12 + 4 * i + s ∧ 12 + 4 * i + s < 50 := by
  rw [w32_id (x := 4 * i) (by omega) (by omega), w32_id (x := 12 + 4 * i) (by omega) (by omega), w32_id (by omega) (by omega)]
  omega
def mpPart : Sp := fun as t σ Q => aRII as fun r i s => RowT t r ∧ (0 ≤ i ∧ i < 6) ∧ (0 ≤ s ∧ s < 4) ∧ Q (some (vI (partV (vA σ r) i s))) t σ
theorem m_part {l : Launch} {g : GE} {d : Nat} {t : Tau} {σ : Mem} {Q : Post} {as : List TV} (h : mpPart as t σ Q) : WPc l g 175 (d + 1) 0 0 as t σ Q := by
  obtain ⟨r, i, s, rfl, ⟨r1, r2⟩, hi, hs, h⟩ := aRII_e h
  obtain ⟨e1, e2, e3⟩ := pidx hi.1 hi.2 hs.1 hs.2
  refine wg (by decide) rE_nil tk_175 py_175 ml_175 30 (by simp [catT]) (fun N hN => ?_)
  simp [bl_175, hN _, x_iconst, x_ldc2_w, x_aconst_null, x_iload, x_lload, x_aload, x_istore, x_lstore, x_astore, x_iinc, x_iadd, x_isub, x_imul, x_idiv, x_irem, x_iand, x_ior, x_ixor, x_ishl, x_ishr, x_iushr, x_ineg, x_ladd, x_lsub, x_lmul, x_ldiv, x_lrem, x_lcmp, x_i2l, x_i2b, x_i2s, x_i2c, x_dup, x_pop, x_dup_x1, x_dup2, x_getfield, x_putfield, x_iaload, x_baload, x_saload, x_caload, x_daload, x_faload, x_laload, x_aaload, x_iastore, x_bastore, x_sastore, x_castore, x_lastore, x_aastore, x_arraylength, x_getstatic, x_goto, x_goto_w, x_ifCond, x_if_icmp, x_ifnull, x_ifnonnull, x_lookupswitch, x_invokevirtual, x_invokestatic, x_invokedynamic, x_ireturn, x_freturn, x_dreturn, x_lreturn, x_areturn, x_return_, pI_c, pL_c, pR_c, pV_i, pV_r, gI_c, gL_c, gR_c, pN_z, pN_s, lget_c, lins_z, lins_c, ldel_z, ldel_c, ldel2_z, ldel2_c, lset_i, lset_l, lset_r, lkeep_z, lkeep_c, largs_z, largs_c, cat_i, cat_l, cat_r, lkp_c, cnd_eq, cnd_ne, cnd_lt, cnd_ge, cnd_gt, cnd_le, swL_z, swL_c, rE_e, rOr_s, rOr_n, rlk_z, rlk_c, aR_c, aI_c, aII_c, aIII_c, aRI_c, aRII_c, aRIII_c, vJn, vJs, vlc, aRR_c, aRRI_c, aRRII_c, aRRIII_c, aRIIII_c, aRL_c, aRLL_c, aLL_c, aRRRI_c, aIL_c, aIIII_c, aRRIIII_c, aIRII_c, aIR_c, aLI_c, aRIR_c, aRIIR_c, r1, r2, e1, e2, e3]
  rw [vA_at (σ := σ) (r := r) e2 e3]
  exact h
abbrev rgM1 : Reg := [(167, mpIn), (175, mpPart), (288, spMax), (289, spMin), (287, spAbs), (284, spCompare)]
theorem rgM1_ok {l : Launch} {g : GE} {d : Nat} : ∀ e as t σ Q, rE l g (d + 1) rgM1 e as t σ Q → WPc l g e (d + 1) 0 0 as t σ Q :=
  rE_cons (fun _ _ _ _ h => m_in h) (rE_cons (fun _ _ _ _ h => m_part h) (rE_cons (fun _ _ _ _ h => c_max h) (rE_cons (fun _ _ _ _ h => c_min h) (rE_cons (fun _ _ _ _ h => c_abs h) (rE_cons (fun _ _ _ _ h => c_compare h) rE_nil)))))
def mpOwn : Sp := fun as t σ Q => aRI as fun r i => RowT t r ∧ (0 ≤ i ∧ i < 6) ∧ (0 ≤ vA σ r (6 + i) ∧ vA σ r (6 + i) < 4) ∧ Q (some (vI (ownV (vA σ r) i))) t σ
theorem m_own {l : Launch} {g : GE} {d : Nat} {t : Tau} {σ : Mem} {Q : Post} {as : List TV} (h : mpOwn as t σ Q) : WPc l g 176 (d + 2) 0 0 as t σ Q := by
  obtain ⟨r, i, rfl, hr, ⟨i0, i1⟩, ⟨s0, s1⟩, h⟩ := aRI_e h
  have e1 : w32 (6 + i) = 6 + i := w32_id (by omega) (by omega)
  have e2 : σ r (6 + i) = vA σ r (6 + i) := vA_at (by omega) (by omega)
  have e3 : (0 : Int) ≤ 6 + i := by omega
  have e4 : 6 + i < 50 := by omega
  refine wg (by decide) rgM1_ok tk_176 py_176 ml_176 30 (by simp [catT]) (fun N hN => ?_)
  simp [bl_176, hN _, x_iconst, x_ldc2_w, x_aconst_null, x_iload, x_lload, x_aload, x_istore, x_lstore, x_astore, x_iinc, x_iadd, x_isub, x_imul, x_idiv, x_irem, x_iand, x_ior, x_ixor, x_ishl, x_ishr, x_iushr, x_ineg, x_ladd, x_lsub, x_lmul, x_ldiv, x_lrem, x_lcmp, x_i2l, x_i2b, x_i2s, x_i2c, x_dup, x_pop, x_dup_x1, x_dup2, x_getfield, x_putfield, x_iaload, x_baload, x_saload, x_caload, x_daload, x_faload, x_laload, x_aaload, x_iastore, x_bastore, x_sastore, x_castore, x_lastore, x_aastore, x_arraylength, x_getstatic, x_goto, x_goto_w, x_ifCond, x_if_icmp, x_ifnull, x_ifnonnull, x_lookupswitch, x_invokevirtual, x_invokestatic, x_invokedynamic, x_ireturn, x_freturn, x_dreturn, x_lreturn, x_areturn, x_return_, pI_c, pL_c, pR_c, pV_i, pV_r, gI_c, gL_c, gR_c, pN_z, pN_s, lget_c, lins_z, lins_c, ldel_z, ldel_c, ldel2_z, ldel2_c, lset_i, lset_l, lset_r, lkeep_z, lkeep_c, largs_z, largs_c, cat_i, cat_l, cat_r, lkp_c, cnd_eq, cnd_ne, cnd_lt, cnd_ge, cnd_gt, cnd_le, swL_z, swL_c, rE_e, rOr_s, rOr_n, rlk_z, rlk_c, aR_c, aI_c, aII_c, aIII_c, aRI_c, aRII_c, aRIII_c, vJn, vJs, vlc, aRR_c, aRRI_c, aRRII_c, aRRIII_c, aRIIII_c, aRL_c, aRLL_c, aLL_c, aRRRI_c, aIL_c, aIIII_c, aRRIIII_c, aIRII_c, aIR_c, aLI_c, aRIR_c, aRIIR_c, mpPart, hr, hr.1, hr.2, e1, e2, e3, e4, i0, i1, s0, s1]
  exact h
def mpShip : Sp := fun as t σ Q => aRI as fun a i => a = 175 ∧ MdOk t σ ∧ Q (some (vI (if 0 ≤ i ∧ i < nM σ then 1 else 0))) t σ
theorem m_isShip {l : Launch} {g : GE} {d : Nat} {t : Tau} {σ : Mem} {Q : Post} {as : List TV} (h : mpShip as t σ Q) : WPc l g 171 (d + 2) 0 0 as t σ Q := by
  obtain ⟨a, i, rfl, rfl, ⟨hM, z0, n6⟩, h⟩ := aRI_e h
  have e1 : w32 ((nM σ : Int) - 1) = (nM σ : Int) - 1 := w32_id (by omega) (by omega)
  refine wg (by decide) rgM1_ok tk_171 py_171 ml_171 30 (by simp [catT]) (fun N hN => ?_)
  simp [bl_171, hN _, x_iconst, x_ldc2_w, x_aconst_null, x_iload, x_lload, x_aload, x_istore, x_lstore, x_astore, x_iinc, x_iadd, x_isub, x_imul, x_idiv, x_irem, x_iand, x_ior, x_ixor, x_ishl, x_ishr, x_iushr, x_ineg, x_ladd, x_lsub, x_lmul, x_ldiv, x_lrem, x_lcmp, x_i2l, x_i2b, x_i2s, x_i2c, x_dup, x_pop, x_dup_x1, x_dup2, x_getfield, x_putfield, x_iaload, x_baload, x_saload, x_caload, x_daload, x_faload, x_laload, x_aaload, x_iastore, x_bastore, x_sastore, x_castore, x_lastore, x_aastore, x_arraylength, x_getstatic, x_goto, x_goto_w, x_ifCond, x_if_icmp, x_ifnull, x_ifnonnull, x_lookupswitch, x_invokevirtual, x_invokestatic, x_invokedynamic, x_ireturn, x_freturn, x_dreturn, x_lreturn, x_areturn, x_return_, pI_c, pL_c, pR_c, pV_i, pV_r, gI_c, gL_c, gR_c, pN_z, pN_s, lget_c, lins_z, lins_c, ldel_z, ldel_c, ldel2_z, ldel2_c, lset_i, lset_l, lset_r, lkeep_z, lkeep_c, largs_z, largs_c, cat_i, cat_l, cat_r, lkp_c, cnd_eq, cnd_ne, cnd_lt, cnd_ge, cnd_gt, cnd_le, swL_z, swL_c, rE_e, rOr_s, rOr_n, rlk_z, rlk_c, aR_c, aI_c, aII_c, aIII_c, aRI_c, aRII_c, aRIII_c, vJn, vJs, vlc, aRR_c, aRRI_c, aRRII_c, aRRIII_c, aRIIII_c, aRL_c, aRLL_c, aLL_c, aRRRI_c, aIL_c, aIIII_c, aRRIIII_c, aIRII_c, aIR_c, aLI_c, aRIR_c, aRIIR_c, mpIn, hM.o, z0, e1]
  have e2 : (0 ≤ i ∧ i ≤ (nM σ : Int) - 1) ↔ (0 ≤ i ∧ i < nM σ) := by omega
  simp only [e2]
  refine ⟨?_, h⟩
  grind
def mpSide : Sp := fun as t σ Q => aI as fun s => Q (some (vI (if 0 ≤ s ∧ s < 4 then 1 else 0))) t σ
theorem m_isSide {l : Launch} {g : GE} {d : Nat} {t : Tau} {σ : Mem} {Q : Post} {as : List TV} (h : mpSide as t σ Q) : WPc l g 173 (d + 2) 0 0 as t σ Q := by
  obtain ⟨i, rfl, h⟩ := aI_e h
  refine wg (by decide) rgM1_ok tk_173 py_173 ml_173 30 (by simp [catT]) (fun N hN => ?_)
  simp [bl_173, hN _, x_iconst, x_ldc2_w, x_aconst_null, x_iload, x_lload, x_aload, x_istore, x_lstore, x_astore, x_iinc, x_iadd, x_isub, x_imul, x_idiv, x_irem, x_iand, x_ior, x_ixor, x_ishl, x_ishr, x_iushr, x_ineg, x_ladd, x_lsub, x_lmul, x_ldiv, x_lrem, x_lcmp, x_i2l, x_i2b, x_i2s, x_i2c, x_dup, x_pop, x_dup_x1, x_dup2, x_getfield, x_putfield, x_iaload, x_baload, x_saload, x_caload, x_daload, x_faload, x_laload, x_aaload, x_iastore, x_bastore, x_sastore, x_castore, x_lastore, x_aastore, x_arraylength, x_getstatic, x_goto, x_goto_w, x_ifCond, x_if_icmp, x_ifnull, x_ifnonnull, x_lookupswitch, x_invokevirtual, x_invokestatic, x_invokedynamic, x_ireturn, x_freturn, x_dreturn, x_lreturn, x_areturn, x_return_, pI_c, pL_c, pR_c, pV_i, pV_r, gI_c, gL_c, gR_c, pN_z, pN_s, lget_c, lins_z, lins_c, ldel_z, ldel_c, ldel2_z, ldel2_c, lset_i, lset_l, lset_r, lkeep_z, lkeep_c, largs_z, largs_c, cat_i, cat_l, cat_r, lkp_c, cnd_eq, cnd_ne, cnd_lt, cnd_ge, cnd_gt, cnd_le, swL_z, swL_c, rE_e, rOr_s, rOr_n, rlk_z, rlk_c, aR_c, aI_c, aII_c, aIII_c, aRI_c, aRII_c, aRIII_c, vJn, vJs, vlc, aRR_c, aRRI_c, aRRII_c, aRRIII_c, aRIIII_c, aRL_c, aRLL_c, aLL_c, aRRRI_c, aIL_c, aIIII_c, aRRIIII_c, aIRII_c, aIR_c, aLI_c, aRIR_c, aRIIR_c, mpIn]
  have e2 : (0 ≤ i ∧ i ≤ 3) ↔ (0 ≤ i ∧ i < 4) := by omega
  simp only [e2]
  refine ⟨?_, h⟩
  grind
abbrev rgM2 : Reg := [(176, mpOwn), (171, mpShip), (173, mpSide), (167, mpIn), (175, mpPart), (288, spMax), (289, spMin), (287, spAbs), (284, spCompare)]
theorem rgM2_ok {l : Launch} {g : GE} {d : Nat} : ∀ e as t σ Q, rE l g (d + 2) rgM2 e as t σ Q → WPc l g e (d + 2) 0 0 as t σ Q :=
  rE_cons (fun _ _ _ _ h => m_own h) (rE_cons (fun _ _ _ _ h => m_isShip h) (rE_cons (fun _ _ _ _ h => m_isSide h) (rgM1_ok (d := d + 1))))
def mpTwo : Sp := fun as t σ Q => aRII as fun a i j => a = 175 ∧ MdOk t σ ∧ Q (some (vI (if (0 ≤ i ∧ i < nM σ) ∧ (0 ≤ j ∧ j < nM σ) ∧ i ≠ j then 1 else 0))) t σ
theorem m_areTwo {l : Launch} {g : GE} {d : Nat} {t : Tau} {σ : Mem} {Q : Post} {as : List TV} (h : mpTwo as t σ Q) : WPc l g 172 (d + 3) 0 0 as t σ Q := by
  obtain ⟨a, i, j, rfl, rfl, hM, h⟩ := aRII_e h
  refine wg (by decide) rgM2_ok tk_172 py_172 ml_172 30 (by simp [catT]) (fun N hN => ?_)
  simp [bl_172, hN _, x_iconst, x_ldc2_w, x_aconst_null, x_iload, x_lload, x_aload, x_istore, x_lstore, x_astore, x_iinc, x_iadd, x_isub, x_imul, x_idiv, x_irem, x_iand, x_ior, x_ixor, x_ishl, x_ishr, x_iushr, x_ineg, x_ladd, x_lsub, x_lmul, x_ldiv, x_lrem, x_lcmp, x_i2l, x_i2b, x_i2s, x_i2c, x_dup, x_pop, x_dup_x1, x_dup2, x_getfield, x_putfield, x_iaload, x_baload, x_saload, x_caload, x_daload, x_faload, x_laload, x_aaload, x_iastore, x_bastore, x_sastore, x_castore, x_lastore, x_aastore, x_arraylength, x_getstatic, x_goto, x_goto_w, x_ifCond, x_if_icmp, x_ifnull, x_ifnonnull, x_lookupswitch, x_invokevirtual, x_invokestatic, x_invokedynamic, x_ireturn, x_freturn, x_dreturn, x_lreturn, x_areturn, x_return_, pI_c, pL_c, pR_c, pV_i, pV_r, gI_c, gL_c, gR_c, pN_z, pN_s, lget_c, lins_z, lins_c, ldel_z, ldel_c, ldel2_z, ldel2_c, lset_i, lset_l, lset_r, lkeep_z, lkeep_c, largs_z, largs_c, cat_i, cat_l, cat_r, lkp_c, cnd_eq, cnd_ne, cnd_lt, cnd_ge, cnd_gt, cnd_le, swL_z, swL_c, rE_e, rOr_s, rOr_n, rlk_z, rlk_c, aR_c, aI_c, aII_c, aIII_c, aRI_c, aRII_c, aRIII_c, vJn, vJs, vlc, aRR_c, aRRI_c, aRRII_c, aRRIII_c, aRIIII_c, aRL_c, aRLL_c, aLL_c, aRRRI_c, aIL_c, aIIII_c, aRRIIII_c, aIRII_c, aIR_c, aLI_c, aRIR_c, aRIIR_c, mpShip, hM, hM.1.o]
  grind
/-- the greatest part so far -/
theorem m_go1 {l : Launch} {g : GE} {d : Nat} {t : Tau} {σ : Mem} {Q : Post} {r i b : Int} {k : Nat} (hr : RowT t r) (i0 : 0 ≤ i) (i6 : i < 6) (b0 : 0 ≤ b) (b4 : b < 4) (hk : k < 4)
    (h : Wp l g 205 (d + 3) 0 0 4 [(0, vR r), (1, vI i), (2, vI (if partV (vA σ r) i b < partV (vA σ r) i k then (k : Int) else b)), (3, vI (k + 1 : Nat))] [] t σ Q) : Wp l g 205 (d + 3) 0 0 4 [(0, vR r), (1, vI i), (2, vI b), (3, vI k)] [] t σ Q := by
  have e2 := w32_succ (k := k) (by omega); have i1 : ((k : Nat) : Int) < 4 := (by omega); have i1n : k < 4 := (by omega); have i1x : ¬ (4 : Int) ≤ (k : Nat) := (by omega)
  have kx : ¬ (4 : Int) ≤ k := by omega
  refine wa (by decide) rgM2_ok tk_205 30 (fun N hN => ?_)
  simp [bl_205, hN _, x_iconst, x_ldc2_w, x_aconst_null, x_iload, x_lload, x_aload, x_istore, x_lstore, x_astore, x_iinc, x_iadd, x_isub, x_imul, x_idiv, x_irem, x_iand, x_ior, x_ixor, x_ishl, x_ishr, x_iushr, x_ineg, x_ladd, x_lsub, x_lmul, x_ldiv, x_lrem, x_lcmp, x_i2l, x_i2b, x_i2s, x_i2c, x_dup, x_pop, x_dup_x1, x_dup2, x_getfield, x_putfield, x_iaload, x_baload, x_saload, x_caload, x_daload, x_faload, x_laload, x_aaload, x_iastore, x_bastore, x_sastore, x_castore, x_lastore, x_aastore, x_arraylength, x_getstatic, x_goto, x_goto_w, x_ifCond, x_if_icmp, x_ifnull, x_ifnonnull, x_lookupswitch, x_invokevirtual, x_invokestatic, x_invokedynamic, x_ireturn, x_freturn, x_dreturn, x_lreturn, x_areturn, x_return_, pI_c, pL_c, pR_c, pV_i, pV_r, gI_c, gL_c, gR_c, pN_z, pN_s, lget_c, lins_z, lins_c, ldel_z, ldel_c, ldel2_z, ldel2_c, lset_i, lset_l, lset_r, lkeep_z, lkeep_c, largs_z, largs_c, cat_i, cat_l, cat_r, lkp_c, cnd_eq, cnd_ne, cnd_lt, cnd_ge, cnd_gt, cnd_le, swL_z, swL_c, rE_e, rOr_s, rOr_n, rlk_z, rlk_c, aR_c, aI_c, aII_c, aIII_c, aRI_c, aRII_c, aRIII_c, vJn, vJs, vlc, aRR_c, aRRI_c, aRRII_c, aRRIII_c, aRIIII_c, aRL_c, aRLL_c, aLL_c, aRRRI_c, aIL_c, aIIII_c, aRRIIII_c, aIRII_c, aIR_c, aLI_c, aRIR_c, aRIIR_c, mpPart, hr, i0, i6, b0, b4, e2, i1, i1n, i1x]
  refine ⟨fun z => ?_, fun z => ?_⟩
  · rw [if_neg (by omega)] at h; exact h
  · rw [if_pos (by omega)] at h; exact h
def mpGo : Sp := fun as t σ Q => aRI as fun r i => RowT t r ∧ (0 ≤ i ∧ i < 6) ∧ (0 ≤ vA σ r (6 + i) ∧ vA σ r (6 + i) < 4) ∧ (0 ≤ vA σ r 49 ∧ vA σ r 49 ≤ 9999) ∧ ∀ σ', RowTo σ σ' r (goV (vA σ r) i) → Q none t σ'
theorem m_goOver {l : Launch} {g : GE} {d : Nat} {t : Tau} {σ : Mem} {Q : Post} {as : List TV} (h : mpGo as t σ Q) : WPc l g 205 (d + 3) 0 0 as t σ Q := by
  obtain ⟨r, i, rfl, hr, ⟨i0, i6⟩, ⟨s0, s4⟩, ⟨o0, o1⟩, h⟩ := aRI_e h
  obtain ⟨b1, b2, b3⟩ := best_b (vA σ r) i
  have K : Wp l g 205 (d + 3) 0 0 4 [(0, vR r), (1, vI i), (2, vI (bestV (vA σ r) i)), (3, vI (4 : Nat))] [] t σ Q := by
    have e1 : w32 (6 + i) = 6 + i := w32_id (by omega) (by omega)
    have e3 : (0 : Int) ≤ 6 + i := by omega
    have e4 : 6 + i < 50 := by omega
    have e5 : σ r 49 = vA σ r 49 := vA_at (by omega) (by omega)
    have e6 : ¬ (49 : Int) = 6 + i := by omega
    have e7 : w32 (vA σ r 49 + 1) = vA σ r 49 + 1 := w32_id (by omega) (by omega)
    unfold goV at h
    refine wa (by decide) rgM2_ok tk_205 30 (fun N hN => ?_)
    simp [bl_205, hN _, x_iconst, x_ldc2_w, x_aconst_null, x_iload, x_lload, x_aload, x_istore, x_lstore, x_astore, x_iinc, x_iadd, x_isub, x_imul, x_idiv, x_irem, x_iand, x_ior, x_ixor, x_ishl, x_ishr, x_iushr, x_ineg, x_ladd, x_lsub, x_lmul, x_ldiv, x_lrem, x_lcmp, x_i2l, x_i2b, x_i2s, x_i2c, x_dup, x_pop, x_dup_x1, x_dup2, x_getfield, x_putfield, x_iaload, x_baload, x_saload, x_caload, x_daload, x_faload, x_laload, x_aaload, x_iastore, x_bastore, x_sastore, x_castore, x_lastore, x_aastore, x_arraylength, x_getstatic, x_goto, x_goto_w, x_ifCond, x_if_icmp, x_ifnull, x_ifnonnull, x_lookupswitch, x_invokevirtual, x_invokestatic, x_invokedynamic, x_ireturn, x_freturn, x_dreturn, x_lreturn, x_areturn, x_return_, pI_c, pL_c, pR_c, pV_i, pV_r, gI_c, gL_c, gR_c, pN_z, pN_s, lget_c, lins_z, lins_c, ldel_z, ldel_c, ldel2_z, ldel2_c, lset_i, lset_l, lset_r, lkeep_z, lkeep_c, largs_z, largs_c, cat_i, cat_l, cat_r, lkp_c, cnd_eq, cnd_ne, cnd_lt, cnd_ge, cnd_gt, cnd_le, swL_z, swL_c, rE_e, rOr_s, rOr_n, rlk_z, rlk_c, aR_c, aI_c, aII_c, aIII_c, aRI_c, aRII_c, aRIII_c, vJn, vJs, vlc, aRR_c, aRRI_c, aRRII_c, aRRIII_c, aRIIII_c, aRL_c, aRLL_c, aLL_c, aRRRI_c, aIL_c, aIIII_c, aRRIIII_c, aIRII_c, aIR_c, aLI_c, aRIR_c, aRIIR_c, mpPart, mpOwn, spMin, hr, hr.1, hr.2, i0, i6, b3, s0, s4, e1, e3, e4, up_ap, e5, e6, e7]
    refine ⟨fun z => ?_, fun z => ?_⟩
    · rw [if_neg (by omega)] at h
      exact h _ ((RowTo.rf.put (by omega) (by omega)).put (by omega) (by omega))
    · rw [if_pos (by omega)] at h
      exact h σ RowTo.rf
  have K3 := m_go1 (b := best2 (vA σ r) i) (k := 3) hr i0 i6 b2.1 (by omega) (by omega) K
  have K2 := m_go1 (b := best1 (vA σ r) i) (k := 2) hr i0 i6 b1.1 (by omega) (by omega) K3
  have K1 := m_go1 (b := 0) (k := 1) hr i0 i6 (by omega) (by omega) (by omega) K2
  refine wg (by decide) rgM2_ok tk_205 py_205 ml_205 30 (by simp [catT]) (fun N hN => ?_)
  simp [bl_205, hN _, x_iconst, x_ldc2_w, x_aconst_null, x_iload, x_lload, x_aload, x_istore, x_lstore, x_astore, x_iinc, x_iadd, x_isub, x_imul, x_idiv, x_irem, x_iand, x_ior, x_ixor, x_ishl, x_ishr, x_iushr, x_ineg, x_ladd, x_lsub, x_lmul, x_ldiv, x_lrem, x_lcmp, x_i2l, x_i2b, x_i2s, x_i2c, x_dup, x_pop, x_dup_x1, x_dup2, x_getfield, x_putfield, x_iaload, x_baload, x_saload, x_caload, x_daload, x_faload, x_laload, x_aaload, x_iastore, x_bastore, x_sastore, x_castore, x_lastore, x_aastore, x_arraylength, x_getstatic, x_goto, x_goto_w, x_ifCond, x_if_icmp, x_ifnull, x_ifnonnull, x_lookupswitch, x_invokevirtual, x_invokestatic, x_invokedynamic, x_ireturn, x_freturn, x_dreturn, x_lreturn, x_areturn, x_return_, pI_c, pL_c, pR_c, pV_i, pV_r, gI_c, gL_c, gR_c, pN_z, pN_s, lget_c, lins_z, lins_c, ldel_z, ldel_c, ldel2_z, ldel2_c, lset_i, lset_l, lset_r, lkeep_z, lkeep_c, largs_z, largs_c, cat_i, cat_l, cat_r, lkp_c, cnd_eq, cnd_ne, cnd_lt, cnd_ge, cnd_gt, cnd_le, swL_z, swL_c, rE_e, rOr_s, rOr_n, rlk_z, rlk_c, aR_c, aI_c, aII_c, aIII_c, aRI_c, aRII_c, aRIII_c, vJn, vJs, vlc, aRR_c, aRRI_c, aRRII_c, aRRIII_c, aRIIII_c, aRL_c, aRLL_c, aLL_c, aRRRI_c, aIL_c, aIIII_c, aRRIIII_c, aIRII_c, aIR_c, aLI_c, aRIR_c, aRIIR_c]
  exact K1
