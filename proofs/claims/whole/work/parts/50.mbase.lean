/-! the reference: what its calls share -/
theorem nM_up {σ : Mem} {o j x : Int} (h : o ≠ 175 ∨ j ≠ 1) : nM (up σ o j x) = nM σ := by unfold nM up; rw [if_neg (by omega)]
theorem mM_up {σ : Mem} {o j x : Int} (h : o ≠ 177) : mM (up σ o j x) = mM σ := by unfold mM; rw [up_ne (fun z => h z.symm)]
theorem vA_up {σ : Mem} {o j x r : Int} (h : o ≠ r) : vA (up σ o j x) r = vA σ r := by unfold vA; rw [up_ne (fun z => h z.symm)]
theorem md_up {t : Tau} {σ : Mem} {o j x : Int} (h : o ≠ 175 ∨ j ≠ 1) : MdOk t (up σ o j x) = MdOk t σ := by
  unfold MdOk; rw [nM_up h, up_ap, if_neg (by omega)]
def scrM (o : Int) : Prop := o = 179 ∨ o = 180 ∨ o = 183 ∨ o = 185 ∨ o = 186 ∨ o = 187 ∨ o = 188 ∨ o = 189 ∨ o = 190 ∨ o = 195
def scrF (j : Int) : Prop := j = 7 ∨ j = 8 ∨ (9 ≤ j ∧ j ≤ 13) ∨ j = 18 ∨ j = 36
def QFM (σ σ' : Mem) : Prop := (∀ o, o ≠ 175 → ¬ scrM o → σ' o = σ o) ∧ ∀ j, ¬ scrF j → σ' 175 j = σ 175 j
theorem QFM.rf {σ : Mem} : QFM σ σ := ⟨fun _ _ _ => rfl, fun _ _ => rfl⟩
theorem QFM.tr {σ σ' σ'' : Mem} (h : QFM σ σ') (h' : QFM σ' σ'') : QFM σ σ'' := ⟨fun o h1 h2 => (h'.1 o h1 h2).trans (h.1 o h1 h2), fun j hj => (h'.2 j hj).trans (h.2 j hj)⟩
theorem QFM.up {σ σ' : Mem} {x j v : Int} (h : QFM σ σ') (hx : scrM x ∨ (x = 175 ∧ scrF j)) : QFM σ (up σ' x j v) := by
  refine ⟨fun o h1 h2 => ?_, fun i hi => ?_⟩
  · have hn : o ≠ x := by
      intro z
      rcases hx with hx | hx
      · exact h2 (by rw [z]; exact hx)
      · exact h1 (by rw [z]; exact hx.1)
    rw [up_ne hn]
    exact h.1 o h1 h2
  · rw [up_ap, if_neg (fun z => by
      obtain ⟨z1, z2⟩ := z
      subst z1 z2
      rcases hx with hx | hx
      · unfold scrM at hx; omega
      · exact hi hx.2)]
    exact h.2 i hi
theorem sf7 : scrM 175 ∨ ((175 : Int) = 175 ∧ scrF 7) := Or.inr ⟨rfl, Or.inl rfl⟩
theorem sf8 : scrM 175 ∨ ((175 : Int) = 175 ∧ scrF 8) := Or.inr ⟨rfl, Or.inr (Or.inl rfl)⟩
theorem s179 {j : Int} : scrM 179 ∨ ((179 : Int) = 175 ∧ scrF j) := Or.inl (Or.inl rfl)
theorem sM {o j : Int} (h : scrM o) : scrM o ∨ (o = 175 ∧ scrF j) := Or.inl h
/-- n ships of mights M, the row V -/
def MK (t : Tau) (σ : Mem) : Prop := MdOk t σ ∧ WFV (nM σ) (mM σ) (vA σ 176)
theorem mk_up {t : Tau} {σ : Mem} {o j x : Int} (h : o ≠ 175 ∨ j ≠ 1) (h1 : o ≠ 177) (h2 : o ≠ 176) : MK t (up σ o j x) = MK t σ := by
  unfold MK; rw [md_up h, nM_up h, mM_up h1, vA_up h2]
theorem QFM.n {σ σ' : Mem} (h : QFM σ σ') : nM σ' = nM σ := by unfold nM; rw [h.2 1 (by unfold scrF; omega)]
theorem QFM.m {σ σ' : Mem} (h : QFM σ σ') : mM σ' = mM σ := by unfold mM; rw [h.1 177 (by omega) (by unfold scrM; omega)]
theorem QFM.v {σ σ' : Mem} (h : QFM σ σ') : vA σ' 176 = vA σ 176 := by unfold vA; rw [h.1 176 (by omega) (by unfold scrM; omega)]
theorem QFM.md {t : Tau} {σ σ' : Mem} (h : QFM σ σ') (k : MdOk t σ) : MdOk t σ' := by
  obtain ⟨k1, k2, k3⟩ := k
  exact ⟨k1, by rw [h.n, h.2 1 (by unfold scrF; omega)]; exact k2, by rw [h.n]; exact k3⟩
theorem QFM.mk {t : Tau} {σ σ' : Mem} (h : QFM σ σ') (k : MK t σ) : MK t σ' := ⟨h.md k.1, by rw [h.n, h.m, h.v]; exact k.2⟩
/-! its ROW -/
def rmIs (σ : Mem) (L : List Int) : Prop := σ 175 7 = L.length ∧ L.length ≤ 16 ∧ ∀ k : Nat, k < L.length → σ 179 k = L.getD k 0
theorem rmIs.nil {σ : Mem} : rmIs (up σ 175 7 0) [] := ⟨by simp [up], by simp, fun k hk => by simp at hk⟩
theorem rmIs.add {σ : Mem} {L : List Int} {v : Int} (h : rmIs σ L) (hl : L.length < 16) : rmIs (up (up σ 179 (σ 175 7) v) 175 7 (σ 175 7 + 1)) (L ++ [v]) := by
  obtain ⟨h1, h2, h3⟩ := h
  refine ⟨by simp [up]; omega, by simp; omega, fun k hk => ?_⟩
  rw [up_ne (by omega)]
  simp only [up]
  by_cases hkl : k = L.length
  · subst hkl; simp [h1]
  · have h4 : k < L.length := by simp at hk; omega
    have h5 := h3 k h4
    rw [if_neg (by omega), h5]
    simp [List.getElem?_append_left h4]
theorem rm_1 {σ : Mem} {a : Int} : rmIs (up (up (up σ 175 7 0) 179 0 a) 175 7 1) [a] := by
  have := (rmIs.nil (σ := σ)).add (v := a) (by simp)
  simpa [up_ap] using this
theorem rm_2 {σ : Mem} {a b : Int} : rmIs (up (up (up (up (up σ 175 7 0) 179 0 a) 175 7 1) 179 1 b) 175 7 2) [a, b] := by
  have := (rm_1 (σ := σ) (a := a)).add (v := b) (by simp)
  simpa [up_ap] using this
theorem rm_3 {σ : Mem} {a b c : Int} : rmIs (up (up (up (up (up (up (up σ 175 7 0) 179 0 a) 175 7 1) 179 1 b) 175 7 2) 179 2 c) 175 7 3) [a, b, c] := by
  have := (rm_2 (σ := σ) (a := a) (b := b)).add (v := c) (by simp)
  simpa [up_ap] using this
/-- what a question of the reference leaves: nothing thrown; the ROW is r, or what it was -/
def QTM (σ σ' : Mem) (r : Option (List Int)) : Prop := QFM σ σ' ∧ σ' 175 8 = 0 ∧ match r with
  | none => σ' 175 7 = σ 175 7 ∧ σ' 179 = σ 179
  | some L => rmIs σ' L
def ansM (q : QA) (t : Tau) (σ : Mem) (Q : Post) : Prop := ∀ σ', QTM σ σ' q.2 → Q (some (vI q.1)) t σ'
theorem QTM.rf {σ : Mem} : QTM σ (up σ 175 8 0) none := ⟨QFM.rf.up sf8, by simp [up], by simp [up], up_ne (by omega)⟩
theorem QTM.q1 {σ σ' : Mem} (h : QFM σ σ') (h8 : σ' 175 8 = 0) {a : Int} : QTM σ (up (up (up σ' 175 7 0) 179 0 a) 175 7 1) (some [a]) := ⟨((h.up sf7).up s179).up sf7, by simp [up_ap, h8], rm_1⟩
theorem QTM.q2 {σ σ' : Mem} (h : QFM σ σ') (h8 : σ' 175 8 = 0) {a b : Int} : QTM σ (up (up (up (up (up σ' 175 7 0) 179 0 a) 175 7 1) 179 1 b) 175 7 2) (some [a, b]) := ⟨((((h.up sf7).up s179).up sf7).up s179).up sf7, by simp [up_ap, h8], rm_2⟩
theorem QTM.q3 {σ σ' : Mem} (h : QFM σ σ') (h8 : σ' 175 8 = 0) {a b c : Int} : QTM σ (up (up (up (up (up (up (up σ' 175 7 0) 179 0 a) 175 7 1) 179 1 b) 175 7 2) 179 2 c) 175 7 3) (some [a, b, c]) := ⟨((((((h.up sf7).up s179).up sf7).up s179).up sf7).up s179).up sf7, by simp [up_ap, h8], rm_3⟩
def mpTell : Sp := fun as t σ Q => aRL as fun a v => a = 175 ∧ TM t ∧ (0 ≤ σ 175 7 ∧ σ 175 7 < 16) ∧ Q none t (up (up σ 179 (σ 175 7) v) 175 7 (σ 175 7 + 1))
theorem m_tell {l : Launch} {g : GE} {d : Nat} {t : Tau} {σ : Mem} {Q : Post} {as : List TV} (h : mpTell as t σ Q) : WPc l g 170 (d + 1) 0 0 as t σ Q := by
  obtain ⟨a, v, rfl, rfl, hM, ⟨h0, h1⟩, h⟩ := aRL_e h
  have e1 : w32 (σ 175 7 + 1) = σ 175 7 + 1 := w32_id (by omega) (by omega)
  refine wg (by decide) rE_nil tk_170 py_170 ml_170 30 (by simp [catT]) (fun N hN => ?_)
  simp [bl_170, hN _, x_iconst, x_ldc2_w, x_aconst_null, x_iload, x_lload, x_aload, x_istore, x_lstore, x_astore, x_iinc, x_iadd, x_isub, x_imul, x_idiv, x_irem, x_iand, x_ior, x_ixor, x_ishl, x_ishr, x_iushr, x_ineg, x_ladd, x_lsub, x_lmul, x_ldiv, x_lrem, x_lcmp, x_i2l, x_i2b, x_i2s, x_i2c, x_dup, x_pop, x_dup_x1, x_dup2, x_getfield, x_putfield, x_iaload, x_baload, x_saload, x_caload, x_daload, x_faload, x_laload, x_aaload, x_iastore, x_bastore, x_sastore, x_castore, x_lastore, x_aastore, x_arraylength, x_getstatic, x_goto, x_goto_w, x_ifCond, x_if_icmp, x_ifnull, x_ifnonnull, x_lookupswitch, x_invokevirtual, x_invokestatic, x_invokedynamic, x_ireturn, x_freturn, x_dreturn, x_lreturn, x_areturn, x_return_, pI_c, pL_c, pR_c, pV_i, pV_r, gI_c, gL_c, gR_c, pN_z, pN_s, lget_c, lins_z, lins_c, ldel_z, ldel_c, ldel2_z, ldel2_c, lset_i, lset_l, lset_r, lkeep_z, lkeep_c, largs_z, largs_c, cat_i, cat_l, cat_r, lkp_c, cnd_eq, cnd_ne, cnd_lt, cnd_ge, cnd_gt, cnd_le, swL_z, swL_c, rE_e, rOr_s, rOr_n, rlk_z, rlk_c, aR_c, aI_c, aII_c, aIII_c, aRI_c, aRII_c, aRIII_c, vJn, vJs, vlc, aRR_c, aRRI_c, aRRII_c, aRRIII_c, aRIIII_c, aRL_c, aRLL_c, aLL_c, aRRRI_c, aIL_c, aIIII_c, aRRIIII_c, aIRII_c, aIR_c, aLI_c, aRIR_c, aRIIR_c, hM.o, hM.f6, hM.t179, hM.l179, up_ap, h0, h1, e1]
  exact h
/-- the sum of what n ships have -/
def mpSumOf : Sp := fun as t σ Q => aRRI as fun a r k => a = 175 ∧ MdOk t σ ∧ RowT t r ∧ (0 ≤ k ∧ k ≤ 44) ∧ Q (some (vI (sumW (fun i => vA σ r (k + i)) (nM σ)))) t σ
theorem m_sumOf {l : Launch} {g : GE} {d : Nat} {t : Tau} {σ : Mem} {Q : Post} {as : List TV} (h : mpSumOf as t σ Q) : WPc l g 201 (d + 1) 0 0 as t σ Q := by
  obtain ⟨a, r, k, rfl, rfl, ⟨hM, z0, n6⟩, hr, ⟨k0, k1⟩, h⟩ := aRRI_e h
  have K : Wp l g 201 (d + 1) 0 0 5 [(0, vR 175), (1, vR r), (2, vI k), (3, vI (sumW (fun i => vA σ r (k + i)) 0)), (4, vI (0 : Nat))] [] t σ Q := by
    refine lpU (P := fun i => Wp l g 201 (d + 1) 0 0 5 [(0, vR 175), (1, vR r), (2, vI k), (3, vI (sumW (fun i => vA σ r (k + i)) i)), (4, vI i)] [] t σ Q) (n := nM σ) ?_ (fun i hi K => ?_)
    · refine wa (by decide) rE_nil tk_201 30 (fun N hN => ?_)
      simp [bl_201, hN _, x_iconst, x_ldc2_w, x_aconst_null, x_iload, x_lload, x_aload, x_istore, x_lstore, x_astore, x_iinc, x_iadd, x_isub, x_imul, x_idiv, x_irem, x_iand, x_ior, x_ixor, x_ishl, x_ishr, x_iushr, x_ineg, x_ladd, x_lsub, x_lmul, x_ldiv, x_lrem, x_lcmp, x_i2l, x_i2b, x_i2s, x_i2c, x_dup, x_pop, x_dup_x1, x_dup2, x_getfield, x_putfield, x_iaload, x_baload, x_saload, x_caload, x_daload, x_faload, x_laload, x_aaload, x_iastore, x_bastore, x_sastore, x_castore, x_lastore, x_aastore, x_arraylength, x_getstatic, x_goto, x_goto_w, x_ifCond, x_if_icmp, x_ifnull, x_ifnonnull, x_lookupswitch, x_invokevirtual, x_invokestatic, x_invokedynamic, x_ireturn, x_freturn, x_dreturn, x_lreturn, x_areturn, x_return_, pI_c, pL_c, pR_c, pV_i, pV_r, gI_c, gL_c, gR_c, pN_z, pN_s, lget_c, lins_z, lins_c, ldel_z, ldel_c, ldel2_z, ldel2_c, lset_i, lset_l, lset_r, lkeep_z, lkeep_c, largs_z, largs_c, cat_i, cat_l, cat_r, lkp_c, cnd_eq, cnd_ne, cnd_lt, cnd_ge, cnd_gt, cnd_le, swL_z, swL_c, rE_e, rOr_s, rOr_n, rlk_z, rlk_c, aR_c, aI_c, aII_c, aIII_c, aRI_c, aRII_c, aRIII_c, vJn, vJs, vlc, aRR_c, aRRI_c, aRRII_c, aRRIII_c, aRIIII_c, aRL_c, aRLL_c, aLL_c, aRRRI_c, aIL_c, aIIII_c, aRRIIII_c, aIRII_c, aIR_c, aLI_c, aRIR_c, aRIIR_c, hM.o, z0]
      exact h
    · have e2 := w32_succ (k := i) (by omega); have i1 : ((i : Nat) : Int) < (nM σ : Nat) := (by omega); have i1n : i < nM σ := (by omega); have i1x : ¬ nM σ ≤ i := (by omega)
      have e3 : w32 (k + i) = k + i := w32_id (by omega) (by omega)
      have e4 : 0 ≤ k + (i : Int) := by omega
      have e5 : k + (i : Int) < 50 := by omega
      have e6 : σ r (k + i) = vA σ r (k + i) := vA_at e4 e5
      refine wa (by decide) rE_nil tk_201 30 (fun N hN => ?_)
      simp [bl_201, hN _, x_iconst, x_ldc2_w, x_aconst_null, x_iload, x_lload, x_aload, x_istore, x_lstore, x_astore, x_iinc, x_iadd, x_isub, x_imul, x_idiv, x_irem, x_iand, x_ior, x_ixor, x_ishl, x_ishr, x_iushr, x_ineg, x_ladd, x_lsub, x_lmul, x_ldiv, x_lrem, x_lcmp, x_i2l, x_i2b, x_i2s, x_i2c, x_dup, x_pop, x_dup_x1, x_dup2, x_getfield, x_putfield, x_iaload, x_baload, x_saload, x_caload, x_daload, x_faload, x_laload, x_aaload, x_iastore, x_bastore, x_sastore, x_castore, x_lastore, x_aastore, x_arraylength, x_getstatic, x_goto, x_goto_w, x_ifCond, x_if_icmp, x_ifnull, x_ifnonnull, x_lookupswitch, x_invokevirtual, x_invokestatic, x_invokedynamic, x_ireturn, x_freturn, x_dreturn, x_lreturn, x_areturn, x_return_, pI_c, pL_c, pR_c, pV_i, pV_r, gI_c, gL_c, gR_c, pN_z, pN_s, lget_c, lins_z, lins_c, ldel_z, ldel_c, ldel2_z, ldel2_c, lset_i, lset_l, lset_r, lkeep_z, lkeep_c, largs_z, largs_c, cat_i, cat_l, cat_r, lkp_c, cnd_eq, cnd_ne, cnd_lt, cnd_ge, cnd_gt, cnd_le, swL_z, swL_c, rE_e, rOr_s, rOr_n, rlk_z, rlk_c, aR_c, aI_c, aII_c, aIII_c, aRI_c, aRII_c, aRIII_c, vJn, vJs, vlc, aRR_c, aRRI_c, aRRII_c, aRRIII_c, aRIIII_c, aRL_c, aRLL_c, aLL_c, aRRRI_c, aIL_c, aIIII_c, aRRIIII_c, aIRII_c, aIR_c, aLI_c, aRIR_c, aRIIR_c, hM.o, z0, e2, i1, i1n, i1x, hr.1, hr.2, e3, e4, e5, e6]
      exact K
  refine wg (by decide) rE_nil tk_201 py_201 ml_201 30 (by simp [catT]) (fun N hN => ?_)
  simp [bl_201, hN _, x_iconst, x_ldc2_w, x_aconst_null, x_iload, x_lload, x_aload, x_istore, x_lstore, x_astore, x_iinc, x_iadd, x_isub, x_imul, x_idiv, x_irem, x_iand, x_ior, x_ixor, x_ishl, x_ishr, x_iushr, x_ineg, x_ladd, x_lsub, x_lmul, x_ldiv, x_lrem, x_lcmp, x_i2l, x_i2b, x_i2s, x_i2c, x_dup, x_pop, x_dup_x1, x_dup2, x_getfield, x_putfield, x_iaload, x_baload, x_saload, x_caload, x_daload, x_faload, x_laload, x_aaload, x_iastore, x_bastore, x_sastore, x_castore, x_lastore, x_aastore, x_arraylength, x_getstatic, x_goto, x_goto_w, x_ifCond, x_if_icmp, x_ifnull, x_ifnonnull, x_lookupswitch, x_invokevirtual, x_invokestatic, x_invokedynamic, x_ireturn, x_freturn, x_dreturn, x_lreturn, x_areturn, x_return_, pI_c, pL_c, pR_c, pV_i, pV_r, gI_c, gL_c, gR_c, pN_z, pN_s, lget_c, lins_z, lins_c, ldel_z, ldel_c, ldel2_z, ldel2_c, lset_i, lset_l, lset_r, lkeep_z, lkeep_c, largs_z, largs_c, cat_i, cat_l, cat_r, lkp_c, cnd_eq, cnd_ne, cnd_lt, cnd_ge, cnd_gt, cnd_le, swL_z, swL_c, rE_e, rOr_s, rOr_n, rlk_z, rlk_c, aR_c, aI_c, aII_c, aIII_c, aRI_c, aRII_c, aRIII_c, vJn, vJs, vlc, aRR_c, aRRI_c, aRRII_c, aRRIII_c, aRIIII_c, aRL_c, aRLL_c, aLL_c, aRRRI_c, aIL_c, aIIII_c, aRRIIII_c, aIRII_c, aIR_c, aLI_c, aRIR_c, aRIIR_c]
  exact K
def mpPoa : Sp := fun as t σ Q => aRRI as fun a r s => a = 175 ∧ MdOk t σ ∧ RowT t r ∧ (0 ≤ s ∧ s < 4) ∧ Q (some (vI (sumW (fun i => partV (vA σ r) i s) (nM σ)))) t σ
theorem m_partsOfAll {l : Launch} {g : GE} {d : Nat} {t : Tau} {σ : Mem} {Q : Post} {as : List TV} (h : mpPoa as t σ Q) : WPc l g 212 (d + 2) 0 0 as t σ Q := by
  obtain ⟨a, r, s, rfl, rfl, ⟨hM, z0, n6⟩, hr, ⟨s0, s1⟩, h⟩ := aRRI_e h
  have K : Wp l g 212 (d + 2) 0 0 5 [(0, vR 175), (1, vR r), (2, vI s), (3, vI (sumW (fun i => partV (vA σ r) i s) 0)), (4, vI (0 : Nat))] [] t σ Q := by
    refine lpU (P := fun i => Wp l g 212 (d + 2) 0 0 5 [(0, vR 175), (1, vR r), (2, vI s), (3, vI (sumW (fun i => partV (vA σ r) i s) i)), (4, vI i)] [] t σ Q) (n := nM σ) ?_ (fun i hi K => ?_)
    · refine wa (by decide) rgM1_ok tk_212 30 (fun N hN => ?_)
      simp [bl_212, hN _, x_iconst, x_ldc2_w, x_aconst_null, x_iload, x_lload, x_aload, x_istore, x_lstore, x_astore, x_iinc, x_iadd, x_isub, x_imul, x_idiv, x_irem, x_iand, x_ior, x_ixor, x_ishl, x_ishr, x_iushr, x_ineg, x_ladd, x_lsub, x_lmul, x_ldiv, x_lrem, x_lcmp, x_i2l, x_i2b, x_i2s, x_i2c, x_dup, x_pop, x_dup_x1, x_dup2, x_getfield, x_putfield, x_iaload, x_baload, x_saload, x_caload, x_daload, x_faload, x_laload, x_aaload, x_iastore, x_bastore, x_sastore, x_castore, x_lastore, x_aastore, x_arraylength, x_getstatic, x_goto, x_goto_w, x_ifCond, x_if_icmp, x_ifnull, x_ifnonnull, x_lookupswitch, x_invokevirtual, x_invokestatic, x_invokedynamic, x_ireturn, x_freturn, x_dreturn, x_lreturn, x_areturn, x_return_, pI_c, pL_c, pR_c, pV_i, pV_r, gI_c, gL_c, gR_c, pN_z, pN_s, lget_c, lins_z, lins_c, ldel_z, ldel_c, ldel2_z, ldel2_c, lset_i, lset_l, lset_r, lkeep_z, lkeep_c, largs_z, largs_c, cat_i, cat_l, cat_r, lkp_c, cnd_eq, cnd_ne, cnd_lt, cnd_ge, cnd_gt, cnd_le, swL_z, swL_c, rE_e, rOr_s, rOr_n, rlk_z, rlk_c, aR_c, aI_c, aII_c, aIII_c, aRI_c, aRII_c, aRIII_c, vJn, vJs, vlc, aRR_c, aRRI_c, aRRII_c, aRRIII_c, aRIIII_c, aRL_c, aRLL_c, aLL_c, aRRRI_c, aIL_c, aIIII_c, aRRIIII_c, aIRII_c, aIR_c, aLI_c, aRIR_c, aRIIR_c, hM.o, z0]
      exact h
    · have e2 := w32_succ (k := i) (by omega); have i1 : ((i : Nat) : Int) < (nM σ : Nat) := (by omega); have i1n : i < nM σ := (by omega); have i1x : ¬ nM σ ≤ i := (by omega)
      have i6 : (i : Int) < 6 := by omega
      have i6n : i < 6 := by omega
      refine wa (by decide) rgM1_ok tk_212 30 (fun N hN => ?_)
      simp [bl_212, hN _, x_iconst, x_ldc2_w, x_aconst_null, x_iload, x_lload, x_aload, x_istore, x_lstore, x_astore, x_iinc, x_iadd, x_isub, x_imul, x_idiv, x_irem, x_iand, x_ior, x_ixor, x_ishl, x_ishr, x_iushr, x_ineg, x_ladd, x_lsub, x_lmul, x_ldiv, x_lrem, x_lcmp, x_i2l, x_i2b, x_i2s, x_i2c, x_dup, x_pop, x_dup_x1, x_dup2, x_getfield, x_putfield, x_iaload, x_baload, x_saload, x_caload, x_daload, x_faload, x_laload, x_aaload, x_iastore, x_bastore, x_sastore, x_castore, x_lastore, x_aastore, x_arraylength, x_getstatic, x_goto, x_goto_w, x_ifCond, x_if_icmp, x_ifnull, x_ifnonnull, x_lookupswitch, x_invokevirtual, x_invokestatic, x_invokedynamic, x_ireturn, x_freturn, x_dreturn, x_lreturn, x_areturn, x_return_, pI_c, pL_c, pR_c, pV_i, pV_r, gI_c, gL_c, gR_c, pN_z, pN_s, lget_c, lins_z, lins_c, ldel_z, ldel_c, ldel2_z, ldel2_c, lset_i, lset_l, lset_r, lkeep_z, lkeep_c, largs_z, largs_c, cat_i, cat_l, cat_r, lkp_c, cnd_eq, cnd_ne, cnd_lt, cnd_ge, cnd_gt, cnd_le, swL_z, swL_c, rE_e, rOr_s, rOr_n, rlk_z, rlk_c, aR_c, aI_c, aII_c, aIII_c, aRI_c, aRII_c, aRIII_c, vJn, vJs, vlc, aRR_c, aRRI_c, aRRII_c, aRRIII_c, aRIIII_c, aRL_c, aRLL_c, aLL_c, aRRRI_c, aIL_c, aIIII_c, aRRIIII_c, aIRII_c, aIR_c, aLI_c, aRIR_c, aRIIR_c, mpPart, hM.o, z0, e2, i1, i1n, i1x, hr, s0, s1, i6, i6n]
      exact K
  refine wg (by decide) rgM1_ok tk_212 py_212 ml_212 30 (by simp [catT]) (fun N hN => ?_)
  simp [bl_212, hN _, x_iconst, x_ldc2_w, x_aconst_null, x_iload, x_lload, x_aload, x_istore, x_lstore, x_astore, x_iinc, x_iadd, x_isub, x_imul, x_idiv, x_irem, x_iand, x_ior, x_ixor, x_ishl, x_ishr, x_iushr, x_ineg, x_ladd, x_lsub, x_lmul, x_ldiv, x_lrem, x_lcmp, x_i2l, x_i2b, x_i2s, x_i2c, x_dup, x_pop, x_dup_x1, x_dup2, x_getfield, x_putfield, x_iaload, x_baload, x_saload, x_caload, x_daload, x_faload, x_laload, x_aaload, x_iastore, x_bastore, x_sastore, x_castore, x_lastore, x_aastore, x_arraylength, x_getstatic, x_goto, x_goto_w, x_ifCond, x_if_icmp, x_ifnull, x_ifnonnull, x_lookupswitch, x_invokevirtual, x_invokestatic, x_invokedynamic, x_ireturn, x_freturn, x_dreturn, x_lreturn, x_areturn, x_return_, pI_c, pL_c, pR_c, pV_i, pV_r, gI_c, gL_c, gR_c, pN_z, pN_s, lget_c, lins_z, lins_c, ldel_z, ldel_c, ldel2_z, ldel2_c, lset_i, lset_l, lset_r, lkeep_z, lkeep_c, largs_z, largs_c, cat_i, cat_l, cat_r, lkp_c, cnd_eq, cnd_ne, cnd_lt, cnd_ge, cnd_gt, cnd_le, swL_z, swL_c, rE_e, rOr_s, rOr_n, rlk_z, rlk_c, aR_c, aI_c, aII_c, aIII_c, aRI_c, aRII_c, aRIII_c, vJn, vJs, vlc, aRR_c, aRRI_c, aRRII_c, aRRIII_c, aRIIII_c, aRL_c, aRLL_c, aLL_c, aRRRI_c, aIL_c, aIIII_c, aRRIIII_c, aIRII_c, aIR_c, aLI_c, aRIR_c, aRIIR_c]
  exact K
/-- the row of from is laid into to at k -/
def mpLay : Sp := fun as t σ Q => aRRI as fun f r k => RowT t f ∧ isT t r 0 ∧ f ≠ r ∧ (0 ≤ k ∧ k + 50 ≤ lenOf t r) ∧ lenOf t r ≤ 1000 ∧ ∀ σ', (∀ o, o ≠ r → σ' o = σ o) → (∀ j, σ' r j = if k ≤ j ∧ j < k + 50 then σ f (j - k) else σ r j) → Q none t σ'
theorem m_lay {l : Launch} {g : GE} {d : Nat} {t : Tau} {σ : Mem} {Q : Post} {as : List TV} (h : mpLay as t σ Q) : WPc l g 203 (d + 1) 0 0 as t σ Q := by
  obtain ⟨f, r, k, rfl, hf, hr, hne, ⟨k0, k1⟩, kl, h⟩ := aRRI_e h
  have K : ∀ σ', (∀ o, o ≠ r → σ' o = σ o) → (∀ j, σ' r j = if k ≤ j ∧ j < k + (0 : Nat) then σ f (j - k) else σ r j) → Wp l g 203 (d + 1) 0 0 2 [(0, vR f), (1, vR r), (2, vI k), (3, vI (0 : Nat))] [] t σ' Q := by
    refine lpU (P := fun i => ∀ σ', (∀ o, o ≠ r → σ' o = σ o) → (∀ j, σ' r j = if k ≤ j ∧ j < k + (i : Nat) then σ f (j - k) else σ r j) → Wp l g 203 (d + 1) 0 0 2 [(0, vR f), (1, vR r), (2, vI k), (3, vI i)] [] t σ' Q) (n := 50) ?_ (fun i hi K σ' h1 h2 => ?_)
    · intro σ' h1 h2
      refine wa (by decide) rE_nil tk_203 30 (fun N hN => ?_)
      simp [bl_203, hN _, x_iconst, x_ldc2_w, x_aconst_null, x_iload, x_lload, x_aload, x_istore, x_lstore, x_astore, x_iinc, x_iadd, x_isub, x_imul, x_idiv, x_irem, x_iand, x_ior, x_ixor, x_ishl, x_ishr, x_iushr, x_ineg, x_ladd, x_lsub, x_lmul, x_ldiv, x_lrem, x_lcmp, x_i2l, x_i2b, x_i2s, x_i2c, x_dup, x_pop, x_dup_x1, x_dup2, x_getfield, x_putfield, x_iaload, x_baload, x_saload, x_caload, x_daload, x_faload, x_laload, x_aaload, x_iastore, x_bastore, x_sastore, x_castore, x_lastore, x_aastore, x_arraylength, x_getstatic, x_goto, x_goto_w, x_ifCond, x_if_icmp, x_ifnull, x_ifnonnull, x_lookupswitch, x_invokevirtual, x_invokestatic, x_invokedynamic, x_ireturn, x_freturn, x_dreturn, x_lreturn, x_areturn, x_return_, pI_c, pL_c, pR_c, pV_i, pV_r, gI_c, gL_c, gR_c, pN_z, pN_s, lget_c, lins_z, lins_c, ldel_z, ldel_c, ldel2_z, ldel2_c, lset_i, lset_l, lset_r, lkeep_z, lkeep_c, largs_z, largs_c, cat_i, cat_l, cat_r, lkp_c, cnd_eq, cnd_ne, cnd_lt, cnd_ge, cnd_gt, cnd_le, swL_z, swL_c, rE_e, rOr_s, rOr_n, rlk_z, rlk_c, aR_c, aI_c, aII_c, aIII_c, aRI_c, aRII_c, aRIII_c, vJn, vJs, vlc, aRR_c, aRRI_c, aRRII_c, aRRIII_c, aRIIII_c, aRL_c, aRLL_c, aLL_c, aRRRI_c, aIL_c, aIIII_c, aRRIIII_c, aIRII_c, aIR_c, aLI_c, aRIR_c, aRIIR_c]
      exact h σ' h1 h2
    · have e2 := w32_succ (k := i) (by omega); have i1 : ((i : Nat) : Int) < 50 := (by omega); have i1n : i < 50 := (by omega); have i1x : ¬ (50 : Int) ≤ (i : Nat) := (by omega)
      have e3 : w32 (k + i) = k + i := w32_id (by omega) (by omega)
      have e4 : 0 ≤ k + (i : Int) := by omega
      have e5 : k + (i : Int) < lenOf t r := by omega
      have e6 : σ' f i = σ f i := by rw [h1 f hne]
      refine wa (by decide) rE_nil tk_203 30 (fun N hN => ?_)
      simp [bl_203, hN _, x_iconst, x_ldc2_w, x_aconst_null, x_iload, x_lload, x_aload, x_istore, x_lstore, x_astore, x_iinc, x_iadd, x_isub, x_imul, x_idiv, x_irem, x_iand, x_ior, x_ixor, x_ishl, x_ishr, x_iushr, x_ineg, x_ladd, x_lsub, x_lmul, x_ldiv, x_lrem, x_lcmp, x_i2l, x_i2b, x_i2s, x_i2c, x_dup, x_pop, x_dup_x1, x_dup2, x_getfield, x_putfield, x_iaload, x_baload, x_saload, x_caload, x_daload, x_faload, x_laload, x_aaload, x_iastore, x_bastore, x_sastore, x_castore, x_lastore, x_aastore, x_arraylength, x_getstatic, x_goto, x_goto_w, x_ifCond, x_if_icmp, x_ifnull, x_ifnonnull, x_lookupswitch, x_invokevirtual, x_invokestatic, x_invokedynamic, x_ireturn, x_freturn, x_dreturn, x_lreturn, x_areturn, x_return_, pI_c, pL_c, pR_c, pV_i, pV_r, gI_c, gL_c, gR_c, pN_z, pN_s, lget_c, lins_z, lins_c, ldel_z, ldel_c, ldel2_z, ldel2_c, lset_i, lset_l, lset_r, lkeep_z, lkeep_c, largs_z, largs_c, cat_i, cat_l, cat_r, lkp_c, cnd_eq, cnd_ne, cnd_lt, cnd_ge, cnd_gt, cnd_le, swL_z, swL_c, rE_e, rOr_s, rOr_n, rlk_z, rlk_c, aR_c, aI_c, aII_c, aIII_c, aRI_c, aRII_c, aRIII_c, vJn, vJs, vlc, aRR_c, aRRI_c, aRRII_c, aRRIII_c, aRIIII_c, aRL_c, aRLL_c, aLL_c, aRRRI_c, aIL_c, aIIII_c, aRRIIII_c, aIRII_c, aIR_c, aLI_c, aRIR_c, aRIIR_c, e2, i1, i1n, i1x, hf.1, hf.2, hr, e3, e4, e5, e6]
      refine K _ (fun o ho => by rw [up_ne ho]; exact h1 o ho) (fun j => ?_)
      rw [up_ap, h2 j]
      by_cases hj : j = k + i
      · subst hj
        rw [if_pos ⟨rfl, rfl⟩, if_pos ⟨by omega, by omega⟩]
        congr 1; omega
      · rw [if_neg (fun z => hj z.2)]
        by_cases hc : k ≤ j ∧ j < k + (i : Int)
        · rw [if_pos hc, if_pos ⟨hc.1, by omega⟩]
        · rw [if_neg hc, if_neg (by omega)]
  have K := K σ (fun _ _ => rfl) (fun j => by rw [if_neg (by omega)])
  refine wg (by decide) rE_nil tk_203 py_203 ml_203 30 (by simp [catT]) (fun N hN => ?_)
  simp [bl_203, hN _, x_iconst, x_ldc2_w, x_aconst_null, x_iload, x_lload, x_aload, x_istore, x_lstore, x_astore, x_iinc, x_iadd, x_isub, x_imul, x_idiv, x_irem, x_iand, x_ior, x_ixor, x_ishl, x_ishr, x_iushr, x_ineg, x_ladd, x_lsub, x_lmul, x_ldiv, x_lrem, x_lcmp, x_i2l, x_i2b, x_i2s, x_i2c, x_dup, x_pop, x_dup_x1, x_dup2, x_getfield, x_putfield, x_iaload, x_baload, x_saload, x_caload, x_daload, x_faload, x_laload, x_aaload, x_iastore, x_bastore, x_sastore, x_castore, x_lastore, x_aastore, x_arraylength, x_getstatic, x_goto, x_goto_w, x_ifCond, x_if_icmp, x_ifnull, x_ifnonnull, x_lookupswitch, x_invokevirtual, x_invokestatic, x_invokedynamic, x_ireturn, x_freturn, x_dreturn, x_lreturn, x_areturn, x_return_, pI_c, pL_c, pR_c, pV_i, pV_r, gI_c, gL_c, gR_c, pN_z, pN_s, lget_c, lins_z, lins_c, ldel_z, ldel_c, ldel2_z, ldel2_c, lset_i, lset_l, lset_r, lkeep_z, lkeep_c, largs_z, largs_c, cat_i, cat_l, cat_r, lkp_c, cnd_eq, cnd_ne, cnd_lt, cnd_ge, cnd_gt, cnd_le, swL_z, swL_c, rE_e, rOr_s, rOr_n, rlk_z, rlk_c, aR_c, aI_c, aII_c, aIII_c, aRI_c, aRII_c, aRIII_c, vJn, vJs, vlc, aRR_c, aRRI_c, aRRII_c, aRRIII_c, aRIIII_c, aRL_c, aRLL_c, aLL_c, aRRRI_c, aIL_c, aIIII_c, aRRIIII_c, aIRII_c, aIR_c, aLI_c, aRIR_c, aRIIR_c]
  exact K
