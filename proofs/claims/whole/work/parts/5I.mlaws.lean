/-! the reference: laws -/
noncomputable def tD (b : Int) (k : Int) : Int := if iand (ishr b k) 1 = 1 then 1 else 0
noncomputable abbrev mtP (σ : Mem) : Nat → Bool := lwB (σ 193) (σ 194) (tD (σ 175 33)) (σ 175 34).toNat
def MtOk (σ : Mem) : Prop := (0 ≤ σ 175 34 ∧ σ 175 34 ≤ 12) ∧ ∀ k : Int, 0 ≤ k → k < σ 175 34 → (0 ≤ σ 193 k ∧ σ 193 k ≤ 12) ∧ (0 ≤ σ 194 k ∧ σ 194 k ≤ 12)
def mpGby : Sp := fun as t σ Q => aIIII as fun a b o e => (0 ≤ a ∧ a ≤ 12) ∧ (0 ≤ b ∧ b ≤ 12) ∧ (0 ≤ o ∧ o ≤ 12) ∧ (0 ≤ e ∧ e ≤ 12) ∧ Q (some (vI (if ovB (13 * a.toNat + b.toNat) o e then 1 else 0))) t σ
theorem m_goesBy {l : Launch} {g : GE} {d : Nat} {t : Tau} {σ : Mem} {Q : Post} {as : List TV} (h0 : mpGby as t σ Q) : WPc l g 261 (d + 1) 0 0 as t σ Q := by
  obtain ⟨a, b, o, e, rfl, ha, hb, ho, he, h⟩ := aIIII_e h0
  clear h0
  have e1 : w32 (o + b) = o + b := w32_id (by omega) (by omega)
  have e2 : (((13 * a.toNat + b.toNat) / 13 : Nat) : Int) = a := by omega
  have e3 : (((13 * a.toNat + b.toNat) % 13 : Nat) : Int) = b := by omega
  unfold ovB at h
  rw [e2, e3] at h
  refine wg (by decide) rE_nil tk_261 py_261 ml_261 30 (by simp [catT]) (fun N hN => ?_)
  simp [bl_261, hN _, x_iconst, x_ldc2_w, x_aconst_null, x_iload, x_lload, x_aload, x_istore, x_lstore, x_astore, x_iinc, x_iadd, x_isub, x_imul, x_idiv, x_irem, x_iand, x_ior, x_ixor, x_ishl, x_ishr, x_iushr, x_ineg, x_ladd, x_lsub, x_lmul, x_ldiv, x_lrem, x_lcmp, x_i2l, x_i2b, x_i2s, x_i2c, x_dup, x_pop, x_dup_x1, x_dup2, x_getfield, x_putfield, x_iaload, x_baload, x_saload, x_caload, x_daload, x_faload, x_laload, x_aaload, x_iastore, x_bastore, x_sastore, x_castore, x_lastore, x_aastore, x_arraylength, x_getstatic, x_goto, x_goto_w, x_ifCond, x_if_icmp, x_ifnull, x_ifnonnull, x_lookupswitch, x_invokevirtual, x_invokestatic, x_invokedynamic, x_ireturn, x_freturn, x_dreturn, x_lreturn, x_areturn, x_return_, pI_c, pL_c, pR_c, pV_i, pV_r, gI_c, gL_c, gR_c, pN_z, pN_s, lget_c, lins_z, lins_c, ldel_z, ldel_c, ldel2_z, ldel2_c, lset_i, lset_l, lset_r, lkeep_z, lkeep_c, largs_z, largs_c, cat_i, cat_l, cat_r, lkp_c, cnd_eq, cnd_ne, cnd_lt, cnd_ge, cnd_gt, cnd_le, swL_z, swL_c, rE_e, rOr_s, rOr_n, rlk_z, rlk_c, aR_c, aI_c, aII_c, aIII_c, aRI_c, aRII_c, aRIII_c, vJn, vJs, vlc, aRR_c, aRRI_c, aRRII_c, aRRIII_c, aRIIII_c, aRL_c, aRLL_c, aLL_c, aRRRI_c, aIL_c, aIIII_c, aRRIIII_c, aIRII_c, aIR_c, aLI_c, aRIR_c, aRIIR_c, e1]
  by_cases c1 : o < a
  · simp [c1] at h ⊢; first | exact h | exact ⟨h, fun z => by omega⟩
  · by_cases c2 : b ≤ e - o
    · have c3 : ¬ e < o + b := by omega
      simp [c1, c2, c3] at h ⊢; grind
    · have c3 : e < o + b := by omega
      simp [c1, c2, c3] at h ⊢; grind
theorem rgGb_ok {l : Launch} {g : GE} {d : Nat} : ∀ e as t σ Q, rE l g (d + 1) [(261, mpGby), (168, mpHas)] e as t σ Q → WPc l g e (d + 1) 0 0 as t σ Q := rE_cons (fun _ _ _ _ h => m_goesBy h) rgHa_ok
def mpLaw : Sp := fun as t σ Q => aRII as fun x a b => x = 175 ∧ TM t ∧ MtOk σ ∧ (0 ≤ a ∧ a ≤ 12) ∧ (0 ≤ b ∧ b ≤ 12) ∧ Q (some (vI (if mtP σ (13 * a.toNat + b.toNat) then 1 else 0))) t σ
theorem m_isLaw {l : Launch} {g : GE} {d : Nat} {t : Tau} {σ : Mem} {Q : Post} {as : List TV} (h0 : mpLaw as t σ Q) : WPc l g 262 (d + 2) 0 0 as t σ Q := by
  obtain ⟨x, a, b, rfl, rfl, hM, ⟨⟨m0, m1⟩, hv⟩, ha, hb, h⟩ := aRII_e h0
  clear h0
  obtain ⟨m, hm⟩ : ∃ m : Nat, σ 175 34 = m := ⟨(σ 175 34).toNat, by omega⟩
  unfold mtP lwB at h
  rw [hm] at h m1
  simp only [Int.toNat_natCast] at h
  generalize hE : 13 * a.toNat + b.toNat = E at h
  generalize hp : (fun k : Nat => ovB E (σ 193 k) (σ 194 k) == decide (tD (σ 175 33) k = 1)) = p at h
  have K : sA p 0 = true → Wp l g 262 (d + 2) 0 0 2 [(0, vR 175), (1, vI a), (2, vI b), (3, vI (0 : Nat))] [] t σ Q := by
    refine lpU (P := fun j => sA p j = true → Wp l g 262 (d + 2) 0 0 2 [(0, vR 175), (1, vI a), (2, vI b), (3, vI j)] [] t σ Q) (n := m) ?_ (fun j hj K hs => ?_)
    · intro hs
      simp only [hs] at h
      refine wa (by decide) rgGb_ok tk_262 30 (fun N hN => ?_)
      simp [bl_262, hN _, x_iconst, x_ldc2_w, x_aconst_null, x_iload, x_lload, x_aload, x_istore, x_lstore, x_astore, x_iinc, x_iadd, x_isub, x_imul, x_idiv, x_irem, x_iand, x_ior, x_ixor, x_ishl, x_ishr, x_iushr, x_ineg, x_ladd, x_lsub, x_lmul, x_ldiv, x_lrem, x_lcmp, x_i2l, x_i2b, x_i2s, x_i2c, x_dup, x_pop, x_dup_x1, x_dup2, x_getfield, x_putfield, x_iaload, x_baload, x_saload, x_caload, x_daload, x_faload, x_laload, x_aaload, x_iastore, x_bastore, x_sastore, x_castore, x_lastore, x_aastore, x_arraylength, x_getstatic, x_goto, x_goto_w, x_ifCond, x_if_icmp, x_ifnull, x_ifnonnull, x_lookupswitch, x_invokevirtual, x_invokestatic, x_invokedynamic, x_ireturn, x_freturn, x_dreturn, x_lreturn, x_areturn, x_return_, pI_c, pL_c, pR_c, pV_i, pV_r, gI_c, gL_c, gR_c, pN_z, pN_s, lget_c, lins_z, lins_c, ldel_z, ldel_c, ldel2_z, ldel2_c, lset_i, lset_l, lset_r, lkeep_z, lkeep_c, largs_z, largs_c, cat_i, cat_l, cat_r, lkp_c, cnd_eq, cnd_ne, cnd_lt, cnd_ge, cnd_gt, cnd_le, swL_z, swL_c, rE_e, rOr_s, rOr_n, rlk_z, rlk_c, aR_c, aI_c, aII_c, aIII_c, aRI_c, aRII_c, aRIII_c, vJn, vJs, vlc, aRR_c, aRRI_c, aRRII_c, aRRIII_c, aRIIII_c, aRL_c, aRLL_c, aLL_c, aRRRI_c, aIL_c, aIIII_c, aRRIIII_c, aIRII_c, aIR_c, aLI_c, aRIR_c, aRIIR_c, hM.o, hm]
      simpa using h
    · have e2 := w32_succ (k := j) (by omega); have i1 : ((j : Nat) : Int) < (m : Nat) := (by omega); have i1n : j < m := (by omega); have i1x : ¬ m ≤ j := (by omega)
      have hvj := hv j (by omega) (by omega)
      have j12 : (j : Int) < 12 := by omega
      have j12n : j < 12 := by omega
      have es : sA p (j + 1) = (sA p j && p j) := rfl
      rw [es, hs] at K
      have hf := sA_f (p := p) (k := j) (m := m)
      have hpj : p j = (ovB E (σ 193 j) (σ 194 j) == decide (tD (σ 175 33) j = 1)) := by rw [← hp]
      refine wa (by decide) rgGb_ok tk_262 30 (fun N hN => ?_)
      simp [bl_262, hN _, x_iconst, x_ldc2_w, x_aconst_null, x_iload, x_lload, x_aload, x_istore, x_lstore, x_astore, x_iinc, x_iadd, x_isub, x_imul, x_idiv, x_irem, x_iand, x_ior, x_ixor, x_ishl, x_ishr, x_iushr, x_ineg, x_ladd, x_lsub, x_lmul, x_ldiv, x_lrem, x_lcmp, x_i2l, x_i2b, x_i2s, x_i2c, x_dup, x_pop, x_dup_x1, x_dup2, x_getfield, x_putfield, x_iaload, x_baload, x_saload, x_caload, x_daload, x_faload, x_laload, x_aaload, x_iastore, x_bastore, x_sastore, x_castore, x_lastore, x_aastore, x_arraylength, x_getstatic, x_goto, x_goto_w, x_ifCond, x_if_icmp, x_ifnull, x_ifnonnull, x_lookupswitch, x_invokevirtual, x_invokestatic, x_invokedynamic, x_ireturn, x_freturn, x_dreturn, x_lreturn, x_areturn, x_return_, pI_c, pL_c, pR_c, pV_i, pV_r, gI_c, gL_c, gR_c, pN_z, pN_s, lget_c, lins_z, lins_c, ldel_z, ldel_c, ldel2_z, ldel2_c, lset_i, lset_l, lset_r, lkeep_z, lkeep_c, largs_z, largs_c, cat_i, cat_l, cat_r, lkp_c, cnd_eq, cnd_ne, cnd_lt, cnd_ge, cnd_gt, cnd_le, swL_z, swL_c, rE_e, rOr_s, rOr_n, rlk_z, rlk_c, aR_c, aI_c, aII_c, aIII_c, aRI_c, aRII_c, aRIII_c, vJn, vJs, vlc, aRR_c, aRRI_c, aRRII_c, aRRIII_c, aRIIII_c, aRL_c, aRLL_c, aLL_c, aRRRI_c, aIL_c, aIIII_c, aRRIIII_c, aIRII_c, aIR_c, aLI_c, aRIR_c, aRIIR_c, hM.o, hM.f31, hM.f32, hM.t193, hM.l193, hM.t194, hM.l194, hm, e2, i1, i1n, i1x, mpGby, mpHas, ha, hb, hvj, j12, j12n, hE]
      unfold tD at hpj
      by_cases c1 : ovB E (σ 193 j) (σ 194 j) = true <;> by_cases c2 : iand (ishr (σ 175 33) j) 1 = 1
      · have : p j = true := by rw [hpj, c1]; simp [c2]
        rw [this] at K
        simp [c1, c2]
        simpa using K rfl
      · have : p j = false := by rw [hpj, c1]; simp [c2]
        simp only [hf this hj] at h
        simp [c1, c2]
        simpa using h
      · have : p j = false := by rw [hpj]; simp [c1, c2]
        simp only [hf this hj] at h
        simp [c1, c2]
        simpa using h
      · have : p j = true := by rw [hpj]; simp [c1, c2]
        rw [this] at K
        simp [c1, c2]
        simpa using K rfl
  refine wg (by decide) rgGb_ok tk_262 py_262 ml_262 30 (by simp [catT]) (fun N hN => ?_)
  simp [bl_262, hN _, x_iconst, x_ldc2_w, x_aconst_null, x_iload, x_lload, x_aload, x_istore, x_lstore, x_astore, x_iinc, x_iadd, x_isub, x_imul, x_idiv, x_irem, x_iand, x_ior, x_ixor, x_ishl, x_ishr, x_iushr, x_ineg, x_ladd, x_lsub, x_lmul, x_ldiv, x_lrem, x_lcmp, x_i2l, x_i2b, x_i2s, x_i2c, x_dup, x_pop, x_dup_x1, x_dup2, x_getfield, x_putfield, x_iaload, x_baload, x_saload, x_caload, x_daload, x_faload, x_laload, x_aaload, x_iastore, x_bastore, x_sastore, x_castore, x_lastore, x_aastore, x_arraylength, x_getstatic, x_goto, x_goto_w, x_ifCond, x_if_icmp, x_ifnull, x_ifnonnull, x_lookupswitch, x_invokevirtual, x_invokestatic, x_invokedynamic, x_ireturn, x_freturn, x_dreturn, x_lreturn, x_areturn, x_return_, pI_c, pL_c, pR_c, pV_i, pV_r, gI_c, gL_c, gR_c, pN_z, pN_s, lget_c, lins_z, lins_c, ldel_z, ldel_c, ldel2_z, ldel2_c, lset_i, lset_l, lset_r, lkeep_z, lkeep_c, largs_z, largs_c, cat_i, cat_l, cat_r, lkp_c, cnd_eq, cnd_ne, cnd_lt, cnd_ge, cnd_gt, cnd_le, swL_z, swL_c, rE_e, rOr_s, rOr_n, rlk_z, rlk_c, aR_c, aI_c, aII_c, aIII_c, aRI_c, aRII_c, aRIII_c, vJn, vJs, vlc, aRR_c, aRRI_c, aRRII_c, aRRIII_c, aRIIII_c, aRL_c, aRLL_c, aLL_c, aRRRI_c, aIL_c, aIIII_c, aRRIIII_c, aIRII_c, aIR_c, aLI_c, aRIR_c, aRIIR_c]
  exact K rfl
theorem fF_up (p : Nat → Bool) (d : Int) : ∀ k a, fF p a d (k + 1) = if cF p a k = 0 then (if p (a + k) then ((a + k : Nat) : Int) else d) else fF p a d k
  | 0, a => by
    show (if p a then (a : Int) else d) = _
    rw [if_pos (show cF p a 0 = 0 from rfl)]; rfl
  | k + 1, a => by
    have ih := fF_up p d k (a + 1)
    show (if p a then (a : Int) else fF p (a + 1) d (k + 1)) = if (if p a then 1 else 0) + cF p (a + 1) k = 0 then (if p (a + (k + 1)) then ((a + (k + 1) : Nat) : Int) else d) else (if p a then (a : Int) else fF p (a + 1) d k)
    rw [ih]
    by_cases hp : p a = true
    · simp [hp]
    · simp [hp]
      rw [show a + 1 + k = a + (k + 1) by omega, show (a : Int) + 1 + k = a + (k + 1) by omega]
def lwR (p : Nat → Bool) (k : Nat) : List Int := if cF p 0 k = 0 then [] else [fF p 0 0 k / 13, fF p 0 0 k % 13]
theorem lwR_up (p : Nat → Bool) (k : Nat) : lwR p (k + 1) = if cF p 0 k = 0 ∧ p k = true then [(k : Int) / 13, (k : Int) % 13] else lwR p k := by
  unfold lwR
  rw [cF_up, fF_up, Nat.zero_add]
  by_cases h1 : cF p 0 k = 0
  · by_cases h2 : p k = true
    · simp [h1, h2]
    · simp [h1, h2]
  · simp [h1]
abbrev rgNl : Reg := (262, mpLaw) :: (261, mpGby) :: rgNf
theorem rgNl_ok {l : Launch} {g : GE} {d : Nat} : ∀ e as t σ Q, rE l g (d + 5) rgNl e as t σ Q → WPc l g e (d + 5) 0 0 as t σ Q := rE_cons (fun _ _ _ _ h => m_isLaw h) (rE_cons (fun _ _ _ _ h => m_goesBy h) rgNf_ok)
/-- the told tales are as they were -/
theorem QFM.mt {σ σ' : Mem} (h : QFM σ σ') : (MtOk σ → MtOk σ') ∧ mtP σ' = mtP σ := by
  have e1 := h.2 33 (by unfold scrF; omega)
  have e2 := h.2 34 (by unfold scrF; omega)
  have e3 := h.1 193 (by omega) (by unfold scrM; omega)
  have e4 := h.1 194 (by omega) (by unfold scrM; omega)
  unfold MtOk mtP
  rw [e1, e2, e3, e4]
  exact ⟨id, rfl⟩
set_option maxHeartbeats 1000000 in
theorem mo_laws {l : Launch} {g : GE} {d : Nat} {t : Tau} {σ : Mem} {Q : Post} (hM : TM t) (hT : MtOk σ) (h : ansM (lawsQ (mtP σ)) t σ Q) : WPc l g 263 (d + 6) 0 0 [vR 175] t σ Q := by
  unfold ansM lawsQ at h
  generalize hp : mtP σ = p at h
  have O : ∀ σ', QFM σ σ' ∧ σ' 175 8 = 0 → rmIs σ' (lwR p (13 * 0)) → Wp l g 263 (d + 6) 0 0 14 [(0, vR 175), (1, vI (cF p 0 (13 * 0) : Nat)), (2, vI (0 : Nat))] [] t σ' Q := by
    refine lpU (P := fun a => ∀ σ', QFM σ σ' ∧ σ' 175 8 = 0 → rmIs σ' (lwR p (13 * a)) → Wp l g 263 (d + 6) 0 0 14 [(0, vR 175), (1, vI (cF p 0 (13 * a) : Nat)), (2, vI a)] [] t σ' Q) (n := 13) ?_ (fun a ha KO σ' q hr => ?_)
    · intro σ' q hr
      refine wa (by decide) rgNl_ok tk_263 30 (fun N hN => ?_)
      simp [bl_263, hN _, x_iconst, x_ldc2_w, x_aconst_null, x_iload, x_lload, x_aload, x_istore, x_lstore, x_astore, x_iinc, x_iadd, x_isub, x_imul, x_idiv, x_irem, x_iand, x_ior, x_ixor, x_ishl, x_ishr, x_iushr, x_ineg, x_ladd, x_lsub, x_lmul, x_ldiv, x_lrem, x_lcmp, x_i2l, x_i2b, x_i2s, x_i2c, x_dup, x_pop, x_dup_x1, x_dup2, x_getfield, x_putfield, x_iaload, x_baload, x_saload, x_caload, x_daload, x_faload, x_laload, x_aaload, x_iastore, x_bastore, x_sastore, x_castore, x_lastore, x_aastore, x_arraylength, x_getstatic, x_goto, x_goto_w, x_ifCond, x_if_icmp, x_ifnull, x_ifnonnull, x_lookupswitch, x_invokevirtual, x_invokestatic, x_invokedynamic, x_ireturn, x_freturn, x_dreturn, x_lreturn, x_areturn, x_return_, pI_c, pL_c, pR_c, pV_i, pV_r, gI_c, gL_c, gR_c, pN_z, pN_s, lget_c, lins_z, lins_c, ldel_z, ldel_c, ldel2_z, ldel2_c, lset_i, lset_l, lset_r, lkeep_z, lkeep_c, largs_z, largs_c, cat_i, cat_l, cat_r, lkp_c, cnd_eq, cnd_ne, cnd_lt, cnd_ge, cnd_gt, cnd_le, swL_z, swL_c, rE_e, rOr_s, rOr_n, rlk_z, rlk_c, aR_c, aI_c, aII_c, aIII_c, aRI_c, aRII_c, aRIII_c, vJn, vJs, vlc, aRR_c, aRRI_c, aRRII_c, aRRIII_c, aRIIII_c, aRL_c, aRLL_c, aLL_c, aRRRI_c, aIL_c, aIIII_c, aRRIIII_c, aIRII_c, aIR_c, aLI_c, aRIR_c, aRIIR_c]
      exact h σ' ⟨q.1, q.2, hr⟩
    · have ea := w32_succ (k := a) (by omega)
      have a1 : ¬ (12 : Int) < a := by omega
      have a2 : (a : Int) ≤ 12 := by omega
      have a3 : a ≤ 12 := by omega
      have a4 : ¬ 12 < a := by omega
      have I : ∀ σ', QFM σ σ' ∧ σ' 175 8 = 0 → rmIs σ' (lwR p (13 * a + 0)) → Wp l g 263 (d + 6) 0 0 22 [(0, vR 175), (1, vI (cF p 0 (13 * a + 0) : Nat)), (2, vI a), (3, vI (0 : Nat))] [] t σ' Q := by
        refine lpU (P := fun b => ∀ σ', QFM σ σ' ∧ σ' 175 8 = 0 → rmIs σ' (lwR p (13 * a + b)) → Wp l g 263 (d + 6) 0 0 22 [(0, vR 175), (1, vI (cF p 0 (13 * a + b) : Nat)), (2, vI a), (3, vI b)] [] t σ' Q) (n := 13) ?_ (fun b hb K σ' q hr => ?_)
        · intro σ' q hr
          have KO := KO σ' q hr
          rw [show 13 * (a + 1) = 13 * a + 13 by omega] at KO
          refine wa (by decide) rgNl_ok tk_263 30 (fun N hN => ?_)
          simp [bl_263, hN _, x_iconst, x_ldc2_w, x_aconst_null, x_iload, x_lload, x_aload, x_istore, x_lstore, x_astore, x_iinc, x_iadd, x_isub, x_imul, x_idiv, x_irem, x_iand, x_ior, x_ixor, x_ishl, x_ishr, x_iushr, x_ineg, x_ladd, x_lsub, x_lmul, x_ldiv, x_lrem, x_lcmp, x_i2l, x_i2b, x_i2s, x_i2c, x_dup, x_pop, x_dup_x1, x_dup2, x_getfield, x_putfield, x_iaload, x_baload, x_saload, x_caload, x_daload, x_faload, x_laload, x_aaload, x_iastore, x_bastore, x_sastore, x_castore, x_lastore, x_aastore, x_arraylength, x_getstatic, x_goto, x_goto_w, x_ifCond, x_if_icmp, x_ifnull, x_ifnonnull, x_lookupswitch, x_invokevirtual, x_invokestatic, x_invokedynamic, x_ireturn, x_freturn, x_dreturn, x_lreturn, x_areturn, x_return_, pI_c, pL_c, pR_c, pV_i, pV_r, gI_c, gL_c, gR_c, pN_z, pN_s, lget_c, lins_z, lins_c, ldel_z, ldel_c, ldel2_z, ldel2_c, lset_i, lset_l, lset_r, lkeep_z, lkeep_c, largs_z, largs_c, cat_i, cat_l, cat_r, lkp_c, cnd_eq, cnd_ne, cnd_lt, cnd_ge, cnd_gt, cnd_le, swL_z, swL_c, rE_e, rOr_s, rOr_n, rlk_z, rlk_c, aR_c, aI_c, aII_c, aIII_c, aRI_c, aRII_c, aRIII_c, vJn, vJs, vlc, aRR_c, aRRI_c, aRRII_c, aRRIII_c, aRIIII_c, aRL_c, aRLL_c, aLL_c, aRRRI_c, aIL_c, aIIII_c, aRRIIII_c, aIRII_c, aIR_c, aLI_c, aRIR_c, aRIIR_c, ea]
          exact KO
        · have eb := w32_succ (k := b) (by omega)
          have b1 : ¬ (12 : Int) < b := by omega
          have b2 : (b : Int) ≤ 12 := by omega
          have b3 : b ≤ 12 := by omega
          have b4 : ¬ 12 < b := by omega
          have k1 : (((13 * a + b : Nat) : Int)) / 13 = a := by omega
          have k2 : (((13 * a + b : Nat) : Int)) % 13 = b := by omega
          rw [show 13 * a + (b + 1) = 13 * a + b + 1 by omega, lwR_up, cF_up, k1, k2] at K
          have hl := cF_l p (13 * a + b) 0
          have hR0 : cF p 0 (13 * a + b) = 0 → lwR p (13 * a + b) = [] := fun z => by unfold lwR; rw [if_pos z]
          obtain ⟨t1, t2⟩ := q.1.mt
          rw [hp] at t2
          generalize hc : cF p 0 (13 * a + b) = c at K hl hR0
          generalize lwR p (13 * a + b) = L at K hr hR0
          generalize hpk : p (13 * a + b) = pk at K
          have t3 : mtP σ' (13 * a + b) = pk := by rw [t2, hpk]
          have ec := w32_succ (k := c) (by omega)
          refine wa (by decide) rgNl_ok tk_263 30 (fun N hN => ?_)
          cases pk
          · simp only [if_false, and_false, Nat.add_zero, Bool.false_eq_true] at K
            have K := K σ' q hr
            simp [bl_263, hN _, x_iconst, x_ldc2_w, x_aconst_null, x_iload, x_lload, x_aload, x_istore, x_lstore, x_astore, x_iinc, x_iadd, x_isub, x_imul, x_idiv, x_irem, x_iand, x_ior, x_ixor, x_ishl, x_ishr, x_iushr, x_ineg, x_ladd, x_lsub, x_lmul, x_ldiv, x_lrem, x_lcmp, x_i2l, x_i2b, x_i2s, x_i2c, x_dup, x_pop, x_dup_x1, x_dup2, x_getfield, x_putfield, x_iaload, x_baload, x_saload, x_caload, x_daload, x_faload, x_laload, x_aaload, x_iastore, x_bastore, x_sastore, x_castore, x_lastore, x_aastore, x_arraylength, x_getstatic, x_goto, x_goto_w, x_ifCond, x_if_icmp, x_ifnull, x_ifnonnull, x_lookupswitch, x_invokevirtual, x_invokestatic, x_invokedynamic, x_ireturn, x_freturn, x_dreturn, x_lreturn, x_areturn, x_return_, pI_c, pL_c, pR_c, pV_i, pV_r, gI_c, gL_c, gR_c, pN_z, pN_s, lget_c, lins_z, lins_c, ldel_z, ldel_c, ldel2_z, ldel2_c, lset_i, lset_l, lset_r, lkeep_z, lkeep_c, largs_z, largs_c, cat_i, cat_l, cat_r, lkp_c, cnd_eq, cnd_ne, cnd_lt, cnd_ge, cnd_gt, cnd_le, swL_z, swL_c, rE_e, rOr_s, rOr_n, rlk_z, rlk_c, aR_c, aI_c, aII_c, aIII_c, aRI_c, aRII_c, aRIII_c, vJn, vJs, vlc, aRR_c, aRRI_c, aRRII_c, aRRIII_c, aRIIII_c, aRL_c, aRLL_c, aLL_c, aRRRI_c, aIL_c, aIIII_c, aRRIIII_c, aIRII_c, aIR_c, aLI_c, aRIR_c, aRIIR_c, hM.o, mpLaw, hM, t1 hT, t3, a1, a2, a3, a4, b1, b2, b3, b4, eb]
            simpa using K
          · by_cases h0 : c = 0
            · subst h0
              have hL := hR0 rfl
              subst hL
              have r0 : σ' 175 7 = 0 := by rw [hr.1]; rfl
              simp only [if_true, and_self, true_and] at K
              have hr2 : rmIs (up (up (up (up σ' 179 0 a) 175 7 1) 179 1 b) 175 7 2) [(a : Int), (b : Int)] := by
                have := (hr.add (v := a) (by simp)).add (v := b) (by simp)
                simpa [up_ap, r0] using this
              have K := K _ ⟨(((q.1.up s179).up sf7).up s179).up sf7, by simp [up_ap, q.2]⟩ hr2
              simp [bl_263, hN _, x_iconst, x_ldc2_w, x_aconst_null, x_iload, x_lload, x_aload, x_istore, x_lstore, x_astore, x_iinc, x_iadd, x_isub, x_imul, x_idiv, x_irem, x_iand, x_ior, x_ixor, x_ishl, x_ishr, x_iushr, x_ineg, x_ladd, x_lsub, x_lmul, x_ldiv, x_lrem, x_lcmp, x_i2l, x_i2b, x_i2s, x_i2c, x_dup, x_pop, x_dup_x1, x_dup2, x_getfield, x_putfield, x_iaload, x_baload, x_saload, x_caload, x_daload, x_faload, x_laload, x_aaload, x_iastore, x_bastore, x_sastore, x_castore, x_lastore, x_aastore, x_arraylength, x_getstatic, x_goto, x_goto_w, x_ifCond, x_if_icmp, x_ifnull, x_ifnonnull, x_lookupswitch, x_invokevirtual, x_invokestatic, x_invokedynamic, x_ireturn, x_freturn, x_dreturn, x_lreturn, x_areturn, x_return_, pI_c, pL_c, pR_c, pV_i, pV_r, gI_c, gL_c, gR_c, pN_z, pN_s, lget_c, lins_z, lins_c, ldel_z, ldel_c, ldel2_z, ldel2_c, lset_i, lset_l, lset_r, lkeep_z, lkeep_c, largs_z, largs_c, cat_i, cat_l, cat_r, lkp_c, cnd_eq, cnd_ne, cnd_lt, cnd_ge, cnd_gt, cnd_le, swL_z, swL_c, rE_e, rOr_s, rOr_n, rlk_z, rlk_c, aR_c, aI_c, aII_c, aIII_c, aRI_c, aRII_c, aRIII_c, vJn, vJs, vlc, aRR_c, aRRI_c, aRRII_c, aRRIII_c, aRIIII_c, aRL_c, aRLL_c, aLL_c, aRRRI_c, aIL_c, aIIII_c, aRRIIII_c, aIRII_c, aIR_c, aLI_c, aRIR_c, aRIIR_c, hM.o, hM, mpLaw, mpTell, t1 hT, t3, a1, a2, a3, a4, b1, b2, b3, b4, eb, r0, up_ap, show w32 1 = 1 from w32_id (by omega) (by omega)]
              simpa using K
            · have h0' : ¬ (c : Int) = 0 := by omega
              simp only [h0, false_and, if_false, if_true] at K
              have K := K σ' q hr
              simp [bl_263, hN _, x_iconst, x_ldc2_w, x_aconst_null, x_iload, x_lload, x_aload, x_istore, x_lstore, x_astore, x_iinc, x_iadd, x_isub, x_imul, x_idiv, x_irem, x_iand, x_ior, x_ixor, x_ishl, x_ishr, x_iushr, x_ineg, x_ladd, x_lsub, x_lmul, x_ldiv, x_lrem, x_lcmp, x_i2l, x_i2b, x_i2s, x_i2c, x_dup, x_pop, x_dup_x1, x_dup2, x_getfield, x_putfield, x_iaload, x_baload, x_saload, x_caload, x_daload, x_faload, x_laload, x_aaload, x_iastore, x_bastore, x_sastore, x_castore, x_lastore, x_aastore, x_arraylength, x_getstatic, x_goto, x_goto_w, x_ifCond, x_if_icmp, x_ifnull, x_ifnonnull, x_lookupswitch, x_invokevirtual, x_invokestatic, x_invokedynamic, x_ireturn, x_freturn, x_dreturn, x_lreturn, x_areturn, x_return_, pI_c, pL_c, pR_c, pV_i, pV_r, gI_c, gL_c, gR_c, pN_z, pN_s, lget_c, lins_z, lins_c, ldel_z, ldel_c, ldel2_z, ldel2_c, lset_i, lset_l, lset_r, lkeep_z, lkeep_c, largs_z, largs_c, cat_i, cat_l, cat_r, lkp_c, cnd_eq, cnd_ne, cnd_lt, cnd_ge, cnd_gt, cnd_le, swL_z, swL_c, rE_e, rOr_s, rOr_n, rlk_z, rlk_c, aR_c, aI_c, aII_c, aIII_c, aRI_c, aRII_c, aRIII_c, vJn, vJs, vlc, aRR_c, aRRI_c, aRRII_c, aRRIII_c, aRIIII_c, aRL_c, aRLL_c, aLL_c, aRRRI_c, aIL_c, aIIII_c, aRRIIII_c, aIRII_c, aIR_c, aLI_c, aRIR_c, aRIIR_c, hM.o, mpLaw, hM, t1 hT, t3, a1, a2, a3, a4, b1, b2, b3, b4, eb, h0, h0', ec]
              simpa using K
      have K := I σ' q hr
      refine wa (by decide) rgNl_ok tk_263 30 (fun N hN => ?_)
      simp [bl_263, hN _, x_iconst, x_ldc2_w, x_aconst_null, x_iload, x_lload, x_aload, x_istore, x_lstore, x_astore, x_iinc, x_iadd, x_isub, x_imul, x_idiv, x_irem, x_iand, x_ior, x_ixor, x_ishl, x_ishr, x_iushr, x_ineg, x_ladd, x_lsub, x_lmul, x_ldiv, x_lrem, x_lcmp, x_i2l, x_i2b, x_i2s, x_i2c, x_dup, x_pop, x_dup_x1, x_dup2, x_getfield, x_putfield, x_iaload, x_baload, x_saload, x_caload, x_daload, x_faload, x_laload, x_aaload, x_iastore, x_bastore, x_sastore, x_castore, x_lastore, x_aastore, x_arraylength, x_getstatic, x_goto, x_goto_w, x_ifCond, x_if_icmp, x_ifnull, x_ifnonnull, x_lookupswitch, x_invokevirtual, x_invokestatic, x_invokedynamic, x_ireturn, x_freturn, x_dreturn, x_lreturn, x_areturn, x_return_, pI_c, pL_c, pR_c, pV_i, pV_r, gI_c, gL_c, gR_c, pN_z, pN_s, lget_c, lins_z, lins_c, ldel_z, ldel_c, ldel2_z, ldel2_c, lset_i, lset_l, lset_r, lkeep_z, lkeep_c, largs_z, largs_c, cat_i, cat_l, cat_r, lkp_c, cnd_eq, cnd_ne, cnd_lt, cnd_ge, cnd_gt, cnd_le, swL_z, swL_c, rE_e, rOr_s, rOr_n, rlk_z, rlk_c, aR_c, aI_c, aII_c, aIII_c, aRI_c, aRII_c, aRIII_c, vJn, vJs, vlc, aRR_c, aRRI_c, aRRII_c, aRRIII_c, aRIIII_c, aRL_c, aRLL_c, aLL_c, aRRRI_c, aIL_c, aIIII_c, aRRIIII_c, aIRII_c, aIR_c, aLI_c, aRIR_c, aRIIR_c, a1, a2, a3, a4]
      exact K
  have K := O (up (up σ 175 8 0) 175 7 0) ⟨(QFM.rf.up sf8).up sf7, by simp [up_ap]⟩ rmIs.nil
  refine wg (by decide) rgNl_ok tk_263 py_263 ml_263 30 (by simp [catT]) (fun N hN => ?_)
  simp [bl_263, hN _, x_iconst, x_ldc2_w, x_aconst_null, x_iload, x_lload, x_aload, x_istore, x_lstore, x_astore, x_iinc, x_iadd, x_isub, x_imul, x_idiv, x_irem, x_iand, x_ior, x_ixor, x_ishl, x_ishr, x_iushr, x_ineg, x_ladd, x_lsub, x_lmul, x_ldiv, x_lrem, x_lcmp, x_i2l, x_i2b, x_i2s, x_i2c, x_dup, x_pop, x_dup_x1, x_dup2, x_getfield, x_putfield, x_iaload, x_baload, x_saload, x_caload, x_daload, x_faload, x_laload, x_aaload, x_iastore, x_bastore, x_sastore, x_castore, x_lastore, x_aastore, x_arraylength, x_getstatic, x_goto, x_goto_w, x_ifCond, x_if_icmp, x_ifnull, x_ifnonnull, x_lookupswitch, x_invokevirtual, x_invokestatic, x_invokedynamic, x_ireturn, x_freturn, x_dreturn, x_lreturn, x_areturn, x_return_, pI_c, pL_c, pR_c, pV_i, pV_r, gI_c, gL_c, gR_c, pN_z, pN_s, lget_c, lins_z, lins_c, ldel_z, ldel_c, ldel2_z, ldel2_c, lset_i, lset_l, lset_r, lkeep_z, lkeep_c, largs_z, largs_c, cat_i, cat_l, cat_r, lkp_c, cnd_eq, cnd_ne, cnd_lt, cnd_ge, cnd_gt, cnd_le, swL_z, swL_c, rE_e, rOr_s, rOr_n, rlk_z, rlk_c, aR_c, aI_c, aII_c, aIII_c, aRI_c, aRII_c, aRIII_c, vJn, vJs, vlc, aRR_c, aRRI_c, aRRII_c, aRRIII_c, aRIIII_c, aRL_c, aRLL_c, aLL_c, aRRRI_c, aIL_c, aIIII_c, aRRIIII_c, aIRII_c, aIR_c, aLI_c, aRIR_c, aRIIR_c, hM.o]
  exact K
