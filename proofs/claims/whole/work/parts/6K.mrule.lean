/-! the reference: how it reads a rule -/
def PaC (t : Tau) (σ : Mem) (x : Nat → Int) (N : Nat) (E : Int → Int) : Prop := TM t ∧ isT t (σ 175 9) 2 ∧ (σ 175 10 ≤ lenOf t (σ 175 9) ∧ (lenOf t (σ 175 9) : Int) ≤ 80) ∧ PsB σ ∧ (N : Int) ≤ σ 175 10 ∧ (∀ p : Nat, p ≤ N → hrS σ p = if p < N then x p else -1) ∧ (∀ k, 0 ≤ k → k < 6 → E k = if σ 175 18 = 0 then 0 else σ 183 k) ∧ (σ 175 18 = 0 ∨ σ 175 18 = 1)
def PaA (σ : Mem) (N q : Nat) : Prop := σ 175 12 = (N : Int) - q ∧ q ≤ N
def PaF (σ σ' : Mem) : Prop := (∀ o, o ≠ 175 → σ' o = σ o) ∧ ∀ j, j ≠ 12 → j ≠ 13 → σ' 175 j = σ 175 j
theorem PaF.rf {σ : Mem} : PaF σ σ := ⟨fun _ _ => rfl, fun _ _ _ => rfl⟩
theorem PaF.tr {σ σ' σ'' : Mem} (h : PaF σ σ') (h' : PaF σ' σ'') : PaF σ σ'' := ⟨fun o a => (h'.1 o a).trans (h.1 o a), fun j a b => (h'.2 j a b).trans (h.2 j a b)⟩
theorem PaF.at {σ : Mem} {x : Int} : PaF σ (up σ 175 12 x) := ⟨fun o a => up_ne a, fun j a _ => by rw [up_ap, if_neg (fun z => a z.2)]⟩
theorem PaF.wr {σ : Mem} {x : Int} : PaF σ (up σ 175 13 x) := ⟨fun o a => up_ne a, fun j _ b => by rw [up_ap, if_neg (fun z => b z.2)]⟩
theorem PaF.c {t : Tau} {σ σ' : Mem} {x : Nat → Int} {N : Nat} {E : Int → Int} (h : PaF σ σ') (hc : PaC t σ x N E) : PaC t σ' x N E := by
  obtain ⟨c1, c2, c3, c4, c5, c6, c7, c8⟩ := hc
  have e9 := h.2 9 (by omega) (by omega)
  have e10 := h.2 10 (by omega) (by omega)
  have e11 := h.2 11 (by omega) (by omega)
  have e18 := h.2 18 (by omega) (by omega)
  have e183 := h.1 183 (by omega)
  refine ⟨c1, by rw [e9]; exact c2, by rw [e9, e10]; exact c3, ?_, by rw [e10]; exact c5, fun p hp => ?_, by rw [e18, e183]; exact c7, by rw [e18]; exact c8⟩
  · unfold PsB; rw [e9, h.1 _ c4.1]; exact c4
  · rw [← c6 p hp]; unfold hrS; rw [e9, e10, e11, h.1 _ c4.1]
theorem PaC.ps {t : Tau} {σ : Mem} {x : Nat → Int} {N q : Nat} {E : Int → Int} (h : PaC t σ x N E) (a : PaA σ N q) : PsOk t σ := by
  obtain ⟨c1, c2, c3, c4, c5, c6, c7⟩ := h
  obtain ⟨a1, a2⟩ := a
  exact ⟨c1, by omega, c2, c3⟩
theorem PaC.hh {t : Tau} {σ : Mem} {x : Nat → Int} {N q : Nat} {E : Int → Int} (h : PaC t σ x N E) (a : PaA σ N q) : hrS σ (σ 175 12) = hr x N q := by
  obtain ⟨a1, a2⟩ := a
  have := h.2.2.2.2.2.1 (N - q) (by omega)
  rw [a1, show (N : Int) - q = ((N - q : Nat) : Int) by omega, this]
  unfold hr
  by_cases hz : q = 0
  · rw [if_pos hz, if_neg (by omega)]
  · rw [if_neg hz, if_pos (by omega)]
/-- what reading leaves -/
def PaR (σ : Mem) (N : Nat) (E : Int → Int) (R : RT) (v : Int) : Prop := match R with
  | .inl w => σ 175 13 = w ∧ (0 ≤ σ 175 12 ∧ σ 175 12 ≤ σ 175 10)
  | .inr (e, q') => σ 175 13 = -1 ∧ PaA σ N q' ∧ WfE e ∧ v = evE E e
def mpTh (dp q : Nat) : Sp := fun as t σ Q => aRI as fun a dp' => a = 175 ∧ dp' = dp ∧ ∃ x N E, PaC t σ x N E ∧ PaA σ N q ∧ σ 175 13 = -1 ∧ ∀ σ' R v, PaF σ σ' → ThOk x N dp q R → PaR σ' N E R v → Q (some (vI v)) t σ'
def mpPd (dp q : Nat) : Sp := fun as t σ Q => aRI as fun a dp' => a = 175 ∧ dp' = dp ∧ ∃ x N E, PaC t σ x N E ∧ PaA σ N q ∧ σ 175 13 = -1 ∧ ∀ σ' R v, PaF σ σ' → PdOk x N dp q R → PaR σ' N E R v → Q (some (vI v)) t σ'
def mpSm (dp q : Nat) : Sp := fun as t σ Q => aRI as fun a dp' => a = 175 ∧ dp' = dp ∧ ∃ x N E, PaC t σ x N E ∧ PaA σ N q ∧ σ 175 13 = -1 ∧ ∀ σ' R v, PaF σ σ' → SmOk x N dp q R → PaR σ' N E R v → Q (some (vI v)) t σ'
def mpHe (dp q : Nat) : Sp := fun as t σ Q => aRI as fun a dp' => a = 175 ∧ dp' = dp ∧ ∃ x N E, PaC t σ x N E ∧ PaA σ N q ∧ σ 175 13 = -1 ∧ ∀ σ' R v, PaF σ σ' → HeOk x N dp q R → PaR σ' N E R v → Q (some (vI v)) t σ'
/-- with at most q signs left -/
def leQ (f : Nat → Sp) (q : Nat) : Sp := fun as t σ Q => ∃ q', q' ≤ q ∧ f q' as t σ Q
theorem evE_join {E : Int → Int} {o : Int} {a b : Ex} (ho : opB o) (ha : WfE a) (hb : WfE b) {va vb : Int} (h1 : va = evE E a) (h2 : vb = evE E b) : joinV o va vb = evE E (xB o a b) := by rw [(wfe_B ho ha hb).2 E, h1, h2]
abbrev rgPd (dp q : Nat) : Reg := (194, leQ (mpTh dp) q) :: rgPa
theorem rgPd_ok {l : Launch} {g : GE} {d dp q : Nat} (hT : ∀ as t σ Q, leQ (mpTh dp) q as t σ Q → WPc l g 194 (d + 1) 0 0 as t σ Q) : ∀ e as t σ Q, rE l g (d + 1) (rgPd dp q) e as t σ Q → WPc l g e (d + 1) 0 0 as t σ Q := rE_cons hT rgPa_ok
set_option maxHeartbeats 1000000 in
theorem m_product {l : Launch} {g : GE} {d dp q0 : Nat} (hT : ∀ as t σ Q, leQ (mpTh dp) q0 as t σ Q → WPc l g 194 (d + 1) 0 0 as t σ Q) {as : List TV} {t : Tau} {σ : Mem} {Q : Post} (h0 : mpPd dp q0 as t σ Q) : WPc l g 192 (d + 2) 0 0 as t σ Q := by
  obtain ⟨a, dp', rfl, rfl, rfl, x, N', E, hC, hA, hw, h⟩ := aRI_e h0
  clear h0
  have oM := hC.1.o
  have hM := hC.1
  have bad : ∀ (w : Nat) (σ' : Mem) (v : Int), PaF σ σ' → σ' 175 13 = w → (0 ≤ σ' 175 12 ∧ σ' 175 12 ≤ σ' 175 10) → PdOk x N' dp q0 (.inl w) → Wp l g 192 (d + 2) 0 0 6 [(0, vR 175), (1, vI dp), (2, vI v)] [] t σ' Q := by
    intro w σ' v f hw' hat hO
    have n1 : ¬ σ' 175 13 = -1 := by omega
    refine wa (by decide) (rgPd_ok hT) ts_192 30 (fun N hN => ?_)
    simp [bs_192, hN _, x_iconst, x_ldc2_w, x_aconst_null, x_iload, x_lload, x_aload, x_istore, x_lstore, x_astore, x_iinc, x_iadd, x_isub, x_imul, x_idiv, x_irem, x_iand, x_ior, x_ixor, x_ishl, x_ishr, x_iushr, x_ineg, x_ladd, x_lsub, x_lmul, x_ldiv, x_lrem, x_lcmp, x_i2l, x_i2b, x_i2s, x_i2c, x_dup, x_pop, x_dup_x1, x_dup2, x_getfield, x_putfield, x_iaload, x_baload, x_saload, x_caload, x_daload, x_faload, x_laload, x_aaload, x_iastore, x_bastore, x_sastore, x_castore, x_lastore, x_aastore, x_arraylength, x_getstatic, x_goto, x_goto_w, x_ifCond, x_if_icmp, x_ifnull, x_ifnonnull, x_lookupswitch, x_invokevirtual, x_invokestatic, x_invokedynamic, x_ireturn, x_freturn, x_dreturn, x_lreturn, x_areturn, x_return_, pI_c, pL_c, pR_c, pV_i, pV_r, gI_c, gL_c, gR_c, pN_z, pN_s, lget_c, lins_z, lins_c, ldel_z, ldel_c, ldel2_z, ldel2_c, lset_i, lset_l, lset_r, lkeep_z, lkeep_c, largs_z, largs_c, cat_i, cat_l, cat_r, lkp_c, cnd_eq, cnd_ne, cnd_lt, cnd_ge, cnd_gt, cnd_le, swL_z, swL_c, rE_e, rOr_s, rOr_n, rlk_z, rlk_c, aR_c, aI_c, aII_c, aIII_c, aRI_c, aRII_c, aRIII_c, vJn, vJs, vlc, aRR_c, aRRI_c, aRRII_c, aRRIII_c, aRIIII_c, aRL_c, aRLL_c, aLL_c, aRRRI_c, aIL_c, aIIII_c, aRRIIII_c, aIRII_c, aIR_c, aLI_c, aRIR_c, aRIIR_c, oM, hM, mpFine, n1]
    exact h σ' (.inl w) v f hO ⟨hw', hat⟩
  have K : ∀ (m q : Nat) (e : Ex) (σ' : Mem) (v : Int), q ≤ m → PaF σ σ' → PaA σ' N' q → σ' 175 13 = -1 → PdI x N' dp q0 e q → WfE e → v = evE E e → Wp l g 192 (d + 2) 0 0 6 [(0, vR 175), (1, vI dp), (2, vI v)] [] t σ' Q := by
    intro m
    induction m with
    | zero =>
      intro q e σ' v hq f hA' hw' hI hE hv
      obtain rfl : q = 0 := by omega
      have hr0 : hr x N' 0 = -1 := rfl
      have hP := (f.c hC).ps hA'
      have hh := (f.c hC).hh hA'
      rw [hr0] at hh
      refine wa (by decide) (rgPd_ok hT) ts_192 30 (fun N hN => ?_)
      simp [bs_192, hN _, x_iconst, x_ldc2_w, x_aconst_null, x_iload, x_lload, x_aload, x_istore, x_lstore, x_astore, x_iinc, x_iadd, x_isub, x_imul, x_idiv, x_irem, x_iand, x_ior, x_ixor, x_ishl, x_ishr, x_iushr, x_ineg, x_ladd, x_lsub, x_lmul, x_ldiv, x_lrem, x_lcmp, x_i2l, x_i2b, x_i2s, x_i2c, x_dup, x_pop, x_dup_x1, x_dup2, x_getfield, x_putfield, x_iaload, x_baload, x_saload, x_caload, x_daload, x_faload, x_laload, x_aaload, x_iastore, x_bastore, x_sastore, x_castore, x_lastore, x_aastore, x_arraylength, x_getstatic, x_goto, x_goto_w, x_ifCond, x_if_icmp, x_ifnull, x_ifnonnull, x_lookupswitch, x_invokevirtual, x_invokestatic, x_invokedynamic, x_ireturn, x_freturn, x_dreturn, x_lreturn, x_areturn, x_return_, pI_c, pL_c, pR_c, pV_i, pV_r, gI_c, gL_c, gR_c, pN_z, pN_s, lget_c, lins_z, lins_c, ldel_z, ldel_c, ldel2_z, ldel2_c, lset_i, lset_l, lset_r, lkeep_z, lkeep_c, largs_z, largs_c, cat_i, cat_l, cat_r, lkp_c, cnd_eq, cnd_ne, cnd_lt, cnd_ge, cnd_gt, cnd_le, swL_z, swL_c, rE_e, rOr_s, rOr_n, rlk_z, rlk_c, aR_c, aI_c, aII_c, aIII_c, aRI_c, aRII_c, aRIII_c, vJn, vJs, vlc, aRR_c, aRRI_c, aRRII_c, aRRIII_c, aRIIII_c, aRL_c, aRLL_c, aLL_c, aRRRI_c, aIL_c, aIIII_c, aRRIIII_c, aIRII_c, aIR_c, aLI_c, aRIR_c, aRIIR_c, oM, hM, mpFine, mpHere, hP, hw', hh]
      exact h σ' _ v f (pd_e hI (by rw [hr0]; omega) (by rw [hr0]; omega)) ⟨hw', hA', hE, hv⟩
    | succ m ih =>
      intro q e σ' v hq f hA' hw' hI hE hv
      have hP := (f.c hC).ps hA'
      have hh := (f.c hC).hh hA'
      have q0l := hI.1
      have hA2 := hA'
      obtain ⟨a1, a2⟩ := hA2
      by_cases c1 : hr x N' q = 42 ∨ hr x N' q = 47
      · have go := pd_go hI c1
        have q1 : 1 ≤ q := by omega
        have hN80 : (N' : Int) ≤ 80 := by have := hC.2.2.2.2.1; have := hC.2.2.1; omega
        have w1 : w32 ((N' : Int) - q + 1) = (N' : Int) - (q - 1 : Nat) := by rw [w32_id (by omega) (by omega)]; omega
        generalize hσ2 : up σ' 175 12 ((N' : Int) - (q - 1 : Nat)) = σ2
        have f2 : PaF σ σ2 := f.tr (by rw [← hσ2]; exact PaF.at)
        have A2 : PaA σ2 N' (q - 1) := ⟨by rw [← hσ2]; simp [up_ap], by omega⟩
        have w2 : σ2 175 13 = -1 := by rw [← hσ2]; simp [up_ap, hw']
        have nxt : ∀ (σ3 : Mem) (R : RT) (u : Int), PaF σ2 σ3 → ThOk x N' dp (q - 1) R → PaR σ3 N' E R u → Wp l g 192 (d + 2) 0 0 6 [(0, vR 175), (1, vI dp), (2, vI (joinV (hr x N' q) v u))] [] t σ3 Q := by
          intro σ3 R u f3 hR hP3
          cases R with
          | inl w => exact bad w σ3 _ (f2.tr f3) hP3.1 hP3.2 (pd_sb hI c1 hR)
          | inr p =>
            obtain ⟨o, q'⟩ := p
            obtain ⟨p1, p2, p3, p4⟩ := hP3
            obtain ⟨s1, s2⟩ := pd_s hI c1 hR
            have ho : opB (hr x N' q) := by unfold opB; omega
            exact ih q' _ σ3 _ (by omega) (f2.tr f3) p2 p1 s1 (wfe_B ho hE p3).1 (evE_join ho hE p3 hv p4)
        refine wa (by decide) (rgPd_ok hT) ts_192 30 (fun N hN => ?_)
        rcases c1 with c1 | c1
        · rw [c1] at hh nxt
          rw [a1] at hh
          simp [bs_192, hN _, x_iconst, x_ldc2_w, x_aconst_null, x_iload, x_lload, x_aload, x_istore, x_lstore, x_astore, x_iinc, x_iadd, x_isub, x_imul, x_idiv, x_irem, x_iand, x_ior, x_ixor, x_ishl, x_ishr, x_iushr, x_ineg, x_ladd, x_lsub, x_lmul, x_ldiv, x_lrem, x_lcmp, x_i2l, x_i2b, x_i2s, x_i2c, x_dup, x_pop, x_dup_x1, x_dup2, x_getfield, x_putfield, x_iaload, x_baload, x_saload, x_caload, x_daload, x_faload, x_laload, x_aaload, x_iastore, x_bastore, x_sastore, x_castore, x_lastore, x_aastore, x_arraylength, x_getstatic, x_goto, x_goto_w, x_ifCond, x_if_icmp, x_ifnull, x_ifnonnull, x_lookupswitch, x_invokevirtual, x_invokestatic, x_invokedynamic, x_ireturn, x_freturn, x_dreturn, x_lreturn, x_areturn, x_return_, pI_c, pL_c, pR_c, pV_i, pV_r, gI_c, gL_c, gR_c, pN_z, pN_s, lget_c, lins_z, lins_c, ldel_z, ldel_c, ldel2_z, ldel2_c, lset_i, lset_l, lset_r, lkeep_z, lkeep_c, largs_z, largs_c, cat_i, cat_l, cat_r, lkp_c, cnd_eq, cnd_ne, cnd_lt, cnd_ge, cnd_gt, cnd_le, swL_z, swL_c, rE_e, rOr_s, rOr_n, rlk_z, rlk_c, aR_c, aI_c, aII_c, aIII_c, aRI_c, aRII_c, aRIII_c, vJn, vJs, vlc, aRR_c, aRRI_c, aRRII_c, aRRIII_c, aRIIII_c, aRL_c, aRLL_c, aLL_c, aRRRI_c, aIL_c, aIIII_c, aRRIIII_c, aIRII_c, aIR_c, aLI_c, aRIR_c, aRIIR_c, oM, hM, mpFine, mpHere, hP, hw', hh, a1, w1, hσ2]
          refine ⟨q - 1, by omega, rfl, rfl, x, N', E, f2.c hC, A2, w2, fun σ3 R u f3 hR hP3 => ?_⟩
          have K := nxt σ3 R u f3 hR hP3
          unfold joinV at K
          simp at K
          simp [sg_192_0_1, sg_192_44_1, sg_192_45_1, bs_192, hN _, x_iconst, x_ldc2_w, x_aconst_null, x_iload, x_lload, x_aload, x_istore, x_lstore, x_astore, x_iinc, x_iadd, x_isub, x_imul, x_idiv, x_irem, x_iand, x_ior, x_ixor, x_ishl, x_ishr, x_iushr, x_ineg, x_ladd, x_lsub, x_lmul, x_ldiv, x_lrem, x_lcmp, x_i2l, x_i2b, x_i2s, x_i2c, x_dup, x_pop, x_dup_x1, x_dup2, x_getfield, x_putfield, x_iaload, x_baload, x_saload, x_caload, x_daload, x_faload, x_laload, x_aaload, x_iastore, x_bastore, x_sastore, x_castore, x_lastore, x_aastore, x_arraylength, x_getstatic, x_goto, x_goto_w, x_ifCond, x_if_icmp, x_ifnull, x_ifnonnull, x_lookupswitch, x_invokevirtual, x_invokestatic, x_invokedynamic, x_ireturn, x_freturn, x_dreturn, x_lreturn, x_areturn, x_return_, pI_c, pL_c, pR_c, pV_i, pV_r, gI_c, gL_c, gR_c, pN_z, pN_s, lget_c, lins_z, lins_c, ldel_z, ldel_c, ldel2_z, ldel2_c, lset_i, lset_l, lset_r, lkeep_z, lkeep_c, largs_z, largs_c, cat_i, cat_l, cat_r, lkp_c, cnd_eq, cnd_ne, cnd_lt, cnd_ge, cnd_gt, cnd_le, swL_z, swL_c, rE_e, rOr_s, rOr_n, rlk_z, rlk_c, aR_c, aI_c, aII_c, aIII_c, aRI_c, aRII_c, aRIII_c, vJn, vJs, vlc, aRR_c, aRRI_c, aRRII_c, aRRIII_c, aRIIII_c, aRL_c, aRLL_c, aLL_c, aRRRI_c, aIL_c, aIIII_c, aRRIIII_c, aIRII_c, aIR_c, aLI_c, aRIR_c, aRIIR_c]
          exact K
        · rw [c1] at hh nxt
          rw [a1] at hh
          simp [bs_192, hN _, x_iconst, x_ldc2_w, x_aconst_null, x_iload, x_lload, x_aload, x_istore, x_lstore, x_astore, x_iinc, x_iadd, x_isub, x_imul, x_idiv, x_irem, x_iand, x_ior, x_ixor, x_ishl, x_ishr, x_iushr, x_ineg, x_ladd, x_lsub, x_lmul, x_ldiv, x_lrem, x_lcmp, x_i2l, x_i2b, x_i2s, x_i2c, x_dup, x_pop, x_dup_x1, x_dup2, x_getfield, x_putfield, x_iaload, x_baload, x_saload, x_caload, x_daload, x_faload, x_laload, x_aaload, x_iastore, x_bastore, x_sastore, x_castore, x_lastore, x_aastore, x_arraylength, x_getstatic, x_goto, x_goto_w, x_ifCond, x_if_icmp, x_ifnull, x_ifnonnull, x_lookupswitch, x_invokevirtual, x_invokestatic, x_invokedynamic, x_ireturn, x_freturn, x_dreturn, x_lreturn, x_areturn, x_return_, pI_c, pL_c, pR_c, pV_i, pV_r, gI_c, gL_c, gR_c, pN_z, pN_s, lget_c, lins_z, lins_c, ldel_z, ldel_c, ldel2_z, ldel2_c, lset_i, lset_l, lset_r, lkeep_z, lkeep_c, largs_z, largs_c, cat_i, cat_l, cat_r, lkp_c, cnd_eq, cnd_ne, cnd_lt, cnd_ge, cnd_gt, cnd_le, swL_z, swL_c, rE_e, rOr_s, rOr_n, rlk_z, rlk_c, aR_c, aI_c, aII_c, aIII_c, aRI_c, aRII_c, aRIII_c, vJn, vJs, vlc, aRR_c, aRRI_c, aRRII_c, aRRIII_c, aRIIII_c, aRL_c, aRLL_c, aLL_c, aRRRI_c, aIL_c, aIIII_c, aRRIIII_c, aIRII_c, aIR_c, aLI_c, aRIR_c, aRIIR_c, oM, hM, mpFine, mpHere, hP, hw', hh, a1, w1, hσ2]
          refine ⟨q - 1, by omega, rfl, rfl, x, N', E, f2.c hC, A2, w2, fun σ3 R u f3 hR hP3 => ?_⟩
          have K := nxt σ3 R u f3 hR hP3
          unfold joinV at K
          simp at K
          simp [sg_192_0_1, sg_192_44_1, sg_192_45_1, bs_192, hN _, x_iconst, x_ldc2_w, x_aconst_null, x_iload, x_lload, x_aload, x_istore, x_lstore, x_astore, x_iinc, x_iadd, x_isub, x_imul, x_idiv, x_irem, x_iand, x_ior, x_ixor, x_ishl, x_ishr, x_iushr, x_ineg, x_ladd, x_lsub, x_lmul, x_ldiv, x_lrem, x_lcmp, x_i2l, x_i2b, x_i2s, x_i2c, x_dup, x_pop, x_dup_x1, x_dup2, x_getfield, x_putfield, x_iaload, x_baload, x_saload, x_caload, x_daload, x_faload, x_laload, x_aaload, x_iastore, x_bastore, x_sastore, x_castore, x_lastore, x_aastore, x_arraylength, x_getstatic, x_goto, x_goto_w, x_ifCond, x_if_icmp, x_ifnull, x_ifnonnull, x_lookupswitch, x_invokevirtual, x_invokestatic, x_invokedynamic, x_ireturn, x_freturn, x_dreturn, x_lreturn, x_areturn, x_return_, pI_c, pL_c, pR_c, pV_i, pV_r, gI_c, gL_c, gR_c, pN_z, pN_s, lget_c, lins_z, lins_c, ldel_z, ldel_c, ldel2_z, ldel2_c, lset_i, lset_l, lset_r, lkeep_z, lkeep_c, largs_z, largs_c, cat_i, cat_l, cat_r, lkp_c, cnd_eq, cnd_ne, cnd_lt, cnd_ge, cnd_gt, cnd_le, swL_z, swL_c, rE_e, rOr_s, rOr_n, rlk_z, rlk_c, aR_c, aI_c, aII_c, aIII_c, aRI_c, aRII_c, aRIII_c, vJn, vJs, vlc, aRR_c, aRRI_c, aRRII_c, aRRIII_c, aRIIII_c, aRL_c, aRLL_c, aLL_c, aRRRI_c, aIL_c, aIIII_c, aRRIIII_c, aIRII_c, aIR_c, aLI_c, aRIR_c, aRIIR_c]
          by_cases hu : u = 0
          · simp [hu] at K ⊢
            exact K
          · simp [hu] at K ⊢
            exact K
      · have c2 : hr x N' q ≠ 42 ∧ hr x N' q ≠ 47 := by omega
        have K := h σ' _ v f (pd_e hI c2.1 c2.2) ⟨hw', hA', hE, hv⟩
        refine wa (by decide) (rgPd_ok hT) ts_192 30 (fun N hN => ?_)
        simp [bs_192, hN _, x_iconst, x_ldc2_w, x_aconst_null, x_iload, x_lload, x_aload, x_istore, x_lstore, x_astore, x_iinc, x_iadd, x_isub, x_imul, x_idiv, x_irem, x_iand, x_ior, x_ixor, x_ishl, x_ishr, x_iushr, x_ineg, x_ladd, x_lsub, x_lmul, x_ldiv, x_lrem, x_lcmp, x_i2l, x_i2b, x_i2s, x_i2c, x_dup, x_pop, x_dup_x1, x_dup2, x_getfield, x_putfield, x_iaload, x_baload, x_saload, x_caload, x_daload, x_faload, x_laload, x_aaload, x_iastore, x_bastore, x_sastore, x_castore, x_lastore, x_aastore, x_arraylength, x_getstatic, x_goto, x_goto_w, x_ifCond, x_if_icmp, x_ifnull, x_ifnonnull, x_lookupswitch, x_invokevirtual, x_invokestatic, x_invokedynamic, x_ireturn, x_freturn, x_dreturn, x_lreturn, x_areturn, x_return_, pI_c, pL_c, pR_c, pV_i, pV_r, gI_c, gL_c, gR_c, pN_z, pN_s, lget_c, lins_z, lins_c, ldel_z, ldel_c, ldel2_z, ldel2_c, lset_i, lset_l, lset_r, lkeep_z, lkeep_c, largs_z, largs_c, cat_i, cat_l, cat_r, lkp_c, cnd_eq, cnd_ne, cnd_lt, cnd_ge, cnd_gt, cnd_le, swL_z, swL_c, rE_e, rOr_s, rOr_n, rlk_z, rlk_c, aR_c, aI_c, aII_c, aIII_c, aRI_c, aRII_c, aRIII_c, vJn, vJs, vlc, aRR_c, aRRI_c, aRRII_c, aRRIII_c, aRIIII_c, aRL_c, aRLL_c, aLL_c, aRRRI_c, aIL_c, aIIII_c, aRRIIII_c, aIRII_c, aIR_c, aLI_c, aRIR_c, aRIIR_c, oM, hM, mpFine, mpHere, hP, hw', hh, c2.1, c2.2]
        exact K
  refine wg (by decide) (rgPd_ok hT) ts_192 py_192 ml_192 30 (by simp [catT]) (fun N hN => ?_)
  simp [bs_192, hN _, x_iconst, x_ldc2_w, x_aconst_null, x_iload, x_lload, x_aload, x_istore, x_lstore, x_astore, x_iinc, x_iadd, x_isub, x_imul, x_idiv, x_irem, x_iand, x_ior, x_ixor, x_ishl, x_ishr, x_iushr, x_ineg, x_ladd, x_lsub, x_lmul, x_ldiv, x_lrem, x_lcmp, x_i2l, x_i2b, x_i2s, x_i2c, x_dup, x_pop, x_dup_x1, x_dup2, x_getfield, x_putfield, x_iaload, x_baload, x_saload, x_caload, x_daload, x_faload, x_laload, x_aaload, x_iastore, x_bastore, x_sastore, x_castore, x_lastore, x_aastore, x_arraylength, x_getstatic, x_goto, x_goto_w, x_ifCond, x_if_icmp, x_ifnull, x_ifnonnull, x_lookupswitch, x_invokevirtual, x_invokestatic, x_invokedynamic, x_ireturn, x_freturn, x_dreturn, x_lreturn, x_areturn, x_return_, pI_c, pL_c, pR_c, pV_i, pV_r, gI_c, gL_c, gR_c, pN_z, pN_s, lget_c, lins_z, lins_c, ldel_z, ldel_c, ldel2_z, ldel2_c, lset_i, lset_l, lset_r, lkeep_z, lkeep_c, largs_z, largs_c, cat_i, cat_l, cat_r, lkp_c, cnd_eq, cnd_ne, cnd_lt, cnd_ge, cnd_gt, cnd_le, swL_z, swL_c, rE_e, rOr_s, rOr_n, rlk_z, rlk_c, aR_c, aI_c, aII_c, aIII_c, aRI_c, aRII_c, aRIII_c, vJn, vJs, vlc, aRR_c, aRRI_c, aRRII_c, aRRIII_c, aRIIII_c, aRL_c, aRLL_c, aLL_c, aRRRI_c, aIL_c, aIIII_c, aRRIIII_c, aIRII_c, aIR_c, aLI_c, aRIR_c, aRIIR_c, oM]
  refine ⟨q0, Nat.le_refl _, rfl, rfl, x, N', E, hC, hA, hw, fun σ1 R v f1 hR hP1 => ?_⟩
  simp [sg_192_0_1, sg_192_44_1, sg_192_45_1, hN _, x_iconst, x_ldc2_w, x_aconst_null, x_iload, x_lload, x_aload, x_istore, x_lstore, x_astore, x_iinc, x_iadd, x_isub, x_imul, x_idiv, x_irem, x_iand, x_ior, x_ixor, x_ishl, x_ishr, x_iushr, x_ineg, x_ladd, x_lsub, x_lmul, x_ldiv, x_lrem, x_lcmp, x_i2l, x_i2b, x_i2s, x_i2c, x_dup, x_pop, x_dup_x1, x_dup2, x_getfield, x_putfield, x_iaload, x_baload, x_saload, x_caload, x_daload, x_faload, x_laload, x_aaload, x_iastore, x_bastore, x_sastore, x_castore, x_lastore, x_aastore, x_arraylength, x_getstatic, x_goto, x_goto_w, x_ifCond, x_if_icmp, x_ifnull, x_ifnonnull, x_lookupswitch, x_invokevirtual, x_invokestatic, x_invokedynamic, x_ireturn, x_freturn, x_dreturn, x_lreturn, x_areturn, x_return_, pI_c, pL_c, pR_c, pV_i, pV_r, gI_c, gL_c, gR_c, pN_z, pN_s, lget_c, lins_z, lins_c, ldel_z, ldel_c, ldel2_z, ldel2_c, lset_i, lset_l, lset_r, lkeep_z, lkeep_c, largs_z, largs_c, cat_i, cat_l, cat_r, lkp_c, cnd_eq, cnd_ne, cnd_lt, cnd_ge, cnd_gt, cnd_le, swL_z, swL_c, rE_e, rOr_s, rOr_n, rlk_z, rlk_c, aR_c, aI_c, aII_c, aIII_c, aRI_c, aRII_c, aRIII_c, vJn, vJs, vlc, aRR_c, aRRI_c, aRRII_c, aRRIII_c, aRIIII_c, aRL_c, aRLL_c, aLL_c, aRRRI_c, aIL_c, aIIII_c, aRRIIII_c, aIRII_c, aIR_c, aLI_c, aRIR_c, aRIIR_c]
  cases R with
  | inl w => exact bad w σ1 v f1 hP1.1 hP1.2 (pd_0b hR)
  | inr p =>
    obtain ⟨o, q'⟩ := p
    obtain ⟨p1, p2, p3, p4⟩ := hP1
    exact K q' q' o σ1 v (Nat.le_refl _) f1 p2 p1 (pd_0 hR) p3 p4
