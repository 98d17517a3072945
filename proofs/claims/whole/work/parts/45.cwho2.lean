/-! StruckColours: tempts, motley, order, sisters -/
noncomputable def tmpB (n : Nat) (V : Int → Int) (s f k : Int) : Int := if V (6 + s) = f ∨ ownV V s < k then 0 else if sewA n V s f k = f then 1 else 0
/-- the same seas, but for what was tried -/
def Tr0 (t : Tau) (σ σ' : Mem) : Prop := σ' = σ ∨ ∃ W, TrTo t σ σ' W
theorem Tr0.q {t : Tau} {σ σ' : Mem} (h : Tr0 t σ σ') : QFr σ σ' ∧ σ' 3 = σ 3 ∧ σ' 4 = σ 4 := by
  rcases h with rfl | ⟨W, hW⟩
  · exact ⟨QFr.rf, rfl, rfl⟩
  · exact ⟨hW.1, hW.2.1⟩
theorem Tr0.of {t : Tau} {σ σ0 σ' : Mem} (h : Tr0 t σ σ0) (h1 : SeaX σ0 σ' 19) (h2 : SeaOk t σ' 19) (h3 : nS σ' 19 = nS σ0 5) (h4 : mS σ' 19 = mS σ0 5) (h5 : vwS σ' 19 = vwS σ0 5) : TrTo t σ σ' (vwS σ 5) := by
  rcases h with rfl | ⟨W, hW⟩
  · exact TrTo.of h1 h2 h3 h4 h5
  · exact hW.of' h1 h2 h3 h4 h5
def fpTempted : Sp := fun as t σ Q => aRIII as fun a s f k => a = 0 ∧ TC t ∧ ∃ σ0, SeaOk t σ0 5 ∧ Tr0 t σ0 σ ∧ (0 ≤ s ∧ s < nS σ0 5) ∧ (0 ≤ f ∧ f < 4) ∧ (1 ≤ k ∧ k ≤ 12) ∧ ∀ σ', Tr0 t σ0 σ' → Q (some (vI (tmpB (nS σ0 5) (vwS σ0 5) s f k))) t σ'
theorem f_tempted {l : Launch} {g : GE} {d : Nat} {t : Tau} {σ : Mem} {Q : Post} {as : List TV} (h0 : fpTempted as t σ Q) : WPc l g 147 (d + 7) 0 0 as t σ Q := by
  obtain ⟨a, s, f, k, rfl, rfl, hC, σ0, hk, hT, ⟨s0, s1⟩, ⟨f0, f1⟩, ⟨k0, k1⟩, h⟩ := aRIII_e h0
  clear h0
  obtain ⟨q1, q2, q3⟩ := hT.q
  obtain ⟨k5, e1, e2, e3⟩ := q1.sea hk
  have hd := sd_in hk.2.2 s0 s1
  unfold tmpB at h
  refine wg (by decide) rgC_ok ts_147 py_147 ml_147 30 (by simp [catT]) (fun N hN => ?_)
  simp [bs_147, hN _, x_iconst, x_ldc2_w, x_aconst_null, x_iload, x_lload, x_aload, x_istore, x_lstore, x_astore, x_iinc, x_iadd, x_isub, x_imul, x_idiv, x_irem, x_iand, x_ior, x_ixor, x_ishl, x_ishr, x_iushr, x_ineg, x_ladd, x_lsub, x_lmul, x_ldiv, x_lrem, x_lcmp, x_i2l, x_i2b, x_i2s, x_i2c, x_dup, x_pop, x_dup_x1, x_dup2, x_getfield, x_putfield, x_iaload, x_baload, x_saload, x_caload, x_daload, x_faload, x_laload, x_aaload, x_iastore, x_bastore, x_sastore, x_castore, x_lastore, x_aastore, x_arraylength, x_getstatic, x_goto, x_goto_w, x_ifCond, x_if_icmp, x_ifnull, x_ifnonnull, x_lookupswitch, x_invokevirtual, x_invokestatic, x_invokedynamic, x_ireturn, x_freturn, x_dreturn, x_lreturn, x_areturn, x_return_, pI_c, pL_c, pR_c, pV_i, pV_r, gI_c, gL_c, gR_c, pN_z, pN_s, lget_c, lins_z, lins_c, ldel_z, ldel_c, ldel2_z, ldel2_c, lset_i, lset_l, lset_r, lkeep_z, lkeep_c, largs_z, largs_c, cat_i, cat_l, cat_r, lkp_c, cnd_eq, cnd_ne, cnd_lt, cnd_ge, cnd_gt, cnd_le, swL_z, swL_c, rE_e, rOr_s, rOr_n, rlk_z, rlk_c, aR_c, aI_c, aII_c, aIII_c, aRI_c, aRII_c, aRIII_c, vJn, vJs, vlc, aRR_c, aRRI_c, aRRII_c, aRRIII_c, aRIIII_c, aRL_c, aRLL_c, aLL_c, aRRRI_c, aIL_c, aIIII_c, aRRIIII_c, aIRII_c, aIR_c, aLI_c, aRIR_c, aRIIR_c, hC.o0, hC.f0_0, hC.f0_1, hC.f0_2, hC.f0_3, hC.f0_4, hC.f0_5, hC.f0_6, hC.f0_7, hC.f0_8, hC.f0_9, hC.f0_10, hC.f0_11, hC.o1, hC.f1, hC.t2, hC.l2, hC.o3, hC.f3, hC.t4, hC.l4, hC.s5, hC.s12, hC.s19, hC.s112, hC.s119, hC.o26, hC.f26, hC.t27, hC.l27, hC.s28, hC.o126, hC.f126_0, hC.f126_1, hC.t127, hC.l127, hC.t128, hC.l128, hC.s129, hC.n157, hC.n161, hC.o165, hC.f165, hC.t166, hC.l166, hC.r167, hC.r171, hC.q5, hC.q12, hC.q19, hC.q112, hC.q119, hC.a2, hC.a4, hC.a27, hC.a127, hC.a128, hC, apOf, apParts, apBecomes, k5, e1, e3, s0, s1, Int.not_le.mpr s1, Int.not_lt.mpr s0, hd]
  refine ⟨fun z => ?_, fun z => ⟨fun y => ?_, fun y => ?_⟩⟩
  · rw [if_pos (Or.inl z)] at h
    exact h σ hT
  · intro σ1 b1 b2 b3 b4 b5
    have T1 := hT.of b1 b2 (by rw [b3, e1]) (by rw [b4]) (by rw [b5, e3])
    have T10 := T1
    obtain ⟨t1, t2, t3, t4, t5, t6⟩ := T1
    rw [if_neg (fun w => w.elim z (Int.not_lt.mpr y))] at h
    simp [sg_147_34_1, hN _, x_iconst, x_ldc2_w, x_aconst_null, x_iload, x_lload, x_aload, x_istore, x_lstore, x_astore, x_iinc, x_iadd, x_isub, x_imul, x_idiv, x_irem, x_iand, x_ior, x_ixor, x_ishl, x_ishr, x_iushr, x_ineg, x_ladd, x_lsub, x_lmul, x_ldiv, x_lrem, x_lcmp, x_i2l, x_i2b, x_i2s, x_i2c, x_dup, x_pop, x_dup_x1, x_dup2, x_getfield, x_putfield, x_iaload, x_baload, x_saload, x_caload, x_daload, x_faload, x_laload, x_aaload, x_iastore, x_bastore, x_sastore, x_castore, x_lastore, x_aastore, x_arraylength, x_getstatic, x_goto, x_goto_w, x_ifCond, x_if_icmp, x_ifnull, x_ifnonnull, x_lookupswitch, x_invokevirtual, x_invokestatic, x_invokedynamic, x_ireturn, x_freturn, x_dreturn, x_lreturn, x_areturn, x_return_, pI_c, pL_c, pR_c, pV_i, pV_r, gI_c, gL_c, gR_c, pN_z, pN_s, lget_c, lins_z, lins_c, ldel_z, ldel_c, ldel2_z, ldel2_c, lset_i, lset_l, lset_r, lkeep_z, lkeep_c, largs_z, largs_c, cat_i, cat_l, cat_r, lkp_c, cnd_eq, cnd_ne, cnd_lt, cnd_ge, cnd_gt, cnd_le, swL_z, swL_c, rE_e, rOr_s, rOr_n, rlk_z, rlk_c, aR_c, aI_c, aII_c, aIII_c, aRI_c, aRII_c, aRIII_c, vJn, vJs, vlc, aRR_c, aRRI_c, aRRII_c, aRRIII_c, aRIIII_c, aRL_c, aRLL_c, aLL_c, aRRRI_c, aIL_c, aIIII_c, aRRIIII_c, aIRII_c, aIR_c, aLI_c, aRIR_c, aRIIR_c, hC.o0, hC.f0_0, hC.f0_1, hC.f0_2, hC.f0_3, hC.f0_4, hC.f0_5, hC.f0_6, hC.f0_7, hC.f0_8, hC.f0_9, hC.f0_10, hC.f0_11, hC.o1, hC.f1, hC.t2, hC.l2, hC.o3, hC.f3, hC.t4, hC.l4, hC.s5, hC.s12, hC.s19, hC.s112, hC.s119, hC.o26, hC.f26, hC.t27, hC.l27, hC.s28, hC.o126, hC.f126_0, hC.f126_1, hC.t127, hC.l127, hC.t128, hC.l128, hC.s129, hC.n157, hC.n161, hC.o165, hC.f165, hC.t166, hC.l166, hC.r167, hC.r171, hC.q5, hC.q12, hC.q19, hC.q112, hC.q119, hC.a2, hC.a4, hC.a27, hC.a127, hC.a128, hC, apSewsIn, t3, t4, t6]
    intro σ2 c
    have h := h σ2 (Or.inr ⟨_, T10.to c⟩)
    simp [sg_147_34_2, bs_147, hN _, x_iconst, x_ldc2_w, x_aconst_null, x_iload, x_lload, x_aload, x_istore, x_lstore, x_astore, x_iinc, x_iadd, x_isub, x_imul, x_idiv, x_irem, x_iand, x_ior, x_ixor, x_ishl, x_ishr, x_iushr, x_ineg, x_ladd, x_lsub, x_lmul, x_ldiv, x_lrem, x_lcmp, x_i2l, x_i2b, x_i2s, x_i2c, x_dup, x_pop, x_dup_x1, x_dup2, x_getfield, x_putfield, x_iaload, x_baload, x_saload, x_caload, x_daload, x_faload, x_laload, x_aaload, x_iastore, x_bastore, x_sastore, x_castore, x_lastore, x_aastore, x_arraylength, x_getstatic, x_goto, x_goto_w, x_ifCond, x_if_icmp, x_ifnull, x_ifnonnull, x_lookupswitch, x_invokevirtual, x_invokestatic, x_invokedynamic, x_ireturn, x_freturn, x_dreturn, x_lreturn, x_areturn, x_return_, pI_c, pL_c, pR_c, pV_i, pV_r, gI_c, gL_c, gR_c, pN_z, pN_s, lget_c, lins_z, lins_c, ldel_z, ldel_c, ldel2_z, ldel2_c, lset_i, lset_l, lset_r, lkeep_z, lkeep_c, largs_z, largs_c, cat_i, cat_l, cat_r, lkp_c, cnd_eq, cnd_ne, cnd_lt, cnd_ge, cnd_gt, cnd_le, swL_z, swL_c, rE_e, rOr_s, rOr_n, rlk_z, rlk_c, aR_c, aI_c, aII_c, aIII_c, aRI_c, aRII_c, aRIII_c, vJn, vJs, vlc, aRR_c, aRRI_c, aRRII_c, aRRIII_c, aRIIII_c, aRL_c, aRLL_c, aLL_c, aRRRI_c, aIL_c, aIIII_c, aRRIIII_c, aIRII_c, aIR_c, aLI_c, aRIR_c, aRIIR_c]
    refine ⟨fun x => ?_, fun x => ?_⟩
    · rw [if_neg x] at h; exact h
    · rw [if_pos x] at h; exact h
  · rw [if_pos (Or.inr y)] at h
    exact h σ hT
theorem rgT_ok {l : Launch} {g : GE} {d : Nat} : ∀ e as t σ Q, rE l g (d + 7) ((147, fpTempted) :: rgC) e as t σ Q → WPc l g e (d + 7) 0 0 as t σ Q := rE_cons (fun _ _ _ _ h => f_tempted h) (rgC_ok (d := d + 1))
/-- the first ship that a number of parts tempts -/
noncomputable def tmpI (n : Nat) (V : Int → Int) (f : Int) (k : Nat) (c : QA) : Nat → Nat → QA
  | 0, _ => c
  | r + 1, i => if tmpB n V i f k = 0 then tmpI n V f k c r (i + 1) else ((k : Int), some [(i : Int)])
noncomputable def tmpK (n : Nat) (V : Int → Int) (f : Int) : Nat → Nat → QA
  | 0, _ => (-2, none)
  | r + 1, k => tmpI n V f k (tmpK n V f r (k + 1)) n 0
noncomputable def temptsQ (n : Nat) (V : Int → Int) (f : Int) : QA := if 0 ≤ f ∧ f < 4 then tmpK n V f 12 1 else (-1, none)
theorem o_tempts {l : Launch} {g : GE} {d : Nat} {t : Tau} {σ : Mem} {Q : Post} {f : Int} (hC : TC t) (hk : SeaOk t σ 5) (h : ansC (temptsQ (nS σ 5) (vwS σ 5) f) t σ Q) : WPc l g 108 (d + 8) 0 0 [vR 0, vI f] t σ Q := by
  have n6 := hk.2.2.1
  unfold ansC temptsQ at h
  by_cases hs : 0 ≤ f ∧ f < 4
  · rw [if_pos hs] at h
    obtain ⟨f0, f1⟩ := hs
    have O : ∀ (q k : Nat) (σ' : Mem), k + q = 13 → 1 ≤ k → Tr0 t σ σ' → ansC (tmpK (nS σ 5) (vwS σ 5) f q k) t σ Q → Wp l g 108 (d + 8) 0 0 11 [(0, vR 0), (1, vI f), (2, vI k)] [] t σ' Q := by
      intro q
      induction q with
      | zero =>
        intro k σ' hq h1 hT hQ
        obtain rfl : k = 13 := by omega
        obtain ⟨q1, q2, q3⟩ := hT.q
        refine wa (by decide) rgT_ok tk_108 30 (fun N hN => ?_)
        simp [bl_108, hN _, x_iconst, x_ldc2_w, x_aconst_null, x_iload, x_lload, x_aload, x_istore, x_lstore, x_astore, x_iinc, x_iadd, x_isub, x_imul, x_idiv, x_irem, x_iand, x_ior, x_ixor, x_ishl, x_ishr, x_iushr, x_ineg, x_ladd, x_lsub, x_lmul, x_ldiv, x_lrem, x_lcmp, x_i2l, x_i2b, x_i2s, x_i2c, x_dup, x_pop, x_dup_x1, x_dup2, x_getfield, x_putfield, x_iaload, x_baload, x_saload, x_caload, x_daload, x_faload, x_laload, x_aaload, x_iastore, x_bastore, x_sastore, x_castore, x_lastore, x_aastore, x_arraylength, x_getstatic, x_goto, x_goto_w, x_ifCond, x_if_icmp, x_ifnull, x_ifnonnull, x_lookupswitch, x_invokevirtual, x_invokestatic, x_invokedynamic, x_ireturn, x_freturn, x_dreturn, x_lreturn, x_areturn, x_return_, pI_c, pL_c, pR_c, pV_i, pV_r, gI_c, gL_c, gR_c, pN_z, pN_s, lget_c, lins_z, lins_c, ldel_z, ldel_c, ldel2_z, ldel2_c, lset_i, lset_l, lset_r, lkeep_z, lkeep_c, largs_z, largs_c, cat_i, cat_l, cat_r, lkp_c, cnd_eq, cnd_ne, cnd_lt, cnd_ge, cnd_gt, cnd_le, swL_z, swL_c, rE_e, rOr_s, rOr_n, rlk_z, rlk_c, aR_c, aI_c, aII_c, aIII_c, aRI_c, aRII_c, aRIII_c, vJn, vJs, vlc, aRR_c, aRRI_c, aRRII_c, aRRIII_c, aRIIII_c, aRL_c, aRLL_c, aLL_c, aRRRI_c, aIL_c, aIIII_c, aRRIIII_c, aIRII_c, aIR_c, aLI_c, aRIR_c, aRIIR_c]
        exact hQ σ' ⟨q1, q2, q3⟩
      | succ q ih =>
        intro k σ' hq h1 hT hQ
        have I : ∀ (r i : Nat) (σ' : Mem), i + r = nS σ 5 → Tr0 t σ σ' → ansC (tmpI (nS σ 5) (vwS σ 5) f k (tmpK (nS σ 5) (vwS σ 5) f q (k + 1)) r i) t σ Q → Wp l g 108 (d + 8) 0 0 19 [(0, vR 0), (1, vI f), (2, vI k), (3, vI i)] [] t σ' Q := by
          intro r
          induction r with
          | zero =>
            intro i σ' hi hT hQ
            obtain rfl : i = nS σ 5 := by omega
            have K := ih (k + 1) σ' (by omega) (by omega) hT hQ
            obtain ⟨q1, q2, q3⟩ := hT.q
            obtain ⟨k5, e1, e2, e3⟩ := q1.sea hk
            have z0 := k5.2.1
            rw [e1] at z0
            have e2 := w32_succ (k := k) (by omega)
            refine wa (by decide) rgT_ok tk_108 30 (fun N hN => ?_)
            simp [bl_108, hN _, x_iconst, x_ldc2_w, x_aconst_null, x_iload, x_lload, x_aload, x_istore, x_lstore, x_astore, x_iinc, x_iadd, x_isub, x_imul, x_idiv, x_irem, x_iand, x_ior, x_ixor, x_ishl, x_ishr, x_iushr, x_ineg, x_ladd, x_lsub, x_lmul, x_ldiv, x_lrem, x_lcmp, x_i2l, x_i2b, x_i2s, x_i2c, x_dup, x_pop, x_dup_x1, x_dup2, x_getfield, x_putfield, x_iaload, x_baload, x_saload, x_caload, x_daload, x_faload, x_laload, x_aaload, x_iastore, x_bastore, x_sastore, x_castore, x_lastore, x_aastore, x_arraylength, x_getstatic, x_goto, x_goto_w, x_ifCond, x_if_icmp, x_ifnull, x_ifnonnull, x_lookupswitch, x_invokevirtual, x_invokestatic, x_invokedynamic, x_ireturn, x_freturn, x_dreturn, x_lreturn, x_areturn, x_return_, pI_c, pL_c, pR_c, pV_i, pV_r, gI_c, gL_c, gR_c, pN_z, pN_s, lget_c, lins_z, lins_c, ldel_z, ldel_c, ldel2_z, ldel2_c, lset_i, lset_l, lset_r, lkeep_z, lkeep_c, largs_z, largs_c, cat_i, cat_l, cat_r, lkp_c, cnd_eq, cnd_ne, cnd_lt, cnd_ge, cnd_gt, cnd_le, swL_z, swL_c, rE_e, rOr_s, rOr_n, rlk_z, rlk_c, aR_c, aI_c, aII_c, aIII_c, aRI_c, aRII_c, aRIII_c, vJn, vJs, vlc, aRR_c, aRRI_c, aRRII_c, aRRIII_c, aRIIII_c, aRL_c, aRLL_c, aLL_c, aRRRI_c, aIL_c, aIIII_c, aRRIIII_c, aIRII_c, aIR_c, aLI_c, aRIR_c, aRIIR_c, hC.o0, hC.f0_0, hC.f0_1, hC.f0_2, hC.f0_3, hC.f0_4, hC.f0_5, hC.f0_6, hC.f0_7, hC.f0_8, hC.f0_9, hC.f0_10, hC.f0_11, hC.o1, hC.f1, hC.t2, hC.l2, hC.o3, hC.f3, hC.t4, hC.l4, hC.s5, hC.s12, hC.s19, hC.s112, hC.s119, hC.o26, hC.f26, hC.t27, hC.l27, hC.s28, hC.o126, hC.f126_0, hC.f126_1, hC.t127, hC.l127, hC.t128, hC.l128, hC.s129, hC.n157, hC.n161, hC.o165, hC.f165, hC.t166, hC.l166, hC.r167, hC.r171, hC.q5, hC.q12, hC.q19, hC.q112, hC.q119, hC.a2, hC.a4, hC.a27, hC.a127, hC.a128, hC, z0, e2]
            exact K
          | succ r ihr =>
            intro i σ' hi hT hQ
            have e2 := w32_succ (k := i) (by omega); have i1 : ((i : Nat) : Int) < (nS σ 5 : Nat) := (by omega); have i1n : i < nS σ 5 := (by omega); have i1x : ¬ nS σ 5 ≤ i := (by omega)
            obtain ⟨q1, q2, q3⟩ := hT.q
            obtain ⟨k5, e1, e3, e4⟩ := q1.sea hk
            have z0 := k5.2.1
            rw [e1] at z0
            have er : tmpI (nS σ 5) (vwS σ 5) f k (tmpK (nS σ 5) (vwS σ 5) f q (k + 1)) (r + 1) i = if tmpB (nS σ 5) (vwS σ 5) i f k = 0 then tmpI (nS σ 5) (vwS σ 5) f k (tmpK (nS σ 5) (vwS σ 5) f q (k + 1)) r (i + 1) else ((k : Int), some [(i : Int)]) := rfl
            rw [er] at hQ
            refine wa (by decide) rgT_ok ts_108 30 (fun N hN => ?_)
            simp [bs_108, hN _, x_iconst, x_ldc2_w, x_aconst_null, x_iload, x_lload, x_aload, x_istore, x_lstore, x_astore, x_iinc, x_iadd, x_isub, x_imul, x_idiv, x_irem, x_iand, x_ior, x_ixor, x_ishl, x_ishr, x_iushr, x_ineg, x_ladd, x_lsub, x_lmul, x_ldiv, x_lrem, x_lcmp, x_i2l, x_i2b, x_i2s, x_i2c, x_dup, x_pop, x_dup_x1, x_dup2, x_getfield, x_putfield, x_iaload, x_baload, x_saload, x_caload, x_daload, x_faload, x_laload, x_aaload, x_iastore, x_bastore, x_sastore, x_castore, x_lastore, x_aastore, x_arraylength, x_getstatic, x_goto, x_goto_w, x_ifCond, x_if_icmp, x_ifnull, x_ifnonnull, x_lookupswitch, x_invokevirtual, x_invokestatic, x_invokedynamic, x_ireturn, x_freturn, x_dreturn, x_lreturn, x_areturn, x_return_, pI_c, pL_c, pR_c, pV_i, pV_r, gI_c, gL_c, gR_c, pN_z, pN_s, lget_c, lins_z, lins_c, ldel_z, ldel_c, ldel2_z, ldel2_c, lset_i, lset_l, lset_r, lkeep_z, lkeep_c, largs_z, largs_c, cat_i, cat_l, cat_r, lkp_c, cnd_eq, cnd_ne, cnd_lt, cnd_ge, cnd_gt, cnd_le, swL_z, swL_c, rE_e, rOr_s, rOr_n, rlk_z, rlk_c, aR_c, aI_c, aII_c, aIII_c, aRI_c, aRII_c, aRIII_c, vJn, vJs, vlc, aRR_c, aRRI_c, aRRII_c, aRRIII_c, aRIIII_c, aRL_c, aRLL_c, aLL_c, aRRRI_c, aIL_c, aIIII_c, aRRIIII_c, aIRII_c, aIR_c, aLI_c, aRIR_c, aRIIR_c, hC.o0, hC.f0_0, hC.f0_1, hC.f0_2, hC.f0_3, hC.f0_4, hC.f0_5, hC.f0_6, hC.f0_7, hC.f0_8, hC.f0_9, hC.f0_10, hC.f0_11, hC.o1, hC.f1, hC.t2, hC.l2, hC.o3, hC.f3, hC.t4, hC.l4, hC.s5, hC.s12, hC.s19, hC.s112, hC.s119, hC.o26, hC.f26, hC.t27, hC.l27, hC.s28, hC.o126, hC.f126_0, hC.f126_1, hC.t127, hC.l127, hC.t128, hC.l128, hC.s129, hC.n157, hC.n161, hC.o165, hC.f165, hC.t166, hC.l166, hC.r167, hC.r171, hC.q5, hC.q12, hC.q19, hC.q112, hC.q119, hC.a2, hC.a4, hC.a27, hC.a127, hC.a128, hC, z0, e2, i1, i1n, i1x, fpTempted]
            refine ⟨σ, hk, hT, by omega, by omega, by omega, fun σ2 hT2 => ?_⟩
            obtain ⟨u1, u2, u3⟩ := hT2.q
            simp [bs_108, sg_108_19_1, sg_108_19_2, sg_108_19_3, hN _, x_iconst, x_ldc2_w, x_aconst_null, x_iload, x_lload, x_aload, x_istore, x_lstore, x_astore, x_iinc, x_iadd, x_isub, x_imul, x_idiv, x_irem, x_iand, x_ior, x_ixor, x_ishl, x_ishr, x_iushr, x_ineg, x_ladd, x_lsub, x_lmul, x_ldiv, x_lrem, x_lcmp, x_i2l, x_i2b, x_i2s, x_i2c, x_dup, x_pop, x_dup_x1, x_dup2, x_getfield, x_putfield, x_iaload, x_baload, x_saload, x_caload, x_daload, x_faload, x_laload, x_aaload, x_iastore, x_bastore, x_sastore, x_castore, x_lastore, x_aastore, x_arraylength, x_getstatic, x_goto, x_goto_w, x_ifCond, x_if_icmp, x_ifnull, x_ifnonnull, x_lookupswitch, x_invokevirtual, x_invokestatic, x_invokedynamic, x_ireturn, x_freturn, x_dreturn, x_lreturn, x_areturn, x_return_, pI_c, pL_c, pR_c, pV_i, pV_r, gI_c, gL_c, gR_c, pN_z, pN_s, lget_c, lins_z, lins_c, ldel_z, ldel_c, ldel2_z, ldel2_c, lset_i, lset_l, lset_r, lkeep_z, lkeep_c, largs_z, largs_c, cat_i, cat_l, cat_r, lkp_c, cnd_eq, cnd_ne, cnd_lt, cnd_ge, cnd_gt, cnd_le, swL_z, swL_c, rE_e, rOr_s, rOr_n, rlk_z, rlk_c, aR_c, aI_c, aII_c, aIII_c, aRI_c, aRII_c, aRIII_c, vJn, vJs, vlc, aRR_c, aRRI_c, aRRII_c, aRRIII_c, aRIIII_c, aRL_c, aRLL_c, aLL_c, aRRRI_c, aIL_c, aIIII_c, aRRIIII_c, aIRII_c, aIR_c, aLI_c, aRIR_c, aRIIR_c, hC.o0, hC.f0_0, hC.f0_1, hC.f0_2, hC.f0_3, hC.f0_4, hC.f0_5, hC.f0_6, hC.f0_7, hC.f0_8, hC.f0_9, hC.f0_10, hC.f0_11, hC.o1, hC.f1, hC.t2, hC.l2, hC.o3, hC.f3, hC.t4, hC.l4, hC.s5, hC.s12, hC.s19, hC.s112, hC.s119, hC.o26, hC.f26, hC.t27, hC.l27, hC.s28, hC.o126, hC.f126_0, hC.f126_1, hC.t127, hC.l127, hC.t128, hC.l128, hC.s129, hC.n157, hC.n161, hC.o165, hC.f165, hC.t166, hC.l166, hC.r167, hC.r171, hC.q5, hC.q12, hC.q19, hC.q112, hC.q119, hC.a2, hC.a4, hC.a27, hC.a127, hC.a128, hC, e2, rpClears, rpAdds, up_ap]
            refine ⟨fun z => ?_, fun z => ?_⟩
            · rw [if_pos z] at hQ
              exact ihr (i + 1) σ2 (by omega) hT2 hQ
            · rw [if_neg z] at hQ
              exact hQ _ (QTo.q1 u1)
        have K := I (nS σ 5) 0 σ' (by omega) hT hQ
        have e3 : ¬ 12 < (k : Int) := by omega
        have e4 : ¬ 12 < k := by omega
        refine wa (by decide) rgT_ok tk_108 30 (fun N hN => ?_)
        simp [bl_108, hN _, x_iconst, x_ldc2_w, x_aconst_null, x_iload, x_lload, x_aload, x_istore, x_lstore, x_astore, x_iinc, x_iadd, x_isub, x_imul, x_idiv, x_irem, x_iand, x_ior, x_ixor, x_ishl, x_ishr, x_iushr, x_ineg, x_ladd, x_lsub, x_lmul, x_ldiv, x_lrem, x_lcmp, x_i2l, x_i2b, x_i2s, x_i2c, x_dup, x_pop, x_dup_x1, x_dup2, x_getfield, x_putfield, x_iaload, x_baload, x_saload, x_caload, x_daload, x_faload, x_laload, x_aaload, x_iastore, x_bastore, x_sastore, x_castore, x_lastore, x_aastore, x_arraylength, x_getstatic, x_goto, x_goto_w, x_ifCond, x_if_icmp, x_ifnull, x_ifnonnull, x_lookupswitch, x_invokevirtual, x_invokestatic, x_invokedynamic, x_ireturn, x_freturn, x_dreturn, x_lreturn, x_areturn, x_return_, pI_c, pL_c, pR_c, pV_i, pV_r, gI_c, gL_c, gR_c, pN_z, pN_s, lget_c, lins_z, lins_c, ldel_z, ldel_c, ldel2_z, ldel2_c, lset_i, lset_l, lset_r, lkeep_z, lkeep_c, largs_z, largs_c, cat_i, cat_l, cat_r, lkp_c, cnd_eq, cnd_ne, cnd_lt, cnd_ge, cnd_gt, cnd_le, swL_z, swL_c, rE_e, rOr_s, rOr_n, rlk_z, rlk_c, aR_c, aI_c, aII_c, aIII_c, aRI_c, aRII_c, aRIII_c, vJn, vJs, vlc, aRR_c, aRRI_c, aRRII_c, aRRIII_c, aRIIII_c, aRL_c, aRLL_c, aLL_c, aRRRI_c, aIL_c, aIIII_c, aRRIIII_c, aIRII_c, aIR_c, aLI_c, aRIR_c, aRIIR_c, e3, e4]
        exact fun _ => K
    have K := O 12 1 σ (by omega) (by omega) (Or.inl rfl) h
    refine wg (by decide) rgT_ok tk_108 py_108 ml_108 30 (by simp [catT]) (fun N hN => ?_)
    simp [bl_108, hN _, x_iconst, x_ldc2_w, x_aconst_null, x_iload, x_lload, x_aload, x_istore, x_lstore, x_astore, x_iinc, x_iadd, x_isub, x_imul, x_idiv, x_irem, x_iand, x_ior, x_ixor, x_ishl, x_ishr, x_iushr, x_ineg, x_ladd, x_lsub, x_lmul, x_ldiv, x_lrem, x_lcmp, x_i2l, x_i2b, x_i2s, x_i2c, x_dup, x_pop, x_dup_x1, x_dup2, x_getfield, x_putfield, x_iaload, x_baload, x_saload, x_caload, x_daload, x_faload, x_laload, x_aaload, x_iastore, x_bastore, x_sastore, x_castore, x_lastore, x_aastore, x_arraylength, x_getstatic, x_goto, x_goto_w, x_ifCond, x_if_icmp, x_ifnull, x_ifnonnull, x_lookupswitch, x_invokevirtual, x_invokestatic, x_invokedynamic, x_ireturn, x_freturn, x_dreturn, x_lreturn, x_areturn, x_return_, pI_c, pL_c, pR_c, pV_i, pV_r, gI_c, gL_c, gR_c, pN_z, pN_s, lget_c, lins_z, lins_c, ldel_z, ldel_c, ldel2_z, ldel2_c, lset_i, lset_l, lset_r, lkeep_z, lkeep_c, largs_z, largs_c, cat_i, cat_l, cat_r, lkp_c, cnd_eq, cnd_ne, cnd_lt, cnd_ge, cnd_gt, cnd_le, swL_z, swL_c, rE_e, rOr_s, rOr_n, rlk_z, rlk_c, aR_c, aI_c, aII_c, aIII_c, aRI_c, aRII_c, aRIII_c, vJn, vJs, vlc, aRR_c, aRRI_c, aRRII_c, aRRIII_c, aRIIII_c, aRL_c, aRLL_c, aLL_c, aRRRI_c, aIL_c, aIIII_c, aRRIIII_c, aIRII_c, aIR_c, aLI_c, aRIR_c, aRIIR_c, spSide, f0, f1, Int.not_le.mpr f1, Int.not_lt.mpr f0]
    exact K
  · rw [if_neg hs] at h
    have h := h σ QTo.rf
    refine wg (by decide) rgT_ok tk_108 py_108 ml_108 30 (by simp [catT]) (fun N hN => ?_)
    simp [bl_108, hN _, x_iconst, x_ldc2_w, x_aconst_null, x_iload, x_lload, x_aload, x_istore, x_lstore, x_astore, x_iinc, x_iadd, x_isub, x_imul, x_idiv, x_irem, x_iand, x_ior, x_ixor, x_ishl, x_ishr, x_iushr, x_ineg, x_ladd, x_lsub, x_lmul, x_ldiv, x_lrem, x_lcmp, x_i2l, x_i2b, x_i2s, x_i2c, x_dup, x_pop, x_dup_x1, x_dup2, x_getfield, x_putfield, x_iaload, x_baload, x_saload, x_caload, x_daload, x_faload, x_laload, x_aaload, x_iastore, x_bastore, x_sastore, x_castore, x_lastore, x_aastore, x_arraylength, x_getstatic, x_goto, x_goto_w, x_ifCond, x_if_icmp, x_ifnull, x_ifnonnull, x_lookupswitch, x_invokevirtual, x_invokestatic, x_invokedynamic, x_ireturn, x_freturn, x_dreturn, x_lreturn, x_areturn, x_return_, pI_c, pL_c, pR_c, pV_i, pV_r, gI_c, gL_c, gR_c, pN_z, pN_s, lget_c, lins_z, lins_c, ldel_z, ldel_c, ldel2_z, ldel2_c, lset_i, lset_l, lset_r, lkeep_z, lkeep_c, largs_z, largs_c, cat_i, cat_l, cat_r, lkp_c, cnd_eq, cnd_ne, cnd_lt, cnd_ge, cnd_gt, cnd_le, swL_z, swL_c, rE_e, rOr_s, rOr_n, rlk_z, rlk_c, aR_c, aI_c, aII_c, aIII_c, aRI_c, aRII_c, aRIII_c, vJn, vJs, vlc, aRR_c, aRRI_c, aRRII_c, aRRIII_c, aRIIII_c, aRL_c, aRLL_c, aLL_c, aRRRI_c, aIL_c, aIIII_c, aRRIIII_c, aIRII_c, aIR_c, aLI_c, aRIR_c, aRIIR_c, spSide]
    grind
def motB (V : Int → Int) : Nat → Nat
  | 0 => 0
  | k + 1 => if ownV V (k + 1 : Nat) < ownV V (motB V k) then k + 1 else motB V k
def motC (V : Int → Int) (b : Int) : Nat → Nat
  | 0 => 0
  | k + 1 => if (k : Int) ≠ V (6 + b) ∧ 0 < partV V b k then motC V b k + 1 else motC V b k
theorem motB_l (V : Int → Int) : ∀ k, motB V k ≤ k
  | 0 => Nat.le_refl _
  | k + 1 => by
    have := motB_l V k
    unfold motB
    split <;> omega
theorem motC_l (V : Int → Int) (b : Int) : ∀ k, motC V b k ≤ k
  | 0 => Nat.le_refl _
  | k + 1 => by
    have := motC_l V b k
    unfold motC
    split <;> omega
def motQ (n : Nat) (V : Int → Int) : QA := if n = 0 then (-2, none) else ((motB V (n - 1) : Int), some [12 - ownV V (motB V (n - 1)), (motC V (motB V (n - 1)) 4 : Int)])
theorem own_in {n : Nat} {M V : Int → Int} (h : WFV n M V) {i : Int} (h0 : 0 ≤ i) (h1 : i < n) : 0 ≤ ownV V i ∧ ownV V i ≤ 12 := h.pt h0 h1 (sd_in h h0 h1).1 (sd_in h h0 h1).2
theorem o_motley {l : Launch} {g : GE} {d : Nat} {t : Tau} {σ : Mem} {Q : Post} (hC : TC t) (hk : SeaOk t σ 5) (h : ansC (motQ (nS σ 5) (vwS σ 5)) t σ Q) : WPc l g 104 (d + 7) 0 0 [vR 0] t σ Q := by
  have n6 := hk.2.2.1
  have z0 := hk.2.1
  unfold ansC motQ at h
  by_cases hn : nS σ 5 = 0
  · rw [if_pos hn] at h
    have h := h σ QTo.rf
    refine wg (by decide) rgC_ok tk_104 py_104 ml_104 30 (by simp [catT]) (fun N hN => ?_)
    simp [bl_104, hN _, x_iconst, x_ldc2_w, x_aconst_null, x_iload, x_lload, x_aload, x_istore, x_lstore, x_astore, x_iinc, x_iadd, x_isub, x_imul, x_idiv, x_irem, x_iand, x_ior, x_ixor, x_ishl, x_ishr, x_iushr, x_ineg, x_ladd, x_lsub, x_lmul, x_ldiv, x_lrem, x_lcmp, x_i2l, x_i2b, x_i2s, x_i2c, x_dup, x_pop, x_dup_x1, x_dup2, x_getfield, x_putfield, x_iaload, x_baload, x_saload, x_caload, x_daload, x_faload, x_laload, x_aaload, x_iastore, x_bastore, x_sastore, x_castore, x_lastore, x_aastore, x_arraylength, x_getstatic, x_goto, x_goto_w, x_ifCond, x_if_icmp, x_ifnull, x_ifnonnull, x_lookupswitch, x_invokevirtual, x_invokestatic, x_invokedynamic, x_ireturn, x_freturn, x_dreturn, x_lreturn, x_areturn, x_return_, pI_c, pL_c, pR_c, pV_i, pV_r, gI_c, gL_c, gR_c, pN_z, pN_s, lget_c, lins_z, lins_c, ldel_z, ldel_c, ldel2_z, ldel2_c, lset_i, lset_l, lset_r, lkeep_z, lkeep_c, largs_z, largs_c, cat_i, cat_l, cat_r, lkp_c, cnd_eq, cnd_ne, cnd_lt, cnd_ge, cnd_gt, cnd_le, swL_z, swL_c, rE_e, rOr_s, rOr_n, rlk_z, rlk_c, aR_c, aI_c, aII_c, aIII_c, aRI_c, aRII_c, aRIII_c, vJn, vJs, vlc, aRR_c, aRRI_c, aRRII_c, aRRIII_c, aRIIII_c, aRL_c, aRLL_c, aLL_c, aRRRI_c, aIL_c, aIIII_c, aRRIIII_c, aIRII_c, aIR_c, aLI_c, aRIR_c, aRIIR_c, hC.o0, hC.f0_0, hC.f0_1, hC.f0_2, hC.f0_3, hC.f0_4, hC.f0_5, hC.f0_6, hC.f0_7, hC.f0_8, hC.f0_9, hC.f0_10, hC.f0_11, hC.o1, hC.f1, hC.t2, hC.l2, hC.o3, hC.f3, hC.t4, hC.l4, hC.s5, hC.s12, hC.s19, hC.s112, hC.s119, hC.o26, hC.f26, hC.t27, hC.l27, hC.s28, hC.o126, hC.f126_0, hC.f126_1, hC.t127, hC.l127, hC.t128, hC.l128, hC.s129, hC.n157, hC.n161, hC.o165, hC.f165, hC.t166, hC.l166, hC.r167, hC.r171, hC.q5, hC.q12, hC.q19, hC.q112, hC.q119, hC.a2, hC.a4, hC.a27, hC.a127, hC.a128, hC, z0, hn]
    exact h
  · rw [if_neg hn] at h
    have hn' : ¬ (nS σ 5 : Int) = 0 := by omega
    have hb := motB_l (vwS σ 5) (nS σ 5 - 1)
    generalize hB : motB (vwS σ 5) (nS σ 5 - 1) = B at h hb
    have hB1 : (B : Int) < nS σ 5 := by omega
    have hB2 : B < nS σ 5 := by omega
    have K2 : Wp l g 104 (d + 7) 0 0 59 [(0, vR 0), (1, vI B), (2, vI (motC (vwS σ 5) B 0 : Nat)), (3, vI (0 : Nat))] [] t σ Q := by
      refine lpU (P := fun i => Wp l g 104 (d + 7) 0 0 59 [(0, vR 0), (1, vI B), (2, vI (motC (vwS σ 5) B i : Nat)), (3, vI i)] [] t σ Q) (n := 4) ?_ (fun i hi K => ?_)
      · refine wa (by decide) rgC_ok tk_104 30 (fun N hN => ?_)
        simp [bl_104, hN _, x_iconst, x_ldc2_w, x_aconst_null, x_iload, x_lload, x_aload, x_istore, x_lstore, x_astore, x_iinc, x_iadd, x_isub, x_imul, x_idiv, x_irem, x_iand, x_ior, x_ixor, x_ishl, x_ishr, x_iushr, x_ineg, x_ladd, x_lsub, x_lmul, x_ldiv, x_lrem, x_lcmp, x_i2l, x_i2b, x_i2s, x_i2c, x_dup, x_pop, x_dup_x1, x_dup2, x_getfield, x_putfield, x_iaload, x_baload, x_saload, x_caload, x_daload, x_faload, x_laload, x_aaload, x_iastore, x_bastore, x_sastore, x_castore, x_lastore, x_aastore, x_arraylength, x_getstatic, x_goto, x_goto_w, x_ifCond, x_if_icmp, x_ifnull, x_ifnonnull, x_lookupswitch, x_invokevirtual, x_invokestatic, x_invokedynamic, x_ireturn, x_freturn, x_dreturn, x_lreturn, x_areturn, x_return_, pI_c, pL_c, pR_c, pV_i, pV_r, gI_c, gL_c, gR_c, pN_z, pN_s, lget_c, lins_z, lins_c, ldel_z, ldel_c, ldel2_z, ldel2_c, lset_i, lset_l, lset_r, lkeep_z, lkeep_c, largs_z, largs_c, cat_i, cat_l, cat_r, lkp_c, cnd_eq, cnd_ne, cnd_lt, cnd_ge, cnd_gt, cnd_le, swL_z, swL_c, rE_e, rOr_s, rOr_n, rlk_z, rlk_c, aR_c, aI_c, aII_c, aIII_c, aRI_c, aRII_c, aRIII_c, vJn, vJs, vlc, aRR_c, aRRI_c, aRRII_c, aRRIII_c, aRIIII_c, aRL_c, aRLL_c, aLL_c, aRRRI_c, aIL_c, aIIII_c, aRRIIII_c, aIRII_c, aIR_c, aLI_c, aRIR_c, aRIIR_c, hC.o0, hC.f0_0, hC.f0_1, hC.f0_2, hC.f0_3, hC.f0_4, hC.f0_5, hC.f0_6, hC.f0_7, hC.f0_8, hC.f0_9, hC.f0_10, hC.f0_11, hC.o1, hC.f1, hC.t2, hC.l2, hC.o3, hC.f3, hC.t4, hC.l4, hC.s5, hC.s12, hC.s19, hC.s112, hC.s119, hC.o26, hC.f26, hC.t27, hC.l27, hC.s28, hC.o126, hC.f126_0, hC.f126_1, hC.t127, hC.l127, hC.t128, hC.l128, hC.s129, hC.n157, hC.n161, hC.o165, hC.f165, hC.t166, hC.l166, hC.r167, hC.r171, hC.q5, hC.q12, hC.q19, hC.q112, hC.q119, hC.a2, hC.a4, hC.a27, hC.a127, hC.a128, hC, rpClears, rpAdds, apStrange, hk, up_ap, ok_up, vw_up, nS_up, hB1, hB2]
        exact h _ (QTo.q2 QFr.rf)
      · have e2 := w32_succ (k := i) (by omega); have i1 : ((i : Nat) : Int) < 4 := (by omega); have i1n : i < 4 := (by omega); have i1x : ¬ (4 : Int) ≤ (i : Nat) := (by omega)
        have hc := motC_l (vwS σ 5) B i
        have e3 := w32_succ (k := motC (vwS σ 5) B i) (by omega)
        have es : motC (vwS σ 5) B (i + 1) = if (i : Int) ≠ vwS σ 5 (6 + B) ∧ 0 < partV (vwS σ 5) B i then motC (vwS σ 5) B i + 1 else motC (vwS σ 5) B i := rfl
        rw [es] at K
        refine wa (by decide) rgC_ok tk_104 30 (fun N hN => ?_)
        simp [bl_104, hN _, x_iconst, x_ldc2_w, x_aconst_null, x_iload, x_lload, x_aload, x_istore, x_lstore, x_astore, x_iinc, x_iadd, x_isub, x_imul, x_idiv, x_irem, x_iand, x_ior, x_ixor, x_ishl, x_ishr, x_iushr, x_ineg, x_ladd, x_lsub, x_lmul, x_ldiv, x_lrem, x_lcmp, x_i2l, x_i2b, x_i2s, x_i2c, x_dup, x_pop, x_dup_x1, x_dup2, x_getfield, x_putfield, x_iaload, x_baload, x_saload, x_caload, x_daload, x_faload, x_laload, x_aaload, x_iastore, x_bastore, x_sastore, x_castore, x_lastore, x_aastore, x_arraylength, x_getstatic, x_goto, x_goto_w, x_ifCond, x_if_icmp, x_ifnull, x_ifnonnull, x_lookupswitch, x_invokevirtual, x_invokestatic, x_invokedynamic, x_ireturn, x_freturn, x_dreturn, x_lreturn, x_areturn, x_return_, pI_c, pL_c, pR_c, pV_i, pV_r, gI_c, gL_c, gR_c, pN_z, pN_s, lget_c, lins_z, lins_c, ldel_z, ldel_c, ldel2_z, ldel2_c, lset_i, lset_l, lset_r, lkeep_z, lkeep_c, largs_z, largs_c, cat_i, cat_l, cat_r, lkp_c, cnd_eq, cnd_ne, cnd_lt, cnd_ge, cnd_gt, cnd_le, swL_z, swL_c, rE_e, rOr_s, rOr_n, rlk_z, rlk_c, aR_c, aI_c, aII_c, aIII_c, aRI_c, aRII_c, aRIII_c, vJn, vJs, vlc, aRR_c, aRRI_c, aRRII_c, aRRIII_c, aRIIII_c, aRL_c, aRLL_c, aLL_c, aRRRI_c, aIL_c, aIIII_c, aRRIIII_c, aIRII_c, aIR_c, aLI_c, aRIR_c, aRIIR_c, hC.o0, hC.f0_0, hC.f0_1, hC.f0_2, hC.f0_3, hC.f0_4, hC.f0_5, hC.f0_6, hC.f0_7, hC.f0_8, hC.f0_9, hC.f0_10, hC.f0_11, hC.o1, hC.f1, hC.t2, hC.l2, hC.o3, hC.f3, hC.t4, hC.l4, hC.s5, hC.s12, hC.s19, hC.s112, hC.s119, hC.o26, hC.f26, hC.t27, hC.l27, hC.s28, hC.o126, hC.f126_0, hC.f126_1, hC.t127, hC.l127, hC.t128, hC.l128, hC.s129, hC.n157, hC.n161, hC.o165, hC.f165, hC.t166, hC.l166, hC.r167, hC.r171, hC.q5, hC.q12, hC.q19, hC.q112, hC.q119, hC.a2, hC.a4, hC.a27, hC.a127, hC.a128, hC, apOf, apParts, hk, e2, i1, i1n, i1x, hB1, hB2, e3]
        refine ⟨fun z => ?_, fun z => ⟨fun y => ?_, fun y => ?_⟩⟩
        · rw [if_neg (fun w => w.1 z)] at K; exact K
        · rw [if_neg (fun w => by omega)] at K; exact K
        · rw [if_pos ⟨z, y⟩] at K; exact K
    have K1 : Wp l g 104 (d + 7) 0 0 17 [(0, vR 0), (1, vI (motB (vwS σ 5) 0 : Nat)), (2, vI (0 + 1 : Nat))] [] t σ Q := by
      refine lpU (P := fun i => Wp l g 104 (d + 7) 0 0 17 [(0, vR 0), (1, vI (motB (vwS σ 5) i : Nat)), (2, vI (i + 1 : Nat))] [] t σ Q) (n := nS σ 5 - 1) ?_ (fun i hi K => ?_)
      · have e1 : nS σ 5 - 1 + 1 = nS σ 5 := by omega
        rw [hB, e1]
        refine wa (by decide) rgC_ok tk_104 30 (fun N hN => ?_)
        simp [bl_104, hN _, x_iconst, x_ldc2_w, x_aconst_null, x_iload, x_lload, x_aload, x_istore, x_lstore, x_astore, x_iinc, x_iadd, x_isub, x_imul, x_idiv, x_irem, x_iand, x_ior, x_ixor, x_ishl, x_ishr, x_iushr, x_ineg, x_ladd, x_lsub, x_lmul, x_ldiv, x_lrem, x_lcmp, x_i2l, x_i2b, x_i2s, x_i2c, x_dup, x_pop, x_dup_x1, x_dup2, x_getfield, x_putfield, x_iaload, x_baload, x_saload, x_caload, x_daload, x_faload, x_laload, x_aaload, x_iastore, x_bastore, x_sastore, x_castore, x_lastore, x_aastore, x_arraylength, x_getstatic, x_goto, x_goto_w, x_ifCond, x_if_icmp, x_ifnull, x_ifnonnull, x_lookupswitch, x_invokevirtual, x_invokestatic, x_invokedynamic, x_ireturn, x_freturn, x_dreturn, x_lreturn, x_areturn, x_return_, pI_c, pL_c, pR_c, pV_i, pV_r, gI_c, gL_c, gR_c, pN_z, pN_s, lget_c, lins_z, lins_c, ldel_z, ldel_c, ldel2_z, ldel2_c, lset_i, lset_l, lset_r, lkeep_z, lkeep_c, largs_z, largs_c, cat_i, cat_l, cat_r, lkp_c, cnd_eq, cnd_ne, cnd_lt, cnd_ge, cnd_gt, cnd_le, swL_z, swL_c, rE_e, rOr_s, rOr_n, rlk_z, rlk_c, aR_c, aI_c, aII_c, aIII_c, aRI_c, aRII_c, aRIII_c, vJn, vJs, vlc, aRR_c, aRRI_c, aRRII_c, aRRIII_c, aRIIII_c, aRL_c, aRLL_c, aLL_c, aRRRI_c, aIL_c, aIIII_c, aRRIIII_c, aIRII_c, aIR_c, aLI_c, aRIR_c, aRIIR_c, hC.o0, hC.f0_0, hC.f0_1, hC.f0_2, hC.f0_3, hC.f0_4, hC.f0_5, hC.f0_6, hC.f0_7, hC.f0_8, hC.f0_9, hC.f0_10, hC.f0_11, hC.o1, hC.f1, hC.t2, hC.l2, hC.o3, hC.f3, hC.t4, hC.l4, hC.s5, hC.s12, hC.s19, hC.s112, hC.s119, hC.o26, hC.f26, hC.t27, hC.l27, hC.s28, hC.o126, hC.f126_0, hC.f126_1, hC.t127, hC.l127, hC.t128, hC.l128, hC.s129, hC.n157, hC.n161, hC.o165, hC.f165, hC.t166, hC.l166, hC.r167, hC.r171, hC.q5, hC.q12, hC.q19, hC.q112, hC.q119, hC.a2, hC.a4, hC.a27, hC.a127, hC.a128, hC, z0]
        exact K2
      · have e2 := w32_succ (k := i + 1) (by omega)
        have hl := motB_l (vwS σ 5) i
        have i1 : ((i : Nat) : Int) + 1 < nS σ 5 := by omega
        have i2 : ¬ (nS σ 5 : Int) ≤ (i : Int) + 1 := by omega
        have i3 : i + 1 < nS σ 5 := by omega
        have i4 : ¬ nS σ 5 ≤ i + 1 := by omega
        have i5 : motB (vwS σ 5) i < nS σ 5 := by omega
        have i6 : (0 : Int) ≤ (i : Int) + 1 := by omega
        have es : motB (vwS σ 5) (i + 1) = if ownV (vwS σ 5) (i + 1 : Nat) < ownV (vwS σ 5) (motB (vwS σ 5) i) then i + 1 else motB (vwS σ 5) i := rfl
        rw [es] at K
        have hw1 := own_in hk.2.2 (i := (i + 1 : Nat)) (by omega) (by omega)
        have hw2 := own_in hk.2.2 (i := (motB (vwS σ 5) i : Nat)) (by omega) (by omega)
        refine wa (by decide) rgC_ok tk_104 30 (fun N hN => ?_)
        simp [bl_104, hN _, x_iconst, x_ldc2_w, x_aconst_null, x_iload, x_lload, x_aload, x_istore, x_lstore, x_astore, x_iinc, x_iadd, x_isub, x_imul, x_idiv, x_irem, x_iand, x_ior, x_ixor, x_ishl, x_ishr, x_iushr, x_ineg, x_ladd, x_lsub, x_lmul, x_ldiv, x_lrem, x_lcmp, x_i2l, x_i2b, x_i2s, x_i2c, x_dup, x_pop, x_dup_x1, x_dup2, x_getfield, x_putfield, x_iaload, x_baload, x_saload, x_caload, x_daload, x_faload, x_laload, x_aaload, x_iastore, x_bastore, x_sastore, x_castore, x_lastore, x_aastore, x_arraylength, x_getstatic, x_goto, x_goto_w, x_ifCond, x_if_icmp, x_ifnull, x_ifnonnull, x_lookupswitch, x_invokevirtual, x_invokestatic, x_invokedynamic, x_ireturn, x_freturn, x_dreturn, x_lreturn, x_areturn, x_return_, pI_c, pL_c, pR_c, pV_i, pV_r, gI_c, gL_c, gR_c, pN_z, pN_s, lget_c, lins_z, lins_c, ldel_z, ldel_c, ldel2_z, ldel2_c, lset_i, lset_l, lset_r, lkeep_z, lkeep_c, largs_z, largs_c, cat_i, cat_l, cat_r, lkp_c, cnd_eq, cnd_ne, cnd_lt, cnd_ge, cnd_gt, cnd_le, swL_z, swL_c, rE_e, rOr_s, rOr_n, rlk_z, rlk_c, aR_c, aI_c, aII_c, aIII_c, aRI_c, aRII_c, aRIII_c, vJn, vJs, vlc, aRR_c, aRRI_c, aRRII_c, aRRIII_c, aRIIII_c, aRL_c, aRLL_c, aLL_c, aRRRI_c, aIL_c, aIIII_c, aRRIIII_c, aIRII_c, aIR_c, aLI_c, aRIR_c, aRIIR_c, hC.o0, hC.f0_0, hC.f0_1, hC.f0_2, hC.f0_3, hC.f0_4, hC.f0_5, hC.f0_6, hC.f0_7, hC.f0_8, hC.f0_9, hC.f0_10, hC.f0_11, hC.o1, hC.f1, hC.t2, hC.l2, hC.o3, hC.f3, hC.t4, hC.l4, hC.s5, hC.s12, hC.s19, hC.s112, hC.s119, hC.o26, hC.f26, hC.t27, hC.l27, hC.s28, hC.o126, hC.f126_0, hC.f126_1, hC.t127, hC.l127, hC.t128, hC.l128, hC.s129, hC.n157, hC.n161, hC.o165, hC.f165, hC.t166, hC.l166, hC.r167, hC.r171, hC.q5, hC.q12, hC.q19, hC.q112, hC.q119, hC.a2, hC.a4, hC.a27, hC.a127, hC.a128, hC, z0, apStrange, hk, i1, i2, i3, i4, i5, i6]
        simp at e2 K hw1
        rw [e2]
        refine ⟨fun z => ?_, fun z => ?_⟩
        · rw [if_neg (by omega)] at K; exact K
        · rw [if_pos (by omega)] at K; simpa using K
    refine wg (by decide) rgC_ok tk_104 py_104 ml_104 30 (by simp [catT]) (fun N hN => ?_)
    simp [bl_104, hN _, x_iconst, x_ldc2_w, x_aconst_null, x_iload, x_lload, x_aload, x_istore, x_lstore, x_astore, x_iinc, x_iadd, x_isub, x_imul, x_idiv, x_irem, x_iand, x_ior, x_ixor, x_ishl, x_ishr, x_iushr, x_ineg, x_ladd, x_lsub, x_lmul, x_ldiv, x_lrem, x_lcmp, x_i2l, x_i2b, x_i2s, x_i2c, x_dup, x_pop, x_dup_x1, x_dup2, x_getfield, x_putfield, x_iaload, x_baload, x_saload, x_caload, x_daload, x_faload, x_laload, x_aaload, x_iastore, x_bastore, x_sastore, x_castore, x_lastore, x_aastore, x_arraylength, x_getstatic, x_goto, x_goto_w, x_ifCond, x_if_icmp, x_ifnull, x_ifnonnull, x_lookupswitch, x_invokevirtual, x_invokestatic, x_invokedynamic, x_ireturn, x_freturn, x_dreturn, x_lreturn, x_areturn, x_return_, pI_c, pL_c, pR_c, pV_i, pV_r, gI_c, gL_c, gR_c, pN_z, pN_s, lget_c, lins_z, lins_c, ldel_z, ldel_c, ldel2_z, ldel2_c, lset_i, lset_l, lset_r, lkeep_z, lkeep_c, largs_z, largs_c, cat_i, cat_l, cat_r, lkp_c, cnd_eq, cnd_ne, cnd_lt, cnd_ge, cnd_gt, cnd_le, swL_z, swL_c, rE_e, rOr_s, rOr_n, rlk_z, rlk_c, aR_c, aI_c, aII_c, aIII_c, aRI_c, aRII_c, aRIII_c, vJn, vJs, vlc, aRR_c, aRRI_c, aRRII_c, aRRIII_c, aRIIII_c, aRL_c, aRLL_c, aLL_c, aRRRI_c, aIL_c, aIIII_c, aRRIIII_c, aIRII_c, aIR_c, aLI_c, aRIR_c, aRIIR_c, hC.o0, hC.f0_0, hC.f0_1, hC.f0_2, hC.f0_3, hC.f0_4, hC.f0_5, hC.f0_6, hC.f0_7, hC.f0_8, hC.f0_9, hC.f0_10, hC.f0_11, hC.o1, hC.f1, hC.t2, hC.l2, hC.o3, hC.f3, hC.t4, hC.l4, hC.s5, hC.s12, hC.s19, hC.s112, hC.s119, hC.o26, hC.f26, hC.t27, hC.l27, hC.s28, hC.o126, hC.f126_0, hC.f126_1, hC.t127, hC.l127, hC.t128, hC.l128, hC.s129, hC.n157, hC.n161, hC.o165, hC.f165, hC.t166, hC.l166, hC.r167, hC.r171, hC.q5, hC.q12, hC.q19, hC.q112, hC.q119, hC.a2, hC.a4, hC.a27, hC.a127, hC.a128, hC, z0, hn, hn']
    exact K1
