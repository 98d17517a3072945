/-! StruckColours: a war -/
def WarT (t : Tau) (σ0 σ : Mem) (V : Int → Int) : Prop := (∀ o, (o < 5 ∨ 11 < o) → o ≠ 170 → o ≠ 174 → σ o = σ0 o) ∧ SeaOk t σ 5 ∧ nS σ 5 = nS σ0 5 ∧ mS σ 5 = mS σ0 5 ∧ vwS σ 5 = V
theorem WarT.to {t : Tau} {σ0 σ1 σ2 : Mem} {V W : Int → Int} (h : WarT t σ0 σ1 V) (k : SeaTo t σ1 σ2 5 W) : WarT t σ0 σ2 W := by
  obtain ⟨a1, a2, a3, a4, a5⟩ := h
  obtain ⟨b1, b2, b3, b4, b5⟩ := k
  exact ⟨fun o h1 h2 h3 => by rw [b1 o (by omega)]; exact a1 o h1 h2 h3, b2, b3.trans a3, b4.trans a4, b5⟩
theorem WarT.fgt {t : Tau} {σ0 σ1 σ2 : Mem} {V W : Int → Int} {r : Int} (h : WarT t σ0 σ1 V) (hr : r = 167 ∨ r = 171) (k : FgtTo t σ1 σ2 5 r W) : WarT t σ0 σ2 W := by
  obtain ⟨a1, a2, a3, a4, a5⟩ := h
  obtain ⟨b1, b2, b3, b4, b5⟩ := k
  exact ⟨fun o h1 h2 h3 => by rw [b1 o (by omega) (by omega)]; exact a1 o h1 h2 h3, b2, b3.trans a3, b4.trans a4, b5⟩
theorem WarT.rc {t : Tau} {σ0 σ : Mem} {V : Int → Int} {F : (Int → Int) → Int} (h : WarT t σ0 σ V) (k : RC t σ0 F) : σ 0 = σ0 0 ∧ RuleIs t σ (σ0 0 12) F ∧ (5 : Int) + 6 < σ0 0 12 := by
  obtain ⟨k1, k2, k3⟩ := k
  refine ⟨h.1 0 (by omega) (by omega) (by omega), k2.cg (h.1 _ ?_ ?_ ?_) (h.1 _ ?_ ?_ ?_), ?_⟩ <;> rcases k1 with e | e <;> rw [e] <;> omega
noncomputable def actV (F : (Int → Int) → Int) (n : Nat) (M : Int → Int) (k : Int) (T : Int → Int) (p : Nat) (V : Int → Int) : Bool × (Int → Int) :=
  if T p = 102 then (decide (0 ≤ winA F n V (T (p + 1 : Nat) - 48) (T (p + 2 : Nat) - 48) ∨ winA F n V (T (p + 1 : Nat) - 48) (T (p + 2 : Nat) - 48) = -3), fgtV F n k V (T (p + 1 : Nat) - 48) (T (p + 2 : Nat) - 48))
  else if T p = 110 then (true, daysV n M V (T (p + 1 : Nat) - 48).toNat)
  else if T p = 115 then (decide (0 ≤ sewA n V (T (p + 1 : Nat) - 48) (T (p + 2 : Nat) - 97) (T (p + 3 : Nat) - 48)), sewN n V (T (p + 1 : Nat) - 48) (T (p + 2 : Nat) - 97) (T (p + 3 : Nat) - 48))
  else (decide (0 ≤ yieldA n V (T (p + 1 : Nat) - 48) (T (p + 2 : Nat) - 97)), yieldN n V (T (p + 1 : Nat) - 48) (T (p + 2 : Nat) - 97))
theorem act_k {T : Int → Int} {p : Nat} (h : actOk T p) : (T p = 102 ∨ T p = 110 ∨ T p = 115 ∨ T p = 121) ∧ (48 ≤ T (p + 1 : Nat) ∧ T (p + 1 : Nat) ≤ 57) := by
  have hL := lnA_b (T p)
  have h0 := h 0 (by omega)
  have h1 := h 1 (by omega)
  unfold stA at h0 h1
  simp at h0 h1
  exact ⟨h0, h1⟩
def fpActs : Sp := fun as t σ Q => aRI as fun a p => a = 0 ∧ TC t ∧ (0 ≤ p ∧ p ≤ 76) ∧ ∃ σ0 F V, RC t σ0 F ∧ TxOk σ0 ∧ WarT t σ0 σ V ∧ actOk (σ0 2) p.toNat ∧ ∀ σ', WarT t σ0 σ' (actV F (nS σ0 5) (mS σ0 5) (σ0 0 14) (σ0 2) p.toNat V).2 → Q (some (vI (if (actV F (nS σ0 5) (mS σ0 5) (σ0 0 14) (σ0 2) p.toNat V).1 then 1 else 0))) t σ'
set_option maxHeartbeats 1000000 in
theorem f_acts {l : Launch} {g : GE} {d : Nat} {t : Tau} {σ : Mem} {Q : Post} {as : List TV} (h0 : fpActs as t σ Q) : WPc l g 141 (d + 7) 0 0 as t σ Q := by
  obtain ⟨a, p', rfl, rfl, hC, hp, σ0, F, V, hR, hT, hW, hA, h⟩ := aRI_e h0
  clear h0
  obtain ⟨p, rfl⟩ : ∃ n : Nat, p' = n := ⟨p'.toNat, by omega⟩
  simp only [Int.toNat_natCast] at h hA
  obtain ⟨hk, hd⟩ := act_k hA
  have W0 := hW
  obtain ⟨r0, r1, r2⟩ := hW.rc hR
  obtain ⟨a1, a2, a3, a4, a5⟩ := hW
  have x2 : σ 2 = σ0 2 := a1 2 (by omega) (by omega) (by omega)
  have x1 : σ 1 = σ0 1 := a1 1 (by omega) (by omega) (by omega)
  have hT2 : TxOk σ := by unfold TxOk; rw [x1, x2]; exact hT
  have e1 : w32 ((p : Int) + 1) = ((p + 1 : Nat) : Int) := by rw [w32_id (by omega) (by omega)]; omega
  have e2 : w32 ((p : Int) + 2) = ((p + 2 : Nat) : Int) := by rw [w32_id (by omega) (by omega)]; omega
  have e3 : w32 ((p : Int) + 3) = ((p + 3 : Nat) : Int) := by rw [w32_id (by omega) (by omega)]; omega
  have v2 := hT.2 (p + 2 : Nat) (by omega) (by omega)
  have v3 := hT.2 (p + 3 : Nat) (by omega) (by omega)
  have b0 : (p : Int) < 80 := by omega
  have b0n : p < 80 := by omega
  have f1 : w32 (σ0 2 (p + 1 : Nat) - 48) = σ0 2 (p + 1 : Nat) - 48 := w32_id (by omega) (by omega)
  have f2 : w32 (σ0 2 (p + 2 : Nat) - 48) = σ0 2 (p + 2 : Nat) - 48 := w32_id (by omega) (by omega)
  have f3 : w32 (σ0 2 (p + 2 : Nat) - 97) = σ0 2 (p + 2 : Nat) - 97 := w32_id (by omega) (by omega)
  have f4 : w32 (σ0 2 (p + 3 : Nat) - 48) = σ0 2 (p + 3 : Nat) - 48 := w32_id (by omega) (by omega)
  refine wg (by decide) rgC_ok ts_141 py_141 ml_141 30 (by simp [catT]) (fun N hN => ?_)
  rcases hk with hk | hk | hk | hk
  · have eA : actV F (nS σ0 5) (mS σ0 5) (σ0 0 14) (σ0 2) p V = (decide (0 ≤ winA F (nS σ0 5) V (σ0 2 (p + 1 : Nat) - 48) (σ0 2 (p + 2 : Nat) - 48) ∨ winA F (nS σ0 5) V (σ0 2 (p + 1 : Nat) - 48) (σ0 2 (p + 2 : Nat) - 48) = -3), fgtV F (nS σ0 5) (σ0 0 14) V (σ0 2 (p + 1 : Nat) - 48) (σ0 2 (p + 2 : Nat) - 48)) := by unfold actV; rw [if_pos hk]
    simp only [eA] at h
    simp [bs_141, hN _, x_iconst, x_ldc2_w, x_aconst_null, x_iload, x_lload, x_aload, x_istore, x_lstore, x_astore, x_iinc, x_iadd, x_isub, x_imul, x_idiv, x_irem, x_iand, x_ior, x_ixor, x_ishl, x_ishr, x_iushr, x_ineg, x_ladd, x_lsub, x_lmul, x_ldiv, x_lrem, x_lcmp, x_i2l, x_i2b, x_i2s, x_i2c, x_dup, x_pop, x_dup_x1, x_dup2, x_getfield, x_putfield, x_iaload, x_baload, x_saload, x_caload, x_daload, x_faload, x_laload, x_aaload, x_iastore, x_bastore, x_sastore, x_castore, x_lastore, x_aastore, x_arraylength, x_getstatic, x_goto, x_goto_w, x_ifCond, x_if_icmp, x_ifnull, x_ifnonnull, x_lookupswitch, x_invokevirtual, x_invokestatic, x_invokedynamic, x_ireturn, x_freturn, x_dreturn, x_lreturn, x_areturn, x_return_, pI_c, pL_c, pR_c, pV_i, pV_r, gI_c, gL_c, gR_c, pN_z, pN_s, lget_c, lins_z, lins_c, ldel_z, ldel_c, ldel2_z, ldel2_c, lset_i, lset_l, lset_r, lkeep_z, lkeep_c, largs_z, largs_c, cat_i, cat_l, cat_r, lkp_c, cnd_eq, cnd_ne, cnd_lt, cnd_ge, cnd_gt, cnd_le, swL_z, swL_c, rE_e, rOr_s, rOr_n, rlk_z, rlk_c, aR_c, aI_c, aII_c, aIII_c, aRI_c, aRII_c, aRIII_c, vJn, vJs, vlc, aRR_c, aRRI_c, aRRII_c, aRRIII_c, aRIIII_c, aRL_c, aRLL_c, aLL_c, aRRRI_c, aIL_c, aIIII_c, aRRIIII_c, aIRII_c, aIR_c, aLI_c, aRIR_c, aRIIR_c, hC.o0, hC.f0_0, hC.f0_1, hC.f0_2, hC.f0_3, hC.f0_4, hC.f0_5, hC.f0_6, hC.f0_7, hC.f0_8, hC.f0_9, hC.f0_10, hC.f0_11, hC.o1, hC.f1, hC.t2, hC.l2, hC.o3, hC.f3, hC.t4, hC.l4, hC.s5, hC.s12, hC.s19, hC.s112, hC.s119, hC.o26, hC.f26, hC.t27, hC.l27, hC.s28, hC.o126, hC.f126_0, hC.f126_1, hC.t127, hC.l127, hC.t128, hC.l128, hC.s129, hC.n157, hC.n161, hC.o165, hC.f165, hC.t166, hC.l166, hC.r167, hC.r171, hC.q5, hC.q12, hC.q19, hC.q112, hC.q119, hC.a2, hC.a4, hC.a27, hC.a127, hC.a128, hC, xpAt, hT2, x2, b0, b0n, hk]
    rw [e1, e2, f1, f2]
    refine ⟨by omega, by omega, ?_⟩
    refine ⟨F, by rw [r0]; exact r1, by rw [r0]; exact r2, a2, by rw [r0]; exact hR.2.2, fun σ2 c => ?_⟩
    rw [a3, a5, r0] at c
    rw [a3, a5]
    have h := h σ2 (W0.fgt hR.1 c)
    generalize winA F (nS σ0 5) V (σ0 2 (p + 1 : Nat) - 48) (σ0 2 (p + 2 : Nat) - 48) = w at h ⊢
    simp [sg_141_56_1, sg_141_102_1, sg_141_112_1, sg_141_155_1, bs_141, hN _, x_iconst, x_ldc2_w, x_aconst_null, x_iload, x_lload, x_aload, x_istore, x_lstore, x_astore, x_iinc, x_iadd, x_isub, x_imul, x_idiv, x_irem, x_iand, x_ior, x_ixor, x_ishl, x_ishr, x_iushr, x_ineg, x_ladd, x_lsub, x_lmul, x_ldiv, x_lrem, x_lcmp, x_i2l, x_i2b, x_i2s, x_i2c, x_dup, x_pop, x_dup_x1, x_dup2, x_getfield, x_putfield, x_iaload, x_baload, x_saload, x_caload, x_daload, x_faload, x_laload, x_aaload, x_iastore, x_bastore, x_sastore, x_castore, x_lastore, x_aastore, x_arraylength, x_getstatic, x_goto, x_goto_w, x_ifCond, x_if_icmp, x_ifnull, x_ifnonnull, x_lookupswitch, x_invokevirtual, x_invokestatic, x_invokedynamic, x_ireturn, x_freturn, x_dreturn, x_lreturn, x_areturn, x_return_, pI_c, pL_c, pR_c, pV_i, pV_r, gI_c, gL_c, gR_c, pN_z, pN_s, lget_c, lins_z, lins_c, ldel_z, ldel_c, ldel2_z, ldel2_c, lset_i, lset_l, lset_r, lkeep_z, lkeep_c, largs_z, largs_c, cat_i, cat_l, cat_r, lkp_c, cnd_eq, cnd_ne, cnd_lt, cnd_ge, cnd_gt, cnd_le, swL_z, swL_c, rE_e, rOr_s, rOr_n, rlk_z, rlk_c, aR_c, aI_c, aII_c, aIII_c, aRI_c, aRII_c, aRIII_c, vJn, vJs, vlc, aRR_c, aRRI_c, aRRII_c, aRRIII_c, aRIIII_c, aRL_c, aRLL_c, aLL_c, aRRRI_c, aIL_c, aIIII_c, aRRIIII_c, aIRII_c, aIR_c, aLI_c, aRIR_c, aRIIR_c]
    simp only [decide_eq_true_eq] at h
    refine ⟨fun z => ?_, fun z => ⟨fun y => ?_, fun y => ?_⟩⟩
    · rw [if_pos (Or.inl z)] at h; exact h
    · rw [if_neg (by omega)] at h; exact h
    · rw [if_pos (Or.inr y)] at h; exact h
  · have eA : actV F (nS σ0 5) (mS σ0 5) (σ0 0 14) (σ0 2) p V = (true, daysV (nS σ0 5) (mS σ0 5) V (σ0 2 (p + 1 : Nat) - 48).toNat) := by unfold actV; rw [if_neg (by omega), if_pos hk]
    simp only [eA] at h
    simp [bs_141, hN _, x_iconst, x_ldc2_w, x_aconst_null, x_iload, x_lload, x_aload, x_istore, x_lstore, x_astore, x_iinc, x_iadd, x_isub, x_imul, x_idiv, x_irem, x_iand, x_ior, x_ixor, x_ishl, x_ishr, x_iushr, x_ineg, x_ladd, x_lsub, x_lmul, x_ldiv, x_lrem, x_lcmp, x_i2l, x_i2b, x_i2s, x_i2c, x_dup, x_pop, x_dup_x1, x_dup2, x_getfield, x_putfield, x_iaload, x_baload, x_saload, x_caload, x_daload, x_faload, x_laload, x_aaload, x_iastore, x_bastore, x_sastore, x_castore, x_lastore, x_aastore, x_arraylength, x_getstatic, x_goto, x_goto_w, x_ifCond, x_if_icmp, x_ifnull, x_ifnonnull, x_lookupswitch, x_invokevirtual, x_invokestatic, x_invokedynamic, x_ireturn, x_freturn, x_dreturn, x_lreturn, x_areturn, x_return_, pI_c, pL_c, pR_c, pV_i, pV_r, gI_c, gL_c, gR_c, pN_z, pN_s, lget_c, lins_z, lins_c, ldel_z, ldel_c, ldel2_z, ldel2_c, lset_i, lset_l, lset_r, lkeep_z, lkeep_c, largs_z, largs_c, cat_i, cat_l, cat_r, lkp_c, cnd_eq, cnd_ne, cnd_lt, cnd_ge, cnd_gt, cnd_le, swL_z, swL_c, rE_e, rOr_s, rOr_n, rlk_z, rlk_c, aR_c, aI_c, aII_c, aIII_c, aRI_c, aRII_c, aRIII_c, vJn, vJs, vlc, aRR_c, aRRI_c, aRRII_c, aRRIII_c, aRIIII_c, aRL_c, aRLL_c, aLL_c, aRRRI_c, aIL_c, aIIII_c, aRRIIII_c, aIRII_c, aIR_c, aLI_c, aRIR_c, aRIIR_c, hC.o0, hC.f0_0, hC.f0_1, hC.f0_2, hC.f0_3, hC.f0_4, hC.f0_5, hC.f0_6, hC.f0_7, hC.f0_8, hC.f0_9, hC.f0_10, hC.f0_11, hC.o1, hC.f1, hC.t2, hC.l2, hC.o3, hC.f3, hC.t4, hC.l4, hC.s5, hC.s12, hC.s19, hC.s112, hC.s119, hC.o26, hC.f26, hC.t27, hC.l27, hC.s28, hC.o126, hC.f126_0, hC.f126_1, hC.t127, hC.l127, hC.t128, hC.l128, hC.s129, hC.n157, hC.n161, hC.o165, hC.f165, hC.t166, hC.l166, hC.r167, hC.r171, hC.q5, hC.q12, hC.q19, hC.q112, hC.q119, hC.a2, hC.a4, hC.a27, hC.a127, hC.a128, hC, xpAt, hT2, x2, b0, b0n, hk]
    rw [e1, f1]
    refine ⟨by omega, ?_⟩
    refine ⟨a2, by omega, fun σ2 c => ?_⟩
    rw [a3, a4, a5] at c
    have h := h σ2 (W0.to c)
    simp [sg_141_56_1, sg_141_102_1, sg_141_112_1, sg_141_155_1, bs_141, hN _, x_iconst, x_ldc2_w, x_aconst_null, x_iload, x_lload, x_aload, x_istore, x_lstore, x_astore, x_iinc, x_iadd, x_isub, x_imul, x_idiv, x_irem, x_iand, x_ior, x_ixor, x_ishl, x_ishr, x_iushr, x_ineg, x_ladd, x_lsub, x_lmul, x_ldiv, x_lrem, x_lcmp, x_i2l, x_i2b, x_i2s, x_i2c, x_dup, x_pop, x_dup_x1, x_dup2, x_getfield, x_putfield, x_iaload, x_baload, x_saload, x_caload, x_daload, x_faload, x_laload, x_aaload, x_iastore, x_bastore, x_sastore, x_castore, x_lastore, x_aastore, x_arraylength, x_getstatic, x_goto, x_goto_w, x_ifCond, x_if_icmp, x_ifnull, x_ifnonnull, x_lookupswitch, x_invokevirtual, x_invokestatic, x_invokedynamic, x_ireturn, x_freturn, x_dreturn, x_lreturn, x_areturn, x_return_, pI_c, pL_c, pR_c, pV_i, pV_r, gI_c, gL_c, gR_c, pN_z, pN_s, lget_c, lins_z, lins_c, ldel_z, ldel_c, ldel2_z, ldel2_c, lset_i, lset_l, lset_r, lkeep_z, lkeep_c, largs_z, largs_c, cat_i, cat_l, cat_r, lkp_c, cnd_eq, cnd_ne, cnd_lt, cnd_ge, cnd_gt, cnd_le, swL_z, swL_c, rE_e, rOr_s, rOr_n, rlk_z, rlk_c, aR_c, aI_c, aII_c, aIII_c, aRI_c, aRII_c, aRIII_c, vJn, vJs, vlc, aRR_c, aRRI_c, aRRII_c, aRRIII_c, aRIIII_c, aRL_c, aRLL_c, aLL_c, aRRRI_c, aIL_c, aIIII_c, aRRIIII_c, aIRII_c, aIR_c, aLI_c, aRIR_c, aRIIR_c]
    simpa using h
  · have eA : actV F (nS σ0 5) (mS σ0 5) (σ0 0 14) (σ0 2) p V = (decide (0 ≤ sewA (nS σ0 5) V (σ0 2 (p + 1 : Nat) - 48) (σ0 2 (p + 2 : Nat) - 97) (σ0 2 (p + 3 : Nat) - 48)), sewN (nS σ0 5) V (σ0 2 (p + 1 : Nat) - 48) (σ0 2 (p + 2 : Nat) - 97) (σ0 2 (p + 3 : Nat) - 48)) := by unfold actV; rw [if_neg (by omega), if_neg (by omega), if_pos hk]
    simp only [eA] at h
    simp [bs_141, hN _, x_iconst, x_ldc2_w, x_aconst_null, x_iload, x_lload, x_aload, x_istore, x_lstore, x_astore, x_iinc, x_iadd, x_isub, x_imul, x_idiv, x_irem, x_iand, x_ior, x_ixor, x_ishl, x_ishr, x_iushr, x_ineg, x_ladd, x_lsub, x_lmul, x_ldiv, x_lrem, x_lcmp, x_i2l, x_i2b, x_i2s, x_i2c, x_dup, x_pop, x_dup_x1, x_dup2, x_getfield, x_putfield, x_iaload, x_baload, x_saload, x_caload, x_daload, x_faload, x_laload, x_aaload, x_iastore, x_bastore, x_sastore, x_castore, x_lastore, x_aastore, x_arraylength, x_getstatic, x_goto, x_goto_w, x_ifCond, x_if_icmp, x_ifnull, x_ifnonnull, x_lookupswitch, x_invokevirtual, x_invokestatic, x_invokedynamic, x_ireturn, x_freturn, x_dreturn, x_lreturn, x_areturn, x_return_, pI_c, pL_c, pR_c, pV_i, pV_r, gI_c, gL_c, gR_c, pN_z, pN_s, lget_c, lins_z, lins_c, ldel_z, ldel_c, ldel2_z, ldel2_c, lset_i, lset_l, lset_r, lkeep_z, lkeep_c, largs_z, largs_c, cat_i, cat_l, cat_r, lkp_c, cnd_eq, cnd_ne, cnd_lt, cnd_ge, cnd_gt, cnd_le, swL_z, swL_c, rE_e, rOr_s, rOr_n, rlk_z, rlk_c, aR_c, aI_c, aII_c, aIII_c, aRI_c, aRII_c, aRIII_c, vJn, vJs, vlc, aRR_c, aRRI_c, aRRII_c, aRRIII_c, aRIIII_c, aRL_c, aRLL_c, aLL_c, aRRRI_c, aIL_c, aIIII_c, aRRIIII_c, aIRII_c, aIR_c, aLI_c, aRIR_c, aRIIR_c, hC.o0, hC.f0_0, hC.f0_1, hC.f0_2, hC.f0_3, hC.f0_4, hC.f0_5, hC.f0_6, hC.f0_7, hC.f0_8, hC.f0_9, hC.f0_10, hC.f0_11, hC.o1, hC.f1, hC.t2, hC.l2, hC.o3, hC.f3, hC.t4, hC.l4, hC.s5, hC.s12, hC.s19, hC.s112, hC.s119, hC.o26, hC.f26, hC.t27, hC.l27, hC.s28, hC.o126, hC.f126_0, hC.f126_1, hC.t127, hC.l127, hC.t128, hC.l128, hC.s129, hC.n157, hC.n161, hC.o165, hC.f165, hC.t166, hC.l166, hC.r167, hC.r171, hC.q5, hC.q12, hC.q19, hC.q112, hC.q119, hC.a2, hC.a4, hC.a27, hC.a127, hC.a128, hC, xpAt, hT2, x2, b0, b0n, hk]
    rw [e1, e2, e3, f1, f3, f4]
    refine ⟨by omega, by omega, by omega, ?_⟩
    refine ⟨a2, fun σ2 c => ?_⟩
    rw [a3, a5] at c
    rw [a3, a5]
    have h := h σ2 (W0.to c)
    generalize sewA (nS σ0 5) V (σ0 2 (p + 1 : Nat) - 48) (σ0 2 (p + 2 : Nat) - 97) (σ0 2 (p + 3 : Nat) - 48) = w at h ⊢
    simp [sg_141_56_1, sg_141_102_1, sg_141_112_1, sg_141_155_1, bs_141, hN _, x_iconst, x_ldc2_w, x_aconst_null, x_iload, x_lload, x_aload, x_istore, x_lstore, x_astore, x_iinc, x_iadd, x_isub, x_imul, x_idiv, x_irem, x_iand, x_ior, x_ixor, x_ishl, x_ishr, x_iushr, x_ineg, x_ladd, x_lsub, x_lmul, x_ldiv, x_lrem, x_lcmp, x_i2l, x_i2b, x_i2s, x_i2c, x_dup, x_pop, x_dup_x1, x_dup2, x_getfield, x_putfield, x_iaload, x_baload, x_saload, x_caload, x_daload, x_faload, x_laload, x_aaload, x_iastore, x_bastore, x_sastore, x_castore, x_lastore, x_aastore, x_arraylength, x_getstatic, x_goto, x_goto_w, x_ifCond, x_if_icmp, x_ifnull, x_ifnonnull, x_lookupswitch, x_invokevirtual, x_invokestatic, x_invokedynamic, x_ireturn, x_freturn, x_dreturn, x_lreturn, x_areturn, x_return_, pI_c, pL_c, pR_c, pV_i, pV_r, gI_c, gL_c, gR_c, pN_z, pN_s, lget_c, lins_z, lins_c, ldel_z, ldel_c, ldel2_z, ldel2_c, lset_i, lset_l, lset_r, lkeep_z, lkeep_c, largs_z, largs_c, cat_i, cat_l, cat_r, lkp_c, cnd_eq, cnd_ne, cnd_lt, cnd_ge, cnd_gt, cnd_le, swL_z, swL_c, rE_e, rOr_s, rOr_n, rlk_z, rlk_c, aR_c, aI_c, aII_c, aIII_c, aRI_c, aRII_c, aRIII_c, vJn, vJs, vlc, aRR_c, aRRI_c, aRRII_c, aRRIII_c, aRIIII_c, aRL_c, aRLL_c, aLL_c, aRRRI_c, aIL_c, aIIII_c, aRRIIII_c, aIRII_c, aIR_c, aLI_c, aRIR_c, aRIIR_c]
    simp only [decide_eq_true_eq] at h
    refine ⟨fun z => ?_, fun z => ?_⟩
    · rw [if_neg (by omega)] at h; exact h
    · rw [if_pos z] at h; exact h
  · have eA : actV F (nS σ0 5) (mS σ0 5) (σ0 0 14) (σ0 2) p V = (decide (0 ≤ yieldA (nS σ0 5) V (σ0 2 (p + 1 : Nat) - 48) (σ0 2 (p + 2 : Nat) - 97)), yieldN (nS σ0 5) V (σ0 2 (p + 1 : Nat) - 48) (σ0 2 (p + 2 : Nat) - 97)) := by unfold actV; rw [if_neg (by omega), if_neg (by omega), if_neg (by omega)]
    simp only [eA] at h
    simp [bs_141, hN _, x_iconst, x_ldc2_w, x_aconst_null, x_iload, x_lload, x_aload, x_istore, x_lstore, x_astore, x_iinc, x_iadd, x_isub, x_imul, x_idiv, x_irem, x_iand, x_ior, x_ixor, x_ishl, x_ishr, x_iushr, x_ineg, x_ladd, x_lsub, x_lmul, x_ldiv, x_lrem, x_lcmp, x_i2l, x_i2b, x_i2s, x_i2c, x_dup, x_pop, x_dup_x1, x_dup2, x_getfield, x_putfield, x_iaload, x_baload, x_saload, x_caload, x_daload, x_faload, x_laload, x_aaload, x_iastore, x_bastore, x_sastore, x_castore, x_lastore, x_aastore, x_arraylength, x_getstatic, x_goto, x_goto_w, x_ifCond, x_if_icmp, x_ifnull, x_ifnonnull, x_lookupswitch, x_invokevirtual, x_invokestatic, x_invokedynamic, x_ireturn, x_freturn, x_dreturn, x_lreturn, x_areturn, x_return_, pI_c, pL_c, pR_c, pV_i, pV_r, gI_c, gL_c, gR_c, pN_z, pN_s, lget_c, lins_z, lins_c, ldel_z, ldel_c, ldel2_z, ldel2_c, lset_i, lset_l, lset_r, lkeep_z, lkeep_c, largs_z, largs_c, cat_i, cat_l, cat_r, lkp_c, cnd_eq, cnd_ne, cnd_lt, cnd_ge, cnd_gt, cnd_le, swL_z, swL_c, rE_e, rOr_s, rOr_n, rlk_z, rlk_c, aR_c, aI_c, aII_c, aIII_c, aRI_c, aRII_c, aRIII_c, vJn, vJs, vlc, aRR_c, aRRI_c, aRRII_c, aRRIII_c, aRIIII_c, aRL_c, aRLL_c, aLL_c, aRRRI_c, aIL_c, aIIII_c, aRRIIII_c, aIRII_c, aIR_c, aLI_c, aRIR_c, aRIIR_c, hC.o0, hC.f0_0, hC.f0_1, hC.f0_2, hC.f0_3, hC.f0_4, hC.f0_5, hC.f0_6, hC.f0_7, hC.f0_8, hC.f0_9, hC.f0_10, hC.f0_11, hC.o1, hC.f1, hC.t2, hC.l2, hC.o3, hC.f3, hC.t4, hC.l4, hC.s5, hC.s12, hC.s19, hC.s112, hC.s119, hC.o26, hC.f26, hC.t27, hC.l27, hC.s28, hC.o126, hC.f126_0, hC.f126_1, hC.t127, hC.l127, hC.t128, hC.l128, hC.s129, hC.n157, hC.n161, hC.o165, hC.f165, hC.t166, hC.l166, hC.r167, hC.r171, hC.q5, hC.q12, hC.q19, hC.q112, hC.q119, hC.a2, hC.a4, hC.a27, hC.a127, hC.a128, hC, xpAt, hT2, x2, b0, b0n, hk]
    rw [e1, e2, f1, f3]
    refine ⟨by omega, by omega, ?_⟩
    refine ⟨a2, fun σ2 c => ?_⟩
    rw [a3, a5] at c
    rw [a3, a5]
    have h := h σ2 (W0.to c)
    generalize yieldA (nS σ0 5) V (σ0 2 (p + 1 : Nat) - 48) (σ0 2 (p + 2 : Nat) - 97) = w at h ⊢
    simp [sg_141_56_1, sg_141_102_1, sg_141_112_1, sg_141_155_1, bs_141, hN _, x_iconst, x_ldc2_w, x_aconst_null, x_iload, x_lload, x_aload, x_istore, x_lstore, x_astore, x_iinc, x_iadd, x_isub, x_imul, x_idiv, x_irem, x_iand, x_ior, x_ixor, x_ishl, x_ishr, x_iushr, x_ineg, x_ladd, x_lsub, x_lmul, x_ldiv, x_lrem, x_lcmp, x_i2l, x_i2b, x_i2s, x_i2c, x_dup, x_pop, x_dup_x1, x_dup2, x_getfield, x_putfield, x_iaload, x_baload, x_saload, x_caload, x_daload, x_faload, x_laload, x_aaload, x_iastore, x_bastore, x_sastore, x_castore, x_lastore, x_aastore, x_arraylength, x_getstatic, x_goto, x_goto_w, x_ifCond, x_if_icmp, x_ifnull, x_ifnonnull, x_lookupswitch, x_invokevirtual, x_invokestatic, x_invokedynamic, x_ireturn, x_freturn, x_dreturn, x_lreturn, x_areturn, x_return_, pI_c, pL_c, pR_c, pV_i, pV_r, gI_c, gL_c, gR_c, pN_z, pN_s, lget_c, lins_z, lins_c, ldel_z, ldel_c, ldel2_z, ldel2_c, lset_i, lset_l, lset_r, lkeep_z, lkeep_c, largs_z, largs_c, cat_i, cat_l, cat_r, lkp_c, cnd_eq, cnd_ne, cnd_lt, cnd_ge, cnd_gt, cnd_le, swL_z, swL_c, rE_e, rOr_s, rOr_n, rlk_z, rlk_c, aR_c, aI_c, aII_c, aIII_c, aRI_c, aRII_c, aRIII_c, vJn, vJs, vlc, aRR_c, aRRI_c, aRRII_c, aRRIII_c, aRIIII_c, aRL_c, aRLL_c, aLL_c, aRRRI_c, aIL_c, aIIII_c, aRRIIII_c, aIRII_c, aIR_c, aLI_c, aRIR_c, aRIIR_c]
    simp only [decide_eq_true_eq] at h
    refine ⟨fun z => ?_, fun z => ?_⟩
    · rw [if_neg (by omega)] at h; exact h
    · rw [if_pos z] at h; exact h
/-- the acts from p on: how many were done, was one refused, what became of the sea -/
noncomputable def wlF (F : (Int → Int) → Int) (n : Nat) (M : Int → Int) (k : Int) (T : Int → Int) (len : Nat) : Nat → Nat → Nat → (Int → Int) → Nat × Bool × (Int → Int)
  | 0, _, dn, V => (dn, false, V)
  | r + 1, p, dn, V => if p < len then (if (actV F n M k T p V).1 then wlF F n M k T len r (p + lnA (T p)) (dn + 1) (actV F n M k T p V).2 else (dn, true, (actV F n M k T p V).2)) else (dn, false, V)
abbrev rgWr : Reg := (141, fpActs) :: (138, fpFaultW) :: (140, fpLenAct) :: (14, ppAdds) :: rgC
theorem rgWr_ok {l : Launch} {g : GE} {d : Nat} : ∀ e as t σ Q, rE l g (d + 7) rgWr e as t σ Q → WPc l g e (d + 7) 0 0 as t σ Q := rE_cons (fun _ _ _ _ h => f_acts h) (rE_cons (fun _ _ _ _ h => f_faultW h) (rE_cons (fun _ _ _ _ h => f_lenAct (d := d + 6) h) (rE_cons (fun _ _ _ _ h => p_adds (d := d + 4) h) (rgC_ok (d := d + 1)))))
theorem fltW_b {T : Int → Int} {len : Nat} : -1 ≤ fltW T len ∧ fltW T len ≤ 60 := by
  have hb : ∀ r p b, -1 ≤ (wrF T r p b).1 ∧ (wrF T r p b).1 < (p : Int) + r := by
    intro r
    induction r with
    | zero => intro p b; exact ⟨by show (-1 : Int) ≤ -1; omega, by show (-1 : Int) < _; omega⟩
    | succ r ih =>
      intro p b
      have es : wrF T (r + 1) p b = if stA (T (if p - b = lnA (T b) then p else b : Nat)) (p - (if p - b = lnA (T b) then p else b)) (T p) then wrF T r (p + 1) (if p - b = lnA (T b) then p else b) else ((p : Int), 0) := rfl
      obtain ⟨b', hb'⟩ : ∃ b', (if p - b = lnA (T b) then p else b) = b' := ⟨_, rfl⟩
      rw [es, hb']
      split
      · have := ih (p + 1) b'; omega
      · show -1 ≤ (p : Int) ∧ (p : Int) < _; omega
  have h1 := hb (min len 60) 0 0
  unfold fltW
  split
  · omega
  · split
    · omega
    · split <;> omega
theorem okA_at {T : Int → Int} {E : Nat} : ∀ {f p : Nat}, okA T f p E → p < E → actOk T p ∧ p + lnA (T p) ≤ E ∧ ∃ f', f = f' + 1 ∧ okA T f' (p + lnA (T p)) E
  | 0, p, h, hp => by have : p = E := h; omega
  | f + 1, p, h, hp => by
    rcases h with h | ⟨h1, h2, h3⟩
    · omega
    · exact ⟨h1, h2, f, rfl, h3⟩
theorem wl_b {F : (Int → Int) → Int} {n : Nat} {M : Int → Int} {k : Int} {T : Int → Int} {len : Nat} : ∀ (r p dn : Nat) (V : Int → Int), (wlF F n M k T len r p dn V).1 ≤ dn + r
  | 0, _, _, _ => Nat.le_refl _
  | r + 1, p, dn, V => by
    unfold wlF
    split
    · split
      · have := wl_b (F := F) (n := n) (M := M) (k := k) (T := T) (len := len) r (p + lnA (T p)) (dn + 1) (actV F n M k T p V).2; omega
      · show dn ≤ _; omega
    · show dn ≤ _; omega
theorem CTo.q2 {t : Tau} {σ σ' : Mem} {V : Int → Int} {p : Nat} {U : Nat → Int → Int} (h : CTo t σ σ' V p U none) {a b : Int} : CTo t σ (up (up (up (up (up σ' 3 1 0) 4 0 a) 3 1 1) 4 1 b) 3 1 2) V p U (some [a, b]) := by
  obtain ⟨h1, ⟨h2, h3, h4, h5⟩, h6, -⟩ := h
  have hh : ∀ o, o ≠ 3 → o ≠ 4 → (up (up (up (up (up σ' 3 1 0) 4 0 a) 3 1 1) 4 1 b) 3 1 2) o = σ' o := fun o a b => by rw [up_ne a, up_ne b, up_ne a, up_ne b, up_ne a]
  have hc : ∀ o, 5 ≤ o → o ≤ 5 + 6 → (up (up (up (up (up σ' 3 1 0) 4 0 a) 3 1 1) 4 1 b) 3 1 2) o = σ' o := fun o a b => hh o (by omega) (by omega)
  obtain ⟨q1, q2, q3⟩ := sea_cg hc
  exact ⟨fun o ho ho' => by rw [hh o (fun z => ho (by rw [z]; exact scr3)) (fun z => ho (by rw [z]; exact scr4))]; exact h1 o ho ho', ⟨seaok_cg hc h2, by rw [q1, h3], by rw [q2, h4], by rw [q3, h5]⟩, h6.cg (fun o a b => hh o (by omega) (by omega)) q1 q2, rw_2⟩
set_option maxHeartbeats 1000000 in
theorem o_war {l : Launch} {g : GE} {d : Nat} {t : Tau} {σ : Mem} {Q : Post} {F : (Int → Int) → Int} {p : Nat} {U : Nat → Int → Int} (hC : TC t) (hk : SeaOk t σ 5) (hR : RC t σ F) (hT : TxOk σ) (hp : PsIs t σ p U) (h : if fltW (σ 2) (σ 1 1).toNat = -1 then (∀ σ', CTo t (up σ 1 1 0) σ' (wlF F (nS σ 5) (mS σ 5) (σ 0 14) (σ 2) (σ 1 1).toNat (σ 1 1).toNat 0 0 (vwS σ 5)).2.2 (if (wlF F (nS σ 5) (mS σ 5) (σ 0 14) (σ 2) (σ 1 1).toNat (σ 1 1).toNat 0 0 (vwS σ 5)).1 = 0 then p else pushP p) (if (wlF F (nS σ 5) (mS σ 5) (σ 0 14) (σ 2) (σ 1 1).toNat (σ 1 1).toNat 0 0 (vwS σ 5)).1 = 0 then U else pushU p U (vwS σ 5)) (some [if (wlF F (nS σ 5) (mS σ 5) (σ 0 14) (σ 2) (σ 1 1).toNat (σ 1 1).toNat 0 0 (vwS σ 5)).2.1 then 1 else 0, (wlF F (nS σ 5) (mS σ 5) (σ 0 14) (σ 2) (σ 1 1).toNat (σ 1 1).toNat 0 0 (vwS σ 5)).2.2 49]) → Q (some (vI (wlF F (nS σ 5) (mS σ 5) (σ 0 14) (σ 2) (σ 1 1).toNat (σ 1 1).toNat 0 0 (vwS σ 5)).1)) t σ') else Q (some (vI (-1 - fltW (σ 2) (σ 1 1).toNat))) t (up σ 1 1 0)) : WPc l g 97 (d + 8) 0 0 [vR 0] t σ Q := by
  obtain ⟨len, hlen⟩ : ∃ n : Nat, σ 1 1 = n := ⟨(σ 1 1).toNat, by have := hT.1; omega⟩
  have hl80 : len ≤ 80 := by have := hT.1; omega
  have hl80' : (len : Int) ≤ 80 := by omega
  rw [hlen, Int.toNat_natCast] at h
  have hT1 : TxOk (up σ 1 1 0) := ⟨by simp [up_ap], fun k k0 k1 => by rw [up_ne (by omega)]; exact hT.2 k k0 k1⟩
  have e2 : up σ 1 1 0 2 = σ 2 := up_ne (by omega)
  by_cases hf : fltW (σ 2) len = -1
  · rw [if_pos hf] at h
    obtain ⟨h60, hok⟩ := fltW_ok hf
    generalize hRs : wlF F (nS σ 5) (mS σ 5) (σ 0 14) (σ 2) len len 0 0 (vwS σ 5) = R at h
    have hRb : R.1 ≤ len := by rw [← hRs]; have := wl_b (F := F) (n := nS σ 5) (M := mS σ 5) (k := σ 0 14) (T := σ 2) (len := len) len 0 0 (vwS σ 5); omega
    have hk1 : SeaOk t (up σ 1 1 0) 5 := by rw [ok_up (by omega)]; exact hk
    have hp1 : PsIs t (up σ 1 1 0) p U := hp.cg (fun o a b => up_ne (by omega)) (nS_up (by omega)) (mS_up (by omega))
    have fin : ∀ σ1 σ2, AhTo t (up σ 1 1 0) σ1 → WarT t σ1 σ2 R.2.2 → ∀ b q : Nat, (len ≤ q ∨ R.2.1 = true) → Wp l g 97 (d + 8) 0 0 45 [(0, vR 0), (1, vI len), (3, vI R.1), (4, vI (if R.2.1 then 1 else 0)), (5, vI b), (6, vI q)] [] t σ2 Q := by
      intro σ1 σ2 A W b q hq
      obtain ⟨T, ⟨u1, u2, u3, u4⟩, P2⟩ := ah_go A hk1 W.1 W.2 hp1
      rw [vw_up (by omega)] at u4
      have hgo : ∀ σ3 p' U', CTo t (up σ 1 1 0) σ3 R.2.2 p' U' none → p' = (if R.1 = 0 then p else pushP p) → U' = (if R.1 = 0 then U else pushU p U (vwS σ 5)) → Q (some (vI R.1)) t (up (up (up (up (up σ3 3 1 0) 4 0 (if R.2.1 then 1 else 0)) 3 1 1) 4 1 (σ3 5 2)) 3 1 2) := fun σ3 p' U' C hp' hU' => by
        have e49 : σ3 5 2 = R.2.2 49 := by rw [← C.2.1.2.2.2]; exact vw_ov
        rw [e49]
        rw [hp', hU'] at C
        exact h _ C.q2
      have hqq : len ≤ q ∨ ¬ len ≤ q := by omega
      refine wa (by decide) rgWr_ok ts_97 30 (fun N hN => ?_)
      by_cases hz : R.1 = 0
      · have K := hgo σ2 p U T (by rw [if_pos hz]) (by rw [if_pos hz])
        have hz' : (R.1 : Int) ≤ 0 := by omega
        cases hb : R.2.1
        · rw [hb] at hq K
          have hq : len ≤ q := by simpa using hq
          simp [bs_97, sg_97_0_1, sg_97_23_1, sg_97_45_1, sg_97_115_2, sg_97_115_1, sg_97_130_1, sg_97_150_2, sg_97_150_1, sg_97_151_2, sg_97_151_1, hN _, x_iconst, x_ldc2_w, x_aconst_null, x_iload, x_lload, x_aload, x_istore, x_lstore, x_astore, x_iinc, x_iadd, x_isub, x_imul, x_idiv, x_irem, x_iand, x_ior, x_ixor, x_ishl, x_ishr, x_iushr, x_ineg, x_ladd, x_lsub, x_lmul, x_ldiv, x_lrem, x_lcmp, x_i2l, x_i2b, x_i2s, x_i2c, x_dup, x_pop, x_dup_x1, x_dup2, x_getfield, x_putfield, x_iaload, x_baload, x_saload, x_caload, x_daload, x_faload, x_laload, x_aaload, x_iastore, x_bastore, x_sastore, x_castore, x_lastore, x_aastore, x_arraylength, x_getstatic, x_goto, x_goto_w, x_ifCond, x_if_icmp, x_ifnull, x_ifnonnull, x_lookupswitch, x_invokevirtual, x_invokestatic, x_invokedynamic, x_ireturn, x_freturn, x_dreturn, x_lreturn, x_areturn, x_return_, pI_c, pL_c, pR_c, pV_i, pV_r, gI_c, gL_c, gR_c, pN_z, pN_s, lget_c, lins_z, lins_c, ldel_z, ldel_c, ldel2_z, ldel2_c, lset_i, lset_l, lset_r, lkeep_z, lkeep_c, largs_z, largs_c, cat_i, cat_l, cat_r, lkp_c, cnd_eq, cnd_ne, cnd_lt, cnd_ge, cnd_gt, cnd_le, swL_z, swL_c, rE_e, rOr_s, rOr_n, rlk_z, rlk_c, aR_c, aI_c, aII_c, aIII_c, aRI_c, aRII_c, aRIII_c, vJn, vJs, vlc, aRR_c, aRRI_c, aRRII_c, aRRIII_c, aRIIII_c, aRL_c, aRLL_c, aLL_c, aRRRI_c, aIL_c, aIIII_c, aRRIIII_c, aIRII_c, aIR_c, aLI_c, aRIR_c, aRIIR_c, hC.o0, hC.f0_0, hC.f0_1, hC.f0_2, hC.f0_3, hC.f0_4, hC.f0_5, hC.f0_6, hC.f0_7, hC.f0_8, hC.f0_9, hC.f0_10, hC.f0_11, hC.o1, hC.f1, hC.t2, hC.l2, hC.o3, hC.f3, hC.t4, hC.l4, hC.s5, hC.s12, hC.s19, hC.s112, hC.s119, hC.o26, hC.f26, hC.t27, hC.l27, hC.s28, hC.o126, hC.f126_0, hC.f126_1, hC.t127, hC.l127, hC.t128, hC.l128, hC.s129, hC.n157, hC.n161, hC.o165, hC.f165, hC.t166, hC.l166, hC.r167, hC.r171, hC.q5, hC.q12, hC.q19, hC.q112, hC.q119, hC.a2, hC.a4, hC.a27, hC.a127, hC.a128, hC, hq, hz, rpClears, rpAdds, up_ap]
          rw [hz] at K
          exact ⟨by simpa using K, fun z => by omega⟩
        · rw [hb] at K
          rw [hz] at K
          simp [bs_97, sg_97_0_1, sg_97_23_1, sg_97_45_1, sg_97_115_2, sg_97_115_1, sg_97_130_1, sg_97_150_2, sg_97_150_1, sg_97_151_2, sg_97_151_1, hN _, x_iconst, x_ldc2_w, x_aconst_null, x_iload, x_lload, x_aload, x_istore, x_lstore, x_astore, x_iinc, x_iadd, x_isub, x_imul, x_idiv, x_irem, x_iand, x_ior, x_ixor, x_ishl, x_ishr, x_iushr, x_ineg, x_ladd, x_lsub, x_lmul, x_ldiv, x_lrem, x_lcmp, x_i2l, x_i2b, x_i2s, x_i2c, x_dup, x_pop, x_dup_x1, x_dup2, x_getfield, x_putfield, x_iaload, x_baload, x_saload, x_caload, x_daload, x_faload, x_laload, x_aaload, x_iastore, x_bastore, x_sastore, x_castore, x_lastore, x_aastore, x_arraylength, x_getstatic, x_goto, x_goto_w, x_ifCond, x_if_icmp, x_ifnull, x_ifnonnull, x_lookupswitch, x_invokevirtual, x_invokestatic, x_invokedynamic, x_ireturn, x_freturn, x_dreturn, x_lreturn, x_areturn, x_return_, pI_c, pL_c, pR_c, pV_i, pV_r, gI_c, gL_c, gR_c, pN_z, pN_s, lget_c, lins_z, lins_c, ldel_z, ldel_c, ldel2_z, ldel2_c, lset_i, lset_l, lset_r, lkeep_z, lkeep_c, largs_z, largs_c, cat_i, cat_l, cat_r, lkp_c, cnd_eq, cnd_ne, cnd_lt, cnd_ge, cnd_gt, cnd_le, swL_z, swL_c, rE_e, rOr_s, rOr_n, rlk_z, rlk_c, aR_c, aI_c, aII_c, aIII_c, aRI_c, aRII_c, aRIII_c, vJn, vJs, vlc, aRR_c, aRRI_c, aRRII_c, aRRIII_c, aRIIII_c, aRL_c, aRLL_c, aLL_c, aRRRI_c, aIL_c, aIIII_c, aRRIIII_c, aIRII_c, aIR_c, aLI_c, aRIR_c, aRIIR_c, hC.o0, hC.f0_0, hC.f0_1, hC.f0_2, hC.f0_3, hC.f0_4, hC.f0_5, hC.f0_6, hC.f0_7, hC.f0_8, hC.f0_9, hC.f0_10, hC.f0_11, hC.o1, hC.f1, hC.t2, hC.l2, hC.o3, hC.f3, hC.t4, hC.l4, hC.s5, hC.s12, hC.s19, hC.s112, hC.s119, hC.o26, hC.f26, hC.t27, hC.l27, hC.s28, hC.o126, hC.f126_0, hC.f126_1, hC.t127, hC.l127, hC.t128, hC.l128, hC.s129, hC.n157, hC.n161, hC.o165, hC.f165, hC.t166, hC.l166, hC.r167, hC.r171, hC.q5, hC.q12, hC.q19, hC.q112, hC.q119, hC.a2, hC.a4, hC.a27, hC.a127, hC.a128, hC, hz, rpClears, rpAdds, up_ap]
          exact ⟨fun _ => by simpa using K, fun _ => by simpa using K⟩
      · have hz' : ¬ (R.1 : Int) ≤ 0 := by omega
        have K := fun σ3 C => hgo σ3 (pushP p) (pushU p U (vwS σ 5)) C (by rw [if_neg hz]) (by rw [if_neg hz])
        have P3 : ∀ σ3, (∀ o, (o < 26 ∨ 111 < o) → σ3 o = σ2 o) → PsIs t σ3 (pushP p) (pushU p U (vwS σ2 12)) → Q (some (vI R.1)) t (up (up (up (up (up σ3 3 1 0) 4 0 (if R.2.1 then 1 else 0)) 3 1 1) 4 1 (σ3 5 2)) 3 1 2) := fun σ3 x3 y3 => K σ3 (T.push x3 (by rw [u4] at y3; exact y3))
        cases hb : R.2.1
        · rw [hb] at hq P3
          have hq : len ≤ q := by simpa using hq
          simp [bs_97, hN _, x_iconst, x_ldc2_w, x_aconst_null, x_iload, x_lload, x_aload, x_istore, x_lstore, x_astore, x_iinc, x_iadd, x_isub, x_imul, x_idiv, x_irem, x_iand, x_ior, x_ixor, x_ishl, x_ishr, x_iushr, x_ineg, x_ladd, x_lsub, x_lmul, x_ldiv, x_lrem, x_lcmp, x_i2l, x_i2b, x_i2s, x_i2c, x_dup, x_pop, x_dup_x1, x_dup2, x_getfield, x_putfield, x_iaload, x_baload, x_saload, x_caload, x_daload, x_faload, x_laload, x_aaload, x_iastore, x_bastore, x_sastore, x_castore, x_lastore, x_aastore, x_arraylength, x_getstatic, x_goto, x_goto_w, x_ifCond, x_if_icmp, x_ifnull, x_ifnonnull, x_lookupswitch, x_invokevirtual, x_invokestatic, x_invokedynamic, x_ireturn, x_freturn, x_dreturn, x_lreturn, x_areturn, x_return_, pI_c, pL_c, pR_c, pV_i, pV_r, gI_c, gL_c, gR_c, pN_z, pN_s, lget_c, lins_z, lins_c, ldel_z, ldel_c, ldel2_z, ldel2_c, lset_i, lset_l, lset_r, lkeep_z, lkeep_c, largs_z, largs_c, cat_i, cat_l, cat_r, lkp_c, cnd_eq, cnd_ne, cnd_lt, cnd_ge, cnd_gt, cnd_le, swL_z, swL_c, rE_e, rOr_s, rOr_n, rlk_z, rlk_c, aR_c, aI_c, aII_c, aIII_c, aRI_c, aRII_c, aRIII_c, vJn, vJs, vlc, aRR_c, aRRI_c, aRRII_c, aRRIII_c, aRIIII_c, aRL_c, aRLL_c, aLL_c, aRRRI_c, aIL_c, aIIII_c, aRRIIII_c, aIRII_c, aIR_c, aLI_c, aRIR_c, aRIIR_c, hC.o0, hC.f0_0, hC.f0_1, hC.f0_2, hC.f0_3, hC.f0_4, hC.f0_5, hC.f0_6, hC.f0_7, hC.f0_8, hC.f0_9, hC.f0_10, hC.f0_11, hC.o1, hC.f1, hC.t2, hC.l2, hC.o3, hC.f3, hC.t4, hC.l4, hC.s5, hC.s12, hC.s19, hC.s112, hC.s119, hC.o26, hC.f26, hC.t27, hC.l27, hC.s28, hC.o126, hC.f126_0, hC.f126_1, hC.t127, hC.l127, hC.t128, hC.l128, hC.s129, hC.n157, hC.n161, hC.o165, hC.f165, hC.t166, hC.l166, hC.r167, hC.r171, hC.q5, hC.q12, hC.q19, hC.q112, hC.q119, hC.a2, hC.a4, hC.a27, hC.a127, hC.a128, hC, hq, hz, ppAdds, u1, u2, u3]
          refine ⟨fun _ => ⟨p, U, P2, fun σ3 x3 y3 => ?_⟩, fun z => by omega⟩
          have K := P3 σ3 x3 y3
          simp [bs_97, sg_97_0_1, sg_97_23_1, sg_97_45_1, sg_97_115_2, sg_97_115_1, sg_97_130_1, sg_97_150_2, sg_97_150_1, sg_97_151_2, sg_97_151_1, hN _, x_iconst, x_ldc2_w, x_aconst_null, x_iload, x_lload, x_aload, x_istore, x_lstore, x_astore, x_iinc, x_iadd, x_isub, x_imul, x_idiv, x_irem, x_iand, x_ior, x_ixor, x_ishl, x_ishr, x_iushr, x_ineg, x_ladd, x_lsub, x_lmul, x_ldiv, x_lrem, x_lcmp, x_i2l, x_i2b, x_i2s, x_i2c, x_dup, x_pop, x_dup_x1, x_dup2, x_getfield, x_putfield, x_iaload, x_baload, x_saload, x_caload, x_daload, x_faload, x_laload, x_aaload, x_iastore, x_bastore, x_sastore, x_castore, x_lastore, x_aastore, x_arraylength, x_getstatic, x_goto, x_goto_w, x_ifCond, x_if_icmp, x_ifnull, x_ifnonnull, x_lookupswitch, x_invokevirtual, x_invokestatic, x_invokedynamic, x_ireturn, x_freturn, x_dreturn, x_lreturn, x_areturn, x_return_, pI_c, pL_c, pR_c, pV_i, pV_r, gI_c, gL_c, gR_c, pN_z, pN_s, lget_c, lins_z, lins_c, ldel_z, ldel_c, ldel2_z, ldel2_c, lset_i, lset_l, lset_r, lkeep_z, lkeep_c, largs_z, largs_c, cat_i, cat_l, cat_r, lkp_c, cnd_eq, cnd_ne, cnd_lt, cnd_ge, cnd_gt, cnd_le, swL_z, swL_c, rE_e, rOr_s, rOr_n, rlk_z, rlk_c, aR_c, aI_c, aII_c, aIII_c, aRI_c, aRII_c, aRIII_c, vJn, vJs, vlc, aRR_c, aRRI_c, aRRII_c, aRRIII_c, aRIIII_c, aRL_c, aRLL_c, aLL_c, aRRRI_c, aIL_c, aIIII_c, aRRIIII_c, aIRII_c, aIR_c, aLI_c, aRIR_c, aRIIR_c, hC.o0, hC.f0_0, hC.f0_1, hC.f0_2, hC.f0_3, hC.f0_4, hC.f0_5, hC.f0_6, hC.f0_7, hC.f0_8, hC.f0_9, hC.f0_10, hC.f0_11, hC.o1, hC.f1, hC.t2, hC.l2, hC.o3, hC.f3, hC.t4, hC.l4, hC.s5, hC.s12, hC.s19, hC.s112, hC.s119, hC.o26, hC.f26, hC.t27, hC.l27, hC.s28, hC.o126, hC.f126_0, hC.f126_1, hC.t127, hC.l127, hC.t128, hC.l128, hC.s129, hC.n157, hC.n161, hC.o165, hC.f165, hC.t166, hC.l166, hC.r167, hC.r171, hC.q5, hC.q12, hC.q19, hC.q112, hC.q119, hC.a2, hC.a4, hC.a27, hC.a127, hC.a128, hC, rpClears, rpAdds, up_ap]
          simpa using K
        · rw [hb] at P3
          simp [bs_97, hN _, x_iconst, x_ldc2_w, x_aconst_null, x_iload, x_lload, x_aload, x_istore, x_lstore, x_astore, x_iinc, x_iadd, x_isub, x_imul, x_idiv, x_irem, x_iand, x_ior, x_ixor, x_ishl, x_ishr, x_iushr, x_ineg, x_ladd, x_lsub, x_lmul, x_ldiv, x_lrem, x_lcmp, x_i2l, x_i2b, x_i2s, x_i2c, x_dup, x_pop, x_dup_x1, x_dup2, x_getfield, x_putfield, x_iaload, x_baload, x_saload, x_caload, x_daload, x_faload, x_laload, x_aaload, x_iastore, x_bastore, x_sastore, x_castore, x_lastore, x_aastore, x_arraylength, x_getstatic, x_goto, x_goto_w, x_ifCond, x_if_icmp, x_ifnull, x_ifnonnull, x_lookupswitch, x_invokevirtual, x_invokestatic, x_invokedynamic, x_ireturn, x_freturn, x_dreturn, x_lreturn, x_areturn, x_return_, pI_c, pL_c, pR_c, pV_i, pV_r, gI_c, gL_c, gR_c, pN_z, pN_s, lget_c, lins_z, lins_c, ldel_z, ldel_c, ldel2_z, ldel2_c, lset_i, lset_l, lset_r, lkeep_z, lkeep_c, largs_z, largs_c, cat_i, cat_l, cat_r, lkp_c, cnd_eq, cnd_ne, cnd_lt, cnd_ge, cnd_gt, cnd_le, swL_z, swL_c, rE_e, rOr_s, rOr_n, rlk_z, rlk_c, aR_c, aI_c, aII_c, aIII_c, aRI_c, aRII_c, aRIII_c, vJn, vJs, vlc, aRR_c, aRRI_c, aRRII_c, aRRIII_c, aRIIII_c, aRL_c, aRLL_c, aLL_c, aRRRI_c, aIL_c, aIIII_c, aRRIIII_c, aIRII_c, aIR_c, aLI_c, aRIR_c, aRIIR_c, hC.o0, hC.f0_0, hC.f0_1, hC.f0_2, hC.f0_3, hC.f0_4, hC.f0_5, hC.f0_6, hC.f0_7, hC.f0_8, hC.f0_9, hC.f0_10, hC.f0_11, hC.o1, hC.f1, hC.t2, hC.l2, hC.o3, hC.f3, hC.t4, hC.l4, hC.s5, hC.s12, hC.s19, hC.s112, hC.s119, hC.o26, hC.f26, hC.t27, hC.l27, hC.s28, hC.o126, hC.f126_0, hC.f126_1, hC.t127, hC.l127, hC.t128, hC.l128, hC.s129, hC.n157, hC.n161, hC.o165, hC.f165, hC.t166, hC.l166, hC.r167, hC.r171, hC.q5, hC.q12, hC.q19, hC.q112, hC.q119, hC.a2, hC.a4, hC.a27, hC.a127, hC.a128, hC, hz, ppAdds, u1, u2, u3]
          refine ⟨fun _ _ => ⟨p, U, P2, fun σ3 x3 y3 => ?_⟩, fun _ _ => ⟨p, U, P2, fun σ3 x3 y3 => ?_⟩⟩
          · have K := P3 σ3 x3 y3
            simp [bs_97, sg_97_0_1, sg_97_23_1, sg_97_45_1, sg_97_115_2, sg_97_115_1, sg_97_130_1, sg_97_150_2, sg_97_150_1, sg_97_151_2, sg_97_151_1, hN _, x_iconst, x_ldc2_w, x_aconst_null, x_iload, x_lload, x_aload, x_istore, x_lstore, x_astore, x_iinc, x_iadd, x_isub, x_imul, x_idiv, x_irem, x_iand, x_ior, x_ixor, x_ishl, x_ishr, x_iushr, x_ineg, x_ladd, x_lsub, x_lmul, x_ldiv, x_lrem, x_lcmp, x_i2l, x_i2b, x_i2s, x_i2c, x_dup, x_pop, x_dup_x1, x_dup2, x_getfield, x_putfield, x_iaload, x_baload, x_saload, x_caload, x_daload, x_faload, x_laload, x_aaload, x_iastore, x_bastore, x_sastore, x_castore, x_lastore, x_aastore, x_arraylength, x_getstatic, x_goto, x_goto_w, x_ifCond, x_if_icmp, x_ifnull, x_ifnonnull, x_lookupswitch, x_invokevirtual, x_invokestatic, x_invokedynamic, x_ireturn, x_freturn, x_dreturn, x_lreturn, x_areturn, x_return_, pI_c, pL_c, pR_c, pV_i, pV_r, gI_c, gL_c, gR_c, pN_z, pN_s, lget_c, lins_z, lins_c, ldel_z, ldel_c, ldel2_z, ldel2_c, lset_i, lset_l, lset_r, lkeep_z, lkeep_c, largs_z, largs_c, cat_i, cat_l, cat_r, lkp_c, cnd_eq, cnd_ne, cnd_lt, cnd_ge, cnd_gt, cnd_le, swL_z, swL_c, rE_e, rOr_s, rOr_n, rlk_z, rlk_c, aR_c, aI_c, aII_c, aIII_c, aRI_c, aRII_c, aRIII_c, vJn, vJs, vlc, aRR_c, aRRI_c, aRRII_c, aRRIII_c, aRIIII_c, aRL_c, aRLL_c, aLL_c, aRRRI_c, aIL_c, aIIII_c, aRRIIII_c, aIRII_c, aIR_c, aLI_c, aRIR_c, aRIIR_c, hC.o0, hC.f0_0, hC.f0_1, hC.f0_2, hC.f0_3, hC.f0_4, hC.f0_5, hC.f0_6, hC.f0_7, hC.f0_8, hC.f0_9, hC.f0_10, hC.f0_11, hC.o1, hC.f1, hC.t2, hC.l2, hC.o3, hC.f3, hC.t4, hC.l4, hC.s5, hC.s12, hC.s19, hC.s112, hC.s119, hC.o26, hC.f26, hC.t27, hC.l27, hC.s28, hC.o126, hC.f126_0, hC.f126_1, hC.t127, hC.l127, hC.t128, hC.l128, hC.s129, hC.n157, hC.n161, hC.o165, hC.f165, hC.t166, hC.l166, hC.r167, hC.r171, hC.q5, hC.q12, hC.q19, hC.q112, hC.q119, hC.a2, hC.a4, hC.a27, hC.a127, hC.a128, hC, rpClears, rpAdds, up_ap]
            simpa using K
          · have K := P3 σ3 x3 y3
            simp [bs_97, sg_97_0_1, sg_97_23_1, sg_97_45_1, sg_97_115_2, sg_97_115_1, sg_97_130_1, sg_97_150_2, sg_97_150_1, sg_97_151_2, sg_97_151_1, hN _, x_iconst, x_ldc2_w, x_aconst_null, x_iload, x_lload, x_aload, x_istore, x_lstore, x_astore, x_iinc, x_iadd, x_isub, x_imul, x_idiv, x_irem, x_iand, x_ior, x_ixor, x_ishl, x_ishr, x_iushr, x_ineg, x_ladd, x_lsub, x_lmul, x_ldiv, x_lrem, x_lcmp, x_i2l, x_i2b, x_i2s, x_i2c, x_dup, x_pop, x_dup_x1, x_dup2, x_getfield, x_putfield, x_iaload, x_baload, x_saload, x_caload, x_daload, x_faload, x_laload, x_aaload, x_iastore, x_bastore, x_sastore, x_castore, x_lastore, x_aastore, x_arraylength, x_getstatic, x_goto, x_goto_w, x_ifCond, x_if_icmp, x_ifnull, x_ifnonnull, x_lookupswitch, x_invokevirtual, x_invokestatic, x_invokedynamic, x_ireturn, x_freturn, x_dreturn, x_lreturn, x_areturn, x_return_, pI_c, pL_c, pR_c, pV_i, pV_r, gI_c, gL_c, gR_c, pN_z, pN_s, lget_c, lins_z, lins_c, ldel_z, ldel_c, ldel2_z, ldel2_c, lset_i, lset_l, lset_r, lkeep_z, lkeep_c, largs_z, largs_c, cat_i, cat_l, cat_r, lkp_c, cnd_eq, cnd_ne, cnd_lt, cnd_ge, cnd_gt, cnd_le, swL_z, swL_c, rE_e, rOr_s, rOr_n, rlk_z, rlk_c, aR_c, aI_c, aII_c, aIII_c, aRI_c, aRII_c, aRIII_c, vJn, vJs, vlc, aRR_c, aRRI_c, aRRII_c, aRRIII_c, aRIIII_c, aRL_c, aRLL_c, aLL_c, aRRRI_c, aIL_c, aIIII_c, aRRIIII_c, aIRII_c, aIR_c, aLI_c, aRIR_c, aRIIR_c, hC.o0, hC.f0_0, hC.f0_1, hC.f0_2, hC.f0_3, hC.f0_4, hC.f0_5, hC.f0_6, hC.f0_7, hC.f0_8, hC.f0_9, hC.f0_10, hC.f0_11, hC.o1, hC.f1, hC.t2, hC.l2, hC.o3, hC.f3, hC.t4, hC.l4, hC.s5, hC.s12, hC.s19, hC.s112, hC.s119, hC.o26, hC.f26, hC.t27, hC.l27, hC.s28, hC.o126, hC.f126_0, hC.f126_1, hC.t127, hC.l127, hC.t128, hC.l128, hC.s129, hC.n157, hC.n161, hC.o165, hC.f165, hC.t166, hC.l166, hC.r167, hC.r171, hC.q5, hC.q12, hC.q19, hC.q112, hC.q119, hC.a2, hC.a4, hC.a27, hC.a127, hC.a128, hC, rpClears, rpAdds, up_ap]
            simpa using K
    have SK : ∀ (σ2 : Mem) (dn b r j : Nat), j + r = b → b ≤ len → Wp l g 97 (d + 8) 0 0 45 [(0, vR 0), (1, vI len), (3, vI dn), (4, vI 0), (5, vI b), (6, vI b)] [] t σ2 Q → Wp l g 97 (d + 8) 0 0 45 [(0, vR 0), (1, vI len), (3, vI dn), (4, vI 0), (5, vI b), (6, vI j)] [] t σ2 Q := by
      intro σ2 dn b r
      induction r with
      | zero =>
        intro j hj hb K
        obtain rfl : j = b := by omega
        exact K
      | succ r ih =>
        intro j hj hb K
        have K := ih (j + 1) (by omega) hb K
        have s1 : ¬ len ≤ j := by omega
        have s1' : ¬ (len : Int) ≤ j := by omega
        have s2 : ¬ j = b := by omega
        have s2' : ¬ (j : Int) = b := by omega
        have s3 := w32_succ (k := j) (by omega)
        refine wa (by decide) rgWr_ok ts_97 30 (fun N hN => ?_)
        simp [bs_97, hN _, x_iconst, x_ldc2_w, x_aconst_null, x_iload, x_lload, x_aload, x_istore, x_lstore, x_astore, x_iinc, x_iadd, x_isub, x_imul, x_idiv, x_irem, x_iand, x_ior, x_ixor, x_ishl, x_ishr, x_iushr, x_ineg, x_ladd, x_lsub, x_lmul, x_ldiv, x_lrem, x_lcmp, x_i2l, x_i2b, x_i2s, x_i2c, x_dup, x_pop, x_dup_x1, x_dup2, x_getfield, x_putfield, x_iaload, x_baload, x_saload, x_caload, x_daload, x_faload, x_laload, x_aaload, x_iastore, x_bastore, x_sastore, x_castore, x_lastore, x_aastore, x_arraylength, x_getstatic, x_goto, x_goto_w, x_ifCond, x_if_icmp, x_ifnull, x_ifnonnull, x_lookupswitch, x_invokevirtual, x_invokestatic, x_invokedynamic, x_ireturn, x_freturn, x_dreturn, x_lreturn, x_areturn, x_return_, pI_c, pL_c, pR_c, pV_i, pV_r, gI_c, gL_c, gR_c, pN_z, pN_s, lget_c, lins_z, lins_c, ldel_z, ldel_c, ldel2_z, ldel2_c, lset_i, lset_l, lset_r, lkeep_z, lkeep_c, largs_z, largs_c, cat_i, cat_l, cat_r, lkp_c, cnd_eq, cnd_ne, cnd_lt, cnd_ge, cnd_gt, cnd_le, swL_z, swL_c, rE_e, rOr_s, rOr_n, rlk_z, rlk_c, aR_c, aI_c, aII_c, aIII_c, aRI_c, aRII_c, aRIII_c, vJn, vJs, vlc, aRR_c, aRRI_c, aRRII_c, aRRIII_c, aRIIII_c, aRL_c, aRLL_c, aLL_c, aRRRI_c, aIL_c, aIIII_c, aRRIIII_c, aIRII_c, aIR_c, aLI_c, aRIR_c, aRIIR_c, s1, s1', s2, s2', s3]
        intro _
        simpa using K
    have O : ∀ σ1, AhTo t (up σ 1 1 0) σ1 → ∀ (f q dn : Nat) (V : Int → Int) (σ2 : Mem), WarT t σ1 σ2 V → okA (σ 2) f q len → dn + f ≤ len → q ≤ len → R = wlF F (nS σ 5) (mS σ 5) (σ 0 14) (σ 2) len f q dn V → Wp l g 97 (d + 8) 0 0 45 [(0, vR 0), (1, vI len), (3, vI dn), (4, vI 0), (5, vI q), (6, vI q)] [] t σ2 Q := by
      intro σ1 A f
      obtain ⟨k1, k2, k3, k4⟩ := A.sea hk1
      rw [nS_up (by omega)] at k2
      rw [mS_up (by omega)] at k3
      have s0 : σ1 0 = σ 0 := by rw [A.1 0 (by omega), up_ne (by omega)]
      have s2 : σ1 2 = σ 2 := by rw [A.1 2 (by omega), up_ne (by omega)]
      have s1 : σ1 1 1 = 0 := by rw [A.1 1 (by omega)]; simp [up_ap]
      have hT2 : TxOk σ1 := ⟨by rw [s1]; omega, fun k k0 k1 => by rw [s2]; exact hT.2 k k0 k1⟩
      have hR1 : RC t σ1 F := by
        obtain ⟨r1, r2, r3⟩ := hR
        unfold RC
        rw [s0]
        refine ⟨r1, r2.cg ?_ ?_, r3⟩
        · rw [A.1 _ (by rcases r1 with e | e <;> rw [e] <;> omega), up_ne (by rcases r1 with e | e <;> rw [e] <;> omega)]
        · rw [A.1 _ (by rcases r1 with e | e <;> rw [e] <;> omega), up_ne (by rcases r1 with e | e <;> rw [e] <;> omega)]
      induction f with
      | zero =>
        intro q dn V σ2 W hA hd hq hRR
        have hql : q = len := hA
        have := fin σ1 σ2 A (by rw [hRR]; exact W) q q (Or.inl (by omega))
        rw [hRR] at this
        simpa [wlF] using this
      | succ f ih =>
        intro q dn V σ2 W hA hd hq hRR
        have es : wlF F (nS σ 5) (mS σ 5) (σ 0 14) (σ 2) len (f + 1) q dn V = if q < len then (if (actV F (nS σ 5) (mS σ 5) (σ 0 14) (σ 2) q V).1 then wlF F (nS σ 5) (mS σ 5) (σ 0 14) (σ 2) len f (q + lnA (σ 2 q)) (dn + 1) (actV F (nS σ 5) (mS σ 5) (σ 0 14) (σ 2) q V).2 else (dn, true, (actV F (nS σ 5) (mS σ 5) (σ 0 14) (σ 2) q V).2)) else (dn, false, V) := rfl
        rw [es] at hRR
        by_cases hql : q < len
        · rw [if_pos hql] at hRR
          obtain ⟨hA1, hA2, f', hf', hA3⟩ := okA_at hA hql
          have hf'' : f' = f := by omega
          subst hf''
          have hL := lnA_b (σ 2 q)
          have q1 : ¬ (len : Int) ≤ q := by omega
          have q2 : ¬ len ≤ q := by omega
          have q76 : (q : Int) ≤ 76 := by omega
          have q80 : (q : Int) < 80 := by omega
          have q80n : q < 80 := by omega
          have e5 : w32 ((q : Int) + (lnA (σ 2 q) : Int)) = ((q + lnA (σ 2 q) : Nat) : Int) := by rw [w32_id (by omega) (by omega)]; omega
          have e6 := w32_succ (k := dn) (by omega)
          have e8 := w32_succ (k := q) (by omega)
          have e7 : w32 (dn : Int) = dn := w32_id (by omega) (by omega)
          refine wa (by decide) rgWr_ok ts_97 30 (fun N hN => ?_)
          simp [bs_97, hN _, x_iconst, x_ldc2_w, x_aconst_null, x_iload, x_lload, x_aload, x_istore, x_lstore, x_astore, x_iinc, x_iadd, x_isub, x_imul, x_idiv, x_irem, x_iand, x_ior, x_ixor, x_ishl, x_ishr, x_iushr, x_ineg, x_ladd, x_lsub, x_lmul, x_ldiv, x_lrem, x_lcmp, x_i2l, x_i2b, x_i2s, x_i2c, x_dup, x_pop, x_dup_x1, x_dup2, x_getfield, x_putfield, x_iaload, x_baload, x_saload, x_caload, x_daload, x_faload, x_laload, x_aaload, x_iastore, x_bastore, x_sastore, x_castore, x_lastore, x_aastore, x_arraylength, x_getstatic, x_goto, x_goto_w, x_ifCond, x_if_icmp, x_ifnull, x_ifnonnull, x_lookupswitch, x_invokevirtual, x_invokestatic, x_invokedynamic, x_ireturn, x_freturn, x_dreturn, x_lreturn, x_areturn, x_return_, pI_c, pL_c, pR_c, pV_i, pV_r, gI_c, gL_c, gR_c, pN_z, pN_s, lget_c, lins_z, lins_c, ldel_z, ldel_c, ldel2_z, ldel2_c, lset_i, lset_l, lset_r, lkeep_z, lkeep_c, largs_z, largs_c, cat_i, cat_l, cat_r, lkp_c, cnd_eq, cnd_ne, cnd_lt, cnd_ge, cnd_gt, cnd_le, swL_z, swL_c, rE_e, rOr_s, rOr_n, rlk_z, rlk_c, aR_c, aI_c, aII_c, aIII_c, aRI_c, aRII_c, aRIII_c, vJn, vJs, vlc, aRR_c, aRRI_c, aRRII_c, aRRIII_c, aRIIII_c, aRL_c, aRLL_c, aLL_c, aRRRI_c, aIL_c, aIIII_c, aRRIIII_c, aIRII_c, aIR_c, aLI_c, aRIR_c, aRIIR_c, hC.o0, hC.f0_0, hC.f0_1, hC.f0_2, hC.f0_3, hC.f0_4, hC.f0_5, hC.f0_6, hC.f0_7, hC.f0_8, hC.f0_9, hC.f0_10, hC.f0_11, hC.o1, hC.f1, hC.t2, hC.l2, hC.o3, hC.f3, hC.t4, hC.l4, hC.s5, hC.s12, hC.s19, hC.s112, hC.s119, hC.o26, hC.f26, hC.t27, hC.l27, hC.s28, hC.o126, hC.f126_0, hC.f126_1, hC.t127, hC.l127, hC.t128, hC.l128, hC.s129, hC.n157, hC.n161, hC.o165, hC.f165, hC.t166, hC.l166, hC.r167, hC.r171, hC.q5, hC.q12, hC.q19, hC.q112, hC.q119, hC.a2, hC.a4, hC.a27, hC.a127, hC.a128, hC, q1, q2, hql, fpActs]
          refine ⟨by omega, σ1, F, hR1, hT2, V, W, by rw [s2]; exact hA1, fun σ3 W3 => ?_⟩
          rw [s0, s2, k2, k3] at W3 ⊢
          have x2 : σ3 2 = σ 2 := by rw [W3.1 2 (by omega) (by omega) (by omega), s2]
          have x1 : σ3 1 = σ1 1 := W3.1 1 (by omega) (by omega) (by omega)
          have hT3 : TxOk σ3 := by unfold TxOk; rw [x1, s1, x2]; exact ⟨by omega, hT.2⟩
          by_cases hok1 : (actV F (nS σ 5) (mS σ 5) (σ 0 14) (σ 2) q V).1 = true
          · rw [if_pos hok1] at hRR ⊢
            have K := SK σ3 (dn + 1) (q + lnA (σ 2 q)) (lnA (σ 2 q) - 1) (q + 1) (by omega) hA2 (ih (q + lnA (σ 2 q)) (dn + 1) _ σ3 W3 hA3 (by omega) hA2 hRR)
            simp [sg_97_0_1, sg_97_23_1, sg_97_45_1, sg_97_115_2, sg_97_115_1, sg_97_130_1, sg_97_150_2, sg_97_150_1, sg_97_151_2, sg_97_151_1, bs_97, hN _, x_iconst, x_ldc2_w, x_aconst_null, x_iload, x_lload, x_aload, x_istore, x_lstore, x_astore, x_iinc, x_iadd, x_isub, x_imul, x_idiv, x_irem, x_iand, x_ior, x_ixor, x_ishl, x_ishr, x_iushr, x_ineg, x_ladd, x_lsub, x_lmul, x_ldiv, x_lrem, x_lcmp, x_i2l, x_i2b, x_i2s, x_i2c, x_dup, x_pop, x_dup_x1, x_dup2, x_getfield, x_putfield, x_iaload, x_baload, x_saload, x_caload, x_daload, x_faload, x_laload, x_aaload, x_iastore, x_bastore, x_sastore, x_castore, x_lastore, x_aastore, x_arraylength, x_getstatic, x_goto, x_goto_w, x_ifCond, x_if_icmp, x_ifnull, x_ifnonnull, x_lookupswitch, x_invokevirtual, x_invokestatic, x_invokedynamic, x_ireturn, x_freturn, x_dreturn, x_lreturn, x_areturn, x_return_, pI_c, pL_c, pR_c, pV_i, pV_r, gI_c, gL_c, gR_c, pN_z, pN_s, lget_c, lins_z, lins_c, ldel_z, ldel_c, ldel2_z, ldel2_c, lset_i, lset_l, lset_r, lkeep_z, lkeep_c, largs_z, largs_c, cat_i, cat_l, cat_r, lkp_c, cnd_eq, cnd_ne, cnd_lt, cnd_ge, cnd_gt, cnd_le, swL_z, swL_c, rE_e, rOr_s, rOr_n, rlk_z, rlk_c, aR_c, aI_c, aII_c, aIII_c, aRI_c, aRII_c, aRIII_c, vJn, vJs, vlc, aRR_c, aRRI_c, aRRII_c, aRRIII_c, aRIIII_c, aRL_c, aRLL_c, aLL_c, aRRRI_c, aIL_c, aIIII_c, aRRIIII_c, aIRII_c, aIR_c, aLI_c, aRIR_c, aRIIR_c, hC.o0, hC.f0_0, hC.f0_1, hC.f0_2, hC.f0_3, hC.f0_4, hC.f0_5, hC.f0_6, hC.f0_7, hC.f0_8, hC.f0_9, hC.f0_10, hC.f0_11, hC.o1, hC.f1, hC.t2, hC.l2, hC.o3, hC.f3, hC.t4, hC.l4, hC.s5, hC.s12, hC.s19, hC.s112, hC.s119, hC.o26, hC.f26, hC.t27, hC.l27, hC.s28, hC.o126, hC.f126_0, hC.f126_1, hC.t127, hC.l127, hC.t128, hC.l128, hC.s129, hC.n157, hC.n161, hC.o165, hC.f165, hC.t166, hC.l166, hC.r167, hC.r171, hC.q5, hC.q12, hC.q19, hC.q112, hC.q119, hC.a2, hC.a4, hC.a27, hC.a127, hC.a128, hC, xpAt, hT3, x2, fpLenAct, q80, q80n, e5, e6, e8]
            simpa using K
          · rw [if_neg hok1] at hRR ⊢
            have K := fin σ1 σ3 A (by rw [hRR]; exact W3) (q + lnA (σ 2 q)) (q + 1) (Or.inr (by rw [hRR]))
            rw [hRR] at K
            simp [sg_97_0_1, sg_97_23_1, sg_97_45_1, sg_97_115_2, sg_97_115_1, sg_97_130_1, sg_97_150_2, sg_97_150_1, sg_97_151_2, sg_97_151_1, bs_97, hN _, x_iconst, x_ldc2_w, x_aconst_null, x_iload, x_lload, x_aload, x_istore, x_lstore, x_astore, x_iinc, x_iadd, x_isub, x_imul, x_idiv, x_irem, x_iand, x_ior, x_ixor, x_ishl, x_ishr, x_iushr, x_ineg, x_ladd, x_lsub, x_lmul, x_ldiv, x_lrem, x_lcmp, x_i2l, x_i2b, x_i2s, x_i2c, x_dup, x_pop, x_dup_x1, x_dup2, x_getfield, x_putfield, x_iaload, x_baload, x_saload, x_caload, x_daload, x_faload, x_laload, x_aaload, x_iastore, x_bastore, x_sastore, x_castore, x_lastore, x_aastore, x_arraylength, x_getstatic, x_goto, x_goto_w, x_ifCond, x_if_icmp, x_ifnull, x_ifnonnull, x_lookupswitch, x_invokevirtual, x_invokestatic, x_invokedynamic, x_ireturn, x_freturn, x_dreturn, x_lreturn, x_areturn, x_return_, pI_c, pL_c, pR_c, pV_i, pV_r, gI_c, gL_c, gR_c, pN_z, pN_s, lget_c, lins_z, lins_c, ldel_z, ldel_c, ldel2_z, ldel2_c, lset_i, lset_l, lset_r, lkeep_z, lkeep_c, largs_z, largs_c, cat_i, cat_l, cat_r, lkp_c, cnd_eq, cnd_ne, cnd_lt, cnd_ge, cnd_gt, cnd_le, swL_z, swL_c, rE_e, rOr_s, rOr_n, rlk_z, rlk_c, aR_c, aI_c, aII_c, aIII_c, aRI_c, aRII_c, aRIII_c, vJn, vJs, vlc, aRR_c, aRRI_c, aRRII_c, aRRIII_c, aRIIII_c, aRL_c, aRLL_c, aLL_c, aRRRI_c, aIL_c, aIIII_c, aRRIIII_c, aIRII_c, aIR_c, aLI_c, aRIR_c, aRIIR_c, hC.o0, hC.f0_0, hC.f0_1, hC.f0_2, hC.f0_3, hC.f0_4, hC.f0_5, hC.f0_6, hC.f0_7, hC.f0_8, hC.f0_9, hC.f0_10, hC.f0_11, hC.o1, hC.f1, hC.t2, hC.l2, hC.o3, hC.f3, hC.t4, hC.l4, hC.s5, hC.s12, hC.s19, hC.s112, hC.s119, hC.o26, hC.f26, hC.t27, hC.l27, hC.s28, hC.o126, hC.f126_0, hC.f126_1, hC.t127, hC.l127, hC.t128, hC.l128, hC.s129, hC.n157, hC.n161, hC.o165, hC.f165, hC.t166, hC.l166, hC.r167, hC.r171, hC.q5, hC.q12, hC.q19, hC.q112, hC.q119, hC.a2, hC.a4, hC.a27, hC.a127, hC.a128, hC, xpAt, hT3, x2, fpLenAct, q80, q80n, e5, e7, e8]
            simpa using K
        · rw [if_neg hql] at hRR
          have := fin σ1 σ2 A (by rw [hRR]; exact W) q q (Or.inl (by omega))
          rw [hRR] at this
          simpa using this
    refine wg (by decide) rgWr_ok ts_97 py_97 ml_97 30 (by simp [catT]) (fun N hN => ?_)
    simp [bs_97, sg_97_0_1, hN _, x_iconst, x_ldc2_w, x_aconst_null, x_iload, x_lload, x_aload, x_istore, x_lstore, x_astore, x_iinc, x_iadd, x_isub, x_imul, x_idiv, x_irem, x_iand, x_ior, x_ixor, x_ishl, x_ishr, x_iushr, x_ineg, x_ladd, x_lsub, x_lmul, x_ldiv, x_lrem, x_lcmp, x_i2l, x_i2b, x_i2s, x_i2c, x_dup, x_pop, x_dup_x1, x_dup2, x_getfield, x_putfield, x_iaload, x_baload, x_saload, x_caload, x_daload, x_faload, x_laload, x_aaload, x_iastore, x_bastore, x_sastore, x_castore, x_lastore, x_aastore, x_arraylength, x_getstatic, x_goto, x_goto_w, x_ifCond, x_if_icmp, x_ifnull, x_ifnonnull, x_lookupswitch, x_invokevirtual, x_invokestatic, x_invokedynamic, x_ireturn, x_freturn, x_dreturn, x_lreturn, x_areturn, x_return_, pI_c, pL_c, pR_c, pV_i, pV_r, gI_c, gL_c, gR_c, pN_z, pN_s, lget_c, lins_z, lins_c, ldel_z, ldel_c, ldel2_z, ldel2_c, lset_i, lset_l, lset_r, lkeep_z, lkeep_c, largs_z, largs_c, cat_i, cat_l, cat_r, lkp_c, cnd_eq, cnd_ne, cnd_lt, cnd_ge, cnd_gt, cnd_le, swL_z, swL_c, rE_e, rOr_s, rOr_n, rlk_z, rlk_c, aR_c, aI_c, aII_c, aIII_c, aRI_c, aRII_c, aRIII_c, vJn, vJs, vlc, aRR_c, aRRI_c, aRRII_c, aRRIII_c, aRIIII_c, aRL_c, aRLL_c, aLL_c, aRRRI_c, aIL_c, aIIII_c, aRRIIII_c, aIRII_c, aIR_c, aLI_c, aRIR_c, aRIIR_c, hC.o0, hC.f0_0, hC.f0_1, hC.f0_2, hC.f0_3, hC.f0_4, hC.f0_5, hC.f0_6, hC.f0_7, hC.f0_8, hC.f0_9, hC.f0_10, hC.f0_11, hC.o1, hC.f1, hC.t2, hC.l2, hC.o3, hC.f3, hC.t4, hC.l4, hC.s5, hC.s12, hC.s19, hC.s112, hC.s119, hC.o26, hC.f26, hC.t27, hC.l27, hC.s28, hC.o126, hC.f126_0, hC.f126_1, hC.t127, hC.l127, hC.t128, hC.l128, hC.s129, hC.n157, hC.n161, hC.o165, hC.f165, hC.t166, hC.l166, hC.r167, hC.r171, hC.q5, hC.q12, hC.q19, hC.q112, hC.q119, hC.a2, hC.a4, hC.a27, hC.a127, hC.a128, hC, xpEmpties, fpFaultW, hT1, hlen, hl80', hl80, e2, hf, apBecomes, hk1]
    intro σ1 b1 b2 b3 b4 b5
    have A1 : AhTo t (up σ 1 1 0) σ1 := ⟨fun o ho => b1 o (by omega), b2, b3, b4, b5⟩
    obtain ⟨k1, k2, k3, k4⟩ := A1.sea hk1
    rw [vw_up (by omega)] at k4
    have K := O σ1 A1 len 0 0 (vwS σ 5) σ1 ⟨fun _ _ _ _ => rfl, k1, rfl, rfl, k4⟩ hok (by omega) (by omega) hRs.symm
    simp [sg_97_23_1, hN _, x_iconst, x_ldc2_w, x_aconst_null, x_iload, x_lload, x_aload, x_istore, x_lstore, x_astore, x_iinc, x_iadd, x_isub, x_imul, x_idiv, x_irem, x_iand, x_ior, x_ixor, x_ishl, x_ishr, x_iushr, x_ineg, x_ladd, x_lsub, x_lmul, x_ldiv, x_lrem, x_lcmp, x_i2l, x_i2b, x_i2s, x_i2c, x_dup, x_pop, x_dup_x1, x_dup2, x_getfield, x_putfield, x_iaload, x_baload, x_saload, x_caload, x_daload, x_faload, x_laload, x_aaload, x_iastore, x_bastore, x_sastore, x_castore, x_lastore, x_aastore, x_arraylength, x_getstatic, x_goto, x_goto_w, x_ifCond, x_if_icmp, x_ifnull, x_ifnonnull, x_lookupswitch, x_invokevirtual, x_invokestatic, x_invokedynamic, x_ireturn, x_freturn, x_dreturn, x_lreturn, x_areturn, x_return_, pI_c, pL_c, pR_c, pV_i, pV_r, gI_c, gL_c, gR_c, pN_z, pN_s, lget_c, lins_z, lins_c, ldel_z, ldel_c, ldel2_z, ldel2_c, lset_i, lset_l, lset_r, lkeep_z, lkeep_c, largs_z, largs_c, cat_i, cat_l, cat_r, lkp_c, cnd_eq, cnd_ne, cnd_lt, cnd_ge, cnd_gt, cnd_le, swL_z, swL_c, rE_e, rOr_s, rOr_n, rlk_z, rlk_c, aR_c, aI_c, aII_c, aIII_c, aRI_c, aRII_c, aRIII_c, vJn, vJs, vlc, aRR_c, aRRI_c, aRRII_c, aRRIII_c, aRIIII_c, aRL_c, aRLL_c, aLL_c, aRRRI_c, aIL_c, aIIII_c, aRRIIII_c, aIRII_c, aIR_c, aLI_c, aRIR_c, aRIIR_c]
    exact K
  · rw [if_neg hf] at h
    have hb := fltW_b (T := σ 2) (len := len)
    refine wg (by decide) rgWr_ok tk_97 py_97 ml_97 30 (by simp [catT]) (fun N hN => ?_)
    simp [bl_97, hN _, x_iconst, x_ldc2_w, x_aconst_null, x_iload, x_lload, x_aload, x_istore, x_lstore, x_astore, x_iinc, x_iadd, x_isub, x_imul, x_idiv, x_irem, x_iand, x_ior, x_ixor, x_ishl, x_ishr, x_iushr, x_ineg, x_ladd, x_lsub, x_lmul, x_ldiv, x_lrem, x_lcmp, x_i2l, x_i2b, x_i2s, x_i2c, x_dup, x_pop, x_dup_x1, x_dup2, x_getfield, x_putfield, x_iaload, x_baload, x_saload, x_caload, x_daload, x_faload, x_laload, x_aaload, x_iastore, x_bastore, x_sastore, x_castore, x_lastore, x_aastore, x_arraylength, x_getstatic, x_goto, x_goto_w, x_ifCond, x_if_icmp, x_ifnull, x_ifnonnull, x_lookupswitch, x_invokevirtual, x_invokestatic, x_invokedynamic, x_ireturn, x_freturn, x_dreturn, x_lreturn, x_areturn, x_return_, pI_c, pL_c, pR_c, pV_i, pV_r, gI_c, gL_c, gR_c, pN_z, pN_s, lget_c, lins_z, lins_c, ldel_z, ldel_c, ldel2_z, ldel2_c, lset_i, lset_l, lset_r, lkeep_z, lkeep_c, largs_z, largs_c, cat_i, cat_l, cat_r, lkp_c, cnd_eq, cnd_ne, cnd_lt, cnd_ge, cnd_gt, cnd_le, swL_z, swL_c, rE_e, rOr_s, rOr_n, rlk_z, rlk_c, aR_c, aI_c, aII_c, aIII_c, aRI_c, aRII_c, aRIII_c, vJn, vJs, vlc, aRR_c, aRRI_c, aRRII_c, aRRIII_c, aRIIII_c, aRL_c, aRLL_c, aLL_c, aRRRI_c, aIL_c, aIIII_c, aRRIIII_c, aIRII_c, aIR_c, aLI_c, aRIR_c, aRIIR_c, hC.o0, hC.f0_0, hC.f0_1, hC.f0_2, hC.f0_3, hC.f0_4, hC.f0_5, hC.f0_6, hC.f0_7, hC.f0_8, hC.f0_9, hC.f0_10, hC.f0_11, hC.o1, hC.f1, hC.t2, hC.l2, hC.o3, hC.f3, hC.t4, hC.l4, hC.s5, hC.s12, hC.s19, hC.s112, hC.s119, hC.o26, hC.f26, hC.t27, hC.l27, hC.s28, hC.o126, hC.f126_0, hC.f126_1, hC.t127, hC.l127, hC.t128, hC.l128, hC.s129, hC.n157, hC.n161, hC.o165, hC.f165, hC.t166, hC.l166, hC.r167, hC.r171, hC.q5, hC.q12, hC.q19, hC.q112, hC.q119, hC.a2, hC.a4, hC.a27, hC.a127, hC.a128, hC, xpEmpties, fpFaultW, hT1, hlen, hl80', hl80, e2, hf]
    rw [w32_id (by omega) (by omega)]
    exact h
