/-! StruckColours$Past -/
abbrev pA (σ : Mem) (k : Int) : Int := 28 + 7 * ((σ 26 1 + k) % 12)
/-- p things can be undone: U -/
def PsIs (t : Tau) (σ : Mem) (p : Nat) (U : Nat → Int → Int) : Prop := (σ 26 2 = p ∧ p ≤ 12) ∧ (0 ≤ σ 26 1 ∧ σ 26 1 < 12) ∧ (∀ k : Int, 0 ≤ k → k < 12 → σ 27 k = 28 + 7 * k) ∧ ∀ k : Nat, k < p → SeaOk t σ (pA σ k) ∧ nS σ (pA σ k) = nS σ 5 ∧ mS σ (pA σ k) = mS σ 5 ∧ vwS σ (pA σ k) = U k
def pushP (p : Nat) : Nat := if p = 12 then 12 else p + 1
def pushU (p : Nat) (U : Nat → Int → Int) (V : Int → Int) (k : Nat) : Int → Int := if p = 12 then (if k = 11 then V else U (k + 1)) else if k = p then V else U k
theorem xor12_0 : ∀ x : Fin 24, decide (0 ≤ (Int32.ofInt (x.val : Int) ^^^ Int32.ofInt 12).toInt) = true := by decide +kernel
theorem xor12 {x : Nat} (h : x < 24) : 0 ≤ ixor (x : Int) 12 := by rw [ixor_eq]; exact of_decide_eq_true (xor12_0 ⟨x, h⟩)
def jpFmod : Sp := fun as t σ Q => aII as fun x y => (0 ≤ x ∧ x < 24) ∧ y = 12 ∧ Q (some (vI (x % 12))) t σ
theorem j_fmod {l : Launch} {g : GE} {d : Nat} {t : Tau} {σ : Mem} {Q : Post} {as : List TV} (h0 : jpFmod as t σ Q) : WPc l g 286 (d + 1) 0 0 as t σ Q := by
  obtain ⟨x, y, rfl, ⟨x0, x1⟩, rfl, h⟩ := aII_e h0
  clear h0
  obtain ⟨n, rfl⟩ : ∃ n : Nat, x = n := ⟨x.toNat, by omega⟩
  have hx := xor12 (x := n) (by omega)
  have e1 : w32 ((n : Int).tmod 12) = (n : Int) % 12 := by rw [Int.tmod_eq_emod_of_nonneg (by omega)]; exact w32_id (by omega) (by omega)
  refine wp_goF (by decide) rE_nil tk_286 py_286 ml_286 30 (by simp [catT]) ?_
  simp [bl_286, vcN_s, x_iconst, x_ldc2_w, x_aconst_null, x_iload, x_lload, x_aload, x_istore, x_lstore, x_astore, x_iinc, x_iadd, x_isub, x_imul, x_idiv, x_irem, x_iand, x_ior, x_ixor, x_ishl, x_ishr, x_iushr, x_ineg, x_ladd, x_lsub, x_lmul, x_ldiv, x_lrem, x_lcmp, x_i2l, x_i2b, x_i2s, x_i2c, x_dup, x_pop, x_dup_x1, x_dup2, x_getfield, x_putfield, x_iaload, x_baload, x_saload, x_caload, x_daload, x_faload, x_laload, x_aaload, x_iastore, x_bastore, x_sastore, x_castore, x_lastore, x_aastore, x_arraylength, x_getstatic, x_goto, x_goto_w, x_ifCond, x_if_icmp, x_ifnull, x_ifnonnull, x_lookupswitch, x_invokevirtual, x_invokestatic, x_invokedynamic, x_ireturn, x_freturn, x_dreturn, x_lreturn, x_areturn, x_return_, pI_c, pL_c, pR_c, pV_i, pV_r, gI_c, gL_c, gR_c, pN_z, pN_s, lget_c, lins_z, lins_c, ldel_z, ldel_c, ldel2_z, ldel2_c, lset_i, lset_l, lset_r, lkeep_z, lkeep_c, largs_z, largs_c, cat_i, cat_l, cat_r, lkp_c, cnd_eq, cnd_ne, cnd_lt, cnd_ge, cnd_gt, cnd_le, swL_z, swL_c, rE_e, rOr_s, rOr_n, rlk_z, rlk_c, aR_c, aI_c, aII_c, aIII_c, aRI_c, aRII_c, aRIII_c, vJn, vJs, vlc, aRR_c, aRRI_c, aRRII_c, aRRIII_c, aRIIII_c, aRL_c, aRLL_c, aLL_c, aRRRI_c, aIL_c, aIIII_c, aRRIIII_c, aIRII_c, aIR_c, aLI_c, aRIR_c, aRIIR_c, hx, e1]
  exact ⟨h, fun z => by omega⟩
theorem rgFm_ok {l : Launch} {g : GE} {d : Nat} : ∀ e as t σ Q, rE l g (d + 1) [(286, jpFmod)] e as t σ Q → WPc l g e (d + 1) 0 0 as t σ Q := rE_cons (fun _ _ _ _ h => j_fmod h) rE_nil
def ppAt : Sp := fun as t σ Q => aRI as fun a i => a = 26 ∧ TC t ∧ (0 ≤ σ 26 1 ∧ σ 26 1 < 12) ∧ (0 ≤ i ∧ i < 12) ∧ (∀ k : Int, 0 ≤ k → k < 12 → σ 27 k = 28 + 7 * k) ∧ Q (some (vR (pA σ i))) t σ
theorem p_at {l : Launch} {g : GE} {d : Nat} {t : Tau} {σ : Mem} {Q : Post} {as : List TV} (h0 : ppAt as t σ Q) : WPc l g 13 (d + 2) 0 0 as t σ Q := by
  obtain ⟨a, i, rfl, rfl, hC, hf, hi, hs, h⟩ := aRI_e h0
  clear h0
  have e1 : w32 (σ 26 1 + i) = σ 26 1 + i := w32_id (by omega) (by omega)
  have e2 := hs ((σ 26 1 + i) % 12) (by omega) (by omega)
  have e3 : (σ 26 1 + i) % 12 < 12 := by omega
  have e4 : 0 ≤ (σ 26 1 + i) % 12 := by omega
  have e5 : 0 ≤ σ 26 1 + i := by omega
  have e6 : σ 26 1 + i < 24 := by omega
  refine wg (by decide) rgFm_ok tk_13 py_13 ml_13 30 (by simp [catT]) (fun N hN => ?_)
  simp [bl_13, hN _, x_iconst, x_ldc2_w, x_aconst_null, x_iload, x_lload, x_aload, x_istore, x_lstore, x_astore, x_iinc, x_iadd, x_isub, x_imul, x_idiv, x_irem, x_iand, x_ior, x_ixor, x_ishl, x_ishr, x_iushr, x_ineg, x_ladd, x_lsub, x_lmul, x_ldiv, x_lrem, x_lcmp, x_i2l, x_i2b, x_i2s, x_i2c, x_dup, x_pop, x_dup_x1, x_dup2, x_getfield, x_putfield, x_iaload, x_baload, x_saload, x_caload, x_daload, x_faload, x_laload, x_aaload, x_iastore, x_bastore, x_sastore, x_castore, x_lastore, x_aastore, x_arraylength, x_getstatic, x_goto, x_goto_w, x_ifCond, x_if_icmp, x_ifnull, x_ifnonnull, x_lookupswitch, x_invokevirtual, x_invokestatic, x_invokedynamic, x_ireturn, x_freturn, x_dreturn, x_lreturn, x_areturn, x_return_, pI_c, pL_c, pR_c, pV_i, pV_r, gI_c, gL_c, gR_c, pN_z, pN_s, lget_c, lins_z, lins_c, ldel_z, ldel_c, ldel2_z, ldel2_c, lset_i, lset_l, lset_r, lkeep_z, lkeep_c, largs_z, largs_c, cat_i, cat_l, cat_r, lkp_c, cnd_eq, cnd_ne, cnd_lt, cnd_ge, cnd_gt, cnd_le, swL_z, swL_c, rE_e, rOr_s, rOr_n, rlk_z, rlk_c, aR_c, aI_c, aII_c, aIII_c, aRI_c, aRII_c, aRIII_c, vJn, vJs, vlc, aRR_c, aRRI_c, aRRII_c, aRRIII_c, aRIIII_c, aRL_c, aRLL_c, aLL_c, aRRRI_c, aIL_c, aIIII_c, aRRIIII_c, aIRII_c, aIR_c, aLI_c, aRIR_c, aRIIR_c, hC.o26, hC.f26, hC.t27, hC.l27, hC.a27, jpFmod, e1, e2, e3, e4, e5, e6]
  exact ⟨fun z => by omega, h⟩
def ppClears : Sp := fun as t σ Q => aR as fun a => a = 26 ∧ TC t ∧ Q none t (up σ 26 2 0)
theorem p_clears {l : Launch} {g : GE} {d : Nat} {t : Tau} {σ : Mem} {Q : Post} {as : List TV} (h0 : ppClears as t σ Q) : WPc l g 12 (d + 1) 0 0 as t σ Q := by
  obtain ⟨a, rfl, rfl, hC, h⟩ := aR_e h0
  clear h0
  refine wg (by decide) rE_nil tk_12 py_12 ml_12 30 (by simp [catT]) (fun N hN => ?_)
  simp [bl_12, hN _, x_iconst, x_ldc2_w, x_aconst_null, x_iload, x_lload, x_aload, x_istore, x_lstore, x_astore, x_iinc, x_iadd, x_isub, x_imul, x_idiv, x_irem, x_iand, x_ior, x_ixor, x_ishl, x_ishr, x_iushr, x_ineg, x_ladd, x_lsub, x_lmul, x_ldiv, x_lrem, x_lcmp, x_i2l, x_i2b, x_i2s, x_i2c, x_dup, x_pop, x_dup_x1, x_dup2, x_getfield, x_putfield, x_iaload, x_baload, x_saload, x_caload, x_daload, x_faload, x_laload, x_aaload, x_iastore, x_bastore, x_sastore, x_castore, x_lastore, x_aastore, x_arraylength, x_getstatic, x_goto, x_goto_w, x_ifCond, x_if_icmp, x_ifnull, x_ifnonnull, x_lookupswitch, x_invokevirtual, x_invokestatic, x_invokedynamic, x_ireturn, x_freturn, x_dreturn, x_lreturn, x_areturn, x_return_, pI_c, pL_c, pR_c, pV_i, pV_r, gI_c, gL_c, gR_c, pN_z, pN_s, lget_c, lins_z, lins_c, ldel_z, ldel_c, ldel2_z, ldel2_c, lset_i, lset_l, lset_r, lkeep_z, lkeep_c, largs_z, largs_c, cat_i, cat_l, cat_r, lkp_c, cnd_eq, cnd_ne, cnd_lt, cnd_ge, cnd_gt, cnd_le, swL_z, swL_c, rE_e, rOr_s, rOr_n, rlk_z, rlk_c, aR_c, aI_c, aII_c, aIII_c, aRI_c, aRII_c, aRIII_c, vJn, vJs, vlc, aRR_c, aRRI_c, aRRII_c, aRRIII_c, aRIIII_c, aRL_c, aRLL_c, aLL_c, aRRRI_c, aIL_c, aIIII_c, aRRIIII_c, aIRII_c, aIR_c, aLI_c, aRIR_c, aRIIR_c, hC.o26]
  exact h
abbrev rgPs : Reg := [(13, ppAt), (40, apBecomes)]
theorem rgPs_ok {l : Launch} {g : GE} {d : Nat} : ∀ e as t σ Q, rE l g (d + 2) rgPs e as t σ Q → WPc l g e (d + 2) 0 0 as t σ Q := rE_cons (fun _ _ _ _ h => p_at h) (rE_cons (fun _ _ _ _ h => a_becomes h) rE_nil)
theorem TC.sA {t : Tau} (hC : TC t) {j : Int} (h0 : 0 ≤ j) (h1 : j < 12) : SeaT t (28 + 7 * j) := hC.s28 j h0 h1
def ppAdds : Sp := fun as t σ Q => aRR as fun a b => a = 26 ∧ TC t ∧ (b = 5 ∨ b = 12) ∧ SeaOk t σ b ∧ nS σ b = nS σ 5 ∧ mS σ b = mS σ 5 ∧ ∃ p U, PsIs t σ p U ∧ ∀ σ', (∀ o, (o < 26 ∨ 111 < o) → σ' o = σ o) → PsIs t σ' (pushP p) (pushU p U (vwS σ b)) → Q none t σ'
set_option maxHeartbeats 1000000 in
theorem p_adds {l : Launch} {g : GE} {d : Nat} {t : Tau} {σ : Mem} {Q : Post} {as : List TV} (h0 : ppAdds as t σ Q) : WPc l g 14 (d + 3) 0 0 as t σ Q := by
  obtain ⟨a, b, rfl, rfl, hC, hb, hk, hn, hm, p, U, ⟨⟨p1, p2⟩, f1, hs, hU⟩, h⟩ := aRR_e h0
  clear h0
  by_cases hp : p = 12
  · subst hp
    have e1 : w32 (σ 26 1 + 1) = σ 26 1 + 1 := w32_id (by omega) (by omega)
    have e2 : w32 ((σ 26 1 + 1).tmod 12) = (σ 26 1 + 1) % 12 := by rw [Int.tmod_eq_emod_of_nonneg (by omega)]; exact w32_id (by omega) (by omega)
    have e3 : w32 11 = 11 := w32_11
    have e4 : ∀ k, 0 ≤ k → k < 12 → up (up σ 26 1 ((σ 26 1 + 1) % 12)) 26 2 11 27 k = 28 + 7 * k := fun k a b => by rw [up_ne (by omega), up_ne (by omega)]; exact hs k a b
    have eA : ((σ 26 1 + 1) % 12 + 11) % 12 = σ 26 1 := by omega
    have hT : SeaT t (28 + 7 * σ 26 1) := hC.sA f1.1 f1.2
    have hO : isO t (28 + 7 * σ 26 1) 5 := hT.1
    have nn : ¬ 28 + 7 * σ 26 1 = -1 := by omega
    have hb6 : SeaOk t (up (up σ 26 1 ((σ 26 1 + 1) % 12)) 26 2 11) b := by rw [ok_up (by omega), ok_up (by omega)]; exact hk
    refine wg (by decide) rgPs_ok ts_14 py_14 ml_14 30 (by simp [catT]) (fun N hN => ?_)
    simp [bs_14, hN _, x_iconst, x_ldc2_w, x_aconst_null, x_iload, x_lload, x_aload, x_istore, x_lstore, x_astore, x_iinc, x_iadd, x_isub, x_imul, x_idiv, x_irem, x_iand, x_ior, x_ixor, x_ishl, x_ishr, x_iushr, x_ineg, x_ladd, x_lsub, x_lmul, x_ldiv, x_lrem, x_lcmp, x_i2l, x_i2b, x_i2s, x_i2c, x_dup, x_pop, x_dup_x1, x_dup2, x_getfield, x_putfield, x_iaload, x_baload, x_saload, x_caload, x_daload, x_faload, x_laload, x_aaload, x_iastore, x_bastore, x_sastore, x_castore, x_lastore, x_aastore, x_arraylength, x_getstatic, x_goto, x_goto_w, x_ifCond, x_if_icmp, x_ifnull, x_ifnonnull, x_lookupswitch, x_invokevirtual, x_invokestatic, x_invokedynamic, x_ireturn, x_freturn, x_dreturn, x_lreturn, x_areturn, x_return_, pI_c, pL_c, pR_c, pV_i, pV_r, gI_c, gL_c, gR_c, pN_z, pN_s, lget_c, lins_z, lins_c, ldel_z, ldel_c, ldel2_z, ldel2_c, lset_i, lset_l, lset_r, lkeep_z, lkeep_c, largs_z, largs_c, cat_i, cat_l, cat_r, lkp_c, cnd_eq, cnd_ne, cnd_lt, cnd_ge, cnd_gt, cnd_le, swL_z, swL_c, rE_e, rOr_s, rOr_n, rlk_z, rlk_c, aR_c, aI_c, aII_c, aIII_c, aRI_c, aRII_c, aRIII_c, vJn, vJs, vlc, aRR_c, aRRI_c, aRRII_c, aRRIII_c, aRIIII_c, aRL_c, aRLL_c, aLL_c, aRRRI_c, aIL_c, aIIII_c, aRRIIII_c, aIRII_c, aIR_c, aLI_c, aRIR_c, aRIIR_c, hC, hC.o26, ppAt, apBecomes, p1, e1, e2, e3, up_ap, eA, hO, nn, hT, hb6, sg_14_0_1, sg_14_32_1, pA]
    refine ⟨by omega, by simpa [up_ap] using e4, by omega, fun σ1 b1 b2 b3 b4 b5 => ?_⟩
    have g2 : σ1 26 2 = 11 := by rw [b1 26 (by omega)]; simp [up_ap]
    have g1 : σ1 26 1 = (σ 26 1 + 1) % 12 := by rw [b1 26 (by omega)]; simp [up_ap]
    rw [nS_up (by omega), nS_up (by omega)] at b3
    rw [mS_up (by omega), mS_up (by omega)] at b4
    rw [vw_up (by omega), vw_up (by omega)] at b5
    simp [g2, w32_12]
    have hc5 : ∀ o, 5 ≤ o → o ≤ 5 + 6 → up σ1 26 2 12 o = σ o := fun o a b => by rw [up_ne (by omega), b1 o (by omega), up_ne (by omega), up_ne (by omega)]
    obtain ⟨n5, m5, v5⟩ := sea_cg hc5
    refine h _ (fun o ho => by rw [up_ne (by omega), b1 o (by omega), up_ne (by omega), up_ne (by omega)]) ⟨⟨by simp [up_ap, pushP], by simp [pushP]⟩, ?_, ?_, fun k hk' => ?_⟩
    · simp [up_ap, g1]; omega
    · intro k a b
      rw [up_ne (by omega), b1 27 (by omega), up_ne (by omega), up_ne (by omega)]; exact hs k a b
    · have hk12 : k < 12 := by simpa [pushP] using hk'
      have ea : pA (up σ1 26 2 12) k = 28 + 7 * (((σ 26 1 + 1) % 12 + k) % 12) := by simp [up_ap, g1]
      rw [ea]
      by_cases hk11 : k = 11
      · subst hk11
        rw [show (((σ 26 1 + 1) % 12 + ((11 : Nat) : Int)) % 12) = σ 26 1 by omega]
        rw [ok_up (by omega), nS_up (by omega), mS_up (by omega), vw_up (by omega), n5, m5]
        exact ⟨b2, by rw [b3, hn], by rw [b4, hm], by rw [b5]; simp [pushU]⟩
      · have hUk := hU (k + 1) (by omega)
        have ej : (28 : Int) + 7 * (((σ 26 1 + 1) % 12 + k) % 12) = pA σ (k + 1 : Nat) := by show _ = 28 + 7 * ((σ 26 1 + ((k + 1 : Nat) : Int)) % 12); omega
        rw [ej]
        have hcc : ∀ o, pA σ (k + 1 : Nat) ≤ o → o ≤ pA σ (k + 1 : Nat) + 6 → up σ1 26 2 12 o = σ o := fun o a b => by
          have hne : o < 28 + 7 * σ 26 1 ∨ 28 + 7 * σ 26 1 + 6 < o := by
            simp only [pA] at a b; omega
          rw [up_ne (by simp only [pA] at a b; omega), b1 o hne, up_ne (by simp only [pA] at a b; omega), up_ne (by simp only [pA] at a b; omega)]
        obtain ⟨n6, m6, v6⟩ := sea_cg hcc
        rw [n6, m6, v6, n5, m5]
        refine ⟨seaok_cg hcc hUk.1, hUk.2.1, hUk.2.2.1, ?_⟩
        rw [hUk.2.2.2]
        simp [pushU, hk11]
  · have hp' : ¬ (p : Int) = 12 := by omega
    have hP : pushP p = p + 1 := by unfold pushP; rw [if_neg hp]
    have eJ : 0 ≤ (σ 26 1 + p) % 12 ∧ (σ 26 1 + p) % 12 < 12 := by omega
    have hT : SeaT t (28 + 7 * ((σ 26 1 + p) % 12)) := hC.sA eJ.1 eJ.2
    have hO : isO t (28 + 7 * ((σ 26 1 + p) % 12)) 5 := hT.1
    have nn : ¬ 28 + 7 * ((σ 26 1 + (p : Int)) % 12) = -1 := by omega
    generalize hj : (σ 26 1 + (p : Int)) % 12 = j at eJ hT hO nn
    refine wg (by decide) rgPs_ok ts_14 py_14 ml_14 30 (by simp [catT]) (fun N hN => ?_)
    simp [bs_14, hN _, x_iconst, x_ldc2_w, x_aconst_null, x_iload, x_lload, x_aload, x_istore, x_lstore, x_astore, x_iinc, x_iadd, x_isub, x_imul, x_idiv, x_irem, x_iand, x_ior, x_ixor, x_ishl, x_ishr, x_iushr, x_ineg, x_ladd, x_lsub, x_lmul, x_ldiv, x_lrem, x_lcmp, x_i2l, x_i2b, x_i2s, x_i2c, x_dup, x_pop, x_dup_x1, x_dup2, x_getfield, x_putfield, x_iaload, x_baload, x_saload, x_caload, x_daload, x_faload, x_laload, x_aaload, x_iastore, x_bastore, x_sastore, x_castore, x_lastore, x_aastore, x_arraylength, x_getstatic, x_goto, x_goto_w, x_ifCond, x_if_icmp, x_ifnull, x_ifnonnull, x_lookupswitch, x_invokevirtual, x_invokestatic, x_invokedynamic, x_ireturn, x_freturn, x_dreturn, x_lreturn, x_areturn, x_return_, pI_c, pL_c, pR_c, pV_i, pV_r, gI_c, gL_c, gR_c, pN_z, pN_s, lget_c, lins_z, lins_c, ldel_z, ldel_c, ldel2_z, ldel2_c, lset_i, lset_l, lset_r, lkeep_z, lkeep_c, largs_z, largs_c, cat_i, cat_l, cat_r, lkp_c, cnd_eq, cnd_ne, cnd_lt, cnd_ge, cnd_gt, cnd_le, swL_z, swL_c, rE_e, rOr_s, rOr_n, rlk_z, rlk_c, aR_c, aI_c, aII_c, aIII_c, aRI_c, aRII_c, aRIII_c, vJn, vJs, vlc, aRR_c, aRRI_c, aRRII_c, aRRIII_c, aRIIII_c, aRL_c, aRLL_c, aLL_c, aRRRI_c, aIL_c, aIIII_c, aRRIIII_c, aIRII_c, aIR_c, aLI_c, aRIR_c, aRIIR_c, hC, hC.o26, ppAt, apBecomes, p1, hp, hp', hj, hO, nn, hT, hk, f1, sg_14_0_1, sg_14_32_1, pA]
    refine ⟨by omega, hs, by omega, fun σ1 b1 b2 b3 b4 b5 => ?_⟩
    have g2 : σ1 26 = σ 26 := b1 26 (by omega)
    have e5 := w32_succ (k := p) (by omega)
    simp [g2, p1, e5]
    have hc5 : ∀ o, 5 ≤ o → o ≤ 5 + 6 → up σ1 26 2 ((p : Int) + 1) o = σ o := fun o a b => by rw [up_ne (by omega), b1 o (by omega)]
    obtain ⟨n5, m5, v5⟩ := sea_cg hc5
    refine h _ (fun o ho => by rw [up_ne (by omega), b1 o (by omega)]) ⟨⟨by simp [up_ap, hP], by rw [hP]; omega⟩, ?_, ?_, fun k hk' => ?_⟩
    · simp [up_ap, g2]; exact f1
    · intro k a b
      rw [up_ne (by omega), b1 27 (by omega)]; exact hs k a b
    · rw [hP] at hk'
      have ea : pA (up σ1 26 2 ((p : Int) + 1)) k = pA σ k := by simp [up_ap, g2]
      rw [ea]
      by_cases hkp : k = p
      · subst hkp
        rw [show pA σ (k : Int) = 28 + 7 * j by rw [← hj]]
        rw [ok_up (by omega), nS_up (by omega), mS_up (by omega), vw_up (by omega), n5, m5]
        exact ⟨b2, by rw [b3, hn], by rw [b4, hm], by rw [b5]; simp [pushU, hp]⟩
      · have hUk := hU k (by omega)
        have hcc : ∀ o, pA σ (k : Nat) ≤ o → o ≤ pA σ (k : Nat) + 6 → up σ1 26 2 ((p : Int) + 1) o = σ o := fun o a b => by
          simp only [pA] at a b
          rw [up_ne (by omega), b1 o (by omega)]
        obtain ⟨n6, m6, v6⟩ := sea_cg hcc
        rw [n6, m6, v6, n5, m5]
        refine ⟨seaok_cg hcc hUk.1, hUk.2.1, hUk.2.2.1, ?_⟩
        rw [hUk.2.2.2]
        simp [pushU, hp, hkp]
