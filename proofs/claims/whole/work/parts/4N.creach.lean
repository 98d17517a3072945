/-! StruckColours$Search: reaches -/
def lvA (k : Nat) : Int := 129 + 7 * (k : Int)
theorem TC.sL {t : Tau} (hC : TC t) {k : Nat} (h : k < 4) : SeaT t (lvA k) := hC.s129 k (by omega) (by omega)
/-- what a fight at depth k changes -/
def GoTo (t : Tau) (σ σ' : Mem) (k : Nat) (w b : Int) : Prop := (∀ o, (o < lvA (k + 1) ∨ lvA (k + 1) + 6 < o) → o ≠ 128 → σ' o = σ o) ∧ (SeaOk t σ' (lvA (k + 1)) ∧ nS σ' (lvA (k + 1)) = nS σ (lvA k) ∧ mS σ' (lvA (k + 1)) = mS σ (lvA k) ∧ vwS σ' (lvA (k + 1)) = strikeV (σ 126 3) (vwS σ (lvA k)) w b) ∧ σ' 128 = upv (upv (σ 128) (2 * (k : Int)) (min w b)) (2 * (k : Int) + 1) (max w b)
def hpGoes : Sp := fun as t σ Q => aRIII as fun a k w b => a = 126 ∧ TC t ∧ LvOk σ ∧ (0 ≤ k ∧ k ≤ 2) ∧ SeaOk t σ (lvA k.toNat) ∧ (0 ≤ w ∧ w < nS σ (lvA k.toNat)) ∧ (0 ≤ b ∧ b < nS σ (lvA k.toNat)) ∧ vwS σ (lvA k.toNat) (6 + w) ≠ vwS σ (lvA k.toNat) (6 + b) ∧ (1 ≤ σ 126 3 ∧ σ 126 3 ≤ 6) ∧ ∀ σ', GoTo t σ σ' k.toNat w b → Q (some (vI 1)) t σ'
abbrev rgGo : Reg := [(72, hpLevel), (40, apBecomes), (64, apStrikesTo), (289, spMin), (288, spMax)]
theorem rgGo_ok {l : Launch} {g : GE} {d : Nat} : ∀ e as t σ Q, rE l g (d + 4) rgGo e as t σ Q → WPc l g e (d + 4) 0 0 as t σ Q := rE_cons (fun _ _ _ _ h => h_level h) <| rE_cons (fun _ _ _ _ h => a_becomes h) <| rE_cons (fun _ _ _ _ h => a_strikesTo h) <| rE_cons (fun _ _ _ _ h => c_min h) <| rE_cons (fun _ _ _ _ h => c_max h) rE_nil
set_option maxHeartbeats 1000000 in
theorem h_goes {l : Launch} {g : GE} {d : Nat} {t : Tau} {σ : Mem} {Q : Post} {as : List TV} (h0 : hpGoes as t σ Q) : WPc l g 78 (d + 5) 0 0 as t σ Q := by
  obtain ⟨a, k', w, b, rfl, rfl, hC, hL, hk, hs, hw, hb, h6, hkk, h⟩ := aRIII_e h0
  clear h0
  obtain ⟨k, rfl⟩ : ∃ n : Nat, k' = n := ⟨k'.toNat, by omega⟩
  simp only [Int.toNat_natCast] at hs hw hb h6 h
  have e1 := w32_succ (k := k) (by omega)
  have e2 : w32 (2 * (k : Int)) = 2 * k := w32_id (by omega) (by omega)
  have e3 : w32 (2 * (k : Int) + 1) = 2 * k + 1 := w32_id (by omega) (by omega)
  have k4 : (k : Int) < 4 := by omega
  have k4n : k < 4 := by omega
  have k5 : (k : Int) + 1 < 4 := by omega
  have k5n : k + 1 < 4 := by omega
  have k6 : 0 ≤ (k : Int) + 1 := by omega
  have a1 : (129 : Int) + 7 * (k : Int) = lvA k := rfl
  have a2 : (129 : Int) + 7 * ((k : Int) + 1) = lvA (k + 1) := by unfold lvA; omega
  have n1 : ¬ lvA k = -1 := by unfold lvA; omega
  have n2 : ¬ lvA (k + 1) = -1 := by unfold lvA; omega
  have hl1 : 129 ≤ lvA k ∧ lvA k ≤ 143 ∧ lvA (k + 1) = lvA k + 7 := by unfold lvA; omega
  have hT1 := hC.sL (k := k + 1) (by omega)
  have m1 : ¬ (k : Int) < 0 := by omega
  have m2 : 2 * (k : Int) + 1 < 6 := by omega
  have m3 : 0 ≤ 2 * (k : Int) + 1 := by omega
  have m4 : 2 * (k : Int) < 6 := by omega
  have m5 : 0 ≤ 2 * (k : Int) := by omega
  refine wg (by decide) rgGo_ok ts_78 py_78 ml_78 30 (by simp [catT]) (fun N hN => ?_)
  simp [bs_78, hN _, x_iconst, x_ldc2_w, x_aconst_null, x_iload, x_lload, x_aload, x_istore, x_lstore, x_astore, x_iinc, x_iadd, x_isub, x_imul, x_idiv, x_irem, x_iand, x_ior, x_ixor, x_ishl, x_ishr, x_iushr, x_ineg, x_ladd, x_lsub, x_lmul, x_ldiv, x_lrem, x_lcmp, x_i2l, x_i2b, x_i2s, x_i2c, x_dup, x_pop, x_dup_x1, x_dup2, x_getfield, x_putfield, x_iaload, x_baload, x_saload, x_caload, x_daload, x_faload, x_laload, x_aaload, x_iastore, x_bastore, x_sastore, x_castore, x_lastore, x_aastore, x_arraylength, x_getstatic, x_goto, x_goto_w, x_ifCond, x_if_icmp, x_ifnull, x_ifnonnull, x_lookupswitch, x_invokevirtual, x_invokestatic, x_invokedynamic, x_ireturn, x_freturn, x_dreturn, x_lreturn, x_areturn, x_return_, pI_c, pL_c, pR_c, pV_i, pV_r, gI_c, gL_c, gR_c, pN_z, pN_s, lget_c, lins_z, lins_c, ldel_z, ldel_c, ldel2_z, ldel2_c, lset_i, lset_l, lset_r, lkeep_z, lkeep_c, largs_z, largs_c, cat_i, cat_l, cat_r, lkp_c, cnd_eq, cnd_ne, cnd_lt, cnd_ge, cnd_gt, cnd_le, swL_z, swL_c, rE_e, rOr_s, rOr_n, rlk_z, rlk_c, aR_c, aI_c, aII_c, aIII_c, aRI_c, aRII_c, aRIII_c, vJn, vJs, vlc, aRR_c, aRRI_c, aRRII_c, aRRIII_c, aRIIII_c, aRL_c, aRLL_c, aLL_c, aRRRI_c, aIL_c, aIIII_c, aRRIIII_c, aIRII_c, aIR_c, aLI_c, aRIR_c, aRIIR_c, hC.o0, hC.f0_0, hC.f0_1, hC.f0_2, hC.f0_3, hC.f0_4, hC.f0_5, hC.f0_6, hC.f0_7, hC.f0_8, hC.f0_9, hC.f0_10, hC.f0_11, hC.o1, hC.f1, hC.t2, hC.l2, hC.o3, hC.f3, hC.t4, hC.l4, hC.s5, hC.s12, hC.s19, hC.s112, hC.s119, hC.o26, hC.f26, hC.t27, hC.l27, hC.s28, hC.o126, hC.f126_0, hC.f126_1, hC.t127, hC.l127, hC.t128, hC.l128, hC.s129, hC.n157, hC.n161, hC.o165, hC.f165, hC.t166, hC.l166, hC.r167, hC.r171, hC.q5, hC.q12, hC.q19, hC.q112, hC.q119, hC.a2, hC.a4, hC.a27, hC.a127, hC.a128, hC, hpLevel, hL, e1, k4, k4n, k5, k5n, k6, a1, a2, n1, n2, m1, e2, e3, m2, Int.not_le.mpr m2, apBecomes, hT1, hT1.1, hs]
  refine ⟨by omega, fun σ1 b1 b2 b3 b4 b5 => ?_⟩
  have e126 : σ1 126 = σ 126 := b1 126 (by omega)
  simp [sg_78_45_1, hN _, x_iconst, x_ldc2_w, x_aconst_null, x_iload, x_lload, x_aload, x_istore, x_lstore, x_astore, x_iinc, x_iadd, x_isub, x_imul, x_idiv, x_irem, x_iand, x_ior, x_ixor, x_ishl, x_ishr, x_iushr, x_ineg, x_ladd, x_lsub, x_lmul, x_ldiv, x_lrem, x_lcmp, x_i2l, x_i2b, x_i2s, x_i2c, x_dup, x_pop, x_dup_x1, x_dup2, x_getfield, x_putfield, x_iaload, x_baload, x_saload, x_caload, x_daload, x_faload, x_laload, x_aaload, x_iastore, x_bastore, x_sastore, x_castore, x_lastore, x_aastore, x_arraylength, x_getstatic, x_goto, x_goto_w, x_ifCond, x_if_icmp, x_ifnull, x_ifnonnull, x_lookupswitch, x_invokevirtual, x_invokestatic, x_invokedynamic, x_ireturn, x_freturn, x_dreturn, x_lreturn, x_areturn, x_return_, pI_c, pL_c, pR_c, pV_i, pV_r, gI_c, gL_c, gR_c, pN_z, pN_s, lget_c, lins_z, lins_c, ldel_z, ldel_c, ldel2_z, ldel2_c, lset_i, lset_l, lset_r, lkeep_z, lkeep_c, largs_z, largs_c, cat_i, cat_l, cat_r, lkp_c, cnd_eq, cnd_ne, cnd_lt, cnd_ge, cnd_gt, cnd_le, swL_z, swL_c, rE_e, rOr_s, rOr_n, rlk_z, rlk_c, aR_c, aI_c, aII_c, aIII_c, aRI_c, aRII_c, aRIII_c, vJn, vJs, vlc, aRR_c, aRRI_c, aRRII_c, aRRIII_c, aRIIII_c, aRL_c, aRLL_c, aLL_c, aRRRI_c, aIL_c, aIIII_c, aRRIIII_c, aIRII_c, aIR_c, aLI_c, aRIR_c, aRIIR_c, hC.o0, hC.f0_0, hC.f0_1, hC.f0_2, hC.f0_3, hC.f0_4, hC.f0_5, hC.f0_6, hC.f0_7, hC.f0_8, hC.f0_9, hC.f0_10, hC.f0_11, hC.o1, hC.f1, hC.t2, hC.l2, hC.o3, hC.f3, hC.t4, hC.l4, hC.s5, hC.s12, hC.s19, hC.s112, hC.s119, hC.o26, hC.f26, hC.t27, hC.l27, hC.s28, hC.o126, hC.f126_0, hC.f126_1, hC.t127, hC.l127, hC.t128, hC.l128, hC.s129, hC.n157, hC.n161, hC.o165, hC.f165, hC.t166, hC.l166, hC.r167, hC.r171, hC.q5, hC.q12, hC.q19, hC.q112, hC.q119, hC.a2, hC.a4, hC.a27, hC.a127, hC.a128, hC, apStrikesTo, b2, b3, b5, b2.1.1, e126, hw, hb, h6, hkk]
  rintro σ2 ⟨c1, c2, c3, c4, c5⟩
  simp [sg_78_45_2, hN _, x_iconst, x_ldc2_w, x_aconst_null, x_iload, x_lload, x_aload, x_istore, x_lstore, x_astore, x_iinc, x_iadd, x_isub, x_imul, x_idiv, x_irem, x_iand, x_ior, x_ixor, x_ishl, x_ishr, x_iushr, x_ineg, x_ladd, x_lsub, x_lmul, x_ldiv, x_lrem, x_lcmp, x_i2l, x_i2b, x_i2s, x_i2c, x_dup, x_pop, x_dup_x1, x_dup2, x_getfield, x_putfield, x_iaload, x_baload, x_saload, x_caload, x_daload, x_faload, x_laload, x_aaload, x_iastore, x_bastore, x_sastore, x_castore, x_lastore, x_aastore, x_arraylength, x_getstatic, x_goto, x_goto_w, x_ifCond, x_if_icmp, x_ifnull, x_ifnonnull, x_lookupswitch, x_invokevirtual, x_invokestatic, x_invokedynamic, x_ireturn, x_freturn, x_dreturn, x_lreturn, x_areturn, x_return_, pI_c, pL_c, pR_c, pV_i, pV_r, gI_c, gL_c, gR_c, pN_z, pN_s, lget_c, lins_z, lins_c, ldel_z, ldel_c, ldel2_z, ldel2_c, lset_i, lset_l, lset_r, lkeep_z, lkeep_c, largs_z, largs_c, cat_i, cat_l, cat_r, lkp_c, cnd_eq, cnd_ne, cnd_lt, cnd_ge, cnd_gt, cnd_le, swL_z, swL_c, rE_e, rOr_s, rOr_n, rlk_z, rlk_c, aR_c, aI_c, aII_c, aIII_c, aRI_c, aRII_c, aRIII_c, vJn, vJs, vlc, aRR_c, aRRI_c, aRRII_c, aRRIII_c, aRIIII_c, aRL_c, aRLL_c, aLL_c, aRRRI_c, aIL_c, aIIII_c, aRRIIII_c, aIRII_c, aIR_c, aLI_c, aRIR_c, aRIIR_c, hC.o0, hC.f0_0, hC.f0_1, hC.f0_2, hC.f0_3, hC.f0_4, hC.f0_5, hC.f0_6, hC.f0_7, hC.f0_8, hC.f0_9, hC.f0_10, hC.f0_11, hC.o1, hC.f1, hC.t2, hC.l2, hC.o3, hC.f3, hC.t4, hC.l4, hC.s5, hC.s12, hC.s19, hC.s112, hC.s119, hC.o26, hC.f26, hC.t27, hC.l27, hC.s28, hC.o126, hC.f126_0, hC.f126_1, hC.t127, hC.l127, hC.t128, hC.l128, hC.s129, hC.n157, hC.n161, hC.o165, hC.f165, hC.t166, hC.l166, hC.r167, hC.r171, hC.q5, hC.q12, hC.q19, hC.q112, hC.q119, hC.a2, hC.a4, hC.a27, hC.a127, hC.a128, hC, spMin, spMax, e2, e3, m2, m3, m4, m5]
  refine h _ ⟨fun o ho ho' => ?_, ⟨?_, ?_, ?_, ?_⟩, ?_⟩
  · rw [up_ne ho', up_ne ho', c1 o (by omega), b1 o (by omega)]
  · rw [ok_up (by omega), ok_up (by omega)]; exact c2
  · rw [nS_up (by omega), nS_up (by omega), c3, b3]
  · rw [mS_up (by omega), mS_up (by omega), c4, b4]
  · rw [vw_up (by omega), vw_up (by omega), c5]
  · rw [up_r, up_r, c1 128 (by omega), b1 128 (by omega)]
