/-! StruckColours: rule, law -/
def txN (n : Nat) : Nat := if n = 0 then 7 else n
def txX (X : Int → Int) (n : Nat) : Nat → Int := if n = 0 then plX else fun p => X p
def rlR (X : Int → Int) (n : Nat) : Rs := rn (txX X n) (min (txN n) 40) (min (txN n) 40) (oP [] lv0)
def flR (X : Int → Int) (n : Nat) : Int := rdA (rlR X n) (txN n)
def rlE (X : Int → Int) (n : Nat) : Option Ex := match rlR X n with
  | .inl _ => none
  | .inr e => if 40 < txN n then none else some e
theorem rlE_f {X : Int → Int} {n : Nat} : (rlE X n = none → 0 ≤ flR X n ∧ flR X n ≤ 80) ∧ ∀ e, rlE X n = some e → flR X n = -1 ∧ rlR X n = .inr e ∧ txN n ≤ 40 := by
  have hb : ∀ q s w, rn (txX X n) (min (txN n) 40) q s = .inl w → w ≤ 40 := by
    intro q
    induction q with
    | zero =>
      intro s w h
      have h : endS (min (txN n) 40) s = .inl w := h
      match s, h with
      | .inl (_, _), h => cases h; omega
      | .inr ([], _, _, _), h => cases h
      | .inr (_ :: _, _, _, _), h => cases h; omega
    | succ q ih =>
      intro s w h
      have h : (match srT s (txX X n (min (txN n) 40 - (q + 1))) with | none => bD (min (txN n) 40 - (q + 1)) | some s' => rn (txX X n) (min (txN n) 40) q s') = .inl w := h
      split at h
      · cases h; omega
      · exact ih _ _ h
  unfold rlE flR
  cases hR : rlR X n with
  | inl w =>
    have := hb _ _ _ hR
    exact ⟨fun _ => ⟨by show (0 : Int) ≤ w; omega, by show (w : Int) ≤ 80; omega⟩, fun e he => by cases he⟩
  | inr e =>
    by_cases hn : 40 < txN n
    · refine ⟨fun _ => ?_, fun e he => ?_⟩
      · show 0 ≤ (if 40 < txN n then (40 : Int) else -1) ∧ (if 40 < txN n then (40 : Int) else -1) ≤ 80
        rw [if_pos hn]; omega
      · simp [hn] at he
    · refine ⟨fun he => ?_, fun e' he => ?_⟩
      · simp [hn] at he
      · simp [hn] at he
        subst he
        refine ⟨?_, rfl, by omega⟩
        show (if 40 < txN n then (40 : Int) else -1) = -1
        rw [if_neg hn]
/-- the other rule is read -/
def RoF (σ σ' : Mem) : Prop := (∀ o, o ≠ 1 → o ≠ σ 0 13 → o ≠ σ 0 13 + 1 → o ≠ σ 0 13 + 2 → σ' o = σ o) ∧ (∀ j, j ≠ 1 → σ' 1 j = σ 1 j) ∧ σ' 1 1 = 0
def fpRdO : Sp := fun as t σ Q => aR as fun a => a = 0 ∧ TC t ∧ TxOk σ ∧ (σ 0 13 = 167 ∨ σ 0 13 = 171) ∧ ∀ σ', RoF σ σ' → (∀ e, rlE (σ 2) (σ 1 1).toNat = some e → RuleIs t σ' (σ 0 13) (fun E => evE E e)) → Q (some (vI (flR (σ 2) (σ 1 1).toNat))) t σ'
abbrev rgRo : Reg := [(83, xpEmpties), (24, upReads)]
theorem rgRo_ok {l : Launch} {g : GE} {d : Nat} : ∀ e as t σ Q, rE l g (d + 5) rgRo e as t σ Q → WPc l g e (d + 5) 0 0 as t σ Q := rE_cons (fun _ _ _ _ h => x_empties h) (rE_cons (fun _ _ _ _ h => u_reads h) rE_nil)
theorem f_readsOther {l : Launch} {g : GE} {d : Nat} {t : Tau} {σ : Mem} {Q : Post} {as : List TV} (h0 : fpRdO as t σ Q) : WPc l g 137 (d + 6) 0 0 as t σ Q := by
  obtain ⟨a, rfl, rfl, hC, hT, hr, h⟩ := aR_e h0
  clear h0
  obtain ⟨⟨n0, n1⟩, hx⟩ := hT
  have hRt : RulT t (σ 0 13) := by
    rcases hr with e | e
    · rw [e]; exact hC.r167
    · rw [e]; exact hC.r171
  obtain ⟨n, hn⟩ : ∃ n : Nat, σ 1 1 = n := ⟨(σ 1 1).toNat, by omega⟩
  have hn' : (σ 1 1).toNat = n := by omega
  rw [hn'] at h
  have oR := hRt.1
  have fin : ∀ σ', rdP (rlR (σ 2) n) (txN n) t (up σ 1 1 0) σ' (σ 0 13) → Q (some (vI (flR (σ 2) n))) t σ' := fun σ' hp => by
    refine h σ' ⟨fun o a b c e => ?_, fun j hj => ?_, ?_⟩ (fun e he => ?_)
    · rw [hp.1 o b c e, up_ne a]
    · rw [hp.1 1 (by omega) (by omega) (by omega), up_ap, if_neg (fun z => hj z.2)]
    · rw [hp.1 1 (by omega) (by omega) (by omega)]; simp [up_ap]
    · obtain ⟨q1, q2, q3⟩ := rlE_f.2 e he
      have := hp.2
      rw [q2] at this
      exact this q3
  have h13 : up σ 1 1 0 0 13 = σ 0 13 := by rw [up_ne (by omega)]
  refine wg (by decide) rgRo_ok ts_137 py_137 ml_137 30 (by simp [catT]) (fun N hN => ?_)
  by_cases hz : n = 0
  · have ez : σ 1 1 = 0 := by omega
    have el : sLen g 2 = 7 := rfl
    simp [bs_137, sg_137_0_1, hN _, x_iconst, x_ldc2_w, x_aconst_null, x_iload, x_lload, x_aload, x_istore, x_lstore, x_astore, x_iinc, x_iadd, x_isub, x_imul, x_idiv, x_irem, x_iand, x_ior, x_ixor, x_ishl, x_ishr, x_iushr, x_ineg, x_ladd, x_lsub, x_lmul, x_ldiv, x_lrem, x_lcmp, x_i2l, x_i2b, x_i2s, x_i2c, x_dup, x_pop, x_dup_x1, x_dup2, x_getfield, x_putfield, x_iaload, x_baload, x_saload, x_caload, x_daload, x_faload, x_laload, x_aaload, x_iastore, x_bastore, x_sastore, x_castore, x_lastore, x_aastore, x_arraylength, x_getstatic, x_goto, x_goto_w, x_ifCond, x_if_icmp, x_ifnull, x_ifnonnull, x_lookupswitch, x_invokevirtual, x_invokestatic, x_invokedynamic, x_ireturn, x_freturn, x_dreturn, x_lreturn, x_areturn, x_return_, pI_c, pL_c, pR_c, pV_i, pV_r, gI_c, gL_c, gR_c, pN_z, pN_s, lget_c, lins_z, lins_c, ldel_z, ldel_c, ldel2_z, ldel2_c, lset_i, lset_l, lset_r, lkeep_z, lkeep_c, largs_z, largs_c, cat_i, cat_l, cat_r, lkp_c, cnd_eq, cnd_ne, cnd_lt, cnd_ge, cnd_gt, cnd_le, swL_z, swL_c, rE_e, rOr_s, rOr_n, rlk_z, rlk_c, aR_c, aI_c, aII_c, aIII_c, aRI_c, aRII_c, aRIII_c, vJn, vJs, vlc, aRR_c, aRRI_c, aRRII_c, aRRIII_c, aRIIII_c, aRL_c, aRLL_c, aLL_c, aRRRI_c, aIL_c, aIIII_c, aRRIIII_c, aIRII_c, aIR_c, aLI_c, aRIR_c, aRIIR_c, hC.o0, hC.f0_0, hC.f0_1, hC.f0_2, hC.f0_3, hC.f0_4, hC.f0_5, hC.f0_6, hC.f0_7, hC.f0_8, hC.f0_9, hC.f0_10, hC.f0_11, hC.o1, hC.f1, hC.t2, hC.l2, hC.o3, hC.f3, hC.t4, hC.l4, hC.s5, hC.s12, hC.s19, hC.s112, hC.s119, hC.o26, hC.f26, hC.t27, hC.l27, hC.s28, hC.o126, hC.f126_0, hC.f126_1, hC.t127, hC.l127, hC.t128, hC.l128, hC.s129, hC.n157, hC.n161, hC.o165, hC.f165, hC.t166, hC.l166, hC.r167, hC.r171, hC.q5, hC.q12, hC.q19, hC.q112, hC.q119, hC.a2, hC.a4, hC.a27, hC.a127, hC.a128, hC, xpEmpties, ez, h13, oR, el]
    refine ⟨hRt, ⟨by omega, by omega, by omega⟩, 7, plX, rfl, ⟨Or.inl ⟨rfl, rfl, rfl⟩, fun p hp => ?_⟩, fun σ' hp => ?_⟩
    · rcases (show p = 0 ∨ p = 1 ∨ p = 2 ∨ p = 3 ∨ p = 4 ∨ p = 5 ∨ p = 6 by omega) with rfl | rfl | rfl | rfl | rfl | rfl | rfl <;> decide
    · have e1 : txN n = 7 := by unfold txN; rw [if_pos hz]
      have e2 : rlR (σ 2) n = rn plX (min 7 40) (min 7 40) (oP [] lv0) := by unfold rlR txX; rw [e1, if_pos hz]
      have K := fin σ' (by rw [e1, e2]; exact hp)
      unfold flR at K
      rw [e1, e2] at K
      simp [sg_137_0_2, sg_137_0_1, sg_137_27_1, hN _, x_iconst, x_ldc2_w, x_aconst_null, x_iload, x_lload, x_aload, x_istore, x_lstore, x_astore, x_iinc, x_iadd, x_isub, x_imul, x_idiv, x_irem, x_iand, x_ior, x_ixor, x_ishl, x_ishr, x_iushr, x_ineg, x_ladd, x_lsub, x_lmul, x_ldiv, x_lrem, x_lcmp, x_i2l, x_i2b, x_i2s, x_i2c, x_dup, x_pop, x_dup_x1, x_dup2, x_getfield, x_putfield, x_iaload, x_baload, x_saload, x_caload, x_daload, x_faload, x_laload, x_aaload, x_iastore, x_bastore, x_sastore, x_castore, x_lastore, x_aastore, x_arraylength, x_getstatic, x_goto, x_goto_w, x_ifCond, x_if_icmp, x_ifnull, x_ifnonnull, x_lookupswitch, x_invokevirtual, x_invokestatic, x_invokedynamic, x_ireturn, x_freturn, x_dreturn, x_lreturn, x_areturn, x_return_, pI_c, pL_c, pR_c, pV_i, pV_r, gI_c, gL_c, gR_c, pN_z, pN_s, lget_c, lins_z, lins_c, ldel_z, ldel_c, ldel2_z, ldel2_c, lset_i, lset_l, lset_r, lkeep_z, lkeep_c, largs_z, largs_c, cat_i, cat_l, cat_r, lkp_c, cnd_eq, cnd_ne, cnd_lt, cnd_ge, cnd_gt, cnd_le, swL_z, swL_c, rE_e, rOr_s, rOr_n, rlk_z, rlk_c, aR_c, aI_c, aII_c, aIII_c, aRI_c, aRII_c, aRIII_c, vJn, vJs, vlc, aRR_c, aRRI_c, aRRII_c, aRRIII_c, aRIIII_c, aRL_c, aRLL_c, aLL_c, aRRRI_c, aIL_c, aIIII_c, aRRIIII_c, aIRII_c, aIR_c, aLI_c, aRIR_c, aRIIR_c]
      exact K
  · have ez : ¬ σ 1 1 = 0 := by omega
    simp [bs_137, sg_137_0_1, hN _, x_iconst, x_ldc2_w, x_aconst_null, x_iload, x_lload, x_aload, x_istore, x_lstore, x_astore, x_iinc, x_iadd, x_isub, x_imul, x_idiv, x_irem, x_iand, x_ior, x_ixor, x_ishl, x_ishr, x_iushr, x_ineg, x_ladd, x_lsub, x_lmul, x_ldiv, x_lrem, x_lcmp, x_i2l, x_i2b, x_i2s, x_i2c, x_dup, x_pop, x_dup_x1, x_dup2, x_getfield, x_putfield, x_iaload, x_baload, x_saload, x_caload, x_daload, x_faload, x_laload, x_aaload, x_iastore, x_bastore, x_sastore, x_castore, x_lastore, x_aastore, x_arraylength, x_getstatic, x_goto, x_goto_w, x_ifCond, x_if_icmp, x_ifnull, x_ifnonnull, x_lookupswitch, x_invokevirtual, x_invokestatic, x_invokedynamic, x_ireturn, x_freturn, x_dreturn, x_lreturn, x_areturn, x_return_, pI_c, pL_c, pR_c, pV_i, pV_r, gI_c, gL_c, gR_c, pN_z, pN_s, lget_c, lins_z, lins_c, ldel_z, ldel_c, ldel2_z, ldel2_c, lset_i, lset_l, lset_r, lkeep_z, lkeep_c, largs_z, largs_c, cat_i, cat_l, cat_r, lkp_c, cnd_eq, cnd_ne, cnd_lt, cnd_ge, cnd_gt, cnd_le, swL_z, swL_c, rE_e, rOr_s, rOr_n, rlk_z, rlk_c, aR_c, aI_c, aII_c, aIII_c, aRI_c, aRII_c, aRIII_c, vJn, vJs, vlc, aRR_c, aRRI_c, aRRII_c, aRRIII_c, aRIIII_c, aRL_c, aRLL_c, aLL_c, aRRRI_c, aIL_c, aIIII_c, aRRIIII_c, aIRII_c, aIR_c, aLI_c, aRIR_c, aRIIR_c, hC.o0, hC.f0_0, hC.f0_1, hC.f0_2, hC.f0_3, hC.f0_4, hC.f0_5, hC.f0_6, hC.f0_7, hC.f0_8, hC.f0_9, hC.f0_10, hC.f0_11, hC.o1, hC.f1, hC.t2, hC.l2, hC.o3, hC.f3, hC.t4, hC.l4, hC.s5, hC.s12, hC.s19, hC.s112, hC.s119, hC.o26, hC.f26, hC.t27, hC.l27, hC.s28, hC.o126, hC.f126_0, hC.f126_1, hC.t127, hC.l127, hC.t128, hC.l128, hC.s129, hC.n157, hC.n161, hC.o165, hC.f165, hC.t166, hC.l166, hC.r167, hC.r171, hC.q5, hC.q12, hC.q19, hC.q112, hC.q119, hC.a2, hC.a4, hC.a27, hC.a127, hC.a128, hC, xpEmpties, ez, h13, oR, hn, hz]
    refine ⟨hRt, ⟨by omega, by omega, by omega⟩, n, fun p => σ 2 p, rfl, ⟨Or.inr ⟨hC.t2, hC.l2, by omega, fun p hp => by rw [up_ne (by omega)]⟩, fun p hp => hx p (by omega) (by omega)⟩, fun σ' hp => ?_⟩
    have e1 : txN n = n := by unfold txN; rw [if_neg hz]
    have e2 : rlR (σ 2) n = rn (fun p => σ 2 p) (min n 40) (min n 40) (oP [] lv0) := by unfold rlR txX; rw [e1, if_neg hz]
    have K := fin σ' (by rw [e1, e2]; exact hp)
    unfold flR at K
    rw [e1, e2] at K
    simp [sg_137_0_2, sg_137_0_1, sg_137_27_1, hN _, x_iconst, x_ldc2_w, x_aconst_null, x_iload, x_lload, x_aload, x_istore, x_lstore, x_astore, x_iinc, x_iadd, x_isub, x_imul, x_idiv, x_irem, x_iand, x_ior, x_ixor, x_ishl, x_ishr, x_iushr, x_ineg, x_ladd, x_lsub, x_lmul, x_ldiv, x_lrem, x_lcmp, x_i2l, x_i2b, x_i2s, x_i2c, x_dup, x_pop, x_dup_x1, x_dup2, x_getfield, x_putfield, x_iaload, x_baload, x_saload, x_caload, x_daload, x_faload, x_laload, x_aaload, x_iastore, x_bastore, x_sastore, x_castore, x_lastore, x_aastore, x_arraylength, x_getstatic, x_goto, x_goto_w, x_ifCond, x_if_icmp, x_ifnull, x_ifnonnull, x_lookupswitch, x_invokevirtual, x_invokestatic, x_invokedynamic, x_ireturn, x_freturn, x_dreturn, x_lreturn, x_areturn, x_return_, pI_c, pL_c, pR_c, pV_i, pV_r, gI_c, gL_c, gR_c, pN_z, pN_s, lget_c, lins_z, lins_c, ldel_z, ldel_c, ldel2_z, ldel2_c, lset_i, lset_l, lset_r, lkeep_z, lkeep_c, largs_z, largs_c, cat_i, cat_l, cat_r, lkp_c, cnd_eq, cnd_ne, cnd_lt, cnd_ge, cnd_gt, cnd_le, swL_z, swL_c, rE_e, rOr_s, rOr_n, rlk_z, rlk_c, aR_c, aI_c, aII_c, aIII_c, aRI_c, aRII_c, aRIII_c, vJn, vJs, vlc, aRR_c, aRRI_c, aRRII_c, aRRIII_c, aRIIII_c, aRL_c, aRLL_c, aLL_c, aRRRI_c, aIL_c, aIIII_c, aRRIIII_c, aIRII_c, aIR_c, aLI_c, aRIR_c, aRIIR_c]
    exact K
