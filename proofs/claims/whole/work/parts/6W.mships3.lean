/-! the reference: ships -/
abbrev rgShi : Reg := (180, mpBeT) :: (188, mpWas) :: (186, mpOne) :: rgPb
theorem rgShi_ok {l : Launch} {g : GE} {d : Nat} : ∀ e as t σ Q, rE l g (d + 5) rgShi e as t σ Q → WPc l g e (d + 5) 0 0 as t σ Q := rE_cons (fun _ _ _ _ h => m_beginText (d := d + 3) h) (rE_cons (fun _ _ _ _ h => m_wasRight (d := d + 2) h) (rE_cons (fun _ _ _ _ h => m_oneOf (d := d + 2) h) (rgPb_ok (d := d + 3))))
set_option maxHeartbeats 2000000 in
/-- the lines are read: from σ1 on, n ships, the text T of len signs -/
theorem m_shRead {l : Launch} {g : GE} {d : Nat} {t : Tau} {σ : Mem} {Q : Post} {σ1 : Mem} {T : Int → Int} {n len : Nat} (hX : PaX t σ1 T (min len 17) len) (hlen : 0 < len) (hn : σ1 175 1 = (n : Int)) (n6 : n ≤ 6)
    (hbad : ∀ σ', PxF σ1 σ' → fltS n T len ≠ -1 → Q (some (vI (-1 - fltS n T len))) t σ')
    (hok : ∀ σ' L, PxF σ1 σ' → fltS n T len = -1 → L = (len + 1) / 3 → n + L ≤ 6 → (∀ j : Nat, j < L → σ' 180 (2 * j : Nat) = jnS T j ∧ σ' 180 (2 * j + 1 : Nat) = jnM T j) → Wp l g 189 (d + 6) 0 0 121 [(0, vR 175), (1, vI L), (3, vI (0 : Nat))] [] t σ' Q)
    : ∀ (r k : Nat) (σ' : Mem), n + k + r = 6 → 3 * k ≤ min len 17 → (∀ p, p < 3 * k → stS n T p = true) → PxF σ1 σ' → σ' 175 13 = -1 → σ' 175 12 = (3 * k : Nat) → (∀ j : Nat, j < k → σ' 180 (2 * j : Nat) = jnS T j ∧ σ' 180 (2 * j + 1 : Nat) = jnM T j) → Wp l g 189 (d + 6) 0 0 24 [(0, vR 175), (1, vI k), (2, vI 1)] [] t σ' Q := by
  have hM := hX.1
  have oM := hM.o
  have l80 := hX.2.2.2.1
  have w01 : w32 1 = 1 := w32_id (by omega) (by omega)
  -- it was wrong at w
  have X1 : ∀ (σ' : Mem) (m : Int) (w p : Nat), PxF σ1 σ' → σ' 175 13 = w → σ' 175 12 = p → p ≤ min len 17 → fltS n T len = w → Wp l g 189 (d + 6) 0 0 24 [(0, vR 175), (1, vI m), (2, vI 0)] [] t σ' Q := by
    intro σ' m w p f hw hp hpl hf
    obtain ⟨hP, hB, -⟩ := (f.c hX).ps hp hpl
    have n1 : ¬ σ' 175 13 = -1 := by omega
    have hwr : wrM σ' = σ' := by unfold wrM; rw [if_neg (fun z => n1 z.2)]
    have fb := flt_b (n := n) (T := T) (len := len)
    have w1 : w32 (-1 - (w : Int)) = -1 - w := w32_id (by omega) (by omega)
    have K := hbad σ' f (by omega)
    rw [hf] at K
    have nw : ¬ (w : Int) = -1 := by omega
    refine wa (by decide) rgShi_ok ts_189 30 (fun N hN => ?_)
    simp [bs_189, sg_189_0_1, sg_189_24_1, sg_189_57_3, sg_189_57_2, sg_189_57_1, sg_189_92_1, sg_189_105_1, hN _, x_iconst, x_ldc2_w, x_aconst_null, x_iload, x_lload, x_aload, x_istore, x_lstore, x_astore, x_iinc, x_iadd, x_isub, x_imul, x_idiv, x_irem, x_iand, x_ior, x_ixor, x_ishl, x_ishr, x_iushr, x_ineg, x_ladd, x_lsub, x_lmul, x_ldiv, x_lrem, x_lcmp, x_i2l, x_i2b, x_i2s, x_i2c, x_dup, x_pop, x_dup_x1, x_dup2, x_getfield, x_putfield, x_iaload, x_baload, x_saload, x_caload, x_daload, x_faload, x_laload, x_aaload, x_iastore, x_bastore, x_sastore, x_castore, x_lastore, x_aastore, x_arraylength, x_getstatic, x_goto, x_goto_w, x_ifCond, x_if_icmp, x_ifnull, x_ifnonnull, x_lookupswitch, x_invokevirtual, x_invokestatic, x_invokedynamic, x_ireturn, x_freturn, x_dreturn, x_lreturn, x_areturn, x_return_, pI_c, pL_c, pR_c, pV_i, pV_r, gI_c, gL_c, gR_c, pN_z, pN_s, lget_c, lins_z, lins_c, ldel_z, ldel_c, ldel2_z, ldel2_c, lset_i, lset_l, lset_r, lkeep_z, lkeep_c, largs_z, largs_c, cat_i, cat_l, cat_r, lkp_c, cnd_eq, cnd_ne, cnd_lt, cnd_ge, cnd_gt, cnd_le, swL_z, swL_c, rE_e, rOr_s, rOr_n, rlk_z, rlk_c, aR_c, aI_c, aII_c, aIII_c, aRI_c, aRII_c, aRIII_c, vJn, vJs, vlc, aRR_c, aRRI_c, aRRII_c, aRRIII_c, aRIIII_c, aRL_c, aRLL_c, aLL_c, aRRRI_c, aIL_c, aIIII_c, aRRIIII_c, aIRII_c, aIR_c, aLI_c, aRIR_c, aRIIR_c, oM, mpWas, hP, hwr, hw, nw, w1]
    exact K
  -- a text that was right, up to its end or a sign that is not ;
  have X2 : ∀ (σ' : Mem) (k : Nat), n + k < 6 → 3 * k + 2 ≤ min len 17 → (∀ p, p < 3 * k + 2 → stS n T p = true) → (3 * k + 2 < min len 17 → T (3 * k + 2 : Nat) ≠ 59) → PxF σ1 σ' → σ' 175 13 = -1 → σ' 175 12 = (3 * k + 2 : Nat) → (∀ j : Nat, j < k + 1 → σ' 180 (2 * j : Nat) = jnS T j ∧ σ' 180 (2 * j + 1 : Nat) = jnM T j) → Wp l g 189 (d + 6) 0 0 24 [(0, vR 175), (1, vI (k + 1 : Nat)), (2, vI 0)] [] t σ' Q := by
    intro σ' k hk hl hS h59 f hw hp hc
    obtain ⟨hP, hB, -⟩ := (f.c hX).ps hp hl
    have e10 : σ' 175 10 = len := (f.c hX).2.2.1
    by_cases c1 : 3 * k + 2 < len
    · have hwr : wrM σ' = up σ' 175 13 (3 * k + 2 : Nat) := by unfold wrM; rw [if_pos ⟨by rw [hp, e10]; omega, hw⟩, hp]
      have hf : fltS n T len = (3 * k + 2 : Nat) := by
        by_cases c2 : 3 * k + 2 < min len 17
        · exact flt_hit c2 hS (by unfold stS; rw [if_neg (by omega), if_neg (by omega)]; exact decide_eq_false (h59 c2))
        · rw [flt_end (fun j hj => hS j (by omega)), if_neg (by omega), if_pos (by omega)]; omega
      have K := hbad (up σ' 175 13 (3 * k + 2 : Nat)) (f.tr PxF.wr) (by omega)
      rw [hf] at K
      have w1 : w32 (-1 - ((3 * k + 2 : Nat) : Int)) = -1 - ((3 * k + 2 : Nat) : Int) := w32_id (by omega) (by omega)
      generalize 3 * k + 2 = w at hwr w1 K
      have nw : ¬ (w : Int) = -1 := by omega
      refine wa (by decide) rgShi_ok ts_189 30 (fun N hN => ?_)
      simp [bs_189, sg_189_0_1, sg_189_24_1, sg_189_57_3, sg_189_57_2, sg_189_57_1, sg_189_92_1, sg_189_105_1, hN _, x_iconst, x_ldc2_w, x_aconst_null, x_iload, x_lload, x_aload, x_istore, x_lstore, x_astore, x_iinc, x_iadd, x_isub, x_imul, x_idiv, x_irem, x_iand, x_ior, x_ixor, x_ishl, x_ishr, x_iushr, x_ineg, x_ladd, x_lsub, x_lmul, x_ldiv, x_lrem, x_lcmp, x_i2l, x_i2b, x_i2s, x_i2c, x_dup, x_pop, x_dup_x1, x_dup2, x_getfield, x_putfield, x_iaload, x_baload, x_saload, x_caload, x_daload, x_faload, x_laload, x_aaload, x_iastore, x_bastore, x_sastore, x_castore, x_lastore, x_aastore, x_arraylength, x_getstatic, x_goto, x_goto_w, x_ifCond, x_if_icmp, x_ifnull, x_ifnonnull, x_lookupswitch, x_invokevirtual, x_invokestatic, x_invokedynamic, x_ireturn, x_freturn, x_dreturn, x_lreturn, x_areturn, x_return_, pI_c, pL_c, pR_c, pV_i, pV_r, gI_c, gL_c, gR_c, pN_z, pN_s, lget_c, lins_z, lins_c, ldel_z, ldel_c, ldel2_z, ldel2_c, lset_i, lset_l, lset_r, lkeep_z, lkeep_c, largs_z, largs_c, cat_i, cat_l, cat_r, lkp_c, cnd_eq, cnd_ne, cnd_lt, cnd_ge, cnd_gt, cnd_le, swL_z, swL_c, rE_e, rOr_s, rOr_n, rlk_z, rlk_c, aR_c, aI_c, aII_c, aIII_c, aRI_c, aRII_c, aRIII_c, vJn, vJs, vlc, aRR_c, aRRI_c, aRRII_c, aRRIII_c, aRIIII_c, aRL_c, aRLL_c, aLL_c, aRRRI_c, aIL_c, aIIII_c, aRRIIII_c, aIRII_c, aIR_c, aLI_c, aRIR_c, aRIIR_c, oM, mpWas, hP, hwr, up_ap, nw, w1]
      exact K
    · have hwr : wrM σ' = σ' := by unfold wrM; rw [if_neg (fun z => c1 (by have := z.1; rw [hp, e10] at this; omega))]
      have hf : fltS n T len = -1 := by rw [flt_end (fun j hj => hS j (by omega)), if_neg (by omega), if_neg (by omega)]
      have K := hok σ' (k + 1) f hf (by omega) (by omega) hc
      refine wa (by decide) rgShi_ok ts_189 30 (fun N hN => ?_)
      simp [bs_189, sg_189_0_1, sg_189_24_1, sg_189_57_3, sg_189_57_2, sg_189_57_1, sg_189_92_1, sg_189_105_1, hN _, x_iconst, x_ldc2_w, x_aconst_null, x_iload, x_lload, x_aload, x_istore, x_lstore, x_astore, x_iinc, x_iadd, x_isub, x_imul, x_idiv, x_irem, x_iand, x_ior, x_ixor, x_ishl, x_ishr, x_iushr, x_ineg, x_ladd, x_lsub, x_lmul, x_ldiv, x_lrem, x_lcmp, x_i2l, x_i2b, x_i2s, x_i2c, x_dup, x_pop, x_dup_x1, x_dup2, x_getfield, x_putfield, x_iaload, x_baload, x_saload, x_caload, x_daload, x_faload, x_laload, x_aaload, x_iastore, x_bastore, x_sastore, x_castore, x_lastore, x_aastore, x_arraylength, x_getstatic, x_goto, x_goto_w, x_ifCond, x_if_icmp, x_ifnull, x_ifnonnull, x_lookupswitch, x_invokevirtual, x_invokestatic, x_invokedynamic, x_ireturn, x_freturn, x_dreturn, x_lreturn, x_areturn, x_return_, pI_c, pL_c, pR_c, pV_i, pV_r, gI_c, gL_c, gR_c, pN_z, pN_s, lget_c, lins_z, lins_c, ldel_z, ldel_c, ldel2_z, ldel2_c, lset_i, lset_l, lset_r, lkeep_z, lkeep_c, largs_z, largs_c, cat_i, cat_l, cat_r, lkp_c, cnd_eq, cnd_ne, cnd_lt, cnd_ge, cnd_gt, cnd_le, swL_z, swL_c, rE_e, rOr_s, rOr_n, rlk_z, rlk_c, aR_c, aI_c, aII_c, aIII_c, aRI_c, aRII_c, aRIII_c, vJn, vJs, vlc, aRR_c, aRRI_c, aRRII_c, aRRIII_c, aRIIII_c, aRL_c, aRLL_c, aLL_c, aRRRI_c, aIL_c, aIIII_c, aRRIIII_c, aIRII_c, aIR_c, aLI_c, aRIR_c, aRIIR_c, oM, mpWas, hP, hwr, hw]
      simpa using K
  intro r
  induction r with
  | zero =>
    intro k σ' hk hl hS f hw hp hc
    obtain ⟨hP, hB, hh⟩ := (f.c hX).ps hp hl
    have hf : fltS n T len = (3 * k : Nat) := by
      by_cases c1 : 3 * k < min len 17
      · exact flt_hit c1 hS (by unfold stS; rw [if_pos (by omega)]; exact decide_eq_false (fun z => by have := z.2; omega))
      · rw [flt_end (fun j hj => hS j (by omega)), if_pos (by omega)]; congr 1; omega
    have z1 : σ' 175 1 = n := by rw [f.2 1 (by omega) (by omega)]; exact hn
    have w6 : w32 ((n : Int) + k) = 6 := by rw [w32_id (by omega) (by omega)]; omega
    have e2 := w32_succ (k := k) (by omega)
    have f2 := f.tr (PxF.wr (σ := σ') (x := (3 * k : Nat)))
    have K := X1 (up σ' 175 13 (3 * k : Nat)) ((k + 1 : Nat) : Int) (3 * k) (3 * k) f2 (by simp [up_ap]) (by simp [up_ap, hp]) hl hf
    obtain ⟨hP2, -, -⟩ := (f2.c hX).ps (p := 3 * k) (by simp [up_ap, hp]) hl
    have nw : ¬ ((3 * k : Nat) : Int) = -1 := by omega
    generalize 3 * k = w at hp K hP2 nw
    refine wa (by decide) rgShi_ok ts_189 30 (fun N hN => ?_)
    simp [bs_189, sg_189_0_1, sg_189_24_1, sg_189_57_3, sg_189_57_2, sg_189_57_1, sg_189_92_1, sg_189_105_1, hN _, x_iconst, x_ldc2_w, x_aconst_null, x_iload, x_lload, x_aload, x_istore, x_lstore, x_astore, x_iinc, x_iadd, x_isub, x_imul, x_idiv, x_irem, x_iand, x_ior, x_ixor, x_ishl, x_ishr, x_iushr, x_ineg, x_ladd, x_lsub, x_lmul, x_ldiv, x_lrem, x_lcmp, x_i2l, x_i2b, x_i2s, x_i2c, x_dup, x_pop, x_dup_x1, x_dup2, x_getfield, x_putfield, x_iaload, x_baload, x_saload, x_caload, x_daload, x_faload, x_laload, x_aaload, x_iastore, x_bastore, x_sastore, x_castore, x_lastore, x_aastore, x_arraylength, x_getstatic, x_goto, x_goto_w, x_ifCond, x_if_icmp, x_ifnull, x_ifnonnull, x_lookupswitch, x_invokevirtual, x_invokestatic, x_invokedynamic, x_ireturn, x_freturn, x_dreturn, x_lreturn, x_areturn, x_return_, pI_c, pL_c, pR_c, pV_i, pV_r, gI_c, gL_c, gR_c, pN_z, pN_s, lget_c, lins_z, lins_c, ldel_z, ldel_c, ldel2_z, ldel2_c, lset_i, lset_l, lset_r, lkeep_z, lkeep_c, largs_z, largs_c, cat_i, cat_l, cat_r, lkp_c, cnd_eq, cnd_ne, cnd_lt, cnd_ge, cnd_gt, cnd_le, swL_z, swL_c, rE_e, rOr_s, rOr_n, rlk_z, rlk_c, aR_c, aI_c, aII_c, aIII_c, aRI_c, aRII_c, aRIII_c, vJn, vJs, vlc, aRR_c, aRRI_c, aRRII_c, aRRIII_c, aRIIII_c, aRL_c, aRLL_c, aLL_c, aRRRI_c, aIL_c, aIIII_c, aRRIIII_c, aIRII_c, aIR_c, aLI_c, aRIR_c, aRIIR_c, oM, hM, mpFine, mpFault, mpPass, hw, hp, z1, w6, e2, hP2, up_ap, nw]
    exact K
  | succ r ih =>
    intro k σ' hk hl hS f hw hp hc
    obtain ⟨hP, hB, hh⟩ := (f.c hX).ps hp hl
    have z1 : σ' 175 1 = n := by rw [f.2 1 (by omega) (by omega)]; exact hn
    have w6 : ¬ w32 ((n : Int) + k) = 6 := by rw [w32_id (by omega) (by omega)]; omega
    have e2 := w32_succ (k := k) (by omega)
    have w2k : w32 (2 * (k : Int)) = 2 * k := w32_id (by omega) (by omega)
    have w2k1 : w32 (2 * (k : Int) + 1) = 2 * k + 1 := w32_id (by omega) (by omega)
    have b2k : 0 ≤ 2 * (k : Int) ∧ 2 * (k : Int) < 12 ∧ 0 ≤ 2 * (k : Int) + 1 ∧ 2 * (k : Int) + 1 < 12 := by omega
    by_cases a1 : 3 * k < min len 17 ∧ (97 ≤ T (3 * k : Nat) ∧ T (3 * k : Nat) < 101)
    · obtain ⟨a1, a2, a3⟩ := a1
      have hh' : hrS σ' (σ' 175 12) = T (3 * k : Nat) := by rw [hh, if_pos a1]
      have hm : oneM σ' 97 4 = up σ' 175 12 (σ' 175 12 + 1) := by unfold oneM; rw [if_pos hw, if_pos (by rw [hh']; omega)]
      have ha : oneA σ' 97 4 = jnS T k := by unfold oneA; rw [if_pos ⟨hw, by rw [hh']; omega⟩, hh']; rfl
      generalize hσ2 : up (up σ' 175 12 (σ' 175 12 + 1)) 180 (2 * (k : Int)) (jnS T k) = σ2
      have f2 : PxF σ1 σ2 := by rw [← hσ2]; exact (f.tr PxF.at).tr PxF.co
      have g13 : σ2 175 13 = -1 := by rw [← hσ2]; simp [up_ap, hw]
      have g12 : σ2 175 12 = (3 * k + 1 : Nat) := by rw [← hσ2, up_ne (by omega), up_ap, if_pos ⟨rfl, rfl⟩, hp]; omega
      have c2 : ∀ j : Nat, j < k → σ2 180 (2 * j : Nat) = jnS T j ∧ σ2 180 (2 * j + 1 : Nat) = jnM T j := fun j hj => by
        obtain ⟨q1, q2⟩ := hc j hj
        refine ⟨?_, ?_⟩
        · rw [← hσ2, up_ap, if_neg (by omega), up_ne (by omega)]; exact q1
        · rw [← hσ2, up_ap, if_neg (by omega), up_ne (by omega)]; exact q2
      have c2k : σ2 180 (2 * (k : Int)) = jnS T k := by rw [← hσ2]; simp [up_ap]
      have l1 : 3 * k + 1 ≤ min len 17 := by omega
      obtain ⟨hP2, hB2, hh2⟩ := (f2.c hX).ps g12 l1
      have st0 : stS n T (3 * k) = true := by unfold stS; rw [if_pos (by omega)]; exact decide_eq_true ⟨by omega, by omega⟩
      refine wa (by decide) rgShi_ok ts_189 30 (fun N hN => ?_)
      simp [bs_189, hN _, x_iconst, x_ldc2_w, x_aconst_null, x_iload, x_lload, x_aload, x_istore, x_lstore, x_astore, x_iinc, x_iadd, x_isub, x_imul, x_idiv, x_irem, x_iand, x_ior, x_ixor, x_ishl, x_ishr, x_iushr, x_ineg, x_ladd, x_lsub, x_lmul, x_ldiv, x_lrem, x_lcmp, x_i2l, x_i2b, x_i2s, x_i2c, x_dup, x_pop, x_dup_x1, x_dup2, x_getfield, x_putfield, x_iaload, x_baload, x_saload, x_caload, x_daload, x_faload, x_laload, x_aaload, x_iastore, x_bastore, x_sastore, x_castore, x_lastore, x_aastore, x_arraylength, x_getstatic, x_goto, x_goto_w, x_ifCond, x_if_icmp, x_ifnull, x_ifnonnull, x_lookupswitch, x_invokevirtual, x_invokestatic, x_invokedynamic, x_ireturn, x_freturn, x_dreturn, x_lreturn, x_areturn, x_return_, pI_c, pL_c, pR_c, pV_i, pV_r, gI_c, gL_c, gR_c, pN_z, pN_s, lget_c, lins_z, lins_c, ldel_z, ldel_c, ldel2_z, ldel2_c, lset_i, lset_l, lset_r, lkeep_z, lkeep_c, largs_z, largs_c, cat_i, cat_l, cat_r, lkp_c, cnd_eq, cnd_ne, cnd_lt, cnd_ge, cnd_gt, cnd_le, swL_z, swL_c, rE_e, rOr_s, rOr_n, rlk_z, rlk_c, aR_c, aI_c, aII_c, aIII_c, aRI_c, aRII_c, aRIII_c, vJn, vJs, vlc, aRR_c, aRRI_c, aRRII_c, aRRIII_c, aRIIII_c, aRL_c, aRLL_c, aLL_c, aRRRI_c, aIL_c, aIIII_c, aRRIIII_c, aIRII_c, aIR_c, aLI_c, aRIR_c, aRIIR_c, oM, hM, hM.f14, mpFine, hw, z1, w6, w2k, mpOne, hP, hB, hm, ha]
      by_cases b1 : 3 * k + 1 < min len 17 ∧ (49 ≤ T (3 * k + 1 : Nat) ∧ T (3 * k + 1 : Nat) < 58)
      · obtain ⟨b1, b2, b3⟩ := b1
        have hh3 : hrS σ2 (σ2 175 12) = T (3 * k + 1 : Nat) := by rw [hh2, if_pos b1]
        have hm2 : oneM σ2 49 9 = up σ2 175 12 (σ2 175 12 + 1) := by unfold oneM; rw [if_pos g13, if_pos (by rw [hh3]; omega)]
        obtain ⟨u, hu⟩ : ∃ u, u = T (3 * k + 1 : Nat) - 49 := ⟨_, rfl⟩
        have ha2 : oneA σ2 49 9 = u := by unfold oneA; rw [if_pos ⟨g13, by rw [hh3]; omega⟩, hh3, hu]
        have wm : w32 (u + 1) = jnM T k := by rw [w32_id (by omega) (by omega)]; unfold jnM; omega
        generalize hσ3 : up (up σ2 175 12 (σ2 175 12 + 1)) 180 (2 * (k : Int) + 1) (jnM T k) = σ3
        have f3 : PxF σ1 σ3 := by rw [← hσ3]; exact (f2.tr PxF.at).tr PxF.co
        have g133 : σ3 175 13 = -1 := by rw [← hσ3]; simp [up_ap, g13]
        have g123 : σ3 175 12 = (3 * k + 2 : Nat) := by rw [← hσ3, up_ne (by omega), up_ap, if_pos ⟨rfl, rfl⟩, g12]; omega
        have c3 : ∀ j : Nat, j < k + 1 → σ3 180 (2 * j : Nat) = jnS T j ∧ σ3 180 (2 * j + 1 : Nat) = jnM T j := fun j hj => by
          by_cases hz : j = k
          · subst hz
            refine ⟨?_, ?_⟩
            · rw [← hσ3, up_ap, if_neg (by omega), up_ne (by omega)]
              have := c2k
              rwa [show ((2 * j : Nat) : Int) = 2 * (j : Int) by omega]
            · rw [← hσ3, up_ap, if_pos ⟨rfl, by omega⟩]
          · obtain ⟨q1, q2⟩ := c2 j (by omega)
            refine ⟨?_, ?_⟩
            · rw [← hσ3, up_ap, if_neg (by omega), up_ne (by omega)]; exact q1
            · rw [← hσ3, up_ap, if_neg (by omega), up_ne (by omega)]; exact q2
        have l2 : 3 * k + 2 ≤ min len 17 := by omega
        obtain ⟨hP3, hB3, hh4⟩ := (f3.c hX).ps g123 l2
        have st1 : ∀ p, p < 3 * k + 2 → stS n T p = true := fun p hp' => by
          by_cases y1 : p < 3 * k
          · exact hS p y1
          · by_cases y2 : p = 3 * k
            · rw [y2]; exact st0
            · obtain rfl : p = 3 * k + 1 := by omega
              unfold stS; rw [if_neg (by omega), if_pos (by omega)]; exact decide_eq_true ⟨by omega, by omega⟩
        simp [sg_189_57_1, hN _, x_iconst, x_ldc2_w, x_aconst_null, x_iload, x_lload, x_aload, x_istore, x_lstore, x_astore, x_iinc, x_iadd, x_isub, x_imul, x_idiv, x_irem, x_iand, x_ior, x_ixor, x_ishl, x_ishr, x_iushr, x_ineg, x_ladd, x_lsub, x_lmul, x_ldiv, x_lrem, x_lcmp, x_i2l, x_i2b, x_i2s, x_i2c, x_dup, x_pop, x_dup_x1, x_dup2, x_getfield, x_putfield, x_iaload, x_baload, x_saload, x_caload, x_daload, x_faload, x_laload, x_aaload, x_iastore, x_bastore, x_sastore, x_castore, x_lastore, x_aastore, x_arraylength, x_getstatic, x_goto, x_goto_w, x_ifCond, x_if_icmp, x_ifnull, x_ifnonnull, x_lookupswitch, x_invokevirtual, x_invokestatic, x_invokedynamic, x_ireturn, x_freturn, x_dreturn, x_lreturn, x_areturn, x_return_, pI_c, pL_c, pR_c, pV_i, pV_r, gI_c, gL_c, gR_c, pN_z, pN_s, lget_c, lins_z, lins_c, ldel_z, ldel_c, ldel2_z, ldel2_c, lset_i, lset_l, lset_r, lkeep_z, lkeep_c, largs_z, largs_c, cat_i, cat_l, cat_r, lkp_c, cnd_eq, cnd_ne, cnd_lt, cnd_ge, cnd_gt, cnd_le, swL_z, swL_c, rE_e, rOr_s, rOr_n, rlk_z, rlk_c, aR_c, aI_c, aII_c, aIII_c, aRI_c, aRII_c, aRIII_c, vJn, vJs, vlc, aRR_c, aRRI_c, aRRII_c, aRRIII_c, aRIIII_c, aRL_c, aRLL_c, aLL_c, aRRRI_c, aIL_c, aIIII_c, aRRIIII_c, aIRII_c, aIR_c, aLI_c, aRIR_c, aRIIR_c, oM, hM.f14, hM.t180, hM.l180, b2k, hσ2, w2k, w2k1, mpOne, hP2, hB2, hm2, ha2]
        by_cases d1 : 3 * k + 2 < min len 17 ∧ T (3 * k + 2 : Nat) = 59
        · obtain ⟨d1, d2⟩ := d1
          have hh5 : hrS σ3 (σ3 175 12) = 59 := by rw [hh4, if_pos d1, d2]
          have K := ih (k + 1) (up σ3 175 12 (σ3 175 12 + 1)) (by omega) (by omega) (fun p hp' => by
            by_cases y1 : p < 3 * k + 2
            · exact st1 p y1
            · obtain rfl : p = 3 * k + 2 := by omega
              unfold stS; rw [if_neg (by omega), if_neg (by omega)]; exact decide_eq_true d2) (f3.tr PxF.at) (by simp [up_ap, g133]) (by rw [up_ap, if_pos ⟨rfl, rfl⟩, g123]; omega) (fun j hj => by rw [up_ne (by omega)]; exact c3 j hj)
          simp [sg_189_57_2, hN _, x_iconst, x_ldc2_w, x_aconst_null, x_iload, x_lload, x_aload, x_istore, x_lstore, x_astore, x_iinc, x_iadd, x_isub, x_imul, x_idiv, x_irem, x_iand, x_ior, x_ixor, x_ishl, x_ishr, x_iushr, x_ineg, x_ladd, x_lsub, x_lmul, x_ldiv, x_lrem, x_lcmp, x_i2l, x_i2b, x_i2s, x_i2c, x_dup, x_pop, x_dup_x1, x_dup2, x_getfield, x_putfield, x_iaload, x_baload, x_saload, x_caload, x_daload, x_faload, x_laload, x_aaload, x_iastore, x_bastore, x_sastore, x_castore, x_lastore, x_aastore, x_arraylength, x_getstatic, x_goto, x_goto_w, x_ifCond, x_if_icmp, x_ifnull, x_ifnonnull, x_lookupswitch, x_invokevirtual, x_invokestatic, x_invokedynamic, x_ireturn, x_freturn, x_dreturn, x_lreturn, x_areturn, x_return_, pI_c, pL_c, pR_c, pV_i, pV_r, gI_c, gL_c, gR_c, pN_z, pN_s, lget_c, lins_z, lins_c, ldel_z, ldel_c, ldel2_z, ldel2_c, lset_i, lset_l, lset_r, lkeep_z, lkeep_c, largs_z, largs_c, cat_i, cat_l, cat_r, lkp_c, cnd_eq, cnd_ne, cnd_lt, cnd_ge, cnd_gt, cnd_le, swL_z, swL_c, rE_e, rOr_s, rOr_n, rlk_z, rlk_c, aR_c, aI_c, aII_c, aIII_c, aRI_c, aRII_c, aRIII_c, vJn, vJs, vlc, aRR_c, aRRI_c, aRRII_c, aRRIII_c, aRIIII_c, aRL_c, aRLL_c, aLL_c, aRRRI_c, aIL_c, aIIII_c, aRRIIII_c, aIRII_c, aIR_c, aLI_c, aRIR_c, aRIIR_c, oM, hM.t180, hM.l180, b2k, e2, wm, hσ3, mpPass, hP3, g133, hh5]
          simp [sg_189_57_3, bs_189, hN _, x_iconst, x_ldc2_w, x_aconst_null, x_iload, x_lload, x_aload, x_istore, x_lstore, x_astore, x_iinc, x_iadd, x_isub, x_imul, x_idiv, x_irem, x_iand, x_ior, x_ixor, x_ishl, x_ishr, x_iushr, x_ineg, x_ladd, x_lsub, x_lmul, x_ldiv, x_lrem, x_lcmp, x_i2l, x_i2b, x_i2s, x_i2c, x_dup, x_pop, x_dup_x1, x_dup2, x_getfield, x_putfield, x_iaload, x_baload, x_saload, x_caload, x_daload, x_faload, x_laload, x_aaload, x_iastore, x_bastore, x_sastore, x_castore, x_lastore, x_aastore, x_arraylength, x_getstatic, x_goto, x_goto_w, x_ifCond, x_if_icmp, x_ifnull, x_ifnonnull, x_lookupswitch, x_invokevirtual, x_invokestatic, x_invokedynamic, x_ireturn, x_freturn, x_dreturn, x_lreturn, x_areturn, x_return_, pI_c, pL_c, pR_c, pV_i, pV_r, gI_c, gL_c, gR_c, pN_z, pN_s, lget_c, lins_z, lins_c, ldel_z, ldel_c, ldel2_z, ldel2_c, lset_i, lset_l, lset_r, lkeep_z, lkeep_c, largs_z, largs_c, cat_i, cat_l, cat_r, lkp_c, cnd_eq, cnd_ne, cnd_lt, cnd_ge, cnd_gt, cnd_le, swL_z, swL_c, rE_e, rOr_s, rOr_n, rlk_z, rlk_c, aR_c, aI_c, aII_c, aIII_c, aRI_c, aRII_c, aRIII_c, vJn, vJs, vlc, aRR_c, aRRI_c, aRRII_c, aRRIII_c, aRIIII_c, aRL_c, aRLL_c, aLL_c, aRRRI_c, aIL_c, aIIII_c, aRRIIII_c, aIRII_c, aIR_c, aLI_c, aRIR_c, aRIIR_c]
          exact K
        · have hh5 : ¬ hrS σ3 (σ3 175 12) = 59 := by
            rw [hh4]
            split
            · rename_i c; exact fun z => d1 ⟨c, z⟩
            · omega
          have K := X2 σ3 k (by omega) l2 st1 (fun c z => d1 ⟨c, z⟩) f3 g133 g123 c3
          simp [sg_189_57_2, hN _, x_iconst, x_ldc2_w, x_aconst_null, x_iload, x_lload, x_aload, x_istore, x_lstore, x_astore, x_iinc, x_iadd, x_isub, x_imul, x_idiv, x_irem, x_iand, x_ior, x_ixor, x_ishl, x_ishr, x_iushr, x_ineg, x_ladd, x_lsub, x_lmul, x_ldiv, x_lrem, x_lcmp, x_i2l, x_i2b, x_i2s, x_i2c, x_dup, x_pop, x_dup_x1, x_dup2, x_getfield, x_putfield, x_iaload, x_baload, x_saload, x_caload, x_daload, x_faload, x_laload, x_aaload, x_iastore, x_bastore, x_sastore, x_castore, x_lastore, x_aastore, x_arraylength, x_getstatic, x_goto, x_goto_w, x_ifCond, x_if_icmp, x_ifnull, x_ifnonnull, x_lookupswitch, x_invokevirtual, x_invokestatic, x_invokedynamic, x_ireturn, x_freturn, x_dreturn, x_lreturn, x_areturn, x_return_, pI_c, pL_c, pR_c, pV_i, pV_r, gI_c, gL_c, gR_c, pN_z, pN_s, lget_c, lins_z, lins_c, ldel_z, ldel_c, ldel2_z, ldel2_c, lset_i, lset_l, lset_r, lkeep_z, lkeep_c, largs_z, largs_c, cat_i, cat_l, cat_r, lkp_c, cnd_eq, cnd_ne, cnd_lt, cnd_ge, cnd_gt, cnd_le, swL_z, swL_c, rE_e, rOr_s, rOr_n, rlk_z, rlk_c, aR_c, aI_c, aII_c, aIII_c, aRI_c, aRII_c, aRIII_c, vJn, vJs, vlc, aRR_c, aRRI_c, aRRII_c, aRRIII_c, aRIIII_c, aRL_c, aRLL_c, aLL_c, aRRRI_c, aIL_c, aIIII_c, aRRIIII_c, aIRII_c, aIR_c, aLI_c, aRIR_c, aRIIR_c, oM, hM.t180, hM.l180, b2k, e2, wm, hσ3, mpPass, hP3, g133, hh5]
          simp [sg_189_57_3, bs_189, hN _, x_iconst, x_ldc2_w, x_aconst_null, x_iload, x_lload, x_aload, x_istore, x_lstore, x_astore, x_iinc, x_iadd, x_isub, x_imul, x_idiv, x_irem, x_iand, x_ior, x_ixor, x_ishl, x_ishr, x_iushr, x_ineg, x_ladd, x_lsub, x_lmul, x_ldiv, x_lrem, x_lcmp, x_i2l, x_i2b, x_i2s, x_i2c, x_dup, x_pop, x_dup_x1, x_dup2, x_getfield, x_putfield, x_iaload, x_baload, x_saload, x_caload, x_daload, x_faload, x_laload, x_aaload, x_iastore, x_bastore, x_sastore, x_castore, x_lastore, x_aastore, x_arraylength, x_getstatic, x_goto, x_goto_w, x_ifCond, x_if_icmp, x_ifnull, x_ifnonnull, x_lookupswitch, x_invokevirtual, x_invokestatic, x_invokedynamic, x_ireturn, x_freturn, x_dreturn, x_lreturn, x_areturn, x_return_, pI_c, pL_c, pR_c, pV_i, pV_r, gI_c, gL_c, gR_c, pN_z, pN_s, lget_c, lins_z, lins_c, ldel_z, ldel_c, ldel2_z, ldel2_c, lset_i, lset_l, lset_r, lkeep_z, lkeep_c, largs_z, largs_c, cat_i, cat_l, cat_r, lkp_c, cnd_eq, cnd_ne, cnd_lt, cnd_ge, cnd_gt, cnd_le, swL_z, swL_c, rE_e, rOr_s, rOr_n, rlk_z, rlk_c, aR_c, aI_c, aII_c, aIII_c, aRI_c, aRII_c, aRIII_c, vJn, vJs, vlc, aRR_c, aRRI_c, aRRII_c, aRRIII_c, aRIIII_c, aRL_c, aRLL_c, aLL_c, aRRRI_c, aIL_c, aIIII_c, aRRIIII_c, aIRII_c, aIR_c, aLI_c, aRIR_c, aRIIR_c]
          exact K
      · have hf : fltS n T len = (3 * k + 1 : Nat) := by
          have hS1 : ∀ p, p < 3 * k + 1 → stS n T p = true := fun p hp' => by
            by_cases y1 : p < 3 * k
            · exact hS p y1
            · obtain rfl : p = 3 * k := by omega
              exact st0
          by_cases c1 : 3 * k + 1 < min len 17
          · exact flt_hit c1 hS1 (by unfold stS; rw [if_neg (by omega), if_pos (by omega)]; exact decide_eq_false (fun z => b1 ⟨c1, by omega⟩))
          · rw [flt_end (fun j hj => hS1 j (by omega)), if_pos (by omega)]; congr 1; omega
        have hna : ¬ (49 ≤ hrS σ2 (σ2 175 12) ∧ hrS σ2 (σ2 175 12) < 49 + 9) := by
          rw [hh2]
          split
          · rename_i c; exact fun z => b1 ⟨c, by omega⟩
          · omega
        have hm2 : oneM σ2 49 9 = up σ2 175 13 (σ2 175 12) := by unfold oneM; rw [if_pos g13, if_neg hna]
        have ha2 : oneA σ2 49 9 = 0 := by unfold oneA; rw [if_neg (fun z => hna z.2)]
        have f3 : PxF σ1 (up (up σ2 175 13 (σ2 175 12)) 180 (2 * (k : Int) + 1) 1) := (f2.tr PxF.wr).tr PxF.co
        have g133 : up (up σ2 175 13 (σ2 175 12)) 180 (2 * (k : Int) + 1) 1 175 13 = (3 * k + 1 : Nat) := by rw [up_ne (by omega), up_ap, if_pos ⟨rfl, rfl⟩, g12]
        have g123 : up (up σ2 175 13 (σ2 175 12)) 180 (2 * (k : Int) + 1) 1 175 12 = (3 * k + 1 : Nat) := by rw [up_ne (by omega), up_ap, if_neg (by omega), g12]
        obtain ⟨hP3, -, -⟩ := (f3.c hX).ps g123 l1
        have K := X1 _ ((k + 1 : Nat) : Int) (3 * k + 1) (3 * k + 1) f3 g133 g123 l1 hf
        have n133 : ¬ up (up σ2 175 13 (σ2 175 12)) 180 (2 * (k : Int) + 1) 1 175 13 = -1 := by omega
        generalize hσ3 : up (up σ2 175 13 (σ2 175 12)) 180 (2 * (k : Int) + 1) 1 = σ3 at hP3 K n133
        simp [sg_189_57_1, hN _, x_iconst, x_ldc2_w, x_aconst_null, x_iload, x_lload, x_aload, x_istore, x_lstore, x_astore, x_iinc, x_iadd, x_isub, x_imul, x_idiv, x_irem, x_iand, x_ior, x_ixor, x_ishl, x_ishr, x_iushr, x_ineg, x_ladd, x_lsub, x_lmul, x_ldiv, x_lrem, x_lcmp, x_i2l, x_i2b, x_i2s, x_i2c, x_dup, x_pop, x_dup_x1, x_dup2, x_getfield, x_putfield, x_iaload, x_baload, x_saload, x_caload, x_daload, x_faload, x_laload, x_aaload, x_iastore, x_bastore, x_sastore, x_castore, x_lastore, x_aastore, x_arraylength, x_getstatic, x_goto, x_goto_w, x_ifCond, x_if_icmp, x_ifnull, x_ifnonnull, x_lookupswitch, x_invokevirtual, x_invokestatic, x_invokedynamic, x_ireturn, x_freturn, x_dreturn, x_lreturn, x_areturn, x_return_, pI_c, pL_c, pR_c, pV_i, pV_r, gI_c, gL_c, gR_c, pN_z, pN_s, lget_c, lins_z, lins_c, ldel_z, ldel_c, ldel2_z, ldel2_c, lset_i, lset_l, lset_r, lkeep_z, lkeep_c, largs_z, largs_c, cat_i, cat_l, cat_r, lkp_c, cnd_eq, cnd_ne, cnd_lt, cnd_ge, cnd_gt, cnd_le, swL_z, swL_c, rE_e, rOr_s, rOr_n, rlk_z, rlk_c, aR_c, aI_c, aII_c, aIII_c, aRI_c, aRII_c, aRIII_c, vJn, vJs, vlc, aRR_c, aRRI_c, aRRII_c, aRRIII_c, aRIIII_c, aRL_c, aRLL_c, aLL_c, aRRRI_c, aIL_c, aIIII_c, aRRIIII_c, aIRII_c, aIR_c, aLI_c, aRIR_c, aRIIR_c, oM, hM.f14, hM.t180, hM.l180, b2k, hσ2, w2k, w2k1, mpOne, hP2, hB2, hm2, ha2]
        simp [sg_189_57_2, hN _, x_iconst, x_ldc2_w, x_aconst_null, x_iload, x_lload, x_aload, x_istore, x_lstore, x_astore, x_iinc, x_iadd, x_isub, x_imul, x_idiv, x_irem, x_iand, x_ior, x_ixor, x_ishl, x_ishr, x_iushr, x_ineg, x_ladd, x_lsub, x_lmul, x_ldiv, x_lrem, x_lcmp, x_i2l, x_i2b, x_i2s, x_i2c, x_dup, x_pop, x_dup_x1, x_dup2, x_getfield, x_putfield, x_iaload, x_baload, x_saload, x_caload, x_daload, x_faload, x_laload, x_aaload, x_iastore, x_bastore, x_sastore, x_castore, x_lastore, x_aastore, x_arraylength, x_getstatic, x_goto, x_goto_w, x_ifCond, x_if_icmp, x_ifnull, x_ifnonnull, x_lookupswitch, x_invokevirtual, x_invokestatic, x_invokedynamic, x_ireturn, x_freturn, x_dreturn, x_lreturn, x_areturn, x_return_, pI_c, pL_c, pR_c, pV_i, pV_r, gI_c, gL_c, gR_c, pN_z, pN_s, lget_c, lins_z, lins_c, ldel_z, ldel_c, ldel2_z, ldel2_c, lset_i, lset_l, lset_r, lkeep_z, lkeep_c, largs_z, largs_c, cat_i, cat_l, cat_r, lkp_c, cnd_eq, cnd_ne, cnd_lt, cnd_ge, cnd_gt, cnd_le, swL_z, swL_c, rE_e, rOr_s, rOr_n, rlk_z, rlk_c, aR_c, aI_c, aII_c, aIII_c, aRI_c, aRII_c, aRIII_c, vJn, vJs, vlc, aRR_c, aRRI_c, aRRII_c, aRRIII_c, aRIIII_c, aRL_c, aRLL_c, aLL_c, aRRRI_c, aIL_c, aIIII_c, aRRIIII_c, aIRII_c, aIR_c, aLI_c, aRIR_c, aRIIR_c, oM, hM.t180, hM.l180, b2k, e2, w01, hσ3, mpPass, hP3, n133]
        simp [sg_189_57_3, bs_189, hN _, x_iconst, x_ldc2_w, x_aconst_null, x_iload, x_lload, x_aload, x_istore, x_lstore, x_astore, x_iinc, x_iadd, x_isub, x_imul, x_idiv, x_irem, x_iand, x_ior, x_ixor, x_ishl, x_ishr, x_iushr, x_ineg, x_ladd, x_lsub, x_lmul, x_ldiv, x_lrem, x_lcmp, x_i2l, x_i2b, x_i2s, x_i2c, x_dup, x_pop, x_dup_x1, x_dup2, x_getfield, x_putfield, x_iaload, x_baload, x_saload, x_caload, x_daload, x_faload, x_laload, x_aaload, x_iastore, x_bastore, x_sastore, x_castore, x_lastore, x_aastore, x_arraylength, x_getstatic, x_goto, x_goto_w, x_ifCond, x_if_icmp, x_ifnull, x_ifnonnull, x_lookupswitch, x_invokevirtual, x_invokestatic, x_invokedynamic, x_ireturn, x_freturn, x_dreturn, x_lreturn, x_areturn, x_return_, pI_c, pL_c, pR_c, pV_i, pV_r, gI_c, gL_c, gR_c, pN_z, pN_s, lget_c, lins_z, lins_c, ldel_z, ldel_c, ldel2_z, ldel2_c, lset_i, lset_l, lset_r, lkeep_z, lkeep_c, largs_z, largs_c, cat_i, cat_l, cat_r, lkp_c, cnd_eq, cnd_ne, cnd_lt, cnd_ge, cnd_gt, cnd_le, swL_z, swL_c, rE_e, rOr_s, rOr_n, rlk_z, rlk_c, aR_c, aI_c, aII_c, aIII_c, aRI_c, aRII_c, aRIII_c, vJn, vJs, vlc, aRR_c, aRRI_c, aRRII_c, aRRIII_c, aRIIII_c, aRL_c, aRLL_c, aLL_c, aRRRI_c, aIL_c, aIIII_c, aRRIIII_c, aIRII_c, aIR_c, aLI_c, aRIR_c, aRIIR_c]
        exact K
    · have hf : fltS n T len = (3 * k : Nat) := by
        by_cases c1 : 3 * k < min len 17
        · exact flt_hit c1 hS (by unfold stS; rw [if_pos (by omega)]; exact decide_eq_false (fun z => a1 ⟨c1, by have := z.1; omega⟩))
        · rw [flt_end (fun j hj => hS j (by omega)), if_pos (by omega)]; congr 1; omega
      have hna : ¬ (97 ≤ hrS σ' (σ' 175 12) ∧ hrS σ' (σ' 175 12) < 97 + 4) := by
        rw [hh]
        split
        · rename_i c; exact fun z => a1 ⟨c, by omega⟩
        · omega
      have hm : oneM σ' 97 4 = up σ' 175 13 (σ' 175 12) := by unfold oneM; rw [if_pos hw, if_neg hna]
      have ha : oneA σ' 97 4 = 0 := by unfold oneA; rw [if_neg (fun z => hna z.2)]
      generalize hσ2 : up (up σ' 175 13 (σ' 175 12)) 180 (2 * (k : Int)) 0 = σ2
      have f2 : PxF σ1 σ2 := by rw [← hσ2]; exact (f.tr PxF.wr).tr PxF.co
      have g13 : σ2 175 13 = (3 * k : Nat) := by rw [← hσ2]; simp [up_ap, hp]
      have g12 : σ2 175 12 = (3 * k : Nat) := by rw [← hσ2]; simp [up_ap, hp]
      have n13 : ¬ σ2 175 13 = -1 := by omega
      obtain ⟨hP2, hB2, -⟩ := (f2.c hX).ps g12 hl
      have hm2 : oneM σ2 49 9 = σ2 := by unfold oneM; rw [if_neg n13]
      have ha2 : oneA σ2 49 9 = 0 := by unfold oneA; rw [if_neg (fun z => n13 z.1)]
      have f3 : PxF σ1 (up σ2 180 (2 * (k : Int) + 1) 1) := f2.tr PxF.co
      have g133 : up σ2 180 (2 * (k : Int) + 1) 1 175 13 = (3 * k : Nat) := by rw [up_ne (by omega)]; exact g13
      have g123 : up σ2 180 (2 * (k : Int) + 1) 1 175 12 = (3 * k : Nat) := by rw [up_ne (by omega)]; exact g12
      obtain ⟨hP3, -, -⟩ := (f3.c hX).ps g123 hl
      have K := X1 _ ((k + 1 : Nat) : Int) (3 * k) (3 * k) f3 g133 g123 hl hf
      have n133 : ¬ up σ2 180 (2 * (k : Int) + 1) 1 175 13 = -1 := by omega
      refine wa (by decide) rgShi_ok ts_189 30 (fun N hN => ?_)
      simp [bs_189, hN _, x_iconst, x_ldc2_w, x_aconst_null, x_iload, x_lload, x_aload, x_istore, x_lstore, x_astore, x_iinc, x_iadd, x_isub, x_imul, x_idiv, x_irem, x_iand, x_ior, x_ixor, x_ishl, x_ishr, x_iushr, x_ineg, x_ladd, x_lsub, x_lmul, x_ldiv, x_lrem, x_lcmp, x_i2l, x_i2b, x_i2s, x_i2c, x_dup, x_pop, x_dup_x1, x_dup2, x_getfield, x_putfield, x_iaload, x_baload, x_saload, x_caload, x_daload, x_faload, x_laload, x_aaload, x_iastore, x_bastore, x_sastore, x_castore, x_lastore, x_aastore, x_arraylength, x_getstatic, x_goto, x_goto_w, x_ifCond, x_if_icmp, x_ifnull, x_ifnonnull, x_lookupswitch, x_invokevirtual, x_invokestatic, x_invokedynamic, x_ireturn, x_freturn, x_dreturn, x_lreturn, x_areturn, x_return_, pI_c, pL_c, pR_c, pV_i, pV_r, gI_c, gL_c, gR_c, pN_z, pN_s, lget_c, lins_z, lins_c, ldel_z, ldel_c, ldel2_z, ldel2_c, lset_i, lset_l, lset_r, lkeep_z, lkeep_c, largs_z, largs_c, cat_i, cat_l, cat_r, lkp_c, cnd_eq, cnd_ne, cnd_lt, cnd_ge, cnd_gt, cnd_le, swL_z, swL_c, rE_e, rOr_s, rOr_n, rlk_z, rlk_c, aR_c, aI_c, aII_c, aIII_c, aRI_c, aRII_c, aRIII_c, vJn, vJs, vlc, aRR_c, aRRI_c, aRRII_c, aRRIII_c, aRIIII_c, aRL_c, aRLL_c, aLL_c, aRRRI_c, aIL_c, aIIII_c, aRRIIII_c, aIRII_c, aIR_c, aLI_c, aRIR_c, aRIIR_c, oM, hM, hM.f14, mpFine, hw, z1, w6, w2k, mpOne, hP, hB, hm, ha]
      simp [sg_189_57_1, hN _, x_iconst, x_ldc2_w, x_aconst_null, x_iload, x_lload, x_aload, x_istore, x_lstore, x_astore, x_iinc, x_iadd, x_isub, x_imul, x_idiv, x_irem, x_iand, x_ior, x_ixor, x_ishl, x_ishr, x_iushr, x_ineg, x_ladd, x_lsub, x_lmul, x_ldiv, x_lrem, x_lcmp, x_i2l, x_i2b, x_i2s, x_i2c, x_dup, x_pop, x_dup_x1, x_dup2, x_getfield, x_putfield, x_iaload, x_baload, x_saload, x_caload, x_daload, x_faload, x_laload, x_aaload, x_iastore, x_bastore, x_sastore, x_castore, x_lastore, x_aastore, x_arraylength, x_getstatic, x_goto, x_goto_w, x_ifCond, x_if_icmp, x_ifnull, x_ifnonnull, x_lookupswitch, x_invokevirtual, x_invokestatic, x_invokedynamic, x_ireturn, x_freturn, x_dreturn, x_lreturn, x_areturn, x_return_, pI_c, pL_c, pR_c, pV_i, pV_r, gI_c, gL_c, gR_c, pN_z, pN_s, lget_c, lins_z, lins_c, ldel_z, ldel_c, ldel2_z, ldel2_c, lset_i, lset_l, lset_r, lkeep_z, lkeep_c, largs_z, largs_c, cat_i, cat_l, cat_r, lkp_c, cnd_eq, cnd_ne, cnd_lt, cnd_ge, cnd_gt, cnd_le, swL_z, swL_c, rE_e, rOr_s, rOr_n, rlk_z, rlk_c, aR_c, aI_c, aII_c, aIII_c, aRI_c, aRII_c, aRIII_c, vJn, vJs, vlc, aRR_c, aRRI_c, aRRII_c, aRRIII_c, aRIIII_c, aRL_c, aRLL_c, aLL_c, aRRRI_c, aIL_c, aIIII_c, aRRIIII_c, aIRII_c, aIR_c, aLI_c, aRIR_c, aRIIR_c, oM, hM.f14, hM.t180, hM.l180, b2k, hσ2, w2k, w2k1, mpOne, hP2, hB2, hm2, ha2]
      simp [sg_189_57_2, hN _, x_iconst, x_ldc2_w, x_aconst_null, x_iload, x_lload, x_aload, x_istore, x_lstore, x_astore, x_iinc, x_iadd, x_isub, x_imul, x_idiv, x_irem, x_iand, x_ior, x_ixor, x_ishl, x_ishr, x_iushr, x_ineg, x_ladd, x_lsub, x_lmul, x_ldiv, x_lrem, x_lcmp, x_i2l, x_i2b, x_i2s, x_i2c, x_dup, x_pop, x_dup_x1, x_dup2, x_getfield, x_putfield, x_iaload, x_baload, x_saload, x_caload, x_daload, x_faload, x_laload, x_aaload, x_iastore, x_bastore, x_sastore, x_castore, x_lastore, x_aastore, x_arraylength, x_getstatic, x_goto, x_goto_w, x_ifCond, x_if_icmp, x_ifnull, x_ifnonnull, x_lookupswitch, x_invokevirtual, x_invokestatic, x_invokedynamic, x_ireturn, x_freturn, x_dreturn, x_lreturn, x_areturn, x_return_, pI_c, pL_c, pR_c, pV_i, pV_r, gI_c, gL_c, gR_c, pN_z, pN_s, lget_c, lins_z, lins_c, ldel_z, ldel_c, ldel2_z, ldel2_c, lset_i, lset_l, lset_r, lkeep_z, lkeep_c, largs_z, largs_c, cat_i, cat_l, cat_r, lkp_c, cnd_eq, cnd_ne, cnd_lt, cnd_ge, cnd_gt, cnd_le, swL_z, swL_c, rE_e, rOr_s, rOr_n, rlk_z, rlk_c, aR_c, aI_c, aII_c, aIII_c, aRI_c, aRII_c, aRIII_c, vJn, vJs, vlc, aRR_c, aRRI_c, aRRII_c, aRRIII_c, aRIIII_c, aRL_c, aRLL_c, aLL_c, aRRRI_c, aIL_c, aIIII_c, aRRIIII_c, aIRII_c, aIR_c, aLI_c, aRIR_c, aRIIR_c, oM, hM.t180, hM.l180, b2k, e2, w01, mpPass, hP3, n133]
      simp [sg_189_57_3, bs_189, hN _, x_iconst, x_ldc2_w, x_aconst_null, x_iload, x_lload, x_aload, x_istore, x_lstore, x_astore, x_iinc, x_iadd, x_isub, x_imul, x_idiv, x_irem, x_iand, x_ior, x_ixor, x_ishl, x_ishr, x_iushr, x_ineg, x_ladd, x_lsub, x_lmul, x_ldiv, x_lrem, x_lcmp, x_i2l, x_i2b, x_i2s, x_i2c, x_dup, x_pop, x_dup_x1, x_dup2, x_getfield, x_putfield, x_iaload, x_baload, x_saload, x_caload, x_daload, x_faload, x_laload, x_aaload, x_iastore, x_bastore, x_sastore, x_castore, x_lastore, x_aastore, x_arraylength, x_getstatic, x_goto, x_goto_w, x_ifCond, x_if_icmp, x_ifnull, x_ifnonnull, x_lookupswitch, x_invokevirtual, x_invokestatic, x_invokedynamic, x_ireturn, x_freturn, x_dreturn, x_lreturn, x_areturn, x_return_, pI_c, pL_c, pR_c, pV_i, pV_r, gI_c, gL_c, gR_c, pN_z, pN_s, lget_c, lins_z, lins_c, ldel_z, ldel_c, ldel2_z, ldel2_c, lset_i, lset_l, lset_r, lkeep_z, lkeep_c, largs_z, largs_c, cat_i, cat_l, cat_r, lkp_c, cnd_eq, cnd_ne, cnd_lt, cnd_ge, cnd_gt, cnd_le, swL_z, swL_c, rE_e, rOr_s, rOr_n, rlk_z, rlk_c, aR_c, aI_c, aII_c, aIII_c, aRI_c, aRII_c, aRIII_c, vJn, vJs, vlc, aRR_c, aRRI_c, aRRII_c, aRRIII_c, aRIIII_c, aRL_c, aRLL_c, aLL_c, aRRRI_c, aIL_c, aIIII_c, aRRIIII_c, aIRII_c, aIR_c, aLI_c, aRIR_c, aRIIR_c]
      exact K
