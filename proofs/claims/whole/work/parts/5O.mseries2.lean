/-! the reference: series -/
def mpPow : Sp := fun as t σ Q => aLI as fun b e => (0 ≤ b ∧ b ≤ 10) ∧ (0 ≤ e ∧ e ≤ 15) ∧ Q (some (vL (pwI b e))) t σ
theorem m_power {l : Launch} {g : GE} {d : Nat} {t : Tau} {σ : Mem} {Q : Post} {as : List TV} (h0 : mpPow as t σ Q) : WPc l g 269 (d + 1) 0 0 as t σ Q := by
  obtain ⟨b', e', rfl, hb, he, h⟩ := aLI_e h0
  clear h0
  obtain ⟨b, rfl⟩ : ∃ n : Nat, b' = n := ⟨b'.toNat, by omega⟩
  obtain ⟨e, rfl⟩ : ∃ n : Nat, e' = n := ⟨e'.toNat, by omega⟩
  rw [pwI_n] at h
  have K : Wp l g 269 (d + 1) 0 0 5 [(0, vL b), (2, vI e), (3, vL (b ^ 0 : Nat)), (5, vI (0 : Nat))] [] t σ Q := by
    refine lpU (P := fun i => Wp l g 269 (d + 1) 0 0 5 [(0, vL b), (2, vI e), (3, vL (b ^ i : Nat)), (5, vI i)] [] t σ Q) (n := e) ?_ (fun i hi K => ?_)
    · refine wa (by decide) rE_nil tk_269 30 (fun N hN => ?_)
      simp [bl_269, hN _, x_iconst, x_ldc2_w, x_aconst_null, x_iload, x_lload, x_aload, x_istore, x_lstore, x_astore, x_iinc, x_iadd, x_isub, x_imul, x_idiv, x_irem, x_iand, x_ior, x_ixor, x_ishl, x_ishr, x_iushr, x_ineg, x_ladd, x_lsub, x_lmul, x_ldiv, x_lrem, x_lcmp, x_i2l, x_i2b, x_i2s, x_i2c, x_dup, x_pop, x_dup_x1, x_dup2, x_getfield, x_putfield, x_iaload, x_baload, x_saload, x_caload, x_daload, x_faload, x_laload, x_aaload, x_iastore, x_bastore, x_sastore, x_castore, x_lastore, x_aastore, x_arraylength, x_getstatic, x_goto, x_goto_w, x_ifCond, x_if_icmp, x_ifnull, x_ifnonnull, x_lookupswitch, x_invokevirtual, x_invokestatic, x_invokedynamic, x_ireturn, x_freturn, x_dreturn, x_lreturn, x_areturn, x_return_, pI_c, pL_c, pR_c, pV_i, pV_r, gI_c, gL_c, gR_c, pN_z, pN_s, lget_c, lins_z, lins_c, ldel_z, ldel_c, ldel2_z, ldel2_c, lset_i, lset_l, lset_r, lkeep_z, lkeep_c, largs_z, largs_c, cat_i, cat_l, cat_r, lkp_c, cnd_eq, cnd_ne, cnd_lt, cnd_ge, cnd_gt, cnd_le, swL_z, swL_c, rE_e, rOr_s, rOr_n, rlk_z, rlk_c, aR_c, aI_c, aII_c, aIII_c, aRI_c, aRII_c, aRIII_c, vJn, vJs, vlc, aRR_c, aRRI_c, aRRII_c, aRRIII_c, aRIIII_c, aRL_c, aRLL_c, aLL_c, aRRRI_c, aIL_c, aIIII_c, aRRIIII_c, aIRII_c, aIR_c, aLI_c, aRIR_c, aRIIR_c]
      simpa using h
    · have e2 := w32_succ (k := i) (by omega); have i1 : ((i : Nat) : Int) < (e : Nat) := (by omega); have i1n : i < e := (by omega); have i1x : ¬ e ≤ i := (by omega)
      have hp := pw_b (b := b) (e := i + 1) (by omega) (by omega)
      have e3 : w64 (((b ^ i : Nat) : Int) * b) = ((b ^ (i + 1) : Nat) : Int) := by
        rw [Nat.pow_succ] at hp ⊢
        rw [← Int.natCast_mul]
        exact w64_id (by omega) (by omega)
      refine wa (by decide) rE_nil tk_269 30 (fun N hN => ?_)
      simp [bl_269, hN _, x_iconst, x_ldc2_w, x_aconst_null, x_iload, x_lload, x_aload, x_istore, x_lstore, x_astore, x_iinc, x_iadd, x_isub, x_imul, x_idiv, x_irem, x_iand, x_ior, x_ixor, x_ishl, x_ishr, x_iushr, x_ineg, x_ladd, x_lsub, x_lmul, x_ldiv, x_lrem, x_lcmp, x_i2l, x_i2b, x_i2s, x_i2c, x_dup, x_pop, x_dup_x1, x_dup2, x_getfield, x_putfield, x_iaload, x_baload, x_saload, x_caload, x_daload, x_faload, x_laload, x_aaload, x_iastore, x_bastore, x_sastore, x_castore, x_lastore, x_aastore, x_arraylength, x_getstatic, x_goto, x_goto_w, x_ifCond, x_if_icmp, x_ifnull, x_ifnonnull, x_lookupswitch, x_invokevirtual, x_invokestatic, x_invokedynamic, x_ireturn, x_freturn, x_dreturn, x_lreturn, x_areturn, x_return_, pI_c, pL_c, pR_c, pV_i, pV_r, gI_c, gL_c, gR_c, pN_z, pN_s, lget_c, lins_z, lins_c, ldel_z, ldel_c, ldel2_z, ldel2_c, lset_i, lset_l, lset_r, lkeep_z, lkeep_c, largs_z, largs_c, cat_i, cat_l, cat_r, lkp_c, cnd_eq, cnd_ne, cnd_lt, cnd_ge, cnd_gt, cnd_le, swL_z, swL_c, rE_e, rOr_s, rOr_n, rlk_z, rlk_c, aR_c, aI_c, aII_c, aIII_c, aRI_c, aRII_c, aRIII_c, vJn, vJs, vlc, aRR_c, aRRI_c, aRRII_c, aRRIII_c, aRIIII_c, aRL_c, aRLL_c, aLL_c, aRRRI_c, aIL_c, aIIII_c, aRRIIII_c, aIRII_c, aIR_c, aLI_c, aRIR_c, aRIIR_c, e2, i1, i1n, i1x]
      rw [show ((b : Int) ^ i * b) = ((b ^ i : Nat) : Int) * b by simp, e3]
      exact K
  refine wg (by decide) rE_nil tk_269 py_269 ml_269 30 (by simp [catT]) (fun N hN => ?_)
  simp [bl_269, hN _, x_iconst, x_ldc2_w, x_aconst_null, x_iload, x_lload, x_aload, x_istore, x_lstore, x_astore, x_iinc, x_iadd, x_isub, x_imul, x_idiv, x_irem, x_iand, x_ior, x_ixor, x_ishl, x_ishr, x_iushr, x_ineg, x_ladd, x_lsub, x_lmul, x_ldiv, x_lrem, x_lcmp, x_i2l, x_i2b, x_i2s, x_i2c, x_dup, x_pop, x_dup_x1, x_dup2, x_getfield, x_putfield, x_iaload, x_baload, x_saload, x_caload, x_daload, x_faload, x_laload, x_aaload, x_iastore, x_bastore, x_sastore, x_castore, x_lastore, x_aastore, x_arraylength, x_getstatic, x_goto, x_goto_w, x_ifCond, x_if_icmp, x_ifnull, x_ifnonnull, x_lookupswitch, x_invokevirtual, x_invokestatic, x_invokedynamic, x_ireturn, x_freturn, x_dreturn, x_lreturn, x_areturn, x_return_, pI_c, pL_c, pR_c, pV_i, pV_r, gI_c, gL_c, gR_c, pN_z, pN_s, lget_c, lins_z, lins_c, ldel_z, ldel_c, ldel2_z, ldel2_c, lset_i, lset_l, lset_r, lkeep_z, lkeep_c, largs_z, largs_c, cat_i, cat_l, cat_r, lkp_c, cnd_eq, cnd_ne, cnd_lt, cnd_ge, cnd_gt, cnd_le, swL_z, swL_c, rE_e, rOr_s, rOr_n, rlk_z, rlk_c, aR_c, aI_c, aII_c, aIII_c, aRI_c, aRII_c, aRIII_c, vJn, vJs, vlc, aRR_c, aRRI_c, aRRII_c, aRRIII_c, aRIIII_c, aRL_c, aRLL_c, aLL_c, aRRRI_c, aIL_c, aIIII_c, aRRIIII_c, aIRII_c, aIR_c, aLI_c, aRIR_c, aRIIR_c]
  simpa using K
theorem rgPo_ok {l : Launch} {g : GE} {d : Nat} : ∀ e as t σ Q, rE l g (d + 102) ((269, mpPow) :: rgO) e as t σ Q → WPc l g e (d + 102) 0 0 as t σ Q := rE_cons (fun _ _ _ _ h => m_power (d := d + 101) h) rgO_ok
set_option maxHeartbeats 1000000 in
theorem mo_series {l : Launch} {g : GE} {d : Nat} {t : Tau} {σ : Mem} {Q : Post} {k m p : Int} (hM : TM t) (h : ansM (serQ k m p) t σ Q) : WPc l g 270 (d + 103) 0 0 [vR 175, vI k, vI m, vI p] t σ Q := by
  unfold ansM serQ at h
  by_cases hv : (1 ≤ k ∧ k ≤ 8) ∧ (1 ≤ m ∧ m ≤ 8) ∧ (0 ≤ p ∧ p ≤ 10)
  · rw [if_pos hv] at h
    obtain ⟨⟨k0, k1⟩, ⟨m0, m1⟩, p0, p1⟩ := hv
    obtain ⟨k, rfl⟩ : ∃ n : Nat, k = n := ⟨k.toNat, by omega⟩
    obtain ⟨m, rfl⟩ : ∃ n : Nat, m = n := ⟨m.toNat, by omega⟩
    obtain ⟨p, rfl⟩ : ∃ n : Nat, p = n := ⟨p.toNat, by omega⟩
    simp only [Int.toNat_natCast] at h
    have hq := sm_q ⟨k, by omega⟩ ⟨m, by omega⟩ ⟨p, by omega⟩ (show 1 ≤ k by omega) (show 1 ≤ m by omega)
    simp only at hq
    have hb0 := fun i hi => sm_b0 ⟨k, by omega⟩ ⟨m, by omega⟩ ⟨p, by omega⟩ ⟨i, hi⟩ (show 1 ≤ k by omega) (show 1 ≤ m by omega)
    simp only at hb0
    rw [← hq] at h
    obtain ⟨Z, hNN⟩ : ∃ Z, Z = k + m - 1 := ⟨_, rfl⟩
    rw [← hNN] at h hb0
    rw [show k + m = Z + 1 by omega] at h hb0
    have N15 : Z ≤ 15 := by omega
    have kN : k ≤ Z := by omega
    generalize hF : smF k Z p = F at h
    have hF0 : F 0 = (1, 0) := by rw [← hF]; rfl
    have hFs : ∀ i, F (i + 1) = ((F i).1 * (Z - i) / (i + 1), (F i).2 + if i < k then 0 else (F i).1 * p ^ i * (10 - p) ^ (Z - i)) := by rw [← hF]; intro i; rfl
    have hb' : ∀ i, i < Z + 1 → (F i).1 * (Z - i) ≤ 1000000000000000 ∧ (F i).1 * p ^ i ≤ 9000000000000000000 ∧ (F i).1 * p ^ i * (10 - p) ^ (Z - i) ≤ 9000000000000000000 ∧ (F (i + 1)).2 ≤ 1000000000000000 := by
      intro i hi
      have := hb0 i (by omega) hi
      unfold smB at this
      rw [hF] at this
      simp only [Bool.and_eq_true, decide_eq_true_eq] at this
      exact ⟨this.1.1.1, this.1.1.2, this.1.2, this.2⟩
    have K : Wp l g 270 (d + 103) 0 0 53 [(0, vR 175), (1, vI k), (3, vI p), (4, vI Z), (5, vL (F 0).2), (7, vL (F 0).1), (9, vI (0 : Nat))] [] t (up σ 175 8 0) Q := by
      refine lpU (P := fun i => Wp l g 270 (d + 103) 0 0 53 [(0, vR 175), (1, vI k), (3, vI p), (4, vI Z), (5, vL (F i).2), (7, vL (F i).1), (9, vI i)] [] t (up σ 175 8 0) Q) (n := Z + 1) ?_ (fun i hi K => ?_)
      · have hup := (hb' Z (by omega)).2.2.2
        have hpw := pw_b (b := 10) (e := Z) (by omega) N15
        have hpp : 0 < 10 ^ Z := Nat.pow_pos (by omega)
        have x1 : (Z : Int) < (Z : Int) + 1 := by omega
        have x2 : (Z : Int) ≤ 15 := by omega
        refine wa (by decide) rgPo_ok tk_270 30 (fun N hN => ?_)
        simp [bl_270, hN _, x_iconst, x_ldc2_w, x_aconst_null, x_iload, x_lload, x_aload, x_istore, x_lstore, x_astore, x_iinc, x_iadd, x_isub, x_imul, x_idiv, x_irem, x_iand, x_ior, x_ixor, x_ishl, x_ishr, x_iushr, x_ineg, x_ladd, x_lsub, x_lmul, x_ldiv, x_lrem, x_lcmp, x_i2l, x_i2b, x_i2s, x_i2c, x_dup, x_pop, x_dup_x1, x_dup2, x_getfield, x_putfield, x_iaload, x_baload, x_saload, x_caload, x_daload, x_faload, x_laload, x_aaload, x_iastore, x_bastore, x_sastore, x_castore, x_lastore, x_aastore, x_arraylength, x_getstatic, x_goto, x_goto_w, x_ifCond, x_if_icmp, x_ifnull, x_ifnonnull, x_lookupswitch, x_invokevirtual, x_invokestatic, x_invokedynamic, x_ireturn, x_freturn, x_dreturn, x_lreturn, x_areturn, x_return_, pI_c, pL_c, pR_c, pV_i, pV_r, gI_c, gL_c, gR_c, pN_z, pN_s, lget_c, lins_z, lins_c, ldel_z, ldel_c, ldel2_z, ldel2_c, lset_i, lset_l, lset_r, lkeep_z, lkeep_c, largs_z, largs_c, cat_i, cat_l, cat_r, lkp_c, cnd_eq, cnd_ne, cnd_lt, cnd_ge, cnd_gt, cnd_le, swL_z, swL_c, rE_e, rOr_s, rOr_n, rlk_z, rlk_c, aR_c, aI_c, aII_c, aIII_c, aRI_c, aRII_c, aRIII_c, vJn, vJs, vlc, aRR_c, aRRI_c, aRRII_c, aRRIII_c, aRIIII_c, aRL_c, aRLL_c, aLL_c, aRRRI_c, aIL_c, aIIII_c, aRRIIII_c, aIRII_c, aIR_c, aLI_c, aRIR_c, aRIIR_c, hM.o, hM, mpPow, mpTp, x1, x2, N15]
        refine ⟨⟨(F (Z + 1)).2, rfl, 10 ^ Z, by rw [show (10 : Int) = ((10 : Nat) : Int) from rfl, pwI_n], by omega, by omega, by omega, ?_⟩, fun z => by omega⟩
        simpa using h _ (QTM.fr (QFM.rf.up sf8) (by simp [up_ap]))
      · obtain ⟨g1, g2, g3, g4⟩ := hb' i hi
        rw [hFs i] at K g4
        have e2 := w32_succ (k := i) (by omega)
        have c1 : w32 ((Z : Int) - i) = ((Z - i : Nat) : Int) := by rw [w32_id (by omega) (by omega)]; omega
        have c3 : w64 (((F i).1 : Int) * ((Z - i : Nat) : Int)) = (((F i).1 * (Z - i) : Nat) : Int) := by rw [← Int.natCast_mul]; exact w64_id (by omega) (by omega)
        have c4 : w32 (10 - (p : Int)) = ((10 - p : Nat) : Int) := by rw [w32_id (by omega) (by omega)]; omega
        have c11 : w64 (Int.tdiv (((F i).1 * (Z - i) : Nat) : Int) (((i + 1 : Nat)) : Int)) = (((F i).1 * (Z - i) / (i + 1) : Nat) : Int) := by
          rw [Int.tdiv_eq_ediv_of_nonneg (by omega), ← Int.natCast_ediv]
          have := Nat.div_le_self ((F i).1 * (Z - i)) (i + 1)
          generalize (F i).1 * (Z - i) / (i + 1) = q at this ⊢
          exact w64_id (by omega) (by omega)
        have c7 : w64 (((F i).1 : Int) * ((p ^ i : Nat) : Int)) = (((F i).1 * p ^ i : Nat) : Int) := by rw [← Int.natCast_mul]; exact w64_id (by omega) (by omega)
        have c8 : w64 ((((F i).1 * p ^ i : Nat) : Int) * (((10 - p) ^ (Z - i) : Nat) : Int)) = (((F i).1 * p ^ i * (10 - p) ^ (Z - i) : Nat) : Int) := by rw [← Int.natCast_mul]; exact w64_id (by omega) (by omega)
        have q1 : pwI (p : Int) i = ((p ^ i : Nat) : Int) := rfl
        have q2 : pwI ((10 - p : Nat) : Int) ((Z - i : Nat) : Int) = (((10 - p) ^ (Z - i) : Nat) : Int) := rfl
        have ne : ¬ ((i + 1 : Nat) : Int) = 0 := by omega
        have iN : ¬ Z < i := by omega
        have iN2 : ¬ (Z : Int) < i := by omega
        have i15 : i ≤ 15 := by omega
        have i15i : (i : Int) ≤ 15 := by omega
        have p10 : p ≤ 10 := by omega
        have p10a : (p : Int) ≤ 10 := by omega
        have p10b : 10 - p ≤ 10 := by omega
        have p10c : ((10 - p : Nat) : Int) ≤ 10 := by omega
        have n15a : Z - i ≤ 15 := by omega
        have n15b : ((Z - i : Nat) : Int) ≤ 15 := by omega
        generalize hT : (F i).1 * p ^ i * (10 - p) ^ (Z - i) = T at K g3 g4 c8
        generalize hU : (F i).1 * p ^ i = U at g2 c7 c8
        generalize hP : p ^ i = P at c7 q1
        generalize hR : (10 - p) ^ (Z - i) = R at c8 q2
        generalize hW : (F i).1 * (Z - i) = W at K g1 c3 c11
        have c13 : w64 ((W : Int) / ((i : Int) + 1)) = (W : Int) / ((i : Int) + 1) := by
          rw [Int.tdiv_eq_ediv_of_nonneg (by omega)] at c11
          simpa using c11
        refine wa (by decide) rgPo_ok tk_270 30 (fun N hN => ?_)
        by_cases hik : i < k
        · rw [if_pos hik] at K g4
          have c10 : w64 (((F i).2 : Int) + 0) = ((F i).2 : Int) := by rw [w64_id (by omega) (by omega)]; omega
          have c12 : w64 ((F i).2 : Int) = ((F i).2 : Int) := w64_id (by omega) (by omega)
          have hik' : (i : Int) < k := by omega
          simp [bl_270, hN _, x_iconst, x_ldc2_w, x_aconst_null, x_iload, x_lload, x_aload, x_istore, x_lstore, x_astore, x_iinc, x_iadd, x_isub, x_imul, x_idiv, x_irem, x_iand, x_ior, x_ixor, x_ishl, x_ishr, x_iushr, x_ineg, x_ladd, x_lsub, x_lmul, x_ldiv, x_lrem, x_lcmp, x_i2l, x_i2b, x_i2s, x_i2c, x_dup, x_pop, x_dup_x1, x_dup2, x_getfield, x_putfield, x_iaload, x_baload, x_saload, x_caload, x_daload, x_faload, x_laload, x_aaload, x_iastore, x_bastore, x_sastore, x_castore, x_lastore, x_aastore, x_arraylength, x_getstatic, x_goto, x_goto_w, x_ifCond, x_if_icmp, x_ifnull, x_ifnonnull, x_lookupswitch, x_invokevirtual, x_invokestatic, x_invokedynamic, x_ireturn, x_freturn, x_dreturn, x_lreturn, x_areturn, x_return_, pI_c, pL_c, pR_c, pV_i, pV_r, gI_c, gL_c, gR_c, pN_z, pN_s, lget_c, lins_z, lins_c, ldel_z, ldel_c, ldel2_z, ldel2_c, lset_i, lset_l, lset_r, lkeep_z, lkeep_c, largs_z, largs_c, cat_i, cat_l, cat_r, lkp_c, cnd_eq, cnd_ne, cnd_lt, cnd_ge, cnd_gt, cnd_le, swL_z, swL_c, rE_e, rOr_s, rOr_n, rlk_z, rlk_c, aR_c, aI_c, aII_c, aIII_c, aRI_c, aRII_c, aRIII_c, vJn, vJs, vlc, aRR_c, aRRI_c, aRRII_c, aRRIII_c, aRIIII_c, aRL_c, aRLL_c, aLL_c, aRRRI_c, aIL_c, aIIII_c, aRRIIII_c, aIRII_c, aIR_c, aLI_c, aRIR_c, aRIIR_c, iN, iN2, hik, hik', c1, c3, e2, c10, c12, c13]
          exact fun _ => ⟨⟨by omega, by simpa using K⟩, fun z => by omega⟩
        · rw [if_neg hik] at K g4
          have c10 : w64 (((F i).2 : Int) + (T : Int)) = (((F i).2 + T : Nat) : Int) := by rw [← Int.natCast_add]; exact w64_id (by omega) (by omega)
          have hik' : ¬ (i : Int) < k := by omega
          simp [bl_270, hN _, x_iconst, x_ldc2_w, x_aconst_null, x_iload, x_lload, x_aload, x_istore, x_lstore, x_astore, x_iinc, x_iadd, x_isub, x_imul, x_idiv, x_irem, x_iand, x_ior, x_ixor, x_ishl, x_ishr, x_iushr, x_ineg, x_ladd, x_lsub, x_lmul, x_ldiv, x_lrem, x_lcmp, x_i2l, x_i2b, x_i2s, x_i2c, x_dup, x_pop, x_dup_x1, x_dup2, x_getfield, x_putfield, x_iaload, x_baload, x_saload, x_caload, x_daload, x_faload, x_laload, x_aaload, x_iastore, x_bastore, x_sastore, x_castore, x_lastore, x_aastore, x_arraylength, x_getstatic, x_goto, x_goto_w, x_ifCond, x_if_icmp, x_ifnull, x_ifnonnull, x_lookupswitch, x_invokevirtual, x_invokestatic, x_invokedynamic, x_ireturn, x_freturn, x_dreturn, x_lreturn, x_areturn, x_return_, pI_c, pL_c, pR_c, pV_i, pV_r, gI_c, gL_c, gR_c, pN_z, pN_s, lget_c, lins_z, lins_c, ldel_z, ldel_c, ldel2_z, ldel2_c, lset_i, lset_l, lset_r, lkeep_z, lkeep_c, largs_z, largs_c, cat_i, cat_l, cat_r, lkp_c, cnd_eq, cnd_ne, cnd_lt, cnd_ge, cnd_gt, cnd_le, swL_z, swL_c, rE_e, rOr_s, rOr_n, rlk_z, rlk_c, aR_c, aI_c, aII_c, aIII_c, aRI_c, aRII_c, aRIII_c, vJn, vJs, vlc, aRR_c, aRRI_c, aRRII_c, aRRIII_c, aRIIII_c, aRL_c, aRLL_c, aLL_c, aRRRI_c, aIL_c, aIIII_c, aRRIIII_c, aIRII_c, aIR_c, aLI_c, aRIR_c, aRIIR_c, iN, iN2, hik, hik', mpPow, c1, c4, p10, p10a, p10b, p10c, i15, i15i, n15a, n15b, q1, q2, c7, c8, c10, c3, e2, c13]
          exact fun _ _ => ⟨by omega, by simpa using K⟩
    rw [hF0] at K
    have e1 : w32 ((k : Int) + m) = ((k + m : Nat) : Int) := by rw [w32_id (by omega) (by omega)]; omega
    have e2 : w32 (((k + m : Nat) : Int) - 1) = (Z : Int) := by rw [w32_id (by omega) (by omega)]; omega
    refine wg (by decide) rgPo_ok tk_270 py_270 ml_270 30 (by simp [catT]) (fun N hN => ?_)
    simp [bl_270, hN _, x_iconst, x_ldc2_w, x_aconst_null, x_iload, x_lload, x_aload, x_istore, x_lstore, x_astore, x_iinc, x_iadd, x_isub, x_imul, x_idiv, x_irem, x_iand, x_ior, x_ixor, x_ishl, x_ishr, x_iushr, x_ineg, x_ladd, x_lsub, x_lmul, x_ldiv, x_lrem, x_lcmp, x_i2l, x_i2b, x_i2s, x_i2c, x_dup, x_pop, x_dup_x1, x_dup2, x_getfield, x_putfield, x_iaload, x_baload, x_saload, x_caload, x_daload, x_faload, x_laload, x_aaload, x_iastore, x_bastore, x_sastore, x_castore, x_lastore, x_aastore, x_arraylength, x_getstatic, x_goto, x_goto_w, x_ifCond, x_if_icmp, x_ifnull, x_ifnonnull, x_lookupswitch, x_invokevirtual, x_invokestatic, x_invokedynamic, x_ireturn, x_freturn, x_dreturn, x_lreturn, x_areturn, x_return_, pI_c, pL_c, pR_c, pV_i, pV_r, gI_c, gL_c, gR_c, pN_z, pN_s, lget_c, lins_z, lins_c, ldel_z, ldel_c, ldel2_z, ldel2_c, lset_i, lset_l, lset_r, lkeep_z, lkeep_c, largs_z, largs_c, cat_i, cat_l, cat_r, lkp_c, cnd_eq, cnd_ne, cnd_lt, cnd_ge, cnd_gt, cnd_le, swL_z, swL_c, rE_e, rOr_s, rOr_n, rlk_z, rlk_c, aR_c, aI_c, aII_c, aIII_c, aRI_c, aRII_c, aRIII_c, vJn, vJs, vlc, aRR_c, aRRI_c, aRRII_c, aRRIII_c, aRIIII_c, aRL_c, aRLL_c, aLL_c, aRRRI_c, aIL_c, aIIII_c, aRRIIII_c, aIRII_c, aIR_c, aLI_c, aRIR_c, aRIIR_c, hM.o, mpIn, k0, k1, m0, m1, p0, p1]
    rw [e1, e2]
    exact ⟨fun z => by omega, fun z => by omega, K, fun z => by omega⟩
  · rw [if_neg hv] at h
    have h := h _ QTM.rf
    refine wg (by decide) rgPo_ok tk_270 py_270 ml_270 30 (by simp [catT]) (fun N hN => ?_)
    simp [bl_270, hN _, x_iconst, x_ldc2_w, x_aconst_null, x_iload, x_lload, x_aload, x_istore, x_lstore, x_astore, x_iinc, x_iadd, x_isub, x_imul, x_idiv, x_irem, x_iand, x_ior, x_ixor, x_ishl, x_ishr, x_iushr, x_ineg, x_ladd, x_lsub, x_lmul, x_ldiv, x_lrem, x_lcmp, x_i2l, x_i2b, x_i2s, x_i2c, x_dup, x_pop, x_dup_x1, x_dup2, x_getfield, x_putfield, x_iaload, x_baload, x_saload, x_caload, x_daload, x_faload, x_laload, x_aaload, x_iastore, x_bastore, x_sastore, x_castore, x_lastore, x_aastore, x_arraylength, x_getstatic, x_goto, x_goto_w, x_ifCond, x_if_icmp, x_ifnull, x_ifnonnull, x_lookupswitch, x_invokevirtual, x_invokestatic, x_invokedynamic, x_ireturn, x_freturn, x_dreturn, x_lreturn, x_areturn, x_return_, pI_c, pL_c, pR_c, pV_i, pV_r, gI_c, gL_c, gR_c, pN_z, pN_s, lget_c, lins_z, lins_c, ldel_z, ldel_c, ldel2_z, ldel2_c, lset_i, lset_l, lset_r, lkeep_z, lkeep_c, largs_z, largs_c, cat_i, cat_l, cat_r, lkp_c, cnd_eq, cnd_ne, cnd_lt, cnd_ge, cnd_gt, cnd_le, swL_z, swL_c, rE_e, rOr_s, rOr_n, rlk_z, rlk_c, aR_c, aI_c, aII_c, aIII_c, aRI_c, aRII_c, aRIII_c, vJn, vJs, vlc, aRR_c, aRRI_c, aRRII_c, aRRIII_c, aRIIII_c, aRL_c, aRLL_c, aLL_c, aRRRI_c, aIL_c, aIIII_c, aRRIIII_c, aIRII_c, aIR_c, aLI_c, aRIR_c, aRIIR_c, hM.o, mpIn]
    grind (splits := 20)
