/-! the reference: treaty -/
def mpLost : Sp := fun as t σ Q => aRII as fun a i j => a = 175 ∧ TM t ∧ (0 ≤ i ∧ i ≤ 30) ∧ (0 ≤ j ∧ j ≤ 30) ∧ (σ 195 (31 * i + j) = 0 ∨ σ 195 (31 * i + j) = 1) ∧ Q (some (vI (σ 195 (31 * i + j)))) t σ
theorem m_isLost {l : Launch} {g : GE} {d : Nat} {t : Tau} {σ : Mem} {Q : Post} {as : List TV} (h0 : mpLost as t σ Q) : WPc l g 266 (d + 1) 0 0 as t σ Q := by
  obtain ⟨a, i, j, rfl, rfl, hM, hi, hj, hb, h⟩ := aRII_e h0
  clear h0
  have e1 : w32 (31 * i) = 31 * i := w32_id (by omega) (by omega)
  have e2 : w32 (31 * i + j) = 31 * i + j := w32_id (by omega) (by omega)
  have e3 : 0 ≤ 31 * i + j := by omega
  have e4 : 31 * i + j < 961 := by omega
  refine wg (by decide) rE_nil tk_266 py_266 ml_266 30 (by simp [catT]) (fun N hN => ?_)
  simp [bl_266, hN _, x_iconst, x_ldc2_w, x_aconst_null, x_iload, x_lload, x_aload, x_istore, x_lstore, x_astore, x_iinc, x_iadd, x_isub, x_imul, x_idiv, x_irem, x_iand, x_ior, x_ixor, x_ishl, x_ishr, x_iushr, x_ineg, x_ladd, x_lsub, x_lmul, x_ldiv, x_lrem, x_lcmp, x_i2l, x_i2b, x_i2s, x_i2c, x_dup, x_pop, x_dup_x1, x_dup2, x_getfield, x_putfield, x_iaload, x_baload, x_saload, x_caload, x_daload, x_faload, x_laload, x_aaload, x_iastore, x_bastore, x_sastore, x_castore, x_lastore, x_aastore, x_arraylength, x_getstatic, x_goto, x_goto_w, x_ifCond, x_if_icmp, x_ifnull, x_ifnonnull, x_lookupswitch, x_invokevirtual, x_invokestatic, x_invokedynamic, x_ireturn, x_freturn, x_dreturn, x_lreturn, x_areturn, x_return_, pI_c, pL_c, pR_c, pV_i, pV_r, gI_c, gL_c, gR_c, pN_z, pN_s, lget_c, lins_z, lins_c, ldel_z, ldel_c, ldel2_z, ldel2_c, lset_i, lset_l, lset_r, lkeep_z, lkeep_c, largs_z, largs_c, cat_i, cat_l, cat_r, lkp_c, cnd_eq, cnd_ne, cnd_lt, cnd_ge, cnd_gt, cnd_le, swL_z, swL_c, rE_e, rOr_s, rOr_n, rlk_z, rlk_c, aR_c, aI_c, aII_c, aIII_c, aRI_c, aRII_c, aRIII_c, vJn, vJs, vlc, aRR_c, aRRI_c, aRRII_c, aRRIII_c, aRIIII_c, aRL_c, aRLL_c, aLL_c, aRRRI_c, aIL_c, aIIII_c, aRRIIII_c, aIRII_c, aIR_c, aLI_c, aRIR_c, aRIIR_c, hM.o, hM.f35, hM.t195, hM.l195, e1, e2, e3, e4]
  exact ⟨hb, h⟩
theorem rgLo_ok {l : Launch} {g : GE} {d : Nat} : ∀ e as t σ Q, rE l g (d + 1) [(266, mpLost)] e as t σ Q → WPc l g e (d + 1) 0 0 as t σ Q := rE_cons (fun _ _ _ _ h => m_isLost h) rE_nil
def ltOk (σ : Mem) (i j : Nat) : Prop := ∀ x y : Nat, x ≤ i → y ≤ j → (x ≠ 0 ∨ y ≠ 0) → σ 195 (31 * ((i - x : Nat) : Int) + ((j - y : Nat) : Int)) = if cdN (i - x) = j - y then 1 else 0
def mpBm : Sp := fun as t σ Q => aRII as fun a i j => a = 175 ∧ TM t ∧ (0 ≤ i ∧ i ≤ 30) ∧ (0 ≤ j ∧ j ≤ 30) ∧ ltOk σ i.toNat j.toNat ∧ Q (some (vI (bmN i.toNat j.toNat))) t σ
set_option maxHeartbeats 1000000 in
theorem m_bestMove {l : Launch} {g : GE} {d : Nat} {t : Tau} {σ : Mem} {Q : Post} {as : List TV} (h0 : mpBm as t σ Q) : WPc l g 267 (d + 2) 0 0 as t σ Q := by
  obtain ⟨a, i, j, rfl, rfl, hM, hi, hj, hL, h⟩ := aRII_e h0
  clear h0
  obtain ⟨m, rfl⟩ : ∃ m : Nat, i = m := ⟨i.toNat, by omega⟩
  obtain ⟨n, rfl⟩ : ∃ n : Nat, j = n := ⟨j.toNat, by omega⟩
  simp only [Int.toNat_natCast] at h hL
  have O : ∀ (q x : Nat), x + q = m + 1 → Q (some (vI (bmI m n q x : Nat))) t σ → Wp l g 267 (d + 2) 0 0 2 [(0, vR 175), (1, vI m), (2, vI n), (3, vI x)] [] t σ Q := by
    intro q
    induction q with
    | zero =>
      intro x hx hQ
      have x1 : (m : Int) < x := by omega
      have x2 : m < x := by omega
      refine wa (by decide) rgLo_ok tk_267 30 (fun N hN => ?_)
      simp [bl_267, hN _, x_iconst, x_ldc2_w, x_aconst_null, x_iload, x_lload, x_aload, x_istore, x_lstore, x_astore, x_iinc, x_iadd, x_isub, x_imul, x_idiv, x_irem, x_iand, x_ior, x_ixor, x_ishl, x_ishr, x_iushr, x_ineg, x_ladd, x_lsub, x_lmul, x_ldiv, x_lrem, x_lcmp, x_i2l, x_i2b, x_i2s, x_i2c, x_dup, x_pop, x_dup_x1, x_dup2, x_getfield, x_putfield, x_iaload, x_baload, x_saload, x_caload, x_daload, x_faload, x_laload, x_aaload, x_iastore, x_bastore, x_sastore, x_castore, x_lastore, x_aastore, x_arraylength, x_getstatic, x_goto, x_goto_w, x_ifCond, x_if_icmp, x_ifnull, x_ifnonnull, x_lookupswitch, x_invokevirtual, x_invokestatic, x_invokedynamic, x_ireturn, x_freturn, x_dreturn, x_lreturn, x_areturn, x_return_, pI_c, pL_c, pR_c, pV_i, pV_r, gI_c, gL_c, gR_c, pN_z, pN_s, lget_c, lins_z, lins_c, ldel_z, ldel_c, ldel2_z, ldel2_c, lset_i, lset_l, lset_r, lkeep_z, lkeep_c, largs_z, largs_c, cat_i, cat_l, cat_r, lkp_c, cnd_eq, cnd_ne, cnd_lt, cnd_ge, cnd_gt, cnd_le, swL_z, swL_c, rE_e, rOr_s, rOr_n, rlk_z, rlk_c, aR_c, aI_c, aII_c, aIII_c, aRI_c, aRII_c, aRIII_c, vJn, vJs, vlc, aRR_c, aRRI_c, aRRII_c, aRRIII_c, aRIIII_c, aRL_c, aRLL_c, aLL_c, aRRRI_c, aIL_c, aIIII_c, aRRIIII_c, aIRII_c, aIR_c, aLI_c, aRIR_c, aRIIR_c, x1, x2]
      exact ⟨hQ, fun z => by omega⟩
    | succ q ih =>
      intro x hx hQ
      have I : ∀ (r y : Nat), y + r = n + 1 → (x ≠ 0 ∨ y ≠ 0) → Q (some (vI (bmJ m n x (bmI m n q (x + 1)) r y : Nat))) t σ → Wp l g 267 (d + 2) 0 0 18 [(0, vR 175), (1, vI m), (2, vI n), (3, vI x), (4, vI y)] [] t σ Q := by
        intro r
        induction r with
        | zero =>
          intro y hy _ hQ
          have x2 : n < y := by omega
          have K := ih (x + 1) (by omega) hQ
          have e2 := w32_succ (k := x) (by omega)
          refine wa (by decide) rgLo_ok tk_267 30 (fun N hN => ?_)
          simp [bl_267, hN _, x_iconst, x_ldc2_w, x_aconst_null, x_iload, x_lload, x_aload, x_istore, x_lstore, x_astore, x_iinc, x_iadd, x_isub, x_imul, x_idiv, x_irem, x_iand, x_ior, x_ixor, x_ishl, x_ishr, x_iushr, x_ineg, x_ladd, x_lsub, x_lmul, x_ldiv, x_lrem, x_lcmp, x_i2l, x_i2b, x_i2s, x_i2c, x_dup, x_pop, x_dup_x1, x_dup2, x_getfield, x_putfield, x_iaload, x_baload, x_saload, x_caload, x_daload, x_faload, x_laload, x_aaload, x_iastore, x_bastore, x_sastore, x_castore, x_lastore, x_aastore, x_arraylength, x_getstatic, x_goto, x_goto_w, x_ifCond, x_if_icmp, x_ifnull, x_ifnonnull, x_lookupswitch, x_invokevirtual, x_invokestatic, x_invokedynamic, x_ireturn, x_freturn, x_dreturn, x_lreturn, x_areturn, x_return_, pI_c, pL_c, pR_c, pV_i, pV_r, gI_c, gL_c, gR_c, pN_z, pN_s, lget_c, lins_z, lins_c, ldel_z, ldel_c, ldel2_z, ldel2_c, lset_i, lset_l, lset_r, lkeep_z, lkeep_c, largs_z, largs_c, cat_i, cat_l, cat_r, lkp_c, cnd_eq, cnd_ne, cnd_lt, cnd_ge, cnd_gt, cnd_le, swL_z, swL_c, rE_e, rOr_s, rOr_n, rlk_z, rlk_c, aR_c, aI_c, aII_c, aIII_c, aRI_c, aRII_c, aRIII_c, vJn, vJs, vlc, aRR_c, aRRI_c, aRRII_c, aRRIII_c, aRIIII_c, aRL_c, aRLL_c, aLL_c, aRRRI_c, aIL_c, aIIII_c, aRRIIII_c, aIRII_c, aIR_c, aLI_c, aRIR_c, aRIIR_c, e2]
          exact ⟨fun _ => K, fun z => by omega⟩
        | succ r ihr =>
          intro y hy hxy hQ
          have er : bmJ m n x (bmI m n q (x + 1)) (r + 1) y = if (x = 0 ∨ y = 0 ∨ x = y) ∧ cdN (m - x) = n - y then 31 * x + y else bmJ m n x (bmI m n q (x + 1)) r (y + 1) := rfl
          rw [er] at hQ
          have hl := hL x y (by omega) (by omega) hxy
          have e2 := w32_succ (k := y) (by omega)
          have e3 : w32 ((m : Int) - x) = ((m - x : Nat) : Int) := by rw [w32_id (by omega) (by omega)]; omega
          have e4 : w32 ((n : Int) - y) = ((n - y : Nat) : Int) := by rw [w32_id (by omega) (by omega)]; omega
          have e5 : w32 (31 * (x : Int)) = 31 * x := w32_id (by omega) (by omega)
          have e6 : w32 (31 * (x : Int) + y) = ((31 * x + y : Nat) : Int) := by rw [w32_id (by omega) (by omega)]; omega
          have m1 : ((m - x : Nat) : Int) ≤ 30 := by omega
          have m2 : m - x ≤ 30 := by omega
          have n1 : ((n - y : Nat) : Int) ≤ 30 := by omega
          have n2 : n - y ≤ 30 := by omega
          have y2 : ¬ n < y := by omega
          have hgo : ¬ ((x = 0 ∨ y = 0 ∨ x = y) ∧ cdN (m - x) = n - y) → Wp l g 267 (d + 2) 0 0 18 [(0, vR 175), (1, vI m), (2, vI n), (3, vI x), (4, vI (y + 1 : Nat))] [] t σ Q := fun hc => by
            rw [if_neg hc] at hQ
            exact ihr (y + 1) (by omega) (by omega) hQ
          have hyes : ((x = 0 ∨ y = 0 ∨ x = y) ∧ cdN (m - x) = n - y) → Q (some (vI (31 * x + y : Nat))) t σ := fun hc => by
            rw [if_pos hc] at hQ
            exact hQ
          refine wa (by decide) rgLo_ok tk_267 30 (fun N hN => ?_)
          simp only [Int.natCast_add, Int.natCast_mul, Int.cast_ofNat_Int] at hgo hyes
          by_cases hcd : cdN (m - x) = n - y
          · rw [if_pos hcd] at hl
            simp [bl_267, hN _, x_iconst, x_ldc2_w, x_aconst_null, x_iload, x_lload, x_aload, x_istore, x_lstore, x_astore, x_iinc, x_iadd, x_isub, x_imul, x_idiv, x_irem, x_iand, x_ior, x_ixor, x_ishl, x_ishr, x_iushr, x_ineg, x_ladd, x_lsub, x_lmul, x_ldiv, x_lrem, x_lcmp, x_i2l, x_i2b, x_i2s, x_i2c, x_dup, x_pop, x_dup_x1, x_dup2, x_getfield, x_putfield, x_iaload, x_baload, x_saload, x_caload, x_daload, x_faload, x_laload, x_aaload, x_iastore, x_bastore, x_sastore, x_castore, x_lastore, x_aastore, x_arraylength, x_getstatic, x_goto, x_goto_w, x_ifCond, x_if_icmp, x_ifnull, x_ifnonnull, x_lookupswitch, x_invokevirtual, x_invokestatic, x_invokedynamic, x_ireturn, x_freturn, x_dreturn, x_lreturn, x_areturn, x_return_, pI_c, pL_c, pR_c, pV_i, pV_r, gI_c, gL_c, gR_c, pN_z, pN_s, lget_c, lins_z, lins_c, ldel_z, ldel_c, ldel2_z, ldel2_c, lset_i, lset_l, lset_r, lkeep_z, lkeep_c, largs_z, largs_c, cat_i, cat_l, cat_r, lkp_c, cnd_eq, cnd_ne, cnd_lt, cnd_ge, cnd_gt, cnd_le, swL_z, swL_c, rE_e, rOr_s, rOr_n, rlk_z, rlk_c, aR_c, aI_c, aII_c, aIII_c, aRI_c, aRII_c, aRIII_c, vJn, vJs, vlc, aRR_c, aRRI_c, aRRII_c, aRRIII_c, aRIIII_c, aRL_c, aRLL_c, aLL_c, aRRRI_c, aIL_c, aIIII_c, aRRIIII_c, aIRII_c, aIR_c, aLI_c, aRIR_c, aRIIR_c, mpLost, hM.o, hM, e2, e3, e4, e5, e6, m1, m2, n1, n2, y2, hl]
            exact fun _ => ⟨fun a => hyes (by omega), fun a => ⟨fun b => hyes (by omega), fun b => ⟨fun c => hyes (by omega), fun c => hgo (by omega)⟩⟩⟩
          · rw [if_neg hcd] at hl
            simp [bl_267, hN _, x_iconst, x_ldc2_w, x_aconst_null, x_iload, x_lload, x_aload, x_istore, x_lstore, x_astore, x_iinc, x_iadd, x_isub, x_imul, x_idiv, x_irem, x_iand, x_ior, x_ixor, x_ishl, x_ishr, x_iushr, x_ineg, x_ladd, x_lsub, x_lmul, x_ldiv, x_lrem, x_lcmp, x_i2l, x_i2b, x_i2s, x_i2c, x_dup, x_pop, x_dup_x1, x_dup2, x_getfield, x_putfield, x_iaload, x_baload, x_saload, x_caload, x_daload, x_faload, x_laload, x_aaload, x_iastore, x_bastore, x_sastore, x_castore, x_lastore, x_aastore, x_arraylength, x_getstatic, x_goto, x_goto_w, x_ifCond, x_if_icmp, x_ifnull, x_ifnonnull, x_lookupswitch, x_invokevirtual, x_invokestatic, x_invokedynamic, x_ireturn, x_freturn, x_dreturn, x_lreturn, x_areturn, x_return_, pI_c, pL_c, pR_c, pV_i, pV_r, gI_c, gL_c, gR_c, pN_z, pN_s, lget_c, lins_z, lins_c, ldel_z, ldel_c, ldel2_z, ldel2_c, lset_i, lset_l, lset_r, lkeep_z, lkeep_c, largs_z, largs_c, cat_i, cat_l, cat_r, lkp_c, cnd_eq, cnd_ne, cnd_lt, cnd_ge, cnd_gt, cnd_le, swL_z, swL_c, rE_e, rOr_s, rOr_n, rlk_z, rlk_c, aR_c, aI_c, aII_c, aIII_c, aRI_c, aRII_c, aRIII_c, vJn, vJs, vlc, aRR_c, aRRI_c, aRRII_c, aRRIII_c, aRIIII_c, aRL_c, aRLL_c, aLL_c, aRRRI_c, aIL_c, aIIII_c, aRRIIII_c, aIRII_c, aIR_c, aLI_c, aRIR_c, aRIIR_c, mpLost, hM.o, hM, e2, e3, e4, e5, e6, m1, m2, n1, n2, y2, hl]
            exact fun _ => ⟨fun a => hgo (by omega), fun a => ⟨fun b => hgo (by omega), fun b => hgo (by omega)⟩⟩
      have K := I (n + 1 - fsY x) (fsY x) (by unfold fsY; split <;> omega) (by unfold fsY; split <;> omega) hQ
      have x2 : ¬ m < x := by omega
      unfold fsY at K
      refine wa (by decide) rgLo_ok tk_267 30 (fun N hN => ?_)
      simp [bl_267, hN _, x_iconst, x_ldc2_w, x_aconst_null, x_iload, x_lload, x_aload, x_istore, x_lstore, x_astore, x_iinc, x_iadd, x_isub, x_imul, x_idiv, x_irem, x_iand, x_ior, x_ixor, x_ishl, x_ishr, x_iushr, x_ineg, x_ladd, x_lsub, x_lmul, x_ldiv, x_lrem, x_lcmp, x_i2l, x_i2b, x_i2s, x_i2c, x_dup, x_pop, x_dup_x1, x_dup2, x_getfield, x_putfield, x_iaload, x_baload, x_saload, x_caload, x_daload, x_faload, x_laload, x_aaload, x_iastore, x_bastore, x_sastore, x_castore, x_lastore, x_aastore, x_arraylength, x_getstatic, x_goto, x_goto_w, x_ifCond, x_if_icmp, x_ifnull, x_ifnonnull, x_lookupswitch, x_invokevirtual, x_invokestatic, x_invokedynamic, x_ireturn, x_freturn, x_dreturn, x_lreturn, x_areturn, x_return_, pI_c, pL_c, pR_c, pV_i, pV_r, gI_c, gL_c, gR_c, pN_z, pN_s, lget_c, lins_z, lins_c, ldel_z, ldel_c, ldel2_z, ldel2_c, lset_i, lset_l, lset_r, lkeep_z, lkeep_c, largs_z, largs_c, cat_i, cat_l, cat_r, lkp_c, cnd_eq, cnd_ne, cnd_lt, cnd_ge, cnd_gt, cnd_le, swL_z, swL_c, rE_e, rOr_s, rOr_n, rlk_z, rlk_c, aR_c, aI_c, aII_c, aIII_c, aRI_c, aRII_c, aRIII_c, vJn, vJs, vlc, aRR_c, aRRI_c, aRRII_c, aRRIII_c, aRIIII_c, aRL_c, aRLL_c, aLL_c, aRRRI_c, aIL_c, aIIII_c, aRRIIII_c, aIRII_c, aIR_c, aLI_c, aRIR_c, aRIIR_c, x2]
      refine fun _ => ⟨fun z => ?_, fun z => ?_⟩
      · rw [if_neg (by omega)] at K; exact K
      · rw [if_pos (by omega)] at K; exact K
  have K := O (m + 1) 0 (by omega) h
  refine wg (by decide) rgLo_ok tk_267 py_267 ml_267 30 (by simp [catT]) (fun N hN => ?_)
  simp [bl_267, hN _, x_iconst, x_ldc2_w, x_aconst_null, x_iload, x_lload, x_aload, x_istore, x_lstore, x_astore, x_iinc, x_iadd, x_isub, x_imul, x_idiv, x_irem, x_iand, x_ior, x_ixor, x_ishl, x_ishr, x_iushr, x_ineg, x_ladd, x_lsub, x_lmul, x_ldiv, x_lrem, x_lcmp, x_i2l, x_i2b, x_i2s, x_i2c, x_dup, x_pop, x_dup_x1, x_dup2, x_getfield, x_putfield, x_iaload, x_baload, x_saload, x_caload, x_daload, x_faload, x_laload, x_aaload, x_iastore, x_bastore, x_sastore, x_castore, x_lastore, x_aastore, x_arraylength, x_getstatic, x_goto, x_goto_w, x_ifCond, x_if_icmp, x_ifnull, x_ifnonnull, x_lookupswitch, x_invokevirtual, x_invokestatic, x_invokedynamic, x_ireturn, x_freturn, x_dreturn, x_lreturn, x_areturn, x_return_, pI_c, pL_c, pR_c, pV_i, pV_r, gI_c, gL_c, gR_c, pN_z, pN_s, lget_c, lins_z, lins_c, ldel_z, ldel_c, ldel2_z, ldel2_c, lset_i, lset_l, lset_r, lkeep_z, lkeep_c, largs_z, largs_c, cat_i, cat_l, cat_r, lkp_c, cnd_eq, cnd_ne, cnd_lt, cnd_ge, cnd_gt, cnd_le, swL_z, swL_c, rE_e, rOr_s, rOr_n, rlk_z, rlk_c, aR_c, aI_c, aII_c, aIII_c, aRI_c, aRII_c, aRIII_c, vJn, vJs, vlc, aRR_c, aRRI_c, aRRII_c, aRRIII_c, aRIIII_c, aRL_c, aRLL_c, aLL_c, aRRRI_c, aIL_c, aIIII_c, aRRIIII_c, aIRII_c, aIR_c, aLI_c, aRIR_c, aRIIR_c]
  exact K
theorem rgTy_ok {l : Launch} {g : GE} {d : Nat} : ∀ e as t σ Q, rE l g (d + 5) ((267, mpBm) :: rgN) e as t σ Q → WPc l g e (d + 5) 0 0 as t σ Q := rE_cons (fun _ _ _ _ h => m_bestMove h) rgN_ok
/-- the lost places so far: all before row i, and of row i those before j -/
def ltS (σ : Mem) (b i j : Nat) : Prop := ∀ x y : Nat, y ≤ b → (x < i ∨ (x = i ∧ y < j)) → σ 195 (31 * (x : Int) + (y : Int)) = if cdN x = y then 1 else 0
theorem ltS.ok {σ : Mem} {b i j : Nat} (h : ltS σ b i j) (hj : j ≤ b) : ltOk σ i j := fun x y hx hy hxy => h (i - x) (j - y) (by omega) (by omega)
set_option maxHeartbeats 1000000 in
theorem mo_treaty {l : Launch} {g : GE} {d : Nat} {t : Tau} {σ : Mem} {Q : Post} {a b : Int} (hM : TM t) (h : ansM (trQ a b) t σ Q) : WPc l g 268 (d + 6) 0 0 [vR 175, vI a, vI b] t σ Q := by
  unfold ansM at h
  by_cases hv : (0 ≤ a ∧ a ≤ 30) ∧ (0 ≤ b ∧ b ≤ 30)
  · obtain ⟨⟨a0, a1⟩, b0, b1⟩ := hv
    obtain ⟨m, rfl⟩ : ∃ m : Nat, a = m := ⟨a.toNat, by omega⟩
    obtain ⟨n, rfl⟩ : ∃ n : Nat, b = n := ⟨b.toNat, by omega⟩
    have a30 : m ≤ 30 := by omega
    have b30 : n ≤ 30 := by omega
    rw [tr_bm a30 b30] at h
    have O : ∀ σ', QFM σ σ' ∧ σ' 175 8 = 0 → ltS σ' n 0 0 → Wp l g 268 (d + 6) 0 0 29 [(0, vR 175), (1, vI m), (2, vI n), (3, vI (0 : Nat))] [] t σ' Q := by
      refine lpU (P := fun i => ∀ σ', QFM σ σ' ∧ σ' 175 8 = 0 → ltS σ' n i 0 → Wp l g 268 (d + 6) 0 0 29 [(0, vR 175), (1, vI m), (2, vI n), (3, vI i)] [] t σ' Q) (n := m + 1) ?_ (fun i hi KO σ' q hL => ?_)
      · intro σ' q hL
        have hok : ltOk σ' m n := fun x y hx hy hxy => hL (m - x) (n - y) (by omega) (by omega)
        have hbm := bm_2 ⟨m, by omega⟩ ⟨n, by omega⟩
        simp only at hbm
        have x1 : (m : Int) < (m : Int) + 1 := by omega
        generalize hB : bmN m n = B at h hbm
        have d1 : w32 ((B : Int).tdiv 31) = ((B / 31 : Nat) : Int) := by rw [Int.tdiv_eq_ediv_of_nonneg (by omega), w32_id (by omega) (by omega)]; omega
        have d2 : w32 ((B : Int).tmod 31) = ((B % 31 : Nat) : Int) := by rw [Int.tmod_eq_emod_of_nonneg (by omega), w32_id (by omega) (by omega)]; omega
        have d3 : w32 ((B : Int) / 31) = (B : Int) / 31 := w32_id (by omega) (by omega)
        have d4 : w32 ((B : Int) % 31) = (B : Int) % 31 := w32_id (by omega) (by omega)
        refine wa (by decide) rgTy_ok tk_268 30 (fun N hN => ?_)
        by_cases hz : B = 0
        · rw [if_pos hz] at h
          simp [bl_268, hN _, x_iconst, x_ldc2_w, x_aconst_null, x_iload, x_lload, x_aload, x_istore, x_lstore, x_astore, x_iinc, x_iadd, x_isub, x_imul, x_idiv, x_irem, x_iand, x_ior, x_ixor, x_ishl, x_ishr, x_iushr, x_ineg, x_ladd, x_lsub, x_lmul, x_ldiv, x_lrem, x_lcmp, x_i2l, x_i2b, x_i2s, x_i2c, x_dup, x_pop, x_dup_x1, x_dup2, x_getfield, x_putfield, x_iaload, x_baload, x_saload, x_caload, x_daload, x_faload, x_laload, x_aaload, x_iastore, x_bastore, x_sastore, x_castore, x_lastore, x_aastore, x_arraylength, x_getstatic, x_goto, x_goto_w, x_ifCond, x_if_icmp, x_ifnull, x_ifnonnull, x_lookupswitch, x_invokevirtual, x_invokestatic, x_invokedynamic, x_ireturn, x_freturn, x_dreturn, x_lreturn, x_areturn, x_return_, pI_c, pL_c, pR_c, pV_i, pV_r, gI_c, gL_c, gR_c, pN_z, pN_s, lget_c, lins_z, lins_c, ldel_z, ldel_c, ldel2_z, ldel2_c, lset_i, lset_l, lset_r, lkeep_z, lkeep_c, largs_z, largs_c, cat_i, cat_l, cat_r, lkp_c, cnd_eq, cnd_ne, cnd_lt, cnd_ge, cnd_gt, cnd_le, swL_z, swL_c, rE_e, rOr_s, rOr_n, rlk_z, rlk_c, aR_c, aI_c, aII_c, aIII_c, aRI_c, aRII_c, aRIII_c, vJn, vJs, vlc, aRR_c, aRRI_c, aRRII_c, aRRIII_c, aRIIII_c, aRL_c, aRLL_c, aLL_c, aRRRI_c, aIL_c, aIIII_c, aRRIIII_c, aIRII_c, aIR_c, aLI_c, aRIR_c, aRIIR_c, mpBm, hM.o, hM, a30, b30, hok, hB, hz, x1]
          exact ⟨⟨a1, b1, h _ ⟨q.1.up sf7, by simp [up_ap, q.2], rmIs.nil⟩⟩, fun z => by omega⟩
        · rw [if_neg hz] at h
          have hz' : ¬ (B : Int) = 0 := by omega
          simp [bl_268, hN _, x_iconst, x_ldc2_w, x_aconst_null, x_iload, x_lload, x_aload, x_istore, x_lstore, x_astore, x_iinc, x_iadd, x_isub, x_imul, x_idiv, x_irem, x_iand, x_ior, x_ixor, x_ishl, x_ishr, x_iushr, x_ineg, x_ladd, x_lsub, x_lmul, x_ldiv, x_lrem, x_lcmp, x_i2l, x_i2b, x_i2s, x_i2c, x_dup, x_pop, x_dup_x1, x_dup2, x_getfield, x_putfield, x_iaload, x_baload, x_saload, x_caload, x_daload, x_faload, x_laload, x_aaload, x_iastore, x_bastore, x_sastore, x_castore, x_lastore, x_aastore, x_arraylength, x_getstatic, x_goto, x_goto_w, x_ifCond, x_if_icmp, x_ifnull, x_ifnonnull, x_lookupswitch, x_invokevirtual, x_invokestatic, x_invokedynamic, x_ireturn, x_freturn, x_dreturn, x_lreturn, x_areturn, x_return_, pI_c, pL_c, pR_c, pV_i, pV_r, gI_c, gL_c, gR_c, pN_z, pN_s, lget_c, lins_z, lins_c, ldel_z, ldel_c, ldel2_z, ldel2_c, lset_i, lset_l, lset_r, lkeep_z, lkeep_c, largs_z, largs_c, cat_i, cat_l, cat_r, lkp_c, cnd_eq, cnd_ne, cnd_lt, cnd_ge, cnd_gt, cnd_le, swL_z, swL_c, rE_e, rOr_s, rOr_n, rlk_z, rlk_c, aR_c, aI_c, aII_c, aIII_c, aRI_c, aRII_c, aRIII_c, vJn, vJs, vlc, aRR_c, aRRI_c, aRRII_c, aRRIII_c, aRIIII_c, aRL_c, aRLL_c, aLL_c, aRRRI_c, aIL_c, aIIII_c, aRRIIII_c, aIRII_c, aIR_c, aLI_c, aRIR_c, aRIIR_c, mpBm, mpTell, hM.o, hM, a30, b30, hok, hB, hz, hz', x1, d1, d2, d3, d4, up_ap]
          have h := h _ (QTM.q2 q.1 q.2)
          exact ⟨⟨a1, b1, by simpa using h⟩, fun z => by omega⟩
      · have ei := w32_succ (k := i) (by omega)
        have ia : ¬ m < i := by omega
        have ib : ¬ (m : Int) < i := by omega
        have i30 : i ≤ 30 := by omega
        have i30i : (i : Int) ≤ 30 := by omega
        have I : ∀ σ', QFM σ σ' ∧ σ' 175 8 = 0 → ltS σ' n i 0 → Wp l g 268 (d + 6) 0 0 37 [(0, vR 175), (1, vI m), (2, vI n), (3, vI i), (4, vI (0 : Nat))] [] t σ' Q := by
          refine lpU (P := fun j => ∀ σ', QFM σ σ' ∧ σ' 175 8 = 0 → ltS σ' n i j → Wp l g 268 (d + 6) 0 0 37 [(0, vR 175), (1, vI m), (2, vI n), (3, vI i), (4, vI j)] [] t σ' Q) (n := n + 1) ?_ (fun j hj K σ' q hL => ?_)
          · intro σ' q hL
            have KO := KO σ' q (fun x y hy hx => hL x y hy (by omega))
            have x1 : (n : Int) < (n : Int) + 1 := by omega
            refine wa (by decide) rgTy_ok tk_268 30 (fun N hN => ?_)
            simp [bl_268, hN _, x_iconst, x_ldc2_w, x_aconst_null, x_iload, x_lload, x_aload, x_istore, x_lstore, x_astore, x_iinc, x_iadd, x_isub, x_imul, x_idiv, x_irem, x_iand, x_ior, x_ixor, x_ishl, x_ishr, x_iushr, x_ineg, x_ladd, x_lsub, x_lmul, x_ldiv, x_lrem, x_lcmp, x_i2l, x_i2b, x_i2s, x_i2c, x_dup, x_pop, x_dup_x1, x_dup2, x_getfield, x_putfield, x_iaload, x_baload, x_saload, x_caload, x_daload, x_faload, x_laload, x_aaload, x_iastore, x_bastore, x_sastore, x_castore, x_lastore, x_aastore, x_arraylength, x_getstatic, x_goto, x_goto_w, x_ifCond, x_if_icmp, x_ifnull, x_ifnonnull, x_lookupswitch, x_invokevirtual, x_invokestatic, x_invokedynamic, x_ireturn, x_freturn, x_dreturn, x_lreturn, x_areturn, x_return_, pI_c, pL_c, pR_c, pV_i, pV_r, gI_c, gL_c, gR_c, pN_z, pN_s, lget_c, lins_z, lins_c, ldel_z, ldel_c, ldel2_z, ldel2_c, lset_i, lset_l, lset_r, lkeep_z, lkeep_c, largs_z, largs_c, cat_i, cat_l, cat_r, lkp_c, cnd_eq, cnd_ne, cnd_lt, cnd_ge, cnd_gt, cnd_le, swL_z, swL_c, rE_e, rOr_s, rOr_n, rlk_z, rlk_c, aR_c, aI_c, aII_c, aIII_c, aRI_c, aRII_c, aRIII_c, vJn, vJs, vlc, aRR_c, aRRI_c, aRRII_c, aRRIII_c, aRIIII_c, aRL_c, aRLL_c, aLL_c, aRRRI_c, aIL_c, aIIII_c, aRRIIII_c, aIRII_c, aIR_c, aLI_c, aRIR_c, aRIIR_c, x1, ei]
            exact ⟨KO, fun z => by omega⟩
          · have ej := w32_succ (k := j) (by omega)
            have j1 : ¬ n < j := by omega
            have j2 : ¬ (n : Int) < j := by omega
            have j30 : j ≤ 30 := by omega
            have j30i : (j : Int) ≤ 30 := by omega
            have hok := hL.ok (show j ≤ n by omega)
            have hb0 := bm_0 ⟨i, by omega⟩ ⟨j, by omega⟩
            simp only at hb0
            have e1 : w32 (31 * (i : Int)) = 31 * i := w32_id (by omega) (by omega)
            have e2 : w32 (31 * (i : Int) + j) = 31 * i + j := w32_id (by omega) (by omega)
            have e3 : (0 : Int) ≤ 31 * i + j := by omega
            have e4 : 31 * (i : Int) + j < 961 := by omega
            have K := K (up σ' 195 (31 * (i : Int) + j) (if cdN i = j then 1 else 0)) ⟨q.1.up (sM (by unfold scrM; omega)), by rw [up_ne (by omega)]; exact q.2⟩ (fun x y hy hx => by
              rw [up_ap]
              by_cases hc : (31 * (x : Int) + (y : Int)) = 31 * (i : Int) + j
              · have hxi : x = i := by omega
                have hyj : y = j := by omega
                subst hxi hyj
                rw [if_pos ⟨rfl, rfl⟩]
              · rw [if_neg (fun z => hc z.2)]
                exact hL x y hy (by omega))
            refine wa (by decide) rgTy_ok tk_268 30 (fun N hN => ?_)
            by_cases hc : cdN i = j
            · have hz : bmN i j = 0 := by simpa [hc] using hb0
              rw [if_pos hc] at K
              simp [bl_268, hN _, x_iconst, x_ldc2_w, x_aconst_null, x_iload, x_lload, x_aload, x_istore, x_lstore, x_astore, x_iinc, x_iadd, x_isub, x_imul, x_idiv, x_irem, x_iand, x_ior, x_ixor, x_ishl, x_ishr, x_iushr, x_ineg, x_ladd, x_lsub, x_lmul, x_ldiv, x_lrem, x_lcmp, x_i2l, x_i2b, x_i2s, x_i2c, x_dup, x_pop, x_dup_x1, x_dup2, x_getfield, x_putfield, x_iaload, x_baload, x_saload, x_caload, x_daload, x_faload, x_laload, x_aaload, x_iastore, x_bastore, x_sastore, x_castore, x_lastore, x_aastore, x_arraylength, x_getstatic, x_goto, x_goto_w, x_ifCond, x_if_icmp, x_ifnull, x_ifnonnull, x_lookupswitch, x_invokevirtual, x_invokestatic, x_invokedynamic, x_ireturn, x_freturn, x_dreturn, x_lreturn, x_areturn, x_return_, pI_c, pL_c, pR_c, pV_i, pV_r, gI_c, gL_c, gR_c, pN_z, pN_s, lget_c, lins_z, lins_c, ldel_z, ldel_c, ldel2_z, ldel2_c, lset_i, lset_l, lset_r, lkeep_z, lkeep_c, largs_z, largs_c, cat_i, cat_l, cat_r, lkp_c, cnd_eq, cnd_ne, cnd_lt, cnd_ge, cnd_gt, cnd_le, swL_z, swL_c, rE_e, rOr_s, rOr_n, rlk_z, rlk_c, aR_c, aI_c, aII_c, aIII_c, aRI_c, aRII_c, aRIII_c, vJn, vJs, vlc, aRR_c, aRRI_c, aRRII_c, aRRIII_c, aRIIII_c, aRL_c, aRLL_c, aLL_c, aRRRI_c, aIL_c, aIIII_c, aRRIIII_c, aIRII_c, aIR_c, aLI_c, aRIR_c, aRIIR_c, mpBm, hM.o, hM.f35, hM.t195, hM.l195, hM, i30, j30, i30i, j30i, hok, hz, j1, j2, e1, e2, e3, e4, ej, i1_1]
              exact fun _ => K
            · have hz : ¬ bmN i j = 0 := by simpa [hc] using hb0
              have hz' : ¬ (bmN i j : Int) = 0 := by omega
              rw [if_neg hc] at K
              simp [bl_268, hN _, x_iconst, x_ldc2_w, x_aconst_null, x_iload, x_lload, x_aload, x_istore, x_lstore, x_astore, x_iinc, x_iadd, x_isub, x_imul, x_idiv, x_irem, x_iand, x_ior, x_ixor, x_ishl, x_ishr, x_iushr, x_ineg, x_ladd, x_lsub, x_lmul, x_ldiv, x_lrem, x_lcmp, x_i2l, x_i2b, x_i2s, x_i2c, x_dup, x_pop, x_dup_x1, x_dup2, x_getfield, x_putfield, x_iaload, x_baload, x_saload, x_caload, x_daload, x_faload, x_laload, x_aaload, x_iastore, x_bastore, x_sastore, x_castore, x_lastore, x_aastore, x_arraylength, x_getstatic, x_goto, x_goto_w, x_ifCond, x_if_icmp, x_ifnull, x_ifnonnull, x_lookupswitch, x_invokevirtual, x_invokestatic, x_invokedynamic, x_ireturn, x_freturn, x_dreturn, x_lreturn, x_areturn, x_return_, pI_c, pL_c, pR_c, pV_i, pV_r, gI_c, gL_c, gR_c, pN_z, pN_s, lget_c, lins_z, lins_c, ldel_z, ldel_c, ldel2_z, ldel2_c, lset_i, lset_l, lset_r, lkeep_z, lkeep_c, largs_z, largs_c, cat_i, cat_l, cat_r, lkp_c, cnd_eq, cnd_ne, cnd_lt, cnd_ge, cnd_gt, cnd_le, swL_z, swL_c, rE_e, rOr_s, rOr_n, rlk_z, rlk_c, aR_c, aI_c, aII_c, aIII_c, aRI_c, aRII_c, aRIII_c, vJn, vJs, vlc, aRR_c, aRRI_c, aRRII_c, aRRIII_c, aRIIII_c, aRL_c, aRLL_c, aLL_c, aRRRI_c, aIL_c, aIIII_c, aRRIIII_c, aIRII_c, aIR_c, aLI_c, aRIR_c, aRIIR_c, mpBm, hM.o, hM.f35, hM.t195, hM.l195, hM, i30, j30, i30i, j30i, hok, hz, hz', j1, j2, e1, e2, e3, e4, ej, show i1 0 = 0 from i1_01 (Or.inl rfl)]
              exact fun _ => K
        have K := I σ' q hL
        refine wa (by decide) rgTy_ok tk_268 30 (fun N hN => ?_)
        simp [bl_268, hN _, x_iconst, x_ldc2_w, x_aconst_null, x_iload, x_lload, x_aload, x_istore, x_lstore, x_astore, x_iinc, x_iadd, x_isub, x_imul, x_idiv, x_irem, x_iand, x_ior, x_ixor, x_ishl, x_ishr, x_iushr, x_ineg, x_ladd, x_lsub, x_lmul, x_ldiv, x_lrem, x_lcmp, x_i2l, x_i2b, x_i2s, x_i2c, x_dup, x_pop, x_dup_x1, x_dup2, x_getfield, x_putfield, x_iaload, x_baload, x_saload, x_caload, x_daload, x_faload, x_laload, x_aaload, x_iastore, x_bastore, x_sastore, x_castore, x_lastore, x_aastore, x_arraylength, x_getstatic, x_goto, x_goto_w, x_ifCond, x_if_icmp, x_ifnull, x_ifnonnull, x_lookupswitch, x_invokevirtual, x_invokestatic, x_invokedynamic, x_ireturn, x_freturn, x_dreturn, x_lreturn, x_areturn, x_return_, pI_c, pL_c, pR_c, pV_i, pV_r, gI_c, gL_c, gR_c, pN_z, pN_s, lget_c, lins_z, lins_c, ldel_z, ldel_c, ldel2_z, ldel2_c, lset_i, lset_l, lset_r, lkeep_z, lkeep_c, largs_z, largs_c, cat_i, cat_l, cat_r, lkp_c, cnd_eq, cnd_ne, cnd_lt, cnd_ge, cnd_gt, cnd_le, swL_z, swL_c, rE_e, rOr_s, rOr_n, rlk_z, rlk_c, aR_c, aI_c, aII_c, aIII_c, aRI_c, aRII_c, aRIII_c, vJn, vJs, vlc, aRR_c, aRRI_c, aRRII_c, aRRIII_c, aRIIII_c, aRL_c, aRLL_c, aLL_c, aRRRI_c, aIL_c, aIIII_c, aRRIIII_c, aIRII_c, aIR_c, aLI_c, aRIR_c, aRIIR_c, ia, ib]
        exact fun _ => K
    have K := O (up σ 175 8 0) ⟨QFM.rf.up sf8, by simp [up_ap]⟩ (fun x y _ hx => by omega)
    refine wg (by decide) rgTy_ok tk_268 py_268 ml_268 30 (by simp [catT]) (fun N hN => ?_)
    simp [bl_268, hN _, x_iconst, x_ldc2_w, x_aconst_null, x_iload, x_lload, x_aload, x_istore, x_lstore, x_astore, x_iinc, x_iadd, x_isub, x_imul, x_idiv, x_irem, x_iand, x_ior, x_ixor, x_ishl, x_ishr, x_iushr, x_ineg, x_ladd, x_lsub, x_lmul, x_ldiv, x_lrem, x_lcmp, x_i2l, x_i2b, x_i2s, x_i2c, x_dup, x_pop, x_dup_x1, x_dup2, x_getfield, x_putfield, x_iaload, x_baload, x_saload, x_caload, x_daload, x_faload, x_laload, x_aaload, x_iastore, x_bastore, x_sastore, x_castore, x_lastore, x_aastore, x_arraylength, x_getstatic, x_goto, x_goto_w, x_ifCond, x_if_icmp, x_ifnull, x_ifnonnull, x_lookupswitch, x_invokevirtual, x_invokestatic, x_invokedynamic, x_ireturn, x_freturn, x_dreturn, x_lreturn, x_areturn, x_return_, pI_c, pL_c, pR_c, pV_i, pV_r, gI_c, gL_c, gR_c, pN_z, pN_s, lget_c, lins_z, lins_c, ldel_z, ldel_c, ldel2_z, ldel2_c, lset_i, lset_l, lset_r, lkeep_z, lkeep_c, largs_z, largs_c, cat_i, cat_l, cat_r, lkp_c, cnd_eq, cnd_ne, cnd_lt, cnd_ge, cnd_gt, cnd_le, swL_z, swL_c, rE_e, rOr_s, rOr_n, rlk_z, rlk_c, aR_c, aI_c, aII_c, aIII_c, aRI_c, aRII_c, aRIII_c, vJn, vJs, vlc, aRR_c, aRRI_c, aRRII_c, aRRIII_c, aRIIII_c, aRL_c, aRLL_c, aLL_c, aRRRI_c, aIL_c, aIIII_c, aRRIIII_c, aIRII_c, aIR_c, aLI_c, aRIR_c, aRIIR_c, hM.o, mpIn, a30, b30, a1, b1]
    exact ⟨fun z => by omega, K, fun z => by omega⟩
  · unfold trQ at h
    rw [if_neg hv] at h
    have h := h _ QTM.rf
    refine wg (by decide) rgTy_ok tk_268 py_268 ml_268 30 (by simp [catT]) (fun N hN => ?_)
    simp [bl_268, hN _, x_iconst, x_ldc2_w, x_aconst_null, x_iload, x_lload, x_aload, x_istore, x_lstore, x_astore, x_iinc, x_iadd, x_isub, x_imul, x_idiv, x_irem, x_iand, x_ior, x_ixor, x_ishl, x_ishr, x_iushr, x_ineg, x_ladd, x_lsub, x_lmul, x_ldiv, x_lrem, x_lcmp, x_i2l, x_i2b, x_i2s, x_i2c, x_dup, x_pop, x_dup_x1, x_dup2, x_getfield, x_putfield, x_iaload, x_baload, x_saload, x_caload, x_daload, x_faload, x_laload, x_aaload, x_iastore, x_bastore, x_sastore, x_castore, x_lastore, x_aastore, x_arraylength, x_getstatic, x_goto, x_goto_w, x_ifCond, x_if_icmp, x_ifnull, x_ifnonnull, x_lookupswitch, x_invokevirtual, x_invokestatic, x_invokedynamic, x_ireturn, x_freturn, x_dreturn, x_lreturn, x_areturn, x_return_, pI_c, pL_c, pR_c, pV_i, pV_r, gI_c, gL_c, gR_c, pN_z, pN_s, lget_c, lins_z, lins_c, ldel_z, ldel_c, ldel2_z, ldel2_c, lset_i, lset_l, lset_r, lkeep_z, lkeep_c, largs_z, largs_c, cat_i, cat_l, cat_r, lkp_c, cnd_eq, cnd_ne, cnd_lt, cnd_ge, cnd_gt, cnd_le, swL_z, swL_c, rE_e, rOr_s, rOr_n, rlk_z, rlk_c, aR_c, aI_c, aII_c, aIII_c, aRI_c, aRII_c, aRIII_c, vJn, vJs, vlc, aRR_c, aRRI_c, aRRII_c, aRRIII_c, aRIIII_c, aRL_c, aRLL_c, aLL_c, aRRRI_c, aIL_c, aIIII_c, aRRIIII_c, aIRII_c, aIR_c, aLI_c, aRIR_c, aRIIR_c, hM.o, mpIn]
    grind
