/-! the reference: years -/
theorem ush (x : UInt32) : 0 ≤ (x >>> 16).toInt32.toInt ∧ (x >>> 16).toInt32.toInt < 65536 := by
  have h : (x >>> 16).toNat < 65536 := by
    rw [UInt32.toNat_shiftRight]
    have := x.toNat_lt
    have e : UInt32.toNat 16 % 32 = 16 := rfl
    rw [e, Nat.shiftRight_eq_div_pow]
    omega
  generalize x >>> 16 = y at h
  have e : y.toInt32.toInt = (y.toNat : Int) := by
    show BitVec.toInt y.toBitVec = (y.toBitVec.toNat : Int)
    rw [BitVec.toInt_eq_toNat_of_lt]
    have : y.toBitVec.toNat = y.toNat := rfl
    omega
  omega
theorem ush2 (x : Int) : ((Int32.ofInt x).toUInt32 >>> ((Int32.ofInt 16).toUInt32 &&& Int32.toUInt32 31)) = (Int32.ofInt x).toUInt32 >>> 16 := by
  have : ((Int32.ofInt 16).toUInt32 &&& Int32.toUInt32 31) = 16 := by decide
  rw [this]
theorem iushr_16 (x : Int) : 0 ≤ iushr x 16 ∧ iushr x 16 < 65536 := by rw [iushr_eq, ush2]; exact ush _
theorem drw_b {R : Int} {n : Int} (h0 : 0 < n) (h1 : n ≤ 1000) : 0 ≤ drw R n ∧ drw R n < n := by
  unfold drw
  obtain ⟨a, b⟩ := iushr_16 (nxR R)
  have e1 := Int.tmod_nonneg n a
  have e2 := Int.tmod_lt_of_pos (iushr (nxR R) 16) h0
  rw [w32_id (by omega) (by omega)]
  exact ⟨e1, e2⟩
theorem rfS_sew {n : Nat} {V : Int → Int} {s f k : Int} : (rfSew n V s f k = 0 → sewN n V s f k = sewV V s f k ∧ ((0 ≤ s ∧ s < n) ∧ (0 ≤ f ∧ f < 4) ∧ (1 ≤ k ∧ k ≤ 12))) ∧ (rfSew n V s f k ≠ 0 → sewN n V s f k = V) := by
  unfold rfSew sewN
  by_cases c1 : (0 ≤ s ∧ s < n) ∧ (0 ≤ f ∧ f < 4) ∧ (1 ≤ k ∧ k ≤ 12)
  · by_cases c2 : ownV V s < k
    · simp [c1, c2]
    · by_cases c3 : V (6 + s) = f
      · simp [c1, c2, c3]
      · simp [c1, c2, c3]
  · simp [c1]
theorem wf_year {F : (Int → Int) → Int} {n : Nat} {M V : Int → Int} {k R : Int} (h : WFV n M V) (hk : 1 ≤ k ∧ k ≤ 6) : WFV n M (yearV F n M k (R, V)).2 := by
  unfold yearV
  split
  · exact wf_day h
  split
  · exact h
  split
  · exact wf_sewN h _ _ _
  · exact wf_fgtV h hk
theorem wf_yrs {F : (Int → Int) → Int} {n : Nat} {M V : Int → Int} {k R : Int} (h : WFV n M V) (hk : 1 ≤ k ∧ k ≤ 6) : ∀ i, WFV n M (yrsV F n M k R V i).2
  | 0 => h
  | i + 1 => wf_year (R := (yrsV F n M k R V i).1) (wf_yrs h hk i) hk
abbrev rgYrs : Reg := (276, mpDraw) :: rgMw
theorem rgYrs_ok {l : Launch} {g : GE} {d : Nat} : ∀ e as t σ Q, rE l g (d + 92) rgYrs e as t σ Q → WPc l g e (d + 92) 0 0 as t σ Q := rE_cons (fun _ _ _ _ h => m_draw h) rgMw_ok
noncomputable def yrsMQ (n : Nat) (W : Int → Int) : QA := (W 49, some [sumW (fun i => W (0 + i)) n, sumW (fun i => W (36 + i)) n])
theorem sf36 : scrM 175 ∨ ((175 : Int) = 175 ∧ scrF 36) := Or.inr ⟨rfl, by unfold scrF; omega⟩
set_option maxHeartbeats 2000000 in
set_option maxRecDepth 20000 in
theorem mo_years {l : Launch} {g : GE} {d : Nat} {t : Tau} {σ : Mem} {Q : Post} {R m : Int} {F : (Int → Int) → Int} (hk : MK t σ) (hR : MR t σ F) (hT : 1 ≤ σ 175 2 ∧ σ 175 2 ≤ 6) (h : ansM (if 1 ≤ m ∧ m ≤ 60 then yrsMQ (nM σ) (yrsV F (nM σ) (mM σ) (σ 175 2) R (upv (vA σ 176) 49 0) m.toNat).2 else (-1, none)) t σ Q) : WPc l g 277 (d + 93) 0 0 [vR 175, vI R, vI m] t σ Q := by
  obtain ⟨hM, hW⟩ := hk
  have n6 := hM.2.2
  have z0 := hM.2.1
  have oM := hM.1.o
  unfold ansM at h
  by_cases hs : 1 ≤ m ∧ m ≤ 60
  · rw [if_pos hs] at h
    obtain ⟨m0, m1⟩ := hs
    have hW0 := wf_49 hW (x := 0) (by omega)
    generalize hV0 : upv (vA σ 176) 49 0 = V0 at h hW0
    have hr6 : rwO 186 := by unfold rwO; omega
    have E : ∀ (σ' : Mem) (W : Int → Int), W = (yrsV F (nM σ) (mM σ) (σ 175 2) R V0 m.toNat).2 → QFM σ σ' → σ' 175 8 = 0 → vA σ' 186 = W → Wp l g 277 (d + 93) 0 0 44 [(0, vR 175), (2, vI m), (3, vI m)] [] t σ' Q := by
      intro σ' W hWe q1 q8 hv
      rw [← hWe] at h
      have x1 : σ' 186 49 = W 49 := by rw [vA_at (σ := σ') (r := 186) (by omega) (by omega), hv]
      have K := h _ (QTM.q2 q1 q8)
      have hM1 : MdOk t (up σ' 175 7 0) := by rw [md_up (by omega)]; exact q1.md hM
      refine wa (by decide) rgYrs_ok ts_277 30 (fun N hN => ?_)
      simp [bs_277, sg_277_180_1, sg_277_180_2, hN _, x_iconst, x_ldc2_w, x_aconst_null, x_iload, x_lload, x_aload, x_istore, x_lstore, x_astore, x_iinc, x_iadd, x_isub, x_imul, x_idiv, x_irem, x_iand, x_ior, x_ixor, x_ishl, x_ishr, x_iushr, x_ineg, x_ladd, x_lsub, x_lmul, x_ldiv, x_lrem, x_lcmp, x_i2l, x_i2b, x_i2s, x_i2c, x_dup, x_pop, x_dup_x1, x_dup2, x_getfield, x_putfield, x_iaload, x_baload, x_saload, x_caload, x_daload, x_faload, x_laload, x_aaload, x_iastore, x_bastore, x_sastore, x_castore, x_lastore, x_aastore, x_arraylength, x_getstatic, x_goto, x_goto_w, x_ifCond, x_if_icmp, x_ifnull, x_ifnonnull, x_lookupswitch, x_invokevirtual, x_invokestatic, x_invokedynamic, x_ireturn, x_freturn, x_dreturn, x_lreturn, x_areturn, x_return_, pI_c, pL_c, pR_c, pV_i, pV_r, gI_c, gL_c, gR_c, pN_z, pN_s, lget_c, lins_z, lins_c, ldel_z, ldel_c, ldel2_z, ldel2_c, lset_i, lset_l, lset_r, lkeep_z, lkeep_c, largs_z, largs_c, cat_i, cat_l, cat_r, lkp_c, cnd_eq, cnd_ne, cnd_lt, cnd_ge, cnd_gt, cnd_le, swL_z, swL_c, rE_e, rOr_s, rOr_n, rlk_z, rlk_c, aR_c, aI_c, aII_c, aIII_c, aRI_c, aRII_c, aRIII_c, vJn, vJs, vlc, aRR_c, aRRI_c, aRRII_c, aRRIII_c, aRIIII_c, aRL_c, aRLL_c, aLL_c, aRRRI_c, aIL_c, aIIII_c, aRRIIII_c, aIRII_c, aIR_c, aLI_c, aRIR_c, aRIIR_c, oM, hM.1, hM.1.f23, hM.1.t186, hM.1.l186, mpSumOf, mpTell, md_up, q1.md hM, RowT.thn hM.1, nM_up, q1.n, vA_up, hv, up_ap, x1]
      simp only [Int.zero_add] at K
      exact K
    have K : ∀ (q i : Nat) (σ' : Mem), i + q = m.toNat → QFM σ σ' → σ' 175 8 = 0 → σ' 175 36 = (yrsV F (nM σ) (mM σ) (σ 175 2) R V0 i).1 → vA σ' 186 = (yrsV F (nM σ) (mM σ) (σ 175 2) R V0 i).2 → Wp l g 277 (d + 93) 0 0 44 [(0, vR 175), (2, vI m), (3, vI i)] [] t σ' Q := by
      intro q
      induction q with
      | zero =>
        intro i σ' hi q1 q8 q36 hv
        obtain rfl : i = m.toNat := by omega
        have := E σ' _ rfl q1 q8 hv
        rwa [show ((m.toNat : Nat) : Int) = m by omega]
      | succ q ih =>
        intro i σ' hi q1 q8 q36 hv
        have e1 : ¬ m ≤ (i : Int) := by omega
        have e2 := w32_succ (k := i) (by omega)
        have hWi := wf_yrs (F := F) (R := R) hW0 hT i
        have ih := ih (i + 1)
        have es : yrsV F (nM σ) (mM σ) (σ 175 2) R V0 (i + 1) = yearV F (nM σ) (mM σ) (σ 175 2) (yrsV F (nM σ) (mM σ) (σ 175 2) R V0 i) := rfl
        rw [es] at ih
        generalize yrsV F (nM σ) (mM σ) (σ 175 2) R V0 i = s at ih q36 hv hWi
        obtain ⟨R', W⟩ := s
        simp only at q36 hv hWi
        have d4 := drw_b (R := R') (n := 4) (by omega) (by omega)
        have z1 : σ' 175 1 = nM σ := by rw [q1.2 1 (by unfold scrF; omega), z0]
        have t1 : σ' 175 2 = σ 175 2 := q1.2 2 (by unfold scrF; omega)
        unfold yearV at ih
        simp only at ih
        refine wa (by decide) rgYrs_ok ts_277 30 (fun N hN => ?_)
        simp [bs_277, hN _, x_iconst, x_ldc2_w, x_aconst_null, x_iload, x_lload, x_aload, x_istore, x_lstore, x_astore, x_iinc, x_iadd, x_isub, x_imul, x_idiv, x_irem, x_iand, x_ior, x_ixor, x_ishl, x_ishr, x_iushr, x_ineg, x_ladd, x_lsub, x_lmul, x_ldiv, x_lrem, x_lcmp, x_i2l, x_i2b, x_i2s, x_i2c, x_dup, x_pop, x_dup_x1, x_dup2, x_getfield, x_putfield, x_iaload, x_baload, x_saload, x_caload, x_daload, x_faload, x_laload, x_aaload, x_iastore, x_bastore, x_sastore, x_castore, x_lastore, x_aastore, x_arraylength, x_getstatic, x_goto, x_goto_w, x_ifCond, x_if_icmp, x_ifnull, x_ifnonnull, x_lookupswitch, x_invokevirtual, x_invokestatic, x_invokedynamic, x_ireturn, x_freturn, x_dreturn, x_lreturn, x_areturn, x_return_, pI_c, pL_c, pR_c, pV_i, pV_r, gI_c, gL_c, gR_c, pN_z, pN_s, lget_c, lins_z, lins_c, ldel_z, ldel_c, ldel2_z, ldel2_c, lset_i, lset_l, lset_r, lkeep_z, lkeep_c, largs_z, largs_c, cat_i, cat_l, cat_r, lkp_c, cnd_eq, cnd_ne, cnd_lt, cnd_ge, cnd_gt, cnd_le, swL_z, swL_c, rE_e, rOr_s, rOr_n, rlk_z, rlk_c, aR_c, aI_c, aII_c, aIII_c, aRI_c, aRII_c, aRIII_c, vJn, vJs, vlc, aRR_c, aRRI_c, aRRII_c, aRRIII_c, aRIIII_c, aRL_c, aRLL_c, aLL_c, aRRRI_c, aIL_c, aIIII_c, aRRIIII_c, aIRII_c, aIR_c, aLI_c, aRIR_c, aRIIR_c, oM, hM.1, e1, mpDraw, q36]
        intro _
        generalize hD : drw R' 4 = D at d4 ih
        by_cases hD0 : D = 0
        · rw [if_pos hD0] at ih
          have p1 : QFM σ (up σ' 175 36 (nxR R')) := q1.up sf36
          have A1 : ARow t (up σ' 175 36 (nxR R')) 186 := ⟨RowT.thn hM.1, by rw [p1.n, p1.m, vA_up (by omega), hv]; exact hWi⟩
          simp [sg_277_44_1, hN _, x_iconst, x_ldc2_w, x_aconst_null, x_iload, x_lload, x_aload, x_istore, x_lstore, x_astore, x_iinc, x_iadd, x_isub, x_imul, x_idiv, x_irem, x_iand, x_ior, x_ixor, x_ishl, x_ishr, x_iushr, x_ineg, x_ladd, x_lsub, x_lmul, x_ldiv, x_lrem, x_lcmp, x_i2l, x_i2b, x_i2s, x_i2c, x_dup, x_pop, x_dup_x1, x_dup2, x_getfield, x_putfield, x_iaload, x_baload, x_saload, x_caload, x_daload, x_faload, x_laload, x_aaload, x_iastore, x_bastore, x_sastore, x_castore, x_lastore, x_aastore, x_arraylength, x_getstatic, x_goto, x_goto_w, x_ifCond, x_if_icmp, x_ifnull, x_ifnonnull, x_lookupswitch, x_invokevirtual, x_invokestatic, x_invokedynamic, x_ireturn, x_freturn, x_dreturn, x_lreturn, x_areturn, x_return_, pI_c, pL_c, pR_c, pV_i, pV_r, gI_c, gL_c, gR_c, pN_z, pN_s, lget_c, lins_z, lins_c, ldel_z, ldel_c, ldel2_z, ldel2_c, lset_i, lset_l, lset_r, lkeep_z, lkeep_c, largs_z, largs_c, cat_i, cat_l, cat_r, lkp_c, cnd_eq, cnd_ne, cnd_lt, cnd_ge, cnd_gt, cnd_le, swL_z, swL_c, rE_e, rOr_s, rOr_n, rlk_z, rlk_c, aR_c, aI_c, aII_c, aIII_c, aRI_c, aRII_c, aRIII_c, vJn, vJs, vlc, aRR_c, aRRI_c, aRRII_c, aRRIII_c, aRIIII_c, aRL_c, aRLL_c, aLL_c, aRRRI_c, aIL_c, aIIII_c, aRRIIII_c, aIRII_c, aIR_c, aLI_c, aRIR_c, aRIIR_c, oM, hM.1.f23, hD0, mpDay, p1.md hM, A1, p1.n, p1.m, vA_up, hv]
          intro σ2 T
          have K := ih σ2 (by omega) (p1.tr (T.q sc186 (by omega))) (by rw [T.1 175 (by omega)]; simp [up_ap, q8]) (by rw [T.1 175 (by omega)]; simp [up_ap]) T.2
          simp [sg_277_44_2, bs_277, hN _, x_iconst, x_ldc2_w, x_aconst_null, x_iload, x_lload, x_aload, x_istore, x_lstore, x_astore, x_iinc, x_iadd, x_isub, x_imul, x_idiv, x_irem, x_iand, x_ior, x_ixor, x_ishl, x_ishr, x_iushr, x_ineg, x_ladd, x_lsub, x_lmul, x_ldiv, x_lrem, x_lcmp, x_i2l, x_i2b, x_i2s, x_i2c, x_dup, x_pop, x_dup_x1, x_dup2, x_getfield, x_putfield, x_iaload, x_baload, x_saload, x_caload, x_daload, x_faload, x_laload, x_aaload, x_iastore, x_bastore, x_sastore, x_castore, x_lastore, x_aastore, x_arraylength, x_getstatic, x_goto, x_goto_w, x_ifCond, x_if_icmp, x_ifnull, x_ifnonnull, x_lookupswitch, x_invokevirtual, x_invokestatic, x_invokedynamic, x_ireturn, x_freturn, x_dreturn, x_lreturn, x_areturn, x_return_, pI_c, pL_c, pR_c, pV_i, pV_r, gI_c, gL_c, gR_c, pN_z, pN_s, lget_c, lins_z, lins_c, ldel_z, ldel_c, ldel2_z, ldel2_c, lset_i, lset_l, lset_r, lkeep_z, lkeep_c, largs_z, largs_c, cat_i, cat_l, cat_r, lkp_c, cnd_eq, cnd_ne, cnd_lt, cnd_ge, cnd_gt, cnd_le, swL_z, swL_c, rE_e, rOr_s, rOr_n, rlk_z, rlk_c, aR_c, aI_c, aII_c, aIII_c, aRI_c, aRII_c, aRIII_c, vJn, vJs, vlc, aRR_c, aRRI_c, aRRII_c, aRRIII_c, aRIIII_c, aRL_c, aRLL_c, aLL_c, aRRRI_c, aIL_c, aIIII_c, aRRIIII_c, aIRII_c, aIR_c, aLI_c, aRIR_c, aRIIR_c, hD0, e2]
          exact K
        · rw [if_neg hD0] at ih
          by_cases hn0 : nM σ = 0
          · rw [if_pos hn0] at ih
            have K := ih (up σ' 175 36 (nxR R')) (by omega) (q1.up sf36) (by simp [up_ap, q8]) (by simp [up_ap]) (by rw [vA_up (by omega)]; exact hv)
            simp [sg_277_44_1, bs_277, hN _, x_iconst, x_ldc2_w, x_aconst_null, x_iload, x_lload, x_aload, x_istore, x_lstore, x_astore, x_iinc, x_iadd, x_isub, x_imul, x_idiv, x_irem, x_iand, x_ior, x_ixor, x_ishl, x_ishr, x_iushr, x_ineg, x_ladd, x_lsub, x_lmul, x_ldiv, x_lrem, x_lcmp, x_i2l, x_i2b, x_i2s, x_i2c, x_dup, x_pop, x_dup_x1, x_dup2, x_getfield, x_putfield, x_iaload, x_baload, x_saload, x_caload, x_daload, x_faload, x_laload, x_aaload, x_iastore, x_bastore, x_sastore, x_castore, x_lastore, x_aastore, x_arraylength, x_getstatic, x_goto, x_goto_w, x_ifCond, x_if_icmp, x_ifnull, x_ifnonnull, x_lookupswitch, x_invokevirtual, x_invokestatic, x_invokedynamic, x_ireturn, x_freturn, x_dreturn, x_lreturn, x_areturn, x_return_, pI_c, pL_c, pR_c, pV_i, pV_r, gI_c, gL_c, gR_c, pN_z, pN_s, lget_c, lins_z, lins_c, ldel_z, ldel_c, ldel2_z, ldel2_c, lset_i, lset_l, lset_r, lkeep_z, lkeep_c, largs_z, largs_c, cat_i, cat_l, cat_r, lkp_c, cnd_eq, cnd_ne, cnd_lt, cnd_ge, cnd_gt, cnd_le, swL_z, swL_c, rE_e, rOr_s, rOr_n, rlk_z, rlk_c, aR_c, aI_c, aII_c, aIII_c, aRI_c, aRII_c, aRIII_c, vJn, vJs, vlc, aRR_c, aRRI_c, aRRII_c, aRRIII_c, aRIIII_c, aRL_c, aRLL_c, aLL_c, aRRRI_c, aIL_c, aIIII_c, aRRIIII_c, aIRII_c, aIR_c, aLI_c, aRIR_c, aRIIR_c, oM, hD0, up_ap, z1, hn0, e2]
            exact K
          · rw [if_neg hn0] at ih
            have np : 0 < (nM σ : Int) := by omega
            have npn : 0 < nM σ := by omega
            have a2 := drw_b (R := nxR R') (n := nM σ) np (by omega)
            simp [sg_277_44_1, bs_277, hN _, x_iconst, x_ldc2_w, x_aconst_null, x_iload, x_lload, x_aload, x_istore, x_lstore, x_astore, x_iinc, x_iadd, x_isub, x_imul, x_idiv, x_irem, x_iand, x_ior, x_ixor, x_ishl, x_ishr, x_iushr, x_ineg, x_ladd, x_lsub, x_lmul, x_ldiv, x_lrem, x_lcmp, x_i2l, x_i2b, x_i2s, x_i2c, x_dup, x_pop, x_dup_x1, x_dup2, x_getfield, x_putfield, x_iaload, x_baload, x_saload, x_caload, x_daload, x_faload, x_laload, x_aaload, x_iastore, x_bastore, x_sastore, x_castore, x_lastore, x_aastore, x_arraylength, x_getstatic, x_goto, x_goto_w, x_ifCond, x_if_icmp, x_ifnull, x_ifnonnull, x_lookupswitch, x_invokevirtual, x_invokestatic, x_invokedynamic, x_ireturn, x_freturn, x_dreturn, x_lreturn, x_areturn, x_return_, pI_c, pL_c, pR_c, pV_i, pV_r, gI_c, gL_c, gR_c, pN_z, pN_s, lget_c, lins_z, lins_c, ldel_z, ldel_c, ldel2_z, ldel2_c, lset_i, lset_l, lset_r, lkeep_z, lkeep_c, largs_z, largs_c, cat_i, cat_l, cat_r, lkp_c, cnd_eq, cnd_ne, cnd_lt, cnd_ge, cnd_gt, cnd_le, swL_z, swL_c, rE_e, rOr_s, rOr_n, rlk_z, rlk_c, aR_c, aI_c, aII_c, aIII_c, aRI_c, aRII_c, aRIII_c, vJn, vJs, vlc, aRR_c, aRRI_c, aRRII_c, aRRIII_c, aRIIII_c, aRL_c, aRLL_c, aLL_c, aRRRI_c, aIL_c, aIIII_c, aRRIIII_c, aIRII_c, aIR_c, aLI_c, aRIR_c, aRIIR_c, oM, hM.1, hD0, up_ap, z1, hn0, mpDraw, npn]
            by_cases hD3 : D = 3
            · rw [if_pos hD3] at ih
              have b2 := drw_b (R := nxR (nxR R')) (n := 4) (by omega) (by omega)
              generalize drw (nxR R') (nM σ) = A at ih a2
              simp [sg_277_84_1, bs_277, hN _, x_iconst, x_ldc2_w, x_aconst_null, x_iload, x_lload, x_aload, x_istore, x_lstore, x_astore, x_iinc, x_iadd, x_isub, x_imul, x_idiv, x_irem, x_iand, x_ior, x_ixor, x_ishl, x_ishr, x_iushr, x_ineg, x_ladd, x_lsub, x_lmul, x_ldiv, x_lrem, x_lcmp, x_i2l, x_i2b, x_i2s, x_i2c, x_dup, x_pop, x_dup_x1, x_dup2, x_getfield, x_putfield, x_iaload, x_baload, x_saload, x_caload, x_daload, x_faload, x_laload, x_aaload, x_iastore, x_bastore, x_sastore, x_castore, x_lastore, x_aastore, x_arraylength, x_getstatic, x_goto, x_goto_w, x_ifCond, x_if_icmp, x_ifnull, x_ifnonnull, x_lookupswitch, x_invokevirtual, x_invokestatic, x_invokedynamic, x_ireturn, x_freturn, x_dreturn, x_lreturn, x_areturn, x_return_, pI_c, pL_c, pR_c, pV_i, pV_r, gI_c, gL_c, gR_c, pN_z, pN_s, lget_c, lins_z, lins_c, ldel_z, ldel_c, ldel2_z, ldel2_c, lset_i, lset_l, lset_r, lkeep_z, lkeep_c, largs_z, largs_c, cat_i, cat_l, cat_r, lkp_c, cnd_eq, cnd_ne, cnd_lt, cnd_ge, cnd_gt, cnd_le, swL_z, swL_c, rE_e, rOr_s, rOr_n, rlk_z, rlk_c, aR_c, aI_c, aII_c, aIII_c, aRI_c, aRII_c, aRIII_c, vJn, vJs, vlc, aRR_c, aRRI_c, aRRII_c, aRRIII_c, aRIIII_c, aRL_c, aRLL_c, aLL_c, aRRRI_c, aIL_c, aIIII_c, aRRIIII_c, aIRII_c, aIR_c, aLI_c, aRIR_c, aRIIR_c, oM, hM.1, hD3, up_ap, mpDraw]
              generalize drw (nxR (nxR R')) 4 = B at ih b2
              generalize hσ3 : up (up (up σ' 175 36 (nxR R')) 175 36 (nxR (nxR R'))) 175 36 (nxR (nxR (nxR R'))) = σ3
              have p3 : QFM σ σ3 := by rw [← hσ3]; exact ((q1.up sf36).up sf36).up sf36
              have v3 : vA σ3 186 = W := by rw [← hσ3, vA_up (by omega), vA_up (by omega), vA_up (by omega)]; exact hv
              have r3 : σ3 175 36 = nxR (nxR (nxR R')) := by rw [← hσ3]; simp [up_ap]
              have t3 : σ3 175 8 = 0 := by rw [← hσ3]; simp [up_ap, q8]
              have A3 : ARow t σ3 186 := ⟨RowT.thn hM.1, by rw [p3.n, p3.m, v3]; exact hWi⟩
              have rf := rfS_sew (n := nM σ) (V := W) (s := A) (f := B) (k := 1)
              by_cases hz : rfSew (nM σ) W A B 1 = 0
              · obtain ⟨g1, g2, g3, g4⟩ := rf.1 hz
                rw [g1] at ih
                have A6 : A < 6 := by omega
                have hSh : ShOK (vA σ3 186) A := by rw [v3]; exact hWi.sh g2.1 g2.2
                simp [sg_277_109_1, hN _, x_iconst, x_ldc2_w, x_aconst_null, x_iload, x_lload, x_aload, x_istore, x_lstore, x_astore, x_iinc, x_iadd, x_isub, x_imul, x_idiv, x_irem, x_iand, x_ior, x_ixor, x_ishl, x_ishr, x_iushr, x_ineg, x_ladd, x_lsub, x_lmul, x_ldiv, x_lrem, x_lcmp, x_i2l, x_i2b, x_i2s, x_i2c, x_dup, x_pop, x_dup_x1, x_dup2, x_getfield, x_putfield, x_iaload, x_baload, x_saload, x_caload, x_daload, x_faload, x_laload, x_aaload, x_iastore, x_bastore, x_sastore, x_castore, x_lastore, x_aastore, x_arraylength, x_getstatic, x_goto, x_goto_w, x_ifCond, x_if_icmp, x_ifnull, x_ifnonnull, x_lookupswitch, x_invokevirtual, x_invokestatic, x_invokedynamic, x_ireturn, x_freturn, x_dreturn, x_lreturn, x_areturn, x_return_, pI_c, pL_c, pR_c, pV_i, pV_r, gI_c, gL_c, gR_c, pN_z, pN_s, lget_c, lins_z, lins_c, ldel_z, ldel_c, ldel2_z, ldel2_c, lset_i, lset_l, lset_r, lkeep_z, lkeep_c, largs_z, largs_c, cat_i, cat_l, cat_r, lkp_c, cnd_eq, cnd_ne, cnd_lt, cnd_ge, cnd_gt, cnd_le, swL_z, swL_c, rE_e, rOr_s, rOr_n, rlk_z, rlk_c, aR_c, aI_c, aII_c, aIII_c, aRI_c, aRII_c, aRIII_c, vJn, vJs, vlc, aRR_c, aRRI_c, aRRII_c, aRRIII_c, aRIIII_c, aRL_c, aRLL_c, aLL_c, aRRRI_c, aIL_c, aIIII_c, aRRIIII_c, aIRII_c, aIR_c, aLI_c, aRIR_c, aRIIR_c, oM, hM.1.f23, hD3, mpRefS, p3.md hM, A3, p3.n, v3, hz, mpSew, RowT.thn hM.1, a2, b2, A6]
                rw [v3] at hSh
                refine ⟨hSh, fun σ4 T => ?_⟩
                have K := ih σ4 (by omega) (p3.tr (T.q sc186 (by omega))) (by rw [T.1 175 (by omega)]; exact t3) (by rw [T.1 175 (by omega)]; exact r3) T.2
                simp [sg_277_109_2, bs_277, hN _, x_iconst, x_ldc2_w, x_aconst_null, x_iload, x_lload, x_aload, x_istore, x_lstore, x_astore, x_iinc, x_iadd, x_isub, x_imul, x_idiv, x_irem, x_iand, x_ior, x_ixor, x_ishl, x_ishr, x_iushr, x_ineg, x_ladd, x_lsub, x_lmul, x_ldiv, x_lrem, x_lcmp, x_i2l, x_i2b, x_i2s, x_i2c, x_dup, x_pop, x_dup_x1, x_dup2, x_getfield, x_putfield, x_iaload, x_baload, x_saload, x_caload, x_daload, x_faload, x_laload, x_aaload, x_iastore, x_bastore, x_sastore, x_castore, x_lastore, x_aastore, x_arraylength, x_getstatic, x_goto, x_goto_w, x_ifCond, x_if_icmp, x_ifnull, x_ifnonnull, x_lookupswitch, x_invokevirtual, x_invokestatic, x_invokedynamic, x_ireturn, x_freturn, x_dreturn, x_lreturn, x_areturn, x_return_, pI_c, pL_c, pR_c, pV_i, pV_r, gI_c, gL_c, gR_c, pN_z, pN_s, lget_c, lins_z, lins_c, ldel_z, ldel_c, ldel2_z, ldel2_c, lset_i, lset_l, lset_r, lkeep_z, lkeep_c, largs_z, largs_c, cat_i, cat_l, cat_r, lkp_c, cnd_eq, cnd_ne, cnd_lt, cnd_ge, cnd_gt, cnd_le, swL_z, swL_c, rE_e, rOr_s, rOr_n, rlk_z, rlk_c, aR_c, aI_c, aII_c, aIII_c, aRI_c, aRII_c, aRIII_c, vJn, vJs, vlc, aRR_c, aRRI_c, aRRII_c, aRRIII_c, aRIIII_c, aRL_c, aRLL_c, aLL_c, aRRRI_c, aIL_c, aIIII_c, aRRIIII_c, aIRII_c, aIR_c, aLI_c, aRIR_c, aRIIR_c, hD3, e2]
                exact K
              · rw [rf.2 hz] at ih
                have K := ih σ3 (by omega) p3 t3 r3 v3
                simp [sg_277_109_1, bs_277, hN _, x_iconst, x_ldc2_w, x_aconst_null, x_iload, x_lload, x_aload, x_istore, x_lstore, x_astore, x_iinc, x_iadd, x_isub, x_imul, x_idiv, x_irem, x_iand, x_ior, x_ixor, x_ishl, x_ishr, x_iushr, x_ineg, x_ladd, x_lsub, x_lmul, x_ldiv, x_lrem, x_lcmp, x_i2l, x_i2b, x_i2s, x_i2c, x_dup, x_pop, x_dup_x1, x_dup2, x_getfield, x_putfield, x_iaload, x_baload, x_saload, x_caload, x_daload, x_faload, x_laload, x_aaload, x_iastore, x_bastore, x_sastore, x_castore, x_lastore, x_aastore, x_arraylength, x_getstatic, x_goto, x_goto_w, x_ifCond, x_if_icmp, x_ifnull, x_ifnonnull, x_lookupswitch, x_invokevirtual, x_invokestatic, x_invokedynamic, x_ireturn, x_freturn, x_dreturn, x_lreturn, x_areturn, x_return_, pI_c, pL_c, pR_c, pV_i, pV_r, gI_c, gL_c, gR_c, pN_z, pN_s, lget_c, lins_z, lins_c, ldel_z, ldel_c, ldel2_z, ldel2_c, lset_i, lset_l, lset_r, lkeep_z, lkeep_c, largs_z, largs_c, cat_i, cat_l, cat_r, lkp_c, cnd_eq, cnd_ne, cnd_lt, cnd_ge, cnd_gt, cnd_le, swL_z, swL_c, rE_e, rOr_s, rOr_n, rlk_z, rlk_c, aR_c, aI_c, aII_c, aIII_c, aRI_c, aRII_c, aRIII_c, vJn, vJs, vlc, aRR_c, aRRI_c, aRRII_c, aRRIII_c, aRIIII_c, aRL_c, aRLL_c, aLL_c, aRRRI_c, aIL_c, aIIII_c, aRRIIII_c, aIRII_c, aIR_c, aLI_c, aRIR_c, aRIIR_c, oM, hM.1.f23, hD3, mpRefS, p3.md hM, A3, p3.n, v3, hz, e2]
                exact K
            · rw [if_neg hD3] at ih
              have b2 := drw_b (R := nxR (nxR R')) (n := nM σ) np (by omega)
              generalize drw (nxR R') (nM σ) = A at ih a2
              simp [sg_277_84_1, bs_277, hN _, x_iconst, x_ldc2_w, x_aconst_null, x_iload, x_lload, x_aload, x_istore, x_lstore, x_astore, x_iinc, x_iadd, x_isub, x_imul, x_idiv, x_irem, x_iand, x_ior, x_ixor, x_ishl, x_ishr, x_iushr, x_ineg, x_ladd, x_lsub, x_lmul, x_ldiv, x_lrem, x_lcmp, x_i2l, x_i2b, x_i2s, x_i2c, x_dup, x_pop, x_dup_x1, x_dup2, x_getfield, x_putfield, x_iaload, x_baload, x_saload, x_caload, x_daload, x_faload, x_laload, x_aaload, x_iastore, x_bastore, x_sastore, x_castore, x_lastore, x_aastore, x_arraylength, x_getstatic, x_goto, x_goto_w, x_ifCond, x_if_icmp, x_ifnull, x_ifnonnull, x_lookupswitch, x_invokevirtual, x_invokestatic, x_invokedynamic, x_ireturn, x_freturn, x_dreturn, x_lreturn, x_areturn, x_return_, pI_c, pL_c, pR_c, pV_i, pV_r, gI_c, gL_c, gR_c, pN_z, pN_s, lget_c, lins_z, lins_c, ldel_z, ldel_c, ldel2_z, ldel2_c, lset_i, lset_l, lset_r, lkeep_z, lkeep_c, largs_z, largs_c, cat_i, cat_l, cat_r, lkp_c, cnd_eq, cnd_ne, cnd_lt, cnd_ge, cnd_gt, cnd_le, swL_z, swL_c, rE_e, rOr_s, rOr_n, rlk_z, rlk_c, aR_c, aI_c, aII_c, aIII_c, aRI_c, aRII_c, aRIII_c, vJn, vJs, vlc, aRR_c, aRRI_c, aRRII_c, aRRIII_c, aRIIII_c, aRL_c, aRLL_c, aLL_c, aRRRI_c, aIL_c, aIIII_c, aRRIIII_c, aIRII_c, aIR_c, aLI_c, aRIR_c, aRIIR_c, oM, hM.1, hD3, up_ap, mpDraw, z1, npn]
              generalize drw (nxR (nxR R')) (nM σ) = B at ih b2
              generalize hσ3 : up (up (up σ' 175 36 (nxR R')) 175 36 (nxR (nxR R'))) 175 36 (nxR (nxR (nxR R'))) = σ3
              have p3 : QFM σ σ3 := by rw [← hσ3]; exact ((q1.up sf36).up sf36).up sf36
              have v3 : vA σ3 186 = W := by rw [← hσ3, vA_up (by omega), vA_up (by omega), vA_up (by omega)]; exact hv
              have r3 : σ3 175 36 = nxR (nxR (nxR R')) := by rw [← hσ3]; simp [up_ap]
              have t3 : σ3 175 8 = 0 := by rw [← hσ3]; simp [up_ap, q8]
              have t32 : σ3 175 2 = σ 175 2 := p3.2 2 (by unfold scrF; omega)
              have A3 : ARow t σ3 186 := ⟨RowT.thn hM.1, by rw [p3.n, p3.m, v3]; exact hWi⟩
              have D3 : D < 3 := by omega
              by_cases hAB : A = B
              · have hno : fgtV F (nM σ) (σ 175 2) W A B = W := fgt_no (by unfold winA; rw [if_neg (fun z => z.2.2 hAB)]; omega)
                rw [hno] at ih
                have K := ih σ3 (by omega) p3 t3 r3 v3
                simp [sg_277_105_1, bs_277, hN _, x_iconst, x_ldc2_w, x_aconst_null, x_iload, x_lload, x_aload, x_istore, x_lstore, x_astore, x_iinc, x_iadd, x_isub, x_imul, x_idiv, x_irem, x_iand, x_ior, x_ixor, x_ishl, x_ishr, x_iushr, x_ineg, x_ladd, x_lsub, x_lmul, x_ldiv, x_lrem, x_lcmp, x_i2l, x_i2b, x_i2s, x_i2c, x_dup, x_pop, x_dup_x1, x_dup2, x_getfield, x_putfield, x_iaload, x_baload, x_saload, x_caload, x_daload, x_faload, x_laload, x_aaload, x_iastore, x_bastore, x_sastore, x_castore, x_lastore, x_aastore, x_arraylength, x_getstatic, x_goto, x_goto_w, x_ifCond, x_if_icmp, x_ifnull, x_ifnonnull, x_lookupswitch, x_invokevirtual, x_invokestatic, x_invokedynamic, x_ireturn, x_freturn, x_dreturn, x_lreturn, x_areturn, x_return_, pI_c, pL_c, pR_c, pV_i, pV_r, gI_c, gL_c, gR_c, pN_z, pN_s, lget_c, lins_z, lins_c, ldel_z, ldel_c, ldel2_z, ldel2_c, lset_i, lset_l, lset_r, lkeep_z, lkeep_c, largs_z, largs_c, cat_i, cat_l, cat_r, lkp_c, cnd_eq, cnd_ne, cnd_lt, cnd_ge, cnd_gt, cnd_le, swL_z, swL_c, rE_e, rOr_s, rOr_n, rlk_z, rlk_c, aR_c, aI_c, aII_c, aIII_c, aRI_c, aRII_c, aRIII_c, vJn, vJs, vlc, aRR_c, aRRI_c, aRRII_c, aRRIII_c, aRIIII_c, aRL_c, aRLL_c, aLL_c, aRRRI_c, aIL_c, aIIII_c, aRRIIII_c, aIRII_c, aIR_c, aLI_c, aRIR_c, aRIIR_c, hD3, hAB, e2]
                exact ⟨fun _ => K, fun _ => K⟩
              · have hp : prB (nM σ) A B := ⟨a2, b2, hAB⟩
                simp [sg_277_105_1, bs_277, hN _, x_iconst, x_ldc2_w, x_aconst_null, x_iload, x_lload, x_aload, x_istore, x_lstore, x_astore, x_iinc, x_iadd, x_isub, x_imul, x_idiv, x_irem, x_iand, x_ior, x_ixor, x_ishl, x_ishr, x_iushr, x_ineg, x_ladd, x_lsub, x_lmul, x_ldiv, x_lrem, x_lcmp, x_i2l, x_i2b, x_i2s, x_i2c, x_dup, x_pop, x_dup_x1, x_dup2, x_getfield, x_putfield, x_iaload, x_baload, x_saload, x_caload, x_daload, x_faload, x_laload, x_aaload, x_iastore, x_bastore, x_sastore, x_castore, x_lastore, x_aastore, x_arraylength, x_getstatic, x_goto, x_goto_w, x_ifCond, x_if_icmp, x_ifnull, x_ifnonnull, x_lookupswitch, x_invokevirtual, x_invokestatic, x_invokedynamic, x_ireturn, x_freturn, x_dreturn, x_lreturn, x_areturn, x_return_, pI_c, pL_c, pR_c, pV_i, pV_r, gI_c, gL_c, gR_c, pN_z, pN_s, lget_c, lins_z, lins_c, ldel_z, ldel_c, ldel2_z, ldel2_c, lset_i, lset_l, lset_r, lkeep_z, lkeep_c, largs_z, largs_c, cat_i, cat_l, cat_r, lkp_c, cnd_eq, cnd_ne, cnd_lt, cnd_ge, cnd_gt, cnd_le, swL_z, swL_c, rE_e, rOr_s, rOr_n, rlk_z, rlk_c, aR_c, aI_c, aII_c, aIII_c, aRI_c, aRII_c, aRIII_c, vJn, vJs, vlc, aRR_c, aRRI_c, aRRII_c, aRRIII_c, aRIIII_c, aRL_c, aRLL_c, aLL_c, aRRRI_c, aIL_c, aIIII_c, aRRIIII_c, aIRII_c, aIR_c, aLI_c, aRIR_c, aRIIR_c, oM, hM.1.f23, hD3, D3, Int.not_le.mpr D3, hAB, mpGoF, p3.md hM, A3, p3.n, v3, t32, hT]
                refine ⟨F, hR.cg p3.rs, hp, fun σ4 G => ?_⟩
                have K := ih σ4 (by omega) (p3.tr (G.q sc186)) (by rw [G.1.2 8 (by omega) (by omega)]; exact t3) (by rw [G.1.2 36 (by omega) (by omega)]; exact r3) G.2
                simp [sg_277_17_1, sg_277_44_2, sg_277_44_1, sg_277_84_1, sg_277_105_3, sg_277_105_2, sg_277_105_1, sg_277_109_3, sg_277_109_2, sg_277_109_1, sg_277_148_1, sg_277_180_2, sg_277_180_1, bs_277, hN _, x_iconst, x_ldc2_w, x_aconst_null, x_iload, x_lload, x_aload, x_istore, x_lstore, x_astore, x_iinc, x_iadd, x_isub, x_imul, x_idiv, x_irem, x_iand, x_ior, x_ixor, x_ishl, x_ishr, x_iushr, x_ineg, x_ladd, x_lsub, x_lmul, x_ldiv, x_lrem, x_lcmp, x_i2l, x_i2b, x_i2s, x_i2c, x_dup, x_pop, x_dup_x1, x_dup2, x_getfield, x_putfield, x_iaload, x_baload, x_saload, x_caload, x_daload, x_faload, x_laload, x_aaload, x_iastore, x_bastore, x_sastore, x_castore, x_lastore, x_aastore, x_arraylength, x_getstatic, x_goto, x_goto_w, x_ifCond, x_if_icmp, x_ifnull, x_ifnonnull, x_lookupswitch, x_invokevirtual, x_invokestatic, x_invokedynamic, x_ireturn, x_freturn, x_dreturn, x_lreturn, x_areturn, x_return_, pI_c, pL_c, pR_c, pV_i, pV_r, gI_c, gL_c, gR_c, pN_z, pN_s, lget_c, lins_z, lins_c, ldel_z, ldel_c, ldel2_z, ldel2_c, lset_i, lset_l, lset_r, lkeep_z, lkeep_c, largs_z, largs_c, cat_i, cat_l, cat_r, lkp_c, cnd_eq, cnd_ne, cnd_lt, cnd_ge, cnd_gt, cnd_le, swL_z, swL_c, rE_e, rOr_s, rOr_n, rlk_z, rlk_c, aR_c, aI_c, aII_c, aIII_c, aRI_c, aRII_c, aRIII_c, vJn, vJs, vlc, aRR_c, aRRI_c, aRRII_c, aRRIII_c, aRIIII_c, aRL_c, aRLL_c, aLL_c, aRRRI_c, aIL_c, aIIII_c, aRRIIII_c, aIRII_c, aIR_c, aLI_c, aRIR_c, aRIIR_c, e2]
                exact K
    refine wg (by decide) rgYrs_ok ts_277 py_277 ml_277 30 (by simp [catT]) (fun N hN => ?_)
    simp [bs_277, hN _, x_iconst, x_ldc2_w, x_aconst_null, x_iload, x_lload, x_aload, x_istore, x_lstore, x_astore, x_iinc, x_iadd, x_isub, x_imul, x_idiv, x_irem, x_iand, x_ior, x_ixor, x_ishl, x_ishr, x_iushr, x_ineg, x_ladd, x_lsub, x_lmul, x_ldiv, x_lrem, x_lcmp, x_i2l, x_i2b, x_i2s, x_i2c, x_dup, x_pop, x_dup_x1, x_dup2, x_getfield, x_putfield, x_iaload, x_baload, x_saload, x_caload, x_daload, x_faload, x_laload, x_aaload, x_iastore, x_bastore, x_sastore, x_castore, x_lastore, x_aastore, x_arraylength, x_getstatic, x_goto, x_goto_w, x_ifCond, x_if_icmp, x_ifnull, x_ifnonnull, x_lookupswitch, x_invokevirtual, x_invokestatic, x_invokedynamic, x_ireturn, x_freturn, x_dreturn, x_lreturn, x_areturn, x_return_, pI_c, pL_c, pR_c, pV_i, pV_r, gI_c, gL_c, gR_c, pN_z, pN_s, lget_c, lins_z, lins_c, ldel_z, ldel_c, ldel2_z, ldel2_c, lset_i, lset_l, lset_r, lkeep_z, lkeep_c, largs_z, largs_c, cat_i, cat_l, cat_r, lkp_c, cnd_eq, cnd_ne, cnd_lt, cnd_ge, cnd_gt, cnd_le, swL_z, swL_c, rE_e, rOr_s, rOr_n, rlk_z, rlk_c, aR_c, aI_c, aII_c, aIII_c, aRI_c, aRII_c, aRIII_c, vJn, vJs, vlc, aRR_c, aRRI_c, aRRII_c, aRRIII_c, aRIIII_c, aRL_c, aRLL_c, aLL_c, aRRRI_c, aIL_c, aIIII_c, aRRIIII_c, aIRII_c, aIR_c, aLI_c, aRIR_c, aRIIR_c, oM, hM.1.f0, hM.1.f23, mpIn, mpLay, m0, m1, RowT.now hM.1, hM.1.t186, hM.1.l186]
    refine ⟨fun σ1 y1 y2 => ?_, fun z => by omega⟩
    have q1 : QFM σ σ1 := ⟨fun o a b => by rw [y1 o (fun z => b (by rw [z]; unfold scrM; omega)), up_ne a, up_ne a], fun j a => by rw [y1 175 (by omega), up_ap, if_neg (fun z => a (by rw [z.2]; unfold scrF; omega)), up_ap, if_neg (fun z => a (by rw [z.2]; unfold scrF; omega))]⟩
    have v1 : vA σ1 186 = vA σ 176 := lay_v (f := 176) (fun j => by rw [y2 j]; simp [up_ap])
    have T : RowTo σ1 (up σ1 186 49 0) 186 V0 := by
      have := (RowTo.rf (σ := σ1) (r := 186)).put (j := 49) (x := 0) (by omega) (by omega)
      rw [v1, hV0] at this
      exact this
    have K := K m.toNat 0 _ (by omega) (q1.tr (T.q sc186 (by omega))) (by rw [T.1 175 (by omega), y1 175 (by omega)]; simp [up_ap]) (by rw [T.1 175 (by omega), y1 175 (by omega)]; simp [up_ap]; rfl) T.2
    simp [sg_277_17_1, hN _, x_iconst, x_ldc2_w, x_aconst_null, x_iload, x_lload, x_aload, x_istore, x_lstore, x_astore, x_iinc, x_iadd, x_isub, x_imul, x_idiv, x_irem, x_iand, x_ior, x_ixor, x_ishl, x_ishr, x_iushr, x_ineg, x_ladd, x_lsub, x_lmul, x_ldiv, x_lrem, x_lcmp, x_i2l, x_i2b, x_i2s, x_i2c, x_dup, x_pop, x_dup_x1, x_dup2, x_getfield, x_putfield, x_iaload, x_baload, x_saload, x_caload, x_daload, x_faload, x_laload, x_aaload, x_iastore, x_bastore, x_sastore, x_castore, x_lastore, x_aastore, x_arraylength, x_getstatic, x_goto, x_goto_w, x_ifCond, x_if_icmp, x_ifnull, x_ifnonnull, x_lookupswitch, x_invokevirtual, x_invokestatic, x_invokedynamic, x_ireturn, x_freturn, x_dreturn, x_lreturn, x_areturn, x_return_, pI_c, pL_c, pR_c, pV_i, pV_r, gI_c, gL_c, gR_c, pN_z, pN_s, lget_c, lins_z, lins_c, ldel_z, ldel_c, ldel2_z, ldel2_c, lset_i, lset_l, lset_r, lkeep_z, lkeep_c, largs_z, largs_c, cat_i, cat_l, cat_r, lkp_c, cnd_eq, cnd_ne, cnd_lt, cnd_ge, cnd_gt, cnd_le, swL_z, swL_c, rE_e, rOr_s, rOr_n, rlk_z, rlk_c, aR_c, aI_c, aII_c, aIII_c, aRI_c, aRII_c, aRIII_c, vJn, vJs, vlc, aRR_c, aRRI_c, aRRII_c, aRRIII_c, aRIIII_c, aRL_c, aRLL_c, aLL_c, aRRRI_c, aIL_c, aIIII_c, aRRIIII_c, aIRII_c, aIR_c, aLI_c, aRIR_c, aRIIR_c, oM, hM.1.f23, hM.1.t186, hM.1.l186]
    exact K
  · rw [if_neg hs] at h
    have h := h _ QTM.rf
    refine wg (by decide) rgYrs_ok tk_277 py_277 ml_277 30 (by simp [catT]) (fun N hN => ?_)
    simp [bl_277, hN _, x_iconst, x_ldc2_w, x_aconst_null, x_iload, x_lload, x_aload, x_istore, x_lstore, x_astore, x_iinc, x_iadd, x_isub, x_imul, x_idiv, x_irem, x_iand, x_ior, x_ixor, x_ishl, x_ishr, x_iushr, x_ineg, x_ladd, x_lsub, x_lmul, x_ldiv, x_lrem, x_lcmp, x_i2l, x_i2b, x_i2s, x_i2c, x_dup, x_pop, x_dup_x1, x_dup2, x_getfield, x_putfield, x_iaload, x_baload, x_saload, x_caload, x_daload, x_faload, x_laload, x_aaload, x_iastore, x_bastore, x_sastore, x_castore, x_lastore, x_aastore, x_arraylength, x_getstatic, x_goto, x_goto_w, x_ifCond, x_if_icmp, x_ifnull, x_ifnonnull, x_lookupswitch, x_invokevirtual, x_invokestatic, x_invokedynamic, x_ireturn, x_freturn, x_dreturn, x_lreturn, x_areturn, x_return_, pI_c, pL_c, pR_c, pV_i, pV_r, gI_c, gL_c, gR_c, pN_z, pN_s, lget_c, lins_z, lins_c, ldel_z, ldel_c, ldel2_z, ldel2_c, lset_i, lset_l, lset_r, lkeep_z, lkeep_c, largs_z, largs_c, cat_i, cat_l, cat_r, lkp_c, cnd_eq, cnd_ne, cnd_lt, cnd_ge, cnd_gt, cnd_le, swL_z, swL_c, rE_e, rOr_s, rOr_n, rlk_z, rlk_c, aR_c, aI_c, aII_c, aIII_c, aRI_c, aRII_c, aRIII_c, vJn, vJs, vlc, aRR_c, aRRI_c, aRRII_c, aRRIII_c, aRIIII_c, aRL_c, aRLL_c, aLL_c, aRRRI_c, aIL_c, aIIII_c, aRRIIII_c, aIRII_c, aIR_c, aLI_c, aRIR_c, aRIIR_c, oM, mpIn]
    grind
