/-! the reference: rests -/
def mpGets : Sp := fun as t σ Q => aIII as fun x y v => (0 ≤ v ∧ v ≤ 20) ∧ (0 ≤ x ∧ x ≤ 9) ∧ (0 ≤ y ∧ y ≤ 9) ∧ Q (some (vI (gnI v x y))) t σ
theorem m_gets {l : Launch} {g : GE} {d : Nat} {t : Tau} {σ : Mem} {Q : Post} {as : List TV} (h0 : mpGets as t σ Q) : WPc l g 271 (d + 1) 0 0 as t σ Q := by
  obtain ⟨x, y, v, rfl, hv, hx, hy, h⟩ := aIII_e h0
  clear h0
  have e1 : w32 (v.tdiv 2) = v / 2 := by rw [Int.tdiv_eq_ediv_of_nonneg (by omega)]; exact w32_id (by omega) (by omega)
  have e2 : w32 (y + 3) = y + 3 := w32_id (by omega) (by omega)
  have e4 : w32 (v - x) = v - x := w32_id (by omega) (by omega)
  have e5 : w32 (v / 2 - x) = v / 2 - x := w32_id (by omega) (by omega)
  have e6 : ∀ z, -100 ≤ z → z ≤ 100 → w32 (z - 2) = z - 2 := fun z a b => w32_id (by omega) (by omega)
  have e7 : ∀ z, -100 ≤ z → z ≤ 100 → w32 z = z := fun z a b => w32_id (by omega) (by omega)
  unfold gnI at h
  refine wg (by decide) rE_nil tk_271 py_271 ml_271 30 (by simp [catT]) (fun N hN => ?_)
  simp [bl_271, hN _, x_iconst, x_ldc2_w, x_aconst_null, x_iload, x_lload, x_aload, x_istore, x_lstore, x_astore, x_iinc, x_iadd, x_isub, x_imul, x_idiv, x_irem, x_iand, x_ior, x_ixor, x_ishl, x_ishr, x_iushr, x_ineg, x_ladd, x_lsub, x_lmul, x_ldiv, x_lrem, x_lcmp, x_i2l, x_i2b, x_i2s, x_i2c, x_dup, x_pop, x_dup_x1, x_dup2, x_getfield, x_putfield, x_iaload, x_baload, x_saload, x_caload, x_daload, x_faload, x_laload, x_aaload, x_iastore, x_bastore, x_sastore, x_castore, x_lastore, x_aastore, x_arraylength, x_getstatic, x_goto, x_goto_w, x_ifCond, x_if_icmp, x_ifnull, x_ifnonnull, x_lookupswitch, x_invokevirtual, x_invokestatic, x_invokedynamic, x_ireturn, x_freturn, x_dreturn, x_lreturn, x_areturn, x_return_, pI_c, pL_c, pR_c, pV_i, pV_r, gI_c, gL_c, gR_c, pN_z, pN_s, lget_c, lins_z, lins_c, ldel_z, ldel_c, ldel2_z, ldel2_c, lset_i, lset_l, lset_r, lkeep_z, lkeep_c, largs_z, largs_c, cat_i, cat_l, cat_r, lkp_c, cnd_eq, cnd_ne, cnd_lt, cnd_ge, cnd_gt, cnd_le, swL_z, swL_c, rE_e, rOr_s, rOr_n, rlk_z, rlk_c, aR_c, aI_c, aII_c, aIII_c, aRI_c, aRII_c, aRIII_c, vJn, vJs, vlc, aRR_c, aRRI_c, aRRII_c, aRRIII_c, aRIIII_c, aRL_c, aRLL_c, aLL_c, aRRRI_c, aIL_c, aIIII_c, aRRIIII_c, aIRII_c, aIR_c, aLI_c, aRIR_c, aRIIR_c, e1, e2, e4, e5]
  by_cases c1 : y < x
  · by_cases c2 : y + 3 ≤ x
    · have c3 : ¬ x < y + 3 := by omega
      have c4 : ¬ x ≤ y := by omega
      simp [c1, c2, c3, c4] at h ⊢
      rw [e6 _ (by omega) (by omega)]; exact h
    · have c3 : x < y + 3 := by omega
      have c4 : ¬ x ≤ y := by omega
      simp [c1, c2, c3, c4] at h ⊢
      exact h
  · by_cases c3 : x = y
    · subst c3
      rw [if_neg (by omega), if_pos rfl, if_neg (by omega)] at h
      have c4 : x < x + 3 := by omega
      simp [c4] at h ⊢
      rw [e6 _ (by omega) (by omega)]
      exact ⟨h, fun z => by omega⟩
    · have c4 : ¬ y + 3 ≤ x := by omega
      have c5 : x < y + 3 := by omega
      have c6 : x ≤ y := by omega
      simp [c1, c3, c4, c5, c6] at h ⊢
      rw [e7 (-x) (by omega) (by omega), e7 _ (by omega) (by omega)]
      exact h
theorem rgGe_ok {l : Launch} {g : GE} {d : Nat} : ∀ e as t σ Q, rE l g (d + 1) [(271, mpGets)] e as t σ Q → WPc l g e (d + 1) 0 0 as t σ Q := rE_cons (fun _ _ _ _ h => m_gets h) rE_nil
def mpBest : Sp := fun as t σ Q => aIII as fun x y v => (0 ≤ v ∧ v ≤ 20) ∧ (0 ≤ x ∧ x ≤ 9) ∧ (0 ≤ y ∧ y ≤ 9) ∧ Q (some (vI (if cnB v x.toNat y.toNat then 1 else 0))) t σ
theorem m_isBest {l : Launch} {g : GE} {d : Nat} {t : Tau} {σ : Mem} {Q : Post} {as : List TV} (h0 : mpBest as t σ Q) : WPc l g 272 (d + 2) 0 0 as t σ Q := by
  obtain ⟨x', y', v, rfl, hv, hx, hy, h⟩ := aIII_e h0
  clear h0
  obtain ⟨x, rfl⟩ : ∃ n : Nat, x' = n := ⟨x'.toNat, by omega⟩
  obtain ⟨y, rfl⟩ : ∃ n : Nat, y' = n := ⟨y'.toNat, by omega⟩
  simp only [Int.toNat_natCast] at h
  have hx9 : x ≤ 9 := by omega
  have hy9 : y ≤ 9 := by omega
  have hx9i : (x : Int) ≤ 9 := by omega
  have hy9i : (y : Int) ≤ 9 := by omega
  generalize hp : (fun z : Nat => decide (gnI v z y ≤ gnI v x y)) = p
  have hcn : cnB v x y = sA p 10 := by unfold cnB; rw [hp]
  simp only [hcn] at h
  have K : sA p 0 = true → Wp l g 272 (d + 2) 0 0 2 [(0, vI x), (1, vI y), (2, vI v), (3, vI (0 : Nat))] [] t σ Q := by
    refine lpU (P := fun j => sA p j = true → Wp l g 272 (d + 2) 0 0 2 [(0, vI x), (1, vI y), (2, vI v), (3, vI j)] [] t σ Q) (n := 10) ?_ (fun j hj K hs => ?_)
    · intro hs
      simp [hs] at h
      refine wa (by decide) rgGe_ok tk_272 30 (fun N hN => ?_)
      simp [bl_272, hN _, x_iconst, x_ldc2_w, x_aconst_null, x_iload, x_lload, x_aload, x_istore, x_lstore, x_astore, x_iinc, x_iadd, x_isub, x_imul, x_idiv, x_irem, x_iand, x_ior, x_ixor, x_ishl, x_ishr, x_iushr, x_ineg, x_ladd, x_lsub, x_lmul, x_ldiv, x_lrem, x_lcmp, x_i2l, x_i2b, x_i2s, x_i2c, x_dup, x_pop, x_dup_x1, x_dup2, x_getfield, x_putfield, x_iaload, x_baload, x_saload, x_caload, x_daload, x_faload, x_laload, x_aaload, x_iastore, x_bastore, x_sastore, x_castore, x_lastore, x_aastore, x_arraylength, x_getstatic, x_goto, x_goto_w, x_ifCond, x_if_icmp, x_ifnull, x_ifnonnull, x_lookupswitch, x_invokevirtual, x_invokestatic, x_invokedynamic, x_ireturn, x_freturn, x_dreturn, x_lreturn, x_areturn, x_return_, pI_c, pL_c, pR_c, pV_i, pV_r, gI_c, gL_c, gR_c, pN_z, pN_s, lget_c, lins_z, lins_c, ldel_z, ldel_c, ldel2_z, ldel2_c, lset_i, lset_l, lset_r, lkeep_z, lkeep_c, largs_z, largs_c, cat_i, cat_l, cat_r, lkp_c, cnd_eq, cnd_ne, cnd_lt, cnd_ge, cnd_gt, cnd_le, swL_z, swL_c, rE_e, rOr_s, rOr_n, rlk_z, rlk_c, aR_c, aI_c, aII_c, aIII_c, aRI_c, aRII_c, aRIII_c, vJn, vJs, vlc, aRR_c, aRRI_c, aRRII_c, aRRIII_c, aRIIII_c, aRL_c, aRLL_c, aLL_c, aRRRI_c, aIL_c, aIIII_c, aRRIIII_c, aIRII_c, aIR_c, aLI_c, aRIR_c, aRIIR_c]
      exact h
    · have e2 := w32_succ (k := j) (by omega); have i1 : ((j : Nat) : Int) < 10 := (by omega); have i1n : j < 10 := (by omega); have i1x : ¬ (10 : Int) ≤ (j : Nat) := (by omega)
      have j9 : ¬ (9 : Int) < j := by omega
      have j9n : ¬ 9 < j := by omega
      have j9a : j ≤ 9 := by omega
      have j9b : (j : Int) ≤ 9 := by omega
      have es : sA p (j + 1) = (sA p j && p j) := rfl
      rw [es, hs] at K
      have hf := sA_f (p := p) (k := j) (m := 10)
      have hpj : p j = decide (gnI v j y ≤ gnI v x y) := by rw [← hp]
      refine wa (by decide) rgGe_ok tk_272 30 (fun N hN => ?_)
      simp [bl_272, hN _, x_iconst, x_ldc2_w, x_aconst_null, x_iload, x_lload, x_aload, x_istore, x_lstore, x_astore, x_iinc, x_iadd, x_isub, x_imul, x_idiv, x_irem, x_iand, x_ior, x_ixor, x_ishl, x_ishr, x_iushr, x_ineg, x_ladd, x_lsub, x_lmul, x_ldiv, x_lrem, x_lcmp, x_i2l, x_i2b, x_i2s, x_i2c, x_dup, x_pop, x_dup_x1, x_dup2, x_getfield, x_putfield, x_iaload, x_baload, x_saload, x_caload, x_daload, x_faload, x_laload, x_aaload, x_iastore, x_bastore, x_sastore, x_castore, x_lastore, x_aastore, x_arraylength, x_getstatic, x_goto, x_goto_w, x_ifCond, x_if_icmp, x_ifnull, x_ifnonnull, x_lookupswitch, x_invokevirtual, x_invokestatic, x_invokedynamic, x_ireturn, x_freturn, x_dreturn, x_lreturn, x_areturn, x_return_, pI_c, pL_c, pR_c, pV_i, pV_r, gI_c, gL_c, gR_c, pN_z, pN_s, lget_c, lins_z, lins_c, ldel_z, ldel_c, ldel2_z, ldel2_c, lset_i, lset_l, lset_r, lkeep_z, lkeep_c, largs_z, largs_c, cat_i, cat_l, cat_r, lkp_c, cnd_eq, cnd_ne, cnd_lt, cnd_ge, cnd_gt, cnd_le, swL_z, swL_c, rE_e, rOr_s, rOr_n, rlk_z, rlk_c, aR_c, aI_c, aII_c, aIII_c, aRI_c, aRII_c, aRIII_c, vJn, vJs, vlc, aRR_c, aRRI_c, aRRII_c, aRRIII_c, aRIIII_c, aRL_c, aRLL_c, aLL_c, aRRRI_c, aIL_c, aIIII_c, aRRIIII_c, aIRII_c, aIR_c, aLI_c, aRIR_c, aRIIR_c, e2, i1, i1n, i1x, mpGets, hv, hx9, hy9, hx9i, hy9i, j9, j9n, j9a, j9b]
      cases hc : p j
      · simp [hf hc hj] at h
        rw [hc] at hpj
        have hpj : ¬ gnI v j y ≤ gnI v x y := by simpa using hpj
        exact ⟨fun z => (hpj z).elim, fun _ => h⟩
      · rw [hc] at K hpj
        have K := K rfl
        have hpj : gnI v j y ≤ gnI v x y := by simpa using hpj
        exact ⟨fun _ => by simpa using K, fun z => by omega⟩
  refine wg (by decide) rgGe_ok tk_272 py_272 ml_272 30 (by simp [catT]) (fun N hN => ?_)
  simp [bl_272, hN _, x_iconst, x_ldc2_w, x_aconst_null, x_iload, x_lload, x_aload, x_istore, x_lstore, x_astore, x_iinc, x_iadd, x_isub, x_imul, x_idiv, x_irem, x_iand, x_ior, x_ixor, x_ishl, x_ishr, x_iushr, x_ineg, x_ladd, x_lsub, x_lmul, x_ldiv, x_lrem, x_lcmp, x_i2l, x_i2b, x_i2s, x_i2c, x_dup, x_pop, x_dup_x1, x_dup2, x_getfield, x_putfield, x_iaload, x_baload, x_saload, x_caload, x_daload, x_faload, x_laload, x_aaload, x_iastore, x_bastore, x_sastore, x_castore, x_lastore, x_aastore, x_arraylength, x_getstatic, x_goto, x_goto_w, x_ifCond, x_if_icmp, x_ifnull, x_ifnonnull, x_lookupswitch, x_invokevirtual, x_invokestatic, x_invokedynamic, x_ireturn, x_freturn, x_dreturn, x_lreturn, x_areturn, x_return_, pI_c, pL_c, pR_c, pV_i, pV_r, gI_c, gL_c, gR_c, pN_z, pN_s, lget_c, lins_z, lins_c, ldel_z, ldel_c, ldel2_z, ldel2_c, lset_i, lset_l, lset_r, lkeep_z, lkeep_c, largs_z, largs_c, cat_i, cat_l, cat_r, lkp_c, cnd_eq, cnd_ne, cnd_lt, cnd_ge, cnd_gt, cnd_le, swL_z, swL_c, rE_e, rOr_s, rOr_n, rlk_z, rlk_c, aR_c, aI_c, aII_c, aIII_c, aRI_c, aRII_c, aRIII_c, vJn, vJs, vlc, aRR_c, aRRI_c, aRRII_c, aRRIII_c, aRIIII_c, aRL_c, aRLL_c, aLL_c, aRRRI_c, aIL_c, aIIII_c, aRRIIII_c, aIRII_c, aIR_c, aLI_c, aRIR_c, aRIIR_c]
  exact K rfl
theorem rgBs_ok {l : Launch} {g : GE} {d : Nat} : ∀ e as t σ Q, rE l g (d + 5) ((272, mpBest) :: rgN) e as t σ Q → WPc l g e (d + 5) 0 0 as t σ Q := rE_cons (fun _ _ _ _ h => m_isBest h) rgN_ok
set_option maxHeartbeats 1000000 in
theorem mo_rests {l : Launch} {g : GE} {d : Nat} {t : Tau} {σ : Mem} {Q : Post} {v : Int} (hM : TM t) (h : ansM (restsQ v) t σ Q) : WPc l g 273 (d + 6) 0 0 [vR 175, vI v] t σ Q := by
  unfold ansM restsQ at h
  by_cases hv : 0 ≤ v ∧ v ≤ 20
  · rw [if_pos hv] at h
    obtain ⟨v0, v1⟩ := hv
    have O : ∀ σ', QFM σ σ' ∧ σ' 175 8 = 0 → rmIs σ' (rstI v 0).2 → Wp l g 273 (d + 6) 0 0 26 [(0, vR 175), (1, vI v), (2, vI (rstI v 0).1), (3, vI (0 : Nat))] [] t σ' Q := by
      refine lpU (P := fun x => ∀ σ', QFM σ σ' ∧ σ' 175 8 = 0 → rmIs σ' (rstI v x).2 → Wp l g 273 (d + 6) 0 0 26 [(0, vR 175), (1, vI v), (2, vI (rstI v x).1), (3, vI x)] [] t σ' Q) (n := 10) ?_ (fun x hx KO σ' q hr => ?_)
      · intro σ' q hr
        refine wa (by decide) rgBs_ok tk_273 30 (fun N hN => ?_)
        simp [bl_273, hN _, x_iconst, x_ldc2_w, x_aconst_null, x_iload, x_lload, x_aload, x_istore, x_lstore, x_astore, x_iinc, x_iadd, x_isub, x_imul, x_idiv, x_irem, x_iand, x_ior, x_ixor, x_ishl, x_ishr, x_iushr, x_ineg, x_ladd, x_lsub, x_lmul, x_ldiv, x_lrem, x_lcmp, x_i2l, x_i2b, x_i2s, x_i2c, x_dup, x_pop, x_dup_x1, x_dup2, x_getfield, x_putfield, x_iaload, x_baload, x_saload, x_caload, x_daload, x_faload, x_laload, x_aaload, x_iastore, x_bastore, x_sastore, x_castore, x_lastore, x_aastore, x_arraylength, x_getstatic, x_goto, x_goto_w, x_ifCond, x_if_icmp, x_ifnull, x_ifnonnull, x_lookupswitch, x_invokevirtual, x_invokestatic, x_invokedynamic, x_ireturn, x_freturn, x_dreturn, x_lreturn, x_areturn, x_return_, pI_c, pL_c, pR_c, pV_i, pV_r, gI_c, gL_c, gR_c, pN_z, pN_s, lget_c, lins_z, lins_c, ldel_z, ldel_c, ldel2_z, ldel2_c, lset_i, lset_l, lset_r, lkeep_z, lkeep_c, largs_z, largs_c, cat_i, cat_l, cat_r, lkp_c, cnd_eq, cnd_ne, cnd_lt, cnd_ge, cnd_gt, cnd_le, swL_z, swL_c, rE_e, rOr_s, rOr_n, rlk_z, rlk_c, aR_c, aI_c, aII_c, aIII_c, aRI_c, aRII_c, aRIII_c, vJn, vJs, vlc, aRR_c, aRRI_c, aRRII_c, aRRIII_c, aRIIII_c, aRL_c, aRLL_c, aLL_c, aRRRI_c, aIL_c, aIIII_c, aRRIIII_c, aIRII_c, aIR_c, aLI_c, aRIR_c, aRIIR_c]
        exact h σ' ⟨q.1, q.2, hr⟩
      · have es : rstI v (x + 1) = rstJ v x (rstI v x) 10 := rfl
        rw [es] at KO
        have hw := rstI_w (v := v) x
        generalize rstI v x = S at KO hr hw ⊢
        have x9a : x ≤ 9 := by omega
        have x9b : (x : Int) ≤ 9 := by omega
        have x9 : ¬ (9 : Int) < x := by omega
        have x9n : ¬ 9 < x := by omega
        have I : ∀ σ', QFM σ σ' ∧ σ' 175 8 = 0 → rmIs σ' (rstJ v x S 0).2 → Wp l g 273 (d + 6) 0 0 35 [(0, vR 175), (1, vI v), (2, vI (rstJ v x S 0).1), (3, vI x), (4, vI (0 : Nat))] [] t σ' Q := by
          refine lpU (P := fun y => ∀ σ', QFM σ σ' ∧ σ' 175 8 = 0 → rmIs σ' (rstJ v x S y).2 → Wp l g 273 (d + 6) 0 0 35 [(0, vR 175), (1, vI v), (2, vI (rstJ v x S y).1), (3, vI x), (4, vI y)] [] t σ' Q) (n := 10) ?_ (fun y hy K σ' q hr => ?_)
          · intro σ' q hr
            have K := KO σ' q hr
            have e2 := w32_succ (k := x) (by omega)
            refine wa (by decide) rgBs_ok tk_273 30 (fun N hN => ?_)
            simp [bl_273, hN _, x_iconst, x_ldc2_w, x_aconst_null, x_iload, x_lload, x_aload, x_istore, x_lstore, x_astore, x_iinc, x_iadd, x_isub, x_imul, x_idiv, x_irem, x_iand, x_ior, x_ixor, x_ishl, x_ishr, x_iushr, x_ineg, x_ladd, x_lsub, x_lmul, x_ldiv, x_lrem, x_lcmp, x_i2l, x_i2b, x_i2s, x_i2c, x_dup, x_pop, x_dup_x1, x_dup2, x_getfield, x_putfield, x_iaload, x_baload, x_saload, x_caload, x_daload, x_faload, x_laload, x_aaload, x_iastore, x_bastore, x_sastore, x_castore, x_lastore, x_aastore, x_arraylength, x_getstatic, x_goto, x_goto_w, x_ifCond, x_if_icmp, x_ifnull, x_ifnonnull, x_lookupswitch, x_invokevirtual, x_invokestatic, x_invokedynamic, x_ireturn, x_freturn, x_dreturn, x_lreturn, x_areturn, x_return_, pI_c, pL_c, pR_c, pV_i, pV_r, gI_c, gL_c, gR_c, pN_z, pN_s, lget_c, lins_z, lins_c, ldel_z, ldel_c, ldel2_z, ldel2_c, lset_i, lset_l, lset_r, lkeep_z, lkeep_c, largs_z, largs_c, cat_i, cat_l, cat_r, lkp_c, cnd_eq, cnd_ne, cnd_lt, cnd_ge, cnd_gt, cnd_le, swL_z, swL_c, rE_e, rOr_s, rOr_n, rlk_z, rlk_c, aR_c, aI_c, aII_c, aIII_c, aRI_c, aRII_c, aRIII_c, vJn, vJs, vlc, aRR_c, aRRI_c, aRRII_c, aRRIII_c, aRIIII_c, aRL_c, aRLL_c, aLL_c, aRRRI_c, aIL_c, aIIII_c, aRRIIII_c, aIRII_c, aIR_c, aLI_c, aRIR_c, aRIIR_c, e2]
            exact K
          · have hwy := rstJ_w (v := v) (x := x) hw y
            have er : rstJ v x S (y + 1) = if cnB v x y && cnB v y x then ((rstJ v x S y).1 + 1, if (rstJ v x S y).1 = 0 then [(x : Int), (y : Int)] else (rstJ v x S y).2) else rstJ v x S y := rfl
            rw [er] at K
            generalize rstJ v x S y = R at K hr hwy ⊢
            obtain ⟨w1, w2⟩ := hwy
            have e2 := w32_succ (k := y) (by omega)
            have e3 := w32_succ (k := R.1) (by omega)
            have y9 : ¬ (9 : Int) < y := by omega
            have y9n : ¬ 9 < y := by omega
            have y9a : y ≤ 9 := by omega
            have y9b : (y : Int) ≤ 9 := by omega
            refine wa (by decide) rgBs_ok tk_273 30 (fun N hN => ?_)
            cases h1 : cnB v x y
            · simp only [h1, Bool.false_and, if_false, Bool.false_eq_true] at K
              have K := K σ' q hr
              simp [bl_273, hN _, x_iconst, x_ldc2_w, x_aconst_null, x_iload, x_lload, x_aload, x_istore, x_lstore, x_astore, x_iinc, x_iadd, x_isub, x_imul, x_idiv, x_irem, x_iand, x_ior, x_ixor, x_ishl, x_ishr, x_iushr, x_ineg, x_ladd, x_lsub, x_lmul, x_ldiv, x_lrem, x_lcmp, x_i2l, x_i2b, x_i2s, x_i2c, x_dup, x_pop, x_dup_x1, x_dup2, x_getfield, x_putfield, x_iaload, x_baload, x_saload, x_caload, x_daload, x_faload, x_laload, x_aaload, x_iastore, x_bastore, x_sastore, x_castore, x_lastore, x_aastore, x_arraylength, x_getstatic, x_goto, x_goto_w, x_ifCond, x_if_icmp, x_ifnull, x_ifnonnull, x_lookupswitch, x_invokevirtual, x_invokestatic, x_invokedynamic, x_ireturn, x_freturn, x_dreturn, x_lreturn, x_areturn, x_return_, pI_c, pL_c, pR_c, pV_i, pV_r, gI_c, gL_c, gR_c, pN_z, pN_s, lget_c, lins_z, lins_c, ldel_z, ldel_c, ldel2_z, ldel2_c, lset_i, lset_l, lset_r, lkeep_z, lkeep_c, largs_z, largs_c, cat_i, cat_l, cat_r, lkp_c, cnd_eq, cnd_ne, cnd_lt, cnd_ge, cnd_gt, cnd_le, swL_z, swL_c, rE_e, rOr_s, rOr_n, rlk_z, rlk_c, aR_c, aI_c, aII_c, aIII_c, aRI_c, aRII_c, aRIII_c, vJn, vJs, vlc, aRR_c, aRRI_c, aRRII_c, aRRIII_c, aRIIII_c, aRL_c, aRLL_c, aLL_c, aRRRI_c, aIL_c, aIIII_c, aRRIIII_c, aIRII_c, aIR_c, aLI_c, aRIR_c, aRIIR_c, mpBest, v0, v1, y9, y9n, y9a, x9a, y9b, x9b, h1, e2]
              simpa using K
            · cases h2 : cnB v y x
              · simp only [h1, h2, Bool.and_false, if_false, Bool.false_eq_true] at K
                have K := K σ' q hr
                simp [bl_273, hN _, x_iconst, x_ldc2_w, x_aconst_null, x_iload, x_lload, x_aload, x_istore, x_lstore, x_astore, x_iinc, x_iadd, x_isub, x_imul, x_idiv, x_irem, x_iand, x_ior, x_ixor, x_ishl, x_ishr, x_iushr, x_ineg, x_ladd, x_lsub, x_lmul, x_ldiv, x_lrem, x_lcmp, x_i2l, x_i2b, x_i2s, x_i2c, x_dup, x_pop, x_dup_x1, x_dup2, x_getfield, x_putfield, x_iaload, x_baload, x_saload, x_caload, x_daload, x_faload, x_laload, x_aaload, x_iastore, x_bastore, x_sastore, x_castore, x_lastore, x_aastore, x_arraylength, x_getstatic, x_goto, x_goto_w, x_ifCond, x_if_icmp, x_ifnull, x_ifnonnull, x_lookupswitch, x_invokevirtual, x_invokestatic, x_invokedynamic, x_ireturn, x_freturn, x_dreturn, x_lreturn, x_areturn, x_return_, pI_c, pL_c, pR_c, pV_i, pV_r, gI_c, gL_c, gR_c, pN_z, pN_s, lget_c, lins_z, lins_c, ldel_z, ldel_c, ldel2_z, ldel2_c, lset_i, lset_l, lset_r, lkeep_z, lkeep_c, largs_z, largs_c, cat_i, cat_l, cat_r, lkp_c, cnd_eq, cnd_ne, cnd_lt, cnd_ge, cnd_gt, cnd_le, swL_z, swL_c, rE_e, rOr_s, rOr_n, rlk_z, rlk_c, aR_c, aI_c, aII_c, aIII_c, aRI_c, aRII_c, aRIII_c, vJn, vJs, vlc, aRR_c, aRRI_c, aRRII_c, aRRIII_c, aRIIII_c, aRL_c, aRLL_c, aLL_c, aRRRI_c, aIL_c, aIIII_c, aRRIIII_c, aIRII_c, aIR_c, aLI_c, aRIR_c, aRIIR_c, mpBest, v0, v1, y9, y9n, y9a, x9a, y9b, x9b, h1, h2, e2]
                simpa using K
              · simp only [h1, h2, Bool.and_self, if_true] at K
                by_cases hz : R.1 = 0
                · have hn := w1 hz
                  rw [hn] at hr
                  have r0 : σ' 175 7 = 0 := by rw [hr.1]; rfl
                  have hr2 : rmIs (up (up (up (up σ' 179 0 x) 175 7 1) 179 1 y) 175 7 2) [(x : Int), (y : Int)] := by
                    have := (hr.add (v := x) (by simp)).add (v := y) (by simp)
                    simpa [up_ap, r0] using this
                  simp only [hz, if_true] at K
                  have K := K _ ⟨(((q.1.up s179).up sf7).up s179).up sf7, by simp [up_ap, q.2]⟩ hr2
                  simp [bl_273, hN _, x_iconst, x_ldc2_w, x_aconst_null, x_iload, x_lload, x_aload, x_istore, x_lstore, x_astore, x_iinc, x_iadd, x_isub, x_imul, x_idiv, x_irem, x_iand, x_ior, x_ixor, x_ishl, x_ishr, x_iushr, x_ineg, x_ladd, x_lsub, x_lmul, x_ldiv, x_lrem, x_lcmp, x_i2l, x_i2b, x_i2s, x_i2c, x_dup, x_pop, x_dup_x1, x_dup2, x_getfield, x_putfield, x_iaload, x_baload, x_saload, x_caload, x_daload, x_faload, x_laload, x_aaload, x_iastore, x_bastore, x_sastore, x_castore, x_lastore, x_aastore, x_arraylength, x_getstatic, x_goto, x_goto_w, x_ifCond, x_if_icmp, x_ifnull, x_ifnonnull, x_lookupswitch, x_invokevirtual, x_invokestatic, x_invokedynamic, x_ireturn, x_freturn, x_dreturn, x_lreturn, x_areturn, x_return_, pI_c, pL_c, pR_c, pV_i, pV_r, gI_c, gL_c, gR_c, pN_z, pN_s, lget_c, lins_z, lins_c, ldel_z, ldel_c, ldel2_z, ldel2_c, lset_i, lset_l, lset_r, lkeep_z, lkeep_c, largs_z, largs_c, cat_i, cat_l, cat_r, lkp_c, cnd_eq, cnd_ne, cnd_lt, cnd_ge, cnd_gt, cnd_le, swL_z, swL_c, rE_e, rOr_s, rOr_n, rlk_z, rlk_c, aR_c, aI_c, aII_c, aIII_c, aRI_c, aRII_c, aRIII_c, vJn, vJs, vlc, aRR_c, aRRI_c, aRRII_c, aRRIII_c, aRIIII_c, aRL_c, aRLL_c, aLL_c, aRRRI_c, aIL_c, aIIII_c, aRRIIII_c, aIRII_c, aIR_c, aLI_c, aRIR_c, aRIIR_c, hM, hM.o, mpBest, mpTell, v0, v1, y9, y9n, y9a, x9a, y9b, x9b, h1, h2, hz, e2, r0, up_ap, w32_1]
                  simpa using K
                · have hz' : ¬ (R.1 : Int) = 0 := by omega
                  simp only [hz, if_false] at K
                  have K := K σ' q hr
                  simp [bl_273, hN _, x_iconst, x_ldc2_w, x_aconst_null, x_iload, x_lload, x_aload, x_istore, x_lstore, x_astore, x_iinc, x_iadd, x_isub, x_imul, x_idiv, x_irem, x_iand, x_ior, x_ixor, x_ishl, x_ishr, x_iushr, x_ineg, x_ladd, x_lsub, x_lmul, x_ldiv, x_lrem, x_lcmp, x_i2l, x_i2b, x_i2s, x_i2c, x_dup, x_pop, x_dup_x1, x_dup2, x_getfield, x_putfield, x_iaload, x_baload, x_saload, x_caload, x_daload, x_faload, x_laload, x_aaload, x_iastore, x_bastore, x_sastore, x_castore, x_lastore, x_aastore, x_arraylength, x_getstatic, x_goto, x_goto_w, x_ifCond, x_if_icmp, x_ifnull, x_ifnonnull, x_lookupswitch, x_invokevirtual, x_invokestatic, x_invokedynamic, x_ireturn, x_freturn, x_dreturn, x_lreturn, x_areturn, x_return_, pI_c, pL_c, pR_c, pV_i, pV_r, gI_c, gL_c, gR_c, pN_z, pN_s, lget_c, lins_z, lins_c, ldel_z, ldel_c, ldel2_z, ldel2_c, lset_i, lset_l, lset_r, lkeep_z, lkeep_c, largs_z, largs_c, cat_i, cat_l, cat_r, lkp_c, cnd_eq, cnd_ne, cnd_lt, cnd_ge, cnd_gt, cnd_le, swL_z, swL_c, rE_e, rOr_s, rOr_n, rlk_z, rlk_c, aR_c, aI_c, aII_c, aIII_c, aRI_c, aRII_c, aRIII_c, vJn, vJs, vlc, aRR_c, aRRI_c, aRRII_c, aRRIII_c, aRIIII_c, aRL_c, aRLL_c, aLL_c, aRRRI_c, aIL_c, aIIII_c, aRRIIII_c, aIRII_c, aIR_c, aLI_c, aRIR_c, aRIIR_c, mpBest, v0, v1, y9, y9n, y9a, x9a, y9b, x9b, h1, h2, hz, hz', e2, e3]
                  simpa using K
        have K := I σ' q hr
        refine wa (by decide) rgBs_ok tk_273 30 (fun N hN => ?_)
        simp [bl_273, hN _, x_iconst, x_ldc2_w, x_aconst_null, x_iload, x_lload, x_aload, x_istore, x_lstore, x_astore, x_iinc, x_iadd, x_isub, x_imul, x_idiv, x_irem, x_iand, x_ior, x_ixor, x_ishl, x_ishr, x_iushr, x_ineg, x_ladd, x_lsub, x_lmul, x_ldiv, x_lrem, x_lcmp, x_i2l, x_i2b, x_i2s, x_i2c, x_dup, x_pop, x_dup_x1, x_dup2, x_getfield, x_putfield, x_iaload, x_baload, x_saload, x_caload, x_daload, x_faload, x_laload, x_aaload, x_iastore, x_bastore, x_sastore, x_castore, x_lastore, x_aastore, x_arraylength, x_getstatic, x_goto, x_goto_w, x_ifCond, x_if_icmp, x_ifnull, x_ifnonnull, x_lookupswitch, x_invokevirtual, x_invokestatic, x_invokedynamic, x_ireturn, x_freturn, x_dreturn, x_lreturn, x_areturn, x_return_, pI_c, pL_c, pR_c, pV_i, pV_r, gI_c, gL_c, gR_c, pN_z, pN_s, lget_c, lins_z, lins_c, ldel_z, ldel_c, ldel2_z, ldel2_c, lset_i, lset_l, lset_r, lkeep_z, lkeep_c, largs_z, largs_c, cat_i, cat_l, cat_r, lkp_c, cnd_eq, cnd_ne, cnd_lt, cnd_ge, cnd_gt, cnd_le, swL_z, swL_c, rE_e, rOr_s, rOr_n, rlk_z, rlk_c, aR_c, aI_c, aII_c, aIII_c, aRI_c, aRII_c, aRIII_c, vJn, vJs, vlc, aRR_c, aRRI_c, aRRII_c, aRRIII_c, aRIIII_c, aRL_c, aRLL_c, aLL_c, aRRRI_c, aIL_c, aIIII_c, aRRIIII_c, aIRII_c, aIR_c, aLI_c, aRIR_c, aRIIR_c, x9, x9n, x9a, x9b]
        exact K
    have K := O (up (up σ 175 8 0) 175 7 0) ⟨(QFM.rf.up sf8).up sf7, by simp [up_ap]⟩ rmIs.nil
    refine wg (by decide) rgBs_ok tk_273 py_273 ml_273 30 (by simp [catT]) (fun N hN => ?_)
    simp [bl_273, hN _, x_iconst, x_ldc2_w, x_aconst_null, x_iload, x_lload, x_aload, x_istore, x_lstore, x_astore, x_iinc, x_iadd, x_isub, x_imul, x_idiv, x_irem, x_iand, x_ior, x_ixor, x_ishl, x_ishr, x_iushr, x_ineg, x_ladd, x_lsub, x_lmul, x_ldiv, x_lrem, x_lcmp, x_i2l, x_i2b, x_i2s, x_i2c, x_dup, x_pop, x_dup_x1, x_dup2, x_getfield, x_putfield, x_iaload, x_baload, x_saload, x_caload, x_daload, x_faload, x_laload, x_aaload, x_iastore, x_bastore, x_sastore, x_castore, x_lastore, x_aastore, x_arraylength, x_getstatic, x_goto, x_goto_w, x_ifCond, x_if_icmp, x_ifnull, x_ifnonnull, x_lookupswitch, x_invokevirtual, x_invokestatic, x_invokedynamic, x_ireturn, x_freturn, x_dreturn, x_lreturn, x_areturn, x_return_, pI_c, pL_c, pR_c, pV_i, pV_r, gI_c, gL_c, gR_c, pN_z, pN_s, lget_c, lins_z, lins_c, ldel_z, ldel_c, ldel2_z, ldel2_c, lset_i, lset_l, lset_r, lkeep_z, lkeep_c, largs_z, largs_c, cat_i, cat_l, cat_r, lkp_c, cnd_eq, cnd_ne, cnd_lt, cnd_ge, cnd_gt, cnd_le, swL_z, swL_c, rE_e, rOr_s, rOr_n, rlk_z, rlk_c, aR_c, aI_c, aII_c, aIII_c, aRI_c, aRII_c, aRIII_c, vJn, vJs, vlc, aRR_c, aRRI_c, aRRII_c, aRRIII_c, aRIIII_c, aRL_c, aRLL_c, aLL_c, aRRRI_c, aIL_c, aIIII_c, aRRIIII_c, aIRII_c, aIR_c, aLI_c, aRIR_c, aRIIR_c, hM.o, mpIn, v0, v1]
    exact ⟨K, fun z => by omega⟩
  · rw [if_neg hv] at h
    have h := h _ QTM.rf
    refine wg (by decide) rgBs_ok tk_273 py_273 ml_273 30 (by simp [catT]) (fun N hN => ?_)
    simp [bl_273, hN _, x_iconst, x_ldc2_w, x_aconst_null, x_iload, x_lload, x_aload, x_istore, x_lstore, x_astore, x_iinc, x_iadd, x_isub, x_imul, x_idiv, x_irem, x_iand, x_ior, x_ixor, x_ishl, x_ishr, x_iushr, x_ineg, x_ladd, x_lsub, x_lmul, x_ldiv, x_lrem, x_lcmp, x_i2l, x_i2b, x_i2s, x_i2c, x_dup, x_pop, x_dup_x1, x_dup2, x_getfield, x_putfield, x_iaload, x_baload, x_saload, x_caload, x_daload, x_faload, x_laload, x_aaload, x_iastore, x_bastore, x_sastore, x_castore, x_lastore, x_aastore, x_arraylength, x_getstatic, x_goto, x_goto_w, x_ifCond, x_if_icmp, x_ifnull, x_ifnonnull, x_lookupswitch, x_invokevirtual, x_invokestatic, x_invokedynamic, x_ireturn, x_freturn, x_dreturn, x_lreturn, x_areturn, x_return_, pI_c, pL_c, pR_c, pV_i, pV_r, gI_c, gL_c, gR_c, pN_z, pN_s, lget_c, lins_z, lins_c, ldel_z, ldel_c, ldel2_z, ldel2_c, lset_i, lset_l, lset_r, lkeep_z, lkeep_c, largs_z, largs_c, cat_i, cat_l, cat_r, lkp_c, cnd_eq, cnd_ne, cnd_lt, cnd_ge, cnd_gt, cnd_le, swL_z, swL_c, rE_e, rOr_s, rOr_n, rlk_z, rlk_c, aR_c, aI_c, aII_c, aIII_c, aRI_c, aRII_c, aRIII_c, vJn, vJs, vlc, aRR_c, aRRI_c, aRRII_c, aRRIII_c, aRIIII_c, aRL_c, aRLL_c, aLL_c, aRRRI_c, aIL_c, aIIII_c, aRRIIII_c, aIRII_c, aIR_c, aLI_c, aRIR_c, aRIIR_c, hM.o, mpIn]
    grind
