/-! the reference: yields, undo, days, keep, again -/
theorem yieldA_r {n : Nat} {V : Int → Int} {s f : Int} {M : Int → Int} (hW : WFV n M V) : (rfYield n V s f < 0 → yieldA n V s f = rfYield n V s f ∧ yieldN n V s f = V) ∧ (0 ≤ rfYield n V s f → ((0 ≤ s ∧ s < n) ∧ (0 ≤ f ∧ f < 4)) ∧ yieldA n V s f = 12 - partV V s f ∧ yieldN n V s f = yieldV V s f ∧ 0 ≤ yieldA n V s f ∧ (0 ≤ partV V s f ∧ partV V s f ≤ 12)) := by
  unfold rfYield yieldA yieldN
  by_cases hc : (0 ≤ s ∧ s < n) ∧ (0 ≤ f ∧ f < 4)
  · rw [if_pos hc, if_pos hc]
    have hp := hW.pt hc.1.1 hc.1.2 hc.2.1 hc.2.2
    by_cases h1 : partV V s f = 12
    · rw [if_pos h1, if_pos h1, if_neg (fun z => z.2 h1)]
      exact ⟨fun _ => ⟨rfl, rfl⟩, fun z => by omega⟩
    · rw [if_neg h1, if_neg h1, if_pos ⟨hc, h1⟩]
      exact ⟨fun z => by omega, fun _ => ⟨hc, rfl, rfl, by omega, hp⟩⟩
  · rw [if_neg hc, if_neg hc, if_neg (fun z => hc z.1)]
    exact ⟨fun _ => ⟨rfl, rfl⟩, fun z => by omega⟩
theorem mo_yields {l : Launch} {g : GE} {d : Nat} {t : Tau} {σ : Mem} {Q : Post} {i s : Int} {p : Nat} {U : Nat → Int → Int} (hk : MK t σ) (hp : MpIs σ p U) (h : ∀ σ', MTo σ σ' (yieldN (nM σ) (vA σ 176) i s) (pstP (yieldA (nM σ) (vA σ 176) i s) p) (pstU (yieldA (nM σ) (vA σ 176) i s) p U (vA σ 176)) none → Q (some (vI (yieldA (nM σ) (vA σ 176) i s))) t σ') : WPc l g 219 (d + 6) 0 0 [vR 175, vI i, vI s] t σ Q := by
  obtain ⟨hM, hW⟩ := hk
  have hM1 : MdOk t (up σ 175 8 0) := by rw [md_up (by omega)]; exact hM
  have hn : nM (up σ 175 8 0) = nM σ := nM_up (by omega)
  have hv : vA (up σ 175 8 0) 176 = vA σ 176 := vA_up (by omega)
  obtain ⟨hS1, hS2⟩ := yieldA_r (s := i) (f := s) hW
  have hp1 : MpIs (up σ 175 8 0) p U := hp.cg (by simp [up_ap]) (up_ne (by omega))
  refine wg (by decide) rgN_ok ts_219 py_219 ml_219 30 (by simp [catT]) (fun N hN => ?_)
  simp [bs_219, hN _, x_iconst, x_ldc2_w, x_aconst_null, x_iload, x_lload, x_aload, x_istore, x_lstore, x_astore, x_iinc, x_iadd, x_isub, x_imul, x_idiv, x_irem, x_iand, x_ior, x_ixor, x_ishl, x_ishr, x_iushr, x_ineg, x_ladd, x_lsub, x_lmul, x_ldiv, x_lrem, x_lcmp, x_i2l, x_i2b, x_i2s, x_i2c, x_dup, x_pop, x_dup_x1, x_dup2, x_getfield, x_putfield, x_iaload, x_baload, x_saload, x_caload, x_daload, x_faload, x_laload, x_aaload, x_iastore, x_bastore, x_sastore, x_castore, x_lastore, x_aastore, x_arraylength, x_getstatic, x_goto, x_goto_w, x_ifCond, x_if_icmp, x_ifnull, x_ifnonnull, x_lookupswitch, x_invokevirtual, x_invokestatic, x_invokedynamic, x_ireturn, x_freturn, x_dreturn, x_lreturn, x_areturn, x_return_, pI_c, pL_c, pR_c, pV_i, pV_r, gI_c, gL_c, gR_c, pN_z, pN_s, lget_c, lins_z, lins_c, ldel_z, ldel_c, ldel2_z, ldel2_c, lset_i, lset_l, lset_r, lkeep_z, lkeep_c, largs_z, largs_c, cat_i, cat_l, cat_r, lkp_c, cnd_eq, cnd_ne, cnd_lt, cnd_ge, cnd_gt, cnd_le, swL_z, swL_c, rE_e, rOr_s, rOr_n, rlk_z, rlk_c, aR_c, aI_c, aII_c, aIII_c, aRI_c, aRII_c, aRIII_c, vJn, vJs, vlc, aRR_c, aRRI_c, aRRII_c, aRRIII_c, aRIIII_c, aRL_c, aRLL_c, aLL_c, aRRRI_c, aIL_c, aIIII_c, aRRIIII_c, aIRII_c, aIR_c, aLI_c, aRIR_c, aRIIR_c, hM.1.o, hM.1.f0, mpRefY, hM1, hn, hv]
  refine ⟨fun z => ?_, fun z => ?_⟩
  · obtain ⟨⟨hi, hs⟩, e1, e2, e3, e4⟩ := hS2 z
    unfold pstP pstU at h
    rw [if_neg (by omega), if_neg (by omega), e1, e2] at h
    simp only [mpRem, aRR_c]
    refine ⟨trivial, hM.1, RowT.now hM.1, by omega, p, U, hp1, fun σ1 x1 x2 x3 => ?_⟩
    rw [hv] at x3
    have e176 : σ1 176 = σ 176 := by rw [x1 176 (by omega) (by omega), up_ne (by omega)]
    have v176 : vA σ1 176 = vA σ 176 := by unfold vA; rw [e176]
    have n6 := hM.2.2
    have i6 : i < 6 := by omega
    have e5 : w32 (12 - partV (vA σ 176) i s) = 12 - partV (vA σ 176) i s := w32_id (by omega) (by omega)
    simp [sg_219_18_2, sg_219_18_1, hN _, x_iconst, x_ldc2_w, x_aconst_null, x_iload, x_lload, x_aload, x_istore, x_lstore, x_astore, x_iinc, x_iadd, x_isub, x_imul, x_idiv, x_irem, x_iand, x_ior, x_ixor, x_ishl, x_ishr, x_iushr, x_ineg, x_ladd, x_lsub, x_lmul, x_ldiv, x_lrem, x_lcmp, x_i2l, x_i2b, x_i2s, x_i2c, x_dup, x_pop, x_dup_x1, x_dup2, x_getfield, x_putfield, x_iaload, x_baload, x_saload, x_caload, x_daload, x_faload, x_laload, x_aaload, x_iastore, x_bastore, x_sastore, x_castore, x_lastore, x_aastore, x_arraylength, x_getstatic, x_goto, x_goto_w, x_ifCond, x_if_icmp, x_ifnull, x_ifnonnull, x_lookupswitch, x_invokevirtual, x_invokestatic, x_invokedynamic, x_ireturn, x_freturn, x_dreturn, x_lreturn, x_areturn, x_return_, pI_c, pL_c, pR_c, pV_i, pV_r, gI_c, gL_c, gR_c, pN_z, pN_s, lget_c, lins_z, lins_c, ldel_z, ldel_c, ldel2_z, ldel2_c, lset_i, lset_l, lset_r, lkeep_z, lkeep_c, largs_z, largs_c, cat_i, cat_l, cat_r, lkp_c, cnd_eq, cnd_ne, cnd_lt, cnd_ge, cnd_gt, cnd_le, swL_z, swL_c, rE_e, rOr_s, rOr_n, rlk_z, rlk_c, aR_c, aI_c, aII_c, aIII_c, aRI_c, aRII_c, aRIII_c, vJn, vJs, vlc, aRR_c, aRRI_c, aRRII_c, aRRIII_c, aRIIII_c, aRL_c, aRLL_c, aLL_c, aRRRI_c, aIL_c, aIIII_c, aRRIIII_c, aIRII_c, aIR_c, aLI_c, aRIR_c, aRIIR_c, hM.1.o, hM.1.f0, hM.1, mpPart, mpYield, RowT.now hM.1, v176, hi, hs, i6, e5]
    intro σ2 T
    refine h σ2 ⟨⟨fun o a b c e => ?_, fun j a b => ?_⟩, T.2, x3.cg (by rw [T.1 175 (by omega)]) (by rw [T.1 184 (by omega)]), ?_, ?_, ?_⟩
    · rw [T.1 o c, x1 o a e, up_ne a]
    · rw [T.1 175 (by omega), x2 j b, up_ap, if_neg (fun z => a (by rw [z.2]; exact Or.inr (Or.inl rfl)))]
    · rw [T.1 175 (by omega), x2 8 (by omega)]; simp [up_ap]
    · rw [T.1 175 (by omega), x2 7 (by omega)]; simp [up_ap]
    · rw [T.1 179 (by omega), x1 179 (by omega) (by omega), up_ne (by omega)]
  · obtain ⟨e1, e2⟩ := hS1 z
    unfold pstP pstU at h
    rw [e1, if_pos z, if_pos z, e2] at h
    exact h _ ⟨⟨fun o a b c e => up_ne a, fun j a b => by rw [up_ap, if_neg (fun z => a (by rw [z.2]; exact Or.inr (Or.inl rfl)))]⟩, hv, hp1, by simp [up_ap], by simp [up_ap], up_ne (by omega)⟩
theorem vA_of {A V : Int → Int} {σ : Mem} {r : Int} (hA : σ r = A) (h : ∀ j, 0 ≤ j → j < 50 → A j = V j) : vA σ r = clp V := by
  funext j
  unfold vA clp
  rw [hA]
  split
  · rename_i hc; exact h j hc.1 hc.2
  · rfl
theorem sgA_clp {A : Int → Int} {k : Int} : clp (sgA A k) = sgA A k := by
  funext j
  unfold sgA clp
  split <;> rfl
theorem mo_undo {l : Launch} {g : GE} {d : Nat} {t : Tau} {σ : Mem} {Q : Post} {p : Nat} {U : Nat → Int → Int} (hk : MK t σ) (hp : MpIs σ p U) (h : if p = 0 then Q (some (vI (-1))) t (up σ 175 8 0) else ∀ σ', MTo σ σ' (U (p - 1)) (p - 1) U none → Q (some (vI (p - 1 : Nat))) t σ') : WPc l g 223 (d + 6) 0 0 [vR 175] t σ Q := by
  obtain ⟨hM, hW⟩ := hk
  obtain ⟨⟨p1, p2⟩, hU⟩ := hp
  by_cases hz : p = 0
  · rw [if_pos hz] at h
    refine wg (by decide) rgN_ok tk_223 py_223 ml_223 30 (by simp [catT]) (fun N hN => ?_)
    simp [bl_223, hN _, x_iconst, x_ldc2_w, x_aconst_null, x_iload, x_lload, x_aload, x_istore, x_lstore, x_astore, x_iinc, x_iadd, x_isub, x_imul, x_idiv, x_irem, x_iand, x_ior, x_ixor, x_ishl, x_ishr, x_iushr, x_ineg, x_ladd, x_lsub, x_lmul, x_ldiv, x_lrem, x_lcmp, x_i2l, x_i2b, x_i2s, x_i2c, x_dup, x_pop, x_dup_x1, x_dup2, x_getfield, x_putfield, x_iaload, x_baload, x_saload, x_caload, x_daload, x_faload, x_laload, x_aaload, x_iastore, x_bastore, x_sastore, x_castore, x_lastore, x_aastore, x_arraylength, x_getstatic, x_goto, x_goto_w, x_ifCond, x_if_icmp, x_ifnull, x_ifnonnull, x_lookupswitch, x_invokevirtual, x_invokestatic, x_invokedynamic, x_ireturn, x_freturn, x_dreturn, x_lreturn, x_areturn, x_return_, pI_c, pL_c, pR_c, pV_i, pV_r, gI_c, gL_c, gR_c, pN_z, pN_s, lget_c, lins_z, lins_c, ldel_z, ldel_c, ldel2_z, ldel2_c, lset_i, lset_l, lset_r, lkeep_z, lkeep_c, largs_z, largs_c, cat_i, cat_l, cat_r, lkp_c, cnd_eq, cnd_ne, cnd_lt, cnd_ge, cnd_gt, cnd_le, swL_z, swL_c, rE_e, rOr_s, rOr_n, rlk_z, rlk_c, aR_c, aI_c, aII_c, aIII_c, aRI_c, aRII_c, aRIII_c, vJn, vJs, vlc, aRR_c, aRRI_c, aRRII_c, aRRIII_c, aRIIII_c, aRL_c, aRLL_c, aLL_c, aRRRI_c, aIL_c, aIIII_c, aRRIIII_c, aIRII_c, aIR_c, aLI_c, aRIR_c, aRIIR_c, hM.1.o, up_ap, p1, hz]
    exact h
  · rw [if_neg hz] at h
    obtain ⟨q, rfl⟩ : ∃ q, p = q + 1 := ⟨p - 1, by omega⟩
    simp only [Nat.add_sub_cancel] at h
    have x1 : ∀ j, 0 ≤ j → j < 50 → σ 184 (50 * (q : Int) + j) = U q j := fun j j0 j1 => by
      rw [← hU q (by omega)]
      unfold sgA clp
      rw [if_pos ⟨j0, j1⟩]
    have uc : clp (U q) = U q := by rw [← hU q (by omega), sgA_clp]
    have w1 : w32 (50 * (q : Int)) = 50 * q := w32_id (by omega) (by omega)
    have K : ∀ σ', (∀ o, o ≠ 175 → o ≠ 176 → σ' o = σ o) → (σ' 175 = up (up σ 175 8 0) 175 21 q 175) → (∀ j, 0 ≤ j → j < ((0 : Nat) : Int) → σ' 176 j = U q j) → Wp l g 223 (d + 6) 0 0 26 [(0, vR 175), (1, vI (0 : Nat))] [] t σ' Q := by
      refine lpU (P := fun i => ∀ σ', (∀ o, o ≠ 175 → o ≠ 176 → σ' o = σ o) → (σ' 175 = up (up σ 175 8 0) 175 21 q 175) → (∀ j, 0 ≤ j → j < ((i : Nat) : Int) → σ' 176 j = U q j) → Wp l g 223 (d + 6) 0 0 26 [(0, vR 175), (1, vI i)] [] t σ' Q) (n := 50) ?_ (fun i hi K σ' h1 h2 h3 => ?_)
      · intro σ' h1 h2 h3
        refine wa (by decide) rgN_ok tk_223 30 (fun N hN => ?_)
        simp [bl_223, hN _, x_iconst, x_ldc2_w, x_aconst_null, x_iload, x_lload, x_aload, x_istore, x_lstore, x_astore, x_iinc, x_iadd, x_isub, x_imul, x_idiv, x_irem, x_iand, x_ior, x_ixor, x_ishl, x_ishr, x_iushr, x_ineg, x_ladd, x_lsub, x_lmul, x_ldiv, x_lrem, x_lcmp, x_i2l, x_i2b, x_i2s, x_i2c, x_dup, x_pop, x_dup_x1, x_dup2, x_getfield, x_putfield, x_iaload, x_baload, x_saload, x_caload, x_daload, x_faload, x_laload, x_aaload, x_iastore, x_bastore, x_sastore, x_castore, x_lastore, x_aastore, x_arraylength, x_getstatic, x_goto, x_goto_w, x_ifCond, x_if_icmp, x_ifnull, x_ifnonnull, x_lookupswitch, x_invokevirtual, x_invokestatic, x_invokedynamic, x_ireturn, x_freturn, x_dreturn, x_lreturn, x_areturn, x_return_, pI_c, pL_c, pR_c, pV_i, pV_r, gI_c, gL_c, gR_c, pN_z, pN_s, lget_c, lins_z, lins_c, ldel_z, ldel_c, ldel2_z, ldel2_c, lset_i, lset_l, lset_r, lkeep_z, lkeep_c, largs_z, largs_c, cat_i, cat_l, cat_r, lkp_c, cnd_eq, cnd_ne, cnd_lt, cnd_ge, cnd_gt, cnd_le, swL_z, swL_c, rE_e, rOr_s, rOr_n, rlk_z, rlk_c, aR_c, aI_c, aII_c, aIII_c, aRI_c, aRII_c, aRIII_c, vJn, vJs, vlc, aRR_c, aRRI_c, aRRII_c, aRRIII_c, aRIIII_c, aRL_c, aRLL_c, aLL_c, aRRRI_c, aIL_c, aIIII_c, aRRIIII_c, aIRII_c, aIR_c, aLI_c, aRIR_c, aRIIR_c, hM.1.o, h2, up_ap]
        refine h σ' ⟨⟨fun o a _ c _ => h1 o a c, fun j a b => ?_⟩, ?_, ⟨⟨?_, by omega⟩, fun k hk => ?_⟩, ?_, ?_, ?_⟩
        · rw [h2]; simp [up_ap]; rw [if_neg b, if_neg (fun z => a (by rw [z]; exact Or.inr (Or.inl rfl)))]
        · rw [vA_of (σ := σ') (r := 176) rfl (fun j j0 j1 => h3 j j0 (by omega)), uc]
        · rw [h2]; simp [up_ap]
        · rw [h1 184 (by omega) (by omega)]; exact hU k (by omega)
        · rw [h2]; simp [up_ap]
        · rw [h2]; simp [up_ap]
        · exact h1 179 (by omega) (by omega)
      · have e2 := w32_succ (k := i) (by omega); have i1 : ((i : Nat) : Int) < 50 := (by omega); have i1n : i < 50 := (by omega); have i1x : ¬ (50 : Int) ≤ (i : Nat) := (by omega)
        have w2 : w32 (50 * (q : Int) + i) = 50 * q + i := w32_id (by omega) (by omega)
        have w3 : (0 : Int) ≤ 50 * q + i := by omega
        have w4 : 50 * (q : Int) + i < 600 := by omega
        have x2 := x1 i (by omega) (by omega)
        refine wa (by decide) rgN_ok tk_223 30 (fun N hN => ?_)
        simp [bl_223, hN _, x_iconst, x_ldc2_w, x_aconst_null, x_iload, x_lload, x_aload, x_istore, x_lstore, x_astore, x_iinc, x_iadd, x_isub, x_imul, x_idiv, x_irem, x_iand, x_ior, x_ixor, x_ishl, x_ishr, x_iushr, x_ineg, x_ladd, x_lsub, x_lmul, x_ldiv, x_lrem, x_lcmp, x_i2l, x_i2b, x_i2s, x_i2c, x_dup, x_pop, x_dup_x1, x_dup2, x_getfield, x_putfield, x_iaload, x_baload, x_saload, x_caload, x_daload, x_faload, x_laload, x_aaload, x_iastore, x_bastore, x_sastore, x_castore, x_lastore, x_aastore, x_arraylength, x_getstatic, x_goto, x_goto_w, x_ifCond, x_if_icmp, x_ifnull, x_ifnonnull, x_lookupswitch, x_invokevirtual, x_invokestatic, x_invokedynamic, x_ireturn, x_freturn, x_dreturn, x_lreturn, x_areturn, x_return_, pI_c, pL_c, pR_c, pV_i, pV_r, gI_c, gL_c, gR_c, pN_z, pN_s, lget_c, lins_z, lins_c, ldel_z, ldel_c, ldel2_z, ldel2_c, lset_i, lset_l, lset_r, lkeep_z, lkeep_c, largs_z, largs_c, cat_i, cat_l, cat_r, lkp_c, cnd_eq, cnd_ne, cnd_lt, cnd_ge, cnd_gt, cnd_le, swL_z, swL_c, rE_e, rOr_s, rOr_n, rlk_z, rlk_c, aR_c, aI_c, aII_c, aIII_c, aRI_c, aRII_c, aRIII_c, vJn, vJs, vlc, aRR_c, aRRI_c, aRRII_c, aRRIII_c, aRIIII_c, aRL_c, aRLL_c, aLL_c, aRRRI_c, aIL_c, aIIII_c, aRRIIII_c, aIRII_c, aIR_c, aLI_c, aRIR_c, aRIIR_c, hM.1.o, hM.1.f0, hM.1.f20, hM.1.t176, hM.1.l176, hM.1.t184, hM.1.l184, h2, up_ap, e2, i1, i1n, i1x, w1, w2, w3, w4, h1, x2]
        refine K _ (fun o a b => by rw [up_ne b]; exact h1 o a b) (by rw [up_ne (by omega), h2]) (fun j j0 j1 => ?_)
        rw [up_ap]
        by_cases hj : j = i
        · rw [if_pos ⟨rfl, hj⟩, hj]
        · rw [if_neg (fun z => hj z.2)]; exact h3 j j0 (by omega)
    have p1' : σ 175 21 = (q : Int) + 1 := by rw [p1]; omega
    have p3 : ¬ (q : Int) + 1 = 0 := by omega
    have w5 : w32 q = q := w32_id (by omega) (by omega)
    have K := K (up (up σ 175 8 0) 175 21 q) (fun o a _ => by rw [up_ne a, up_ne a]) rfl (fun j j0 j1 => by omega)
    refine wg (by decide) rgN_ok tk_223 py_223 ml_223 30 (by simp [catT]) (fun N hN => ?_)
    simp [bl_223, hN _, x_iconst, x_ldc2_w, x_aconst_null, x_iload, x_lload, x_aload, x_istore, x_lstore, x_astore, x_iinc, x_iadd, x_isub, x_imul, x_idiv, x_irem, x_iand, x_ior, x_ixor, x_ishl, x_ishr, x_iushr, x_ineg, x_ladd, x_lsub, x_lmul, x_ldiv, x_lrem, x_lcmp, x_i2l, x_i2b, x_i2s, x_i2c, x_dup, x_pop, x_dup_x1, x_dup2, x_getfield, x_putfield, x_iaload, x_baload, x_saload, x_caload, x_daload, x_faload, x_laload, x_aaload, x_iastore, x_bastore, x_sastore, x_castore, x_lastore, x_aastore, x_arraylength, x_getstatic, x_goto, x_goto_w, x_ifCond, x_if_icmp, x_ifnull, x_ifnonnull, x_lookupswitch, x_invokevirtual, x_invokestatic, x_invokedynamic, x_ireturn, x_freturn, x_dreturn, x_lreturn, x_areturn, x_return_, pI_c, pL_c, pR_c, pV_i, pV_r, gI_c, gL_c, gR_c, pN_z, pN_s, lget_c, lins_z, lins_c, ldel_z, ldel_c, ldel2_z, ldel2_c, lset_i, lset_l, lset_r, lkeep_z, lkeep_c, largs_z, largs_c, cat_i, cat_l, cat_r, lkp_c, cnd_eq, cnd_ne, cnd_lt, cnd_ge, cnd_gt, cnd_le, swL_z, swL_c, rE_e, rOr_s, rOr_n, rlk_z, rlk_c, aR_c, aI_c, aII_c, aIII_c, aRI_c, aRII_c, aRIII_c, vJn, vJs, vlc, aRR_c, aRRI_c, aRRII_c, aRRIII_c, aRIIII_c, aRL_c, aRLL_c, aLL_c, aRRRI_c, aIL_c, aIIII_c, aRRIIII_c, aIRII_c, aIR_c, aLI_c, aRIR_c, aRIIR_c, hM.1.o, up_ap, p1', p3, w5]
    exact K
theorem daysV_0 {n : Nat} {M V : Int → Int} : daysV n M V 0 = V := rfl
theorem mo_days {l : Launch} {g : GE} {d : Nat} {t : Tau} {σ : Mem} {Q : Post} {m : Int} {p : Nat} {U : Nat → Int → Int} (hk : MK t σ) (hp : MpIs σ p U) (h : if 0 ≤ m ∧ m ≤ 60 then ∀ σ', MTo σ σ' (daysV (nM σ) (mM σ) (vA σ 176) m.toNat) (if 0 < m then pushP p else p) (if 0 < m then pushU p U (vA σ 176) else U) (some (rowN (fun s => sumW (fun i => partV (daysV (nM σ) (mM σ) (vA σ 176) m.toNat) i s) (nM σ)) 4)) → Q (some (vI (sumW (daysV (nM σ) (mM σ) (vA σ 176) m.toNat) (nM σ)))) t σ' else Q (some (vI (-1))) t (up σ 175 8 0)) : WPc l g 213 (d + 6) 0 0 [vR 175, vI m] t σ Q := by
  obtain ⟨hM, hW⟩ := hk
  by_cases hm : 0 ≤ m ∧ m ≤ 60
  · rw [if_pos hm] at h
    obtain ⟨m0, m1⟩ := hm
    generalize hWd : daysV (nM σ) (mM σ) (vA σ 176) m.toNat = W at h
    generalize hp' : (if 0 < m then pushP p else p) = p' at h
    generalize hU' : (if 0 < m then pushU p U (vA σ 176) else U) = U' at h
    have L : ∀ σ', (((∀ o, o ≠ 175 → ¬ scrM o → o ≠ 176 → o ≠ 184 → σ' o = σ o) ∧ ∀ j, ¬ scrF j → j ≠ 21 → σ' 175 j = σ 175 j) ∧ vA σ' 176 = W ∧ MpIs σ' p' U' ∧ σ' 175 8 = 0) → rmIs σ' (rowN (fun s => sumW (fun i => partV W i s) (nM σ)) 0) → Wp l g 213 (d + 6) 0 0 45 [(0, vR 175), (2, vI (0 : Nat))] [] t σ' Q := by
      refine lpU (P := fun s => ∀ σ', (((∀ o, o ≠ 175 → ¬ scrM o → o ≠ 176 → o ≠ 184 → σ' o = σ o) ∧ ∀ j, ¬ scrF j → j ≠ 21 → σ' 175 j = σ 175 j) ∧ vA σ' 176 = W ∧ MpIs σ' p' U' ∧ σ' 175 8 = 0) → rmIs σ' (rowN (fun s => sumW (fun i => partV W i s) (nM σ)) s) → Wp l g 213 (d + 6) 0 0 45 [(0, vR 175), (2, vI s)] [] t σ' Q) (n := 4) ?_ (fun s hs K σ' hσ hr => ?_)
      · rintro σ' ⟨⟨h1, h2⟩, h3, h4, h5⟩ hr
        have e1 : nM σ' = nM σ := by unfold nM; rw [h2 1 (by unfold scrF; omega) (by omega)]
        have hMs : MdOk t σ' := ⟨hM.1, by rw [h2 1 (by unfold scrF; omega) (by omega), e1]; exact hM.2.1, by rw [e1]; exact hM.2.2⟩
        refine wa (by decide) rgN_ok tk_213 30 (fun N hN => ?_)
        simp [bl_213, hN _, x_iconst, x_ldc2_w, x_aconst_null, x_iload, x_lload, x_aload, x_istore, x_lstore, x_astore, x_iinc, x_iadd, x_isub, x_imul, x_idiv, x_irem, x_iand, x_ior, x_ixor, x_ishl, x_ishr, x_iushr, x_ineg, x_ladd, x_lsub, x_lmul, x_ldiv, x_lrem, x_lcmp, x_i2l, x_i2b, x_i2s, x_i2c, x_dup, x_pop, x_dup_x1, x_dup2, x_getfield, x_putfield, x_iaload, x_baload, x_saload, x_caload, x_daload, x_faload, x_laload, x_aaload, x_iastore, x_bastore, x_sastore, x_castore, x_lastore, x_aastore, x_arraylength, x_getstatic, x_goto, x_goto_w, x_ifCond, x_if_icmp, x_ifnull, x_ifnonnull, x_lookupswitch, x_invokevirtual, x_invokestatic, x_invokedynamic, x_ireturn, x_freturn, x_dreturn, x_lreturn, x_areturn, x_return_, pI_c, pL_c, pR_c, pV_i, pV_r, gI_c, gL_c, gR_c, pN_z, pN_s, lget_c, lins_z, lins_c, ldel_z, ldel_c, ldel2_z, ldel2_c, lset_i, lset_l, lset_r, lkeep_z, lkeep_c, largs_z, largs_c, cat_i, cat_l, cat_r, lkp_c, cnd_eq, cnd_ne, cnd_lt, cnd_ge, cnd_gt, cnd_le, swL_z, swL_c, rE_e, rOr_s, rOr_n, rlk_z, rlk_c, aR_c, aI_c, aII_c, aIII_c, aRI_c, aRII_c, aRIII_c, vJn, vJs, vlc, aRR_c, aRRI_c, aRRII_c, aRRIII_c, aRIIII_c, aRL_c, aRLL_c, aLL_c, aRRRI_c, aIL_c, aIIII_c, aRRIIII_c, aIRII_c, aIR_c, aLI_c, aRIR_c, aRIIR_c, hM.1.o, hM.1.f0, mpSumOf, hMs, RowT.now hM.1, h3, e1]
        exact h σ' ⟨⟨h1, h2⟩, h3, h4, h5, hr⟩
      · obtain ⟨⟨h1, h2⟩, h3, h4, h5⟩ := hσ
        have e2 := w32_succ (k := s) (by omega); have i1 : ((s : Nat) : Int) < 4 := (by omega); have i1n : s < 4 := (by omega); have i1x : ¬ (4 : Int) ≤ (s : Nat) := (by omega)
        have hl := rowN_l (fun s => sumW (fun i => partV W i s) (nM σ)) s
        have a1 : σ' 175 7 = s := by rw [hr.1, hl]
        have e1 : nM σ' = nM σ := by unfold nM; rw [h2 1 (by unfold scrF; omega) (by omega)]
        have hMs : MdOk t σ' := ⟨hM.1, by rw [h2 1 (by unfold scrF; omega) (by omega), e1]; exact hM.2.1, by rw [e1]; exact hM.2.2⟩
        have K := K (up (up σ' 179 (σ' 175 7) (sumW (fun i => partV W i s) (nM σ))) 175 7 (σ' 175 7 + 1)) ⟨⟨fun o a b c e => by rw [up_ne a, up_ne (fun z => b (by rw [z]; exact Or.inl rfl))]; exact h1 o a b c e, fun j a b => by rw [up_ap, if_neg (fun z => a (by rw [z.2]; exact Or.inl rfl)), up_ne (by omega)]; exact h2 j a b⟩, by rw [vA_up (by omega), vA_up (by omega)]; exact h3, h4.cg (by simp [up_ap]) (by rw [up_ne (by omega), up_ne (by omega)]), by simp [up_ap, h5]⟩ (hr.add (by omega))
        rw [a1] at K
        refine wa (by decide) rgN_ok tk_213 30 (fun N hN => ?_)
        simp [bl_213, hN _, x_iconst, x_ldc2_w, x_aconst_null, x_iload, x_lload, x_aload, x_istore, x_lstore, x_astore, x_iinc, x_iadd, x_isub, x_imul, x_idiv, x_irem, x_iand, x_ior, x_ixor, x_ishl, x_ishr, x_iushr, x_ineg, x_ladd, x_lsub, x_lmul, x_ldiv, x_lrem, x_lcmp, x_i2l, x_i2b, x_i2s, x_i2c, x_dup, x_pop, x_dup_x1, x_dup2, x_getfield, x_putfield, x_iaload, x_baload, x_saload, x_caload, x_daload, x_faload, x_laload, x_aaload, x_iastore, x_bastore, x_sastore, x_castore, x_lastore, x_aastore, x_arraylength, x_getstatic, x_goto, x_goto_w, x_ifCond, x_if_icmp, x_ifnull, x_ifnonnull, x_lookupswitch, x_invokevirtual, x_invokestatic, x_invokedynamic, x_ireturn, x_freturn, x_dreturn, x_lreturn, x_areturn, x_return_, pI_c, pL_c, pR_c, pV_i, pV_r, gI_c, gL_c, gR_c, pN_z, pN_s, lget_c, lins_z, lins_c, ldel_z, ldel_c, ldel2_z, ldel2_c, lset_i, lset_l, lset_r, lkeep_z, lkeep_c, largs_z, largs_c, cat_i, cat_l, cat_r, lkp_c, cnd_eq, cnd_ne, cnd_lt, cnd_ge, cnd_gt, cnd_le, swL_z, swL_c, rE_e, rOr_s, rOr_n, rlk_z, rlk_c, aR_c, aI_c, aII_c, aIII_c, aRI_c, aRII_c, aRIII_c, vJn, vJs, vlc, aRR_c, aRRI_c, aRRII_c, aRRIII_c, aRIIII_c, aRL_c, aRLL_c, aLL_c, aRRRI_c, aIL_c, aIIII_c, aRRIIII_c, aIRII_c, aIR_c, aLI_c, aRIR_c, aRIIR_c, hM.1.o, hM.1, hM.1.f0, mpPoa, mpTell, hMs, RowT.now hM.1, h3, e1, e2, i1, i1n, i1x, a1]
        exact ⟨by omega, K⟩
    have fin : ∀ σ1 σ2, ((∀ o, o ≠ 175 → o ≠ 184 → σ1 o = σ o) ∧ (∀ j, j ≠ 21 → j ≠ 8 → σ1 175 j = σ 175 j) ∧ σ1 175 8 = 0 ∧ MpIs σ1 p' U') → RowTo σ1 σ2 176 W → Wp l g 213 (d + 6) 0 0 45 [(0, vR 175), (2, vI (0 : Nat))] [] t (up σ2 175 7 0) Q := by
      rintro σ1 σ2 ⟨h1, h2, h3, h4⟩ T
      refine L _ ⟨⟨fun o a b c e => by rw [up_ne a, T.1 o c, h1 o a e], fun j a b => by rw [up_ap, if_neg (fun z => a (by rw [z.2]; exact Or.inl rfl)), T.1 175 (by omega), h2 j b (fun z => a (by rw [z]; exact Or.inr (Or.inl rfl)))]⟩, by rw [vA_up (by omega)]; exact T.2, h4.cg (by simp [up_ap]; rw [T.1 175 (by omega)]) (by rw [up_ne (by omega), T.1 184 (by omega)]), by simp [up_ap]; rw [T.1 175 (by omega), h3]⟩ rmIs.nil
    have hM1 : MdOk t (up σ 175 8 0) := by rw [md_up (by omega)]; exact hM
    have hn : nM (up σ 175 8 0) = nM σ := nM_up (by omega)
    have hmm : mM (up σ 175 8 0) = mM σ := mM_up (by omega)
    have hv : vA (up σ 175 8 0) 176 = vA σ 176 := vA_up (by omega)
    have hp1 : MpIs (up σ 175 8 0) p U := hp.cg (by simp [up_ap]) (up_ne (by omega))
    by_cases hz : 0 < m
    · rw [if_pos hz] at hp' hU'
      refine wg (by decide) rgN_ok ts_213 py_213 ml_213 30 (by simp [catT]) (fun N hN => ?_)
      simp [bs_213, hN _, x_iconst, x_ldc2_w, x_aconst_null, x_iload, x_lload, x_aload, x_istore, x_lstore, x_astore, x_iinc, x_iadd, x_isub, x_imul, x_idiv, x_irem, x_iand, x_ior, x_ixor, x_ishl, x_ishr, x_iushr, x_ineg, x_ladd, x_lsub, x_lmul, x_ldiv, x_lrem, x_lcmp, x_i2l, x_i2b, x_i2s, x_i2c, x_dup, x_pop, x_dup_x1, x_dup2, x_getfield, x_putfield, x_iaload, x_baload, x_saload, x_caload, x_daload, x_faload, x_laload, x_aaload, x_iastore, x_bastore, x_sastore, x_castore, x_lastore, x_aastore, x_arraylength, x_getstatic, x_goto, x_goto_w, x_ifCond, x_if_icmp, x_ifnull, x_ifnonnull, x_lookupswitch, x_invokevirtual, x_invokestatic, x_invokedynamic, x_ireturn, x_freturn, x_dreturn, x_lreturn, x_areturn, x_return_, pI_c, pL_c, pR_c, pV_i, pV_r, gI_c, gL_c, gR_c, pN_z, pN_s, lget_c, lins_z, lins_c, ldel_z, ldel_c, ldel2_z, ldel2_c, lset_i, lset_l, lset_r, lkeep_z, lkeep_c, largs_z, largs_c, cat_i, cat_l, cat_r, lkp_c, cnd_eq, cnd_ne, cnd_lt, cnd_ge, cnd_gt, cnd_le, swL_z, swL_c, rE_e, rOr_s, rOr_n, rlk_z, rlk_c, aR_c, aI_c, aII_c, aIII_c, aRI_c, aRII_c, aRIII_c, vJn, vJs, vlc, aRR_c, aRRI_c, aRRII_c, aRRIII_c, aRIIII_c, aRL_c, aRLL_c, aLL_c, aRRRI_c, aIL_c, aIIII_c, aRRIIII_c, aIRII_c, aIR_c, aLI_c, aRIR_c, aRIIR_c, hM.1.o, hM.1.f0, mpIn, m0, m1, Int.not_le.mpr hz, Int.not_lt.mpr m0, Int.not_lt.mpr m1, hz]
      simp only [mpRem, aRR_c]
      refine ⟨trivial, hM.1, RowT.now hM.1, by omega, p, U, hp1, fun σ1 x1 x2 x3 => ?_⟩
      rw [hv, hp', hU'] at x3
      have e1 : nM σ1 = nM σ := by unfold nM; rw [x2 1 (by omega)]; rfl
      have e2 : mM σ1 = mM σ := by unfold mM; rw [x1 177 (by omega) (by omega), up_ne (by omega)]
      have e3 : vA σ1 176 = vA σ 176 := by unfold vA; rw [x1 176 (by omega) (by omega), up_ne (by omega)]
      have hM2 : MdOk t σ1 := ⟨hM.1, by rw [e1, x2 1 (by omega)]; simp [up_ap]; exact hM.2.1, by rw [e1]; exact hM.2.2⟩
      simp [sg_213_17_1, hN _, x_iconst, x_ldc2_w, x_aconst_null, x_iload, x_lload, x_aload, x_istore, x_lstore, x_astore, x_iinc, x_iadd, x_isub, x_imul, x_idiv, x_irem, x_iand, x_ior, x_ixor, x_ishl, x_ishr, x_iushr, x_ineg, x_ladd, x_lsub, x_lmul, x_ldiv, x_lrem, x_lcmp, x_i2l, x_i2b, x_i2s, x_i2c, x_dup, x_pop, x_dup_x1, x_dup2, x_getfield, x_putfield, x_iaload, x_baload, x_saload, x_caload, x_daload, x_faload, x_laload, x_aaload, x_iastore, x_bastore, x_sastore, x_castore, x_lastore, x_aastore, x_arraylength, x_getstatic, x_goto, x_goto_w, x_ifCond, x_if_icmp, x_ifnull, x_ifnonnull, x_lookupswitch, x_invokevirtual, x_invokestatic, x_invokedynamic, x_ireturn, x_freturn, x_dreturn, x_lreturn, x_areturn, x_return_, pI_c, pL_c, pR_c, pV_i, pV_r, gI_c, gL_c, gR_c, pN_z, pN_s, lget_c, lins_z, lins_c, ldel_z, ldel_c, ldel2_z, ldel2_c, lset_i, lset_l, lset_r, lkeep_z, lkeep_c, largs_z, largs_c, cat_i, cat_l, cat_r, lkp_c, cnd_eq, cnd_ne, cnd_lt, cnd_ge, cnd_gt, cnd_le, swL_z, swL_c, rE_e, rOr_s, rOr_n, rlk_z, rlk_c, aR_c, aI_c, aII_c, aIII_c, aRI_c, aRII_c, aRIII_c, vJn, vJs, vlc, aRR_c, aRRI_c, aRRII_c, aRRIII_c, aRIIII_c, aRL_c, aRLL_c, aLL_c, aRRRI_c, aIL_c, aIIII_c, aRRIIII_c, aIRII_c, aIR_c, aLI_c, aRIR_c, aRIIR_c, hM.1.o, hM.1.f0, mpDays, hM2, ARow, RowT.now hM.1, e1, e2, e3, hW, m0]
      refine ⟨by omega, fun σ2 T => ?_⟩
      rw [hWd] at T
      simp [sg_213_17_2, hN _, x_iconst, x_ldc2_w, x_aconst_null, x_iload, x_lload, x_aload, x_istore, x_lstore, x_astore, x_iinc, x_iadd, x_isub, x_imul, x_idiv, x_irem, x_iand, x_ior, x_ixor, x_ishl, x_ishr, x_iushr, x_ineg, x_ladd, x_lsub, x_lmul, x_ldiv, x_lrem, x_lcmp, x_i2l, x_i2b, x_i2s, x_i2c, x_dup, x_pop, x_dup_x1, x_dup2, x_getfield, x_putfield, x_iaload, x_baload, x_saload, x_caload, x_daload, x_faload, x_laload, x_aaload, x_iastore, x_bastore, x_sastore, x_castore, x_lastore, x_aastore, x_arraylength, x_getstatic, x_goto, x_goto_w, x_ifCond, x_if_icmp, x_ifnull, x_ifnonnull, x_lookupswitch, x_invokevirtual, x_invokestatic, x_invokedynamic, x_ireturn, x_freturn, x_dreturn, x_lreturn, x_areturn, x_return_, pI_c, pL_c, pR_c, pV_i, pV_r, gI_c, gL_c, gR_c, pN_z, pN_s, lget_c, lins_z, lins_c, ldel_z, ldel_c, ldel2_z, ldel2_c, lset_i, lset_l, lset_r, lkeep_z, lkeep_c, largs_z, largs_c, cat_i, cat_l, cat_r, lkp_c, cnd_eq, cnd_ne, cnd_lt, cnd_ge, cnd_gt, cnd_le, swL_z, swL_c, rE_e, rOr_s, rOr_n, rlk_z, rlk_c, aR_c, aI_c, aII_c, aIII_c, aRI_c, aRII_c, aRIII_c, vJn, vJs, vlc, aRR_c, aRRI_c, aRRII_c, aRRIII_c, aRIIII_c, aRL_c, aRLL_c, aLL_c, aRRRI_c, aIL_c, aIIII_c, aRRIIII_c, aIRII_c, aIR_c, aLI_c, aRIR_c, aRIIR_c, hM.1.o]
      exact fin σ1 σ2 ⟨fun o a b => by rw [x1 o a b, up_ne a], fun j a b => by rw [x2 j a, up_ap, if_neg (fun z => b z.2)], by rw [x2 8 (by omega)]; simp [up_ap], x3⟩ T
    · rw [if_neg hz] at hp' hU'
      have hz' : m ≤ 0 := by omega
      subst hp' hU'
      refine wg (by decide) rgN_ok ts_213 py_213 ml_213 30 (by simp [catT]) (fun N hN => ?_)
      simp [bs_213, hN _, x_iconst, x_ldc2_w, x_aconst_null, x_iload, x_lload, x_aload, x_istore, x_lstore, x_astore, x_iinc, x_iadd, x_isub, x_imul, x_idiv, x_irem, x_iand, x_ior, x_ixor, x_ishl, x_ishr, x_iushr, x_ineg, x_ladd, x_lsub, x_lmul, x_ldiv, x_lrem, x_lcmp, x_i2l, x_i2b, x_i2s, x_i2c, x_dup, x_pop, x_dup_x1, x_dup2, x_getfield, x_putfield, x_iaload, x_baload, x_saload, x_caload, x_daload, x_faload, x_laload, x_aaload, x_iastore, x_bastore, x_sastore, x_castore, x_lastore, x_aastore, x_arraylength, x_getstatic, x_goto, x_goto_w, x_ifCond, x_if_icmp, x_ifnull, x_ifnonnull, x_lookupswitch, x_invokevirtual, x_invokestatic, x_invokedynamic, x_ireturn, x_freturn, x_dreturn, x_lreturn, x_areturn, x_return_, pI_c, pL_c, pR_c, pV_i, pV_r, gI_c, gL_c, gR_c, pN_z, pN_s, lget_c, lins_z, lins_c, ldel_z, ldel_c, ldel2_z, ldel2_c, lset_i, lset_l, lset_r, lkeep_z, lkeep_c, largs_z, largs_c, cat_i, cat_l, cat_r, lkp_c, cnd_eq, cnd_ne, cnd_lt, cnd_ge, cnd_gt, cnd_le, swL_z, swL_c, rE_e, rOr_s, rOr_n, rlk_z, rlk_c, aR_c, aI_c, aII_c, aIII_c, aRI_c, aRII_c, aRIII_c, vJn, vJs, vlc, aRR_c, aRRI_c, aRRII_c, aRRIII_c, aRIIII_c, aRL_c, aRLL_c, aLL_c, aRRRI_c, aIL_c, aIIII_c, aRRIIII_c, aIRII_c, aIR_c, aLI_c, aRIR_c, aRIIR_c, hM.1.o, hM.1.f0, mpIn, m0, m1, hz', Int.not_lt.mpr m0, Int.not_lt.mpr m1, hz, mpDays, hM1, ARow, RowT.now hM.1, hn, hmm, hv, hW]
      refine ⟨by omega, fun σ2 T => ?_⟩
      rw [hWd] at T
      simp [sg_213_29_1, hN _, x_iconst, x_ldc2_w, x_aconst_null, x_iload, x_lload, x_aload, x_istore, x_lstore, x_astore, x_iinc, x_iadd, x_isub, x_imul, x_idiv, x_irem, x_iand, x_ior, x_ixor, x_ishl, x_ishr, x_iushr, x_ineg, x_ladd, x_lsub, x_lmul, x_ldiv, x_lrem, x_lcmp, x_i2l, x_i2b, x_i2s, x_i2c, x_dup, x_pop, x_dup_x1, x_dup2, x_getfield, x_putfield, x_iaload, x_baload, x_saload, x_caload, x_daload, x_faload, x_laload, x_aaload, x_iastore, x_bastore, x_sastore, x_castore, x_lastore, x_aastore, x_arraylength, x_getstatic, x_goto, x_goto_w, x_ifCond, x_if_icmp, x_ifnull, x_ifnonnull, x_lookupswitch, x_invokevirtual, x_invokestatic, x_invokedynamic, x_ireturn, x_freturn, x_dreturn, x_lreturn, x_areturn, x_return_, pI_c, pL_c, pR_c, pV_i, pV_r, gI_c, gL_c, gR_c, pN_z, pN_s, lget_c, lins_z, lins_c, ldel_z, ldel_c, ldel2_z, ldel2_c, lset_i, lset_l, lset_r, lkeep_z, lkeep_c, largs_z, largs_c, cat_i, cat_l, cat_r, lkp_c, cnd_eq, cnd_ne, cnd_lt, cnd_ge, cnd_gt, cnd_le, swL_z, swL_c, rE_e, rOr_s, rOr_n, rlk_z, rlk_c, aR_c, aI_c, aII_c, aIII_c, aRI_c, aRII_c, aRIII_c, vJn, vJs, vlc, aRR_c, aRRI_c, aRRII_c, aRRIII_c, aRIIII_c, aRL_c, aRLL_c, aLL_c, aRRRI_c, aIL_c, aIIII_c, aRRIIII_c, aIRII_c, aIR_c, aLI_c, aRIR_c, aRIIR_c, hM.1.o]
      exact fin (up σ 175 8 0) σ2 ⟨fun o a _ => up_ne a, fun j _ b => by rw [up_ap, if_neg (fun z => b z.2)], by simp [up_ap], hp1⟩ T
  · rw [if_neg hm] at h
    refine wg (by decide) rgN_ok tk_213 py_213 ml_213 30 (by simp [catT]) (fun N hN => ?_)
    simp [bl_213, hN _, x_iconst, x_ldc2_w, x_aconst_null, x_iload, x_lload, x_aload, x_istore, x_lstore, x_astore, x_iinc, x_iadd, x_isub, x_imul, x_idiv, x_irem, x_iand, x_ior, x_ixor, x_ishl, x_ishr, x_iushr, x_ineg, x_ladd, x_lsub, x_lmul, x_ldiv, x_lrem, x_lcmp, x_i2l, x_i2b, x_i2s, x_i2c, x_dup, x_pop, x_dup_x1, x_dup2, x_getfield, x_putfield, x_iaload, x_baload, x_saload, x_caload, x_daload, x_faload, x_laload, x_aaload, x_iastore, x_bastore, x_sastore, x_castore, x_lastore, x_aastore, x_arraylength, x_getstatic, x_goto, x_goto_w, x_ifCond, x_if_icmp, x_ifnull, x_ifnonnull, x_lookupswitch, x_invokevirtual, x_invokestatic, x_invokedynamic, x_ireturn, x_freturn, x_dreturn, x_lreturn, x_areturn, x_return_, pI_c, pL_c, pR_c, pV_i, pV_r, gI_c, gL_c, gR_c, pN_z, pN_s, lget_c, lins_z, lins_c, ldel_z, ldel_c, ldel2_z, ldel2_c, lset_i, lset_l, lset_r, lkeep_z, lkeep_c, largs_z, largs_c, cat_i, cat_l, cat_r, lkp_c, cnd_eq, cnd_ne, cnd_lt, cnd_ge, cnd_gt, cnd_le, swL_z, swL_c, rE_e, rOr_s, rOr_n, rlk_z, rlk_c, aR_c, aI_c, aII_c, aIII_c, aRI_c, aRII_c, aRIII_c, vJn, vJs, vlc, aRR_c, aRRI_c, aRRII_c, aRRIII_c, aRIIII_c, aRL_c, aRLL_c, aLL_c, aRRRI_c, aIL_c, aIIII_c, aRRIIII_c, aIRII_c, aIR_c, aLI_c, aRIR_c, aRIIR_c, hM.1.o, mpIn]
    grind
theorem i1_1 : i1 1 = 1 := i1_01 (Or.inr rfl)
theorem mo_keep {l : Launch} {g : GE} {d : Nat} {t : Tau} {σ : Mem} {Q : Post} {i : Int} (hk : MK t σ) (h : if 0 ≤ i ∧ i ≤ 1 then ∀ σ', (∀ o, o ≠ 175 → o ≠ 196 → o ≠ 197 → o ≠ 198 → σ' o = σ o) → (∀ j, j ≠ 8 → σ' 175 j = σ 175 j) → σ' 175 8 = 0 → σ' 197 = up σ 197 i 1 197 → σ' 198 = up σ 198 i (σ 175 37) 198 → sgA (σ' 196) i = vA σ 176 → sgA (σ' 196) (1 - i) = sgA (σ 196) (1 - i) → Q (some (vI 1)) t σ' else Q (some (vI 0)) t (up σ 175 8 0)) : WPc l g 278 (d + 6) 0 0 [vR 175, vI i] t σ Q := by
  obtain ⟨hM, hW⟩ := hk
  by_cases hi : 0 ≤ i ∧ i ≤ 1
  · rw [if_pos hi] at h
    obtain ⟨i0, i1⟩ := hi
    have i2 : i < 2 := by omega
    have w1 : w32 (50 * i) = 50 * i := w32_id (by omega) (by omega)
    have w2 : (0 : Int) ≤ 50 * i := by omega
    have w3 : 50 * i + 50 ≤ 100 := by omega
    refine wg (by decide) rgN_ok ts_278 py_278 ml_278 30 (by simp [catT]) (fun N hN => ?_)
    simp [bs_278, hN _, x_iconst, x_ldc2_w, x_aconst_null, x_iload, x_lload, x_aload, x_istore, x_lstore, x_astore, x_iinc, x_iadd, x_isub, x_imul, x_idiv, x_irem, x_iand, x_ior, x_ixor, x_ishl, x_ishr, x_iushr, x_ineg, x_ladd, x_lsub, x_lmul, x_ldiv, x_lrem, x_lcmp, x_i2l, x_i2b, x_i2s, x_i2c, x_dup, x_pop, x_dup_x1, x_dup2, x_getfield, x_putfield, x_iaload, x_baload, x_saload, x_caload, x_daload, x_faload, x_laload, x_aaload, x_iastore, x_bastore, x_sastore, x_castore, x_lastore, x_aastore, x_arraylength, x_getstatic, x_goto, x_goto_w, x_ifCond, x_if_icmp, x_ifnull, x_ifnonnull, x_lookupswitch, x_invokevirtual, x_invokestatic, x_invokedynamic, x_ireturn, x_freturn, x_dreturn, x_lreturn, x_areturn, x_return_, pI_c, pL_c, pR_c, pV_i, pV_r, gI_c, gL_c, gR_c, pN_z, pN_s, lget_c, lins_z, lins_c, ldel_z, ldel_c, ldel2_z, ldel2_c, lset_i, lset_l, lset_r, lkeep_z, lkeep_c, largs_z, largs_c, cat_i, cat_l, cat_r, lkp_c, cnd_eq, cnd_ne, cnd_lt, cnd_ge, cnd_gt, cnd_le, swL_z, swL_c, rE_e, rOr_s, rOr_n, rlk_z, rlk_c, aR_c, aI_c, aII_c, aIII_c, aRI_c, aRII_c, aRIII_c, vJn, vJs, vlc, aRR_c, aRRI_c, aRRII_c, aRRIII_c, aRIIII_c, aRL_c, aRLL_c, aLL_c, aRRRI_c, aIL_c, aIIII_c, aRRIIII_c, aIRII_c, aIR_c, aLI_c, aRIR_c, aRIIR_c, hM.1.o, mpIn, hM.1.f0, hM.1.f38, hM.1.f39, hM.1.f40, hM.1.t196, hM.1.l196, hM.1.t197, hM.1.l197, hM.1.t198, hM.1.l198, mpLay, RowT.now hM.1, i0, i1, i2, Int.not_lt.mpr i0, Int.not_lt.mpr i1, w1, w2, w3]
    intro σ1 y1 y2
    simp [sg_278_16_1, hN _, x_iconst, x_ldc2_w, x_aconst_null, x_iload, x_lload, x_aload, x_istore, x_lstore, x_astore, x_iinc, x_iadd, x_isub, x_imul, x_idiv, x_irem, x_iand, x_ior, x_ixor, x_ishl, x_ishr, x_iushr, x_ineg, x_ladd, x_lsub, x_lmul, x_ldiv, x_lrem, x_lcmp, x_i2l, x_i2b, x_i2s, x_i2c, x_dup, x_pop, x_dup_x1, x_dup2, x_getfield, x_putfield, x_iaload, x_baload, x_saload, x_caload, x_daload, x_faload, x_laload, x_aaload, x_iastore, x_bastore, x_sastore, x_castore, x_lastore, x_aastore, x_arraylength, x_getstatic, x_goto, x_goto_w, x_ifCond, x_if_icmp, x_ifnull, x_ifnonnull, x_lookupswitch, x_invokevirtual, x_invokestatic, x_invokedynamic, x_ireturn, x_freturn, x_dreturn, x_lreturn, x_areturn, x_return_, pI_c, pL_c, pR_c, pV_i, pV_r, gI_c, gL_c, gR_c, pN_z, pN_s, lget_c, lins_z, lins_c, ldel_z, ldel_c, ldel2_z, ldel2_c, lset_i, lset_l, lset_r, lkeep_z, lkeep_c, largs_z, largs_c, cat_i, cat_l, cat_r, lkp_c, cnd_eq, cnd_ne, cnd_lt, cnd_ge, cnd_gt, cnd_le, swL_z, swL_c, rE_e, rOr_s, rOr_n, rlk_z, rlk_c, aR_c, aI_c, aII_c, aIII_c, aRI_c, aRII_c, aRIII_c, vJn, vJs, vlc, aRR_c, aRRI_c, aRRII_c, aRRIII_c, aRIIII_c, aRL_c, aRLL_c, aLL_c, aRRRI_c, aIL_c, aIIII_c, aRRIIII_c, aIRII_c, aIR_c, aLI_c, aRIR_c, aRIIR_c]
    refine h σ1 (fun o a b c e => ?_) (fun j a => ?_) ?_ ?_ ?_ ?_ ?_
    · rw [y1 o b, up_ne e, up_ne c, up_ne a]
    · rw [y1 175 (by omega)]; simp [up_ap, a]
    · rw [y1 175 (by omega)]; simp [up_ap]
    · rw [y1 197 (by omega)]; funext j; simp [up_ap, i1_1]
    · rw [y1 198 (by omega)]; funext j; simp [up_ap]
    · refine sgA_of (fun j j0 j1 => ?_)
      rw [y2, if_pos (by omega)]; simp [up_ap]; congr 1; omega
    · refine sgA_cg (fun j j0 j1 => ?_)
      rw [y2, if_neg (by omega)]; simp [up_ap]
  · rw [if_neg hi] at h
    refine wg (by decide) rgN_ok tk_278 py_278 ml_278 30 (by simp [catT]) (fun N hN => ?_)
    simp [bl_278, hN _, x_iconst, x_ldc2_w, x_aconst_null, x_iload, x_lload, x_aload, x_istore, x_lstore, x_astore, x_iinc, x_iadd, x_isub, x_imul, x_idiv, x_irem, x_iand, x_ior, x_ixor, x_ishl, x_ishr, x_iushr, x_ineg, x_ladd, x_lsub, x_lmul, x_ldiv, x_lrem, x_lcmp, x_i2l, x_i2b, x_i2s, x_i2c, x_dup, x_pop, x_dup_x1, x_dup2, x_getfield, x_putfield, x_iaload, x_baload, x_saload, x_caload, x_daload, x_faload, x_laload, x_aaload, x_iastore, x_bastore, x_sastore, x_castore, x_lastore, x_aastore, x_arraylength, x_getstatic, x_goto, x_goto_w, x_ifCond, x_if_icmp, x_ifnull, x_ifnonnull, x_lookupswitch, x_invokevirtual, x_invokestatic, x_invokedynamic, x_ireturn, x_freturn, x_dreturn, x_lreturn, x_areturn, x_return_, pI_c, pL_c, pR_c, pV_i, pV_r, gI_c, gL_c, gR_c, pN_z, pN_s, lget_c, lins_z, lins_c, ldel_z, ldel_c, ldel2_z, ldel2_c, lset_i, lset_l, lset_r, lkeep_z, lkeep_c, largs_z, largs_c, cat_i, cat_l, cat_r, lkp_c, cnd_eq, cnd_ne, cnd_lt, cnd_ge, cnd_gt, cnd_le, swL_z, swL_c, rE_e, rOr_s, rOr_n, rlk_z, rlk_c, aR_c, aI_c, aII_c, aIII_c, aRI_c, aRII_c, aRIII_c, vJn, vJs, vlc, aRR_c, aRRI_c, aRRII_c, aRRIII_c, aRIIII_c, aRL_c, aRLL_c, aLL_c, aRRRI_c, aIL_c, aIIII_c, aRRIIII_c, aIRII_c, aIR_c, aLI_c, aRIR_c, aRIIR_c, hM.1.o, mpIn]
    grind
theorem mo_again {l : Launch} {g : GE} {d : Nat} {t : Tau} {σ : Mem} {Q : Post} {i : Int} {p : Nat} {U : Nat → Int → Int} (hk : MK t σ) (hp : MpIs σ p U) (h : if (0 ≤ i ∧ i ≤ 1) ∧ σ 197 i ≠ 0 ∧ σ 198 i = σ 175 37 then ∀ σ', MTo σ σ' (sgA (σ 196) i) 0 U none → Q (some (vI 1)) t σ' else Q (some (vI 0)) t (up σ 175 8 0)) : WPc l g 279 (d + 6) 0 0 [vR 175, vI i] t σ Q := by
  obtain ⟨hM, hW⟩ := hk
  by_cases hi : 0 ≤ i ∧ i ≤ 1
  · obtain ⟨i0, i1⟩ := hi
    have i2 : i < 2 := by omega
    have w1 : w32 (50 * i) = 50 * i := w32_id (by omega) (by omega)
    have x1 : ∀ j, 0 ≤ j → j < 50 → σ 196 (50 * i + j) = sgA (σ 196) i j := fun j j0 j1 => by
      unfold sgA clp
      rw [if_pos ⟨j0, j1⟩]
    by_cases hb : σ 197 i ≠ 0 ∧ σ 198 i = σ 175 37
    · rw [if_pos ⟨⟨i0, i1⟩, hb⟩] at h
      have K : ∀ σ', (∀ o, o ≠ 175 → o ≠ 176 → σ' o = σ o) → (σ' 175 = up σ 175 8 0 175) → (∀ j, 0 ≤ j → j < ((0 : Nat) : Int) → σ' 176 j = sgA (σ 196) i j) → Wp l g 279 (d + 6) 0 0 40 [(0, vR 175), (1, vI i), (2, vI (0 : Nat))] [] t σ' Q := by
        refine lpU (P := fun k => ∀ σ', (∀ o, o ≠ 175 → o ≠ 176 → σ' o = σ o) → (σ' 175 = up σ 175 8 0 175) → (∀ j, 0 ≤ j → j < ((k : Nat) : Int) → σ' 176 j = sgA (σ 196) i j) → Wp l g 279 (d + 6) 0 0 40 [(0, vR 175), (1, vI i), (2, vI k)] [] t σ' Q) (n := 50) ?_ (fun k hk K σ' h1 h2 h3 => ?_)
        · intro σ' h1 h2 h3
          refine wa (by decide) rgN_ok tk_279 30 (fun N hN => ?_)
          simp [bl_279, hN _, x_iconst, x_ldc2_w, x_aconst_null, x_iload, x_lload, x_aload, x_istore, x_lstore, x_astore, x_iinc, x_iadd, x_isub, x_imul, x_idiv, x_irem, x_iand, x_ior, x_ixor, x_ishl, x_ishr, x_iushr, x_ineg, x_ladd, x_lsub, x_lmul, x_ldiv, x_lrem, x_lcmp, x_i2l, x_i2b, x_i2s, x_i2c, x_dup, x_pop, x_dup_x1, x_dup2, x_getfield, x_putfield, x_iaload, x_baload, x_saload, x_caload, x_daload, x_faload, x_laload, x_aaload, x_iastore, x_bastore, x_sastore, x_castore, x_lastore, x_aastore, x_arraylength, x_getstatic, x_goto, x_goto_w, x_ifCond, x_if_icmp, x_ifnull, x_ifnonnull, x_lookupswitch, x_invokevirtual, x_invokestatic, x_invokedynamic, x_ireturn, x_freturn, x_dreturn, x_lreturn, x_areturn, x_return_, pI_c, pL_c, pR_c, pV_i, pV_r, gI_c, gL_c, gR_c, pN_z, pN_s, lget_c, lins_z, lins_c, ldel_z, ldel_c, ldel2_z, ldel2_c, lset_i, lset_l, lset_r, lkeep_z, lkeep_c, largs_z, largs_c, cat_i, cat_l, cat_r, lkp_c, cnd_eq, cnd_ne, cnd_lt, cnd_ge, cnd_gt, cnd_le, swL_z, swL_c, rE_e, rOr_s, rOr_n, rlk_z, rlk_c, aR_c, aI_c, aII_c, aIII_c, aRI_c, aRII_c, aRIII_c, vJn, vJs, vlc, aRR_c, aRRI_c, aRRII_c, aRRIII_c, aRIIII_c, aRL_c, aRLL_c, aLL_c, aRRRI_c, aIL_c, aIIII_c, aRRIIII_c, aIRII_c, aIR_c, aLI_c, aRIR_c, aRIIR_c, hM.1.o]
          refine h _ ⟨⟨fun o a _ c _ => by rw [up_ne a]; exact h1 o a c, fun j a b => ?_⟩, ?_, ⟨⟨?_, by omega⟩, fun k hk => by omega⟩, ?_, ?_, ?_⟩
          · rw [up_ap, if_neg (fun z => b z.2), h2, up_ap, if_neg (fun z => a (by rw [z.2]; exact Or.inr (Or.inl rfl)))]
          · rw [vA_up (by omega), vA_of (σ := σ') (r := 176) rfl (fun j j0 j1 => h3 j j0 (by omega)), sgA_clp]
          · simp [up_ap]
          · simp [up_ap, h2]
          · simp [up_ap, h2]
          · rw [up_ne (by omega)]; exact h1 179 (by omega) (by omega)
        · have e2 := w32_succ (k := k) (by omega); have i1 : ((k : Nat) : Int) < 50 := (by omega); have i1n : k < 50 := (by omega); have i1x : ¬ (50 : Int) ≤ (k : Nat) := (by omega)
          have w2 : w32 (50 * i + k) = 50 * i + k := w32_id (by omega) (by omega)
          have w3 : (0 : Int) ≤ 50 * i + k := by omega
          have w4 : 50 * i + k < 100 := by omega
          have x2 := x1 k (by omega) (by omega)
          refine wa (by decide) rgN_ok tk_279 30 (fun N hN => ?_)
          simp [bl_279, hN _, x_iconst, x_ldc2_w, x_aconst_null, x_iload, x_lload, x_aload, x_istore, x_lstore, x_astore, x_iinc, x_iadd, x_isub, x_imul, x_idiv, x_irem, x_iand, x_ior, x_ixor, x_ishl, x_ishr, x_iushr, x_ineg, x_ladd, x_lsub, x_lmul, x_ldiv, x_lrem, x_lcmp, x_i2l, x_i2b, x_i2s, x_i2c, x_dup, x_pop, x_dup_x1, x_dup2, x_getfield, x_putfield, x_iaload, x_baload, x_saload, x_caload, x_daload, x_faload, x_laload, x_aaload, x_iastore, x_bastore, x_sastore, x_castore, x_lastore, x_aastore, x_arraylength, x_getstatic, x_goto, x_goto_w, x_ifCond, x_if_icmp, x_ifnull, x_ifnonnull, x_lookupswitch, x_invokevirtual, x_invokestatic, x_invokedynamic, x_ireturn, x_freturn, x_dreturn, x_lreturn, x_areturn, x_return_, pI_c, pL_c, pR_c, pV_i, pV_r, gI_c, gL_c, gR_c, pN_z, pN_s, lget_c, lins_z, lins_c, ldel_z, ldel_c, ldel2_z, ldel2_c, lset_i, lset_l, lset_r, lkeep_z, lkeep_c, largs_z, largs_c, cat_i, cat_l, cat_r, lkp_c, cnd_eq, cnd_ne, cnd_lt, cnd_ge, cnd_gt, cnd_le, swL_z, swL_c, rE_e, rOr_s, rOr_n, rlk_z, rlk_c, aR_c, aI_c, aII_c, aIII_c, aRI_c, aRII_c, aRIII_c, vJn, vJs, vlc, aRR_c, aRRI_c, aRRII_c, aRRIII_c, aRIIII_c, aRL_c, aRLL_c, aLL_c, aRRRI_c, aIL_c, aIIII_c, aRRIIII_c, aIRII_c, aIR_c, aLI_c, aRIR_c, aRIIR_c, hM.1.o, hM.1.f0, hM.1.f38, hM.1.t176, hM.1.l176, hM.1.t196, hM.1.l196, e2, i1, i1n, i1x, w1, w2, w3, w4, h1, x2]
          refine K _ (fun o a b => by rw [up_ne b]; exact h1 o a b) (by rw [up_ne (by omega), h2]) (fun j j0 j1 => ?_)
          rw [up_ap]
          by_cases hj : j = k
          · rw [if_pos ⟨rfl, hj⟩, hj]
          · rw [if_neg (fun z => hj z.2)]; exact h3 j j0 (by omega)
      have K := K (up σ 175 8 0) (fun o a _ => up_ne a) rfl (fun j j0 j1 => by omega)
      refine wg (by decide) rgN_ok tk_279 py_279 ml_279 30 (by simp [catT]) (fun N hN => ?_)
      simp [bl_279, hN _, x_iconst, x_ldc2_w, x_aconst_null, x_iload, x_lload, x_aload, x_istore, x_lstore, x_astore, x_iinc, x_iadd, x_isub, x_imul, x_idiv, x_irem, x_iand, x_ior, x_ixor, x_ishl, x_ishr, x_iushr, x_ineg, x_ladd, x_lsub, x_lmul, x_ldiv, x_lrem, x_lcmp, x_i2l, x_i2b, x_i2s, x_i2c, x_dup, x_pop, x_dup_x1, x_dup2, x_getfield, x_putfield, x_iaload, x_baload, x_saload, x_caload, x_daload, x_faload, x_laload, x_aaload, x_iastore, x_bastore, x_sastore, x_castore, x_lastore, x_aastore, x_arraylength, x_getstatic, x_goto, x_goto_w, x_ifCond, x_if_icmp, x_ifnull, x_ifnonnull, x_lookupswitch, x_invokevirtual, x_invokestatic, x_invokedynamic, x_ireturn, x_freturn, x_dreturn, x_lreturn, x_areturn, x_return_, pI_c, pL_c, pR_c, pV_i, pV_r, gI_c, gL_c, gR_c, pN_z, pN_s, lget_c, lins_z, lins_c, ldel_z, ldel_c, ldel2_z, ldel2_c, lset_i, lset_l, lset_r, lkeep_z, lkeep_c, largs_z, largs_c, cat_i, cat_l, cat_r, lkp_c, cnd_eq, cnd_ne, cnd_lt, cnd_ge, cnd_gt, cnd_le, swL_z, swL_c, rE_e, rOr_s, rOr_n, rlk_z, rlk_c, aR_c, aI_c, aII_c, aIII_c, aRI_c, aRII_c, aRIII_c, vJn, vJs, vlc, aRR_c, aRRI_c, aRRII_c, aRRIII_c, aRIIII_c, aRL_c, aRLL_c, aLL_c, aRRRI_c, aIL_c, aIIII_c, aRRIIII_c, aIRII_c, aIR_c, aLI_c, aRIR_c, aRIIR_c, hM.1.o, mpIn, hM.1.f39, hM.1.f40, hM.1.t197, hM.1.l197, hM.1.t198, hM.1.l198, i0, i1, i2, Int.not_lt.mpr i0, Int.not_lt.mpr i1, up_ap, hb.1, hb.2]
      exact K
    · rw [if_neg (fun z => hb z.2)] at h
      refine wg (by decide) rgN_ok tk_279 py_279 ml_279 30 (by simp [catT]) (fun N hN => ?_)
      simp [bl_279, hN _, x_iconst, x_ldc2_w, x_aconst_null, x_iload, x_lload, x_aload, x_istore, x_lstore, x_astore, x_iinc, x_iadd, x_isub, x_imul, x_idiv, x_irem, x_iand, x_ior, x_ixor, x_ishl, x_ishr, x_iushr, x_ineg, x_ladd, x_lsub, x_lmul, x_ldiv, x_lrem, x_lcmp, x_i2l, x_i2b, x_i2s, x_i2c, x_dup, x_pop, x_dup_x1, x_dup2, x_getfield, x_putfield, x_iaload, x_baload, x_saload, x_caload, x_daload, x_faload, x_laload, x_aaload, x_iastore, x_bastore, x_sastore, x_castore, x_lastore, x_aastore, x_arraylength, x_getstatic, x_goto, x_goto_w, x_ifCond, x_if_icmp, x_ifnull, x_ifnonnull, x_lookupswitch, x_invokevirtual, x_invokestatic, x_invokedynamic, x_ireturn, x_freturn, x_dreturn, x_lreturn, x_areturn, x_return_, pI_c, pL_c, pR_c, pV_i, pV_r, gI_c, gL_c, gR_c, pN_z, pN_s, lget_c, lins_z, lins_c, ldel_z, ldel_c, ldel2_z, ldel2_c, lset_i, lset_l, lset_r, lkeep_z, lkeep_c, largs_z, largs_c, cat_i, cat_l, cat_r, lkp_c, cnd_eq, cnd_ne, cnd_lt, cnd_ge, cnd_gt, cnd_le, swL_z, swL_c, rE_e, rOr_s, rOr_n, rlk_z, rlk_c, aR_c, aI_c, aII_c, aIII_c, aRI_c, aRII_c, aRIII_c, vJn, vJs, vlc, aRR_c, aRRI_c, aRRII_c, aRRIII_c, aRIIII_c, aRL_c, aRLL_c, aLL_c, aRRRI_c, aIL_c, aIIII_c, aRRIIII_c, aIRII_c, aIR_c, aLI_c, aRIR_c, aRIIR_c, hM.1.o, mpIn, hM.1.f39, hM.1.f40, hM.1.t197, hM.1.l197, hM.1.t198, hM.1.l198, i0, i1, i2, Int.not_lt.mpr i0, Int.not_lt.mpr i1, up_ap]
      by_cases hz : σ 197 i = 0
      · simp [hz]; exact h
      · have hz' : ¬ σ 198 i = σ 175 37 := fun z => hb ⟨hz, z⟩
        simp [hz, hz']; exact h
  · rw [if_neg (fun z => hi z.1)] at h
    refine wg (by decide) rgN_ok tk_279 py_279 ml_279 30 (by simp [catT]) (fun N hN => ?_)
    simp [bl_279, hN _, x_iconst, x_ldc2_w, x_aconst_null, x_iload, x_lload, x_aload, x_istore, x_lstore, x_astore, x_iinc, x_iadd, x_isub, x_imul, x_idiv, x_irem, x_iand, x_ior, x_ixor, x_ishl, x_ishr, x_iushr, x_ineg, x_ladd, x_lsub, x_lmul, x_ldiv, x_lrem, x_lcmp, x_i2l, x_i2b, x_i2s, x_i2c, x_dup, x_pop, x_dup_x1, x_dup2, x_getfield, x_putfield, x_iaload, x_baload, x_saload, x_caload, x_daload, x_faload, x_laload, x_aaload, x_iastore, x_bastore, x_sastore, x_castore, x_lastore, x_aastore, x_arraylength, x_getstatic, x_goto, x_goto_w, x_ifCond, x_if_icmp, x_ifnull, x_ifnonnull, x_lookupswitch, x_invokevirtual, x_invokestatic, x_invokedynamic, x_ireturn, x_freturn, x_dreturn, x_lreturn, x_areturn, x_return_, pI_c, pL_c, pR_c, pV_i, pV_r, gI_c, gL_c, gR_c, pN_z, pN_s, lget_c, lins_z, lins_c, ldel_z, ldel_c, ldel2_z, ldel2_c, lset_i, lset_l, lset_r, lkeep_z, lkeep_c, largs_z, largs_c, cat_i, cat_l, cat_r, lkp_c, cnd_eq, cnd_ne, cnd_lt, cnd_ge, cnd_gt, cnd_le, swL_z, swL_c, rE_e, rOr_s, rOr_n, rlk_z, rlk_c, aR_c, aI_c, aII_c, aIII_c, aRI_c, aRII_c, aRIII_c, vJn, vJs, vlc, aRR_c, aRRI_c, aRRII_c, aRRIII_c, aRIIII_c, aRL_c, aRLL_c, aLL_c, aRRRI_c, aIL_c, aIIII_c, aRRIIII_c, aIRII_c, aIR_c, aLI_c, aRIR_c, aRIIR_c, hM.1.o, mpIn]
    grind
