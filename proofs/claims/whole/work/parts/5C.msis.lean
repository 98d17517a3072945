/-! the reference: sign, sisters -/
noncomputable def bytJ (v : Int) (j : Nat) : Int := i8 (i8 (ishr v (24 - 8 * (j : Int))))
theorem mo_sign {l : Launch} {g : GE} {d : Nat} {t : Tau} {σ : Mem} {Q : Post} {v : Int} (hM : TM t) (hT : 0 ≤ σ 175 5 ∧ σ 175 5 ≤ 80) (h : if σ 175 5 ≤ 76 then (∀ σ', (∀ o, o ≠ 175 → o ≠ 178 → σ' o = σ o) → (∀ j, j ≠ 5 → j ≠ 8 → σ' 175 j = σ 175 j) → σ' 175 8 = 0 → σ' 175 5 = σ 175 5 + 4 → (∀ k, σ' 178 k = if σ 175 5 ≤ k ∧ k < σ 175 5 + 4 then bytJ v (k - σ 175 5).toNat else σ 178 k) → Q (some (vI (σ 175 5 + 4))) t σ') else Q (some (vI (-1))) t (up σ 175 8 0)) : WPc l g 177 (d + 6) 0 0 [vR 175, vI v] t σ Q := by
  have w1 : w32 (σ 175 5 + 4) = σ 175 5 + 4 := w32_id (by omega) (by omega)
  by_cases hl : σ 175 5 ≤ 76
  · rw [if_pos hl] at h
    have K : ∀ σ', (∀ o, o ≠ 175 → o ≠ 178 → σ' o = σ o) → (∀ j, j ≠ 5 → j ≠ 8 → σ' 175 j = σ 175 j) → σ' 175 8 = 0 → σ' 175 5 = σ 175 5 + (0 : Nat) → (∀ k, σ' 178 k = if σ 175 5 ≤ k ∧ k < σ 175 5 + (0 : Nat) then bytJ v (k - σ 175 5).toNat else σ 178 k) → Wp l g 177 (d + 6) 0 0 20 [(0, vR 175), (1, vI v), (2, vI (3 - (0 : Nat)))] [] t σ' Q := by
      refine lpU (P := fun j => ∀ σ', (∀ o, o ≠ 175 → o ≠ 178 → σ' o = σ o) → (∀ j, j ≠ 5 → j ≠ 8 → σ' 175 j = σ 175 j) → σ' 175 8 = 0 → σ' 175 5 = σ 175 5 + (j : Nat) → (∀ k, σ' 178 k = if σ 175 5 ≤ k ∧ k < σ 175 5 + (j : Nat) then bytJ v (k - σ 175 5).toNat else σ 178 k) → Wp l g 177 (d + 6) 0 0 20 [(0, vR 175), (1, vI v), (2, vI (3 - (j : Nat)))] [] t σ' Q) (n := 4) ?_ (fun j hj K σ' h1 h2 h3 h4 h5 => ?_)
      · intro σ' h1 h2 h3 h4 h5
        refine wa (by decide) rgN_ok tk_177 30 (fun N hN => ?_)
        simp [bl_177, hN _, x_iconst, x_ldc2_w, x_aconst_null, x_iload, x_lload, x_aload, x_istore, x_lstore, x_astore, x_iinc, x_iadd, x_isub, x_imul, x_idiv, x_irem, x_iand, x_ior, x_ixor, x_ishl, x_ishr, x_iushr, x_ineg, x_ladd, x_lsub, x_lmul, x_ldiv, x_lrem, x_lcmp, x_i2l, x_i2b, x_i2s, x_i2c, x_dup, x_pop, x_dup_x1, x_dup2, x_getfield, x_putfield, x_iaload, x_baload, x_saload, x_caload, x_daload, x_faload, x_laload, x_aaload, x_iastore, x_bastore, x_sastore, x_castore, x_lastore, x_aastore, x_arraylength, x_getstatic, x_goto, x_goto_w, x_ifCond, x_if_icmp, x_ifnull, x_ifnonnull, x_lookupswitch, x_invokevirtual, x_invokestatic, x_invokedynamic, x_ireturn, x_freturn, x_dreturn, x_lreturn, x_areturn, x_return_, pI_c, pL_c, pR_c, pV_i, pV_r, gI_c, gL_c, gR_c, pN_z, pN_s, lget_c, lins_z, lins_c, ldel_z, ldel_c, ldel2_z, ldel2_c, lset_i, lset_l, lset_r, lkeep_z, lkeep_c, largs_z, largs_c, cat_i, cat_l, cat_r, lkp_c, cnd_eq, cnd_ne, cnd_lt, cnd_ge, cnd_gt, cnd_le, swL_z, swL_c, rE_e, rOr_s, rOr_n, rlk_z, rlk_c, aR_c, aI_c, aII_c, aIII_c, aRI_c, aRII_c, aRIII_c, vJn, vJs, vlc, aRR_c, aRRI_c, aRRII_c, aRRIII_c, aRIIII_c, aRL_c, aRLL_c, aLL_c, aRRRI_c, aIL_c, aIIII_c, aRRIIII_c, aIRII_c, aIR_c, aLI_c, aRIR_c, aRIIR_c, hM.o]
        rw [h4]
        exact h σ' h1 h2 h3 h4 h5
      · have e1 : ¬ 3 - (j : Int) < 0 := by omega
        have e2 : w32 (3 - (j : Int) + -1) = 3 - ((j + 1 : Nat) : Int) := by rw [w32_id (by omega) (by omega)]; omega
        have e3 : w32 (8 * (3 - (j : Int))) = 24 - 8 * (j : Int) := by rw [w32_id (by omega) (by omega)]; omega
        have e4 : w32 (σ' 175 5 + 1) = σ' 175 5 + 1 := w32_id (by omega) (by omega)
        have e5 : 0 ≤ σ' 175 5 := by omega
        have e6 : σ' 175 5 < 80 := by omega
        have K := K (up (up σ' 175 5 (σ' 175 5 + 1)) 178 (σ' 175 5) (bytJ v j)) (fun o o1 o2 => by rw [up_ne o2, up_ne o1]; exact h1 o o1 o2) (fun k k1 k2 => by rw [up_ne (by omega), up_ap, if_neg (fun z => k1 z.2)]; exact h2 k k1 k2) (by simp [up_ap, h3]) (by simp [up_ap]; omega) (fun k => ?_)
        · refine wa (by decide) rgN_ok tk_177 30 (fun N hN => ?_)
          simp [bl_177, hN _, x_iconst, x_ldc2_w, x_aconst_null, x_iload, x_lload, x_aload, x_istore, x_lstore, x_astore, x_iinc, x_iadd, x_isub, x_imul, x_idiv, x_irem, x_iand, x_ior, x_ixor, x_ishl, x_ishr, x_iushr, x_ineg, x_ladd, x_lsub, x_lmul, x_ldiv, x_lrem, x_lcmp, x_i2l, x_i2b, x_i2s, x_i2c, x_dup, x_pop, x_dup_x1, x_dup2, x_getfield, x_putfield, x_iaload, x_baload, x_saload, x_caload, x_daload, x_faload, x_laload, x_aaload, x_iastore, x_bastore, x_sastore, x_castore, x_lastore, x_aastore, x_arraylength, x_getstatic, x_goto, x_goto_w, x_ifCond, x_if_icmp, x_ifnull, x_ifnonnull, x_lookupswitch, x_invokevirtual, x_invokestatic, x_invokedynamic, x_ireturn, x_freturn, x_dreturn, x_lreturn, x_areturn, x_return_, pI_c, pL_c, pR_c, pV_i, pV_r, gI_c, gL_c, gR_c, pN_z, pN_s, lget_c, lins_z, lins_c, ldel_z, ldel_c, ldel2_z, ldel2_c, lset_i, lset_l, lset_r, lkeep_z, lkeep_c, largs_z, largs_c, cat_i, cat_l, cat_r, lkp_c, cnd_eq, cnd_ne, cnd_lt, cnd_ge, cnd_gt, cnd_le, swL_z, swL_c, rE_e, rOr_s, rOr_n, rlk_z, rlk_c, aR_c, aI_c, aII_c, aIII_c, aRI_c, aRII_c, aRIII_c, vJn, vJs, vlc, aRR_c, aRRI_c, aRRII_c, aRRIII_c, aRIIII_c, aRL_c, aRLL_c, aLL_c, aRRRI_c, aIL_c, aIIII_c, aRRIIII_c, aIRII_c, aIR_c, aLI_c, aRIR_c, aRIIR_c, hM.o, hM.f4, hM.t178, hM.l178, e2, e3, e4, e5, e6]
          refine ⟨fun z => by omega, fun _ => ?_⟩
          unfold bytJ at K; simpa using K
        · rw [up_ap]
          by_cases hk : k = σ 175 5 + j
          · subst hk
            rw [if_pos ⟨rfl, h4.symm⟩, if_pos (by omega)]
            congr 1; omega
          · rw [if_neg (fun z => hk (by rw [z.2, h4])), up_ne (by omega), h5 k]
            by_cases hc : σ 175 5 ≤ k ∧ k < σ 175 5 + (j : Int)
            · rw [if_pos hc, if_pos (by omega)]
            · rw [if_neg hc, if_neg (by omega)]
    have K := K (up σ 175 8 0) (fun o o1 _ => up_ne o1) (fun j _ j2 => by rw [up_ap, if_neg (fun z => j2 z.2)]) (by simp [up_ap]) (by simp [up_ap]) (fun k => by rw [if_neg (by omega), up_ne (by omega)])
    refine wg (by decide) rgN_ok tk_177 py_177 ml_177 30 (by simp [catT]) (fun N hN => ?_)
    simp [bl_177, hN _, x_iconst, x_ldc2_w, x_aconst_null, x_iload, x_lload, x_aload, x_istore, x_lstore, x_astore, x_iinc, x_iadd, x_isub, x_imul, x_idiv, x_irem, x_iand, x_ior, x_ixor, x_ishl, x_ishr, x_iushr, x_ineg, x_ladd, x_lsub, x_lmul, x_ldiv, x_lrem, x_lcmp, x_i2l, x_i2b, x_i2s, x_i2c, x_dup, x_pop, x_dup_x1, x_dup2, x_getfield, x_putfield, x_iaload, x_baload, x_saload, x_caload, x_daload, x_faload, x_laload, x_aaload, x_iastore, x_bastore, x_sastore, x_castore, x_lastore, x_aastore, x_arraylength, x_getstatic, x_goto, x_goto_w, x_ifCond, x_if_icmp, x_ifnull, x_ifnonnull, x_lookupswitch, x_invokevirtual, x_invokestatic, x_invokedynamic, x_ireturn, x_freturn, x_dreturn, x_lreturn, x_areturn, x_return_, pI_c, pL_c, pR_c, pV_i, pV_r, gI_c, gL_c, gR_c, pN_z, pN_s, lget_c, lins_z, lins_c, ldel_z, ldel_c, ldel2_z, ldel2_c, lset_i, lset_l, lset_r, lkeep_z, lkeep_c, largs_z, largs_c, cat_i, cat_l, cat_r, lkp_c, cnd_eq, cnd_ne, cnd_lt, cnd_ge, cnd_gt, cnd_le, swL_z, swL_c, rE_e, rOr_s, rOr_n, rlk_z, rlk_c, aR_c, aI_c, aII_c, aIII_c, aRI_c, aRII_c, aRIII_c, vJn, vJs, vlc, aRR_c, aRRI_c, aRRII_c, aRRIII_c, aRIIII_c, aRL_c, aRLL_c, aLL_c, aRRRI_c, aIL_c, aIIII_c, aRRIIII_c, aIRII_c, aIR_c, aLI_c, aRIR_c, aRIIR_c, hM.o, up_ap, w1]
    exact ⟨fun _ => K, fun z => by omega⟩
  · rw [if_neg hl] at h
    refine wg (by decide) rgN_ok tk_177 py_177 ml_177 30 (by simp [catT]) (fun N hN => ?_)
    simp [bl_177, hN _, x_iconst, x_ldc2_w, x_aconst_null, x_iload, x_lload, x_aload, x_istore, x_lstore, x_astore, x_iinc, x_iadd, x_isub, x_imul, x_idiv, x_irem, x_iand, x_ior, x_ixor, x_ishl, x_ishr, x_iushr, x_ineg, x_ladd, x_lsub, x_lmul, x_ldiv, x_lrem, x_lcmp, x_i2l, x_i2b, x_i2s, x_i2c, x_dup, x_pop, x_dup_x1, x_dup2, x_getfield, x_putfield, x_iaload, x_baload, x_saload, x_caload, x_daload, x_faload, x_laload, x_aaload, x_iastore, x_bastore, x_sastore, x_castore, x_lastore, x_aastore, x_arraylength, x_getstatic, x_goto, x_goto_w, x_ifCond, x_if_icmp, x_ifnull, x_ifnonnull, x_lookupswitch, x_invokevirtual, x_invokestatic, x_invokedynamic, x_ireturn, x_freturn, x_dreturn, x_lreturn, x_areturn, x_return_, pI_c, pL_c, pR_c, pV_i, pV_r, gI_c, gL_c, gR_c, pN_z, pN_s, lget_c, lins_z, lins_c, ldel_z, ldel_c, ldel2_z, ldel2_c, lset_i, lset_l, lset_r, lkeep_z, lkeep_c, largs_z, largs_c, cat_i, cat_l, cat_r, lkp_c, cnd_eq, cnd_ne, cnd_lt, cnd_ge, cnd_gt, cnd_le, swL_z, swL_c, rE_e, rOr_s, rOr_n, rlk_z, rlk_c, aR_c, aI_c, aII_c, aIII_c, aRI_c, aRII_c, aRIII_c, vJn, vJs, vlc, aRR_c, aRRI_c, aRRII_c, aRRIII_c, aRIIII_c, aRL_c, aRLL_c, aLL_c, aRRRI_c, aIL_c, aIIII_c, aRRIIII_c, aIRII_c, aIR_c, aLI_c, aRIR_c, aRIIR_c, hM.o, up_ap, w1]
    exact ⟨fun z => by omega, fun _ => h⟩
/-! sisters -/
def siF (S : T3) : Int := if S.1 = -1 then 1000000 else S.1
def siA (S : T3) : Int := if S.1 = -1 then -1 else S.2.1
def siB (S : T3) : Int := if S.1 = -1 then -1 else S.2.2
theorem sisJ_n {n : Nat} {M V : Int → Int} (h : WFV n M V) {i : Nat} (hi : i < n) {S : T3} (hS : S.1 = -1 ∨ 0 ≤ S.1 ∧ S.1 ≤ 48) : ∀ k : Nat, k ≤ n - (i + 1) → ((sisJ V i S k).1 = -1 ∨ 0 ≤ (sisJ V i S k).1 ∧ (sisJ V i S k).1 ≤ 48) ∧ ((S.1 ≠ -1 ∨ 0 < k) → (sisJ V i S k).1 ≠ -1)
  | 0, _ => ⟨hS, fun z => z.elim id (fun y => by omega)⟩
  | k + 1, hk => by
    obtain ⟨ih1, ih2⟩ := sisJ_n h hi hS k (by omega)
    have hd := diffV_b h (i := i) (j := (i + 1 + k : Nat)) (by omega) (by omega) (by omega) (by omega)
    have er : sisJ V i S (k + 1) = if (sisJ V i S k).1 = -1 ∨ diffV V i (i + 1 + k : Nat) < (sisJ V i S k).1 then (diffV V i (i + 1 + k : Nat), (i : Int), ((i + 1 + k : Nat) : Int)) else sisJ V i S k := rfl
    rw [er]
    split
    · exact ⟨Or.inr hd, fun _ => by show diffV V i (i + 1 + k : Nat) ≠ -1; omega⟩
    · rename_i hc
      exact ⟨ih1, fun _ z => hc (Or.inl z)⟩
theorem sisI_n {n : Nat} {M V : Int → Int} (h : WFV n M V) : ∀ i : Nat, i ≤ n → ((sisI V n i).1 = -1 ∨ 0 ≤ (sisI V n i).1 ∧ (sisI V n i).1 ≤ 48) ∧ (2 ≤ n → 0 < i → (sisI V n i).1 ≠ -1)
  | 0, _ => ⟨Or.inl rfl, fun _ z => by omega⟩
  | i + 1, hi => by
    obtain ⟨ih1, ih2⟩ := sisI_n h i (by omega)
    have es : sisI V n (i + 1) = sisJ V i (sisI V n i) (n - (i + 1)) := rfl
    rw [es]
    obtain ⟨j1, j2⟩ := sisJ_n h (show i < n by omega) ih1 (n - (i + 1)) (Nat.le_refl _)
    refine ⟨j1, fun h2 _ => j2 ?_⟩
    by_cases h0 : 0 < i
    · exact Or.inl (ih2 h2 h0)
    · exact Or.inr (by omega)
theorem sis_1 {V : Int → Int} {n : Nat} (h : n < 2) : (sisI V n n).1 = -1 := by
  rcases (show n = 0 ∨ n = 1 by omega) with rfl | rfl <;> rfl
set_option maxHeartbeats 2000000 in
theorem mo_sisters {l : Launch} {g : GE} {d : Nat} {t : Tau} {σ : Mem} {Q : Post} (hk : MK t σ) (h : ansM (sisQ (nM σ) (vA σ 176)) t σ Q) : WPc l g 231 (d + 6) 0 0 [vR 175] t σ Q := by
  obtain ⟨hM, hW⟩ := hk
  have n6 := hM.2.2
  have z0 := hM.2.1
  unfold ansM sisQ at h
  have hI := sisI_n hW
  have O : Wp l g 231 (d + 6) 0 0 16 [(0, vR 175), (1, vI (siF (sisI (vA σ 176) (nM σ) 0))), (2, vI (siA (sisI (vA σ 176) (nM σ) 0))), (3, vI (siB (sisI (vA σ 176) (nM σ) 0))), (4, vI (0 : Nat))] [] t (up σ 175 8 0) Q := by
    refine lpU (P := fun i => Wp l g 231 (d + 6) 0 0 16 [(0, vR 175), (1, vI (siF (sisI (vA σ 176) (nM σ) i))), (2, vI (siA (sisI (vA σ 176) (nM σ) i))), (3, vI (siB (sisI (vA σ 176) (nM σ) i))), (4, vI i)] [] t (up σ 175 8 0) Q) (n := nM σ) ?_ (fun i hi KO => ?_)
    · obtain ⟨g1, g2⟩ := hI (nM σ) (Nat.le_refl _)
      refine wa (by decide) rgN_ok tk_231 30 (fun N hN => ?_)
      by_cases hn : nM σ < 2
      · rw [if_pos hn] at h
        have e := sis_1 (V := vA σ 176) hn
        have e' : siF (sisI (vA σ 176) (nM σ) (nM σ)) = 1000000 := by unfold siF; rw [if_pos e]
        rw [e']
        simp [bl_231, hN _, x_iconst, x_ldc2_w, x_aconst_null, x_iload, x_lload, x_aload, x_istore, x_lstore, x_astore, x_iinc, x_iadd, x_isub, x_imul, x_idiv, x_irem, x_iand, x_ior, x_ixor, x_ishl, x_ishr, x_iushr, x_ineg, x_ladd, x_lsub, x_lmul, x_ldiv, x_lrem, x_lcmp, x_i2l, x_i2b, x_i2s, x_i2c, x_dup, x_pop, x_dup_x1, x_dup2, x_getfield, x_putfield, x_iaload, x_baload, x_saload, x_caload, x_daload, x_faload, x_laload, x_aaload, x_iastore, x_bastore, x_sastore, x_castore, x_lastore, x_aastore, x_arraylength, x_getstatic, x_goto, x_goto_w, x_ifCond, x_if_icmp, x_ifnull, x_ifnonnull, x_lookupswitch, x_invokevirtual, x_invokestatic, x_invokedynamic, x_ireturn, x_freturn, x_dreturn, x_lreturn, x_areturn, x_return_, pI_c, pL_c, pR_c, pV_i, pV_r, gI_c, gL_c, gR_c, pN_z, pN_s, lget_c, lins_z, lins_c, ldel_z, ldel_c, ldel2_z, ldel2_c, lset_i, lset_l, lset_r, lkeep_z, lkeep_c, largs_z, largs_c, cat_i, cat_l, cat_r, lkp_c, cnd_eq, cnd_ne, cnd_lt, cnd_ge, cnd_gt, cnd_le, swL_z, swL_c, rE_e, rOr_s, rOr_n, rlk_z, rlk_c, aR_c, aI_c, aII_c, aIII_c, aRI_c, aRII_c, aRIII_c, vJn, vJs, vlc, aRR_c, aRRI_c, aRRII_c, aRRIII_c, aRIIII_c, aRL_c, aRLL_c, aLL_c, aRRRI_c, aIL_c, aIIII_c, aRRIIII_c, aIRII_c, aIR_c, aLI_c, aRIR_c, aRIIR_c, hM.1.o, up_ap, z0]
        exact h _ QTM.rf
      · rw [if_neg hn] at h
        have e := g2 (by omega) (by omega)
        unfold sisR at h
        rw [if_neg e] at h
        have e' : siF (sisI (vA σ 176) (nM σ) (nM σ)) = (sisI (vA σ 176) (nM σ) (nM σ)).1 := by unfold siF; rw [if_neg e]
        have e2' : siA (sisI (vA σ 176) (nM σ) (nM σ)) = (sisI (vA σ 176) (nM σ) (nM σ)).2.1 := by unfold siA; rw [if_neg e]
        have e3' : siB (sisI (vA σ 176) (nM σ) (nM σ)) = (sisI (vA σ 176) (nM σ) (nM σ)).2.2 := by unfold siB; rw [if_neg e]
        rw [e', e2', e3']
        generalize sisI (vA σ 176) (nM σ) (nM σ) = S at h e g1
        have ne : ¬ S.1 = 1000000 := by omega
        simp [bl_231, hN _, x_iconst, x_ldc2_w, x_aconst_null, x_iload, x_lload, x_aload, x_istore, x_lstore, x_astore, x_iinc, x_iadd, x_isub, x_imul, x_idiv, x_irem, x_iand, x_ior, x_ixor, x_ishl, x_ishr, x_iushr, x_ineg, x_ladd, x_lsub, x_lmul, x_ldiv, x_lrem, x_lcmp, x_i2l, x_i2b, x_i2s, x_i2c, x_dup, x_pop, x_dup_x1, x_dup2, x_getfield, x_putfield, x_iaload, x_baload, x_saload, x_caload, x_daload, x_faload, x_laload, x_aaload, x_iastore, x_bastore, x_sastore, x_castore, x_lastore, x_aastore, x_arraylength, x_getstatic, x_goto, x_goto_w, x_ifCond, x_if_icmp, x_ifnull, x_ifnonnull, x_lookupswitch, x_invokevirtual, x_invokestatic, x_invokedynamic, x_ireturn, x_freturn, x_dreturn, x_lreturn, x_areturn, x_return_, pI_c, pL_c, pR_c, pV_i, pV_r, gI_c, gL_c, gR_c, pN_z, pN_s, lget_c, lins_z, lins_c, ldel_z, ldel_c, ldel2_z, ldel2_c, lset_i, lset_l, lset_r, lkeep_z, lkeep_c, largs_z, largs_c, cat_i, cat_l, cat_r, lkp_c, cnd_eq, cnd_ne, cnd_lt, cnd_ge, cnd_gt, cnd_le, swL_z, swL_c, rE_e, rOr_s, rOr_n, rlk_z, rlk_c, aR_c, aI_c, aII_c, aIII_c, aRI_c, aRII_c, aRIII_c, vJn, vJs, vlc, aRR_c, aRRI_c, aRRII_c, aRRIII_c, aRIIII_c, aRL_c, aRLL_c, aLL_c, aRRRI_c, aIL_c, aIIII_c, aRRIIII_c, aIRII_c, aIR_c, aLI_c, aRIR_c, aRIIR_c, hM.1.o, hM.1, up_ap, z0, ne, mpTell]
        exact h _ (QTM.q2 (QFM.rf.up sf8) (by simp [up_ap]))
    · have es : sisI (vA σ 176) (nM σ) (i + 1) = sisJ (vA σ 176) i (sisI (vA σ 176) (nM σ) i) (nM σ - (i + 1)) := rfl
      rw [es] at KO
      obtain ⟨g1, -⟩ := hI i (by omega)
      generalize sisI (vA σ 176) (nM σ) i = S at KO g1
      have hJ := sisJ_n hW (show i < nM σ by omega) g1
      have I : Wp l g 231 (d + 6) 0 0 31 [(0, vR 175), (1, vI (siF (sisJ (vA σ 176) i S 0))), (2, vI (siA (sisJ (vA σ 176) i S 0))), (3, vI (siB (sisJ (vA σ 176) i S 0))), (4, vI i), (5, vI (i + 1 + 0 : Nat))] [] t (up σ 175 8 0) Q := by
        refine lpU (P := fun k => Wp l g 231 (d + 6) 0 0 31 [(0, vR 175), (1, vI (siF (sisJ (vA σ 176) i S k))), (2, vI (siA (sisJ (vA σ 176) i S k))), (3, vI (siB (sisJ (vA σ 176) i S k))), (4, vI i), (5, vI (i + 1 + k : Nat))] [] t (up σ 175 8 0) Q) (n := nM σ - (i + 1)) ?_ (fun k hkk K => ?_)
        · have e4 : i + 1 + (nM σ - (i + 1)) = nM σ := by omega
          rw [e4]
          have e2 := w32_succ (k := i) (by omega)
          refine wa (by decide) rgN_ok tk_231 30 (fun N hN => ?_)
          simp [bl_231, hN _, x_iconst, x_ldc2_w, x_aconst_null, x_iload, x_lload, x_aload, x_istore, x_lstore, x_astore, x_iinc, x_iadd, x_isub, x_imul, x_idiv, x_irem, x_iand, x_ior, x_ixor, x_ishl, x_ishr, x_iushr, x_ineg, x_ladd, x_lsub, x_lmul, x_ldiv, x_lrem, x_lcmp, x_i2l, x_i2b, x_i2s, x_i2c, x_dup, x_pop, x_dup_x1, x_dup2, x_getfield, x_putfield, x_iaload, x_baload, x_saload, x_caload, x_daload, x_faload, x_laload, x_aaload, x_iastore, x_bastore, x_sastore, x_castore, x_lastore, x_aastore, x_arraylength, x_getstatic, x_goto, x_goto_w, x_ifCond, x_if_icmp, x_ifnull, x_ifnonnull, x_lookupswitch, x_invokevirtual, x_invokestatic, x_invokedynamic, x_ireturn, x_freturn, x_dreturn, x_lreturn, x_areturn, x_return_, pI_c, pL_c, pR_c, pV_i, pV_r, gI_c, gL_c, gR_c, pN_z, pN_s, lget_c, lins_z, lins_c, ldel_z, ldel_c, ldel2_z, ldel2_c, lset_i, lset_l, lset_r, lkeep_z, lkeep_c, largs_z, largs_c, cat_i, cat_l, cat_r, lkp_c, cnd_eq, cnd_ne, cnd_lt, cnd_ge, cnd_gt, cnd_le, swL_z, swL_c, rE_e, rOr_s, rOr_n, rlk_z, rlk_c, aR_c, aI_c, aII_c, aIII_c, aRI_c, aRII_c, aRIII_c, vJn, vJs, vlc, aRR_c, aRRI_c, aRRII_c, aRRIII_c, aRIIII_c, aRL_c, aRLL_c, aLL_c, aRRRI_c, aIL_c, aIIII_c, aRRIIII_c, aIRII_c, aIR_c, aLI_c, aRIR_c, aRIIR_c, hM.1.o, up_ap, z0, e2]
          exact KO
        · have er : sisJ (vA σ 176) i S (k + 1) = if (sisJ (vA σ 176) i S k).1 = -1 ∨ diffV (vA σ 176) i (i + 1 + k : Nat) < (sisJ (vA σ 176) i S k).1 then (diffV (vA σ 176) i (i + 1 + k : Nat), (i : Int), ((i + 1 + k : Nat) : Int)) else sisJ (vA σ 176) i S k := rfl
          rw [er] at K
          obtain ⟨r1, -⟩ := hJ k (by omega)
          generalize sisJ (vA σ 176) i S k = R at K r1
          generalize hj : i + 1 + k = j at K ⊢
          have hj' : i + 1 + (k + 1) = j + 1 := by omega
          rw [hj'] at K
          have e2 := w32_succ (k := j) (by omega); have i1 : ((j : Nat) : Int) < (nM σ : Nat) := (by omega); have i1n : j < nM σ := (by omega); have i1x : ¬ nM σ ≤ j := (by omega)
          have i6 : (i : Int) < 6 := by omega
          have i6n : i < 6 := by omega
          have j6 : (j : Int) < 6 := by omega
          have j6n : j < 6 := by omega
          have hd := diffV_b hW (i := i) (j := j) (by omega) (by omega) (by omega) (by omega)
          have L : Wp l g 231 (d + 6) 0 0 46 [(0, vR 175), (1, vI (siF R)), (2, vI (siA R)), (3, vI (siB R)), (4, vI i), (5, vI j), (6, vI (sumN (fun s => absI (partV (vA σ 176) i s - partV (vA σ 176) j s)) 0)), (7, vI (0 : Nat))] [] t (up σ 175 8 0) Q := by
            refine lpU (P := fun s => Wp l g 231 (d + 6) 0 0 46 [(0, vR 175), (1, vI (siF R)), (2, vI (siA R)), (3, vI (siB R)), (4, vI i), (5, vI j), (6, vI (sumN (fun s => absI (partV (vA σ 176) i s - partV (vA σ 176) j s)) s)), (7, vI s)] [] t (up σ 175 8 0) Q) (n := 4) ?_ (fun s hs K => ?_)
            · have hD : sumN (fun s => absI (partV (vA σ 176) i s - partV (vA σ 176) j s)) 4 = diffV (vA σ 176) i j := rfl
              rw [hD]
              generalize diffV (vA σ 176) i j = D at K hd
              have hc : D < siF R ↔ (R.1 = -1 ∨ D < R.1) := by
                unfold siF
                by_cases hr : R.1 = -1
                · rw [if_pos hr]; exact ⟨fun _ => Or.inl hr, fun _ => by omega⟩
                · rw [if_neg hr]; exact ⟨Or.inr, fun z => z.elim (fun y => (hr y).elim) id⟩
              refine wa (by decide) rgN_ok tk_231 30 (fun N hN => ?_)
              simp [bl_231, hN _, x_iconst, x_ldc2_w, x_aconst_null, x_iload, x_lload, x_aload, x_istore, x_lstore, x_astore, x_iinc, x_iadd, x_isub, x_imul, x_idiv, x_irem, x_iand, x_ior, x_ixor, x_ishl, x_ishr, x_iushr, x_ineg, x_ladd, x_lsub, x_lmul, x_ldiv, x_lrem, x_lcmp, x_i2l, x_i2b, x_i2s, x_i2c, x_dup, x_pop, x_dup_x1, x_dup2, x_getfield, x_putfield, x_iaload, x_baload, x_saload, x_caload, x_daload, x_faload, x_laload, x_aaload, x_iastore, x_bastore, x_sastore, x_castore, x_lastore, x_aastore, x_arraylength, x_getstatic, x_goto, x_goto_w, x_ifCond, x_if_icmp, x_ifnull, x_ifnonnull, x_lookupswitch, x_invokevirtual, x_invokestatic, x_invokedynamic, x_ireturn, x_freturn, x_dreturn, x_lreturn, x_areturn, x_return_, pI_c, pL_c, pR_c, pV_i, pV_r, gI_c, gL_c, gR_c, pN_z, pN_s, lget_c, lins_z, lins_c, ldel_z, ldel_c, ldel2_z, ldel2_c, lset_i, lset_l, lset_r, lkeep_z, lkeep_c, largs_z, largs_c, cat_i, cat_l, cat_r, lkp_c, cnd_eq, cnd_ne, cnd_lt, cnd_ge, cnd_gt, cnd_le, swL_z, swL_c, rE_e, rOr_s, rOr_n, rlk_z, rlk_c, aR_c, aI_c, aII_c, aIII_c, aRI_c, aRII_c, aRIII_c, vJn, vJs, vlc, aRR_c, aRRI_c, aRRII_c, aRRIII_c, aRIIII_c, aRL_c, aRLL_c, aLL_c, aRRRI_c, aIL_c, aIIII_c, aRRIIII_c, aIRII_c, aIR_c, aLI_c, aRIR_c, aRIIR_c, e2]
              refine ⟨fun z => ?_, fun z => ?_⟩
              · rw [if_pos (hc.1 z)] at K
                have d1 : ¬ D = -1 := by omega
                unfold siF siA siB at K
                simp [d1] at K
                exact K
              · rw [if_neg (fun y => by have := hc.2 y; omega)] at K
                exact K
            · have e2 := w32_succ (k := s) (by omega); have i1 : ((s : Nat) : Int) < 4 := (by omega); have i1n : s < 4 := (by omega); have i1x : ¬ (4 : Int) ≤ (s : Nat) := (by omega)
              have a1 := hW.pt (i := i) (s := s) (by omega) (by omega) (by omega) (by omega)
              have a2 := hW.pt (i := j) (s := s) (by omega) (by omega) (by omega) (by omega)
              have hb := sumN_b (f := fun s => absI (partV (vA σ 176) i s - partV (vA σ 176) j s)) (B := 12) s (fun s s0 s1 => by
                have e1 := hW.pt (i := i) (by omega) (by omega) s0 (by omega)
                have e2 := hW.pt (i := j) (by omega) (by omega) s0 (by omega)
                show 0 ≤ absI (partV (vA σ 176) i s - partV (vA σ 176) j s) ∧ absI (partV (vA σ 176) i s - partV (vA σ 176) j s) ≤ 12
                unfold absI
                split <;> omega)
              have ef : sumN (fun s => absI (partV (vA σ 176) i s - partV (vA σ 176) j s)) (s + 1) = sumN (fun s => absI (partV (vA σ 176) i s - partV (vA σ 176) j s)) s + absI (partV (vA σ 176) i s - partV (vA σ 176) j s) := rfl
              rw [ef] at K
              generalize sumN (fun s => absI (partV (vA σ 176) i s - partV (vA σ 176) j s)) s = T at K hb
              have w1 : w32 (partV (vA σ 176) i s - partV (vA σ 176) j s) = partV (vA σ 176) i s - partV (vA σ 176) j s := w32_id (by omega) (by omega)
              have ab : 0 ≤ absI (partV (vA σ 176) i s - partV (vA σ 176) j s) ∧ absI (partV (vA σ 176) i s - partV (vA σ 176) j s) ≤ 12 := by unfold absI; split <;> omega
              have w2 : w32 (T + absI (partV (vA σ 176) i s - partV (vA σ 176) j s)) = T + absI (partV (vA σ 176) i s - partV (vA σ 176) j s) := w32_id (by omega) (by omega)
              have ea : (if partV (vA σ 176) i s - partV (vA σ 176) j s < 0 then w32 (-(partV (vA σ 176) i s - partV (vA σ 176) j s)) else partV (vA σ 176) i s - partV (vA σ 176) j s) = absI (partV (vA σ 176) i s - partV (vA σ 176) j s) := by
                unfold absI
                rw [w32_id (x := -(partV (vA σ 176) i s - partV (vA σ 176) j s)) (by omega) (by omega)]
              refine wa (by decide) rgN_ok tk_231 30 (fun N hN => ?_)
              simp only [← ea] at K w2
              simp [bl_231, hN _, x_iconst, x_ldc2_w, x_aconst_null, x_iload, x_lload, x_aload, x_istore, x_lstore, x_astore, x_iinc, x_iadd, x_isub, x_imul, x_idiv, x_irem, x_iand, x_ior, x_ixor, x_ishl, x_ishr, x_iushr, x_ineg, x_ladd, x_lsub, x_lmul, x_ldiv, x_lrem, x_lcmp, x_i2l, x_i2b, x_i2s, x_i2c, x_dup, x_pop, x_dup_x1, x_dup2, x_getfield, x_putfield, x_iaload, x_baload, x_saload, x_caload, x_daload, x_faload, x_laload, x_aaload, x_iastore, x_bastore, x_sastore, x_castore, x_lastore, x_aastore, x_arraylength, x_getstatic, x_goto, x_goto_w, x_ifCond, x_if_icmp, x_ifnull, x_ifnonnull, x_lookupswitch, x_invokevirtual, x_invokestatic, x_invokedynamic, x_ireturn, x_freturn, x_dreturn, x_lreturn, x_areturn, x_return_, pI_c, pL_c, pR_c, pV_i, pV_r, gI_c, gL_c, gR_c, pN_z, pN_s, lget_c, lins_z, lins_c, ldel_z, ldel_c, ldel2_z, ldel2_c, lset_i, lset_l, lset_r, lkeep_z, lkeep_c, largs_z, largs_c, cat_i, cat_l, cat_r, lkp_c, cnd_eq, cnd_ne, cnd_lt, cnd_ge, cnd_gt, cnd_le, swL_z, swL_c, rE_e, rOr_s, rOr_n, rlk_z, rlk_c, aR_c, aI_c, aII_c, aIII_c, aRI_c, aRII_c, aRIII_c, vJn, vJs, vlc, aRR_c, aRRI_c, aRRII_c, aRRIII_c, aRIIII_c, aRL_c, aRLL_c, aLL_c, aRRRI_c, aIL_c, aIIII_c, aRRIIII_c, aIRII_c, aIR_c, aLI_c, aRIR_c, aRIIR_c, hM.1.o, hM.1.f0, mpPart, spAbs, RowT.now hM.1, vA_up, i6, i6n, j6, j6n, e2, i1, i1n, i1x, w1, w2]
              exact K
          refine wa (by decide) rgN_ok tk_231 30 (fun N hN => ?_)
          simp [bl_231, hN _, x_iconst, x_ldc2_w, x_aconst_null, x_iload, x_lload, x_aload, x_istore, x_lstore, x_astore, x_iinc, x_iadd, x_isub, x_imul, x_idiv, x_irem, x_iand, x_ior, x_ixor, x_ishl, x_ishr, x_iushr, x_ineg, x_ladd, x_lsub, x_lmul, x_ldiv, x_lrem, x_lcmp, x_i2l, x_i2b, x_i2s, x_i2c, x_dup, x_pop, x_dup_x1, x_dup2, x_getfield, x_putfield, x_iaload, x_baload, x_saload, x_caload, x_daload, x_faload, x_laload, x_aaload, x_iastore, x_bastore, x_sastore, x_castore, x_lastore, x_aastore, x_arraylength, x_getstatic, x_goto, x_goto_w, x_ifCond, x_if_icmp, x_ifnull, x_ifnonnull, x_lookupswitch, x_invokevirtual, x_invokestatic, x_invokedynamic, x_ireturn, x_freturn, x_dreturn, x_lreturn, x_areturn, x_return_, pI_c, pL_c, pR_c, pV_i, pV_r, gI_c, gL_c, gR_c, pN_z, pN_s, lget_c, lins_z, lins_c, ldel_z, ldel_c, ldel2_z, ldel2_c, lset_i, lset_l, lset_r, lkeep_z, lkeep_c, largs_z, largs_c, cat_i, cat_l, cat_r, lkp_c, cnd_eq, cnd_ne, cnd_lt, cnd_ge, cnd_gt, cnd_le, swL_z, swL_c, rE_e, rOr_s, rOr_n, rlk_z, rlk_c, aR_c, aI_c, aII_c, aIII_c, aRI_c, aRII_c, aRIII_c, vJn, vJs, vlc, aRR_c, aRRI_c, aRRII_c, aRRIII_c, aRIIII_c, aRL_c, aRLL_c, aLL_c, aRRRI_c, aIL_c, aIIII_c, aRRIIII_c, aIRII_c, aIR_c, aLI_c, aRIR_c, aRIIR_c, hM.1.o, up_ap, z0, e2, i1, i1n, i1x]
          exact L
      have e2 := w32_succ (k := i) (by omega); have i1 : ((i : Nat) : Int) < (nM σ : Nat) := (by omega); have i1n : i < nM σ := (by omega); have i1x : ¬ nM σ ≤ i := (by omega)
      refine wa (by decide) rgN_ok tk_231 30 (fun N hN => ?_)
      simp [bl_231, hN _, x_iconst, x_ldc2_w, x_aconst_null, x_iload, x_lload, x_aload, x_istore, x_lstore, x_astore, x_iinc, x_iadd, x_isub, x_imul, x_idiv, x_irem, x_iand, x_ior, x_ixor, x_ishl, x_ishr, x_iushr, x_ineg, x_ladd, x_lsub, x_lmul, x_ldiv, x_lrem, x_lcmp, x_i2l, x_i2b, x_i2s, x_i2c, x_dup, x_pop, x_dup_x1, x_dup2, x_getfield, x_putfield, x_iaload, x_baload, x_saload, x_caload, x_daload, x_faload, x_laload, x_aaload, x_iastore, x_bastore, x_sastore, x_castore, x_lastore, x_aastore, x_arraylength, x_getstatic, x_goto, x_goto_w, x_ifCond, x_if_icmp, x_ifnull, x_ifnonnull, x_lookupswitch, x_invokevirtual, x_invokestatic, x_invokedynamic, x_ireturn, x_freturn, x_dreturn, x_lreturn, x_areturn, x_return_, pI_c, pL_c, pR_c, pV_i, pV_r, gI_c, gL_c, gR_c, pN_z, pN_s, lget_c, lins_z, lins_c, ldel_z, ldel_c, ldel2_z, ldel2_c, lset_i, lset_l, lset_r, lkeep_z, lkeep_c, largs_z, largs_c, cat_i, cat_l, cat_r, lkp_c, cnd_eq, cnd_ne, cnd_lt, cnd_ge, cnd_gt, cnd_le, swL_z, swL_c, rE_e, rOr_s, rOr_n, rlk_z, rlk_c, aR_c, aI_c, aII_c, aIII_c, aRI_c, aRII_c, aRIII_c, vJn, vJs, vlc, aRR_c, aRRI_c, aRRII_c, aRRIII_c, aRIIII_c, aRL_c, aRLL_c, aLL_c, aRRRI_c, aIL_c, aIIII_c, aRRIIII_c, aIRII_c, aIR_c, aLI_c, aRIR_c, aRIIR_c, hM.1.o, up_ap, z0, e2, i1, i1n, i1x]
      exact I
  refine wg (by decide) rgN_ok tk_231 py_231 ml_231 30 (by simp [catT]) (fun N hN => ?_)
  simp [bl_231, hN _, x_iconst, x_ldc2_w, x_aconst_null, x_iload, x_lload, x_aload, x_istore, x_lstore, x_astore, x_iinc, x_iadd, x_isub, x_imul, x_idiv, x_irem, x_iand, x_ior, x_ixor, x_ishl, x_ishr, x_iushr, x_ineg, x_ladd, x_lsub, x_lmul, x_ldiv, x_lrem, x_lcmp, x_i2l, x_i2b, x_i2s, x_i2c, x_dup, x_pop, x_dup_x1, x_dup2, x_getfield, x_putfield, x_iaload, x_baload, x_saload, x_caload, x_daload, x_faload, x_laload, x_aaload, x_iastore, x_bastore, x_sastore, x_castore, x_lastore, x_aastore, x_arraylength, x_getstatic, x_goto, x_goto_w, x_ifCond, x_if_icmp, x_ifnull, x_ifnonnull, x_lookupswitch, x_invokevirtual, x_invokestatic, x_invokedynamic, x_ireturn, x_freturn, x_dreturn, x_lreturn, x_areturn, x_return_, pI_c, pL_c, pR_c, pV_i, pV_r, gI_c, gL_c, gR_c, pN_z, pN_s, lget_c, lins_z, lins_c, ldel_z, ldel_c, ldel2_z, ldel2_c, lset_i, lset_l, lset_r, lkeep_z, lkeep_c, largs_z, largs_c, cat_i, cat_l, cat_r, lkp_c, cnd_eq, cnd_ne, cnd_lt, cnd_ge, cnd_gt, cnd_le, swL_z, swL_c, rE_e, rOr_s, rOr_n, rlk_z, rlk_c, aR_c, aI_c, aII_c, aIII_c, aRI_c, aRII_c, aRIII_c, vJn, vJs, vlc, aRR_c, aRRI_c, aRRII_c, aRRIII_c, aRIIII_c, aRL_c, aRLL_c, aLL_c, aRRRI_c, aIL_c, aIIII_c, aRRIIII_c, aIRII_c, aIR_c, aLI_c, aRIR_c, aRIIR_c, hM.1.o]
  exact O
