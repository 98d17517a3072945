/-! StruckColours: sums -/
abbrev rgD : Reg := (285, bpCount) :: rgC
theorem rgD_ok {l : Launch} {g : GE} {d : Nat} : ∀ e as t σ Q, rE l g (d + 6) rgD e as t σ Q → WPc l g e (d + 6) 0 0 as t σ Q := rE_cons (fun _ _ _ _ h => b_count h) rgC_ok
/-- the sum over a set -/
def sumT (b : Nat) (f : Int → Int) (n : Nat) : Int := sumN (fun i => if tb b i.toNat then f i else 0) n
theorem sumT_B {b : Nat} {f : Int → Int} {n : Nat} (hb : b < 64) (hn : n ≤ 6) : sumB b f n = sumT b f n := by
  refine sumN_cg n fun i i0 i1 => ?_
  obtain ⟨k, rfl⟩ : ∃ k : Nat, i = k := ⟨i.toNat, by omega⟩
  rw [Int.toNat_natCast]
  by_cases hc : tb b k = true
  · rw [if_pos hc, if_neg (fun z => by rw [bit_c hb (by omega), hc] at z; cases z)]
  · rw [if_neg hc, if_pos ((bit_c hb (by omega)).mpr (by simpa using hc))]
theorem sumT_b {b : Nat} {f : Int → Int} {B : Int} (n : Nat) (hn : n ≤ 6) (hB : 0 ≤ B) (h : ∀ i : Int, 0 ≤ i → i < n → 0 ≤ f i ∧ f i ≤ B) : 0 ≤ sumT b f n ∧ sumT b f n ≤ 6 * B := by
  have h1 := sumN_b (f := fun i => if tb b i.toNat then f i else 0) (B := B) n (fun i i0 i1 => by have h2 := h i i0 i1; by_cases hc : tb b i.toNat = true <;> simp [hc] <;> omega)
  exact ⟨h1.1, mul_le12 hn hB h1.2⟩
/-- the best set so far that is half, or 0 -/
def hlvF (V : Int → Int) (s : Int) (n : Nat) : Nat → Nat := fo (fun k b => if 2 * sumT (k + 1) (fun i => partV V i s) n = 12 * (popc (k + 1) : Int) ∧ (b = 0 ∨ popc (k + 1) < popc b) then k + 1 else b) 0
theorem hlvF_l (V : Int → Int) (s : Int) (n : Nat) : ∀ k, hlvF V s n k ≤ k
  | 0 => Nat.le_refl _
  | k + 1 => by
    have := hlvF_l V s n k
    have es : hlvF V s n (k + 1) = if 2 * sumT (k + 1) (fun i => partV V i s) n = 12 * (popc (k + 1) : Int) ∧ (hlvF V s n k = 0 ∨ popc (k + 1) < popc (hlvF V s n k)) then k + 1 else hlvF V s n k := rfl
    rw [es]; split <;> omega
def hlvQ (n : Nat) (V : Int → Int) (s : Int) : QA := if 0 ≤ s ∧ s < 4 then (if hlvF V s n (2 ^ n - 1) = 0 then (-2, none) else ((popc (hlvF V s n (2 ^ n - 1)) : Int), some [(hlvF V s n (2 ^ n - 1) : Int)])) else (-1, none)
set_option maxHeartbeats 1000000 in
theorem o_halves {l : Launch} {g : GE} {d : Nat} {t : Tau} {σ : Mem} {Q : Post} {s : Int} (hC : TC t) (hk : SeaOk t σ 5) (h : ansC (hlvQ (nS σ 5) (vwS σ 5) s) t σ Q) : WPc l g 114 (d + 7) 0 0 [vR 0, vI s] t σ Q := by
  have n6 := hk.2.2.1
  have z0 := hk.2.1
  have hp2 := pow_le64 n6
  have eS := shl_1 n6
  unfold ansC hlvQ at h
  by_cases hs : 0 ≤ s ∧ s < 4
  · rw [if_pos hs] at h
    obtain ⟨s0, s1⟩ := hs
    have hB : ∀ i : Int, 0 ≤ i → i < nS σ 5 → 0 ≤ partV (vwS σ 5) i s ∧ partV (vwS σ 5) i s ≤ 12 := fun i i0 i1 => hk.2.2.pt i0 i1 s0 s1
    generalize hF : hlvF (vwS σ 5) s (nS σ 5) = F at h
    have hF0 : F 0 = 0 := by rw [← hF]; rfl
    have hFl : ∀ k, F k ≤ k := by rw [← hF]; exact hlvF_l _ _ _
    have hFs : ∀ k, F (k + 1) = if 2 * sumT (k + 1) (fun i => partV (vwS σ 5) i s) (nS σ 5) = 12 * (popc (k + 1) : Int) ∧ (F k = 0 ∨ popc (k + 1) < popc (F k)) then k + 1 else F k := by rw [← hF]; intro k; rfl
    have K : ∀ σ', QTo σ σ' (if F 0 = 0 then none else some [(F 0 : Int)]) → Wp l g 114 (d + 7) 0 0 14 [(0, vR 0), (1, vI s), (2, vI (if F 0 = 0 then -2 else (popc (F 0) : Int))), (3, vI (0 + 1 : Nat))] [] t σ' Q := by
      refine lpU (P := fun k => ∀ σ', QTo σ σ' (if F k = 0 then none else some [(F k : Int)]) → Wp l g 114 (d + 7) 0 0 14 [(0, vR 0), (1, vI s), (2, vI (if F k = 0 then -2 else (popc (F k) : Int))), (3, vI (k + 1 : Nat))] [] t σ' Q) (n := 2 ^ nS σ 5 - 1) ?_ (fun k hk' K σ' q => ?_)
      · intro σ' q
        obtain ⟨k5, e1, e2, e3⟩ := q.1.sea hk
        have z0' := k5.2.1
        rw [e1] at z0'
        have e4 : 2 ^ nS σ 5 - 1 + 1 = 2 ^ nS σ 5 := by omega
        rw [e4]
        refine wa (by decide) rgD_ok tk_114 30 (fun N hN => ?_)
        simp [bl_114, hN _, x_iconst, x_ldc2_w, x_aconst_null, x_iload, x_lload, x_aload, x_istore, x_lstore, x_astore, x_iinc, x_iadd, x_isub, x_imul, x_idiv, x_irem, x_iand, x_ior, x_ixor, x_ishl, x_ishr, x_iushr, x_ineg, x_ladd, x_lsub, x_lmul, x_ldiv, x_lrem, x_lcmp, x_i2l, x_i2b, x_i2s, x_i2c, x_dup, x_pop, x_dup_x1, x_dup2, x_getfield, x_putfield, x_iaload, x_baload, x_saload, x_caload, x_daload, x_faload, x_laload, x_aaload, x_iastore, x_bastore, x_sastore, x_castore, x_lastore, x_aastore, x_arraylength, x_getstatic, x_goto, x_goto_w, x_ifCond, x_if_icmp, x_ifnull, x_ifnonnull, x_lookupswitch, x_invokevirtual, x_invokestatic, x_invokedynamic, x_ireturn, x_freturn, x_dreturn, x_lreturn, x_areturn, x_return_, pI_c, pL_c, pR_c, pV_i, pV_r, gI_c, gL_c, gR_c, pN_z, pN_s, lget_c, lins_z, lins_c, ldel_z, ldel_c, ldel2_z, ldel2_c, lset_i, lset_l, lset_r, lkeep_z, lkeep_c, largs_z, largs_c, cat_i, cat_l, cat_r, lkp_c, cnd_eq, cnd_ne, cnd_lt, cnd_ge, cnd_gt, cnd_le, swL_z, swL_c, rE_e, rOr_s, rOr_n, rlk_z, rlk_c, aR_c, aI_c, aII_c, aIII_c, aRI_c, aRII_c, aRIII_c, vJn, vJs, vlc, aRR_c, aRRI_c, aRRII_c, aRRIII_c, aRIIII_c, aRL_c, aRLL_c, aLL_c, aRRRI_c, aIL_c, aIIII_c, aRRIIII_c, aIRII_c, aIR_c, aLI_c, aRIR_c, aRIIR_c, hC.o0, hC.f0_0, hC.f0_1, hC.f0_2, hC.f0_3, hC.f0_4, hC.f0_5, hC.f0_6, hC.f0_7, hC.f0_8, hC.f0_9, hC.f0_10, hC.f0_11, hC.o1, hC.f1, hC.t2, hC.l2, hC.o3, hC.f3, hC.t4, hC.l4, hC.s5, hC.s12, hC.s19, hC.s112, hC.s119, hC.o26, hC.f26, hC.t27, hC.l27, hC.s28, hC.o126, hC.f126_0, hC.f126_1, hC.t127, hC.l127, hC.t128, hC.l128, hC.s129, hC.n157, hC.n161, hC.o165, hC.f165, hC.t166, hC.l166, hC.r167, hC.r171, hC.q5, hC.q12, hC.q19, hC.q112, hC.q119, hC.a2, hC.a4, hC.a27, hC.a127, hC.a128, hC, z0', eS]
        by_cases hz : F (2 ^ nS σ 5 - 1) = 0
        · rw [if_pos hz] at h q ⊢; exact h σ' q
        · rw [if_neg hz] at h q ⊢; exact h σ' q
      · obtain ⟨k5, e1, e2, e3⟩ := q.1.sea hk
        have z0' := k5.2.1
        rw [e1] at z0'
        have hsm := sumT_b (b := k + 1) (f := fun i => partV (vwS σ 5) i s) (nS σ 5) n6 (by omega) hB
        have eb := sumT_B (b := k + 1) (f := fun i => partV (vwS σ 5) i s) (n := nS σ 5) (by omega) n6
        have ec := bc_n (b := k + 1) (by omega)
        have hpl := popc_l (k + 1)
        have e5 : w32 (2 * sumT (k + 1) (fun i => partV (vwS σ 5) i s) (nS σ 5)) = 2 * sumT (k + 1) (fun i => partV (vwS σ 5) i s) (nS σ 5) := w32_id (by omega) (by omega)
        have e6 : w32 (12 * (popc (k + 1) : Int)) = 12 * (popc (k + 1) : Int) := w32_id (by omega) (by omega)
        have e7 := w32_succ (k := k + 1) (by omega)
        have e8 : ¬ ((2 ^ nS σ 5 : Nat) : Int) ≤ ((k + 1 : Nat) : Int) := by omega
        have hl := hFl k
        rw [hFs k] at K
        generalize sumT (k + 1) (fun i => partV (vwS σ 5) i s) (nS σ 5) = S at K eb e5
        generalize hP : popc (k + 1) = P at K ec e6 hpl
        have hcc : ((k + 1 : Nat) : Int) = (k : Int) + 1 := by omega
        have hP' : popc (k + 1) = P := hP
        rw [hcc] at ec eb e7 e8
        refine wa (by decide) rgD_ok tk_114 30 (fun N hN => ?_)
        simp [bl_114, hN _, x_iconst, x_ldc2_w, x_aconst_null, x_iload, x_lload, x_aload, x_istore, x_lstore, x_astore, x_iinc, x_iadd, x_isub, x_imul, x_idiv, x_irem, x_iand, x_ior, x_ixor, x_ishl, x_ishr, x_iushr, x_ineg, x_ladd, x_lsub, x_lmul, x_ldiv, x_lrem, x_lcmp, x_i2l, x_i2b, x_i2s, x_i2c, x_dup, x_pop, x_dup_x1, x_dup2, x_getfield, x_putfield, x_iaload, x_baload, x_saload, x_caload, x_daload, x_faload, x_laload, x_aaload, x_iastore, x_bastore, x_sastore, x_castore, x_lastore, x_aastore, x_arraylength, x_getstatic, x_goto, x_goto_w, x_ifCond, x_if_icmp, x_ifnull, x_ifnonnull, x_lookupswitch, x_invokevirtual, x_invokestatic, x_invokedynamic, x_ireturn, x_freturn, x_dreturn, x_lreturn, x_areturn, x_return_, pI_c, pL_c, pR_c, pV_i, pV_r, gI_c, gL_c, gR_c, pN_z, pN_s, lget_c, lins_z, lins_c, ldel_z, ldel_c, ldel2_z, ldel2_c, lset_i, lset_l, lset_r, lkeep_z, lkeep_c, largs_z, largs_c, cat_i, cat_l, cat_r, lkp_c, cnd_eq, cnd_ne, cnd_lt, cnd_ge, cnd_gt, cnd_le, swL_z, swL_c, rE_e, rOr_s, rOr_n, rlk_z, rlk_c, aR_c, aI_c, aII_c, aIII_c, aRI_c, aRII_c, aRIII_c, vJn, vJs, vlc, aRR_c, aRRI_c, aRRII_c, aRRIII_c, aRIIII_c, aRL_c, aRLL_c, aLL_c, aRRRI_c, aIL_c, aIIII_c, aRRIIII_c, aIRII_c, aIR_c, aLI_c, aRIR_c, aRIIR_c, hC.o0, hC.f0_0, hC.f0_1, hC.f0_2, hC.f0_3, hC.f0_4, hC.f0_5, hC.f0_6, hC.f0_7, hC.f0_8, hC.f0_9, hC.f0_10, hC.f0_11, hC.o1, hC.f1, hC.t2, hC.l2, hC.o3, hC.f3, hC.t4, hC.l4, hC.s5, hC.s12, hC.s19, hC.s112, hC.s119, hC.o26, hC.f26, hC.t27, hC.l27, hC.s28, hC.o126, hC.f126_0, hC.f126_1, hC.t127, hC.l127, hC.t128, hC.l128, hC.s129, hC.n157, hC.n161, hC.o165, hC.f165, hC.t166, hC.l166, hC.r167, hC.r171, hC.q5, hC.q12, hC.q19, hC.q112, hC.q119, hC.a2, hC.a4, hC.a27, hC.a127, hC.a128, hC, z0', eS, bpCount, apPos, rpClears, rpAdds, k5, e1, e3, s0, s1, Int.not_le.mpr s1, Int.not_lt.mpr s0, up_ap]
        simp only [ec, eb, e5, e6, e7]
        have e8' : ¬ (2 : Int) ^ nS σ 5 ≤ (k : Int) + 1 := by simpa using e8
        have e9 : (k : Int) + 1 < (2 : Int) ^ nS σ 5 := by omega
        refine ⟨fun z => (e8' z).elim, fun _ => ?_⟩
        by_cases hf : F k = 0
        · simp only [hf, if_true, true_or, and_true] at K q ⊢
          by_cases hh : 2 * S = 12 * (P : Int)
          · rw [if_pos hh] at K
            have K2 := K _ (by rw [if_neg (by omega)]; exact QTo.q1 q.1)
            rw [if_neg (by omega), hP'] at K2
            simp [hh]
            simpa using K2
          · rw [if_neg hh] at K
            have K2 := K σ' (by rw [if_pos rfl]; exact q)
            simp [hh]
            simpa using K2
        · have hp' : ¬ (popc (F k) : Int) = -2 := by omega
          simp only [hf, if_false, false_or] at K q ⊢
          by_cases hh : 2 * S = 12 * (P : Int) ∧ P < popc (F k)
          · rw [if_pos hh] at K
            have K2 := K _ (by rw [if_neg (by omega)]; exact QTo.q1 q.1)
            rw [if_neg (by omega), hP'] at K2
            simp [hh.1, hp', Int.not_le.mpr (Int.ofNat_lt.mpr hh.2), Nat.not_le.mpr hh.2, hh.2]
            simpa using K2
          · rw [if_neg hh] at K
            have K2 := K σ' (by rw [if_neg hf]; exact q)
            rw [if_neg hf] at K2
            have K3 : Wp l g 114 (d + 7) 0 0 14 [(0, vR 0), (1, vI s), (2, vI (popc (F k) : Int)), (3, vI ((k : Int) + 1 + 1))] [] t σ' Q := by simpa using K2
            grind
    have K := K σ (by rw [if_pos hF0]; exact QTo.rf)
    rw [if_pos hF0] at K
    refine wg (by decide) rgD_ok tk_114 py_114 ml_114 30 (by simp [catT]) (fun N hN => ?_)
    simp [bl_114, hN _, x_iconst, x_ldc2_w, x_aconst_null, x_iload, x_lload, x_aload, x_istore, x_lstore, x_astore, x_iinc, x_iadd, x_isub, x_imul, x_idiv, x_irem, x_iand, x_ior, x_ixor, x_ishl, x_ishr, x_iushr, x_ineg, x_ladd, x_lsub, x_lmul, x_ldiv, x_lrem, x_lcmp, x_i2l, x_i2b, x_i2s, x_i2c, x_dup, x_pop, x_dup_x1, x_dup2, x_getfield, x_putfield, x_iaload, x_baload, x_saload, x_caload, x_daload, x_faload, x_laload, x_aaload, x_iastore, x_bastore, x_sastore, x_castore, x_lastore, x_aastore, x_arraylength, x_getstatic, x_goto, x_goto_w, x_ifCond, x_if_icmp, x_ifnull, x_ifnonnull, x_lookupswitch, x_invokevirtual, x_invokestatic, x_invokedynamic, x_ireturn, x_freturn, x_dreturn, x_lreturn, x_areturn, x_return_, pI_c, pL_c, pR_c, pV_i, pV_r, gI_c, gL_c, gR_c, pN_z, pN_s, lget_c, lins_z, lins_c, ldel_z, ldel_c, ldel2_z, ldel2_c, lset_i, lset_l, lset_r, lkeep_z, lkeep_c, largs_z, largs_c, cat_i, cat_l, cat_r, lkp_c, cnd_eq, cnd_ne, cnd_lt, cnd_ge, cnd_gt, cnd_le, swL_z, swL_c, rE_e, rOr_s, rOr_n, rlk_z, rlk_c, aR_c, aI_c, aII_c, aIII_c, aRI_c, aRII_c, aRIII_c, vJn, vJs, vlc, aRR_c, aRRI_c, aRRII_c, aRRIII_c, aRIIII_c, aRL_c, aRLL_c, aLL_c, aRRRI_c, aIL_c, aIIII_c, aRRIIII_c, aIRII_c, aIR_c, aLI_c, aRIR_c, aRIIR_c, spSide, s0, s1, Int.not_le.mpr s1, Int.not_lt.mpr s0]
    exact K
  · rw [if_neg hs] at h
    have h := h σ QTo.rf
    refine wg (by decide) rgD_ok tk_114 py_114 ml_114 30 (by simp [catT]) (fun N hN => ?_)
    simp [bl_114, hN _, x_iconst, x_ldc2_w, x_aconst_null, x_iload, x_lload, x_aload, x_istore, x_lstore, x_astore, x_iinc, x_iadd, x_isub, x_imul, x_idiv, x_irem, x_iand, x_ior, x_ixor, x_ishl, x_ishr, x_iushr, x_ineg, x_ladd, x_lsub, x_lmul, x_ldiv, x_lrem, x_lcmp, x_i2l, x_i2b, x_i2s, x_i2c, x_dup, x_pop, x_dup_x1, x_dup2, x_getfield, x_putfield, x_iaload, x_baload, x_saload, x_caload, x_daload, x_faload, x_laload, x_aaload, x_iastore, x_bastore, x_sastore, x_castore, x_lastore, x_aastore, x_arraylength, x_getstatic, x_goto, x_goto_w, x_ifCond, x_if_icmp, x_ifnull, x_ifnonnull, x_lookupswitch, x_invokevirtual, x_invokestatic, x_invokedynamic, x_ireturn, x_freturn, x_dreturn, x_lreturn, x_areturn, x_return_, pI_c, pL_c, pR_c, pV_i, pV_r, gI_c, gL_c, gR_c, pN_z, pN_s, lget_c, lins_z, lins_c, ldel_z, ldel_c, ldel2_z, ldel2_c, lset_i, lset_l, lset_r, lkeep_z, lkeep_c, largs_z, largs_c, cat_i, cat_l, cat_r, lkp_c, cnd_eq, cnd_ne, cnd_lt, cnd_ge, cnd_gt, cnd_le, swL_z, swL_c, rE_e, rOr_s, rOr_n, rlk_z, rlk_c, aR_c, aI_c, aII_c, aIII_c, aRI_c, aRII_c, aRIII_c, vJn, vJs, vlc, aRR_c, aRRI_c, aRRII_c, aRRIII_c, aRIIII_c, aRL_c, aRLL_c, aLL_c, aRRRI_c, aIL_c, aIIII_c, aRRIIII_c, aIRII_c, aIR_c, aLI_c, aRIR_c, aRIIR_c, spSide]
    grind
