/-! the fewest fights; goesOver, peace -/
theorem h_reach {l : Launch} {g : GE} {d : Nat} : ∀ (r : Nat) (as : List TV) (t : Tau) (σ : Mem) (Q : Post), hpReach r as t σ Q → WPc l g 74 (d + 8 + r) 0 0 as t σ Q
  | 0, _, _, _, _, h => h_reach0 h
  | r + 1, _, _, _, _, h => h_reachS (h_reach r) h
theorem WPc_up {l : Launch} {g : GE} {d r : Nat} (hr : r ≤ 3) {as : List TV} {t : Tau} {σ : Mem} {Q : Post} (h : hpReach r as t σ Q) : WPc l g 74 (d + 11) 0 0 as t σ Q := by
  have := h_reach (l := l) (g := g) (d := d + 3 - r) r as t σ Q h
  rwa [show d + 3 - r + 8 + r = d + 11 by omega] at this
/-- reaches at depth 0 -/
def hpReachA : Sp := fun as t σ Q => aRII as fun a k m => k = 0 ∧ (0 ≤ m ∧ m ≤ 3) ∧ hpReach m.toNat [vR a, vI k, vI m] t σ Q
theorem h_reachA {l : Launch} {g : GE} {d : Nat} {t : Tau} {σ : Mem} {Q : Post} {as : List TV} (h0 : hpReachA as t σ Q) : WPc l g 74 (d + 11) 0 0 as t σ Q := by
  obtain ⟨a, k, m, rfl, rfl, hm, h⟩ := aRII_e h0
  exact WPc_up (by omega) h
/-- the fewest, and they -/
noncomputable def fewV (s f k : Int) (F : (Int → Int) → Int) (n : Nat) (V : Int → Int) : Nat → Nat → Option (Nat × List Int)
  | 0, _ => none
  | q + 1, m => match srch s f k F n m V with
    | some L => some (m, L)
    | none => fewV s f k F n V q (m + 1)
abbrev rgFw : Reg := [(74, hpReachA), (72, hpLevel), (40, apBecomes)]
theorem rgFw_ok {l : Launch} {g : GE} {d : Nat} : ∀ e as t σ Q, rE l g (d + 11) rgFw e as t σ Q → WPc l g e (d + 11) 0 0 as t σ Q := rE_cons (fun _ _ _ _ h => h_reachA h) <| rE_cons (fun _ _ _ _ h => h_level h) <| rE_cons (fun _ _ _ _ h => a_becomes h) rE_nil
def fwP (O : Option (Nat × List Int)) (t : Tau) (Q : Post) (σ : Mem) : Prop := match O with
  | none => Q (some (vI (-2))) t σ
  | some (m, L) => StIs σ 0 L → Q (some (vI m)) t σ
/-- only what the search uses -/
def FwF (σ σ' : Mem) : Prop := ∀ o, (o < 127 ∨ 156 < o) → o ≠ 170 → o ≠ 174 → σ' o = σ o
def hpFewest : Sp := fun as t σ Q => aRR as fun a b => a = 126 ∧ b = 5 ∧ TC t ∧ LvOk σ ∧ SeaOk t σ 5 ∧ AimOk (nS σ 5) (σ 126 4) (σ 126 5) ∧ (1 ≤ σ 126 3 ∧ σ 126 3 ≤ 6) ∧ (σ 126 2 = 167 ∨ σ 126 2 = 171) ∧ ∃ F, RuleIs t σ (σ 126 2) F ∧ ∀ σ', FwF σ σ' → σ' 127 = σ 127 → fwP (fewV (σ 126 4) (σ 126 5) (σ 126 3) F (nS σ 5) (vwS σ 5) 4 0) t Q σ'
set_option maxHeartbeats 1000000 in
theorem h_fewest {l : Launch} {g : GE} {d : Nat} {t : Tau} {σ : Mem} {Q : Post} {as : List TV} (h0 : hpFewest as t σ Q) : WPc l g 73 (d + 12) 0 0 as t σ Q := by
  obtain ⟨a, b, rfl, rfl, rfl, hC, hL, hk, hA, hkk, hrr, F, hR, h⟩ := aRR_e h0
  clear h0
  have hl0 : lvA 0 = 129 := rfl
  have hT : SeaT t 129 := by have := hC.sL (k := 0) (by omega); rwa [hl0] at this
  have nn : ¬ σ 126 2 = -1 := by rcases hrr with e | e <;> rw [e] <;> omega
  have O : ∀ (q m : Nat) (σ' : Mem), m + q = 4 → SrOk t σ' F 0 → nS σ' 129 = nS σ 5 → vwS σ' 129 = vwS σ 5 → FwF σ σ' → σ' 127 = σ 127 → (∀ σ'', FwF σ σ'' → σ'' 127 = σ 127 → fwP (fewV (σ 126 4) (σ 126 5) (σ 126 3) F (nS σ 5) (vwS σ 5) q m) t Q σ'') → Wp l g 73 (d + 12) 0 0 27 [(0, vR 126), (3, vI m)] [] t σ' Q := by
    intro q
    induction q with
    | zero =>
      intro m σ' hm hS hn hv hF h7 hQ
      obtain rfl : m = 4 := by omega
      refine wa (by decide) rgFw_ok tk_73 30 (fun N hN => ?_)
      simp [bl_73, hN _, x_iconst, x_ldc2_w, x_aconst_null, x_iload, x_lload, x_aload, x_istore, x_lstore, x_astore, x_iinc, x_iadd, x_isub, x_imul, x_idiv, x_irem, x_iand, x_ior, x_ixor, x_ishl, x_ishr, x_iushr, x_ineg, x_ladd, x_lsub, x_lmul, x_ldiv, x_lrem, x_lcmp, x_i2l, x_i2b, x_i2s, x_i2c, x_dup, x_pop, x_dup_x1, x_dup2, x_getfield, x_putfield, x_iaload, x_baload, x_saload, x_caload, x_daload, x_faload, x_laload, x_aaload, x_iastore, x_bastore, x_sastore, x_castore, x_lastore, x_aastore, x_arraylength, x_getstatic, x_goto, x_goto_w, x_ifCond, x_if_icmp, x_ifnull, x_ifnonnull, x_lookupswitch, x_invokevirtual, x_invokestatic, x_invokedynamic, x_ireturn, x_freturn, x_dreturn, x_lreturn, x_areturn, x_return_, pI_c, pL_c, pR_c, pV_i, pV_r, gI_c, gL_c, gR_c, pN_z, pN_s, lget_c, lins_z, lins_c, ldel_z, ldel_c, ldel2_z, ldel2_c, lset_i, lset_l, lset_r, lkeep_z, lkeep_c, largs_z, largs_c, cat_i, cat_l, cat_r, lkp_c, cnd_eq, cnd_ne, cnd_lt, cnd_ge, cnd_gt, cnd_le, swL_z, swL_c, rE_e, rOr_s, rOr_n, rlk_z, rlk_c, aR_c, aI_c, aII_c, aIII_c, aRI_c, aRII_c, aRIII_c, vJn, vJs, vlc, aRR_c, aRRI_c, aRRII_c, aRRIII_c, aRIIII_c, aRL_c, aRLL_c, aLL_c, aRRRI_c, aIL_c, aIIII_c, aRRIIII_c, aIRII_c, aIR_c, aLI_c, aRIR_c, aRIIR_c]
      exact hQ σ' hF h7
    | succ q ih =>
      intro m σ' hm hS hn hv hF h7 hQ
      have e2 := w32_succ (k := m) (by omega)
      have m3 : ¬ (3 : Int) < m := by omega
      have m3n : ¬ 3 < m := by omega
      have m3a : (m : Int) ≤ 3 := by omega
      have m3b : m ≤ 3 := by omega
      have e126 : σ' 126 = σ 126 := hF 126 (by omega) (by omega) (by omega)
      have hsv : srV σ' F 0 m = srch (σ 126 4) (σ 126 5) (σ 126 3) F (nS σ 5) m (vwS σ 5) := by unfold srV; rw [hl0, hn, hv, e126]
      have hfe : fewV (σ 126 4) (σ 126 5) (σ 126 3) F (nS σ 5) (vwS σ 5) (q + 1) m = (match srV σ' F 0 m with | some L => some (m, L) | none => fewV (σ 126 4) (σ 126 5) (σ 126 3) F (nS σ 5) (vwS σ 5) q (m + 1)) := by rw [hsv]; rfl
      rw [hfe] at hQ
      refine wa (by decide) rgFw_ok ts_73 30 (fun N hN => ?_)
      simp [bs_73, hN _, x_iconst, x_ldc2_w, x_aconst_null, x_iload, x_lload, x_aload, x_istore, x_lstore, x_astore, x_iinc, x_iadd, x_isub, x_imul, x_idiv, x_irem, x_iand, x_ior, x_ixor, x_ishl, x_ishr, x_iushr, x_ineg, x_ladd, x_lsub, x_lmul, x_ldiv, x_lrem, x_lcmp, x_i2l, x_i2b, x_i2s, x_i2c, x_dup, x_pop, x_dup_x1, x_dup2, x_getfield, x_putfield, x_iaload, x_baload, x_saload, x_caload, x_daload, x_faload, x_laload, x_aaload, x_iastore, x_bastore, x_sastore, x_castore, x_lastore, x_aastore, x_arraylength, x_getstatic, x_goto, x_goto_w, x_ifCond, x_if_icmp, x_ifnull, x_ifnonnull, x_lookupswitch, x_invokevirtual, x_invokestatic, x_invokedynamic, x_ireturn, x_freturn, x_dreturn, x_lreturn, x_areturn, x_return_, pI_c, pL_c, pR_c, pV_i, pV_r, gI_c, gL_c, gR_c, pN_z, pN_s, lget_c, lins_z, lins_c, ldel_z, ldel_c, ldel2_z, ldel2_c, lset_i, lset_l, lset_r, lkeep_z, lkeep_c, largs_z, largs_c, cat_i, cat_l, cat_r, lkp_c, cnd_eq, cnd_ne, cnd_lt, cnd_ge, cnd_gt, cnd_le, swL_z, swL_c, rE_e, rOr_s, rOr_n, rlk_z, rlk_c, aR_c, aI_c, aII_c, aIII_c, aRI_c, aRII_c, aRIII_c, vJn, vJs, vlc, aRR_c, aRRI_c, aRRII_c, aRRIII_c, aRIIII_c, aRL_c, aRLL_c, aLL_c, aRRRI_c, aIL_c, aIIII_c, aRRIIII_c, aIRII_c, aIR_c, aLI_c, aRIR_c, aRIIR_c, hC.o0, hC.f0_0, hC.f0_1, hC.f0_2, hC.f0_3, hC.f0_4, hC.f0_5, hC.f0_6, hC.f0_7, hC.f0_8, hC.f0_9, hC.f0_10, hC.f0_11, hC.o1, hC.f1, hC.t2, hC.l2, hC.o3, hC.f3, hC.t4, hC.l4, hC.s5, hC.s12, hC.s19, hC.s112, hC.s119, hC.o26, hC.f26, hC.t27, hC.l27, hC.s28, hC.o126, hC.f126_0, hC.f126_1, hC.t127, hC.l127, hC.t128, hC.l128, hC.s129, hC.n157, hC.n161, hC.o165, hC.f165, hC.t166, hC.l166, hC.r167, hC.r171, hC.q5, hC.q12, hC.q19, hC.q112, hC.q119, hC.a2, hC.a4, hC.a27, hC.a127, hC.a128, hC, m3, m3n, m3a, m3b, hpReachA, hpReach]
      refine ⟨F, hS, fun σ2 h2 => ?_⟩
      have hS2 := h2.ok (by omega) hS
      obtain ⟨s1, s2, s3, s4, s5⟩ := hS2
      rw [hl0] at s2 s4
      have hF2 : FwF σ σ2 := fun o a b c => by
        by_cases h8 : o = 128
        · omega
        · rw [h2.1 o (by unfold lvA; omega) h8 b c]; exact hF o a b c
      have h72 : σ2 127 = σ 127 := by rw [h2.1 127 (by unfold lvA; omega) (by omega) (by omega) (by omega)]; exact h7
      generalize srV σ' F 0 m = O at hQ ⊢
      cases O with
      | none =>
        have K := ih (m + 1) σ2 (by omega) s1 (by rw [s2, hn]) (by rw [s4, hv]) hF2 h72 hQ
        show vcl _ _ _ _ _ _ _ _ _ _ _
        simp [sg_73_20_1, sg_73_27_1, bs_73, hN _, x_iconst, x_ldc2_w, x_aconst_null, x_iload, x_lload, x_aload, x_istore, x_lstore, x_astore, x_iinc, x_iadd, x_isub, x_imul, x_idiv, x_irem, x_iand, x_ior, x_ixor, x_ishl, x_ishr, x_iushr, x_ineg, x_ladd, x_lsub, x_lmul, x_ldiv, x_lrem, x_lcmp, x_i2l, x_i2b, x_i2s, x_i2c, x_dup, x_pop, x_dup_x1, x_dup2, x_getfield, x_putfield, x_iaload, x_baload, x_saload, x_caload, x_daload, x_faload, x_laload, x_aaload, x_iastore, x_bastore, x_sastore, x_castore, x_lastore, x_aastore, x_arraylength, x_getstatic, x_goto, x_goto_w, x_ifCond, x_if_icmp, x_ifnull, x_ifnonnull, x_lookupswitch, x_invokevirtual, x_invokestatic, x_invokedynamic, x_ireturn, x_freturn, x_dreturn, x_lreturn, x_areturn, x_return_, pI_c, pL_c, pR_c, pV_i, pV_r, gI_c, gL_c, gR_c, pN_z, pN_s, lget_c, lins_z, lins_c, ldel_z, ldel_c, ldel2_z, ldel2_c, lset_i, lset_l, lset_r, lkeep_z, lkeep_c, largs_z, largs_c, cat_i, cat_l, cat_r, lkp_c, cnd_eq, cnd_ne, cnd_lt, cnd_ge, cnd_gt, cnd_le, swL_z, swL_c, rE_e, rOr_s, rOr_n, rlk_z, rlk_c, aR_c, aI_c, aII_c, aIII_c, aRI_c, aRII_c, aRIII_c, vJn, vJs, vlc, aRR_c, aRRI_c, aRRII_c, aRRIII_c, aRIIII_c, aRL_c, aRLL_c, aLL_c, aRRRI_c, aIL_c, aIIII_c, aRRIIII_c, aIRII_c, aIR_c, aLI_c, aRIR_c, aRIIR_c, e2]
        simpa using K
      | some L =>
        intro hSt
        have K := hQ σ2 hF2 h72 hSt
        show vcl _ _ _ _ _ _ _ _ _ _ _
        simp [sg_73_20_1, sg_73_27_1, bs_73, hN _, x_iconst, x_ldc2_w, x_aconst_null, x_iload, x_lload, x_aload, x_istore, x_lstore, x_astore, x_iinc, x_iadd, x_isub, x_imul, x_idiv, x_irem, x_iand, x_ior, x_ixor, x_ishl, x_ishr, x_iushr, x_ineg, x_ladd, x_lsub, x_lmul, x_ldiv, x_lrem, x_lcmp, x_i2l, x_i2b, x_i2s, x_i2c, x_dup, x_pop, x_dup_x1, x_dup2, x_getfield, x_putfield, x_iaload, x_baload, x_saload, x_caload, x_daload, x_faload, x_laload, x_aaload, x_iastore, x_bastore, x_sastore, x_castore, x_lastore, x_aastore, x_arraylength, x_getstatic, x_goto, x_goto_w, x_ifCond, x_if_icmp, x_ifnull, x_ifnonnull, x_lookupswitch, x_invokevirtual, x_invokestatic, x_invokedynamic, x_ireturn, x_freturn, x_dreturn, x_lreturn, x_areturn, x_return_, pI_c, pL_c, pR_c, pV_i, pV_r, gI_c, gL_c, gR_c, pN_z, pN_s, lget_c, lins_z, lins_c, ldel_z, ldel_c, ldel2_z, ldel2_c, lset_i, lset_l, lset_r, lkeep_z, lkeep_c, largs_z, largs_c, cat_i, cat_l, cat_r, lkp_c, cnd_eq, cnd_ne, cnd_lt, cnd_ge, cnd_gt, cnd_le, swL_z, swL_c, rE_e, rOr_s, rOr_n, rlk_z, rlk_c, aR_c, aI_c, aII_c, aIII_c, aRI_c, aRII_c, aRIII_c, vJn, vJs, vlc, aRR_c, aRRI_c, aRRII_c, aRRIII_c, aRIIII_c, aRL_c, aRLL_c, aLL_c, aRRRI_c, aIL_c, aIIII_c, aRRIIII_c, aIRII_c, aIR_c, aLI_c, aRIR_c, aRIIR_c]
        exact K
  refine wg (by decide) rgFw_ok ts_73 py_73 ml_73 30 (by simp [catT]) (fun N hN => ?_)
  simp [bs_73, hN _, x_iconst, x_ldc2_w, x_aconst_null, x_iload, x_lload, x_aload, x_istore, x_lstore, x_astore, x_iinc, x_iadd, x_isub, x_imul, x_idiv, x_irem, x_iand, x_ior, x_ixor, x_ishl, x_ishr, x_iushr, x_ineg, x_ladd, x_lsub, x_lmul, x_ldiv, x_lrem, x_lcmp, x_i2l, x_i2b, x_i2s, x_i2c, x_dup, x_pop, x_dup_x1, x_dup2, x_getfield, x_putfield, x_iaload, x_baload, x_saload, x_caload, x_daload, x_faload, x_laload, x_aaload, x_iastore, x_bastore, x_sastore, x_castore, x_lastore, x_aastore, x_arraylength, x_getstatic, x_goto, x_goto_w, x_ifCond, x_if_icmp, x_ifnull, x_ifnonnull, x_lookupswitch, x_invokevirtual, x_invokestatic, x_invokedynamic, x_ireturn, x_freturn, x_dreturn, x_lreturn, x_areturn, x_return_, pI_c, pL_c, pR_c, pV_i, pV_r, gI_c, gL_c, gR_c, pN_z, pN_s, lget_c, lins_z, lins_c, ldel_z, ldel_c, ldel2_z, ldel2_c, lset_i, lset_l, lset_r, lkeep_z, lkeep_c, largs_z, largs_c, cat_i, cat_l, cat_r, lkp_c, cnd_eq, cnd_ne, cnd_lt, cnd_ge, cnd_gt, cnd_le, swL_z, swL_c, rE_e, rOr_s, rOr_n, rlk_z, rlk_c, aR_c, aI_c, aII_c, aIII_c, aRI_c, aRII_c, aRIII_c, vJn, vJs, vlc, aRR_c, aRRI_c, aRRII_c, aRRIII_c, aRIIII_c, aRL_c, aRLL_c, aLL_c, aRRRI_c, aIL_c, aIIII_c, aRRIIII_c, aIRII_c, aIR_c, aLI_c, aRIR_c, aRIIR_c, hC.o0, hC.f0_0, hC.f0_1, hC.f0_2, hC.f0_3, hC.f0_4, hC.f0_5, hC.f0_6, hC.f0_7, hC.f0_8, hC.f0_9, hC.f0_10, hC.f0_11, hC.o1, hC.f1, hC.t2, hC.l2, hC.o3, hC.f3, hC.t4, hC.l4, hC.s5, hC.s12, hC.s19, hC.s112, hC.s119, hC.o26, hC.f26, hC.t27, hC.l27, hC.s28, hC.o126, hC.f126_0, hC.f126_1, hC.t127, hC.l127, hC.t128, hC.l128, hC.s129, hC.n157, hC.n161, hC.o165, hC.f165, hC.t166, hC.l166, hC.r167, hC.r171, hC.q5, hC.q12, hC.q19, hC.q112, hC.q119, hC.a2, hC.a4, hC.a27, hC.a127, hC.a128, hC, hpLevel, hL, nn, apBecomes, hT, hT.1, hk]
  intro σ1 b1 b2 b3 b4 b5
  have e126 : σ1 126 = σ 126 := b1 126 (by omega)
  have hS : SrOk t σ1 F 0 := ⟨hC, fun k a b => by rw [b1 127 (by omega)]; exact hL k a b, by rw [hl0]; exact b2, by rw [hl0, b3, e126]; exact hA, by rw [e126]; exact hkk, by rw [e126]; exact hrr, by
    rw [e126]
    exact hR.cg (b1 _ (by rcases hrr with e | e <;> rw [e] <;> omega)) (b1 _ (by rcases hrr with e | e <;> rw [e] <;> omega))⟩
  have K := O 4 0 σ1 (by omega) hS b3 b5 (fun o a b c => b1 o (by omega)) (b1 127 (by omega)) h
  simp [sg_73_20_1, hN _, x_iconst, x_ldc2_w, x_aconst_null, x_iload, x_lload, x_aload, x_istore, x_lstore, x_astore, x_iinc, x_iadd, x_isub, x_imul, x_idiv, x_irem, x_iand, x_ior, x_ixor, x_ishl, x_ishr, x_iushr, x_ineg, x_ladd, x_lsub, x_lmul, x_ldiv, x_lrem, x_lcmp, x_i2l, x_i2b, x_i2s, x_i2c, x_dup, x_pop, x_dup_x1, x_dup2, x_getfield, x_putfield, x_iaload, x_baload, x_saload, x_caload, x_daload, x_faload, x_laload, x_aaload, x_iastore, x_bastore, x_sastore, x_castore, x_lastore, x_aastore, x_arraylength, x_getstatic, x_goto, x_goto_w, x_ifCond, x_if_icmp, x_ifnull, x_ifnonnull, x_lookupswitch, x_invokevirtual, x_invokestatic, x_invokedynamic, x_ireturn, x_freturn, x_dreturn, x_lreturn, x_areturn, x_return_, pI_c, pL_c, pR_c, pV_i, pV_r, gI_c, gL_c, gR_c, pN_z, pN_s, lget_c, lins_z, lins_c, ldel_z, ldel_c, ldel2_z, ldel2_c, lset_i, lset_l, lset_r, lkeep_z, lkeep_c, largs_z, largs_c, cat_i, cat_l, cat_r, lkp_c, cnd_eq, cnd_ne, cnd_lt, cnd_ge, cnd_gt, cnd_le, swL_z, swL_c, rE_e, rOr_s, rOr_n, rlk_z, rlk_c, aR_c, aI_c, aII_c, aIII_c, aRI_c, aRII_c, aRIII_c, vJn, vJs, vlc, aRR_c, aRRI_c, aRRII_c, aRRIII_c, aRIIII_c, aRL_c, aRLL_c, aLL_c, aRRRI_c, aIL_c, aIIII_c, aRRIIII_c, aIRII_c, aIR_c, aLI_c, aRIR_c, aRIIR_c]
  exact K
/-! tellsFights -/
def ftP (O : Option (Nat × List Int)) : QA := match O with
  | none => (-2, none)
  | some (m, L) => ((m : Int), some L)
def fpTells : Sp := fun as t σ Q => aRI as fun a m => a = 0 ∧ TC t ∧ ((m < 0 ∧ Q (some (vI m)) t σ) ∨ (∃ L : List Int, 0 ≤ m ∧ m ≤ 3 ∧ (L.length : Int) = 2 * m ∧ StIs σ 0 L ∧ ∀ σ', (∀ o, o ≠ 3 → o ≠ 4 → σ' o = σ o) → rwIs σ' L → Q (some (vI m)) t σ'))
theorem rgTf_ok {l : Launch} {g : GE} {d : Nat} : ∀ e as t σ Q, rE l g (d + 1) [(71, hpStep), (17, rpClears), (18, rpAdds)] e as t σ Q → WPc l g e (d + 1) 0 0 as t σ Q := rE_cons (fun _ _ _ _ h => h_step h) <| rE_cons (fun _ _ _ _ h => r_clears h) <| rE_cons (fun _ _ _ _ h => r_adds h) rE_nil
theorem f_tells {l : Launch} {g : GE} {d : Nat} {t : Tau} {σ : Mem} {Q : Post} {as : List TV} (h0 : fpTells as t σ Q) : WPc l g 148 (d + 2) 0 0 as t σ Q := by
  obtain ⟨a, m', rfl, rfl, hC, h⟩ := aRI_e h0
  clear h0
  rcases h with ⟨hm, h⟩ | ⟨L, m0, m3, hlen, hSt, h⟩
  · refine wg (by decide) rgTf_ok tk_148 py_148 ml_148 30 (by simp [catT]) (fun N hN => ?_)
    simp [bl_148, hN _, x_iconst, x_ldc2_w, x_aconst_null, x_iload, x_lload, x_aload, x_istore, x_lstore, x_astore, x_iinc, x_iadd, x_isub, x_imul, x_idiv, x_irem, x_iand, x_ior, x_ixor, x_ishl, x_ishr, x_iushr, x_ineg, x_ladd, x_lsub, x_lmul, x_ldiv, x_lrem, x_lcmp, x_i2l, x_i2b, x_i2s, x_i2c, x_dup, x_pop, x_dup_x1, x_dup2, x_getfield, x_putfield, x_iaload, x_baload, x_saload, x_caload, x_daload, x_faload, x_laload, x_aaload, x_iastore, x_bastore, x_sastore, x_castore, x_lastore, x_aastore, x_arraylength, x_getstatic, x_goto, x_goto_w, x_ifCond, x_if_icmp, x_ifnull, x_ifnonnull, x_lookupswitch, x_invokevirtual, x_invokestatic, x_invokedynamic, x_ireturn, x_freturn, x_dreturn, x_lreturn, x_areturn, x_return_, pI_c, pL_c, pR_c, pV_i, pV_r, gI_c, gL_c, gR_c, pN_z, pN_s, lget_c, lins_z, lins_c, ldel_z, ldel_c, ldel2_z, ldel2_c, lset_i, lset_l, lset_r, lkeep_z, lkeep_c, largs_z, largs_c, cat_i, cat_l, cat_r, lkp_c, cnd_eq, cnd_ne, cnd_lt, cnd_ge, cnd_gt, cnd_le, swL_z, swL_c, rE_e, rOr_s, rOr_n, rlk_z, rlk_c, aR_c, aI_c, aII_c, aIII_c, aRI_c, aRII_c, aRIII_c, vJn, vJs, vlc, aRR_c, aRRI_c, aRRII_c, aRRIII_c, aRIIII_c, aRL_c, aRLL_c, aLL_c, aRRRI_c, aIL_c, aIIII_c, aRRIIII_c, aIRII_c, aIR_c, aLI_c, aRIR_c, aRIIR_c, hm]
    exact ⟨h, fun z => by omega⟩
  · obtain ⟨m, rfl⟩ : ∃ n : Nat, m' = n := ⟨m'.toNat, by omega⟩
    have e1 : w32 (2 * (m : Int)) = 2 * m := w32_id (by omega) (by omega)
    have K : ∀ σ', (∀ o, o ≠ 3 → o ≠ 4 → σ' o = σ o) → rwIs σ' (L.take 0) → Wp l g 148 (d + 2) 0 0 13 [(0, vR 0), (1, vI m), (2, vI (0 : Nat))] [] t σ' Q := by
      refine lpU (P := fun i => ∀ σ', (∀ o, o ≠ 3 → o ≠ 4 → σ' o = σ o) → rwIs σ' (L.take i) → Wp l g 148 (d + 2) 0 0 13 [(0, vR 0), (1, vI m), (2, vI i)] [] t σ' Q) (n := L.length) ?_ (fun i hi K σ' h1 hr => ?_)
      · intro σ' h1 hr
        rw [List.take_length] at hr
        refine wa (by decide) rgTf_ok tk_148 30 (fun N hN => ?_)
        simp [bl_148, hN _, x_iconst, x_ldc2_w, x_aconst_null, x_iload, x_lload, x_aload, x_istore, x_lstore, x_astore, x_iinc, x_iadd, x_isub, x_imul, x_idiv, x_irem, x_iand, x_ior, x_ixor, x_ishl, x_ishr, x_iushr, x_ineg, x_ladd, x_lsub, x_lmul, x_ldiv, x_lrem, x_lcmp, x_i2l, x_i2b, x_i2s, x_i2c, x_dup, x_pop, x_dup_x1, x_dup2, x_getfield, x_putfield, x_iaload, x_baload, x_saload, x_caload, x_daload, x_faload, x_laload, x_aaload, x_iastore, x_bastore, x_sastore, x_castore, x_lastore, x_aastore, x_arraylength, x_getstatic, x_goto, x_goto_w, x_ifCond, x_if_icmp, x_ifnull, x_ifnonnull, x_lookupswitch, x_invokevirtual, x_invokestatic, x_invokedynamic, x_ireturn, x_freturn, x_dreturn, x_lreturn, x_areturn, x_return_, pI_c, pL_c, pR_c, pV_i, pV_r, gI_c, gL_c, gR_c, pN_z, pN_s, lget_c, lins_z, lins_c, ldel_z, ldel_c, ldel2_z, ldel2_c, lset_i, lset_l, lset_r, lkeep_z, lkeep_c, largs_z, largs_c, cat_i, cat_l, cat_r, lkp_c, cnd_eq, cnd_ne, cnd_lt, cnd_ge, cnd_gt, cnd_le, swL_z, swL_c, rE_e, rOr_s, rOr_n, rlk_z, rlk_c, aR_c, aI_c, aII_c, aIII_c, aRI_c, aRII_c, aRIII_c, vJn, vJs, vlc, aRR_c, aRRI_c, aRRII_c, aRRIII_c, aRIIII_c, aRL_c, aRLL_c, aLL_c, aRRRI_c, aIL_c, aIIII_c, aRRIIII_c, aIRII_c, aIR_c, aLI_c, aRIR_c, aRIIR_c, e1, hlen]
        exact h σ' h1 hr
      · have i1 : ¬ 2 * (m : Int) ≤ i := by omega
        have e2 := w32_succ (k := i) (by omega)
        have hl : (L.take i).length = i := by simp; omega
        have a1 : σ' 3 1 = i := by rw [hr.1, hl]
        have i6 : (i : Int) < 6 := by omega
        have i6n : i < 6 := by omega
        have hs := hSt i hi
        rw [show 2 * ((0 : Nat) : Int) + (i : Int) = i by omega] at hs
        have x1 : σ' 128 i = L.getD i 0 := by rw [h1 128 (by omega) (by omega)]; exact hs
        have ht : L.take (i + 1) = L.take i ++ [L.getD i 0] := by rw [List.take_add_one]; simp [List.getElem?_eq_getElem hi]
        have K := K (up (up σ' 4 (σ' 3 1) (L.getD i 0)) 3 1 (σ' 3 1 + 1)) (fun o a b => by rw [up_ne a, up_ne b]; exact h1 o a b) (by rw [ht]; exact hr.add (by omega))
        rw [a1] at K
        refine wa (by decide) rgTf_ok tk_148 30 (fun N hN => ?_)
        simp [bl_148, hN _, x_iconst, x_ldc2_w, x_aconst_null, x_iload, x_lload, x_aload, x_istore, x_lstore, x_astore, x_iinc, x_iadd, x_isub, x_imul, x_idiv, x_irem, x_iand, x_ior, x_ixor, x_ishl, x_ishr, x_iushr, x_ineg, x_ladd, x_lsub, x_lmul, x_ldiv, x_lrem, x_lcmp, x_i2l, x_i2b, x_i2s, x_i2c, x_dup, x_pop, x_dup_x1, x_dup2, x_getfield, x_putfield, x_iaload, x_baload, x_saload, x_caload, x_daload, x_faload, x_laload, x_aaload, x_iastore, x_bastore, x_sastore, x_castore, x_lastore, x_aastore, x_arraylength, x_getstatic, x_goto, x_goto_w, x_ifCond, x_if_icmp, x_ifnull, x_ifnonnull, x_lookupswitch, x_invokevirtual, x_invokestatic, x_invokedynamic, x_ireturn, x_freturn, x_dreturn, x_lreturn, x_areturn, x_return_, pI_c, pL_c, pR_c, pV_i, pV_r, gI_c, gL_c, gR_c, pN_z, pN_s, lget_c, lins_z, lins_c, ldel_z, ldel_c, ldel2_z, ldel2_c, lset_i, lset_l, lset_r, lkeep_z, lkeep_c, largs_z, largs_c, cat_i, cat_l, cat_r, lkp_c, cnd_eq, cnd_ne, cnd_lt, cnd_ge, cnd_gt, cnd_le, swL_z, swL_c, rE_e, rOr_s, rOr_n, rlk_z, rlk_c, aR_c, aI_c, aII_c, aIII_c, aRI_c, aRII_c, aRIII_c, vJn, vJs, vlc, aRR_c, aRRI_c, aRRII_c, aRRIII_c, aRIIII_c, aRL_c, aRLL_c, aLL_c, aRRRI_c, aIL_c, aIIII_c, aRRIIII_c, aIRII_c, aIR_c, aLI_c, aRIR_c, aRIIR_c, hC.o0, hC.f0_0, hC.f0_1, hC.f0_2, hC.f0_3, hC.f0_4, hC.f0_5, hC.f0_6, hC.f0_7, hC.f0_8, hC.f0_9, hC.f0_10, hC.f0_11, hC.o1, hC.f1, hC.t2, hC.l2, hC.o3, hC.f3, hC.t4, hC.l4, hC.s5, hC.s12, hC.s19, hC.s112, hC.s119, hC.o26, hC.f26, hC.t27, hC.l27, hC.s28, hC.o126, hC.f126_0, hC.f126_1, hC.t127, hC.l127, hC.t128, hC.l128, hC.s129, hC.n157, hC.n161, hC.o165, hC.f165, hC.t166, hC.l166, hC.r167, hC.r171, hC.q5, hC.q12, hC.q19, hC.q112, hC.q119, hC.a2, hC.a4, hC.a27, hC.a127, hC.a128, hC, e1, e2, hpStep, rpAdds, i6, i6n, x1, a1]
        refine ⟨fun z => by omega, fun _ => ⟨by omega, ?_⟩⟩
        simpa using K
    have K := K (up σ 3 1 0) (fun o a b => up_ne a) rwIs.nil
    have m0' : ¬ (m : Int) < 0 := by omega
    refine wg (by decide) rgTf_ok tk_148 py_148 ml_148 30 (by simp [catT]) (fun N hN => ?_)
    simp [bl_148, hN _, x_iconst, x_ldc2_w, x_aconst_null, x_iload, x_lload, x_aload, x_istore, x_lstore, x_astore, x_iinc, x_iadd, x_isub, x_imul, x_idiv, x_irem, x_iand, x_ior, x_ixor, x_ishl, x_ishr, x_iushr, x_ineg, x_ladd, x_lsub, x_lmul, x_ldiv, x_lrem, x_lcmp, x_i2l, x_i2b, x_i2s, x_i2c, x_dup, x_pop, x_dup_x1, x_dup2, x_getfield, x_putfield, x_iaload, x_baload, x_saload, x_caload, x_daload, x_faload, x_laload, x_aaload, x_iastore, x_bastore, x_sastore, x_castore, x_lastore, x_aastore, x_arraylength, x_getstatic, x_goto, x_goto_w, x_ifCond, x_if_icmp, x_ifnull, x_ifnonnull, x_lookupswitch, x_invokevirtual, x_invokestatic, x_invokedynamic, x_ireturn, x_freturn, x_dreturn, x_lreturn, x_areturn, x_return_, pI_c, pL_c, pR_c, pV_i, pV_r, gI_c, gL_c, gR_c, pN_z, pN_s, lget_c, lins_z, lins_c, ldel_z, ldel_c, ldel2_z, ldel2_c, lset_i, lset_l, lset_r, lkeep_z, lkeep_c, largs_z, largs_c, cat_i, cat_l, cat_r, lkp_c, cnd_eq, cnd_ne, cnd_lt, cnd_ge, cnd_gt, cnd_le, swL_z, swL_c, rE_e, rOr_s, rOr_n, rlk_z, rlk_c, aR_c, aI_c, aII_c, aIII_c, aRI_c, aRII_c, aRIII_c, vJn, vJs, vlc, aRR_c, aRRI_c, aRRII_c, aRRIII_c, aRIIII_c, aRL_c, aRLL_c, aLL_c, aRRRI_c, aIL_c, aIIII_c, aRRIIII_c, aIRII_c, aIR_c, aLI_c, aRIR_c, aRIIR_c, hC.o0, hC.f0_0, hC.f0_1, hC.f0_2, hC.f0_3, hC.f0_4, hC.f0_5, hC.f0_6, hC.f0_7, hC.f0_8, hC.f0_9, hC.f0_10, hC.f0_11, hC.o1, hC.f1, hC.t2, hC.l2, hC.o3, hC.f3, hC.t4, hC.l4, hC.s5, hC.s12, hC.s19, hC.s112, hC.s119, hC.o26, hC.f26, hC.t27, hC.l27, hC.s28, hC.o126, hC.f126_0, hC.f126_1, hC.t127, hC.l127, hC.t128, hC.l128, hC.s129, hC.n157, hC.n161, hC.o165, hC.f165, hC.t166, hC.l166, hC.r167, hC.r171, hC.q5, hC.q12, hC.q19, hC.q112, hC.q119, hC.a2, hC.a4, hC.a27, hC.a127, hC.a128, hC, rpClears, m0']
    exact K
/-! goesOver, peace -/
theorem pJ_some {f : Nat → OL} {c : OL} {P : List Int → Prop} (hf : ∀ j L, f j = some L → P L) (hc : ∀ L, c = some L → P L) : ∀ q j L, pJ f c q j = some L → P L
  | 0, _, L, h => hc L h
  | q + 1, j, L, h => by
    unfold pJ at h
    split at h
    · rename_i L' hL'
      cases h
      exact hf j _ hL'
    · exact pJ_some hf hc q (j + 1) L h
theorem pI2_some {f : Nat → Nat → OL} {P : List Int → Prop} (hf : ∀ i j L, f i j = some L → P L) : ∀ q i L, pI2 f q i = some L → P L
  | 0, _, L, h => by cases h
  | q + 1, i, L, h => pJ_some (hf i) (fun L h => pI2_some hf q (i + 1) L h) q (i + 1) L h
theorem srch_len {s f k : Int} {F : (Int → Int) → Int} {n : Nat} : ∀ (r : Nat) (V : Int → Int) (L : List Int), srch s f k F n r V = some L → L.length = 2 * r
  | 0, V, L, h => by
    unfold srch at h
    split at h
    · cases h; rfl
    · cases h
  | r + 1, V, L, h => by
    unfold srch at h
    split at h
    · cases h
    · refine pI2_some (P := fun L => L.length = 2 * (r + 1)) (fun i j L hL => ?_) n 0 L h
      unfold srS at hL
      split at hL
      · split at hL
        · rename_i L' hL'
          cases hL
          have := srch_len r _ L' hL'
          simp; omega
        · cases hL
      · cases hL
theorem fewV_len {s f k : Int} {F : (Int → Int) → Int} {n : Nat} {V : Int → Int} : ∀ (q m m' : Nat) (L : List Int), fewV s f k F n V q m = some (m', L) → L.length = 2 * m' ∧ m' < m + q
  | 0, _, _, _, h => by cases h
  | q + 1, m, m', L, h => by
    unfold fewV at h
    split at h
    · rename_i L' hL'
      cases h
      exact ⟨srch_len _ _ _ hL', by omega⟩
    · have := fewV_len q (m + 1) m' L h
      omega
abbrev rgOv : Reg := (70, hpAims) :: (73, hpFewest) :: (148, fpTells) :: rgC
theorem rgOvr_ok {l : Launch} {g : GE} {d : Nat} : ∀ e as t σ Q, rE l g (d + 12) rgOv e as t σ Q → WPc l g e (d + 12) 0 0 as t σ Q := rE_cons (fun _ _ _ _ h => h_aims h) <| rE_cons (fun _ _ _ _ h => h_fewest h) <| rE_cons (fun _ _ _ _ h => f_tells h) (rgC_ok (d := d + 6))
noncomputable def overQ (F : (Int → Int) → Int) (n : Nat) (k : Int) (V : Int → Int) (s f : Int) : QA := if (0 ≤ s ∧ s < n) ∧ (0 ≤ f ∧ f < 4) then ftP (fewV s f k F n V 4 0) else (-1, none)
/-- what the search's end leaves -/
theorem ov_fin {t : Tau} {σ σ1 σ2 : Mem} {Q : Post} {O : Option (Nat × List Int)} (hC : TC t) (hO : ∀ m L, O = some (m, L) → L.length = 2 * m ∧ m ≤ 3) (q1 : QFr σ σ1) (q1r : σ1 3 = σ 3 ∧ σ1 4 = σ 4) (q2 : FwF σ1 σ2) (q27 : σ2 127 = σ1 127) (h : ansC (ftP O) t σ Q) (hS : ∀ m L, O = some (m, L) → StIs σ2 0 L) : fpTells [vR 0, vI (ftP O).1] t σ2 Q := by
  have q12 : QFr σ σ2 := q1.tr (fun o ho => by
    by_cases e : o = 127
    · rw [e]; exact q27
    · exact q2 o (by unfold scr at ho; omega) (by unfold scr at ho; omega) (by unfold scr at ho; omega))
  cases O with
  | none => exact ⟨rfl, hC, Or.inl ⟨by show (-2 : Int) < 0; omega, h σ2 (QTo.no q12 (by rw [q2 3 (by omega) (by omega) (by omega), q1r.1]) (by rw [q2 4 (by omega) (by omega) (by omega), q1r.2]))⟩⟩
  | some p =>
    obtain ⟨m, L⟩ := p
    obtain ⟨hl, hm⟩ := hO m L rfl
    refine ⟨rfl, hC, Or.inr ⟨L, by show (0 : Int) ≤ (m : Int); omega, by show (m : Int) ≤ 3; omega, by show (L.length : Int) = 2 * (m : Int); omega, hS m L rfl, fun σ3 h3 hr => h σ3 ⟨q12.tr (fun o ho => h3 o (fun z => ho (by rw [z]; exact scr3)) (fun z => ho (by rw [z]; exact scr4))), hr⟩⟩⟩
theorem fpT_ret {t : Tau} {σ : Mem} {Q : Post} {m : Int} (h : fpTells [vR 0, vI m] t σ Q) : fpTells [vR 0, vI m] t σ (fun v t' σ' => pI v.toList fun x r => r = [] ∧ Q (some (vI x)) t' σ') := by
  obtain ⟨h1, h2, h3⟩ := h
  refine ⟨h1, h2, ?_⟩
  rcases h3 with ⟨a, b⟩ | ⟨L, a, b, c, e, f⟩
  · exact Or.inl ⟨a, rfl, b⟩
  · exact Or.inr ⟨L, a, b, c, e, fun σ' x y => ⟨rfl, f σ' x y⟩⟩
theorem o_goesOver {l : Launch} {g : GE} {d : Nat} {t : Tau} {σ : Mem} {Q : Post} {s f : Int} {F : (Int → Int) → Int} (hC : TC t) (hk : SeaOk t σ 5) (hL : LvOk σ) (hR : RC t σ F) (h : ansC (overQ F (nS σ 5) (σ 0 14) (vwS σ 5) s f) t σ Q) : WPc l g 111 (d + 13) 0 0 [vR 0, vI s, vI f] t σ Q := by
  unfold overQ at h
  by_cases hs : (0 ≤ s ∧ s < nS σ 5) ∧ (0 ≤ f ∧ f < 4)
  · rw [if_pos hs] at h
    obtain ⟨⟨s0, s1⟩, f0, f1⟩ := hs
    have q1 : QFr σ (up (up (up (up σ 126 2 (σ 0 12)) 126 3 (σ 0 14)) 126 4 s) 126 5 f) := (((QFr.rf.up (by unfold scr; omega)).up (by unfold scr; omega)).up (by unfold scr; omega)).up (by unfold scr; omega)
    have hL1 : LvOk (up (up (up (up σ 126 2 (σ 0 12)) 126 3 (σ 0 14)) 126 4 s) 126 5 f) := fun k a b => by rw [up_ne (by omega), up_ne (by omega), up_ne (by omega), up_ne (by omega)]; exact hL k a b
    have hRu : RuleIs t (up (up (up (up σ 126 2 (σ 0 12)) 126 3 (σ 0 14)) 126 4 s) 126 5 f) (σ 0 12) F := (hR.ap (a := 5) q1 (by omega)).1
    refine wg (by decide) rgOvr_ok ts_111 py_111 ml_111 30 (by simp [catT]) (fun N hN => ?_)
    simp [bs_111, sg_111_20_1, hN _, x_iconst, x_ldc2_w, x_aconst_null, x_iload, x_lload, x_aload, x_istore, x_lstore, x_astore, x_iinc, x_iadd, x_isub, x_imul, x_idiv, x_irem, x_iand, x_ior, x_ixor, x_ishl, x_ishr, x_iushr, x_ineg, x_ladd, x_lsub, x_lmul, x_ldiv, x_lrem, x_lcmp, x_i2l, x_i2b, x_i2s, x_i2c, x_dup, x_pop, x_dup_x1, x_dup2, x_getfield, x_putfield, x_iaload, x_baload, x_saload, x_caload, x_daload, x_faload, x_laload, x_aaload, x_iastore, x_bastore, x_sastore, x_castore, x_lastore, x_aastore, x_arraylength, x_getstatic, x_goto, x_goto_w, x_ifCond, x_if_icmp, x_ifnull, x_ifnonnull, x_lookupswitch, x_invokevirtual, x_invokestatic, x_invokedynamic, x_ireturn, x_freturn, x_dreturn, x_lreturn, x_areturn, x_return_, pI_c, pL_c, pR_c, pV_i, pV_r, gI_c, gL_c, gR_c, pN_z, pN_s, lget_c, lins_z, lins_c, ldel_z, ldel_c, ldel2_z, ldel2_c, lset_i, lset_l, lset_r, lkeep_z, lkeep_c, largs_z, largs_c, cat_i, cat_l, cat_r, lkp_c, cnd_eq, cnd_ne, cnd_lt, cnd_ge, cnd_gt, cnd_le, swL_z, swL_c, rE_e, rOr_s, rOr_n, rlk_z, rlk_c, aR_c, aI_c, aII_c, aIII_c, aRI_c, aRII_c, aRIII_c, vJn, vJs, vlc, aRR_c, aRRI_c, aRRII_c, aRRIII_c, aRIIII_c, aRL_c, aRLL_c, aLL_c, aRRRI_c, aIL_c, aIIII_c, aRRIIII_c, aIRII_c, aIR_c, aLI_c, aRIR_c, aRIIR_c, hC.o0, hC.f0_0, hC.f0_1, hC.f0_2, hC.f0_3, hC.f0_4, hC.f0_5, hC.f0_6, hC.f0_7, hC.f0_8, hC.f0_9, hC.f0_10, hC.f0_11, hC.o1, hC.f1, hC.t2, hC.l2, hC.o3, hC.f3, hC.t4, hC.l4, hC.s5, hC.s12, hC.s19, hC.s112, hC.s119, hC.o26, hC.f26, hC.t27, hC.l27, hC.s28, hC.o126, hC.f126_0, hC.f126_1, hC.t127, hC.l127, hC.t128, hC.l128, hC.s129, hC.n157, hC.n161, hC.o165, hC.f165, hC.t166, hC.l166, hC.r167, hC.r171, hC.q5, hC.q12, hC.q19, hC.q112, hC.q119, hC.a2, hC.a4, hC.a27, hC.a127, hC.a128, hC, apHas, spSide, hk, s0, s1, Int.not_le.mpr s1, Int.not_lt.mpr s0, f0, f1, Int.not_le.mpr f1, Int.not_lt.mpr f0, hpAims, hpFewest, hL1, ok_up, nS_up, vw_up, up_ap]
    refine ⟨Or.inr ⟨⟨s0, s1⟩, f0, f1⟩, hR.2.2, hR.1, F, hRu, fun σ2 h2 h3 => ?_⟩
    have hlen := fewV_len (s := s) (f := f) (k := σ 0 14) (F := F) (n := nS σ 5) (V := vwS σ 5) 4 0
    have fin := ov_fin (O := fewV s f (σ 0 14) F (nS σ 5) (vwS σ 5) 4 0) hC (fun m L hO => by have := hlen m L hO; omega) q1 ⟨by rw [up_ne (by omega), up_ne (by omega), up_ne (by omega), up_ne (by omega)], by rw [up_ne (by omega), up_ne (by omega), up_ne (by omega), up_ne (by omega)]⟩ h2 h3 h
    generalize fewV s f (σ 0 14) F (nS σ 5) (vwS σ 5) 4 0 = O at fin ⊢
    cases O with
    | none =>
      have K := fin (fun m L hO => by cases hO)
      show vcl _ _ _ _ _ _ _ _ _ _ _
      simp [sg_111_20_3, sg_111_20_2, sg_111_20_1, hN _, x_iconst, x_ldc2_w, x_aconst_null, x_iload, x_lload, x_aload, x_istore, x_lstore, x_astore, x_iinc, x_iadd, x_isub, x_imul, x_idiv, x_irem, x_iand, x_ior, x_ixor, x_ishl, x_ishr, x_iushr, x_ineg, x_ladd, x_lsub, x_lmul, x_ldiv, x_lrem, x_lcmp, x_i2l, x_i2b, x_i2s, x_i2c, x_dup, x_pop, x_dup_x1, x_dup2, x_getfield, x_putfield, x_iaload, x_baload, x_saload, x_caload, x_daload, x_faload, x_laload, x_aaload, x_iastore, x_bastore, x_sastore, x_castore, x_lastore, x_aastore, x_arraylength, x_getstatic, x_goto, x_goto_w, x_ifCond, x_if_icmp, x_ifnull, x_ifnonnull, x_lookupswitch, x_invokevirtual, x_invokestatic, x_invokedynamic, x_ireturn, x_freturn, x_dreturn, x_lreturn, x_areturn, x_return_, pI_c, pL_c, pR_c, pV_i, pV_r, gI_c, gL_c, gR_c, pN_z, pN_s, lget_c, lins_z, lins_c, ldel_z, ldel_c, ldel2_z, ldel2_c, lset_i, lset_l, lset_r, lkeep_z, lkeep_c, largs_z, largs_c, cat_i, cat_l, cat_r, lkp_c, cnd_eq, cnd_ne, cnd_lt, cnd_ge, cnd_gt, cnd_le, swL_z, swL_c, rE_e, rOr_s, rOr_n, rlk_z, rlk_c, aR_c, aI_c, aII_c, aIII_c, aRI_c, aRII_c, aRIII_c, vJn, vJs, vlc, aRR_c, aRRI_c, aRRII_c, aRRIII_c, aRIIII_c, aRL_c, aRLL_c, aLL_c, aRRRI_c, aIL_c, aIIII_c, aRRIIII_c, aIRII_c, aIR_c, aLI_c, aRIR_c, aRIIR_c, hC.o0, hC.f0_0, hC.f0_1, hC.f0_2, hC.f0_3, hC.f0_4, hC.f0_5, hC.f0_6, hC.f0_7, hC.f0_8, hC.f0_9, hC.f0_10, hC.f0_11, hC.o1, hC.f1, hC.t2, hC.l2, hC.o3, hC.f3, hC.t4, hC.l4, hC.s5, hC.s12, hC.s19, hC.s112, hC.s119, hC.o26, hC.f26, hC.t27, hC.l27, hC.s28, hC.o126, hC.f126_0, hC.f126_1, hC.t127, hC.l127, hC.t128, hC.l128, hC.s129, hC.n157, hC.n161, hC.o165, hC.f165, hC.t166, hC.l166, hC.r167, hC.r171, hC.q5, hC.q12, hC.q19, hC.q112, hC.q119, hC.a2, hC.a4, hC.a27, hC.a127, hC.a128, hC]
      exact fpT_ret K
    | some p =>
      obtain ⟨m, L⟩ := p
      intro hSt
      have K := fin (fun m L hO => by cases hO; exact hSt)
      show vcl _ _ _ _ _ _ _ _ _ _ _
      simp [sg_111_20_3, sg_111_20_2, sg_111_20_1, hN _, x_iconst, x_ldc2_w, x_aconst_null, x_iload, x_lload, x_aload, x_istore, x_lstore, x_astore, x_iinc, x_iadd, x_isub, x_imul, x_idiv, x_irem, x_iand, x_ior, x_ixor, x_ishl, x_ishr, x_iushr, x_ineg, x_ladd, x_lsub, x_lmul, x_ldiv, x_lrem, x_lcmp, x_i2l, x_i2b, x_i2s, x_i2c, x_dup, x_pop, x_dup_x1, x_dup2, x_getfield, x_putfield, x_iaload, x_baload, x_saload, x_caload, x_daload, x_faload, x_laload, x_aaload, x_iastore, x_bastore, x_sastore, x_castore, x_lastore, x_aastore, x_arraylength, x_getstatic, x_goto, x_goto_w, x_ifCond, x_if_icmp, x_ifnull, x_ifnonnull, x_lookupswitch, x_invokevirtual, x_invokestatic, x_invokedynamic, x_ireturn, x_freturn, x_dreturn, x_lreturn, x_areturn, x_return_, pI_c, pL_c, pR_c, pV_i, pV_r, gI_c, gL_c, gR_c, pN_z, pN_s, lget_c, lins_z, lins_c, ldel_z, ldel_c, ldel2_z, ldel2_c, lset_i, lset_l, lset_r, lkeep_z, lkeep_c, largs_z, largs_c, cat_i, cat_l, cat_r, lkp_c, cnd_eq, cnd_ne, cnd_lt, cnd_ge, cnd_gt, cnd_le, swL_z, swL_c, rE_e, rOr_s, rOr_n, rlk_z, rlk_c, aR_c, aI_c, aII_c, aIII_c, aRI_c, aRII_c, aRIII_c, vJn, vJs, vlc, aRR_c, aRRI_c, aRRII_c, aRRIII_c, aRIIII_c, aRL_c, aRLL_c, aLL_c, aRRRI_c, aIL_c, aIIII_c, aRRIIII_c, aIRII_c, aIR_c, aLI_c, aRIR_c, aRIIR_c, hC.o0, hC.f0_0, hC.f0_1, hC.f0_2, hC.f0_3, hC.f0_4, hC.f0_5, hC.f0_6, hC.f0_7, hC.f0_8, hC.f0_9, hC.f0_10, hC.f0_11, hC.o1, hC.f1, hC.t2, hC.l2, hC.o3, hC.f3, hC.t4, hC.l4, hC.s5, hC.s12, hC.s19, hC.s112, hC.s119, hC.o26, hC.f26, hC.t27, hC.l27, hC.s28, hC.o126, hC.f126_0, hC.f126_1, hC.t127, hC.l127, hC.t128, hC.l128, hC.s129, hC.n157, hC.n161, hC.o165, hC.f165, hC.t166, hC.l166, hC.r167, hC.r171, hC.q5, hC.q12, hC.q19, hC.q112, hC.q119, hC.a2, hC.a4, hC.a27, hC.a127, hC.a128, hC]
      exact fpT_ret K
  · rw [if_neg hs] at h
    have h := h σ QTo.rf
    refine wg (by decide) rgOvr_ok tk_111 py_111 ml_111 30 (by simp [catT]) (fun N hN => ?_)
    simp [bl_111, hN _, x_iconst, x_ldc2_w, x_aconst_null, x_iload, x_lload, x_aload, x_istore, x_lstore, x_astore, x_iinc, x_iadd, x_isub, x_imul, x_idiv, x_irem, x_iand, x_ior, x_ixor, x_ishl, x_ishr, x_iushr, x_ineg, x_ladd, x_lsub, x_lmul, x_ldiv, x_lrem, x_lcmp, x_i2l, x_i2b, x_i2s, x_i2c, x_dup, x_pop, x_dup_x1, x_dup2, x_getfield, x_putfield, x_iaload, x_baload, x_saload, x_caload, x_daload, x_faload, x_laload, x_aaload, x_iastore, x_bastore, x_sastore, x_castore, x_lastore, x_aastore, x_arraylength, x_getstatic, x_goto, x_goto_w, x_ifCond, x_if_icmp, x_ifnull, x_ifnonnull, x_lookupswitch, x_invokevirtual, x_invokestatic, x_invokedynamic, x_ireturn, x_freturn, x_dreturn, x_lreturn, x_areturn, x_return_, pI_c, pL_c, pR_c, pV_i, pV_r, gI_c, gL_c, gR_c, pN_z, pN_s, lget_c, lins_z, lins_c, ldel_z, ldel_c, ldel2_z, ldel2_c, lset_i, lset_l, lset_r, lkeep_z, lkeep_c, largs_z, largs_c, cat_i, cat_l, cat_r, lkp_c, cnd_eq, cnd_ne, cnd_lt, cnd_ge, cnd_gt, cnd_le, swL_z, swL_c, rE_e, rOr_s, rOr_n, rlk_z, rlk_c, aR_c, aI_c, aII_c, aIII_c, aRI_c, aRII_c, aRIII_c, vJn, vJs, vlc, aRR_c, aRRI_c, aRRII_c, aRRIII_c, aRIIII_c, aRL_c, aRLL_c, aLL_c, aRRRI_c, aIL_c, aIIII_c, aRRIIII_c, aIRII_c, aIR_c, aLI_c, aRIR_c, aRIIR_c, hC.o0, hC.f0_0, hC.f0_1, hC.f0_2, hC.f0_3, hC.f0_4, hC.f0_5, hC.f0_6, hC.f0_7, hC.f0_8, hC.f0_9, hC.f0_10, hC.f0_11, hC.o1, hC.f1, hC.t2, hC.l2, hC.o3, hC.f3, hC.t4, hC.l4, hC.s5, hC.s12, hC.s19, hC.s112, hC.s119, hC.o26, hC.f26, hC.t27, hC.l27, hC.s28, hC.o126, hC.f126_0, hC.f126_1, hC.t127, hC.l127, hC.t128, hC.l128, hC.s129, hC.n157, hC.n161, hC.o165, hC.f165, hC.t166, hC.l166, hC.r167, hC.r171, hC.q5, hC.q12, hC.q19, hC.q112, hC.q119, hC.a2, hC.a4, hC.a27, hC.a127, hC.a128, hC, apHas, spSide, hk]
    grind
theorem o_peace {l : Launch} {g : GE} {d : Nat} {t : Tau} {σ : Mem} {Q : Post} {F : (Int → Int) → Int} (hC : TC t) (hk : SeaOk t σ 5) (hL : LvOk σ) (hR : RC t σ F) (h : ansC (ftP (fewV (-1) (-1) (σ 0 14) F (nS σ 5) (vwS σ 5) 4 0)) t σ Q) : WPc l g 112 (d + 13) 0 0 [vR 0] t σ Q := by
  have q1 : QFr σ (up (up (up (up σ 126 2 (σ 0 12)) 126 3 (σ 0 14)) 126 4 (-1)) 126 5 (-1)) := (((QFr.rf.up (by unfold scr; omega)).up (by unfold scr; omega)).up (by unfold scr; omega)).up (by unfold scr; omega)
  have hL1 : LvOk (up (up (up (up σ 126 2 (σ 0 12)) 126 3 (σ 0 14)) 126 4 (-1)) 126 5 (-1)) := fun k a b => by rw [up_ne (by omega), up_ne (by omega), up_ne (by omega), up_ne (by omega)]; exact hL k a b
  have hRu : RuleIs t (up (up (up (up σ 126 2 (σ 0 12)) 126 3 (σ 0 14)) 126 4 (-1)) 126 5 (-1)) (σ 0 12) F := (hR.ap (a := 5) q1 (by omega)).1
  refine wg (by decide) rgOvr_ok ts_112 py_112 ml_112 30 (by simp [catT]) (fun N hN => ?_)
  simp [bs_112, sg_112_0_1, hN _, x_iconst, x_ldc2_w, x_aconst_null, x_iload, x_lload, x_aload, x_istore, x_lstore, x_astore, x_iinc, x_iadd, x_isub, x_imul, x_idiv, x_irem, x_iand, x_ior, x_ixor, x_ishl, x_ishr, x_iushr, x_ineg, x_ladd, x_lsub, x_lmul, x_ldiv, x_lrem, x_lcmp, x_i2l, x_i2b, x_i2s, x_i2c, x_dup, x_pop, x_dup_x1, x_dup2, x_getfield, x_putfield, x_iaload, x_baload, x_saload, x_caload, x_daload, x_faload, x_laload, x_aaload, x_iastore, x_bastore, x_sastore, x_castore, x_lastore, x_aastore, x_arraylength, x_getstatic, x_goto, x_goto_w, x_ifCond, x_if_icmp, x_ifnull, x_ifnonnull, x_lookupswitch, x_invokevirtual, x_invokestatic, x_invokedynamic, x_ireturn, x_freturn, x_dreturn, x_lreturn, x_areturn, x_return_, pI_c, pL_c, pR_c, pV_i, pV_r, gI_c, gL_c, gR_c, pN_z, pN_s, lget_c, lins_z, lins_c, ldel_z, ldel_c, ldel2_z, ldel2_c, lset_i, lset_l, lset_r, lkeep_z, lkeep_c, largs_z, largs_c, cat_i, cat_l, cat_r, lkp_c, cnd_eq, cnd_ne, cnd_lt, cnd_ge, cnd_gt, cnd_le, swL_z, swL_c, rE_e, rOr_s, rOr_n, rlk_z, rlk_c, aR_c, aI_c, aII_c, aIII_c, aRI_c, aRII_c, aRIII_c, vJn, vJs, vlc, aRR_c, aRRI_c, aRRII_c, aRRIII_c, aRIIII_c, aRL_c, aRLL_c, aLL_c, aRRRI_c, aIL_c, aIIII_c, aRRIIII_c, aIRII_c, aIR_c, aLI_c, aRIR_c, aRIIR_c, hC.o0, hC.f0_0, hC.f0_1, hC.f0_2, hC.f0_3, hC.f0_4, hC.f0_5, hC.f0_6, hC.f0_7, hC.f0_8, hC.f0_9, hC.f0_10, hC.f0_11, hC.o1, hC.f1, hC.t2, hC.l2, hC.o3, hC.f3, hC.t4, hC.l4, hC.s5, hC.s12, hC.s19, hC.s112, hC.s119, hC.o26, hC.f26, hC.t27, hC.l27, hC.s28, hC.o126, hC.f126_0, hC.f126_1, hC.t127, hC.l127, hC.t128, hC.l128, hC.s129, hC.n157, hC.n161, hC.o165, hC.f165, hC.t166, hC.l166, hC.r167, hC.r171, hC.q5, hC.q12, hC.q19, hC.q112, hC.q119, hC.a2, hC.a4, hC.a27, hC.a127, hC.a128, hC, hk, hpAims, hpFewest, hL1, ok_up, nS_up, vw_up, up_ap]
  refine ⟨Or.inl rfl, hR.2.2, hR.1, F, hRu, fun σ2 h2 h3 => ?_⟩
  have hlen := fewV_len (s := -1) (f := -1) (k := σ 0 14) (F := F) (n := nS σ 5) (V := vwS σ 5) 4 0
  have fin := ov_fin (O := fewV (-1) (-1) (σ 0 14) F (nS σ 5) (vwS σ 5) 4 0) hC (fun m L hO => by have := hlen m L hO; omega) q1 ⟨by rw [up_ne (by omega), up_ne (by omega), up_ne (by omega), up_ne (by omega)], by rw [up_ne (by omega), up_ne (by omega), up_ne (by omega), up_ne (by omega)]⟩ h2 h3 h
  generalize fewV (-1) (-1) (σ 0 14) F (nS σ 5) (vwS σ 5) 4 0 = O at fin ⊢
  cases O with
  | none =>
    have K := fin (fun m L hO => by cases hO)
    show vcl _ _ _ _ _ _ _ _ _ _ _
    simp [sg_112_0_3, sg_112_0_2, sg_112_0_1, hN _, x_iconst, x_ldc2_w, x_aconst_null, x_iload, x_lload, x_aload, x_istore, x_lstore, x_astore, x_iinc, x_iadd, x_isub, x_imul, x_idiv, x_irem, x_iand, x_ior, x_ixor, x_ishl, x_ishr, x_iushr, x_ineg, x_ladd, x_lsub, x_lmul, x_ldiv, x_lrem, x_lcmp, x_i2l, x_i2b, x_i2s, x_i2c, x_dup, x_pop, x_dup_x1, x_dup2, x_getfield, x_putfield, x_iaload, x_baload, x_saload, x_caload, x_daload, x_faload, x_laload, x_aaload, x_iastore, x_bastore, x_sastore, x_castore, x_lastore, x_aastore, x_arraylength, x_getstatic, x_goto, x_goto_w, x_ifCond, x_if_icmp, x_ifnull, x_ifnonnull, x_lookupswitch, x_invokevirtual, x_invokestatic, x_invokedynamic, x_ireturn, x_freturn, x_dreturn, x_lreturn, x_areturn, x_return_, pI_c, pL_c, pR_c, pV_i, pV_r, gI_c, gL_c, gR_c, pN_z, pN_s, lget_c, lins_z, lins_c, ldel_z, ldel_c, ldel2_z, ldel2_c, lset_i, lset_l, lset_r, lkeep_z, lkeep_c, largs_z, largs_c, cat_i, cat_l, cat_r, lkp_c, cnd_eq, cnd_ne, cnd_lt, cnd_ge, cnd_gt, cnd_le, swL_z, swL_c, rE_e, rOr_s, rOr_n, rlk_z, rlk_c, aR_c, aI_c, aII_c, aIII_c, aRI_c, aRII_c, aRIII_c, vJn, vJs, vlc, aRR_c, aRRI_c, aRRII_c, aRRIII_c, aRIIII_c, aRL_c, aRLL_c, aLL_c, aRRRI_c, aIL_c, aIIII_c, aRRIIII_c, aIRII_c, aIR_c, aLI_c, aRIR_c, aRIIR_c, hC.o0, hC.f0_0, hC.f0_1, hC.f0_2, hC.f0_3, hC.f0_4, hC.f0_5, hC.f0_6, hC.f0_7, hC.f0_8, hC.f0_9, hC.f0_10, hC.f0_11, hC.o1, hC.f1, hC.t2, hC.l2, hC.o3, hC.f3, hC.t4, hC.l4, hC.s5, hC.s12, hC.s19, hC.s112, hC.s119, hC.o26, hC.f26, hC.t27, hC.l27, hC.s28, hC.o126, hC.f126_0, hC.f126_1, hC.t127, hC.l127, hC.t128, hC.l128, hC.s129, hC.n157, hC.n161, hC.o165, hC.f165, hC.t166, hC.l166, hC.r167, hC.r171, hC.q5, hC.q12, hC.q19, hC.q112, hC.q119, hC.a2, hC.a4, hC.a27, hC.a127, hC.a128, hC]
    exact fpT_ret K
  | some p =>
    obtain ⟨m, L⟩ := p
    intro hSt
    have K := fin (fun m L hO => by cases hO; exact hSt)
    show vcl _ _ _ _ _ _ _ _ _ _ _
    simp [sg_112_0_3, sg_112_0_2, sg_112_0_1, hN _, x_iconst, x_ldc2_w, x_aconst_null, x_iload, x_lload, x_aload, x_istore, x_lstore, x_astore, x_iinc, x_iadd, x_isub, x_imul, x_idiv, x_irem, x_iand, x_ior, x_ixor, x_ishl, x_ishr, x_iushr, x_ineg, x_ladd, x_lsub, x_lmul, x_ldiv, x_lrem, x_lcmp, x_i2l, x_i2b, x_i2s, x_i2c, x_dup, x_pop, x_dup_x1, x_dup2, x_getfield, x_putfield, x_iaload, x_baload, x_saload, x_caload, x_daload, x_faload, x_laload, x_aaload, x_iastore, x_bastore, x_sastore, x_castore, x_lastore, x_aastore, x_arraylength, x_getstatic, x_goto, x_goto_w, x_ifCond, x_if_icmp, x_ifnull, x_ifnonnull, x_lookupswitch, x_invokevirtual, x_invokestatic, x_invokedynamic, x_ireturn, x_freturn, x_dreturn, x_lreturn, x_areturn, x_return_, pI_c, pL_c, pR_c, pV_i, pV_r, gI_c, gL_c, gR_c, pN_z, pN_s, lget_c, lins_z, lins_c, ldel_z, ldel_c, ldel2_z, ldel2_c, lset_i, lset_l, lset_r, lkeep_z, lkeep_c, largs_z, largs_c, cat_i, cat_l, cat_r, lkp_c, cnd_eq, cnd_ne, cnd_lt, cnd_ge, cnd_gt, cnd_le, swL_z, swL_c, rE_e, rOr_s, rOr_n, rlk_z, rlk_c, aR_c, aI_c, aII_c, aIII_c, aRI_c, aRII_c, aRIII_c, vJn, vJs, vlc, aRR_c, aRRI_c, aRRII_c, aRRIII_c, aRIIII_c, aRL_c, aRLL_c, aLL_c, aRRRI_c, aIL_c, aIIII_c, aRRIIII_c, aIRII_c, aIR_c, aLI_c, aRIR_c, aRIIR_c, hC.o0, hC.f0_0, hC.f0_1, hC.f0_2, hC.f0_3, hC.f0_4, hC.f0_5, hC.f0_6, hC.f0_7, hC.f0_8, hC.f0_9, hC.f0_10, hC.f0_11, hC.o1, hC.f1, hC.t2, hC.l2, hC.o3, hC.f3, hC.t4, hC.l4, hC.s5, hC.s12, hC.s19, hC.s112, hC.s119, hC.o26, hC.f26, hC.t27, hC.l27, hC.s28, hC.o126, hC.f126_0, hC.f126_1, hC.t127, hC.l127, hC.t128, hC.l128, hC.s129, hC.n157, hC.n161, hC.o165, hC.f165, hC.t166, hC.l166, hC.r167, hC.r171, hC.q5, hC.q12, hC.q19, hC.q112, hC.q119, hC.a2, hC.a4, hC.a27, hC.a127, hC.a128, hC]
    exact fpT_ret K
