/-! the reference: campaigns -/
theorem wf_49 {n : Nat} {M V : Int → Int} (h : WFV n M V) {x : Int} (hx : 0 ≤ x ∧ x ≤ 9999) : WFV n M (upv V 49 x) := by
  obtain ⟨q0, q1, q2, q3, q4⟩ := h
  have e : ∀ j, j ≠ 49 → upv V 49 x j = V j := fun j hj => upv_n hj
  refine ⟨q0, fun j j0 j1 => ?_, by rw [upv_s]; exact hx, by rw [e 48 (by omega)]; exact q3, fun j hj => by rw [e j (by omega)]; exact q4 j hj⟩
  obtain ⟨s0, a, pj, st, w, lo⟩ := q1 j j0 j1
  have ep : ∀ s, 0 ≤ s → s < 4 → partV (upv V 49 x) j s = partV V j s := fun s z0 z1 => e _ (by omega)
  have e6 : upv V 49 x (6 + j) = V (6 + j) := e _ (by omega)
  refine ⟨by rw [e j (by omega)]; exact s0, by rw [e6]; exact a, ?_, fun s z0 z1 => ?_, by rw [e _ (by omega)]; exact w, by rw [e _ (by omega)]; exact lo⟩
  · rw [ep 0 (by omega) (by omega), ep 1 (by omega) (by omega), ep 2 (by omega) (by omega), ep 3 (by omega) (by omega)]; exact pj
  · show partV _ j s ≤ partV (upv V 49 x) j (upv V 49 x (6 + j))
    rw [e6, ep s z0 z1, ep _ a.1 a.2]; exact st s z0 z1
theorem wf_roundJ {F : (Int → Int) → Int} {n : Nat} {M V : Int → Int} {k : Int} {i : Nat} {c : Int → Int} (h : WFV n M V) (hk : 1 ≤ k ∧ k ≤ 6) (hc : WFV n M c) : ∀ r j, WFV n M (roundJ F n k V i c r j)
  | 0, _ => hc
  | r + 1, j => by
    unfold roundJ
    split
    · exact wf_roundJ h hk hc r (j + 1)
    · exact wf_fgtV h hk
theorem wf_roundI {F : (Int → Int) → Int} {n : Nat} {M V : Int → Int} {k : Int} (h : WFV n M V) (hk : 1 ≤ k ∧ k ≤ 6) : ∀ r i, WFV n M (roundI F n k V r i)
  | 0, _ => h
  | r + 1, i => wf_roundJ h hk (wf_roundI h hk r (i + 1)) r (i + 1)
theorem wf_round {F : (Int → Int) → Int} {n : Nat} {M V : Int → Int} {k : Int} (h : WFV n M V) (hk : 1 ≤ k ∧ k ≤ 6) : WFV n M (roundV F n k V) := wf_roundI h hk n 0
theorem wf_camp {F : (Int → Int) → Int} {n : Nat} {M V : Int → Int} {k : Int} (h : WFV n M V) (hk : 1 ≤ k ∧ k ≤ 6) : ∀ r, WFV n M (campV F n M k V r)
  | 0 => h
  | r + 1 => wf_day (wf_round (wf_camp h hk r) hk)
noncomputable def campMQ (F : (Int → Int) → Int) (n : Nat) (M : Int → Int) (k : Int) (V : Int → Int) (m : Int) : QA := if 0 ≤ m ∧ m ≤ 40 then (campV F n M k (upv V 49 0) m.toNat 49, some (rowN (fun i => campV F n M k (upv V 49 0) m.toNat (6 + i)) n)) else (-1, none)
abbrev rgRd : Reg := (245, mpRnd) :: rgMw
theorem rgRd_ok {l : Launch} {g : GE} {d : Nat} : ∀ e as t σ Q, rE l g (d + 93) rgRd e as t σ Q → WPc l g e (d + 93) 0 0 as t σ Q := rE_cons (fun _ _ _ _ h => m_goRound h) (rgMw_ok (d := d + 1))
set_option maxHeartbeats 1000000 in
theorem mo_campaign {l : Launch} {g : GE} {d : Nat} {t : Tau} {σ : Mem} {Q : Post} {m : Int} {F : (Int → Int) → Int} (hk : MK t σ) (hR : MR t σ F) (hT : 1 ≤ σ 175 2 ∧ σ 175 2 ≤ 6) (h : ansM (campMQ F (nM σ) (mM σ) (σ 175 2) (vA σ 176) m) t σ Q) : WPc l g 246 (d + 94) 0 0 [vR 175, vI m] t σ Q := by
  obtain ⟨hM, hW⟩ := hk
  have n6 := hM.2.2
  have z0 := hM.2.1
  unfold ansM campMQ at h
  by_cases hs : 0 ≤ m ∧ m ≤ 40
  · rw [if_pos hs] at h
    obtain ⟨m0, m1⟩ := hs
    have hW0 := wf_49 hW (x := 0) (by omega)
    generalize hV0 : upv (vA σ 176) 49 0 = V0 at h hW0
    have L : ∀ W, W = campV F (nM σ) (mM σ) (σ 175 2) V0 m.toNat → ∀ σ', (QFM σ σ' ∧ σ' 175 8 = 0 ∧ vA σ' 186 = W) → rmIs σ' (rowN (fun i => W (6 + i)) 0) → Wp l g 246 (d + 94) 0 0 73 [(0, vR 175), (2, vI (0 : Nat))] [] t σ' Q := by
      intro W hWe
      rw [← hWe] at h
      refine lpU (P := fun i => ∀ σ', (QFM σ σ' ∧ σ' 175 8 = 0 ∧ vA σ' 186 = W) → rmIs σ' (rowN (fun i => W (6 + i)) i) → Wp l g 246 (d + 94) 0 0 73 [(0, vR 175), (2, vI i)] [] t σ' Q) (n := nM σ) ?_ (fun i hi K σ' hσ hr => ?_)
      · rintro σ' ⟨h1, h2, h3⟩ hr
        have z1 : σ' 175 1 = nM σ := by rw [h1.2 1 (by unfold scrF; omega), z0]
        have x1 : σ' 186 49 = W 49 := by rw [vA_at (σ := σ') (r := 186) (by omega) (by omega), h3]
        refine wa (by decide) rgRd_ok tk_246 30 (fun N hN => ?_)
        simp [bl_246, hN _, x_iconst, x_ldc2_w, x_aconst_null, x_iload, x_lload, x_aload, x_istore, x_lstore, x_astore, x_iinc, x_iadd, x_isub, x_imul, x_idiv, x_irem, x_iand, x_ior, x_ixor, x_ishl, x_ishr, x_iushr, x_ineg, x_ladd, x_lsub, x_lmul, x_ldiv, x_lrem, x_lcmp, x_i2l, x_i2b, x_i2s, x_i2c, x_dup, x_pop, x_dup_x1, x_dup2, x_getfield, x_putfield, x_iaload, x_baload, x_saload, x_caload, x_daload, x_faload, x_laload, x_aaload, x_iastore, x_bastore, x_sastore, x_castore, x_lastore, x_aastore, x_arraylength, x_getstatic, x_goto, x_goto_w, x_ifCond, x_if_icmp, x_ifnull, x_ifnonnull, x_lookupswitch, x_invokevirtual, x_invokestatic, x_invokedynamic, x_ireturn, x_freturn, x_dreturn, x_lreturn, x_areturn, x_return_, pI_c, pL_c, pR_c, pV_i, pV_r, gI_c, gL_c, gR_c, pN_z, pN_s, lget_c, lins_z, lins_c, ldel_z, ldel_c, ldel2_z, ldel2_c, lset_i, lset_l, lset_r, lkeep_z, lkeep_c, largs_z, largs_c, cat_i, cat_l, cat_r, lkp_c, cnd_eq, cnd_ne, cnd_lt, cnd_ge, cnd_gt, cnd_le, swL_z, swL_c, rE_e, rOr_s, rOr_n, rlk_z, rlk_c, aR_c, aI_c, aII_c, aIII_c, aRI_c, aRII_c, aRIII_c, vJn, vJs, vlc, aRR_c, aRRI_c, aRRII_c, aRRIII_c, aRIIII_c, aRL_c, aRLL_c, aLL_c, aRRRI_c, aIL_c, aIIII_c, aRRIIII_c, aIRII_c, aIR_c, aLI_c, aRIR_c, aRIIR_c, hM.1.o, hM.1.f23, hM.1.t186, hM.1.l186, z1, x1]
        exact h σ' ⟨h1, h2, hr⟩
      · obtain ⟨h1, h2, h3⟩ := hσ
        have e2 := w32_succ (k := i) (by omega); have i1 : ((i : Nat) : Int) < (nM σ : Nat) := (by omega); have i1n : i < nM σ := (by omega); have i1x : ¬ nM σ ≤ i := (by omega)
        have z1 : σ' 175 1 = nM σ := by rw [h1.2 1 (by unfold scrF; omega), z0]
        have e3 : w32 (6 + (i : Int)) = 6 + i := w32_id (by omega) (by omega)
        have e4 : (0 : Int) ≤ 6 + i := by omega
        have e5 : 6 + (i : Int) < 50 := by omega
        have x1 : σ' 186 (6 + i) = W (6 + i) := by rw [vA_at (σ := σ') (r := 186) e4 e5, h3]
        have hl := rowN_l (fun i => W (6 + i)) i
        have a1 : σ' 175 7 = i := by rw [hr.1, hl]
        have K := K (up (up σ' 179 (σ' 175 7) (W (6 + i))) 175 7 (σ' 175 7 + 1)) ⟨(h1.up s179).up sf7, by simp [up_ap, h2], by rw [vA_up (by omega), vA_up (by omega)]; exact h3⟩ (hr.add (by omega))
        rw [a1] at K
        refine wa (by decide) rgRd_ok tk_246 30 (fun N hN => ?_)
        simp [bl_246, hN _, x_iconst, x_ldc2_w, x_aconst_null, x_iload, x_lload, x_aload, x_istore, x_lstore, x_astore, x_iinc, x_iadd, x_isub, x_imul, x_idiv, x_irem, x_iand, x_ior, x_ixor, x_ishl, x_ishr, x_iushr, x_ineg, x_ladd, x_lsub, x_lmul, x_ldiv, x_lrem, x_lcmp, x_i2l, x_i2b, x_i2s, x_i2c, x_dup, x_pop, x_dup_x1, x_dup2, x_getfield, x_putfield, x_iaload, x_baload, x_saload, x_caload, x_daload, x_faload, x_laload, x_aaload, x_iastore, x_bastore, x_sastore, x_castore, x_lastore, x_aastore, x_arraylength, x_getstatic, x_goto, x_goto_w, x_ifCond, x_if_icmp, x_ifnull, x_ifnonnull, x_lookupswitch, x_invokevirtual, x_invokestatic, x_invokedynamic, x_ireturn, x_freturn, x_dreturn, x_lreturn, x_areturn, x_return_, pI_c, pL_c, pR_c, pV_i, pV_r, gI_c, gL_c, gR_c, pN_z, pN_s, lget_c, lins_z, lins_c, ldel_z, ldel_c, ldel2_z, ldel2_c, lset_i, lset_l, lset_r, lkeep_z, lkeep_c, largs_z, largs_c, cat_i, cat_l, cat_r, lkp_c, cnd_eq, cnd_ne, cnd_lt, cnd_ge, cnd_gt, cnd_le, swL_z, swL_c, rE_e, rOr_s, rOr_n, rlk_z, rlk_c, aR_c, aI_c, aII_c, aIII_c, aRI_c, aRII_c, aRIII_c, vJn, vJs, vlc, aRR_c, aRRI_c, aRRII_c, aRRIII_c, aRIIII_c, aRL_c, aRLL_c, aLL_c, aRRRI_c, aIL_c, aIIII_c, aRRIIII_c, aIRII_c, aIR_c, aLI_c, aRIR_c, aRIIR_c, hM.1.o, hM.1, hM.1.f23, hM.1.t186, hM.1.l186, mpTell, z1, x1, e3, e4, e5, e2, i1, i1n, i1x, a1]
        exact ⟨by omega, K⟩
    have K : ∀ (r i : Nat) (σ' : Mem), i + r = m.toNat → (QFM σ σ' ∧ σ' 175 8 = 0 ∧ vA σ' 186 = campV F (nM σ) (mM σ) (σ 175 2) V0 i) → Wp l g 246 (d + 94) 0 0 39 [(0, vR 175), (1, vI m), (2, vI i)] [] t σ' Q := by
      intro r
      induction r with
      | zero =>
        rintro i σ' hi ⟨h1, h2, h3⟩
        have e1 : (i : Int) = m := by omega
        have hi' : i = m.toNat := by omega
        rw [hi'] at h3
        have K := L _ rfl (up σ' 175 7 0) ⟨h1.up sf7, by simp [up_ap, h2], by rw [vA_up (by omega)]; exact h3⟩ rmIs.nil
        refine wa (by decide) rgRd_ok tk_246 30 (fun N hN => ?_)
        simp [bl_246, hN _, x_iconst, x_ldc2_w, x_aconst_null, x_iload, x_lload, x_aload, x_istore, x_lstore, x_astore, x_iinc, x_iadd, x_isub, x_imul, x_idiv, x_irem, x_iand, x_ior, x_ixor, x_ishl, x_ishr, x_iushr, x_ineg, x_ladd, x_lsub, x_lmul, x_ldiv, x_lrem, x_lcmp, x_i2l, x_i2b, x_i2s, x_i2c, x_dup, x_pop, x_dup_x1, x_dup2, x_getfield, x_putfield, x_iaload, x_baload, x_saload, x_caload, x_daload, x_faload, x_laload, x_aaload, x_iastore, x_bastore, x_sastore, x_castore, x_lastore, x_aastore, x_arraylength, x_getstatic, x_goto, x_goto_w, x_ifCond, x_if_icmp, x_ifnull, x_ifnonnull, x_lookupswitch, x_invokevirtual, x_invokestatic, x_invokedynamic, x_ireturn, x_freturn, x_dreturn, x_lreturn, x_areturn, x_return_, pI_c, pL_c, pR_c, pV_i, pV_r, gI_c, gL_c, gR_c, pN_z, pN_s, lget_c, lins_z, lins_c, ldel_z, ldel_c, ldel2_z, ldel2_c, lset_i, lset_l, lset_r, lkeep_z, lkeep_c, largs_z, largs_c, cat_i, cat_l, cat_r, lkp_c, cnd_eq, cnd_ne, cnd_lt, cnd_ge, cnd_gt, cnd_le, swL_z, swL_c, rE_e, rOr_s, rOr_n, rlk_z, rlk_c, aR_c, aI_c, aII_c, aIII_c, aRI_c, aRII_c, aRIII_c, vJn, vJs, vlc, aRR_c, aRRI_c, aRRII_c, aRRIII_c, aRIIII_c, aRL_c, aRLL_c, aLL_c, aRRRI_c, aIL_c, aIIII_c, aRRIIII_c, aIRII_c, aIR_c, aLI_c, aRIR_c, aRIIR_c, hM.1.o, e1]
        exact K
      | succ r ih =>
        rintro i σ' hi ⟨h1, h2, h3⟩
        have e1 : ¬ m ≤ (i : Int) := by omega
        have e2 := w32_succ (k := i) (by omega)
        have et : σ' 175 2 = σ 175 2 := h1.2 2 (by unfold scrF; omega)
        have hV := wf_camp (F := F) hW0 hT i
        generalize hC : campV F (nM σ) (mM σ) (σ 175 2) V0 i = C at h3 hV
        have hr6 : rwO 186 := by unfold rwO; omega
        refine wa (by decide) rgRd_ok ts_246 30 (fun N hN => ?_)
        simp [bs_246, hN _, x_iconst, x_ldc2_w, x_aconst_null, x_iload, x_lload, x_aload, x_istore, x_lstore, x_astore, x_iinc, x_iadd, x_isub, x_imul, x_idiv, x_irem, x_iand, x_ior, x_ixor, x_ishl, x_ishr, x_iushr, x_ineg, x_ladd, x_lsub, x_lmul, x_ldiv, x_lrem, x_lcmp, x_i2l, x_i2b, x_i2s, x_i2c, x_dup, x_pop, x_dup_x1, x_dup2, x_getfield, x_putfield, x_iaload, x_baload, x_saload, x_caload, x_daload, x_faload, x_laload, x_aaload, x_iastore, x_bastore, x_sastore, x_castore, x_lastore, x_aastore, x_arraylength, x_getstatic, x_goto, x_goto_w, x_ifCond, x_if_icmp, x_ifnull, x_ifnonnull, x_lookupswitch, x_invokevirtual, x_invokestatic, x_invokedynamic, x_ireturn, x_freturn, x_dreturn, x_lreturn, x_areturn, x_return_, pI_c, pL_c, pR_c, pV_i, pV_r, gI_c, gL_c, gR_c, pN_z, pN_s, lget_c, lins_z, lins_c, ldel_z, ldel_c, ldel2_z, ldel2_c, lset_i, lset_l, lset_r, lkeep_z, lkeep_c, largs_z, largs_c, cat_i, cat_l, cat_r, lkp_c, cnd_eq, cnd_ne, cnd_lt, cnd_ge, cnd_gt, cnd_le, swL_z, swL_c, rE_e, rOr_s, rOr_n, rlk_z, rlk_c, aR_c, aI_c, aII_c, aIII_c, aRI_c, aRII_c, aRIII_c, vJn, vJs, vlc, aRR_c, aRRI_c, aRRII_c, aRRIII_c, aRIIII_c, aRL_c, aRLL_c, aLL_c, aRRRI_c, aIL_c, aIIII_c, aRRIIII_c, aIRII_c, aIR_c, aLI_c, aRIR_c, aRIIR_c, hM.1.o, hM.1.f23, e1, mpRnd, hr6, h1.md hM, h1.n, h1.m, h3, hV, et, hT]
        refine fun _ => ⟨F, hR.cg h1.rs, fun σ2 G => ?_⟩
        have p2 := h1.tr (G.q sc186)
        have p8 : σ2 175 8 = 0 := by rw [G.1.2 8 (by omega) (by omega)]; exact h2
        have G2 := G.2
        have hA2 : ARow t σ2 186 := ⟨RowT.thn hM.1, by rw [p2.n, p2.m, G.2]; exact wf_round hV hT⟩
        simp [sg_246_39_1, hN _, x_iconst, x_ldc2_w, x_aconst_null, x_iload, x_lload, x_aload, x_istore, x_lstore, x_astore, x_iinc, x_iadd, x_isub, x_imul, x_idiv, x_irem, x_iand, x_ior, x_ixor, x_ishl, x_ishr, x_iushr, x_ineg, x_ladd, x_lsub, x_lmul, x_ldiv, x_lrem, x_lcmp, x_i2l, x_i2b, x_i2s, x_i2c, x_dup, x_pop, x_dup_x1, x_dup2, x_getfield, x_putfield, x_iaload, x_baload, x_saload, x_caload, x_daload, x_faload, x_laload, x_aaload, x_iastore, x_bastore, x_sastore, x_castore, x_lastore, x_aastore, x_arraylength, x_getstatic, x_goto, x_goto_w, x_ifCond, x_if_icmp, x_ifnull, x_ifnonnull, x_lookupswitch, x_invokevirtual, x_invokestatic, x_invokedynamic, x_ireturn, x_freturn, x_dreturn, x_lreturn, x_areturn, x_return_, pI_c, pL_c, pR_c, pV_i, pV_r, gI_c, gL_c, gR_c, pN_z, pN_s, lget_c, lins_z, lins_c, ldel_z, ldel_c, ldel2_z, ldel2_c, lset_i, lset_l, lset_r, lkeep_z, lkeep_c, largs_z, largs_c, cat_i, cat_l, cat_r, lkp_c, cnd_eq, cnd_ne, cnd_lt, cnd_ge, cnd_gt, cnd_le, swL_z, swL_c, rE_e, rOr_s, rOr_n, rlk_z, rlk_c, aR_c, aI_c, aII_c, aIII_c, aRI_c, aRII_c, aRIII_c, vJn, vJs, vlc, aRR_c, aRRI_c, aRRII_c, aRRIII_c, aRIIII_c, aRL_c, aRLL_c, aLL_c, aRRRI_c, aIL_c, aIIII_c, aRRIIII_c, aIRII_c, aIR_c, aLI_c, aRIR_c, aRIIR_c, hM.1.o, hM.1.f23, mpDay, p2.md hM, hA2, p2.n, p2.m, G2]
        intro σ3 T
        have K := ih (i + 1) σ3 (by omega) ⟨p2.tr (T.q sc186 (by omega)), by rw [T.1 175 (by omega)]; exact p8, by rw [T.2, ← hC]; rfl⟩
        simp [sg_246_39_2, hN _, x_iconst, x_ldc2_w, x_aconst_null, x_iload, x_lload, x_aload, x_istore, x_lstore, x_astore, x_iinc, x_iadd, x_isub, x_imul, x_idiv, x_irem, x_iand, x_ior, x_ixor, x_ishl, x_ishr, x_iushr, x_ineg, x_ladd, x_lsub, x_lmul, x_ldiv, x_lrem, x_lcmp, x_i2l, x_i2b, x_i2s, x_i2c, x_dup, x_pop, x_dup_x1, x_dup2, x_getfield, x_putfield, x_iaload, x_baload, x_saload, x_caload, x_daload, x_faload, x_laload, x_aaload, x_iastore, x_bastore, x_sastore, x_castore, x_lastore, x_aastore, x_arraylength, x_getstatic, x_goto, x_goto_w, x_ifCond, x_if_icmp, x_ifnull, x_ifnonnull, x_lookupswitch, x_invokevirtual, x_invokestatic, x_invokedynamic, x_ireturn, x_freturn, x_dreturn, x_lreturn, x_areturn, x_return_, pI_c, pL_c, pR_c, pV_i, pV_r, gI_c, gL_c, gR_c, pN_z, pN_s, lget_c, lins_z, lins_c, ldel_z, ldel_c, ldel2_z, ldel2_c, lset_i, lset_l, lset_r, lkeep_z, lkeep_c, largs_z, largs_c, cat_i, cat_l, cat_r, lkp_c, cnd_eq, cnd_ne, cnd_lt, cnd_ge, cnd_gt, cnd_le, swL_z, swL_c, rE_e, rOr_s, rOr_n, rlk_z, rlk_c, aR_c, aI_c, aII_c, aIII_c, aRI_c, aRII_c, aRIII_c, vJn, vJs, vlc, aRR_c, aRRI_c, aRRII_c, aRRIII_c, aRIIII_c, aRL_c, aRLL_c, aLL_c, aRRRI_c, aIL_c, aIIII_c, aRRIIII_c, aIRII_c, aIR_c, aLI_c, aRIR_c, aRIIR_c, e2]
        exact K
    refine wg (by decide) rgRd_ok ts_246 py_246 ml_246 30 (by simp [catT]) (fun N hN => ?_)
    simp [bs_246, hN _, x_iconst, x_ldc2_w, x_aconst_null, x_iload, x_lload, x_aload, x_istore, x_lstore, x_astore, x_iinc, x_iadd, x_isub, x_imul, x_idiv, x_irem, x_iand, x_ior, x_ixor, x_ishl, x_ishr, x_iushr, x_ineg, x_ladd, x_lsub, x_lmul, x_ldiv, x_lrem, x_lcmp, x_i2l, x_i2b, x_i2s, x_i2c, x_dup, x_pop, x_dup_x1, x_dup2, x_getfield, x_putfield, x_iaload, x_baload, x_saload, x_caload, x_daload, x_faload, x_laload, x_aaload, x_iastore, x_bastore, x_sastore, x_castore, x_lastore, x_aastore, x_arraylength, x_getstatic, x_goto, x_goto_w, x_ifCond, x_if_icmp, x_ifnull, x_ifnonnull, x_lookupswitch, x_invokevirtual, x_invokestatic, x_invokedynamic, x_ireturn, x_freturn, x_dreturn, x_lreturn, x_areturn, x_return_, pI_c, pL_c, pR_c, pV_i, pV_r, gI_c, gL_c, gR_c, pN_z, pN_s, lget_c, lins_z, lins_c, ldel_z, ldel_c, ldel2_z, ldel2_c, lset_i, lset_l, lset_r, lkeep_z, lkeep_c, largs_z, largs_c, cat_i, cat_l, cat_r, lkp_c, cnd_eq, cnd_ne, cnd_lt, cnd_ge, cnd_gt, cnd_le, swL_z, swL_c, rE_e, rOr_s, rOr_n, rlk_z, rlk_c, aR_c, aI_c, aII_c, aIII_c, aRI_c, aRII_c, aRIII_c, vJn, vJs, vlc, aRR_c, aRRI_c, aRRII_c, aRRIII_c, aRIIII_c, aRL_c, aRLL_c, aLL_c, aRRRI_c, aIL_c, aIIII_c, aRRIIII_c, aIRII_c, aIR_c, aLI_c, aRIR_c, aRIIR_c, hM.1.o, hM.1.f0, hM.1.f23, mpIn, mpLay, m0, m1, RowT.now hM.1, hM.1.t186, hM.1.l186]
    refine ⟨fun σ1 y1 y2 => ?_, fun z => by omega⟩
    have q1 : QFM σ σ1 := ⟨fun o a b => by rw [y1 o (fun z => b (by rw [z]; unfold scrM; omega)), up_ne a], fun j a => by rw [y1 175 (by omega), up_ap, if_neg (fun z => a (by rw [z.2]; unfold scrF; omega))]⟩
    have v1 : vA σ1 186 = vA σ 176 := lay_v (f := 176) (fun j => by rw [y2 j]; simp [up_ap])
    have T : RowTo σ1 (up σ1 186 49 0) 186 V0 := by
      have := (RowTo.rf (σ := σ1) (r := 186)).put (j := 49) (x := 0) (by omega) (by omega)
      rw [v1, hV0] at this
      exact this
    have K := K m.toNat 0 _ (by omega) ⟨q1.tr (T.q sc186 (by omega)), by rw [T.1 175 (by omega), y1 175 (by omega)]; simp [up_ap], T.2⟩
    simp [sg_246_17_1, hN _, x_iconst, x_ldc2_w, x_aconst_null, x_iload, x_lload, x_aload, x_istore, x_lstore, x_astore, x_iinc, x_iadd, x_isub, x_imul, x_idiv, x_irem, x_iand, x_ior, x_ixor, x_ishl, x_ishr, x_iushr, x_ineg, x_ladd, x_lsub, x_lmul, x_ldiv, x_lrem, x_lcmp, x_i2l, x_i2b, x_i2s, x_i2c, x_dup, x_pop, x_dup_x1, x_dup2, x_getfield, x_putfield, x_iaload, x_baload, x_saload, x_caload, x_daload, x_faload, x_laload, x_aaload, x_iastore, x_bastore, x_sastore, x_castore, x_lastore, x_aastore, x_arraylength, x_getstatic, x_goto, x_goto_w, x_ifCond, x_if_icmp, x_ifnull, x_ifnonnull, x_lookupswitch, x_invokevirtual, x_invokestatic, x_invokedynamic, x_ireturn, x_freturn, x_dreturn, x_lreturn, x_areturn, x_return_, pI_c, pL_c, pR_c, pV_i, pV_r, gI_c, gL_c, gR_c, pN_z, pN_s, lget_c, lins_z, lins_c, ldel_z, ldel_c, ldel2_z, ldel2_c, lset_i, lset_l, lset_r, lkeep_z, lkeep_c, largs_z, largs_c, cat_i, cat_l, cat_r, lkp_c, cnd_eq, cnd_ne, cnd_lt, cnd_ge, cnd_gt, cnd_le, swL_z, swL_c, rE_e, rOr_s, rOr_n, rlk_z, rlk_c, aR_c, aI_c, aII_c, aIII_c, aRI_c, aRII_c, aRIII_c, vJn, vJs, vlc, aRR_c, aRRI_c, aRRII_c, aRRIII_c, aRIIII_c, aRL_c, aRLL_c, aLL_c, aRRRI_c, aIL_c, aIIII_c, aRRIIII_c, aIRII_c, aIR_c, aLI_c, aRIR_c, aRIIR_c, hM.1.o, hM.1.f23, hM.1.t186, hM.1.l186]
    exact K
  · rw [if_neg hs] at h
    have h := h _ QTM.rf
    refine wg (by decide) rgRd_ok tk_246 py_246 ml_246 30 (by simp [catT]) (fun N hN => ?_)
    simp [bl_246, hN _, x_iconst, x_ldc2_w, x_aconst_null, x_iload, x_lload, x_aload, x_istore, x_lstore, x_astore, x_iinc, x_iadd, x_isub, x_imul, x_idiv, x_irem, x_iand, x_ior, x_ixor, x_ishl, x_ishr, x_iushr, x_ineg, x_ladd, x_lsub, x_lmul, x_ldiv, x_lrem, x_lcmp, x_i2l, x_i2b, x_i2s, x_i2c, x_dup, x_pop, x_dup_x1, x_dup2, x_getfield, x_putfield, x_iaload, x_baload, x_saload, x_caload, x_daload, x_faload, x_laload, x_aaload, x_iastore, x_bastore, x_sastore, x_castore, x_lastore, x_aastore, x_arraylength, x_getstatic, x_goto, x_goto_w, x_ifCond, x_if_icmp, x_ifnull, x_ifnonnull, x_lookupswitch, x_invokevirtual, x_invokestatic, x_invokedynamic, x_ireturn, x_freturn, x_dreturn, x_lreturn, x_areturn, x_return_, pI_c, pL_c, pR_c, pV_i, pV_r, gI_c, gL_c, gR_c, pN_z, pN_s, lget_c, lins_z, lins_c, ldel_z, ldel_c, ldel2_z, ldel2_c, lset_i, lset_l, lset_r, lkeep_z, lkeep_c, largs_z, largs_c, cat_i, cat_l, cat_r, lkp_c, cnd_eq, cnd_ne, cnd_lt, cnd_ge, cnd_gt, cnd_le, swL_z, swL_c, rE_e, rOr_s, rOr_n, rlk_z, rlk_c, aR_c, aI_c, aII_c, aIII_c, aRI_c, aRII_c, aRIII_c, vJn, vJs, vlc, aRR_c, aRRI_c, aRRII_c, aRRIII_c, aRIIII_c, aRL_c, aRLL_c, aLL_c, aRRRI_c, aIL_c, aIIII_c, aRRIIII_c, aIRII_c, aIR_c, aLI_c, aRIR_c, aRIIR_c, hM.1.o, mpIn]
    grind
