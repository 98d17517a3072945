/-! the reference: FORCE by its RULE -/
theorem plE_v {E : Int → Int} : evE E plE = w32 (w32 (w32 (E 0 * 2) + E 1) - E 2) := by
  have h1 := wfe_L (c := 115) (by decide)
  have h2 := wfe_N (v := 2) (by omega)
  have h3 := wfe_L (c := 111) (by decide)
  have h4 := wfe_L (c := 101) (by decide)
  have b1 := wfe_B (o := 42) (by unfold opB; omega) h1.1 h2.1
  have b2 := wfe_B (o := 43) (by unfold opB; omega) b1.1 h3.1
  have b3 := wfe_B (o := 45) (by unfold opB; omega) b2.1 h4.1
  have e : plE = xB 45 (xB 43 (xB 42 (xL 115) (xN 2)) (xL 111)) (xL 101) := rfl
  rw [e, b3.2 E, b2.2 E, b1.2 E, h1.2 E, h2.2 E, h3.2 E, h4.2 E]
  rfl
theorem rlE_0 {X : Int → Int} : rlE X 0 = some plE ∧ flR X 0 = -1 := by
  have e1 : rlR X 0 = .inr plE := plE_r
  unfold rlE flR
  rw [e1]
  exact ⟨rfl, rfl⟩
theorem gdA_f {X : Int → Int} {n : Nat} : gdA (fun p => X p) n = flR X n := by
  by_cases hz : n = 0
  · subst hz; rw [rlE_0.2]; rfl
  · unfold gdA flR rlR txX txN gdR
    rw [if_neg hz, if_neg hz, if_neg hz]
theorem gdR_e {X : Int → Int} {n : Nat} {e : Ex} (hz : n ≠ 0) (h : rlE X n = some e) : gdR (fun p => X p) n = .inr e ∧ n ≤ 40 := by
  obtain ⟨-, h2, h3⟩ := rlE_f.2 e h
  unfold rlR txX at h2
  unfold txN at h2 h3
  rw [if_neg hz] at h2 h3
  rw [if_neg hz] at h2
  exact ⟨h2, h3⟩
/-- the reference's RULE is e -/
def MrE (σ : Mem) (e : Ex) : Prop := (σ 175 15 = 181 ∨ σ 175 15 = 182) ∧ (∀ k, (-128 ≤ σ 181 k ∧ σ 181 k ≤ 127) ∧ (-128 ≤ σ 182 k ∧ σ 182 k ≤ 127)) ∧ ∃ n : Nat, σ 175 17 = n ∧ n ≤ 40 ∧ rlE (fun p => iand (σ (σ 175 15) p) 255) n = some e
theorem MrE.cg {σ σ' : Mem} {e : Ex} (h : MrE σ e) (hs : RuS σ σ') : MrE σ' e := by
  obtain ⟨h1, h2, n, h3, h4, h5⟩ := h
  obtain ⟨s1, s2, s3, s4⟩ := hs
  have e15 : σ' (σ 175 15) = σ (σ 175 15) := by rcases h1 with e | e <;> rw [e] <;> assumption
  exact ⟨by rw [s1]; exact h1, fun k => by rw [s3, s4]; exact h2 k, n, by rw [s2]; exact h3, h4, by rw [s1, e15]; exact h5⟩
abbrev rgFc : Reg := (190, mpHeA) :: (179, mpBegin) :: rgM3
theorem rgFc_ok {l : Launch} {g : GE} {d : Nat} : ∀ e as t σ Q, rE l g (d + 89) rgFc e as t σ Q → WPc l g e (d + 89) 0 0 as t σ Q := rE_cons (fun _ _ _ _ h => m_heldA (d := d + 25) h) (rE_cons (fun _ _ _ _ h => m_begin (d := d + 88) h) (rgM3_ok (d := d + 86)))
set_option maxHeartbeats 2000000 in
set_option maxRecDepth 40000 in
theorem MR_of {t : Tau} {σ : Mem} {e : Ex} (hE0 : MrE σ e) : MR t σ (fun E => evE E e) := by
  intro l g d σ' Q r i j hs hM hA hr hi hj h
  obtain ⟨h15, hb, n, h17, hn, he⟩ := hE0.cg hs
  have n6 := hM.2.2
  obtain ⟨r1, r2⟩ := hr
  obtain ⟨i0, i1'⟩ := hi
  obtain ⟨j0, j1⟩ := hj
  have oM := hM.1.o
  have hsj := sd_in hA.2 j0 j1
  have e1 : w32 (6 + j) = 6 + j := w32_id (by omega) (by omega)
  have a2 : 0 ≤ 6 + j ∧ 6 + j < 50 := by omega
  have x2 : σ' r (6 + j) = vA σ' r (6 + j) := vA_at a2.1 a2.2
  have i6 : i < 6 := by omega
  have i50 : i < 50 := by omega
  have xi : σ' r i = vA σ' r i := vA_at i0 i50
  generalize hV : vA σ' r = V at h hsj x2 xi
  refine wg (by decide) rgFc_ok ts_197 py_197 ml_197 30 (by simp [catT]) (fun N hN => ?_)
  by_cases hz : n = 0
  · subst hz
    obtain rfl : plE = e := by
      have := rlE_0 (X := fun p => iand (σ' (σ' 175 15) p) 255)
      rw [this.1] at he
      exact Option.some.inj he
    have K : Q (some (vI (evE (envV V i j) plE))) t σ' := h σ' FoF.rf
    rw [plE_v] at K
    have h17' : σ' 175 17 = 0 := h17
    simp [bs_197, hN _, x_iconst, x_ldc2_w, x_aconst_null, x_iload, x_lload, x_aload, x_istore, x_lstore, x_astore, x_iinc, x_iadd, x_isub, x_imul, x_idiv, x_irem, x_iand, x_ior, x_ixor, x_ishl, x_ishr, x_iushr, x_ineg, x_ladd, x_lsub, x_lmul, x_ldiv, x_lrem, x_lcmp, x_i2l, x_i2b, x_i2s, x_i2c, x_dup, x_pop, x_dup_x1, x_dup2, x_getfield, x_putfield, x_iaload, x_baload, x_saload, x_caload, x_daload, x_faload, x_laload, x_aaload, x_iastore, x_bastore, x_sastore, x_castore, x_lastore, x_aastore, x_arraylength, x_getstatic, x_goto, x_goto_w, x_ifCond, x_if_icmp, x_ifnull, x_ifnonnull, x_lookupswitch, x_invokevirtual, x_invokestatic, x_invokedynamic, x_ireturn, x_freturn, x_dreturn, x_lreturn, x_areturn, x_return_, pI_c, pL_c, pR_c, pV_i, pV_r, gI_c, gL_c, gR_c, pN_z, pN_s, lget_c, lins_z, lins_c, ldel_z, ldel_c, ldel2_z, ldel2_c, lset_i, lset_l, lset_r, lkeep_z, lkeep_c, largs_z, largs_c, cat_i, cat_l, cat_r, lkp_c, cnd_eq, cnd_ne, cnd_lt, cnd_ge, cnd_gt, cnd_le, swL_z, swL_c, rE_e, rOr_s, rOr_n, rlk_z, rlk_c, aR_c, aI_c, aII_c, aIII_c, aRI_c, aRII_c, aRIII_c, vJn, vJs, vlc, aRR_c, aRRI_c, aRRII_c, aRRIII_c, aRIIII_c, aRL_c, aRLL_c, aLL_c, aRRRI_c, aIL_c, aIIII_c, aRRIIII_c, aIRII_c, aIR_c, aLI_c, aRIR_c, aRIIR_c, oM, hA.1, hA.1.1, hA.1.2, mpPart, mpOwn, e1, a2, x2, xi, hV, i0, i6, i50, hsj, h17']
    exact ⟨by have := sd_in hA.2 i0 i1'; rw [hV] at this; exact this, by simpa [envV] using K⟩
  · have hz' : ¬ (n : Int) = 0 := by omega
    have hsi := sd_in hA.2 i0 i1'
    rw [hV] at hsi
    have y1 : w32 (36 + i) = 36 + i := w32_id (by omega) (by omega)
    have y2 : w32 (42 + i) = 42 + i := w32_id (by omega) (by omega)
    have b1 : 0 ≤ 36 + i ∧ 36 + i < 50 := by omega
    have b2 : 0 ≤ 42 + i ∧ 42 + i < 50 := by omega
    have z1 : σ' r (36 + i) = V (36 + i) := by rw [vA_at (σ := σ') (r := r) b1.1 b1.2, hV]
    have z2 : σ' r (42 + i) = V (42 + i) := by rw [vA_at (σ := σ') (r := r) b2.1 b2.2, hV]
    have z3 : σ' r 48 = V 48 := by rw [vA_at (σ := σ') (r := r) (by omega) (by omega), hV]
    have n183 : ¬ r = 183 := r2
    have n183' : ¬ 183 = r := fun z => r2 z.symm
    simp [bs_197, hN _, x_iconst, x_ldc2_w, x_aconst_null, x_iload, x_lload, x_aload, x_istore, x_lstore, x_astore, x_iinc, x_iadd, x_isub, x_imul, x_idiv, x_irem, x_iand, x_ior, x_ixor, x_ishl, x_ishr, x_iushr, x_ineg, x_ladd, x_lsub, x_lmul, x_ldiv, x_lrem, x_lcmp, x_i2l, x_i2b, x_i2s, x_i2c, x_dup, x_pop, x_dup_x1, x_dup2, x_getfield, x_putfield, x_iaload, x_baload, x_saload, x_caload, x_daload, x_faload, x_laload, x_aaload, x_iastore, x_bastore, x_sastore, x_castore, x_lastore, x_aastore, x_arraylength, x_getstatic, x_goto, x_goto_w, x_ifCond, x_if_icmp, x_ifnull, x_ifnonnull, x_lookupswitch, x_invokevirtual, x_invokestatic, x_invokedynamic, x_ireturn, x_freturn, x_dreturn, x_lreturn, x_areturn, x_return_, pI_c, pL_c, pR_c, pV_i, pV_r, gI_c, gL_c, gR_c, pN_z, pN_s, lget_c, lins_z, lins_c, ldel_z, ldel_c, ldel2_z, ldel2_c, lset_i, lset_l, lset_r, lkeep_z, lkeep_c, largs_z, largs_c, cat_i, cat_l, cat_r, lkp_c, cnd_eq, cnd_ne, cnd_lt, cnd_ge, cnd_gt, cnd_le, swL_z, swL_c, rE_e, rOr_s, rOr_n, rlk_z, rlk_c, aR_c, aI_c, aII_c, aIII_c, aRI_c, aRII_c, aRIII_c, vJn, vJs, vlc, aRR_c, aRRI_c, aRRII_c, aRRIII_c, aRIIII_c, aRL_c, aRLL_c, aLL_c, aRRRI_c, aIL_c, aIIII_c, aRRIIII_c, aIRII_c, aIR_c, aLI_c, aRIR_c, aRIIR_c, oM, hM.1, hA.1, hA.1.1, hA.1.2, mpPart, mpOwn, e1, a2, x2, xi, hV, i0, i6, i50, hsj, h17, hz', hM.1.f19, hM.1.t183, hM.1.l183, mpBegin, up_ap, n183, n183', vA_up, hsi, y1, y2, b1, b2, z1, z2, z3]
    refine ⟨fun _ => ?_, fun z => absurd z hz⟩
    generalize hσ0 : up (up (up (up (up (up (up (up (up (up (up σ' 183 0 (V i)) 183 1 (ownV V i)) 183 2 (partV V i (V (6 + j)))) 183 3 (V (36 + i))) 183 4 (V (42 + i))) 183 5 (w32 ((V 48).tmod 7))) 175 9 (σ' 175 15)) 175 10 (n : Int)) 175 11 40) 175 12 0) 175 13 (-1) = σ0
    have g183 : ∀ k, 0 ≤ k → k < 6 → σ0 183 k = envV V i j k := fun k k0 k1 => by
      rcases (show k = 0 ∨ k = 1 ∨ k = 2 ∨ k = 3 ∨ k = 4 ∨ k = 5 by omega) with rfl | rfl | rfl | rfl | rfl | rfl <;> rw [← hσ0] <;> simp [up_ap, envV]
    have go : ∀ o, o ≠ 175 → o ≠ 183 → σ0 o = σ' o := fun o a b => by rw [← hσ0, up_ne a, up_ne a, up_ne a, up_ne a, up_ne a, up_ne b, up_ne b, up_ne b, up_ne b, up_ne b, up_ne b]
    have gj : ∀ j, ¬ (9 ≤ j ∧ j ≤ 13) → σ0 175 j = σ' 175 j := fun j b => by
      rw [← hσ0]
      simp only [up_ap]
      rw [if_neg (by omega), if_neg (by omega), if_neg (by omega), if_neg (by omega), if_neg (by omega), if_neg (by omega), if_neg (by omega), if_neg (by omega), if_neg (by omega), if_neg (by omega), if_neg (by omega)]
    have g9 : σ0 175 9 = σ' 175 15 := by rw [← hσ0]; simp [up_ap]
    have g10 : σ0 175 10 = n := by rw [← hσ0]; simp [up_ap]
    have g11 : σ0 175 11 = 40 := by rw [← hσ0]; simp [up_ap]
    have g12 : σ0 175 12 = 0 := by rw [← hσ0]; simp [up_ap]
    have g13 : σ0 175 13 = -1 := by rw [← hσ0]; simp [up_ap]
    clear hσ0
    generalize hσ1 : up σ0 175 18 1 = σ1
    have k9 : σ1 175 9 = σ' 175 15 := by rw [← hσ1]; simp [up_ap, g9]
    have k10 : σ1 175 10 = n := by rw [← hσ1]; simp [up_ap, g10]
    have k11 : σ1 175 11 = 40 := by rw [← hσ1]; simp [up_ap, g11]
    have k12 : σ1 175 12 = 0 := by rw [← hσ1]; simp [up_ap, g12]
    have k13 : σ1 175 13 = -1 := by rw [← hσ1]; simp [up_ap, g13]
    have k18 : σ1 175 18 = 1 := by rw [← hσ1]; simp [up_ap]
    have ko : ∀ o, o ≠ 175 → σ1 o = σ0 o := fun o a => by rw [← hσ1, up_ne a]
    have kj : ∀ j, j ≠ 18 → σ1 175 j = σ0 175 j := fun j a => by rw [← hσ1, up_ap, if_neg (fun z => a z.2)]
    have kr : σ1 (σ' 175 15) = σ' (σ' 175 15) := by rw [ko _ (by omega), go _ (by omega) (by omega)]
    have hbr : ∀ k, -128 ≤ σ' (σ' 175 15) k ∧ σ' (σ' 175 15) k ≤ 127 := fun k => by
      rcases h15 with e | e <;> rw [e]
      · exact (hb k).1
      · exact (hb k).2
    have htr : isT t (σ' 175 15) 2 ∧ lenOf t (σ' 175 15) = 40 := by
      rcases h15 with e | e <;> rw [e]
      · exact ⟨hM.1.t181, hM.1.l181⟩
      · exact ⟨hM.1.t182, hM.1.l182⟩
    obtain ⟨hgd, -⟩ := gdR_e hz he
    unfold gdR at hgd
    rw [show min n 40 = n by omega] at hgd
    have hC : PaC t σ1 (fun p : Nat => iand (σ' (σ' 175 15) p) 255) n (envV V i j) := by
      refine ⟨hM.1, by rw [k9]; exact htr.1, by rw [k9, k10, htr.2]; omega, ⟨by rw [k9]; omega, fun k => by rw [k9, kr]; exact hbr k⟩, by rw [k10]; omega, fun p hp => ?_, fun k a b => by rw [if_neg (by omega), ko 183 (by omega), g183 k a b], Or.inr k18⟩
      have := hrS_of (σ := σ1) (x := fun p : Nat => iand (σ' (σ' 175 15) p) 255) (n := n) k10 k11 (fun p _ => by rw [k9, kr]) p (by omega)
      rwa [show min n 40 = n by omega] at this
    have hA1 : PaA σ1 n n := ⟨by rw [k12]; omega, Nat.le_refl _⟩
    simp [sg_197_35_1, hN _, x_iconst, x_ldc2_w, x_aconst_null, x_iload, x_lload, x_aload, x_istore, x_lstore, x_astore, x_iinc, x_iadd, x_isub, x_imul, x_idiv, x_irem, x_iand, x_ior, x_ixor, x_ishl, x_ishr, x_iushr, x_ineg, x_ladd, x_lsub, x_lmul, x_ldiv, x_lrem, x_lcmp, x_i2l, x_i2b, x_i2s, x_i2c, x_dup, x_pop, x_dup_x1, x_dup2, x_getfield, x_putfield, x_iaload, x_baload, x_saload, x_caload, x_daload, x_faload, x_laload, x_aaload, x_iastore, x_bastore, x_sastore, x_castore, x_lastore, x_aastore, x_arraylength, x_getstatic, x_goto, x_goto_w, x_ifCond, x_if_icmp, x_ifnull, x_ifnonnull, x_lookupswitch, x_invokevirtual, x_invokestatic, x_invokedynamic, x_ireturn, x_freturn, x_dreturn, x_lreturn, x_areturn, x_return_, pI_c, pL_c, pR_c, pV_i, pV_r, gI_c, gL_c, gR_c, pN_z, pN_s, lget_c, lins_z, lins_c, ldel_z, ldel_c, ldel2_z, ldel2_c, lset_i, lset_l, lset_r, lkeep_z, lkeep_c, largs_z, largs_c, cat_i, cat_l, cat_r, lkp_c, cnd_eq, cnd_ne, cnd_lt, cnd_ge, cnd_gt, cnd_le, swL_z, swL_c, rE_e, rOr_s, rOr_n, rlk_z, rlk_c, aR_c, aI_c, aII_c, aIII_c, aRI_c, aRII_c, aRIII_c, vJn, vJs, vlc, aRR_c, aRRI_c, aRRII_c, aRRIII_c, aRIIII_c, aRL_c, aRLL_c, aLL_c, aRRRI_c, aIL_c, aIIII_c, aRRIIII_c, aIRII_c, aIR_c, aLI_c, aRIR_c, aRIIR_c, oM, hσ1]
    refine ⟨n, hn, rfl, rfl, _, n, _, hC, hA1, k13, fun σ3 R u f3 hR hP3 => ?_⟩
    have hf := he_fin hR
    rw [hgd] at hf
    have FF : FoF σ' (up σ3 175 18 0) := ⟨fun o a b => by rw [up_ne a, f3.1 o a, ko o a, go o a b], fun j a b => by rw [up_ap, if_neg (fun z => b z.2), f3.2 j (by omega) (by omega), kj j b, gj j a]⟩
    have K := h _ FF
    cases R with
    | inl w => cases hf
    | inr p =>
      obtain ⟨e', q'⟩ := p
      obtain ⟨s1, s2, s3, s4⟩ := hP3
      have hf : Sum.inr e = if q' = 0 then oK e' else bD (n - q') := hf
      have hq : q' = 0 := by
        by_cases hq : q' = 0
        · exact hq
        · rw [if_neg hq] at hf; cases hf
      rw [if_pos hq] at hf
      obtain rfl : e = e' := Sum.inr.inj hf
      simp [sg_197_35_2, hN _, x_iconst, x_ldc2_w, x_aconst_null, x_iload, x_lload, x_aload, x_istore, x_lstore, x_astore, x_iinc, x_iadd, x_isub, x_imul, x_idiv, x_irem, x_iand, x_ior, x_ixor, x_ishl, x_ishr, x_iushr, x_ineg, x_ladd, x_lsub, x_lmul, x_ldiv, x_lrem, x_lcmp, x_i2l, x_i2b, x_i2s, x_i2c, x_dup, x_pop, x_dup_x1, x_dup2, x_getfield, x_putfield, x_iaload, x_baload, x_saload, x_caload, x_daload, x_faload, x_laload, x_aaload, x_iastore, x_bastore, x_sastore, x_castore, x_lastore, x_aastore, x_arraylength, x_getstatic, x_goto, x_goto_w, x_ifCond, x_if_icmp, x_ifnull, x_ifnonnull, x_lookupswitch, x_invokevirtual, x_invokestatic, x_invokedynamic, x_ireturn, x_freturn, x_dreturn, x_lreturn, x_areturn, x_return_, pI_c, pL_c, pR_c, pV_i, pV_r, gI_c, gL_c, gR_c, pN_z, pN_s, lget_c, lins_z, lins_c, ldel_z, ldel_c, ldel2_z, ldel2_c, lset_i, lset_l, lset_r, lkeep_z, lkeep_c, largs_z, largs_c, cat_i, cat_l, cat_r, lkp_c, cnd_eq, cnd_ne, cnd_lt, cnd_ge, cnd_gt, cnd_le, swL_z, swL_c, rE_e, rOr_s, rOr_n, rlk_z, rlk_c, aR_c, aI_c, aII_c, aIII_c, aRI_c, aRII_c, aRIII_c, vJn, vJs, vlc, aRR_c, aRRI_c, aRRII_c, aRRIII_c, aRIIII_c, aRL_c, aRLL_c, aLL_c, aRRRI_c, aIL_c, aIIII_c, aRRIIII_c, aIRII_c, aIR_c, aLI_c, aRIR_c, aRIIR_c, oM]
      rw [s4]
      exact K
