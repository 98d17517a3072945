/-! the reference: its calls that change the sea -/
def MTo (σ σ' : Mem) (V : Int → Int) (p : Nat) (U : Nat → Int → Int) (r : Option (List Int)) : Prop := ((∀ o, o ≠ 175 → ¬ scrM o → o ≠ 176 → o ≠ 184 → σ' o = σ o) ∧ ∀ j, ¬ scrF j → j ≠ 21 → σ' 175 j = σ 175 j) ∧ vA σ' 176 = V ∧ MpIs σ' p U ∧ σ' 175 8 = 0 ∧ match r with
  | none => σ' 175 7 = σ 175 7 ∧ σ' 179 = σ 179
  | some L => rmIs σ' L
theorem MpIs.cg {σ σ' : Mem} {p : Nat} {U : Nat → Int → Int} (h : MpIs σ p U) (h1 : σ' 175 21 = σ 175 21) (h2 : σ' 184 = σ 184) : MpIs σ' p U := by unfold MpIs; rw [h1, h2]; exact h
abbrev rgN : Reg := (204, mpRem) :: (211, mpDays) :: (210, mpDay) :: (214, mpRefS) :: (215, mpSew) :: (217, mpRefY) :: (218, mpYield) :: (170, mpTell) :: (201, mpSumOf) :: (212, mpPoa) :: (203, mpLay) :: (172, mpTwo) :: rgM3
theorem rgN_ok {l : Launch} {g : GE} {d : Nat} : ∀ e as t σ Q, rE l g (d + 5) rgN e as t σ Q → WPc l g e (d + 5) 0 0 as t σ Q :=
  rE_cons (fun _ _ _ _ h => m_remember h) <| rE_cons (fun _ _ _ _ h => m_goDays h) <| rE_cons (fun _ _ _ _ h => m_goDay h) <| rE_cons (fun _ _ _ _ h => m_refS h) <| rE_cons (fun _ _ _ _ h => m_goSewing h) <| rE_cons (fun _ _ _ _ h => m_refY h) <| rE_cons (fun _ _ _ _ h => m_goYielding h) <| rE_cons (fun _ _ _ _ h => m_tell h) <| rE_cons (fun _ _ _ _ h => m_sumOf h) <| rE_cons (fun _ _ _ _ h => m_partsOfAll h) <| rE_cons (fun _ _ _ _ h => m_lay h) <| rE_cons (fun _ _ _ _ h => m_areTwo h) (rgM3_ok (d := d + 2))
theorem sewA_r {n : Nat} {V : Int → Int} {s f k : Int} {M : Int → Int} (hW : WFV n M V) : (rfSew n V s f k < 0 → sewA n V s f k = rfSew n V s f k ∧ sewN n V s f k = V) ∧ (0 ≤ rfSew n V s f k → ((0 ≤ s ∧ s < n) ∧ (0 ≤ f ∧ f < 4) ∧ (1 ≤ k ∧ k ≤ 12)) ∧ sewA n V s f k = sewV V s f k (6 + s) ∧ sewN n V s f k = sewV V s f k ∧ 0 ≤ sewA n V s f k) := by
  unfold rfSew sewA sewN
  by_cases hc : (0 ≤ s ∧ s < n) ∧ (0 ≤ f ∧ f < 4) ∧ (1 ≤ k ∧ k ≤ 12)
  · rw [if_pos hc, if_pos hc]
    by_cases h1 : ownV V s < k
    · rw [if_pos h1, if_pos h1, if_neg (fun z => z.2.1 h1)]
      exact ⟨fun _ => ⟨rfl, rfl⟩, fun z => by omega⟩
    · rw [if_neg h1, if_neg h1]
      by_cases h2 : V (6 + s) = f
      · rw [if_pos h2, if_pos h2, if_neg (fun z => z.2.2 h2)]
        exact ⟨fun _ => ⟨rfl, rfl⟩, fun z => by omega⟩
      · rw [if_neg h2, if_neg h2, if_pos ⟨hc, h1, h2⟩]
        have hw := hW.sewV hc.1.1 hc.1.2 hc.2.1 h2 (k := k) ⟨by omega, by omega⟩
        have := sd_in hw hc.1.1 hc.1.2
        exact ⟨fun z => by omega, fun _ => ⟨hc, rfl, rfl, this.1⟩⟩
  · rw [if_neg hc, if_neg hc, if_neg (fun z => hc z.1)]
    exact ⟨fun _ => ⟨rfl, rfl⟩, fun z => by omega⟩
theorem mo_sews {l : Launch} {g : GE} {d : Nat} {t : Tau} {σ : Mem} {Q : Post} {i s n : Int} {p : Nat} {U : Nat → Int → Int} (hk : MK t σ) (hp : MpIs σ p U) (h : ∀ σ', MTo σ σ' (sewN (nM σ) (vA σ 176) i s n) (pstP (sewA (nM σ) (vA σ 176) i s n) p) (pstU (sewA (nM σ) (vA σ 176) i s n) p U (vA σ 176)) none → Q (some (vI (sewA (nM σ) (vA σ 176) i s n))) t σ') : WPc l g 216 (d + 6) 0 0 [vR 175, vI i, vI s, vI n] t σ Q := by
  obtain ⟨hM, hW⟩ := hk
  have hA : ARow t (up σ 175 8 0) 176 := ⟨RowT.now hM.1, by rw [nM_up (by omega), mM_up (by omega), vA_up (by omega)]; exact hW⟩
  have hM1 : MdOk t (up σ 175 8 0) := by rw [md_up (by omega)]; exact hM
  have hn : nM (up σ 175 8 0) = nM σ := nM_up (by omega)
  have hv : vA (up σ 175 8 0) 176 = vA σ 176 := vA_up (by omega)
  obtain ⟨hS1, hS2⟩ := sewA_r (s := i) (f := s) (k := n) hW
  have hp1 : MpIs (up σ 175 8 0) p U := hp.cg (by simp [up_ap]) (up_ne (by omega))
  refine wg (by decide) rgN_ok ts_216 py_216 ml_216 30 (by simp [catT]) (fun N hN => ?_)
  simp [bs_216, hN _, x_iconst, x_ldc2_w, x_aconst_null, x_iload, x_lload, x_aload, x_istore, x_lstore, x_astore, x_iinc, x_iadd, x_isub, x_imul, x_idiv, x_irem, x_iand, x_ior, x_ixor, x_ishl, x_ishr, x_iushr, x_ineg, x_ladd, x_lsub, x_lmul, x_ldiv, x_lrem, x_lcmp, x_i2l, x_i2b, x_i2s, x_i2c, x_dup, x_pop, x_dup_x1, x_dup2, x_getfield, x_putfield, x_iaload, x_baload, x_saload, x_caload, x_daload, x_faload, x_laload, x_aaload, x_iastore, x_bastore, x_sastore, x_castore, x_lastore, x_aastore, x_arraylength, x_getstatic, x_goto, x_goto_w, x_ifCond, x_if_icmp, x_ifnull, x_ifnonnull, x_lookupswitch, x_invokevirtual, x_invokestatic, x_invokedynamic, x_ireturn, x_freturn, x_dreturn, x_lreturn, x_areturn, x_return_, pI_c, pL_c, pR_c, pV_i, pV_r, gI_c, gL_c, gR_c, pN_z, pN_s, lget_c, lins_z, lins_c, ldel_z, ldel_c, ldel2_z, ldel2_c, lset_i, lset_l, lset_r, lkeep_z, lkeep_c, largs_z, largs_c, cat_i, cat_l, cat_r, lkp_c, cnd_eq, cnd_ne, cnd_lt, cnd_ge, cnd_gt, cnd_le, swL_z, swL_c, rE_e, rOr_s, rOr_n, rlk_z, rlk_c, aR_c, aI_c, aII_c, aIII_c, aRI_c, aRII_c, aRIII_c, vJn, vJs, vlc, aRR_c, aRRI_c, aRRII_c, aRRIII_c, aRIIII_c, aRL_c, aRLL_c, aLL_c, aRRRI_c, aIL_c, aIIII_c, aRRIIII_c, aIRII_c, aIR_c, aLI_c, aRIR_c, aRIIR_c, hM.1.o, hM.1.f0, mpRefS, hM1, hA, hn, hv]
  refine ⟨fun z => ?_, fun z => ?_⟩
  · obtain ⟨⟨hi, hs, hn'⟩, e1, e2, e3⟩ := hS2 z
    unfold pstP pstU at h
    rw [if_neg (by omega), if_neg (by omega), e1, e2] at h
    simp only [mpRem, aRR_c]
    refine ⟨trivial, hM.1, RowT.now hM.1, by omega, p, U, hp1, fun σ1 x1 x2 x3 => ?_⟩
    rw [hv] at x3
    have e176 : σ1 176 = σ 176 := by rw [x1 176 (by omega) (by omega), up_ne (by omega)]
    have v176 : vA σ1 176 = vA σ 176 := by unfold vA; rw [e176]
    have n6 := hM.2.2
    have hSh := hW.sh hi.1 hi.2
    simp [sg_216_26_1, hN _, x_iconst, x_ldc2_w, x_aconst_null, x_iload, x_lload, x_aload, x_istore, x_lstore, x_astore, x_iinc, x_iadd, x_isub, x_imul, x_idiv, x_irem, x_iand, x_ior, x_ixor, x_ishl, x_ishr, x_iushr, x_ineg, x_ladd, x_lsub, x_lmul, x_ldiv, x_lrem, x_lcmp, x_i2l, x_i2b, x_i2s, x_i2c, x_dup, x_pop, x_dup_x1, x_dup2, x_getfield, x_putfield, x_iaload, x_baload, x_saload, x_caload, x_daload, x_faload, x_laload, x_aaload, x_iastore, x_bastore, x_sastore, x_castore, x_lastore, x_aastore, x_arraylength, x_getstatic, x_goto, x_goto_w, x_ifCond, x_if_icmp, x_ifnull, x_ifnonnull, x_lookupswitch, x_invokevirtual, x_invokestatic, x_invokedynamic, x_ireturn, x_freturn, x_dreturn, x_lreturn, x_areturn, x_return_, pI_c, pL_c, pR_c, pV_i, pV_r, gI_c, gL_c, gR_c, pN_z, pN_s, lget_c, lins_z, lins_c, ldel_z, ldel_c, ldel2_z, ldel2_c, lset_i, lset_l, lset_r, lkeep_z, lkeep_c, largs_z, largs_c, cat_i, cat_l, cat_r, lkp_c, cnd_eq, cnd_ne, cnd_lt, cnd_ge, cnd_gt, cnd_le, swL_z, swL_c, rE_e, rOr_s, rOr_n, rlk_z, rlk_c, aR_c, aI_c, aII_c, aIII_c, aRI_c, aRII_c, aRIII_c, vJn, vJs, vlc, aRR_c, aRRI_c, aRRII_c, aRRIII_c, aRIIII_c, aRL_c, aRLL_c, aLL_c, aRRRI_c, aIL_c, aIIII_c, aRRIIII_c, aIRII_c, aIR_c, aLI_c, aRIR_c, aRIIR_c, hM.1.o, hM.1.f0, mpSew, RowT.now hM.1, v176, hSh, hs]
    refine ⟨by omega, by omega, fun σ2 T => ?_⟩
    have e5 : w32 (6 + i) = 6 + i := w32_id (by omega) (by omega)
    have e6 : (0 : Int) ≤ 6 + i := by omega
    have e7 : 6 + i < 50 := by omega
    have e8 : σ2 176 (6 + i) = sewV (vA σ 176) i s n (6 + i) := T.at e6 e7
    simp [sg_216_26_2, hN _, x_iconst, x_ldc2_w, x_aconst_null, x_iload, x_lload, x_aload, x_istore, x_lstore, x_astore, x_iinc, x_iadd, x_isub, x_imul, x_idiv, x_irem, x_iand, x_ior, x_ixor, x_ishl, x_ishr, x_iushr, x_ineg, x_ladd, x_lsub, x_lmul, x_ldiv, x_lrem, x_lcmp, x_i2l, x_i2b, x_i2s, x_i2c, x_dup, x_pop, x_dup_x1, x_dup2, x_getfield, x_putfield, x_iaload, x_baload, x_saload, x_caload, x_daload, x_faload, x_laload, x_aaload, x_iastore, x_bastore, x_sastore, x_castore, x_lastore, x_aastore, x_arraylength, x_getstatic, x_goto, x_goto_w, x_ifCond, x_if_icmp, x_ifnull, x_ifnonnull, x_lookupswitch, x_invokevirtual, x_invokestatic, x_invokedynamic, x_ireturn, x_freturn, x_dreturn, x_lreturn, x_areturn, x_return_, pI_c, pL_c, pR_c, pV_i, pV_r, gI_c, gL_c, gR_c, pN_z, pN_s, lget_c, lins_z, lins_c, ldel_z, ldel_c, ldel2_z, ldel2_c, lset_i, lset_l, lset_r, lkeep_z, lkeep_c, largs_z, largs_c, cat_i, cat_l, cat_r, lkp_c, cnd_eq, cnd_ne, cnd_lt, cnd_ge, cnd_gt, cnd_le, swL_z, swL_c, rE_e, rOr_s, rOr_n, rlk_z, rlk_c, aR_c, aI_c, aII_c, aIII_c, aRI_c, aRII_c, aRIII_c, vJn, vJs, vlc, aRR_c, aRRI_c, aRRII_c, aRRIII_c, aRIIII_c, aRL_c, aRLL_c, aLL_c, aRRRI_c, aIL_c, aIIII_c, aRRIIII_c, aIRII_c, aIR_c, aLI_c, aRIR_c, aRIIR_c, hM.1.o, hM.1.f0, hM.1.t176, hM.1.l176, e5, e6, e7, e8]
    refine h σ2 ⟨⟨fun o a b c e => ?_, fun j a b => ?_⟩, T.2, x3.cg (by rw [T.1 175 (by omega)]) (by rw [T.1 184 (by omega)]), ?_, ?_, ?_⟩
    · rw [T.1 o c, x1 o a e, up_ne a]
    · rw [T.1 175 (by omega), x2 j b, up_ap, if_neg (fun z => a (by rw [z.2]; exact Or.inr (Or.inl rfl)))]
    · rw [T.1 175 (by omega), x2 8 (by omega)]; simp [up_ap]
    · rw [T.1 175 (by omega), x2 7 (by omega)]; simp [up_ap]
    · rw [T.1 179 (by omega), x1 179 (by omega) (by omega), up_ne (by omega)]
  · obtain ⟨e1, e2⟩ := hS1 z
    unfold pstP pstU at h
    rw [e1, if_pos z, if_pos z, e2] at h
    exact h _ ⟨⟨fun o a b c e => up_ne a, fun j a b => by rw [up_ap, if_neg (fun z => a (by rw [z.2]; exact Or.inr (Or.inl rfl)))]⟩, hv, hp1, by simp [up_ap], by simp [up_ap], up_ne (by omega)⟩
