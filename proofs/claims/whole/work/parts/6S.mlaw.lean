/-! the reference: law -/
abbrev rgLaw : Reg := (195, mpRrl) :: (274, mpLes) :: rgMw
theorem rgLaw_ok {l : Launch} {g : GE} {d : Nat} : ∀ e as t σ Q, rE l g (d + 93) rgLaw e as t σ Q → WPc l g e (d + 93) 0 0 as t σ Q := rE_cons (fun _ _ _ _ h => m_readRule (d := d + 28) h) (rE_cons (fun _ _ _ _ h => m_lesserWins h) (rgMw_ok (d := d + 1)))
def LmF (σ σ' : Mem) : Prop := (∀ o, o ≠ 175 → o ≠ σ 175 16 → ¬ scrM o → σ' o = σ o) ∧ (∀ j, j ≠ 5 → ¬ scrF j → σ' 175 j = σ 175 j) ∧ σ' 175 5 = 0 ∧ σ' 175 8 = 0
set_option maxHeartbeats 1000000 in
theorem mo_law {l : Launch} {g : GE} {d : Nat} {t : Tau} {σ : Mem} {Q : Post} {F : (Int → Int) → Int} (hk : MK t σ) (hR : MR t σ F) (hT : TxM σ) (hB : RuB σ) (hr : (σ 175 15 = 181 ∧ σ 175 16 = 182) ∨ (σ 175 15 = 182 ∧ σ 175 16 = 181)) (h : ∀ σ', LmF σ σ' → RuB σ' → (match rlE (txB σ) (σ 175 5).toNat with
    | some e => rmIs σ' [(lsI (fun E => evE E e) (vA σ 176) (nM σ) (nM σ) : Int), (lsI F (vA σ 176) (nM σ) (nM σ) : Int)]
    | none => σ' 175 7 = σ 175 7 ∧ σ' 179 = σ 179) → Q (some (vI (match rlE (txB σ) (σ 175 5).toNat with
    | some e => (lsI (fun E => evE E e) (vA σ 176) (nM σ) (nM σ) : Int) - lsI F (vA σ 176) (nM σ) (nM σ)
    | none => -10000 - flR (txB σ) (σ 175 5).toNat))) t σ') : WPc l g 275 (d + 94) 0 0 [vR 175] t σ Q := by
  obtain ⟨⟨n0, n1⟩, hb⟩ := hT
  have hk0 := hk
  obtain ⟨hMd, hW⟩ := hk
  have hM := hMd.1
  have n6 := hMd.2.2
  obtain ⟨n, h5⟩ : ∃ n : Nat, σ 175 5 = n := ⟨(σ 175 5).toNat, by omega⟩
  have hn : (σ 175 5).toNat = n := by omega
  rw [hn] at h
  have oM := hM.o
  have hf := rlE_f (X := txB σ) (n := n)
  have hg : gdA (fun p => iand (σ 178 p) 255) n = flR (txB σ) n := gdA_f (X := txB σ)
  have e5 : up σ 175 8 0 175 5 = n := by simp [up_ap, h5]
  have e178 : up σ 175 8 0 178 = σ 178 := up_ne (by omega)
  refine wg (by decide) rgLaw_ok ts_275 py_275 ml_275 30 (by simp [catT]) (fun N hN => ?_)
  simp [bs_275, hN _, x_iconst, x_ldc2_w, x_aconst_null, x_iload, x_lload, x_aload, x_istore, x_lstore, x_astore, x_iinc, x_iadd, x_isub, x_imul, x_idiv, x_irem, x_iand, x_ior, x_ixor, x_ishl, x_ishr, x_iushr, x_ineg, x_ladd, x_lsub, x_lmul, x_ldiv, x_lrem, x_lcmp, x_i2l, x_i2b, x_i2s, x_i2c, x_dup, x_pop, x_dup_x1, x_dup2, x_getfield, x_putfield, x_iaload, x_baload, x_saload, x_caload, x_daload, x_faload, x_laload, x_aaload, x_iastore, x_bastore, x_sastore, x_castore, x_lastore, x_aastore, x_arraylength, x_getstatic, x_goto, x_goto_w, x_ifCond, x_if_icmp, x_ifnull, x_ifnonnull, x_lookupswitch, x_invokevirtual, x_invokestatic, x_invokedynamic, x_ireturn, x_freturn, x_dreturn, x_lreturn, x_areturn, x_return_, pI_c, pL_c, pR_c, pV_i, pV_r, gI_c, gL_c, gR_c, pN_z, pN_s, lget_c, lins_z, lins_c, ldel_z, ldel_c, ldel2_z, ldel2_c, lset_i, lset_l, lset_r, lkeep_z, lkeep_c, largs_z, largs_c, cat_i, cat_l, cat_r, lkp_c, cnd_eq, cnd_ne, cnd_lt, cnd_ge, cnd_gt, cnd_le, swL_z, swL_c, rE_e, rOr_s, rOr_n, rlk_z, rlk_c, aR_c, aI_c, aII_c, aIII_c, aRI_c, aRII_c, aRIII_c, vJn, vJs, vlc, aRR_c, aRRI_c, aRRII_c, aRRIII_c, aRIIII_c, aRL_c, aRLL_c, aLL_c, aRRRI_c, aIL_c, aIIII_c, aRRIIII_c, aIRII_c, aIR_c, aLI_c, aRIR_c, aRIIR_c, oM, hM, mpRrl, e5, e178]
  refine ⟨hb, n, rfl, by omega, fun σ1 F1 w1 => ?_⟩
  rw [hg] at w1
  rw [hg]
  have s175 : ∀ j, j ≠ 5 → j ≠ 8 → ¬ (9 ≤ j ∧ j ≤ 13) → j ≠ 18 → σ1 175 j = σ 175 j := fun j a b c e => by rw [F1.2.1 j a c e, up_ap, if_neg (fun z => b z.2)]
  have s8 : σ1 175 8 = 0 := by rw [F1.2.1 8 (by omega) (by omega) (by omega)]; simp [up_ap]
  have so : ∀ o, o ≠ 175 → σ1 o = σ o := fun o a => by rw [F1.1 o a, up_ne a]
  cases hE : rlE (txB σ) n with
  | none =>
    obtain ⟨q0, q1⟩ := hf.1 hE
    simp only [hE] at h
    generalize flR (txB σ) n = v at h q0 q1 w1 ⊢
    have nv : ¬ v = -1 := by omega
    have w2 : w32 (-10000 - v) = -10000 - v := w32_id (by omega) (by omega)
    have K := h σ1 ⟨fun o a _ _ => so o a, fun j a b => s175 j a (fun z => b (by unfold scrF; omega)) (fun z => b (by unfold scrF; omega)) (fun z => b (by unfold scrF; omega)), F1.2.2, s8⟩ (fun k => by rw [so 181 (by omega), so 182 (by omega)]; exact hB k) ⟨s175 7 (by omega) (by omega) (by omega) (by omega), so 179 (by omega)⟩
    simp [sg_275_0_1, sg_275_26_1, sg_275_84_3, sg_275_84_2, sg_275_84_1, bs_275, hN _, x_iconst, x_ldc2_w, x_aconst_null, x_iload, x_lload, x_aload, x_istore, x_lstore, x_astore, x_iinc, x_iadd, x_isub, x_imul, x_idiv, x_irem, x_iand, x_ior, x_ixor, x_ishl, x_ishr, x_iushr, x_ineg, x_ladd, x_lsub, x_lmul, x_ldiv, x_lrem, x_lcmp, x_i2l, x_i2b, x_i2s, x_i2c, x_dup, x_pop, x_dup_x1, x_dup2, x_getfield, x_putfield, x_iaload, x_baload, x_saload, x_caload, x_daload, x_faload, x_laload, x_aaload, x_iastore, x_bastore, x_sastore, x_castore, x_lastore, x_aastore, x_arraylength, x_getstatic, x_goto, x_goto_w, x_ifCond, x_if_icmp, x_ifnull, x_ifnonnull, x_lookupswitch, x_invokevirtual, x_invokestatic, x_invokedynamic, x_ireturn, x_freturn, x_dreturn, x_lreturn, x_areturn, x_return_, pI_c, pL_c, pR_c, pV_i, pV_r, gI_c, gL_c, gR_c, pN_z, pN_s, lget_c, lins_z, lins_c, ldel_z, ldel_c, ldel2_z, ldel2_c, lset_i, lset_l, lset_r, lkeep_z, lkeep_c, largs_z, largs_c, cat_i, cat_l, cat_r, lkp_c, cnd_eq, cnd_ne, cnd_lt, cnd_ge, cnd_gt, cnd_le, swL_z, swL_c, rE_e, rOr_s, rOr_n, rlk_z, rlk_c, aR_c, aI_c, aII_c, aIII_c, aRI_c, aRII_c, aRIII_c, vJn, vJs, vlc, aRR_c, aRRI_c, aRRII_c, aRRIII_c, aRIIII_c, aRL_c, aRLL_c, aLL_c, aRRRI_c, aIL_c, aIIII_c, aRRIIII_c, aIRII_c, aIR_c, aLI_c, aRIR_c, aRIIR_c, oM, nv, w1, w2]
    exact K
  | some e =>
    obtain ⟨q0, q1, q2⟩ := hf.2 e hE
    simp only [hE] at h
    rw [q0]
    have n40 : n ≤ 40 := by unfold txN at q2; split at q2 <;> omega
    have nM1 : nM σ1 = nM σ := by unfold nM; rw [s175 1 (by omega) (by omega) (by omega) (by omega)]
    have mM1 : mM σ1 = mM σ := by unfold mM; rw [so 177 (by omega)]
    have vA1 : vA σ1 176 = vA σ 176 := by unfold vA; rw [so 176 (by omega)]
    have hk1 : MK t σ1 := ⟨⟨hM, by rw [nM1, s175 1 (by omega) (by omega) (by omega) (by omega)]; exact hMd.2.1, by rw [nM1]; exact n6⟩, by rw [nM1, mM1, vA1]; exact hW⟩
    have hR1 : MR t σ1 F := hR.cg ⟨s175 15 (by omega) (by omega) (by omega) (by omega), s175 17 (by omega) (by omega) (by omega) (by omega), so 181 (by omega), so 182 (by omega)⟩
    have la := lsI_l (F := fun E => evE E e) (V := vA σ 176) (n := nM σ) (nM σ)
    have lb := lsI_l (F := F) (V := vA σ 176) (n := nM σ) (nM σ)
    have l36 : nM σ * nM σ ≤ 36 := Nat.mul_le_mul n6 n6
    generalize hA : lsI (fun E => evE E e) (vA σ 176) (nM σ) (nM σ) = A at h la
    generalize hBw : lsI F (vA σ 176) (nM σ) (nM σ) = B at h lb
    simp [sg_275_0_1, bs_275, hN _, x_iconst, x_ldc2_w, x_aconst_null, x_iload, x_lload, x_aload, x_istore, x_lstore, x_astore, x_iinc, x_iadd, x_isub, x_imul, x_idiv, x_irem, x_iand, x_ior, x_ixor, x_ishl, x_ishr, x_iushr, x_ineg, x_ladd, x_lsub, x_lmul, x_ldiv, x_lrem, x_lcmp, x_i2l, x_i2b, x_i2s, x_i2c, x_dup, x_pop, x_dup_x1, x_dup2, x_getfield, x_putfield, x_iaload, x_baload, x_saload, x_caload, x_daload, x_faload, x_laload, x_aaload, x_iastore, x_bastore, x_sastore, x_castore, x_lastore, x_aastore, x_arraylength, x_getstatic, x_goto, x_goto_w, x_ifCond, x_if_icmp, x_ifnull, x_ifnonnull, x_lookupswitch, x_invokevirtual, x_invokestatic, x_invokedynamic, x_ireturn, x_freturn, x_dreturn, x_lreturn, x_areturn, x_return_, pI_c, pL_c, pR_c, pV_i, pV_r, gI_c, gL_c, gR_c, pN_z, pN_s, lget_c, lins_z, lins_c, ldel_z, ldel_c, ldel2_z, ldel2_c, lset_i, lset_l, lset_r, lkeep_z, lkeep_c, largs_z, largs_c, cat_i, cat_l, cat_r, lkp_c, cnd_eq, cnd_ne, cnd_lt, cnd_ge, cnd_gt, cnd_le, swL_z, swL_c, rE_e, rOr_s, rOr_n, rlk_z, rlk_c, aR_c, aI_c, aII_c, aIII_c, aRI_c, aRII_c, aRIII_c, vJn, vJs, vlc, aRR_c, aRRI_c, aRRII_c, aRRIII_c, aRIIII_c, aRL_c, aRLL_c, aLL_c, aRRRI_c, aIL_c, aIIII_c, aRRIIII_c, aIRII_c, aIR_c, aLI_c, aRIR_c, aRIIR_c, oM, mpLes, hk1]
    refine ⟨F, hR1, fun σ2 f2 => ?_⟩
    rw [vA1, nM1, hBw]
    generalize hρ : σ 175 15 = ρ at hr
    generalize hρ' : σ 175 16 = ρ' at hr
    have p15 : σ2 175 15 = ρ := by rw [f2.2 15 (by omega) (by omega), s175 15 (by omega) (by omega) (by omega) (by omega), hρ]
    have p16 : σ2 175 16 = ρ' := by rw [f2.2 16 (by omega) (by omega), s175 16 (by omega) (by omega) (by omega) (by omega), hρ']
    have htr : isT t ρ' 2 ∧ lenOf t ρ' = 40 := by
      rcases hr with ⟨-, z⟩ | ⟨-, z⟩ <;> rw [z]
      · exact ⟨hM.t182, hM.l182⟩
      · exact ⟨hM.t181, hM.l181⟩
    generalize hz17 : σ2 175 17 = z17
    have z17' : σ 175 17 = z17 := by rw [← hz17, f2.2 17 (by omega) (by omega), s175 17 (by omega) (by omega) (by omega) (by omega)]
    generalize hσ3 : up (up σ2 175 15 ρ') 175 17 (n : Int) = σ3
    have r15 : σ3 175 15 = ρ' := by rw [← hσ3]; simp [up_ap]
    have r17 : σ3 175 17 = n := by rw [← hσ3]; simp [up_ap]
    have rj : ∀ j, j ≠ 15 → j ≠ 17 → σ3 175 j = σ2 175 j := fun j a b => by rw [← hσ3, up_ap, if_neg (fun z => b z.2), up_ap, if_neg (fun z => a z.2)]
    have ro : ∀ o, o ≠ 175 → σ3 o = σ2 o := fun o a => by rw [← hσ3, up_ne a, up_ne a]
    have x178 : σ3 178 = σ 178 := by rw [ro 178 (by omega), f2.1 178 (by omega) (by omega), so 178 (by omega)]
    have K : ∀ σ', CpT σ3 σ' ρ' 0 → Wp l g 275 (d + 94) 0 0 58 [(0, vR 175), (1, vI n), (2, vI B), (3, vR ρ), (4, vI z17), (5, vI (0 : Nat))] [] t σ' Q := by
      refine lpU (P := fun i => ∀ σ', CpT σ3 σ' ρ' i → Wp l g 275 (d + 94) 0 0 58 [(0, vR 175), (1, vI n), (2, vI B), (3, vR ρ), (4, vI z17), (5, vI i)] [] t σ' Q) (n := n) ?_ (fun i hi K σ' hc => ?_)
      · intro σ4 hc
        have c175 := hc.1 175 (by omega)
        have j4 : ∀ j, j ≠ 5 → j ≠ 8 → ¬ (9 ≤ j ∧ j ≤ 13) → j ≠ 18 → j ≠ 15 → j ≠ 17 → σ4 175 j = σ 175 j := fun j a b c e e1 e2 => by rw [c175, rj j e1 e2, f2.2 j c e, s175 j a b c e]
        have o4 : ∀ o, o ≠ 175 → o ≠ 183 → o ≠ ρ' → σ4 o = σ o := fun o a b c => by rw [hc.1 o c, ro o a, f2.1 o a b, so o a]
        have cρ : ∀ j, σ4 ρ' j = if 0 ≤ j ∧ j < (n : Int) then σ 178 j else σ ρ' j := fun j => by rw [hc.2 j, x178, ro ρ' (by omega), f2.1 ρ' (by omega) (by omega), so ρ' (by omega)]
        have bρ : ∀ k, -128 ≤ σ4 ρ' k ∧ σ4 ρ' k ≤ 127 := fun k => by
          rw [cρ k]
          split
          · exact hb k
          · rcases hr with ⟨-, z⟩ | ⟨-, z⟩ <;> rw [z]
            · exact (hB k).2
            · exact (hB k).1
        have hB4 : RuB σ4 := fun k => by
          rcases hr with ⟨-, z⟩ | ⟨-, z⟩
          · rw [z] at bρ
            exact ⟨by rw [o4 181 (by omega) (by omega) (by omega)]; exact (hB k).1, bρ k⟩
          · rw [z] at bρ
            exact ⟨bρ k, by rw [o4 182 (by omega) (by omega) (by omega)]; exact (hB k).2⟩
        have nM4 : nM σ4 = nM σ := by unfold nM; rw [j4 1 (by omega) (by omega) (by omega) (by omega) (by omega) (by omega)]
        have mM4 : mM σ4 = mM σ := by unfold mM; rw [o4 177 (by omega) (by omega) (by omega)]
        have vA4 : vA σ4 176 = vA σ 176 := by unfold vA; rw [o4 176 (by omega) (by omega) (by omega)]
        have hk4 : MK t σ4 := ⟨⟨hM, by rw [nM4, j4 1 (by omega) (by omega) (by omega) (by omega) (by omega) (by omega)]; exact hMd.2.1, by rw [nM4]; exact n6⟩, by rw [nM4, mM4, vA4]; exact hW⟩
        have q15 : σ4 175 15 = ρ' := by rw [c175, r15]
        have hE4 : MrE σ4 e := ⟨by rw [q15]; omega, hB4, n, by rw [c175, r17], n40, by
          rw [q15, ← hE]
          exact (rlE_cg (fun p hp => by rw [cρ p, if_pos ⟨by omega, by omega⟩])).1⟩
        refine wa (by decide) rgLaw_ok ts_275 30 (fun N hN => ?_)
        simp [bs_275, hN _, x_iconst, x_ldc2_w, x_aconst_null, x_iload, x_lload, x_aload, x_istore, x_lstore, x_astore, x_iinc, x_iadd, x_isub, x_imul, x_idiv, x_irem, x_iand, x_ior, x_ixor, x_ishl, x_ishr, x_iushr, x_ineg, x_ladd, x_lsub, x_lmul, x_ldiv, x_lrem, x_lcmp, x_i2l, x_i2b, x_i2s, x_i2c, x_dup, x_pop, x_dup_x1, x_dup2, x_getfield, x_putfield, x_iaload, x_baload, x_saload, x_caload, x_daload, x_faload, x_laload, x_aaload, x_iastore, x_bastore, x_sastore, x_castore, x_lastore, x_aastore, x_arraylength, x_getstatic, x_goto, x_goto_w, x_ifCond, x_if_icmp, x_ifnull, x_ifnonnull, x_lookupswitch, x_invokevirtual, x_invokestatic, x_invokedynamic, x_ireturn, x_freturn, x_dreturn, x_lreturn, x_areturn, x_return_, pI_c, pL_c, pR_c, pV_i, pV_r, gI_c, gL_c, gR_c, pN_z, pN_s, lget_c, lins_z, lins_c, ldel_z, ldel_c, ldel2_z, ldel2_c, lset_i, lset_l, lset_r, lkeep_z, lkeep_c, largs_z, largs_c, cat_i, cat_l, cat_r, lkp_c, cnd_eq, cnd_ne, cnd_lt, cnd_ge, cnd_gt, cnd_le, swL_z, swL_c, rE_e, rOr_s, rOr_n, rlk_z, rlk_c, aR_c, aI_c, aII_c, aIII_c, aRI_c, aRII_c, aRIII_c, vJn, vJs, vlc, aRR_c, aRRI_c, aRRII_c, aRRIII_c, aRIIII_c, aRL_c, aRLL_c, aLL_c, aRRRI_c, aIL_c, aIIII_c, aRRIIII_c, aIRII_c, aIR_c, aLI_c, aRIR_c, aRIIR_c, oM, mpLes, hk4]
        refine ⟨_, MR_of hE4, fun σ5 f5 => ?_⟩
        rw [vA4, nM4, hA]
        have w3 : w32 ((A : Int) - B) = (A : Int) - B := w32_id (by omega) (by omega)
        have F8 : LmF σ (up (up σ5 175 15 ρ) 175 17 z17) := by
          refine ⟨fun o a b c => ?_, fun j a b => ?_, ?_, ?_⟩
          · have o183 : o ≠ 183 := fun z => c (by rw [z]; unfold scrM; omega)
            rw [up_ne a, up_ne a, f5.1 o a o183, o4 o a o183 (by rw [hρ'] at b; exact b)]
          · have b2 : ¬ (9 ≤ j ∧ j ≤ 13) ∧ j ≠ 18 ∧ j ≠ 8 := by unfold scrF at b; omega
            rw [up_ap]
            by_cases y1 : j = 17
            · rw [if_pos ⟨rfl, y1⟩, y1, z17']
            · rw [if_neg (fun z => y1 z.2), up_ap]
              by_cases y2 : j = 15
              · rw [if_pos ⟨rfl, y2⟩, y2, hρ]
              · rw [if_neg (fun z => y2 z.2), f5.2 j b2.1 b2.2.1, j4 j a b2.2.2 b2.1 b2.2.1 y2 y1]
          · rw [up_ap, if_neg (by omega), up_ap, if_neg (by omega), f5.2 5 (by omega) (by omega), c175, rj 5 (by omega) (by omega), f2.2 5 (by omega) (by omega)]; exact F1.2.2
          · rw [up_ap, if_neg (by omega), up_ap, if_neg (by omega), f5.2 8 (by omega) (by omega), c175, rj 8 (by omega) (by omega), f2.2 8 (by omega) (by omega)]; exact s8
        generalize hσ6 : up (up σ5 175 15 ρ) 175 17 z17 = σ6 at F8
        have K := h (up (up (up (up (up σ6 175 7 0) 179 0 A) 175 7 1) 179 1 B) 175 7 2) ?_ ?_ rm_2
        · simp [sg_275_0_1, sg_275_26_1, sg_275_84_3, sg_275_84_2, sg_275_84_1, hN _, x_iconst, x_ldc2_w, x_aconst_null, x_iload, x_lload, x_aload, x_istore, x_lstore, x_astore, x_iinc, x_iadd, x_isub, x_imul, x_idiv, x_irem, x_iand, x_ior, x_ixor, x_ishl, x_ishr, x_iushr, x_ineg, x_ladd, x_lsub, x_lmul, x_ldiv, x_lrem, x_lcmp, x_i2l, x_i2b, x_i2s, x_i2c, x_dup, x_pop, x_dup_x1, x_dup2, x_getfield, x_putfield, x_iaload, x_baload, x_saload, x_caload, x_daload, x_faload, x_laload, x_aaload, x_iastore, x_bastore, x_sastore, x_castore, x_lastore, x_aastore, x_arraylength, x_getstatic, x_goto, x_goto_w, x_ifCond, x_if_icmp, x_ifnull, x_ifnonnull, x_lookupswitch, x_invokevirtual, x_invokestatic, x_invokedynamic, x_ireturn, x_freturn, x_dreturn, x_lreturn, x_areturn, x_return_, pI_c, pL_c, pR_c, pV_i, pV_r, gI_c, gL_c, gR_c, pN_z, pN_s, lget_c, lins_z, lins_c, ldel_z, ldel_c, ldel2_z, ldel2_c, lset_i, lset_l, lset_r, lkeep_z, lkeep_c, largs_z, largs_c, cat_i, cat_l, cat_r, lkp_c, cnd_eq, cnd_ne, cnd_lt, cnd_ge, cnd_gt, cnd_le, swL_z, swL_c, rE_e, rOr_s, rOr_n, rlk_z, rlk_c, aR_c, aI_c, aII_c, aIII_c, aRI_c, aRII_c, aRIII_c, vJn, vJs, vlc, aRR_c, aRRI_c, aRRII_c, aRRIII_c, aRIIII_c, aRL_c, aRLL_c, aLL_c, aRRRI_c, aIL_c, aIIII_c, aRRIIII_c, aIRII_c, aIR_c, aLI_c, aRIR_c, aRIIR_c, oM, hM, mpTell, hσ6, up_ap, w3]
          exact K
        · obtain ⟨G1, G2, G3, G4⟩ := F8
          refine ⟨fun o a b c => ?_, fun j a b => ?_, ?_, ?_⟩
          · have o179 : o ≠ 179 := fun z => c (by rw [z]; unfold scrM; omega)
            rw [up_ne a, up_ne o179, up_ne a, up_ne o179, up_ne a]; exact G1 o a b c
          · have b7 : ¬ j = 7 := fun z => b (by unfold scrF; omega)
            simp [up_ap, b7]; exact G2 j a b
          · simp [up_ap, G3]
          · simp [up_ap, G4]
        · intro k
          have g1 : σ6 181 = σ4 181 := by rw [← hσ6, up_ne (by omega), up_ne (by omega), f5.1 181 (by omega) (by omega)]
          have g2 : σ6 182 = σ4 182 := by rw [← hσ6, up_ne (by omega), up_ne (by omega), f5.1 182 (by omega) (by omega)]
          simp only [up_ne (show (181 : Int) ≠ 175 by omega), up_ne (show (181 : Int) ≠ 179 by omega), up_ne (show (182 : Int) ≠ 175 by omega), up_ne (show (182 : Int) ≠ 179 by omega), g1, g2]
          exact hB4 k
      · have e2 := w32_succ (k := i) (by omega); have i1 : ((i : Nat) : Int) < (n : Nat) := (by omega); have i1n : i < n := (by omega); have i1x : ¬ n ≤ i := (by omega)
        have c175 := hc.1 175 (by omega)
        have ρ2 : σ' 175 15 = ρ' := by rw [c175, r15]
        have x8 : σ' 178 i = σ3 178 i := by rw [hc.1 178 (by omega)]
        have i40 : (i : Int) < 40 := by omega
        have i40n : i < 40 := by omega
        have i80 : (i : Int) < 80 := by omega
        have i80n : i < 80 := by omega
        have bi := hb i
        have ei : i8 (σ3 178 i) = σ3 178 i := by rw [x178]; exact i8_id bi.1 bi.2
        have K := K _ (hc.st (by omega))
        refine wa (by decide) rgLaw_ok tk_275 30 (fun N hN => ?_)
        simp [bl_275, hN _, x_iconst, x_ldc2_w, x_aconst_null, x_iload, x_lload, x_aload, x_istore, x_lstore, x_astore, x_iinc, x_iadd, x_isub, x_imul, x_idiv, x_irem, x_iand, x_ior, x_ixor, x_ishl, x_ishr, x_iushr, x_ineg, x_ladd, x_lsub, x_lmul, x_ldiv, x_lrem, x_lcmp, x_i2l, x_i2b, x_i2s, x_i2c, x_dup, x_pop, x_dup_x1, x_dup2, x_getfield, x_putfield, x_iaload, x_baload, x_saload, x_caload, x_daload, x_faload, x_laload, x_aaload, x_iastore, x_bastore, x_sastore, x_castore, x_lastore, x_aastore, x_arraylength, x_getstatic, x_goto, x_goto_w, x_ifCond, x_if_icmp, x_ifnull, x_ifnonnull, x_lookupswitch, x_invokevirtual, x_invokestatic, x_invokedynamic, x_ireturn, x_freturn, x_dreturn, x_lreturn, x_areturn, x_return_, pI_c, pL_c, pR_c, pV_i, pV_r, gI_c, gL_c, gR_c, pN_z, pN_s, lget_c, lins_z, lins_c, ldel_z, ldel_c, ldel2_z, ldel2_c, lset_i, lset_l, lset_r, lkeep_z, lkeep_c, largs_z, largs_c, cat_i, cat_l, cat_r, lkp_c, cnd_eq, cnd_ne, cnd_lt, cnd_ge, cnd_gt, cnd_le, swL_z, swL_c, rE_e, rOr_s, rOr_n, rlk_z, rlk_c, aR_c, aI_c, aII_c, aIII_c, aRI_c, aRII_c, aRIII_c, vJn, vJs, vlc, aRR_c, aRRI_c, aRRII_c, aRRIII_c, aRIIII_c, aRL_c, aRLL_c, aLL_c, aRRRI_c, aIL_c, aIIII_c, aRRIIII_c, aIRII_c, aIR_c, aLI_c, aRIR_c, aRIIR_c, oM, hM.f4, hM.t178, hM.l178, e2, i1, i1n, i1x, ρ2, htr, x8, i40, i40n, i80, i80n, ei]
        exact K
    have K := K σ3 ⟨fun _ _ => rfl, fun j => by rw [if_neg (by omega)]⟩
    simp [sg_275_26_1, bs_275, hN _, x_iconst, x_ldc2_w, x_aconst_null, x_iload, x_lload, x_aload, x_istore, x_lstore, x_astore, x_iinc, x_iadd, x_isub, x_imul, x_idiv, x_irem, x_iand, x_ior, x_ixor, x_ishl, x_ishr, x_iushr, x_ineg, x_ladd, x_lsub, x_lmul, x_ldiv, x_lrem, x_lcmp, x_i2l, x_i2b, x_i2s, x_i2c, x_dup, x_pop, x_dup_x1, x_dup2, x_getfield, x_putfield, x_iaload, x_baload, x_saload, x_caload, x_daload, x_faload, x_laload, x_aaload, x_iastore, x_bastore, x_sastore, x_castore, x_lastore, x_aastore, x_arraylength, x_getstatic, x_goto, x_goto_w, x_ifCond, x_if_icmp, x_ifnull, x_ifnonnull, x_lookupswitch, x_invokevirtual, x_invokestatic, x_invokedynamic, x_ireturn, x_freturn, x_dreturn, x_lreturn, x_areturn, x_return_, pI_c, pL_c, pR_c, pV_i, pV_r, gI_c, gL_c, gR_c, pN_z, pN_s, lget_c, lins_z, lins_c, ldel_z, ldel_c, ldel2_z, ldel2_c, lset_i, lset_l, lset_r, lkeep_z, lkeep_c, largs_z, largs_c, cat_i, cat_l, cat_r, lkp_c, cnd_eq, cnd_ne, cnd_lt, cnd_ge, cnd_gt, cnd_le, swL_z, swL_c, rE_e, rOr_s, rOr_n, rlk_z, rlk_c, aR_c, aI_c, aII_c, aIII_c, aRI_c, aRII_c, aRIII_c, vJn, vJs, vlc, aRR_c, aRRI_c, aRRII_c, aRRIII_c, aRIIII_c, aRL_c, aRLL_c, aLL_c, aRRRI_c, aIL_c, aIIII_c, aRRIIII_c, aIRII_c, aIR_c, aLI_c, aRIR_c, aRIIR_c, oM, up_ap, p15, p16, hz17, hσ3]
    simpa using K
