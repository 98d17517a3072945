/-! the reference: rule, law -/
theorem i8_id {x : Int} (h0 : -128 ≤ x) (h1 : x ≤ 127) : i8 x = x := by
  have := i8_id0 ⟨(x + 128).toNat, by omega⟩
  rw [i8_eq]
  simp only at this
  rw [show (((x + 128).toNat : Nat) : Int) - 128 = x by omega] at this
  exact this
def TxM (σ : Mem) : Prop := (0 ≤ σ 175 5 ∧ σ 175 5 ≤ 80) ∧ ∀ k, -128 ≤ σ 178 k ∧ σ 178 k ≤ 127
def RuB (σ : Mem) : Prop := ∀ k, (-128 ≤ σ 181 k ∧ σ 181 k ≤ 127) ∧ (-128 ≤ σ 182 k ∧ σ 182 k ≤ 127)
noncomputable abbrev txB (σ : Mem) : Int → Int := fun p => iand (σ 178 p) 255
abbrev rgRu : Reg := (195, mpRrl) :: rgMw
theorem rgRu_ok {l : Launch} {g : GE} {d : Nat} : ∀ e as t σ Q, rE l g (d + 92) rgRu e as t σ Q → WPc l g e (d + 92) 0 0 as t σ Q := rE_cons (fun _ _ _ _ h => m_readRule (d := d + 27) h) rgMw_ok
/-- the text's signs come into a rule -/
def CpT (σ σ' : Mem) (r : Int) (i : Nat) : Prop := (∀ o, o ≠ r → σ' o = σ o) ∧ ∀ j : Int, σ' r j = if 0 ≤ j ∧ j < i then σ 178 j else σ r j
theorem CpT.st {σ σ' : Mem} {r : Int} {i : Nat} (h : CpT σ σ' r i) (hr : r ≠ 178) : CpT σ (up σ' r i (σ 178 i)) r (i + 1) := by
  refine ⟨fun o a => by rw [up_ne a]; exact h.1 o a, fun j => ?_⟩
  rw [up_ap]
  by_cases hz : j = i
  · rw [if_pos ⟨rfl, hz⟩, if_pos (by omega), hz]
  · rw [if_neg (fun z => hz z.2), h.2 j]
    by_cases hc : 0 ≤ j ∧ j < (i : Int)
    · rw [if_pos hc, if_pos (by omega)]
    · rw [if_neg hc, if_neg (by omega)]
def RmF (σ σ' : Mem) : Prop := (∀ o, o ≠ 175 → o ≠ σ 175 15 → σ' o = σ o) ∧ (∀ j, j ≠ 5 → j ≠ 8 → ¬ (9 ≤ j ∧ j ≤ 13) → j ≠ 17 → j ≠ 18 → σ' 175 j = σ 175 j) ∧ σ' 175 5 = 0 ∧ σ' 175 8 = 0
theorem mo_rule {l : Launch} {g : GE} {d : Nat} {t : Tau} {σ : Mem} {Q : Post} (hM : TM t) (hT : TxM σ) (hB : RuB σ) (hr : σ 175 15 = 181 ∨ σ 175 15 = 182) (h : ∀ σ', RmF σ σ' → RuB σ' → (match rlE (txB σ) (σ 175 5).toNat with
    | some e => MrE σ' e
    | none => RuS σ σ') → Q (some (vI (if flR (txB σ) (σ 175 5).toNat = -1 then 0 else -1 - flR (txB σ) (σ 175 5).toNat))) t σ') : WPc l g 196 (d + 93) 0 0 [vR 175] t σ Q := by
  obtain ⟨⟨n0, n1⟩, hb⟩ := hT
  obtain ⟨n, h5⟩ : ∃ n : Nat, σ 175 5 = n := ⟨(σ 175 5).toNat, by omega⟩
  have hn : (σ 175 5).toNat = n := by omega
  rw [hn] at h
  have oM := hM.o
  have hf := rlE_f (X := txB σ) (n := n)
  have hg : gdA (fun p => iand (σ 178 p) 255) n = flR (txB σ) n := gdA_f (X := txB σ)
  have e5 : up σ 175 8 0 175 5 = n := by simp [up_ap, h5]
  have e178 : up σ 175 8 0 178 = σ 178 := up_ne (by omega)
  refine wg (by decide) rgRu_ok ts_196 py_196 ml_196 30 (by simp [catT]) (fun N hN => ?_)
  simp [bs_196, hN _, x_iconst, x_ldc2_w, x_aconst_null, x_iload, x_lload, x_aload, x_istore, x_lstore, x_astore, x_iinc, x_iadd, x_isub, x_imul, x_idiv, x_irem, x_iand, x_ior, x_ixor, x_ishl, x_ishr, x_iushr, x_ineg, x_ladd, x_lsub, x_lmul, x_ldiv, x_lrem, x_lcmp, x_i2l, x_i2b, x_i2s, x_i2c, x_dup, x_pop, x_dup_x1, x_dup2, x_getfield, x_putfield, x_iaload, x_baload, x_saload, x_caload, x_daload, x_faload, x_laload, x_aaload, x_iastore, x_bastore, x_sastore, x_castore, x_lastore, x_aastore, x_arraylength, x_getstatic, x_goto, x_goto_w, x_ifCond, x_if_icmp, x_ifnull, x_ifnonnull, x_lookupswitch, x_invokevirtual, x_invokestatic, x_invokedynamic, x_ireturn, x_freturn, x_dreturn, x_lreturn, x_areturn, x_return_, pI_c, pL_c, pR_c, pV_i, pV_r, gI_c, gL_c, gR_c, pN_z, pN_s, lget_c, lins_z, lins_c, ldel_z, ldel_c, ldel2_z, ldel2_c, lset_i, lset_l, lset_r, lkeep_z, lkeep_c, largs_z, largs_c, cat_i, cat_l, cat_r, lkp_c, cnd_eq, cnd_ne, cnd_lt, cnd_ge, cnd_gt, cnd_le, swL_z, swL_c, rE_e, rOr_s, rOr_n, rlk_z, rlk_c, aR_c, aI_c, aII_c, aIII_c, aRI_c, aRII_c, aRIII_c, vJn, vJs, vlc, aRR_c, aRRI_c, aRRII_c, aRRIII_c, aRIIII_c, aRL_c, aRLL_c, aLL_c, aRRRI_c, aIL_c, aIIII_c, aRRIIII_c, aIRII_c, aIR_c, aLI_c, aRIR_c, aRIIR_c, oM, hM, mpRrl, e5, e178]
  refine ⟨hb, n, rfl, by omega, fun σ1 F1 w1 => ?_⟩
  rw [hg] at w1
  rw [hg]
  have s175 : ∀ j, j ≠ 5 → j ≠ 8 → ¬ (9 ≤ j ∧ j ≤ 13) → j ≠ 18 → σ1 175 j = σ 175 j := fun j a b c e => by rw [F1.2.1 j a c e, up_ap, if_neg (fun z => b z.2)]
  have s8 : σ1 175 8 = 0 := by rw [F1.2.1 8 (by omega) (by omega) (by omega)]; simp [up_ap]
  have so : ∀ o, o ≠ 175 → σ1 o = σ o := fun o a => by rw [F1.1 o a, up_ne a]
  cases hE : rlE (txB σ) n with
  | none =>
    obtain ⟨q0, q1⟩ := hf.1 hE
    rw [hE] at h
    generalize flR (txB σ) n = v at h q0 q1 w1 ⊢
    have nv : ¬ v = -1 := by omega
    have w2 : w32 (-1 - v) = -1 - v := w32_id (by omega) (by omega)
    have K := h σ1 ⟨fun o a _ => so o a, fun j a b c _ e => s175 j a b c e, F1.2.2, s8⟩ (fun k => by rw [so 181 (by omega), so 182 (by omega)]; exact hB k) ⟨s175 15 (by omega) (by omega) (by omega) (by omega), s175 17 (by omega) (by omega) (by omega) (by omega), so 181 (by omega), so 182 (by omega)⟩
    rw [if_neg nv] at K
    simp [sg_196_0_1, bs_196, hN _, x_iconst, x_ldc2_w, x_aconst_null, x_iload, x_lload, x_aload, x_istore, x_lstore, x_astore, x_iinc, x_iadd, x_isub, x_imul, x_idiv, x_irem, x_iand, x_ior, x_ixor, x_ishl, x_ishr, x_iushr, x_ineg, x_ladd, x_lsub, x_lmul, x_ldiv, x_lrem, x_lcmp, x_i2l, x_i2b, x_i2s, x_i2c, x_dup, x_pop, x_dup_x1, x_dup2, x_getfield, x_putfield, x_iaload, x_baload, x_saload, x_caload, x_daload, x_faload, x_laload, x_aaload, x_iastore, x_bastore, x_sastore, x_castore, x_lastore, x_aastore, x_arraylength, x_getstatic, x_goto, x_goto_w, x_ifCond, x_if_icmp, x_ifnull, x_ifnonnull, x_lookupswitch, x_invokevirtual, x_invokestatic, x_invokedynamic, x_ireturn, x_freturn, x_dreturn, x_lreturn, x_areturn, x_return_, pI_c, pL_c, pR_c, pV_i, pV_r, gI_c, gL_c, gR_c, pN_z, pN_s, lget_c, lins_z, lins_c, ldel_z, ldel_c, ldel2_z, ldel2_c, lset_i, lset_l, lset_r, lkeep_z, lkeep_c, largs_z, largs_c, cat_i, cat_l, cat_r, lkp_c, cnd_eq, cnd_ne, cnd_lt, cnd_ge, cnd_gt, cnd_le, swL_z, swL_c, rE_e, rOr_s, rOr_n, rlk_z, rlk_c, aR_c, aI_c, aII_c, aIII_c, aRI_c, aRII_c, aRIII_c, vJn, vJs, vlc, aRR_c, aRRI_c, aRRII_c, aRRIII_c, aRIIII_c, aRL_c, aRLL_c, aLL_c, aRRRI_c, aIL_c, aIIII_c, aRRIIII_c, aIRII_c, aIR_c, aLI_c, aRIR_c, aRIIR_c, oM, nv, w1, w2]
    exact K
  | some e =>
    obtain ⟨q0, q1, q2⟩ := hf.2 e hE
    rw [hE] at h
    rw [q0] at h ⊢
    have n40 : n ≤ 40 := by unfold txN at q2; split at q2 <;> omega
    generalize hρ : σ 175 15 = ρ at hr
    have ρ1 : σ1 175 15 = ρ := by rw [s175 15 (by omega) (by omega) (by omega) (by omega), hρ]
    have htr : isT t ρ 2 ∧ lenOf t ρ = 40 := by
      rcases hr with z | z <;> rw [z]
      · exact ⟨hM.t181, hM.l181⟩
      · exact ⟨hM.t182, hM.l182⟩
    have K : ∀ σ', CpT σ1 σ' ρ 0 → Wp l g 196 (d + 93) 0 0 26 [(0, vR 175), (1, vI n), (2, vI (0 : Nat))] [] t σ' Q := by
      refine lpU (P := fun i => ∀ σ', CpT σ1 σ' ρ i → Wp l g 196 (d + 93) 0 0 26 [(0, vR 175), (1, vI n), (2, vI i)] [] t σ' Q) (n := n) ?_ (fun i hi K σ' hc => ?_)
      · intro σ' hc
        have c175 := hc.1 175 (by omega)
        have oth : ∀ o, o ≠ 175 → o ≠ ρ → σ' o = σ o := fun o a b => by rw [hc.1 o b, so o a]
        have cρ : ∀ j, σ' ρ j = if 0 ≤ j ∧ j < (n : Int) then σ 178 j else σ ρ j := fun j => by rw [hc.2 j, so 178 (by omega), so ρ (by omega)]
        have bρ : ∀ k, -128 ≤ σ' ρ k ∧ σ' ρ k ≤ 127 := fun k => by
          rw [cρ k]
          split
          · exact hb k
          · rcases hr with z | z <;> rw [z]
            · exact (hB k).1
            · exact (hB k).2
        have hB' : RuB (up σ' 175 17 n) := fun k => by
          rw [up_ne (by omega), up_ne (by omega)]
          rcases hr with z | z
          · rw [z] at bρ
            exact ⟨bρ k, by rw [oth 182 (by omega) (by omega)]; exact (hB k).2⟩
          · rw [z] at bρ
            exact ⟨by rw [oth 181 (by omega) (by omega)]; exact (hB k).1, bρ k⟩
        have K := h (up σ' 175 17 n) ⟨fun o a b => by rw [up_ne a]; exact oth o a (by rw [hρ] at b; exact b), fun j a b c e e' => by rw [up_ap, if_neg (fun z => e z.2), c175]; exact s175 j a b c e', by rw [up_ap, if_neg (by omega), c175]; exact F1.2.2, by rw [up_ap, if_neg (by omega), c175]; exact s8⟩ hB' ⟨by rw [up_ap, if_neg (by omega), c175, ρ1]; exact hr, hB', n, by simp [up_ap], n40, ?_⟩
        · refine wa (by decide) rgRu_ok tk_196 30 (fun N hN => ?_)
          simp [bl_196, hN _, x_iconst, x_ldc2_w, x_aconst_null, x_iload, x_lload, x_aload, x_istore, x_lstore, x_astore, x_iinc, x_iadd, x_isub, x_imul, x_idiv, x_irem, x_iand, x_ior, x_ixor, x_ishl, x_ishr, x_iushr, x_ineg, x_ladd, x_lsub, x_lmul, x_ldiv, x_lrem, x_lcmp, x_i2l, x_i2b, x_i2s, x_i2c, x_dup, x_pop, x_dup_x1, x_dup2, x_getfield, x_putfield, x_iaload, x_baload, x_saload, x_caload, x_daload, x_faload, x_laload, x_aaload, x_iastore, x_bastore, x_sastore, x_castore, x_lastore, x_aastore, x_arraylength, x_getstatic, x_goto, x_goto_w, x_ifCond, x_if_icmp, x_ifnull, x_ifnonnull, x_lookupswitch, x_invokevirtual, x_invokestatic, x_invokedynamic, x_ireturn, x_freturn, x_dreturn, x_lreturn, x_areturn, x_return_, pI_c, pL_c, pR_c, pV_i, pV_r, gI_c, gL_c, gR_c, pN_z, pN_s, lget_c, lins_z, lins_c, ldel_z, ldel_c, ldel2_z, ldel2_c, lset_i, lset_l, lset_r, lkeep_z, lkeep_c, largs_z, largs_c, cat_i, cat_l, cat_r, lkp_c, cnd_eq, cnd_ne, cnd_lt, cnd_ge, cnd_gt, cnd_le, swL_z, swL_c, rE_e, rOr_s, rOr_n, rlk_z, rlk_c, aR_c, aI_c, aII_c, aIII_c, aRI_c, aRII_c, aRIII_c, vJn, vJs, vlc, aRR_c, aRRI_c, aRRII_c, aRRIII_c, aRIIII_c, aRL_c, aRLL_c, aLL_c, aRRRI_c, aIL_c, aIIII_c, aRRIIII_c, aIRII_c, aIR_c, aLI_c, aRIR_c, aRIIR_c, oM]
          simpa using K
        · have e15 : up σ' 175 17 n 175 15 = ρ := by rw [up_ap, if_neg (by omega), c175, ρ1]
          rw [e15, up_ne (by omega), ← hE]
          exact (rlE_cg (fun p hp => by rw [cρ p, if_pos ⟨by omega, by omega⟩])).1
      · have e2 := w32_succ (k := i) (by omega); have i1 : ((i : Nat) : Int) < (n : Nat) := (by omega); have i1n : i < n := (by omega); have i1x : ¬ n ≤ i := (by omega)
        have c175 := hc.1 175 (by omega)
        have ρ2 : σ' 175 15 = ρ := by rw [c175, ρ1]
        have x8 : σ' 178 i = σ1 178 i := by rw [hc.1 178 (by omega)]
        have i40 : (i : Int) < 40 := by omega
        have i40n : i < 40 := by omega
        have i80 : (i : Int) < 80 := by omega
        have i80n : i < 80 := by omega
        have bi := hb i
        have ei : i8 (σ1 178 i) = σ1 178 i := by rw [so 178 (by omega)]; exact i8_id bi.1 bi.2
        have K := K _ (hc.st (by omega))
        refine wa (by decide) rgRu_ok tk_196 30 (fun N hN => ?_)
        simp [bl_196, hN _, x_iconst, x_ldc2_w, x_aconst_null, x_iload, x_lload, x_aload, x_istore, x_lstore, x_astore, x_iinc, x_iadd, x_isub, x_imul, x_idiv, x_irem, x_iand, x_ior, x_ixor, x_ishl, x_ishr, x_iushr, x_ineg, x_ladd, x_lsub, x_lmul, x_ldiv, x_lrem, x_lcmp, x_i2l, x_i2b, x_i2s, x_i2c, x_dup, x_pop, x_dup_x1, x_dup2, x_getfield, x_putfield, x_iaload, x_baload, x_saload, x_caload, x_daload, x_faload, x_laload, x_aaload, x_iastore, x_bastore, x_sastore, x_castore, x_lastore, x_aastore, x_arraylength, x_getstatic, x_goto, x_goto_w, x_ifCond, x_if_icmp, x_ifnull, x_ifnonnull, x_lookupswitch, x_invokevirtual, x_invokestatic, x_invokedynamic, x_ireturn, x_freturn, x_dreturn, x_lreturn, x_areturn, x_return_, pI_c, pL_c, pR_c, pV_i, pV_r, gI_c, gL_c, gR_c, pN_z, pN_s, lget_c, lins_z, lins_c, ldel_z, ldel_c, ldel2_z, ldel2_c, lset_i, lset_l, lset_r, lkeep_z, lkeep_c, largs_z, largs_c, cat_i, cat_l, cat_r, lkp_c, cnd_eq, cnd_ne, cnd_lt, cnd_ge, cnd_gt, cnd_le, swL_z, swL_c, rE_e, rOr_s, rOr_n, rlk_z, rlk_c, aR_c, aI_c, aII_c, aIII_c, aRI_c, aRII_c, aRIII_c, vJn, vJs, vlc, aRR_c, aRRI_c, aRRII_c, aRRIII_c, aRIIII_c, aRL_c, aRLL_c, aLL_c, aRRRI_c, aIL_c, aIIII_c, aRRIIII_c, aIRII_c, aIR_c, aLI_c, aRIR_c, aRIIR_c, oM, hM.f4, hM.t178, hM.l178, e2, i1, i1n, i1x, ρ2, htr, x8, i40, i40n, i80, i80n, ei]
        exact K
    have K := K σ1 ⟨fun _ _ => rfl, fun j => by rw [if_neg (by omega)]⟩
    simp [sg_196_0_1, bs_196, hN _, x_iconst, x_ldc2_w, x_aconst_null, x_iload, x_lload, x_aload, x_istore, x_lstore, x_astore, x_iinc, x_iadd, x_isub, x_imul, x_idiv, x_irem, x_iand, x_ior, x_ixor, x_ishl, x_ishr, x_iushr, x_ineg, x_ladd, x_lsub, x_lmul, x_ldiv, x_lrem, x_lcmp, x_i2l, x_i2b, x_i2s, x_i2c, x_dup, x_pop, x_dup_x1, x_dup2, x_getfield, x_putfield, x_iaload, x_baload, x_saload, x_caload, x_daload, x_faload, x_laload, x_aaload, x_iastore, x_bastore, x_sastore, x_castore, x_lastore, x_aastore, x_arraylength, x_getstatic, x_goto, x_goto_w, x_ifCond, x_if_icmp, x_ifnull, x_ifnonnull, x_lookupswitch, x_invokevirtual, x_invokestatic, x_invokedynamic, x_ireturn, x_freturn, x_dreturn, x_lreturn, x_areturn, x_return_, pI_c, pL_c, pR_c, pV_i, pV_r, gI_c, gL_c, gR_c, pN_z, pN_s, lget_c, lins_z, lins_c, ldel_z, ldel_c, ldel2_z, ldel2_c, lset_i, lset_l, lset_r, lkeep_z, lkeep_c, largs_z, largs_c, cat_i, cat_l, cat_r, lkp_c, cnd_eq, cnd_ne, cnd_lt, cnd_ge, cnd_gt, cnd_le, swL_z, swL_c, rE_e, rOr_s, rOr_n, rlk_z, rlk_c, aR_c, aI_c, aII_c, aIII_c, aRI_c, aRII_c, aRIII_c, vJn, vJs, vlc, aRR_c, aRRI_c, aRRII_c, aRRIII_c, aRIIII_c, aRL_c, aRLL_c, aLL_c, aRRRI_c, aIL_c, aIIII_c, aRRIIII_c, aIRII_c, aIR_c, aLI_c, aRIR_c, aRIIR_c, oM]
    simpa using K
