/-! the reference: canBe goes deeper -/
theorem rgCs_ok {l : Launch} {g : GE} {d r : Nat} (hr : ∀ as t σ Q, mpCb r as t σ Q → WPc l g 241 (d + 93 + r) 0 0 as t σ Q) : ∀ e as t σ Q, rE l g (d + 93 + r) ((241, mpCb r) :: rgCb) e as t σ Q → WPc l g e (d + 93 + r) 0 0 as t σ Q :=
  rE_cons hr (by have := rgCb_ok (l := l) (g := g) (d := d + 1 + r); rwa [show d + 1 + r + 92 = d + 93 + r by omega] at this)
set_option maxHeartbeats 2000000 in
theorem m_canBeS {l : Launch} {g : GE} {d r : Nat} (hr : ∀ as t σ Q, mpCb r as t σ Q → WPc l g 241 (d + 93 + r) 0 0 as t σ Q) {as : List TV} {t : Tau} {σ : Mem} {Q : Post} (h0 : mpCb (r + 1) as t σ Q) : WPc l g 241 (d + 93 + r + 1) 0 0 as t σ Q := by
  obtain ⟨a, k', m, s, f, rfl, rfl, ⟨k0, rfl, k3⟩, hs, F, hR, hM, hW, hT, h⟩ := aRIIII_e h0
  clear h0
  obtain ⟨k, rfl⟩ : ∃ n : Nat, k' = n := ⟨k'.toNat, by omega⟩
  simp only [Int.toNat_natCast] at h
  have k2 : k ≤ 2 := by omega
  have c1 : (k : Int) ≠ k + (r + 1 : Nat) := by omega
  have c4 := w32_succ (k := k) (by omega)
  have n6 := hM.2.2
  have z0 := hM.2.1
  generalize hmm : (k : Int) + (r + 1 : Nat) = mm at c1 k3 ⊢
  generalize hn : nM σ = n at n6 z0
  generalize hV : sgA (σ 188) k = V at hW
  have hsr : cbe s f (σ 175 2) F n (r + 1) V = pI2 (cbS (cbe s f (σ 175 2) F n r) (σ 175 2) F n V) n 0 := rfl
  rw [hn, hV, hsr] at h
  rw [hn] at hW
  generalize hf : cbS (cbe s f (σ 175 2) F n r) (σ 175 2) F n V = ff at h
  have w50 : w32 (50 * ((k : Int) + 1)) = 50 * (k + 1) := w32_id (by omega) (by omega)
  have w2k : w32 (2 * (k : Int)) = 2 * k := w32_id (by omega) (by omega)
  have w2k1 : w32 (2 * (k : Int) + 1) = 2 * k + 1 := w32_id (by omega) (by omega)
  have bk : 0 ≤ (k : Int) ∧ 50 * (k : Int) + 50 ≤ 200 := by omega
  have bk1 : 0 ≤ 50 * ((k : Int) + 1) ∧ 50 * ((k : Int) + 1) + 50 ≤ 200 := by omega
  have bl : 0 ≤ 2 * (k : Int) ∧ 2 * (k : Int) < 6 ∧ 0 ≤ 2 * (k : Int) + 1 ∧ 2 * (k : Int) + 1 < 6 := by omega
  have O : ∀ (q i : Nat) (σ' : Mem), i + q = n → CbF σ σ' k → (∀ σ'', CbF σ σ'' k → cbP (pI2 ff q i) k t Q σ'') → Wp l g 241 (d + 93 + r + 1) 0 0 21 [(0, vR 175), (1, vI k), (2, vI mm), (3, vI s), (4, vI f), (5, vI i)] [] t σ' Q := by
    intro q
    induction q with
    | zero =>
      intro i σ' hi hS hQ
      obtain rfl : i = n := by omega
      have z1 : σ' 175 1 = i := by rw [hS.2.1 1 (by omega) (by omega), z0]
      refine wa (by decide) (rgCs_ok hr) ts_241 30 (fun N hN => ?_)
      simp [bs_241, hN _, x_iconst, x_ldc2_w, x_aconst_null, x_iload, x_lload, x_aload, x_istore, x_lstore, x_astore, x_iinc, x_iadd, x_isub, x_imul, x_idiv, x_irem, x_iand, x_ior, x_ixor, x_ishl, x_ishr, x_iushr, x_ineg, x_ladd, x_lsub, x_lmul, x_ldiv, x_lrem, x_lcmp, x_i2l, x_i2b, x_i2s, x_i2c, x_dup, x_pop, x_dup_x1, x_dup2, x_getfield, x_putfield, x_iaload, x_baload, x_saload, x_caload, x_daload, x_faload, x_laload, x_aaload, x_iastore, x_bastore, x_sastore, x_castore, x_lastore, x_aastore, x_arraylength, x_getstatic, x_goto, x_goto_w, x_ifCond, x_if_icmp, x_ifnull, x_ifnonnull, x_lookupswitch, x_invokevirtual, x_invokestatic, x_invokedynamic, x_ireturn, x_freturn, x_dreturn, x_lreturn, x_areturn, x_return_, pI_c, pL_c, pR_c, pV_i, pV_r, gI_c, gL_c, gR_c, pN_z, pN_s, lget_c, lins_z, lins_c, ldel_z, ldel_c, ldel2_z, ldel2_c, lset_i, lset_l, lset_r, lkeep_z, lkeep_c, largs_z, largs_c, cat_i, cat_l, cat_r, lkp_c, cnd_eq, cnd_ne, cnd_lt, cnd_ge, cnd_gt, cnd_le, swL_z, swL_c, rE_e, rOr_s, rOr_n, rlk_z, rlk_c, aR_c, aI_c, aII_c, aIII_c, aRI_c, aRII_c, aRIII_c, vJn, vJs, vlc, aRR_c, aRRI_c, aRRII_c, aRRIII_c, aRIIII_c, aRL_c, aRLL_c, aLL_c, aRRRI_c, aIL_c, aIIII_c, aRRIIII_c, aIRII_c, aIR_c, aLI_c, aRIR_c, aRIIR_c, hM.1.o, z1]
      exact hQ σ' hS
    | succ q ih =>
      intro i σ' hi hS hQ
      have I : ∀ (p j : Nat) (σ' : Mem), j + p = n → i < j → CbF σ σ' k → (∀ σ'', CbF σ σ'' k → cbP (pJ (ff i) (pI2 ff q (i + 1)) p j) k t Q σ'') → Wp l g 241 (d + 93 + r + 1) 0 0 36 [(0, vR 175), (1, vI k), (2, vI mm), (3, vI s), (4, vI f), (5, vI i), (6, vI j)] [] t σ' Q := by
        intro p
        induction p with
        | zero =>
          intro j σ' hj hij hS hQ
          obtain rfl : j = n := by omega
          have K := ih (i + 1) σ' (by omega) hS hQ
          have z1 : σ' 175 1 = j := by rw [hS.2.1 1 (by omega) (by omega), z0]
          have e2 := w32_succ (k := i) (by omega)
          refine wa (by decide) (rgCs_ok hr) ts_241 30 (fun N hN => ?_)
          simp [bs_241, hN _, x_iconst, x_ldc2_w, x_aconst_null, x_iload, x_lload, x_aload, x_istore, x_lstore, x_astore, x_iinc, x_iadd, x_isub, x_imul, x_idiv, x_irem, x_iand, x_ior, x_ixor, x_ishl, x_ishr, x_iushr, x_ineg, x_ladd, x_lsub, x_lmul, x_ldiv, x_lrem, x_lcmp, x_i2l, x_i2b, x_i2s, x_i2c, x_dup, x_pop, x_dup_x1, x_dup2, x_getfield, x_putfield, x_iaload, x_baload, x_saload, x_caload, x_daload, x_faload, x_laload, x_aaload, x_iastore, x_bastore, x_sastore, x_castore, x_lastore, x_aastore, x_arraylength, x_getstatic, x_goto, x_goto_w, x_ifCond, x_if_icmp, x_ifnull, x_ifnonnull, x_lookupswitch, x_invokevirtual, x_invokestatic, x_invokedynamic, x_ireturn, x_freturn, x_dreturn, x_lreturn, x_areturn, x_return_, pI_c, pL_c, pR_c, pV_i, pV_r, gI_c, gL_c, gR_c, pN_z, pN_s, lget_c, lins_z, lins_c, ldel_z, ldel_c, ldel2_z, ldel2_c, lset_i, lset_l, lset_r, lkeep_z, lkeep_c, largs_z, largs_c, cat_i, cat_l, cat_r, lkp_c, cnd_eq, cnd_ne, cnd_lt, cnd_ge, cnd_gt, cnd_le, swL_z, swL_c, rE_e, rOr_s, rOr_n, rlk_z, rlk_c, aR_c, aI_c, aII_c, aIII_c, aRI_c, aRII_c, aRIII_c, vJn, vJs, vlc, aRR_c, aRRI_c, aRRII_c, aRRIII_c, aRIIII_c, aRL_c, aRLL_c, aLL_c, aRRRI_c, aIL_c, aIIII_c, aRRIIII_c, aIRII_c, aIR_c, aLI_c, aRIR_c, aRIIR_c, hM.1.o, z1, e2]
          exact K
        | succ p ihp =>
          intro j σ' hj hij hS hQ
          have e2 := w32_succ (k := j) (by omega); have i1 : ((j : Nat) : Int) < (n : Nat) := (by omega); have i1n : j < n := (by omega); have i1x : ¬ n ≤ j := (by omega)
          have z1 : σ' 175 1 = n := by rw [hS.2.1 1 (by omega) (by omega), z0]
          have nx : ∀ σ'', CbF σ σ'' k → ff i j = none → Wp l g 241 (d + 93 + r + 1) 0 0 36 [(0, vR 175), (1, vI k), (2, vI mm), (3, vI s), (4, vI f), (5, vI i), (6, vI (j + 1 : Nat))] [] t σ'' Q := fun σ'' hS'' hfn => by
            refine ihp (j + 1) σ'' (by omega) (by omega) hS'' (fun σ3 h3 => ?_)
            have := hQ σ3 h3
            have ep : pJ (ff i) (pI2 ff q (i + 1)) (p + 1) j = pJ (ff i) (pI2 ff q (i + 1)) p (j + 1) := by
              show (match ff i j with | some L => some L | none => pJ (ff i) (pI2 ff q (i + 1)) p (j + 1)) = _
              rw [hfn]
            rwa [ep] at this
          have hfij : ff i j = if 0 ≤ winA F n V i j then (match cbe s f (σ 175 2) F n r (fgtV F n (σ 175 2) V i j) with | some L => some ((i : Int) :: (j : Int) :: L) | none => none) else none := by rw [← hf]; rfl
          have hp : prB n i j := ⟨⟨by omega, by omega⟩, ⟨by omega, by omega⟩, by omega⟩
          refine wa (by decide) (rgCs_ok hr) ts_241 30 (fun N hN => ?_)
          simp [bs_241, hN _, x_iconst, x_ldc2_w, x_aconst_null, x_iload, x_lload, x_aload, x_istore, x_lstore, x_astore, x_iinc, x_iadd, x_isub, x_imul, x_idiv, x_irem, x_iand, x_ior, x_ixor, x_ishl, x_ishr, x_iushr, x_ineg, x_ladd, x_lsub, x_lmul, x_ldiv, x_lrem, x_lcmp, x_i2l, x_i2b, x_i2s, x_i2c, x_dup, x_pop, x_dup_x1, x_dup2, x_getfield, x_putfield, x_iaload, x_baload, x_saload, x_caload, x_daload, x_faload, x_laload, x_aaload, x_iastore, x_bastore, x_sastore, x_castore, x_lastore, x_aastore, x_arraylength, x_getstatic, x_goto, x_goto_w, x_ifCond, x_if_icmp, x_ifnull, x_ifnonnull, x_lookupswitch, x_invokevirtual, x_invokestatic, x_invokedynamic, x_ireturn, x_freturn, x_dreturn, x_lreturn, x_areturn, x_return_, pI_c, pL_c, pR_c, pV_i, pV_r, gI_c, gL_c, gR_c, pN_z, pN_s, lget_c, lins_z, lins_c, ldel_z, ldel_c, ldel2_z, ldel2_c, lset_i, lset_l, lset_r, lkeep_z, lkeep_c, largs_z, largs_c, cat_i, cat_l, cat_r, lkp_c, cnd_eq, cnd_ne, cnd_lt, cnd_ge, cnd_gt, cnd_le, swL_z, swL_c, rE_e, rOr_s, rOr_n, rlk_z, rlk_c, aR_c, aI_c, aII_c, aIII_c, aRI_c, aRII_c, aRIII_c, vJn, vJs, vlc, aRR_c, aRRI_c, aRRII_c, aRRIII_c, aRIIII_c, aRL_c, aRLL_c, aLL_c, aRRRI_c, aIL_c, aIIII_c, aRRIIII_c, aIRII_c, aIR_c, aLI_c, aRIR_c, aRIIR_c, hM.1.o, hM.1, z1, e2, i1, i1n, i1x, mpLyD, hM.1.l188, bk]
          intro σ1 T1
          have S1 : CbF σ σ1 k := hS.tr ⟨fun o _ _ _ _ a => T1.1 o a, fun j _ _ => by rw [T1.1 175 (by omega)], fun j _ => by rw [T1.1 188 (by omega)], fun j _ => by rw [T1.1 189 (by omega)]⟩
          have q1 := S1.q
          have e4 : σ1 175 2 = σ 175 2 := S1.2.1 2 (by omega) (by omega)
          have v1 : vA σ1 190 = V := by rw [T1.2, hS.sg, hV]
          have n1 : nM σ1 = n := by rw [q1.n, hn]
          have hA : ARow t σ1 190 := ⟨RowT.spt hM.1, by rw [n1, q1.m, v1]; exact hW⟩
          simp [sg_241_36_1, hN _, x_iconst, x_ldc2_w, x_aconst_null, x_iload, x_lload, x_aload, x_istore, x_lstore, x_astore, x_iinc, x_iadd, x_isub, x_imul, x_idiv, x_irem, x_iand, x_ior, x_ixor, x_ishl, x_ishr, x_iushr, x_ineg, x_ladd, x_lsub, x_lmul, x_ldiv, x_lrem, x_lcmp, x_i2l, x_i2b, x_i2s, x_i2c, x_dup, x_pop, x_dup_x1, x_dup2, x_getfield, x_putfield, x_iaload, x_baload, x_saload, x_caload, x_daload, x_faload, x_laload, x_aaload, x_iastore, x_bastore, x_sastore, x_castore, x_lastore, x_aastore, x_arraylength, x_getstatic, x_goto, x_goto_w, x_ifCond, x_if_icmp, x_ifnull, x_ifnonnull, x_lookupswitch, x_invokevirtual, x_invokestatic, x_invokedynamic, x_ireturn, x_freturn, x_dreturn, x_lreturn, x_areturn, x_return_, pI_c, pL_c, pR_c, pV_i, pV_r, gI_c, gL_c, gR_c, pN_z, pN_s, lget_c, lins_z, lins_c, ldel_z, ldel_c, ldel2_z, ldel2_c, lset_i, lset_l, lset_r, lkeep_z, lkeep_c, largs_z, largs_c, cat_i, cat_l, cat_r, lkp_c, cnd_eq, cnd_ne, cnd_lt, cnd_ge, cnd_gt, cnd_le, swL_z, swL_c, rE_e, rOr_s, rOr_n, rlk_z, rlk_c, aR_c, aI_c, aII_c, aIII_c, aRI_c, aRII_c, aRIII_c, vJn, vJs, vlc, aRR_c, aRRI_c, aRRII_c, aRRIII_c, aRIIII_c, aRL_c, aRLL_c, aLL_c, aRRRI_c, aIL_c, aIIII_c, aRRIIII_c, aIRII_c, aIR_c, aLI_c, aRIR_c, aRIIR_c, hM.1.o, hM.1.f27, mpGoF, q1.md hM, hA, n1, v1, e4, hT]
          refine ⟨F, hR.cg q1.rs, hp, fun σ2 G => ?_⟩
          have S2 : CbF σ σ2 k := S1.tr ⟨fun o a b _ _ c => G.1.1 o a b c, G.1.2, fun j _ => by rw [G.1.1 188 (by omega) (by omega) (by omega)], fun j _ => by rw [G.1.1 189 (by omega) (by omega) (by omega)]⟩
          simp [sg_241_36_2, bs_241, hN _, x_iconst, x_ldc2_w, x_aconst_null, x_iload, x_lload, x_aload, x_istore, x_lstore, x_astore, x_iinc, x_iadd, x_isub, x_imul, x_idiv, x_irem, x_iand, x_ior, x_ixor, x_ishl, x_ishr, x_iushr, x_ineg, x_ladd, x_lsub, x_lmul, x_ldiv, x_lrem, x_lcmp, x_i2l, x_i2b, x_i2s, x_i2c, x_dup, x_pop, x_dup_x1, x_dup2, x_getfield, x_putfield, x_iaload, x_baload, x_saload, x_caload, x_daload, x_faload, x_laload, x_aaload, x_iastore, x_bastore, x_sastore, x_castore, x_lastore, x_aastore, x_arraylength, x_getstatic, x_goto, x_goto_w, x_ifCond, x_if_icmp, x_ifnull, x_ifnonnull, x_lookupswitch, x_invokevirtual, x_invokestatic, x_invokedynamic, x_ireturn, x_freturn, x_dreturn, x_lreturn, x_areturn, x_return_, pI_c, pL_c, pR_c, pV_i, pV_r, gI_c, gL_c, gR_c, pN_z, pN_s, lget_c, lins_z, lins_c, ldel_z, ldel_c, ldel2_z, ldel2_c, lset_i, lset_l, lset_r, lkeep_z, lkeep_c, largs_z, largs_c, cat_i, cat_l, cat_r, lkp_c, cnd_eq, cnd_ne, cnd_lt, cnd_ge, cnd_gt, cnd_le, swL_z, swL_c, rE_e, rOr_s, rOr_n, rlk_z, rlk_c, aR_c, aI_c, aII_c, aIII_c, aRI_c, aRII_c, aRIII_c, vJn, vJs, vlc, aRR_c, aRRI_c, aRRII_c, aRRIII_c, aRIIII_c, aRL_c, aRLL_c, aLL_c, aRRRI_c, aIL_c, aIIII_c, aRRIIII_c, aIRII_c, aIR_c, aLI_c, aRIR_c, aRIIR_c, e2, hM.1.o, hM.1.f27, hM.1.f25, mpLay, RowT.spt hM.1, hM.1.t188, hM.1.l188, c4, w50, bk1]
          refine ⟨fun zw σ3 y1 y2 => ?_, fun zw => ?_⟩
          · have q2 := S2.q
            generalize hσ4 : up (up σ3 189 (2 * (k : Int)) i) 189 (2 * (k : Int) + 1) j = σ4
            have y3 : ∀ o, o ≠ 188 → o ≠ 189 → σ4 o = σ2 o := fun o a b => by rw [← hσ4, up_ne b, up_ne b, y1 o a]
            have y4 : σ4 188 = σ3 188 := by rw [← hσ4, up_ne (by omega), up_ne (by omega)]
            have y5 : ∀ x, σ4 189 x = if x = 2 * (k : Int) + 1 then (j : Int) else if x = 2 * (k : Int) then (i : Int) else σ2 189 x := fun x => by
              rw [← hσ4, up_ap, up_ap, y1 189 (by omega)]
              simp
            have S4 : CbF σ σ4 k := S2.tr ⟨fun o _ _ a b _ => y3 o a b, fun x _ _ => by rw [y3 175 (by omega) (by omega)], fun x hx => by rw [y4, y2, if_neg (by omega)], fun x hx => by rw [y5, if_neg (by omega), if_neg (by omega)]⟩
            have v4 : sgA (σ4 188) ((k + 1 : Nat) : Int) = fgtV F n (σ 175 2) V i j := by
              rw [← G.2]
              refine sgA_of (fun x x0 x1 => ?_)
              rw [y4, y2, if_pos ⟨by omega, by omega⟩]
              congr 1; omega
            have q4 := S4.q
            have n4 : nM σ4 = n := by rw [q4.n, hn]
            have e5 : σ4 175 2 = σ 175 2 := S4.2.1 2 (by omega) (by omega)
            have hW4 : WFV n (mM σ4) (fgtV F n (σ 175 2) V i j) := by rw [q4.m]; exact wf_fgtV hW hT
            have c5 : (k : Int) + 1 = ((k + 1 : Nat) : Int) := by omega
            have c6 : ((k : Int) + 1).toNat = k + 1 := by omega
            simp [sg_241_68_1, hN _, x_iconst, x_ldc2_w, x_aconst_null, x_iload, x_lload, x_aload, x_istore, x_lstore, x_astore, x_iinc, x_iadd, x_isub, x_imul, x_idiv, x_irem, x_iand, x_ior, x_ixor, x_ishl, x_ishr, x_iushr, x_ineg, x_ladd, x_lsub, x_lmul, x_ldiv, x_lrem, x_lcmp, x_i2l, x_i2b, x_i2s, x_i2c, x_dup, x_pop, x_dup_x1, x_dup2, x_getfield, x_putfield, x_iaload, x_baload, x_saload, x_caload, x_daload, x_faload, x_laload, x_aaload, x_iastore, x_bastore, x_sastore, x_castore, x_lastore, x_aastore, x_arraylength, x_getstatic, x_goto, x_goto_w, x_ifCond, x_if_icmp, x_ifnull, x_ifnonnull, x_lookupswitch, x_invokevirtual, x_invokestatic, x_invokedynamic, x_ireturn, x_freturn, x_dreturn, x_lreturn, x_areturn, x_return_, pI_c, pL_c, pR_c, pV_i, pV_r, gI_c, gL_c, gR_c, pN_z, pN_s, lget_c, lins_z, lins_c, ldel_z, ldel_c, ldel2_z, ldel2_c, lset_i, lset_l, lset_r, lkeep_z, lkeep_c, largs_z, largs_c, cat_i, cat_l, cat_r, lkp_c, cnd_eq, cnd_ne, cnd_lt, cnd_ge, cnd_gt, cnd_le, swL_z, swL_c, rE_e, rOr_s, rOr_n, rlk_z, rlk_c, aR_c, aI_c, aII_c, aIII_c, aRI_c, aRII_c, aRIII_c, vJn, vJs, vlc, aRR_c, aRRI_c, aRRII_c, aRRIII_c, aRIIII_c, aRL_c, aRLL_c, aLL_c, aRRRI_c, aIL_c, aIIII_c, aRRIIII_c, aIRII_c, aIR_c, aLI_c, aRIR_c, aRIIR_c, hM.1.o, hM.1.f26, hM.1.t189, hM.1.l189, w2k, w2k1, bl, c4, mpCb, hσ4, hs]
            refine ⟨⟨by omega, by omega, k3⟩, F, hR.cg q4.rs, q4.md hM, by rw [n4, c5, v4]; exact hW4, by rw [e5]; exact hT, fun σ5 h5 => ?_⟩
            rw [c5, v4, e5, n4]
            have S5 := S4.tr h5.dn
            cases hO : cbe s f (σ 175 2) F n r (fgtV F n (σ 175 2) V i j) with
            | none =>
              have K := nx σ5 S5 (by rw [hfij, if_pos zw, hO])
              show vcl _ _ _ _ _ _ _ _ _ _ _
              simp [sg_241_68_2, bs_241, hN _, x_iconst, x_ldc2_w, x_aconst_null, x_iload, x_lload, x_aload, x_istore, x_lstore, x_astore, x_iinc, x_iadd, x_isub, x_imul, x_idiv, x_irem, x_iand, x_ior, x_ixor, x_ishl, x_ishr, x_iushr, x_ineg, x_ladd, x_lsub, x_lmul, x_ldiv, x_lrem, x_lcmp, x_i2l, x_i2b, x_i2s, x_i2c, x_dup, x_pop, x_dup_x1, x_dup2, x_getfield, x_putfield, x_iaload, x_baload, x_saload, x_caload, x_daload, x_faload, x_laload, x_aaload, x_iastore, x_bastore, x_sastore, x_castore, x_lastore, x_aastore, x_arraylength, x_getstatic, x_goto, x_goto_w, x_ifCond, x_if_icmp, x_ifnull, x_ifnonnull, x_lookupswitch, x_invokevirtual, x_invokestatic, x_invokedynamic, x_ireturn, x_freturn, x_dreturn, x_lreturn, x_areturn, x_return_, pI_c, pL_c, pR_c, pV_i, pV_r, gI_c, gL_c, gR_c, pN_z, pN_s, lget_c, lins_z, lins_c, ldel_z, ldel_c, ldel2_z, ldel2_c, lset_i, lset_l, lset_r, lkeep_z, lkeep_c, largs_z, largs_c, cat_i, cat_l, cat_r, lkp_c, cnd_eq, cnd_ne, cnd_lt, cnd_ge, cnd_gt, cnd_le, swL_z, swL_c, rE_e, rOr_s, rOr_n, rlk_z, rlk_c, aR_c, aI_c, aII_c, aIII_c, aRI_c, aRII_c, aRIII_c, vJn, vJs, vlc, aRR_c, aRRI_c, aRRII_c, aRRIII_c, aRIIII_c, aRL_c, aRLL_c, aLL_c, aRRRI_c, aIL_c, aIIII_c, aRRIIII_c, aIRII_c, aIR_c, aLI_c, aRIR_c, aRIIR_c, e2]
              simpa using K
            | some L =>
              intro hL
              have hff : ff i j = some ((i : Int) :: (j : Int) :: L) := by rw [hfij, if_pos zw, hO]
              have hq := hQ σ5 S5
              have ep : pJ (ff i) (pI2 ff q (i + 1)) (p + 1) j = some ((i : Int) :: (j : Int) :: L) := by
                show (match ff i j with | some L => some L | none => pJ (ff i) (pI2 ff q (i + 1)) p (j + 1)) = _
                rw [hff]
              rw [ep] at hq
              have K := hq (fun x hx => by
                match x, hx with
                | 0, _ =>
                  show σ5 189 (2 * (k : Int) + (0 : Nat)) = (i : Int)
                  rw [h5.2.2.2 _ (by omega), y5, if_neg (by omega), if_pos (by omega)]
                | 1, _ =>
                  show σ5 189 (2 * (k : Int) + (1 : Nat)) = (j : Int)
                  rw [h5.2.2.2 _ (by omega), y5, if_pos (by omega)]
                | x + 2, hx =>
                  have := hL x (by simp at hx; omega)
                  rw [show 2 * (k : Int) + ((x + 2 : Nat) : Int) = 2 * ((k + 1 : Nat) : Int) + (x : Int) by omega, this]
                  rfl)
              show vcl _ _ _ _ _ _ _ _ _ _ _
              simp [sg_241_68_2, bs_241, hN _, x_iconst, x_ldc2_w, x_aconst_null, x_iload, x_lload, x_aload, x_istore, x_lstore, x_astore, x_iinc, x_iadd, x_isub, x_imul, x_idiv, x_irem, x_iand, x_ior, x_ixor, x_ishl, x_ishr, x_iushr, x_ineg, x_ladd, x_lsub, x_lmul, x_ldiv, x_lrem, x_lcmp, x_i2l, x_i2b, x_i2s, x_i2c, x_dup, x_pop, x_dup_x1, x_dup2, x_getfield, x_putfield, x_iaload, x_baload, x_saload, x_caload, x_daload, x_faload, x_laload, x_aaload, x_iastore, x_bastore, x_sastore, x_castore, x_lastore, x_aastore, x_arraylength, x_getstatic, x_goto, x_goto_w, x_ifCond, x_if_icmp, x_ifnull, x_ifnonnull, x_lookupswitch, x_invokevirtual, x_invokestatic, x_invokedynamic, x_ireturn, x_freturn, x_dreturn, x_lreturn, x_areturn, x_return_, pI_c, pL_c, pR_c, pV_i, pV_r, gI_c, gL_c, gR_c, pN_z, pN_s, lget_c, lins_z, lins_c, ldel_z, ldel_c, ldel2_z, ldel2_c, lset_i, lset_l, lset_r, lkeep_z, lkeep_c, largs_z, largs_c, cat_i, cat_l, cat_r, lkp_c, cnd_eq, cnd_ne, cnd_lt, cnd_ge, cnd_gt, cnd_le, swL_z, swL_c, rE_e, rOr_s, rOr_n, rlk_z, rlk_c, aR_c, aI_c, aII_c, aIII_c, aRI_c, aRII_c, aRIII_c, vJn, vJs, vlc, aRR_c, aRRI_c, aRRII_c, aRRIII_c, aRIIII_c, aRL_c, aRLL_c, aLL_c, aRRRI_c, aIL_c, aIIII_c, aRRIIII_c, aIRII_c, aIR_c, aLI_c, aRIR_c, aRIIR_c]
              exact K
          · exact nx σ2 S2 (by rw [hfij, if_neg (by omega)])
      have K := I q (i + 1) σ' (by omega) (by omega) hS hQ
      have z1 : σ' 175 1 = n := by rw [hS.2.1 1 (by omega) (by omega), z0]
      have e2 := w32_succ (k := i) (by omega); have i1 : ((i : Nat) : Int) < (n : Nat) := (by omega); have i1n : i < n := (by omega); have i1x : ¬ n ≤ i := (by omega)
      refine wa (by decide) (rgCs_ok hr) ts_241 30 (fun N hN => ?_)
      simp [bs_241, hN _, x_iconst, x_ldc2_w, x_aconst_null, x_iload, x_lload, x_aload, x_istore, x_lstore, x_astore, x_iinc, x_iadd, x_isub, x_imul, x_idiv, x_irem, x_iand, x_ior, x_ixor, x_ishl, x_ishr, x_iushr, x_ineg, x_ladd, x_lsub, x_lmul, x_ldiv, x_lrem, x_lcmp, x_i2l, x_i2b, x_i2s, x_i2c, x_dup, x_pop, x_dup_x1, x_dup2, x_getfield, x_putfield, x_iaload, x_baload, x_saload, x_caload, x_daload, x_faload, x_laload, x_aaload, x_iastore, x_bastore, x_sastore, x_castore, x_lastore, x_aastore, x_arraylength, x_getstatic, x_goto, x_goto_w, x_ifCond, x_if_icmp, x_ifnull, x_ifnonnull, x_lookupswitch, x_invokevirtual, x_invokestatic, x_invokedynamic, x_ireturn, x_freturn, x_dreturn, x_lreturn, x_areturn, x_return_, pI_c, pL_c, pR_c, pV_i, pV_r, gI_c, gL_c, gR_c, pN_z, pN_s, lget_c, lins_z, lins_c, ldel_z, ldel_c, ldel2_z, ldel2_c, lset_i, lset_l, lset_r, lkeep_z, lkeep_c, largs_z, largs_c, cat_i, cat_l, cat_r, lkp_c, cnd_eq, cnd_ne, cnd_lt, cnd_ge, cnd_gt, cnd_le, swL_z, swL_c, rE_e, rOr_s, rOr_n, rlk_z, rlk_c, aR_c, aI_c, aII_c, aIII_c, aRI_c, aRII_c, aRIII_c, vJn, vJs, vlc, aRR_c, aRRI_c, aRRII_c, aRRIII_c, aRIIII_c, aRL_c, aRLL_c, aLL_c, aRRRI_c, aIL_c, aIIII_c, aRRIIII_c, aIRII_c, aIR_c, aLI_c, aRIR_c, aRIIR_c, hM.1.o, z1, e2, i1, i1n, i1x]
      exact K
  refine wg (by decide) (rgCs_ok hr) ts_241 py_241 ml_241 30 (by simp [catT]) (fun N hN => ?_)
  simp [bs_241, hN _, x_iconst, x_ldc2_w, x_aconst_null, x_iload, x_lload, x_aload, x_istore, x_lstore, x_astore, x_iinc, x_iadd, x_isub, x_imul, x_idiv, x_irem, x_iand, x_ior, x_ixor, x_ishl, x_ishr, x_iushr, x_ineg, x_ladd, x_lsub, x_lmul, x_ldiv, x_lrem, x_lcmp, x_i2l, x_i2b, x_i2s, x_i2c, x_dup, x_pop, x_dup_x1, x_dup2, x_getfield, x_putfield, x_iaload, x_baload, x_saload, x_caload, x_daload, x_faload, x_laload, x_aaload, x_iastore, x_bastore, x_sastore, x_castore, x_lastore, x_aastore, x_arraylength, x_getstatic, x_goto, x_goto_w, x_ifCond, x_if_icmp, x_ifnull, x_ifnonnull, x_lookupswitch, x_invokevirtual, x_invokestatic, x_invokedynamic, x_ireturn, x_freturn, x_dreturn, x_lreturn, x_areturn, x_return_, pI_c, pL_c, pR_c, pV_i, pV_r, gI_c, gL_c, gR_c, pN_z, pN_s, lget_c, lins_z, lins_c, ldel_z, ldel_c, ldel2_z, ldel2_c, lset_i, lset_l, lset_r, lkeep_z, lkeep_c, largs_z, largs_c, cat_i, cat_l, cat_r, lkp_c, cnd_eq, cnd_ne, cnd_lt, cnd_ge, cnd_gt, cnd_le, swL_z, swL_c, rE_e, rOr_s, rOr_n, rlk_z, rlk_c, aR_c, aI_c, aII_c, aIII_c, aRI_c, aRII_c, aRIII_c, vJn, vJs, vlc, aRR_c, aRRI_c, aRRII_c, aRRIII_c, aRIIII_c, aRL_c, aRLL_c, aLL_c, aRRRI_c, aIL_c, aIIII_c, aRRIIII_c, aIRII_c, aIR_c, aLI_c, aRIR_c, aRIIR_c, hM.1.o, hM.1, mpLyD, hM.1.l188, bk]
  intro σ1 T1
  have S1 : CbF σ σ1 k := ⟨fun o _ _ _ _ a => T1.1 o a, fun j _ _ => by rw [T1.1 175 (by omega)], fun j _ => by rw [T1.1 188 (by omega)], fun j _ => by rw [T1.1 189 (by omega)]⟩
  have K := O n 0 σ1 (by omega) S1 h
  simp [sg_241_0_1, bs_241, hN _, x_iconst, x_ldc2_w, x_aconst_null, x_iload, x_lload, x_aload, x_istore, x_lstore, x_astore, x_iinc, x_iadd, x_isub, x_imul, x_idiv, x_irem, x_iand, x_ior, x_ixor, x_ishl, x_ishr, x_iushr, x_ineg, x_ladd, x_lsub, x_lmul, x_ldiv, x_lrem, x_lcmp, x_i2l, x_i2b, x_i2s, x_i2c, x_dup, x_pop, x_dup_x1, x_dup2, x_getfield, x_putfield, x_iaload, x_baload, x_saload, x_caload, x_daload, x_faload, x_laload, x_aaload, x_iastore, x_bastore, x_sastore, x_castore, x_lastore, x_aastore, x_arraylength, x_getstatic, x_goto, x_goto_w, x_ifCond, x_if_icmp, x_ifnull, x_ifnonnull, x_lookupswitch, x_invokevirtual, x_invokestatic, x_invokedynamic, x_ireturn, x_freturn, x_dreturn, x_lreturn, x_areturn, x_return_, pI_c, pL_c, pR_c, pV_i, pV_r, gI_c, gL_c, gR_c, pN_z, pN_s, lget_c, lins_z, lins_c, ldel_z, ldel_c, ldel2_z, ldel2_c, lset_i, lset_l, lset_r, lkeep_z, lkeep_c, largs_z, largs_c, cat_i, cat_l, cat_r, lkp_c, cnd_eq, cnd_ne, cnd_lt, cnd_ge, cnd_gt, cnd_le, swL_z, swL_c, rE_e, rOr_s, rOr_n, rlk_z, rlk_c, aR_c, aI_c, aII_c, aIII_c, aRI_c, aRII_c, aRIII_c, vJn, vJs, vlc, aRR_c, aRRI_c, aRRII_c, aRRIII_c, aRIIII_c, aRL_c, aRLL_c, aLL_c, aRRRI_c, aIL_c, aIIII_c, aRRIIII_c, aIRII_c, aIR_c, aLI_c, aRIR_c, aRIIR_c, c1]
  exact K
