/-! the search goes deeper -/
theorem rgRs_ok {l : Launch} {g : GE} {d r : Nat} (hr : ∀ as t σ Q, hpReach r as t σ Q → WPc l g 74 (d + 8 + r) 0 0 as t σ Q) : ∀ e as t σ Q, rE l g (d + 8 + r) ((74, hpReach r) :: rgRe) e as t σ Q → WPc l g e (d + 8 + r) 0 0 as t σ Q :=
  rE_cons hr (by have := rgRe_ok (l := l) (g := g) (d := d + 1 + r); rwa [show d + 1 + r + 7 = d + 8 + r by omega] at this)
theorem fgt_w {F : (Int → Int) → Int} {n : Nat} {k : Int} {V : Int → Int} {i j : Int} (h : 0 ≤ winA F n V i j) : fgtV F n k V i j = strikeV k V (winA F n V i j) (if winA F n V i j = i then j else i) := by
  unfold fgtV; rw [if_neg (by omega)]
set_option maxHeartbeats 2000000 in
theorem h_reachS {l : Launch} {g : GE} {d r : Nat} (hr : ∀ as t σ Q, hpReach r as t σ Q → WPc l g 74 (d + 8 + r) 0 0 as t σ Q) {as : List TV} {t : Tau} {σ : Mem} {Q : Post} (h0 : hpReach (r + 1) as t σ Q) : WPc l g 74 (d + 8 + r + 1) 0 0 as t σ Q := by
  obtain ⟨a, k', m, rfl, rfl, ⟨k0, rfl, k3⟩, F, hSr, h⟩ := aRII_e h0
  clear h0
  obtain ⟨k, rfl⟩ : ∃ n : Nat, k' = n := ⟨k'.toNat, by omega⟩
  simp only [Int.toNat_natCast] at hSr h
  have k2 : k ≤ 2 := by omega
  have k4 : (k : Int) < 4 := by omega
  have k4n : k < 4 := by omega
  have a1 : (129 : Int) + 7 * (k : Int) = lvA k := rfl
  have n1 : ¬ lvA k = -1 := by unfold lvA; omega
  have c1 : (k : Int) < k + (r + 1 : Nat) := by omega
  have c2 : w32 ((k : Int) + (r + 1 : Nat) - k) = ((r + 1 : Nat) : Int) := by rw [w32_id (by omega) (by omega)]; omega
  have c3 : ((r + 1 : Nat) : Int) ≤ 3 := by omega
  have c4 := w32_succ (k := k) (by omega)
  generalize hM : (k : Int) + (r + 1 : Nat) = mm at c1 c2 k3 ⊢
  have hSr0 := hSr
  obtain ⟨hC, hL, hs, hA, hkk, hrr, hR⟩ := hSr
  have n6 := hs.2.2.1
  have z0 := hs.2.1
  generalize hn : nS σ (lvA k) = n at n6 z0
  generalize hV : vwS σ (lvA k) = V
  have hsr : srV σ F k (r + 1) = if farB (σ 126 4) (σ 126 5) (σ 126 3) n V (r + 1) then none else pI2 (srS (srch (σ 126 4) (σ 126 5) (σ 126 3) F n r) (σ 126 4) (σ 126 3) F n r V) n 0 := by
    unfold srV; rw [hn, hV]; rfl
  rw [hsr] at h
  by_cases hfar : farB (σ 126 4) (σ 126 5) (σ 126 3) n V (r + 1) = true
  · rw [if_pos hfar] at h
    have h : Q (some (vI 0)) t σ := h σ SrF.rf
    refine wg (by decide) (rgRs_ok hr) ts_74 py_74 ml_74 30 (by simp [catT]) (fun N hN => ?_)
    simp [bs_74, hN _, x_iconst, x_ldc2_w, x_aconst_null, x_iload, x_lload, x_aload, x_istore, x_lstore, x_astore, x_iinc, x_iadd, x_isub, x_imul, x_idiv, x_irem, x_iand, x_ior, x_ixor, x_ishl, x_ishr, x_iushr, x_ineg, x_ladd, x_lsub, x_lmul, x_ldiv, x_lrem, x_lcmp, x_i2l, x_i2b, x_i2s, x_i2c, x_dup, x_pop, x_dup_x1, x_dup2, x_getfield, x_putfield, x_iaload, x_baload, x_saload, x_caload, x_daload, x_faload, x_laload, x_aaload, x_iastore, x_bastore, x_sastore, x_castore, x_lastore, x_aastore, x_arraylength, x_getstatic, x_goto, x_goto_w, x_ifCond, x_if_icmp, x_ifnull, x_ifnonnull, x_lookupswitch, x_invokevirtual, x_invokestatic, x_invokedynamic, x_ireturn, x_freturn, x_dreturn, x_lreturn, x_areturn, x_return_, pI_c, pL_c, pR_c, pV_i, pV_r, gI_c, gL_c, gR_c, pN_z, pN_s, lget_c, lins_z, lins_c, ldel_z, ldel_c, ldel2_z, ldel2_c, lset_i, lset_l, lset_r, lkeep_z, lkeep_c, largs_z, largs_c, cat_i, cat_l, cat_r, lkp_c, cnd_eq, cnd_ne, cnd_lt, cnd_ge, cnd_gt, cnd_le, swL_z, swL_c, rE_e, rOr_s, rOr_n, rlk_z, rlk_c, aR_c, aI_c, aII_c, aIII_c, aRI_c, aRII_c, aRIII_c, vJn, vJs, vlc, aRR_c, aRRI_c, aRRII_c, aRRIII_c, aRIIII_c, aRL_c, aRLL_c, aLL_c, aRRRI_c, aIL_c, aIIII_c, aRRIIII_c, aIRII_c, aIR_c, aLI_c, aRIR_c, aRIIR_c, hC.o0, hC.f0_0, hC.f0_1, hC.f0_2, hC.f0_3, hC.f0_4, hC.f0_5, hC.f0_6, hC.f0_7, hC.f0_8, hC.f0_9, hC.f0_10, hC.f0_11, hC.o1, hC.f1, hC.t2, hC.l2, hC.o3, hC.f3, hC.t4, hC.l4, hC.s5, hC.s12, hC.s19, hC.s112, hC.s119, hC.o26, hC.f26, hC.t27, hC.l27, hC.s28, hC.o126, hC.f126_0, hC.f126_1, hC.t127, hC.l127, hC.t128, hC.l128, hC.s129, hC.n157, hC.n161, hC.o165, hC.f165, hC.t166, hC.l166, hC.r167, hC.r171, hC.q5, hC.q12, hC.q19, hC.q112, hC.q119, hC.a2, hC.a4, hC.a27, hC.a127, hC.a128, hC, hpLevel, hL, k4, k4n, a1, n1, c1, Int.not_le.mpr c1, c2, hpFar, hs, hA, hkk]
    refine ⟨by omega, ?_⟩
    rw [hn, hV, hfar]
    simpa using h
  · rw [if_neg hfar] at h
    generalize hf : srS (srch (σ 126 4) (σ 126 5) (σ 126 3) F n r) (σ 126 4) (σ 126 3) F n r V = f at h
    have O : ∀ (q i : Nat) (σ' : Mem), i + q = n → SrF σ σ' k → (∀ σ'', SrF σ σ'' k → srP (pI2 f q i) k t Q σ'') → Wp l g 74 (d + 8 + r + 1) 0 0 49 [(0, vR 126), (1, vI k), (2, vI mm), (3, vR (lvA k)), (4, vI i)] [] t σ' Q := by
      intro q
      induction q with
      | zero =>
        intro i σ' hi hS hQ
        obtain rfl : i = n := by omega
        obtain ⟨⟨-, -, s3, -⟩, e1, -, -, -⟩ := hS.ok (by omega) hSr0
        have z1 := s3.2.1
        rw [e1, hn] at z1
        refine wa (by decide) (rgRs_ok hr) ts_74 30 (fun N hN => ?_)
        simp [bs_74, hN _, x_iconst, x_ldc2_w, x_aconst_null, x_iload, x_lload, x_aload, x_istore, x_lstore, x_astore, x_iinc, x_iadd, x_isub, x_imul, x_idiv, x_irem, x_iand, x_ior, x_ixor, x_ishl, x_ishr, x_iushr, x_ineg, x_ladd, x_lsub, x_lmul, x_ldiv, x_lrem, x_lcmp, x_i2l, x_i2b, x_i2s, x_i2c, x_dup, x_pop, x_dup_x1, x_dup2, x_getfield, x_putfield, x_iaload, x_baload, x_saload, x_caload, x_daload, x_faload, x_laload, x_aaload, x_iastore, x_bastore, x_sastore, x_castore, x_lastore, x_aastore, x_arraylength, x_getstatic, x_goto, x_goto_w, x_ifCond, x_if_icmp, x_ifnull, x_ifnonnull, x_lookupswitch, x_invokevirtual, x_invokestatic, x_invokedynamic, x_ireturn, x_freturn, x_dreturn, x_lreturn, x_areturn, x_return_, pI_c, pL_c, pR_c, pV_i, pV_r, gI_c, gL_c, gR_c, pN_z, pN_s, lget_c, lins_z, lins_c, ldel_z, ldel_c, ldel2_z, ldel2_c, lset_i, lset_l, lset_r, lkeep_z, lkeep_c, largs_z, largs_c, cat_i, cat_l, cat_r, lkp_c, cnd_eq, cnd_ne, cnd_lt, cnd_ge, cnd_gt, cnd_le, swL_z, swL_c, rE_e, rOr_s, rOr_n, rlk_z, rlk_c, aR_c, aI_c, aII_c, aIII_c, aRI_c, aRII_c, aRIII_c, vJn, vJs, vlc, aRR_c, aRRI_c, aRRII_c, aRRIII_c, aRIIII_c, aRL_c, aRLL_c, aLL_c, aRRRI_c, aIL_c, aIIII_c, aRRIIII_c, aIRII_c, aIR_c, aLI_c, aRIR_c, aRIIR_c, s3.1.1, z1]
        exact hQ σ' hS
      | succ q ih =>
        intro i σ' hi hS hQ
        have I : ∀ (p j : Nat) (σ' : Mem), j + p = n → i < j → SrF σ σ' k → (∀ σ'', SrF σ σ'' k → srP (pJ (f i) (pI2 f q (i + 1)) p j) k t Q σ'') → Wp l g 74 (d + 8 + r + 1) 0 0 64 [(0, vR 126), (1, vI k), (2, vI mm), (3, vR (lvA k)), (4, vI i), (5, vI j)] [] t σ' Q := by
          intro p
          induction p with
          | zero =>
            intro j σ' hj hij hS hQ
            obtain rfl : j = n := by omega
            have K := ih (i + 1) σ' (by omega) hS hQ
            obtain ⟨⟨-, -, s3, -⟩, e1, -, -, -⟩ := hS.ok (by omega) hSr0
            have z1 := s3.2.1
            rw [e1, hn] at z1
            have e2 := w32_succ (k := i) (by omega)
            refine wa (by decide) (rgRs_ok hr) ts_74 30 (fun N hN => ?_)
            simp [bs_74, hN _, x_iconst, x_ldc2_w, x_aconst_null, x_iload, x_lload, x_aload, x_istore, x_lstore, x_astore, x_iinc, x_iadd, x_isub, x_imul, x_idiv, x_irem, x_iand, x_ior, x_ixor, x_ishl, x_ishr, x_iushr, x_ineg, x_ladd, x_lsub, x_lmul, x_ldiv, x_lrem, x_lcmp, x_i2l, x_i2b, x_i2s, x_i2c, x_dup, x_pop, x_dup_x1, x_dup2, x_getfield, x_putfield, x_iaload, x_baload, x_saload, x_caload, x_daload, x_faload, x_laload, x_aaload, x_iastore, x_bastore, x_sastore, x_castore, x_lastore, x_aastore, x_arraylength, x_getstatic, x_goto, x_goto_w, x_ifCond, x_if_icmp, x_ifnull, x_ifnonnull, x_lookupswitch, x_invokevirtual, x_invokestatic, x_invokedynamic, x_ireturn, x_freturn, x_dreturn, x_lreturn, x_areturn, x_return_, pI_c, pL_c, pR_c, pV_i, pV_r, gI_c, gL_c, gR_c, pN_z, pN_s, lget_c, lins_z, lins_c, ldel_z, ldel_c, ldel2_z, ldel2_c, lset_i, lset_l, lset_r, lkeep_z, lkeep_c, largs_z, largs_c, cat_i, cat_l, cat_r, lkp_c, cnd_eq, cnd_ne, cnd_lt, cnd_ge, cnd_gt, cnd_le, swL_z, swL_c, rE_e, rOr_s, rOr_n, rlk_z, rlk_c, aR_c, aI_c, aII_c, aIII_c, aRI_c, aRII_c, aRIII_c, vJn, vJs, vlc, aRR_c, aRRI_c, aRRII_c, aRRIII_c, aRIIII_c, aRL_c, aRLL_c, aLL_c, aRRRI_c, aIL_c, aIIII_c, aRRIIII_c, aIRII_c, aIR_c, aLI_c, aRIR_c, aRIIR_c, s3.1.1, z1, e2]
            exact K
          | succ p ihp =>
            intro j σ' hj hij hS hQ
            have e2 := w32_succ (k := j) (by omega); have i1 : ((j : Nat) : Int) < (n : Nat) := (by omega); have i1n : j < n := (by omega); have i1x : ¬ n ≤ j := (by omega)
            have hSk := hS.ok (by omega) hSr0
            obtain ⟨⟨-, s2, s3, s4, s5, s6, s7⟩, g1, g2, g3, g4⟩ := hSk
            have z1 := s3.2.1
            rw [g1, hn] at z1
            rw [g4] at s4 s5 s6 s7
            have nx : ∀ σ'', SrF σ σ'' k → f i j = none → Wp l g 74 (d + 8 + r + 1) 0 0 64 [(0, vR 126), (1, vI k), (2, vI mm), (3, vR (lvA k)), (4, vI i), (5, vI (j + 1 : Nat))] [] t σ'' Q := fun σ'' hS'' hfn => by
              refine ihp (j + 1) σ'' (by omega) (by omega) hS'' (fun σ3 h3 => ?_)
              have := hQ σ3 h3
              have ep : pJ (f i) (pI2 f q (i + 1)) (p + 1) j = pJ (f i) (pI2 f q (i + 1)) p (j + 1) := by
                show (match f i j with | some L => some L | none => pJ (f i) (pI2 f q (i + 1)) p (j + 1)) = _
                rw [hfn]
              rwa [ep] at this
            have hfij : f i j = if useB (σ 126 4) i j (r + 1) = true ∧ 0 ≤ winA F n V i j then (match srch (σ 126 4) (σ 126 5) (σ 126 3) F n r (fgtV F n (σ 126 3) V i j) with | some L => some ((i : Int) :: (j : Int) :: L) | none => none) else none := by rw [← hf]; rfl
            refine wa (by decide) (rgRs_ok hr) ts_74 30 (fun N hN => ?_)
            by_cases hu : useB (σ 126 4) i j (r + 1) = true
            · have hO : isO t (lvA k) 5 := s3.1.1
              simp [bs_74, hN _, x_iconst, x_ldc2_w, x_aconst_null, x_iload, x_lload, x_aload, x_istore, x_lstore, x_astore, x_iinc, x_iadd, x_isub, x_imul, x_idiv, x_irem, x_iand, x_ior, x_ixor, x_ishl, x_ishr, x_iushr, x_ineg, x_ladd, x_lsub, x_lmul, x_ldiv, x_lrem, x_lcmp, x_i2l, x_i2b, x_i2s, x_i2c, x_dup, x_pop, x_dup_x1, x_dup2, x_getfield, x_putfield, x_iaload, x_baload, x_saload, x_caload, x_daload, x_faload, x_laload, x_aaload, x_iastore, x_bastore, x_sastore, x_castore, x_lastore, x_aastore, x_arraylength, x_getstatic, x_goto, x_goto_w, x_ifCond, x_if_icmp, x_ifnull, x_ifnonnull, x_lookupswitch, x_invokevirtual, x_invokestatic, x_invokedynamic, x_ireturn, x_freturn, x_dreturn, x_lreturn, x_areturn, x_return_, pI_c, pL_c, pR_c, pV_i, pV_r, gI_c, gL_c, gR_c, pN_z, pN_s, lget_c, lins_z, lins_c, ldel_z, ldel_c, ldel2_z, ldel2_c, lset_i, lset_l, lset_r, lkeep_z, lkeep_c, largs_z, largs_c, cat_i, cat_l, cat_r, lkp_c, cnd_eq, cnd_ne, cnd_lt, cnd_ge, cnd_gt, cnd_le, swL_z, swL_c, rE_e, rOr_s, rOr_n, rlk_z, rlk_c, aR_c, aI_c, aII_c, aIII_c, aRI_c, aRII_c, aRIII_c, vJn, vJs, vlc, aRR_c, aRRI_c, aRRII_c, aRRIII_c, aRIIII_c, aRL_c, aRLL_c, aLL_c, aRRRI_c, aIL_c, aIIII_c, aRRIIII_c, aIRII_c, aIR_c, aLI_c, aRIR_c, aRIIR_c, hC.o0, hC.f0_0, hC.f0_1, hC.f0_2, hC.f0_3, hC.f0_4, hC.f0_5, hC.f0_6, hC.f0_7, hC.f0_8, hC.f0_9, hC.f0_10, hC.f0_11, hC.o1, hC.f1, hC.t2, hC.l2, hC.o3, hC.f3, hC.t4, hC.l4, hC.s5, hC.s12, hC.s19, hC.s112, hC.s119, hC.o26, hC.f26, hC.t27, hC.l27, hC.s28, hC.o126, hC.f126_0, hC.f126_1, hC.t127, hC.l127, hC.t128, hC.l128, hC.s129, hC.n157, hC.n161, hC.o165, hC.f165, hC.t166, hC.l166, hC.r167, hC.r171, hC.q5, hC.q12, hC.q19, hC.q112, hC.q119, hC.a2, hC.a4, hC.a27, hC.a127, hC.a128, hC, hO, z1, e2, i1, i1n, i1x, hpUse, c2, g4]
              refine ⟨by omega, ?_⟩
              rw [hu]
              simp [apWinner, s3]
              refine ⟨F, s7, by rcases hrr with e | e <;> rw [e] <;> unfold lvA <;> omega, s3, fun σ1 w1 => ?_⟩
              rw [g1, hn, g3, hV]
              have hS1 : SrF σ σ1 k := hS.tr ⟨fun o a b c e => w1 o (by rcases hrr with e' | e' <;> rw [e'] <;> omega), fun j hj => by rw [w1 128 (by rcases hrr with e' | e' <;> rw [e'] <;> omega)]⟩
              have hcs := winA_c (F := F) (n := n) (V := V) (i := i) (j := j)
              generalize hw : winA F n V i j = w at hcs hfij
              obtain ⟨⟨-, v2, v3, v4, v5, v6, v7⟩, y1, y2, y3, y4⟩ := hS1.ok (by omega) hSr0
              rw [y4] at v4 v5 v6 v7
              rw [hn] at y1
              rw [hV] at y3
              simp [sg_74_90_1, bs_74, hN _, x_iconst, x_ldc2_w, x_aconst_null, x_iload, x_lload, x_aload, x_istore, x_lstore, x_astore, x_iinc, x_iadd, x_isub, x_imul, x_idiv, x_irem, x_iand, x_ior, x_ixor, x_ishl, x_ishr, x_iushr, x_ineg, x_ladd, x_lsub, x_lmul, x_ldiv, x_lrem, x_lcmp, x_i2l, x_i2b, x_i2s, x_i2c, x_dup, x_pop, x_dup_x1, x_dup2, x_getfield, x_putfield, x_iaload, x_baload, x_saload, x_caload, x_daload, x_faload, x_laload, x_aaload, x_iastore, x_bastore, x_sastore, x_castore, x_lastore, x_aastore, x_arraylength, x_getstatic, x_goto, x_goto_w, x_ifCond, x_if_icmp, x_ifnull, x_ifnonnull, x_lookupswitch, x_invokevirtual, x_invokestatic, x_invokedynamic, x_ireturn, x_freturn, x_dreturn, x_lreturn, x_areturn, x_return_, pI_c, pL_c, pR_c, pV_i, pV_r, gI_c, gL_c, gR_c, pN_z, pN_s, lget_c, lins_z, lins_c, ldel_z, ldel_c, ldel2_z, ldel2_c, lset_i, lset_l, lset_r, lkeep_z, lkeep_c, largs_z, largs_c, cat_i, cat_l, cat_r, lkp_c, cnd_eq, cnd_ne, cnd_lt, cnd_ge, cnd_gt, cnd_le, swL_z, swL_c, rE_e, rOr_s, rOr_n, rlk_z, rlk_c, aR_c, aI_c, aII_c, aIII_c, aRI_c, aRII_c, aRIII_c, vJn, vJs, vlc, aRR_c, aRRI_c, aRRII_c, aRRIII_c, aRIIII_c, aRL_c, aRLL_c, aLL_c, aRRRI_c, aIL_c, aIIII_c, aRRIIII_c, aIRII_c, aIR_c, aLI_c, aRIR_c, aRIIR_c, hC.o0, hC.f0_0, hC.f0_1, hC.f0_2, hC.f0_3, hC.f0_4, hC.f0_5, hC.f0_6, hC.f0_7, hC.f0_8, hC.f0_9, hC.f0_10, hC.f0_11, hC.o1, hC.f1, hC.t2, hC.l2, hC.o3, hC.f3, hC.t4, hC.l4, hC.s5, hC.s12, hC.s19, hC.s112, hC.s119, hC.o26, hC.f26, hC.t27, hC.l27, hC.s28, hC.o126, hC.f126_0, hC.f126_1, hC.t127, hC.l127, hC.t128, hC.l128, hC.s129, hC.n157, hC.n161, hC.o165, hC.f165, hC.t166, hC.l166, hC.r167, hC.r171, hC.q5, hC.q12, hC.q19, hC.q112, hC.q119, hC.a2, hC.a4, hC.a27, hC.a127, hC.a128, hC, e2]
              refine ⟨fun zw => ?_, fun zw => ?_⟩
              · exact nx σ1 hS1 (by rw [hfij, if_neg (by omega)])
              · obtain ⟨⟨hi, hj', hne⟩, h6, hc⟩ := hcs zw
                have gst : ∀ (b : Int), (w = i ∧ b = j) ∨ (w = j ∧ b = i) → ∀ σ2, GoTo t σ1 σ2 k w b → SrF σ σ2 k ∧ SrOk t σ2 F (k + 1) ∧ (∀ σ3, SrF σ2 σ3 (k + 1) → (srV σ2 F (k + 1) r = none → f i j = none) ∧ (∀ L, srV σ2 F (k + 1) r = some L → StIs σ3 (k + 1) L → f i j = some ((i : Int) :: (j : Int) :: L) ∧ StIs σ3 k ((i : Int) :: (j : Int) :: L))) := by
                  rintro b hwb σ2 ⟨G1, ⟨G2, G3, G4, G5⟩, G6⟩
                  have hlk : lvA (k + 1) = lvA k + 7 ∧ 129 ≤ lvA k ∧ lvA (k + 1 + 1) = lvA k + 14 ∧ lvA k ≤ 143 := by unfold lvA; omega
                  have q126 : σ2 126 = σ 126 := by rw [G1 126 (by omega) (by omega), y4]
                  have hS2 : SrF σ σ2 k := hS1.tr ⟨fun o a b c e => G1 o (by omega) b, fun j hj => by rw [G6, upv_n (by omega), upv_n (by omega)]⟩
                  have hn2 : nS σ2 (lvA (k + 1)) = n := by rw [G3, y1]
                  have hv2 : vwS σ2 (lvA (k + 1)) = fgtV F n (σ 126 3) V i j := by
                    rw [G5, y3, y4, fgt_w (by rw [hw]; exact zw), hw]
                    congr 1
                    rcases hwb with ⟨e1, e2⟩ | ⟨e1, e2⟩
                    · rw [if_pos e1, e2]
                    · rw [if_neg (by omega), e2]
                  have hsv : srV σ2 F (k + 1) r = srch (σ 126 4) (σ 126 5) (σ 126 3) F n r (fgtV F n (σ 126 3) V i j) := by
                    unfold srV; rw [hn2, hv2, q126]
                  have hfw : f i j = (match srV σ2 F (k + 1) r with | some L => some ((i : Int) :: (j : Int) :: L) | none => none) := by rw [hfij, if_pos ⟨hu, zw⟩, hsv]
                  refine ⟨hS2, ⟨hC, fun k' a b => by rw [G1 127 (by omega) (by omega)]; exact v2 k' a b, G2, by rw [hn2, q126, ← hn, ← g1]; exact s4, by rw [q126]; exact s5, by rw [q126]; exact s6, ?_⟩, fun σ3 h3 => ⟨fun hz => by rw [hfw, hz], fun L hL hSt => ⟨by rw [hfw, hL], ?_⟩⟩⟩
                  · rw [q126]
                    exact v7.cg (G1 _ (by rcases s6 with e | e <;> rw [e] <;> omega) (by rcases s6 with e | e <;> rw [e] <;> omega)) (G1 _ (by rcases s6 with e | e <;> rw [e] <;> omega) (by rcases s6 with e | e <;> rw [e] <;> omega))
                  · intro x hx
                    have hmn : min w b = i ∧ max w b = j := by rcases hwb with ⟨e1, e2⟩ | ⟨e1, e2⟩ <;> omega
                    match x, hx with
                    | 0, _ =>
                      show σ3 128 (2 * (k : Int) + (0 : Nat)) = (i : Int)
                      rw [h3.2 _ (by omega), G6, upv_n (by omega)]
                      rw [show 2 * (k : Int) + ((0 : Nat) : Int) = 2 * (k : Int) by omega, upv_s, hmn.1]
                    | 1, _ =>
                      show σ3 128 (2 * (k : Int) + (1 : Nat)) = (j : Int)
                      rw [h3.2 _ (by omega), G6]
                      rw [show 2 * (k : Int) + ((1 : Nat) : Int) = 2 * (k : Int) + 1 by omega, upv_s, hmn.2]
                    | x + 2, hx =>
                      have := hSt x (by simp at hx; omega)
                      rw [show 2 * (k : Int) + ((x + 2 : Nat) : Int) = 2 * ((k + 1 : Nat) : Int) + (x : Int) by omega, this]
                      rfl
                have fin : ∀ σ2 σ3, SrF σ σ2 k → SrF σ2 σ3 (k + 1) → (∀ L, srV σ2 F (k + 1) r = some L → f i j = some ((i : Int) :: (j : Int) :: L) ∧ StIs σ3 k ((i : Int) :: (j : Int) :: L)) → (∃ L, srV σ2 F (k + 1) r = some L) → Q (some (vI 1)) t σ3 := by
                  rintro σ2 σ3 h2 h3 hh ⟨L, hL⟩
                  obtain ⟨e1, e2⟩ := hh L hL
                  have hq := hQ σ3 (h2.tr h3.dn)
                  have ep : pJ (f i) (pI2 f q (i + 1)) (p + 1) j = some ((i : Int) :: (j : Int) :: L) := by
                    show (match f i j with | some L => some L | none => pJ (f i) (pI2 f q (i + 1)) p (j + 1)) = _
                    rw [e1]
                  rw [ep] at hq
                  exact hq e2
                have mm2 : mm = ((k : Int) + 1) + r := by omega
                simp only [hpGoes, aRIII_c, Int.toNat_natCast, y1, y3, y4, true_and]
                refine ⟨fun wi => ⟨hC, v2, ⟨by omega, by omega⟩, v3, ⟨zw, by omega⟩, hi, ?_, v5, fun σ2 G => ?_⟩, fun wi => ⟨hC, v2, ⟨by omega, by omega⟩, v3, ⟨zw, by omega⟩, hj', ?_, v5, fun σ2 G => ?_⟩⟩
                · rw [show w = j by omega]; exact fun z => h6 z.symm
                · obtain ⟨A1, A2, A3⟩ := gst _ (Or.inr ⟨by omega, rfl⟩) σ2 G
                  have c5 : (k : Int) + 1 = ((k + 1 : Nat) : Int) := by omega
                  simp [sg_74_125_1, hN _, x_iconst, x_ldc2_w, x_aconst_null, x_iload, x_lload, x_aload, x_istore, x_lstore, x_astore, x_iinc, x_iadd, x_isub, x_imul, x_idiv, x_irem, x_iand, x_ior, x_ixor, x_ishl, x_ishr, x_iushr, x_ineg, x_ladd, x_lsub, x_lmul, x_ldiv, x_lrem, x_lcmp, x_i2l, x_i2b, x_i2s, x_i2c, x_dup, x_pop, x_dup_x1, x_dup2, x_getfield, x_putfield, x_iaload, x_baload, x_saload, x_caload, x_daload, x_faload, x_laload, x_aaload, x_iastore, x_bastore, x_sastore, x_castore, x_lastore, x_aastore, x_arraylength, x_getstatic, x_goto, x_goto_w, x_ifCond, x_if_icmp, x_ifnull, x_ifnonnull, x_lookupswitch, x_invokevirtual, x_invokestatic, x_invokedynamic, x_ireturn, x_freturn, x_dreturn, x_lreturn, x_areturn, x_return_, pI_c, pL_c, pR_c, pV_i, pV_r, gI_c, gL_c, gR_c, pN_z, pN_s, lget_c, lins_z, lins_c, ldel_z, ldel_c, ldel2_z, ldel2_c, lset_i, lset_l, lset_r, lkeep_z, lkeep_c, largs_z, largs_c, cat_i, cat_l, cat_r, lkp_c, cnd_eq, cnd_ne, cnd_lt, cnd_ge, cnd_gt, cnd_le, swL_z, swL_c, rE_e, rOr_s, rOr_n, rlk_z, rlk_c, aR_c, aI_c, aII_c, aIII_c, aRI_c, aRII_c, aRIII_c, vJn, vJs, vlc, aRR_c, aRRI_c, aRRII_c, aRRIII_c, aRIIII_c, aRL_c, aRLL_c, aLL_c, aRRRI_c, aIL_c, aIIII_c, aRRIIII_c, aIRII_c, aIR_c, aLI_c, aRIR_c, aRIIR_c, hC.o0, hC.f0_0, hC.f0_1, hC.f0_2, hC.f0_3, hC.f0_4, hC.f0_5, hC.f0_6, hC.f0_7, hC.f0_8, hC.f0_9, hC.f0_10, hC.f0_11, hC.o1, hC.f1, hC.t2, hC.l2, hC.o3, hC.f3, hC.t4, hC.l4, hC.s5, hC.s12, hC.s19, hC.s112, hC.s119, hC.o26, hC.f26, hC.t27, hC.l27, hC.s28, hC.o126, hC.f126_0, hC.f126_1, hC.t127, hC.l127, hC.t128, hC.l128, hC.s129, hC.n157, hC.n161, hC.o165, hC.f165, hC.t166, hC.l166, hC.r167, hC.r171, hC.q5, hC.q12, hC.q19, hC.q112, hC.q119, hC.a2, hC.a4, hC.a27, hC.a127, hC.a128, hC, hpReach, c4]
                  refine ⟨⟨by omega, by omega, k3⟩, F, A2, fun σ3 h3 => ?_⟩
                  have A4 := A3 σ3 h3
                  have B := fin σ2 σ3 A1 h3
                  have h4 := A1.tr h3.dn
                  generalize hsv : srV σ2 F (k + 1) r = O at A4 B
                  cases O with
                  | none =>
                    have K := nx σ3 h4 (A4.1 rfl)
                    show vcl _ _ _ _ _ _ _ _ _ _ _
                    simp [sg_74_125_2, bs_74, hN _, x_iconst, x_ldc2_w, x_aconst_null, x_iload, x_lload, x_aload, x_istore, x_lstore, x_astore, x_iinc, x_iadd, x_isub, x_imul, x_idiv, x_irem, x_iand, x_ior, x_ixor, x_ishl, x_ishr, x_iushr, x_ineg, x_ladd, x_lsub, x_lmul, x_ldiv, x_lrem, x_lcmp, x_i2l, x_i2b, x_i2s, x_i2c, x_dup, x_pop, x_dup_x1, x_dup2, x_getfield, x_putfield, x_iaload, x_baload, x_saload, x_caload, x_daload, x_faload, x_laload, x_aaload, x_iastore, x_bastore, x_sastore, x_castore, x_lastore, x_aastore, x_arraylength, x_getstatic, x_goto, x_goto_w, x_ifCond, x_if_icmp, x_ifnull, x_ifnonnull, x_lookupswitch, x_invokevirtual, x_invokestatic, x_invokedynamic, x_ireturn, x_freturn, x_dreturn, x_lreturn, x_areturn, x_return_, pI_c, pL_c, pR_c, pV_i, pV_r, gI_c, gL_c, gR_c, pN_z, pN_s, lget_c, lins_z, lins_c, ldel_z, ldel_c, ldel2_z, ldel2_c, lset_i, lset_l, lset_r, lkeep_z, lkeep_c, largs_z, largs_c, cat_i, cat_l, cat_r, lkp_c, cnd_eq, cnd_ne, cnd_lt, cnd_ge, cnd_gt, cnd_le, swL_z, swL_c, rE_e, rOr_s, rOr_n, rlk_z, rlk_c, aR_c, aI_c, aII_c, aIII_c, aRI_c, aRII_c, aRIII_c, vJn, vJs, vlc, aRR_c, aRRI_c, aRRII_c, aRRIII_c, aRIIII_c, aRL_c, aRLL_c, aLL_c, aRRRI_c, aIL_c, aIIII_c, aRRIIII_c, aIRII_c, aIR_c, aLI_c, aRIR_c, aRIIR_c, e2]
                    simpa using K
                  | some L =>
                    intro hSt
                    have K := B (fun L' hL' => A4.2 L' hL' (by cases hL'; exact hSt)) ⟨L, rfl⟩
                    show vcl _ _ _ _ _ _ _ _ _ _ _
                    simp [sg_74_125_2, bs_74, hN _, x_iconst, x_ldc2_w, x_aconst_null, x_iload, x_lload, x_aload, x_istore, x_lstore, x_astore, x_iinc, x_iadd, x_isub, x_imul, x_idiv, x_irem, x_iand, x_ior, x_ixor, x_ishl, x_ishr, x_iushr, x_ineg, x_ladd, x_lsub, x_lmul, x_ldiv, x_lrem, x_lcmp, x_i2l, x_i2b, x_i2s, x_i2c, x_dup, x_pop, x_dup_x1, x_dup2, x_getfield, x_putfield, x_iaload, x_baload, x_saload, x_caload, x_daload, x_faload, x_laload, x_aaload, x_iastore, x_bastore, x_sastore, x_castore, x_lastore, x_aastore, x_arraylength, x_getstatic, x_goto, x_goto_w, x_ifCond, x_if_icmp, x_ifnull, x_ifnonnull, x_lookupswitch, x_invokevirtual, x_invokestatic, x_invokedynamic, x_ireturn, x_freturn, x_dreturn, x_lreturn, x_areturn, x_return_, pI_c, pL_c, pR_c, pV_i, pV_r, gI_c, gL_c, gR_c, pN_z, pN_s, lget_c, lins_z, lins_c, ldel_z, ldel_c, ldel2_z, ldel2_c, lset_i, lset_l, lset_r, lkeep_z, lkeep_c, largs_z, largs_c, cat_i, cat_l, cat_r, lkp_c, cnd_eq, cnd_ne, cnd_lt, cnd_ge, cnd_gt, cnd_le, swL_z, swL_c, rE_e, rOr_s, rOr_n, rlk_z, rlk_c, aR_c, aI_c, aII_c, aIII_c, aRI_c, aRII_c, aRIII_c, vJn, vJs, vlc, aRR_c, aRRI_c, aRRII_c, aRRIII_c, aRIIII_c, aRL_c, aRLL_c, aLL_c, aRRRI_c, aIL_c, aIIII_c, aRRIIII_c, aIRII_c, aIR_c, aLI_c, aRIR_c, aRIIR_c]
                    exact K
                · rw [wi]; exact h6
                · obtain ⟨A1, A2, A3⟩ := gst _ (Or.inl ⟨by omega, rfl⟩) σ2 G
                  have c5 : (k : Int) + 1 = ((k + 1 : Nat) : Int) := by omega
                  simp [sg_74_127_1, hN _, x_iconst, x_ldc2_w, x_aconst_null, x_iload, x_lload, x_aload, x_istore, x_lstore, x_astore, x_iinc, x_iadd, x_isub, x_imul, x_idiv, x_irem, x_iand, x_ior, x_ixor, x_ishl, x_ishr, x_iushr, x_ineg, x_ladd, x_lsub, x_lmul, x_ldiv, x_lrem, x_lcmp, x_i2l, x_i2b, x_i2s, x_i2c, x_dup, x_pop, x_dup_x1, x_dup2, x_getfield, x_putfield, x_iaload, x_baload, x_saload, x_caload, x_daload, x_faload, x_laload, x_aaload, x_iastore, x_bastore, x_sastore, x_castore, x_lastore, x_aastore, x_arraylength, x_getstatic, x_goto, x_goto_w, x_ifCond, x_if_icmp, x_ifnull, x_ifnonnull, x_lookupswitch, x_invokevirtual, x_invokestatic, x_invokedynamic, x_ireturn, x_freturn, x_dreturn, x_lreturn, x_areturn, x_return_, pI_c, pL_c, pR_c, pV_i, pV_r, gI_c, gL_c, gR_c, pN_z, pN_s, lget_c, lins_z, lins_c, ldel_z, ldel_c, ldel2_z, ldel2_c, lset_i, lset_l, lset_r, lkeep_z, lkeep_c, largs_z, largs_c, cat_i, cat_l, cat_r, lkp_c, cnd_eq, cnd_ne, cnd_lt, cnd_ge, cnd_gt, cnd_le, swL_z, swL_c, rE_e, rOr_s, rOr_n, rlk_z, rlk_c, aR_c, aI_c, aII_c, aIII_c, aRI_c, aRII_c, aRIII_c, vJn, vJs, vlc, aRR_c, aRRI_c, aRRII_c, aRRIII_c, aRIIII_c, aRL_c, aRLL_c, aLL_c, aRRRI_c, aIL_c, aIIII_c, aRRIIII_c, aIRII_c, aIR_c, aLI_c, aRIR_c, aRIIR_c, hC.o0, hC.f0_0, hC.f0_1, hC.f0_2, hC.f0_3, hC.f0_4, hC.f0_5, hC.f0_6, hC.f0_7, hC.f0_8, hC.f0_9, hC.f0_10, hC.f0_11, hC.o1, hC.f1, hC.t2, hC.l2, hC.o3, hC.f3, hC.t4, hC.l4, hC.s5, hC.s12, hC.s19, hC.s112, hC.s119, hC.o26, hC.f26, hC.t27, hC.l27, hC.s28, hC.o126, hC.f126_0, hC.f126_1, hC.t127, hC.l127, hC.t128, hC.l128, hC.s129, hC.n157, hC.n161, hC.o165, hC.f165, hC.t166, hC.l166, hC.r167, hC.r171, hC.q5, hC.q12, hC.q19, hC.q112, hC.q119, hC.a2, hC.a4, hC.a27, hC.a127, hC.a128, hC, hpReach, c4]
                  refine ⟨⟨by omega, by omega, k3⟩, F, A2, fun σ3 h3 => ?_⟩
                  have A4 := A3 σ3 h3
                  have B := fin σ2 σ3 A1 h3
                  have h4 := A1.tr h3.dn
                  generalize hsv : srV σ2 F (k + 1) r = O at A4 B
                  cases O with
                  | none =>
                    have K := nx σ3 h4 (A4.1 rfl)
                    show vcl _ _ _ _ _ _ _ _ _ _ _
                    simp [sg_74_127_2, bs_74, hN _, x_iconst, x_ldc2_w, x_aconst_null, x_iload, x_lload, x_aload, x_istore, x_lstore, x_astore, x_iinc, x_iadd, x_isub, x_imul, x_idiv, x_irem, x_iand, x_ior, x_ixor, x_ishl, x_ishr, x_iushr, x_ineg, x_ladd, x_lsub, x_lmul, x_ldiv, x_lrem, x_lcmp, x_i2l, x_i2b, x_i2s, x_i2c, x_dup, x_pop, x_dup_x1, x_dup2, x_getfield, x_putfield, x_iaload, x_baload, x_saload, x_caload, x_daload, x_faload, x_laload, x_aaload, x_iastore, x_bastore, x_sastore, x_castore, x_lastore, x_aastore, x_arraylength, x_getstatic, x_goto, x_goto_w, x_ifCond, x_if_icmp, x_ifnull, x_ifnonnull, x_lookupswitch, x_invokevirtual, x_invokestatic, x_invokedynamic, x_ireturn, x_freturn, x_dreturn, x_lreturn, x_areturn, x_return_, pI_c, pL_c, pR_c, pV_i, pV_r, gI_c, gL_c, gR_c, pN_z, pN_s, lget_c, lins_z, lins_c, ldel_z, ldel_c, ldel2_z, ldel2_c, lset_i, lset_l, lset_r, lkeep_z, lkeep_c, largs_z, largs_c, cat_i, cat_l, cat_r, lkp_c, cnd_eq, cnd_ne, cnd_lt, cnd_ge, cnd_gt, cnd_le, swL_z, swL_c, rE_e, rOr_s, rOr_n, rlk_z, rlk_c, aR_c, aI_c, aII_c, aIII_c, aRI_c, aRII_c, aRIII_c, vJn, vJs, vlc, aRR_c, aRRI_c, aRRII_c, aRRIII_c, aRIIII_c, aRL_c, aRLL_c, aLL_c, aRRRI_c, aIL_c, aIIII_c, aRRIIII_c, aIRII_c, aIR_c, aLI_c, aRIR_c, aRIIR_c, e2]
                    simpa using K
                  | some L =>
                    intro hSt
                    have K := B (fun L' hL' => A4.2 L' hL' (by cases hL'; exact hSt)) ⟨L, rfl⟩
                    show vcl _ _ _ _ _ _ _ _ _ _ _
                    simp [sg_74_127_2, bs_74, hN _, x_iconst, x_ldc2_w, x_aconst_null, x_iload, x_lload, x_aload, x_istore, x_lstore, x_astore, x_iinc, x_iadd, x_isub, x_imul, x_idiv, x_irem, x_iand, x_ior, x_ixor, x_ishl, x_ishr, x_iushr, x_ineg, x_ladd, x_lsub, x_lmul, x_ldiv, x_lrem, x_lcmp, x_i2l, x_i2b, x_i2s, x_i2c, x_dup, x_pop, x_dup_x1, x_dup2, x_getfield, x_putfield, x_iaload, x_baload, x_saload, x_caload, x_daload, x_faload, x_laload, x_aaload, x_iastore, x_bastore, x_sastore, x_castore, x_lastore, x_aastore, x_arraylength, x_getstatic, x_goto, x_goto_w, x_ifCond, x_if_icmp, x_ifnull, x_ifnonnull, x_lookupswitch, x_invokevirtual, x_invokestatic, x_invokedynamic, x_ireturn, x_freturn, x_dreturn, x_lreturn, x_areturn, x_return_, pI_c, pL_c, pR_c, pV_i, pV_r, gI_c, gL_c, gR_c, pN_z, pN_s, lget_c, lins_z, lins_c, ldel_z, ldel_c, ldel2_z, ldel2_c, lset_i, lset_l, lset_r, lkeep_z, lkeep_c, largs_z, largs_c, cat_i, cat_l, cat_r, lkp_c, cnd_eq, cnd_ne, cnd_lt, cnd_ge, cnd_gt, cnd_le, swL_z, swL_c, rE_e, rOr_s, rOr_n, rlk_z, rlk_c, aR_c, aI_c, aII_c, aIII_c, aRI_c, aRII_c, aRIII_c, vJn, vJs, vlc, aRR_c, aRRI_c, aRRII_c, aRRIII_c, aRIIII_c, aRL_c, aRLL_c, aLL_c, aRRRI_c, aIL_c, aIIII_c, aRRIIII_c, aIRII_c, aIR_c, aLI_c, aRIR_c, aRIIR_c]
                    exact K
            · have hO : isO t (lvA k) 5 := s3.1.1
              have hu' : useB (σ 126 4) i j (r + 1) = false := by simpa using hu
              simp [bs_74, hN _, x_iconst, x_ldc2_w, x_aconst_null, x_iload, x_lload, x_aload, x_istore, x_lstore, x_astore, x_iinc, x_iadd, x_isub, x_imul, x_idiv, x_irem, x_iand, x_ior, x_ixor, x_ishl, x_ishr, x_iushr, x_ineg, x_ladd, x_lsub, x_lmul, x_ldiv, x_lrem, x_lcmp, x_i2l, x_i2b, x_i2s, x_i2c, x_dup, x_pop, x_dup_x1, x_dup2, x_getfield, x_putfield, x_iaload, x_baload, x_saload, x_caload, x_daload, x_faload, x_laload, x_aaload, x_iastore, x_bastore, x_sastore, x_castore, x_lastore, x_aastore, x_arraylength, x_getstatic, x_goto, x_goto_w, x_ifCond, x_if_icmp, x_ifnull, x_ifnonnull, x_lookupswitch, x_invokevirtual, x_invokestatic, x_invokedynamic, x_ireturn, x_freturn, x_dreturn, x_lreturn, x_areturn, x_return_, pI_c, pL_c, pR_c, pV_i, pV_r, gI_c, gL_c, gR_c, pN_z, pN_s, lget_c, lins_z, lins_c, ldel_z, ldel_c, ldel2_z, ldel2_c, lset_i, lset_l, lset_r, lkeep_z, lkeep_c, largs_z, largs_c, cat_i, cat_l, cat_r, lkp_c, cnd_eq, cnd_ne, cnd_lt, cnd_ge, cnd_gt, cnd_le, swL_z, swL_c, rE_e, rOr_s, rOr_n, rlk_z, rlk_c, aR_c, aI_c, aII_c, aIII_c, aRI_c, aRII_c, aRIII_c, vJn, vJs, vlc, aRR_c, aRRI_c, aRRII_c, aRRIII_c, aRIIII_c, aRL_c, aRLL_c, aLL_c, aRRRI_c, aIL_c, aIIII_c, aRRIIII_c, aIRII_c, aIR_c, aLI_c, aRIR_c, aRIIR_c, hC.o0, hC.f0_0, hC.f0_1, hC.f0_2, hC.f0_3, hC.f0_4, hC.f0_5, hC.f0_6, hC.f0_7, hC.f0_8, hC.f0_9, hC.f0_10, hC.f0_11, hC.o1, hC.f1, hC.t2, hC.l2, hC.o3, hC.f3, hC.t4, hC.l4, hC.s5, hC.s12, hC.s19, hC.s112, hC.s119, hC.o26, hC.f26, hC.t27, hC.l27, hC.s28, hC.o126, hC.f126_0, hC.f126_1, hC.t127, hC.l127, hC.t128, hC.l128, hC.s129, hC.n157, hC.n161, hC.o165, hC.f165, hC.t166, hC.l166, hC.r167, hC.r171, hC.q5, hC.q12, hC.q19, hC.q112, hC.q119, hC.a2, hC.a4, hC.a27, hC.a127, hC.a128, hC, hO, z1, e2, i1, i1n, i1x, hpUse, c2, g4]
              refine ⟨by omega, ?_⟩
              rw [hu']
              have K := nx σ' hS (by rw [hfij, if_neg (fun z => hu z.1)])
              simpa using K
        have K := I q (i + 1) σ' (by omega) (by omega) hS hQ
        obtain ⟨⟨-, -, s3, -⟩, e1, -, -, -⟩ := hS.ok (by omega) hSr0
        have z1 := s3.2.1
        rw [e1, hn] at z1
        have e2 := w32_succ (k := i) (by omega); have i1 : ((i : Nat) : Int) < (n : Nat) := (by omega); have i1n : i < n := (by omega); have i1x : ¬ n ≤ i := (by omega)
        refine wa (by decide) (rgRs_ok hr) ts_74 30 (fun N hN => ?_)
        simp [bs_74, hN _, x_iconst, x_ldc2_w, x_aconst_null, x_iload, x_lload, x_aload, x_istore, x_lstore, x_astore, x_iinc, x_iadd, x_isub, x_imul, x_idiv, x_irem, x_iand, x_ior, x_ixor, x_ishl, x_ishr, x_iushr, x_ineg, x_ladd, x_lsub, x_lmul, x_ldiv, x_lrem, x_lcmp, x_i2l, x_i2b, x_i2s, x_i2c, x_dup, x_pop, x_dup_x1, x_dup2, x_getfield, x_putfield, x_iaload, x_baload, x_saload, x_caload, x_daload, x_faload, x_laload, x_aaload, x_iastore, x_bastore, x_sastore, x_castore, x_lastore, x_aastore, x_arraylength, x_getstatic, x_goto, x_goto_w, x_ifCond, x_if_icmp, x_ifnull, x_ifnonnull, x_lookupswitch, x_invokevirtual, x_invokestatic, x_invokedynamic, x_ireturn, x_freturn, x_dreturn, x_lreturn, x_areturn, x_return_, pI_c, pL_c, pR_c, pV_i, pV_r, gI_c, gL_c, gR_c, pN_z, pN_s, lget_c, lins_z, lins_c, ldel_z, ldel_c, ldel2_z, ldel2_c, lset_i, lset_l, lset_r, lkeep_z, lkeep_c, largs_z, largs_c, cat_i, cat_l, cat_r, lkp_c, cnd_eq, cnd_ne, cnd_lt, cnd_ge, cnd_gt, cnd_le, swL_z, swL_c, rE_e, rOr_s, rOr_n, rlk_z, rlk_c, aR_c, aI_c, aII_c, aIII_c, aRI_c, aRII_c, aRIII_c, vJn, vJs, vlc, aRR_c, aRRI_c, aRRII_c, aRRIII_c, aRIIII_c, aRL_c, aRLL_c, aLL_c, aRRRI_c, aIL_c, aIIII_c, aRRIIII_c, aIRII_c, aIR_c, aLI_c, aRIR_c, aRIIR_c, s3.1.1, z1, e2, i1, i1n, i1x]
        exact K
    have K := O n 0 σ (by omega) SrF.rf h
    refine wg (by decide) (rgRs_ok hr) ts_74 py_74 ml_74 30 (by simp [catT]) (fun N hN => ?_)
    simp [bs_74, hN _, x_iconst, x_ldc2_w, x_aconst_null, x_iload, x_lload, x_aload, x_istore, x_lstore, x_astore, x_iinc, x_iadd, x_isub, x_imul, x_idiv, x_irem, x_iand, x_ior, x_ixor, x_ishl, x_ishr, x_iushr, x_ineg, x_ladd, x_lsub, x_lmul, x_ldiv, x_lrem, x_lcmp, x_i2l, x_i2b, x_i2s, x_i2c, x_dup, x_pop, x_dup_x1, x_dup2, x_getfield, x_putfield, x_iaload, x_baload, x_saload, x_caload, x_daload, x_faload, x_laload, x_aaload, x_iastore, x_bastore, x_sastore, x_castore, x_lastore, x_aastore, x_arraylength, x_getstatic, x_goto, x_goto_w, x_ifCond, x_if_icmp, x_ifnull, x_ifnonnull, x_lookupswitch, x_invokevirtual, x_invokestatic, x_invokedynamic, x_ireturn, x_freturn, x_dreturn, x_lreturn, x_areturn, x_return_, pI_c, pL_c, pR_c, pV_i, pV_r, gI_c, gL_c, gR_c, pN_z, pN_s, lget_c, lins_z, lins_c, ldel_z, ldel_c, ldel2_z, ldel2_c, lset_i, lset_l, lset_r, lkeep_z, lkeep_c, largs_z, largs_c, cat_i, cat_l, cat_r, lkp_c, cnd_eq, cnd_ne, cnd_lt, cnd_ge, cnd_gt, cnd_le, swL_z, swL_c, rE_e, rOr_s, rOr_n, rlk_z, rlk_c, aR_c, aI_c, aII_c, aIII_c, aRI_c, aRII_c, aRIII_c, vJn, vJs, vlc, aRR_c, aRRI_c, aRRII_c, aRRIII_c, aRIIII_c, aRL_c, aRLL_c, aLL_c, aRRRI_c, aIL_c, aIIII_c, aRRIIII_c, aIRII_c, aIR_c, aLI_c, aRIR_c, aRIIR_c, hC.o0, hC.f0_0, hC.f0_1, hC.f0_2, hC.f0_3, hC.f0_4, hC.f0_5, hC.f0_6, hC.f0_7, hC.f0_8, hC.f0_9, hC.f0_10, hC.f0_11, hC.o1, hC.f1, hC.t2, hC.l2, hC.o3, hC.f3, hC.t4, hC.l4, hC.s5, hC.s12, hC.s19, hC.s112, hC.s119, hC.o26, hC.f26, hC.t27, hC.l27, hC.s28, hC.o126, hC.f126_0, hC.f126_1, hC.t127, hC.l127, hC.t128, hC.l128, hC.s129, hC.n157, hC.n161, hC.o165, hC.f165, hC.t166, hC.l166, hC.r167, hC.r171, hC.q5, hC.q12, hC.q19, hC.q112, hC.q119, hC.a2, hC.a4, hC.a27, hC.a127, hC.a128, hC, hpLevel, hL, k4, k4n, a1, n1, c1, Int.not_le.mpr c1, c2, hpFar, hs, hA, hkk]
    refine ⟨by omega, ?_⟩
    rw [hn, hV]
    have hfar' : farB (σ 126 4) (σ 126 5) (σ 126 3) n V (r + 1) = false := by simpa using hfar
    rw [hfar']
    simpa using K
