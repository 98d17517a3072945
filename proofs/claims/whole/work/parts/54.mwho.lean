/-! the reference: who is what -/
theorem MK.st {t : Tau} {σ : Mem} (hk : MK t σ) {i : Int} (h0 : 0 ≤ i) (h1 : i < nM σ) : σ 176 i = vA σ 176 i ∧ σ 176 (6 + i) = vA σ 176 (6 + i) := by
  have := hk.1.2.2
  exact ⟨vA_at (by omega) (by omega), vA_at (by omega) (by omega)⟩
theorem sumP {n : Nat} {M V : Int → Int} (h : WFV n M V) {s : Int} (s0 : 0 ≤ s) (s1 : s < 4) : sumW (fun i => partV V i s) n = sumN (fun i => partV V i s) n :=
  sumW_eq n (by have := h.1; omega) (fun i i0 i1 => by have := h.pt i0 i1 s0 s1; omega)
theorem mo_fleet {l : Launch} {g : GE} {d : Nat} {t : Tau} {σ : Mem} {Q : Post} {s : Int} (hk : MK t σ) (h : ansM (fleetQ (nM σ) (vA σ 176) s) t σ Q) : WPc l g 224 (d + 6) 0 0 [vR 175, vI s] t σ Q := by
  have hk' := hk
  obtain ⟨hM, hW⟩ := hk
  have n6 := hM.2.2
  have z0 := hM.2.1
  unfold ansM fleetQ at h
  by_cases hs : 0 ≤ s ∧ s < 4
  · rw [if_pos hs] at h
    obtain ⟨s0, s1⟩ := hs
    have hsum := sumP hW s0 s1
    have K : Wp l g 224 (d + 6) 0 0 21 [(0, vR 175), (1, vI s), (2, vI (fleetF (vA σ 176) s 0).1), (3, vI (fleetF (vA σ 176) s 0).2), (4, vI (0 : Nat))] [] t (up σ 175 8 0) Q := by
      refine lpU (P := fun i => Wp l g 224 (d + 6) 0 0 21 [(0, vR 175), (1, vI s), (2, vI (fleetF (vA σ 176) s i).1), (3, vI (fleetF (vA σ 176) s i).2), (4, vI i)] [] t (up σ 175 8 0) Q) (n := nM σ) ?_ (fun i hi K => ?_)
      · refine wa (by decide) rgN_ok tk_224 30 (fun N hN => ?_)
        simp [bl_224, hN _, x_iconst, x_ldc2_w, x_aconst_null, x_iload, x_lload, x_aload, x_istore, x_lstore, x_astore, x_iinc, x_iadd, x_isub, x_imul, x_idiv, x_irem, x_iand, x_ior, x_ixor, x_ishl, x_ishr, x_iushr, x_ineg, x_ladd, x_lsub, x_lmul, x_ldiv, x_lrem, x_lcmp, x_i2l, x_i2b, x_i2s, x_i2c, x_dup, x_pop, x_dup_x1, x_dup2, x_getfield, x_putfield, x_iaload, x_baload, x_saload, x_caload, x_daload, x_faload, x_laload, x_aaload, x_iastore, x_bastore, x_sastore, x_castore, x_lastore, x_aastore, x_arraylength, x_getstatic, x_goto, x_goto_w, x_ifCond, x_if_icmp, x_ifnull, x_ifnonnull, x_lookupswitch, x_invokevirtual, x_invokestatic, x_invokedynamic, x_ireturn, x_freturn, x_dreturn, x_lreturn, x_areturn, x_return_, pI_c, pL_c, pR_c, pV_i, pV_r, gI_c, gL_c, gR_c, pN_z, pN_s, lget_c, lins_z, lins_c, ldel_z, ldel_c, ldel2_z, ldel2_c, lset_i, lset_l, lset_r, lkeep_z, lkeep_c, largs_z, largs_c, cat_i, cat_l, cat_r, lkp_c, cnd_eq, cnd_ne, cnd_lt, cnd_ge, cnd_gt, cnd_le, swL_z, swL_c, rE_e, rOr_s, rOr_n, rlk_z, rlk_c, aR_c, aI_c, aII_c, aIII_c, aRI_c, aRII_c, aRIII_c, vJn, vJs, vlc, aRR_c, aRRI_c, aRRII_c, aRRIII_c, aRIIII_c, aRL_c, aRLL_c, aLL_c, aRRRI_c, aIL_c, aIIII_c, aRRIIII_c, aIRII_c, aIR_c, aLI_c, aRIR_c, aRIIR_c, hM.1.o, hM.1, hM.1.f0, z0, mpTell, mpPoa, hM, up_ap, md_up, nM_up, vA_up, RowT.now hM.1, s0, s1, Int.not_le.mpr s1, Int.not_lt.mpr s0, hsum]
        exact h _ (QTM.q2 (QFM.rf.up sf8) (by simp [up_ap]))
      · have e2 := w32_succ (k := i) (by omega); have i1 : ((i : Nat) : Int) < (nM σ : Nat) := (by omega); have i1n : i < nM σ := (by omega); have i1x : ¬ nM σ ≤ i := (by omega)
        obtain ⟨x1, x2⟩ := hk'.st (i := i) (by omega) (by omega)
        have e3 : w32 (6 + (i : Int)) = 6 + i := w32_id (by omega) (by omega)
        have e4 : (0 : Int) ≤ 6 + i := by omega
        have e5 : 6 + (i : Int) < 50 := by omega
        have e6 : (i : Int) < 50 := by omega
        have e6n : i < 50 := by omega
        have es : fleetF (vA σ 176) s (i + 1) = if vA σ 176 (6 + i) = s then (ior (fleetF (vA σ 176) s i).1 (ishl 1 i), w32 ((fleetF (vA σ 176) s i).2 + vA σ 176 i)) else fleetF (vA σ 176) s i := rfl
        rw [es] at K
        refine wa (by decide) rgN_ok tk_224 30 (fun N hN => ?_)
        simp [bl_224, hN _, x_iconst, x_ldc2_w, x_aconst_null, x_iload, x_lload, x_aload, x_istore, x_lstore, x_astore, x_iinc, x_iadd, x_isub, x_imul, x_idiv, x_irem, x_iand, x_ior, x_ixor, x_ishl, x_ishr, x_iushr, x_ineg, x_ladd, x_lsub, x_lmul, x_ldiv, x_lrem, x_lcmp, x_i2l, x_i2b, x_i2s, x_i2c, x_dup, x_pop, x_dup_x1, x_dup2, x_getfield, x_putfield, x_iaload, x_baload, x_saload, x_caload, x_daload, x_faload, x_laload, x_aaload, x_iastore, x_bastore, x_sastore, x_castore, x_lastore, x_aastore, x_arraylength, x_getstatic, x_goto, x_goto_w, x_ifCond, x_if_icmp, x_ifnull, x_ifnonnull, x_lookupswitch, x_invokevirtual, x_invokestatic, x_invokedynamic, x_ireturn, x_freturn, x_dreturn, x_lreturn, x_areturn, x_return_, pI_c, pL_c, pR_c, pV_i, pV_r, gI_c, gL_c, gR_c, pN_z, pN_s, lget_c, lins_z, lins_c, ldel_z, ldel_c, ldel2_z, ldel2_c, lset_i, lset_l, lset_r, lkeep_z, lkeep_c, largs_z, largs_c, cat_i, cat_l, cat_r, lkp_c, cnd_eq, cnd_ne, cnd_lt, cnd_ge, cnd_gt, cnd_le, swL_z, swL_c, rE_e, rOr_s, rOr_n, rlk_z, rlk_c, aR_c, aI_c, aII_c, aIII_c, aRI_c, aRII_c, aRIII_c, vJn, vJs, vlc, aRR_c, aRRI_c, aRRII_c, aRRIII_c, aRIIII_c, aRL_c, aRLL_c, aLL_c, aRRRI_c, aIL_c, aIIII_c, aRRIIII_c, aIRII_c, aIR_c, aLI_c, aRIR_c, aRIIR_c, hM.1.o, hM.1.f0, hM.1.t176, hM.1.l176, z0, up_ap, e2, i1, i1n, i1x, e3, e4, e5, e6, e6n, x1, x2]
        refine ⟨fun z => ?_, fun z => ?_⟩
        · rw [if_pos z] at K; exact K
        · rw [if_neg z] at K; exact K
    refine wg (by decide) rgN_ok tk_224 py_224 ml_224 30 (by simp [catT]) (fun N hN => ?_)
    simp [bl_224, hN _, x_iconst, x_ldc2_w, x_aconst_null, x_iload, x_lload, x_aload, x_istore, x_lstore, x_astore, x_iinc, x_iadd, x_isub, x_imul, x_idiv, x_irem, x_iand, x_ior, x_ixor, x_ishl, x_ishr, x_iushr, x_ineg, x_ladd, x_lsub, x_lmul, x_ldiv, x_lrem, x_lcmp, x_i2l, x_i2b, x_i2s, x_i2c, x_dup, x_pop, x_dup_x1, x_dup2, x_getfield, x_putfield, x_iaload, x_baload, x_saload, x_caload, x_daload, x_faload, x_laload, x_aaload, x_iastore, x_bastore, x_sastore, x_castore, x_lastore, x_aastore, x_arraylength, x_getstatic, x_goto, x_goto_w, x_ifCond, x_if_icmp, x_ifnull, x_ifnonnull, x_lookupswitch, x_invokevirtual, x_invokestatic, x_invokedynamic, x_ireturn, x_freturn, x_dreturn, x_lreturn, x_areturn, x_return_, pI_c, pL_c, pR_c, pV_i, pV_r, gI_c, gL_c, gR_c, pN_z, pN_s, lget_c, lins_z, lins_c, ldel_z, ldel_c, ldel2_z, ldel2_c, lset_i, lset_l, lset_r, lkeep_z, lkeep_c, largs_z, largs_c, cat_i, cat_l, cat_r, lkp_c, cnd_eq, cnd_ne, cnd_lt, cnd_ge, cnd_gt, cnd_le, swL_z, swL_c, rE_e, rOr_s, rOr_n, rlk_z, rlk_c, aR_c, aI_c, aII_c, aIII_c, aRI_c, aRII_c, aRIII_c, vJn, vJs, vlc, aRR_c, aRRI_c, aRRII_c, aRRIII_c, aRIIII_c, aRL_c, aRLL_c, aLL_c, aRRRI_c, aIL_c, aIIII_c, aRRIIII_c, aIRII_c, aIR_c, aLI_c, aRIR_c, aRIIR_c, hM.1.o, mpSide, s0, s1, Int.not_le.mpr s1, Int.not_lt.mpr s0]
    exact K
  · rw [if_neg hs] at h
    have h := h _ QTM.rf
    refine wg (by decide) rgN_ok tk_224 py_224 ml_224 30 (by simp [catT]) (fun N hN => ?_)
    simp [bl_224, hN _, x_iconst, x_ldc2_w, x_aconst_null, x_iload, x_lload, x_aload, x_istore, x_lstore, x_astore, x_iinc, x_iadd, x_isub, x_imul, x_idiv, x_irem, x_iand, x_ior, x_ixor, x_ishl, x_ishr, x_iushr, x_ineg, x_ladd, x_lsub, x_lmul, x_ldiv, x_lrem, x_lcmp, x_i2l, x_i2b, x_i2s, x_i2c, x_dup, x_pop, x_dup_x1, x_dup2, x_getfield, x_putfield, x_iaload, x_baload, x_saload, x_caload, x_daload, x_faload, x_laload, x_aaload, x_iastore, x_bastore, x_sastore, x_castore, x_lastore, x_aastore, x_arraylength, x_getstatic, x_goto, x_goto_w, x_ifCond, x_if_icmp, x_ifnull, x_ifnonnull, x_lookupswitch, x_invokevirtual, x_invokestatic, x_invokedynamic, x_ireturn, x_freturn, x_dreturn, x_lreturn, x_areturn, x_return_, pI_c, pL_c, pR_c, pV_i, pV_r, gI_c, gL_c, gR_c, pN_z, pN_s, lget_c, lins_z, lins_c, ldel_z, ldel_c, ldel2_z, ldel2_c, lset_i, lset_l, lset_r, lkeep_z, lkeep_c, largs_z, largs_c, cat_i, cat_l, cat_r, lkp_c, cnd_eq, cnd_ne, cnd_lt, cnd_ge, cnd_gt, cnd_le, swL_z, swL_c, rE_e, rOr_s, rOr_n, rlk_z, rlk_c, aR_c, aI_c, aII_c, aIII_c, aRI_c, aRII_c, aRIII_c, vJn, vJs, vlc, aRR_c, aRRI_c, aRRII_c, aRRIII_c, aRIIII_c, aRL_c, aRLL_c, aLL_c, aRRRI_c, aIL_c, aIIII_c, aRRIIII_c, aIRII_c, aIR_c, aLI_c, aRIR_c, aRIIR_c, hM.1.o, mpSide]
    grind
/-! common divisors: the recursion -/
def gdn : Nat → Nat → Nat → Prop
  | 0, _, y => y = 0
  | f + 1, x, y => y = 0 ∨ gdn f y (x % y)
theorem gdn_of : ∀ (m x y : Nat), y < 2 ^ m → gdn (2 * m) x y
  | 0, x, y, h => by have : y = 0 := by simpa using h
                     exact this
  | m + 1, x, y, h => by
    show gdn (2 * m + 1 + 1) x y
    by_cases h0 : y = 0
    · exact Or.inl h0
    · refine Or.inr ?_
      have hr := Nat.mod_lt x (Nat.pos_of_ne_zero h0)
      generalize x % y = r at hr
      by_cases hr0 : r = 0
      · exact Or.inl hr0
      · refine Or.inr (gdn_of m r (y % r) ?_)
        have hp : 2 ^ (m + 1) = 2 * 2 ^ m := by rw [Nat.pow_succ, Nat.mul_comm]
        have h3 := Nat.mod_lt y (Nat.pos_of_ne_zero hr0)
        have h4 : y % r + r ≤ y := by
          have := Nat.div_add_mod y r
          have h5 : 1 ≤ y / r := (Nat.one_le_div_iff (Nat.pos_of_ne_zero hr0)).mpr (by omega)
          have h6 : r * 1 ≤ r * (y / r) := Nat.mul_le_mul_left r h5
          omega
        omega
def mpCm (f : Nat) : Sp := fun as t σ Q => aLL as fun a b => (0 ≤ a ∧ 0 ≤ b ∧ b < 9223372036854775808) ∧ gdn f a.toNat b.toNat ∧ Q (some (vL (Nat.gcd a.toNat b.toNat : Nat))) t σ
theorem m_common {l : Launch} {g : GE} {d : Nat} : ∀ (f : Nat) (as : List TV) (t : Tau) (σ : Mem) (Q : Post), mpCm f as t σ Q → WPc l g 225 (d + f + 1) 0 0 as t σ Q
  | 0, as, t, σ, Q, h => by
    obtain ⟨a, b, rfl, ⟨h1, h2, h3⟩, h4, h⟩ := aLL_e h
    have hb : b = 0 := by have : b.toNat = 0 := h4; omega
    subst hb
    refine wg (by decide) rE_nil tk_225 py_225 ml_225 30 (by simp [catT]) (fun N hN => ?_)
    simp [bl_225, hN _, x_iconst, x_ldc2_w, x_aconst_null, x_iload, x_lload, x_aload, x_istore, x_lstore, x_astore, x_iinc, x_iadd, x_isub, x_imul, x_idiv, x_irem, x_iand, x_ior, x_ixor, x_ishl, x_ishr, x_iushr, x_ineg, x_ladd, x_lsub, x_lmul, x_ldiv, x_lrem, x_lcmp, x_i2l, x_i2b, x_i2s, x_i2c, x_dup, x_pop, x_dup_x1, x_dup2, x_getfield, x_putfield, x_iaload, x_baload, x_saload, x_caload, x_daload, x_faload, x_laload, x_aaload, x_iastore, x_bastore, x_sastore, x_castore, x_lastore, x_aastore, x_arraylength, x_getstatic, x_goto, x_goto_w, x_ifCond, x_if_icmp, x_ifnull, x_ifnonnull, x_lookupswitch, x_invokevirtual, x_invokestatic, x_invokedynamic, x_ireturn, x_freturn, x_dreturn, x_lreturn, x_areturn, x_return_, pI_c, pL_c, pR_c, pV_i, pV_r, gI_c, gL_c, gR_c, pN_z, pN_s, lget_c, lins_z, lins_c, ldel_z, ldel_c, ldel2_z, ldel2_c, lset_i, lset_l, lset_r, lkeep_z, lkeep_c, largs_z, largs_c, cat_i, cat_l, cat_r, lkp_c, cnd_eq, cnd_ne, cnd_lt, cnd_ge, cnd_gt, cnd_le, swL_z, swL_c, rE_e, rOr_s, rOr_n, rlk_z, rlk_c, aR_c, aI_c, aII_c, aIII_c, aRI_c, aRII_c, aRIII_c, vJn, vJs, vlc, aRR_c, aRRI_c, aRRII_c, aRRIII_c, aRIIII_c, aRL_c, aRLL_c, aLL_c, aRRRI_c, aIL_c, aIIII_c, aRRIIII_c, aIRII_c, aIR_c, aLI_c, aRIR_c, aRIIR_c, icmp]
    have e : ((a.toNat : Nat) : Int) = a := by omega
    simpa [e] using h
  | f + 1, as, t, σ, Q, h => by
    obtain ⟨a, b, rfl, ⟨h1, h2, h3⟩, h4, h⟩ := aLL_e h
    by_cases hb : b = 0
    · subst hb
      refine (show WPc l g 225 (d + f + 1 + 1) 0 0 [vL a, vL 0] t σ Q from ?_)
      refine wg (by decide) rE_nil tk_225 py_225 ml_225 30 (by simp [catT]) (fun N hN => ?_)
      simp [bl_225, hN _, x_iconst, x_ldc2_w, x_aconst_null, x_iload, x_lload, x_aload, x_istore, x_lstore, x_astore, x_iinc, x_iadd, x_isub, x_imul, x_idiv, x_irem, x_iand, x_ior, x_ixor, x_ishl, x_ishr, x_iushr, x_ineg, x_ladd, x_lsub, x_lmul, x_ldiv, x_lrem, x_lcmp, x_i2l, x_i2b, x_i2s, x_i2c, x_dup, x_pop, x_dup_x1, x_dup2, x_getfield, x_putfield, x_iaload, x_baload, x_saload, x_caload, x_daload, x_faload, x_laload, x_aaload, x_iastore, x_bastore, x_sastore, x_castore, x_lastore, x_aastore, x_arraylength, x_getstatic, x_goto, x_goto_w, x_ifCond, x_if_icmp, x_ifnull, x_ifnonnull, x_lookupswitch, x_invokevirtual, x_invokestatic, x_invokedynamic, x_ireturn, x_freturn, x_dreturn, x_lreturn, x_areturn, x_return_, pI_c, pL_c, pR_c, pV_i, pV_r, gI_c, gL_c, gR_c, pN_z, pN_s, lget_c, lins_z, lins_c, ldel_z, ldel_c, ldel2_z, ldel2_c, lset_i, lset_l, lset_r, lkeep_z, lkeep_c, largs_z, largs_c, cat_i, cat_l, cat_r, lkp_c, cnd_eq, cnd_ne, cnd_lt, cnd_ge, cnd_gt, cnd_le, swL_z, swL_c, rE_e, rOr_s, rOr_n, rlk_z, rlk_c, aR_c, aI_c, aII_c, aIII_c, aRI_c, aRII_c, aRIII_c, vJn, vJs, vlc, aRR_c, aRRI_c, aRRII_c, aRRIII_c, aRIIII_c, aRL_c, aRLL_c, aLL_c, aRRRI_c, aIL_c, aIIII_c, aRRIIII_c, aIRII_c, aIR_c, aLI_c, aRIR_c, aRIIR_c, icmp]
      have e : ((a.toNat : Nat) : Int) = a := by omega
      simpa [e] using h
    · obtain ⟨x, rfl⟩ : ∃ n : Nat, a = n := ⟨a.toNat, by omega⟩
      obtain ⟨y, rfl⟩ : ∃ n : Nat, b = n := ⟨b.toNat, by omega⟩
      simp only [Int.toNat_natCast] at h4 h
      have h0 : ¬ y = 0 := by omega
      have hg : gdn f y (x % y) := by
        rcases h4 with h4 | h4
        · exact (h0 h4).elim
        · exact h4
      have hr := Nat.mod_lt x (Nat.pos_of_ne_zero h0)
      have eg : Nat.gcd x y = Nat.gcd y (x % y) := by rw [Nat.gcd_comm x y, Nat.gcd_rec y x, Nat.gcd_comm]
      have e1 : w64 ((x : Int).tmod y) = ((x % y : Nat) : Int) := by
        rw [← Int.ofNat_tmod]
        exact w64_id (by omega) (by omega)
      have hic : ¬ icmp (y : Int) 0 = 0 := by unfold icmp; split <;> (try split) <;> omega
      rw [eg] at h
      have ih := m_common (l := l) (g := g) (d := d) f
      refine (show WPc l g 225 (d + f + 1 + 1) 0 0 [vL x, vL y] t σ Q from ?_)
      refine wg (by decide) (rE_cons ih rE_nil) tk_225 py_225 ml_225 30 (by simp [catT]) (fun N hN => ?_)
      simp [bl_225, hN _, x_iconst, x_ldc2_w, x_aconst_null, x_iload, x_lload, x_aload, x_istore, x_lstore, x_astore, x_iinc, x_iadd, x_isub, x_imul, x_idiv, x_irem, x_iand, x_ior, x_ixor, x_ishl, x_ishr, x_iushr, x_ineg, x_ladd, x_lsub, x_lmul, x_ldiv, x_lrem, x_lcmp, x_i2l, x_i2b, x_i2s, x_i2c, x_dup, x_pop, x_dup_x1, x_dup2, x_getfield, x_putfield, x_iaload, x_baload, x_saload, x_caload, x_daload, x_faload, x_laload, x_aaload, x_iastore, x_bastore, x_sastore, x_castore, x_lastore, x_aastore, x_arraylength, x_getstatic, x_goto, x_goto_w, x_ifCond, x_if_icmp, x_ifnull, x_ifnonnull, x_lookupswitch, x_invokevirtual, x_invokestatic, x_invokedynamic, x_ireturn, x_freturn, x_dreturn, x_lreturn, x_areturn, x_return_, pI_c, pL_c, pR_c, pV_i, pV_r, gI_c, gL_c, gR_c, pN_z, pN_s, lget_c, lins_z, lins_c, ldel_z, ldel_c, ldel2_z, ldel2_c, lset_i, lset_l, lset_r, lkeep_z, lkeep_c, largs_z, largs_c, cat_i, cat_l, cat_r, lkp_c, cnd_eq, cnd_ne, cnd_lt, cnd_ge, cnd_gt, cnd_le, swL_z, swL_c, rE_e, rOr_s, rOr_n, rlk_z, rlk_c, aR_c, aI_c, aII_c, aIII_c, aRI_c, aRII_c, aRIII_c, vJn, vJs, vlc, aRR_c, aRRI_c, aRRII_c, aRRIII_c, aRIIII_c, aRL_c, aRLL_c, aLL_c, aRRRI_c, aIL_c, aIIII_c, aRRIIII_c, aIRII_c, aIR_c, aLI_c, aRIR_c, aRIIR_c, hic, h0, mpCm]
      rw [e1]
      simp only [Int.toNat_natCast]
      exact ⟨by omega, hg, h⟩
def mpTp : Sp := fun as t σ Q => aRLL as fun a u w => a = 175 ∧ TM t ∧ ∃ x y : Nat, u = x ∧ w = y ∧ 0 < y ∧ y ≤ 1000000000000000 ∧ x ≤ 1000000000000000 ∧ Q none t (up (up (up (up (up σ 175 7 0) 179 0 ((x / Nat.gcd x y : Nat) : Int)) 175 7 1) 179 1 ((y / Nat.gcd x y : Nat) : Int)) 175 7 2)
theorem rgTp_ok {l : Launch} {g : GE} {d : Nat} : ∀ e as t σ Q, rE l g (d + 101) [(225, mpCm 100), (170, mpTell)] e as t σ Q → WPc l g e (d + 101) 0 0 as t σ Q := rE_cons (m_common (d := d) 100) (rE_cons (fun _ _ _ _ h => m_tell (d := d + 100) h) rE_nil)
theorem m_tellPart {l : Launch} {g : GE} {d : Nat} {t : Tau} {σ : Mem} {Q : Post} {as : List TV} (h0 : mpTp as t σ Q) : WPc l g 226 (d + 102) 0 0 as t σ Q := by
  obtain ⟨a, u, w, rfl, rfl, hM, x, y, rfl, rfl, hy, hy1, hx1, h⟩ := aRLL_e h0
  clear h0
  have hg : gdn 100 x y := gdn_of 50 x y (by have : (2 : Nat) ^ 50 = 1125899906842624 := by decide
                                             omega)
  have hgp : 0 < Nat.gcd x y := Nat.gcd_pos_of_pos_right x hy
  have d1 : w64 ((x : Int) / (Nat.gcd x y : Nat)) = ((x / Nat.gcd x y : Nat) : Int) := by
    have h9 := Nat.div_le_self x (Nat.gcd x y)
    rw [← Int.natCast_ediv]
    generalize x / Nat.gcd x y = q at h9 ⊢
    exact w64_id (by omega) (by omega)
  have d2 : w64 ((y : Int) / (Nat.gcd x y : Nat)) = ((y / Nat.gcd x y : Nat) : Int) := by
    have h9 := Nat.div_le_self y (Nat.gcd x y)
    rw [← Int.natCast_ediv]
    generalize y / Nat.gcd x y = q at h9 ⊢
    exact w64_id (by omega) (by omega)
  refine wg (by decide) rgTp_ok tk_226 py_226 ml_226 30 (by simp [catT]) (fun N hN => ?_)
  simp [bl_226, hN _, x_iconst, x_ldc2_w, x_aconst_null, x_iload, x_lload, x_aload, x_istore, x_lstore, x_astore, x_iinc, x_iadd, x_isub, x_imul, x_idiv, x_irem, x_iand, x_ior, x_ixor, x_ishl, x_ishr, x_iushr, x_ineg, x_ladd, x_lsub, x_lmul, x_ldiv, x_lrem, x_lcmp, x_i2l, x_i2b, x_i2s, x_i2c, x_dup, x_pop, x_dup_x1, x_dup2, x_getfield, x_putfield, x_iaload, x_baload, x_saload, x_caload, x_daload, x_faload, x_laload, x_aaload, x_iastore, x_bastore, x_sastore, x_castore, x_lastore, x_aastore, x_arraylength, x_getstatic, x_goto, x_goto_w, x_ifCond, x_if_icmp, x_ifnull, x_ifnonnull, x_lookupswitch, x_invokevirtual, x_invokestatic, x_invokedynamic, x_ireturn, x_freturn, x_dreturn, x_lreturn, x_areturn, x_return_, pI_c, pL_c, pR_c, pV_i, pV_r, gI_c, gL_c, gR_c, pN_z, pN_s, lget_c, lins_z, lins_c, ldel_z, ldel_c, ldel2_z, ldel2_c, lset_i, lset_l, lset_r, lkeep_z, lkeep_c, largs_z, largs_c, cat_i, cat_l, cat_r, lkp_c, cnd_eq, cnd_ne, cnd_lt, cnd_ge, cnd_gt, cnd_le, swL_z, swL_c, rE_e, rOr_s, rOr_n, rlk_z, rlk_c, aR_c, aI_c, aII_c, aIII_c, aRI_c, aRII_c, aRIII_c, vJn, vJs, vlc, aRR_c, aRRI_c, aRRII_c, aRRIII_c, aRIIII_c, aRL_c, aRLL_c, aLL_c, aRRRI_c, aIL_c, aIIII_c, aRRIIII_c, aIRII_c, aIR_c, aLI_c, aRIR_c, aRIIR_c, hM, hM.o, mpCm, mpTell, hg, up_ap, d1, d2]
  exact ⟨by omega, by omega, by simpa using h⟩
abbrev rgO : Reg := (226, mpTp) :: rgN
theorem rgO_ok {l : Launch} {g : GE} {d : Nat} : ∀ e as t σ Q, rE l g (d + 102) rgO e as t σ Q → WPc l g e (d + 102) 0 0 as t σ Q := rE_cons (fun _ _ _ _ h => m_tellPart h) (rgN_ok (d := d + 97))
theorem QTM.fr {σ σ' : Mem} (h : QFM σ σ') (h8 : σ' 175 8 = 0) {x y : Nat} : QTM σ (up (up (up (up (up σ' 175 7 0) 179 0 ((x / Nat.gcd x y : Nat) : Int)) 175 7 1) 179 1 ((y / Nat.gcd x y : Nat) : Int)) 175 7 2) (some (frQ x y)) := QTM.q2 h h8
theorem mo_share {l : Launch} {g : GE} {d : Nat} {t : Tau} {σ : Mem} {Q : Post} {s : Int} (hk : MK t σ) (h : ansM (shareQ (nM σ) (vA σ 176) s) t σ Q) : WPc l g 227 (d + 103) 0 0 [vR 175, vI s] t σ Q := by
  obtain ⟨hM, hW⟩ := hk
  have n6 := hM.2.2
  have z0 := hM.2.1
  unfold ansM shareQ at h
  by_cases hs : 0 ≤ s ∧ s < 4
  · obtain ⟨s0, s1⟩ := hs
    have hb := sum_pt hW s0 s1
    have hsum := sumP hW s0 s1
    by_cases hn : nM σ = 0
    · rw [if_neg (by omega)] at h
      have h := h _ QTM.rf
      have z0' : σ 175 1 = 0 := by rw [z0, hn]; rfl
      refine wg (by decide) rgO_ok tk_227 py_227 ml_227 30 (by simp [catT]) (fun N hN => ?_)
      simp [bl_227, hN _, x_iconst, x_ldc2_w, x_aconst_null, x_iload, x_lload, x_aload, x_istore, x_lstore, x_astore, x_iinc, x_iadd, x_isub, x_imul, x_idiv, x_irem, x_iand, x_ior, x_ixor, x_ishl, x_ishr, x_iushr, x_ineg, x_ladd, x_lsub, x_lmul, x_ldiv, x_lrem, x_lcmp, x_i2l, x_i2b, x_i2s, x_i2c, x_dup, x_pop, x_dup_x1, x_dup2, x_getfield, x_putfield, x_iaload, x_baload, x_saload, x_caload, x_daload, x_faload, x_laload, x_aaload, x_iastore, x_bastore, x_sastore, x_castore, x_lastore, x_aastore, x_arraylength, x_getstatic, x_goto, x_goto_w, x_ifCond, x_if_icmp, x_ifnull, x_ifnonnull, x_lookupswitch, x_invokevirtual, x_invokestatic, x_invokedynamic, x_ireturn, x_freturn, x_dreturn, x_lreturn, x_areturn, x_return_, pI_c, pL_c, pR_c, pV_i, pV_r, gI_c, gL_c, gR_c, pN_z, pN_s, lget_c, lins_z, lins_c, ldel_z, ldel_c, ldel2_z, ldel2_c, lset_i, lset_l, lset_r, lkeep_z, lkeep_c, largs_z, largs_c, cat_i, cat_l, cat_r, lkp_c, cnd_eq, cnd_ne, cnd_lt, cnd_ge, cnd_gt, cnd_le, swL_z, swL_c, rE_e, rOr_s, rOr_n, rlk_z, rlk_c, aR_c, aI_c, aII_c, aIII_c, aRI_c, aRII_c, aRIII_c, vJn, vJs, vlc, aRR_c, aRRI_c, aRRII_c, aRRIII_c, aRIIII_c, aRL_c, aRLL_c, aLL_c, aRRRI_c, aIL_c, aIIII_c, aRRIIII_c, aIRII_c, aIR_c, aLI_c, aRIR_c, aRIIR_c, hM.1.o, mpSide, s0, s1, Int.not_le.mpr s1, Int.not_lt.mpr s0, up_ap, z0']
      exact h
    · rw [if_pos ⟨⟨s0, s1⟩, hn⟩] at h
      have e1 : w32 (12 * (nM σ : Int)) = ((12 * nM σ : Nat) : Int) := by rw [w32_id (by omega) (by omega)]; omega
      have e3 : ((sumN (fun i => partV (vA σ 176) i s) (nM σ)).toNat : Int) = sumN (fun i => partV (vA σ 176) i s) (nM σ) := by omega
      have hn' : ¬ (nM σ : Int) = 0 := by omega
      refine wg (by decide) rgO_ok tk_227 py_227 ml_227 30 (by simp [catT]) (fun N hN => ?_)
      simp [bl_227, hN _, x_iconst, x_ldc2_w, x_aconst_null, x_iload, x_lload, x_aload, x_istore, x_lstore, x_astore, x_iinc, x_iadd, x_isub, x_imul, x_idiv, x_irem, x_iand, x_ior, x_ixor, x_ishl, x_ishr, x_iushr, x_ineg, x_ladd, x_lsub, x_lmul, x_ldiv, x_lrem, x_lcmp, x_i2l, x_i2b, x_i2s, x_i2c, x_dup, x_pop, x_dup_x1, x_dup2, x_getfield, x_putfield, x_iaload, x_baload, x_saload, x_caload, x_daload, x_faload, x_laload, x_aaload, x_iastore, x_bastore, x_sastore, x_castore, x_lastore, x_aastore, x_arraylength, x_getstatic, x_goto, x_goto_w, x_ifCond, x_if_icmp, x_ifnull, x_ifnonnull, x_lookupswitch, x_invokevirtual, x_invokestatic, x_invokedynamic, x_ireturn, x_freturn, x_dreturn, x_lreturn, x_areturn, x_return_, pI_c, pL_c, pR_c, pV_i, pV_r, gI_c, gL_c, gR_c, pN_z, pN_s, lget_c, lins_z, lins_c, ldel_z, ldel_c, ldel2_z, ldel2_c, lset_i, lset_l, lset_r, lkeep_z, lkeep_c, largs_z, largs_c, cat_i, cat_l, cat_r, lkp_c, cnd_eq, cnd_ne, cnd_lt, cnd_ge, cnd_gt, cnd_le, swL_z, swL_c, rE_e, rOr_s, rOr_n, rlk_z, rlk_c, aR_c, aI_c, aII_c, aIII_c, aRI_c, aRII_c, aRIII_c, vJn, vJs, vlc, aRR_c, aRRI_c, aRRII_c, aRRIII_c, aRIIII_c, aRL_c, aRLL_c, aLL_c, aRRRI_c, aIL_c, aIIII_c, aRRIIII_c, aIRII_c, aIR_c, aLI_c, aRIR_c, aRIIR_c, hM.1.o, hM.1.f0, mpSide, s0, s1, Int.not_le.mpr s1, Int.not_lt.mpr s0, up_ap, z0, hn', hn, mpPoa, mpTp, hM, hM.1, RowT.now hM.1, md_up, nM_up, vA_up, hsum, e1]
      refine ⟨(sumN (fun i => partV (vA σ 176) i s) (nM σ)).toNat, e3.symm, 12 * nM σ, by omega, by omega, by omega, by omega, ?_⟩
      simpa using h _ (QTM.fr (QFM.rf.up sf8) (by simp [up_ap]))
  · rw [if_neg (fun z => hs z.1)] at h
    have h := h _ QTM.rf
    refine wg (by decide) rgO_ok tk_227 py_227 ml_227 30 (by simp [catT]) (fun N hN => ?_)
    simp [bl_227, hN _, x_iconst, x_ldc2_w, x_aconst_null, x_iload, x_lload, x_aload, x_istore, x_lstore, x_astore, x_iinc, x_iadd, x_isub, x_imul, x_idiv, x_irem, x_iand, x_ior, x_ixor, x_ishl, x_ishr, x_iushr, x_ineg, x_ladd, x_lsub, x_lmul, x_ldiv, x_lrem, x_lcmp, x_i2l, x_i2b, x_i2s, x_i2c, x_dup, x_pop, x_dup_x1, x_dup2, x_getfield, x_putfield, x_iaload, x_baload, x_saload, x_caload, x_daload, x_faload, x_laload, x_aaload, x_iastore, x_bastore, x_sastore, x_castore, x_lastore, x_aastore, x_arraylength, x_getstatic, x_goto, x_goto_w, x_ifCond, x_if_icmp, x_ifnull, x_ifnonnull, x_lookupswitch, x_invokevirtual, x_invokestatic, x_invokedynamic, x_ireturn, x_freturn, x_dreturn, x_lreturn, x_areturn, x_return_, pI_c, pL_c, pR_c, pV_i, pV_r, gI_c, gL_c, gR_c, pN_z, pN_s, lget_c, lins_z, lins_c, ldel_z, ldel_c, ldel2_z, ldel2_c, lset_i, lset_l, lset_r, lkeep_z, lkeep_c, largs_z, largs_c, cat_i, cat_l, cat_r, lkp_c, cnd_eq, cnd_ne, cnd_lt, cnd_ge, cnd_gt, cnd_le, swL_z, swL_c, rE_e, rOr_s, rOr_n, rlk_z, rlk_c, aR_c, aI_c, aII_c, aIII_c, aRI_c, aRII_c, aRIII_c, vJn, vJs, vlc, aRR_c, aRRI_c, aRRII_c, aRRIII_c, aRIIII_c, aRL_c, aRLL_c, aLL_c, aRRRI_c, aIL_c, aIIII_c, aRRIIII_c, aIRII_c, aIR_c, aLI_c, aRIR_c, aRIIR_c, hM.1.o, mpSide]
    grind
