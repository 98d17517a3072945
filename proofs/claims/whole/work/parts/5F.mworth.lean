/-! the reference: worth -/
def mpOrd (m : Nat) : Sp := fun as t σ Q => aI as fun n => n = m ∧ Q (some (vL (fct m))) t σ
theorem m_orders {l : Launch} {g : GE} : ∀ (m : Nat) (hm : m ≤ 6) {d : Nat} {as : List TV} {t : Tau} {σ : Mem} {Q : Post} (_ : mpOrd m as t σ Q), WPc l g 250 (d + m + 1) 0 0 as t σ Q
  | 0, _, d, as, t, σ, Q, h0 => by
    obtain ⟨n, rfl, rfl, h⟩ := aI_e h0
    clear h0
    refine wg (by decide) rE_nil tk_250 py_250 ml_250 30 (by simp [catT]) (fun N hN => ?_)
    simp [bl_250, hN _, x_iconst, x_ldc2_w, x_aconst_null, x_iload, x_lload, x_aload, x_istore, x_lstore, x_astore, x_iinc, x_iadd, x_isub, x_imul, x_idiv, x_irem, x_iand, x_ior, x_ixor, x_ishl, x_ishr, x_iushr, x_ineg, x_ladd, x_lsub, x_lmul, x_ldiv, x_lrem, x_lcmp, x_i2l, x_i2b, x_i2s, x_i2c, x_dup, x_pop, x_dup_x1, x_dup2, x_getfield, x_putfield, x_iaload, x_baload, x_saload, x_caload, x_daload, x_faload, x_laload, x_aaload, x_iastore, x_bastore, x_sastore, x_castore, x_lastore, x_aastore, x_arraylength, x_getstatic, x_goto, x_goto_w, x_ifCond, x_if_icmp, x_ifnull, x_ifnonnull, x_lookupswitch, x_invokevirtual, x_invokestatic, x_invokedynamic, x_ireturn, x_freturn, x_dreturn, x_lreturn, x_areturn, x_return_, pI_c, pL_c, pR_c, pV_i, pV_r, gI_c, gL_c, gR_c, pN_z, pN_s, lget_c, lins_z, lins_c, ldel_z, ldel_c, ldel2_z, ldel2_c, lset_i, lset_l, lset_r, lkeep_z, lkeep_c, largs_z, largs_c, cat_i, cat_l, cat_r, lkp_c, cnd_eq, cnd_ne, cnd_lt, cnd_ge, cnd_gt, cnd_le, swL_z, swL_c, rE_e, rOr_s, rOr_n, rlk_z, rlk_c, aR_c, aI_c, aII_c, aIII_c, aRI_c, aRII_c, aRIII_c, vJn, vJs, vlc, aRR_c, aRRI_c, aRRII_c, aRRIII_c, aRIIII_c, aRL_c, aRLL_c, aLL_c, aRRRI_c, aIL_c, aIIII_c, aRRIIII_c, aIRII_c, aIR_c, aLI_c, aRIR_c, aRIIR_c]
    exact h
  | m + 1, hm, d, as, t, σ, Q, h0 => by
    obtain ⟨n, rfl, rfl, h⟩ := aI_e h0
    clear h0
    have rg : ∀ e as t σ Q, rE l g (d + m + 1) [(250, mpOrd m)] e as t σ Q → WPc l g e (d + m + 1) 0 0 as t σ Q := rE_cons (fun as t σ Q h => m_orders m (by omega) (d := d) h) rE_nil
    have e1 : ¬ ((m + 1 : Nat) : Int) = 0 := by omega
    have e2 : w32 (m : Int) = m := w32_id (by omega) (by omega)
    have e3 : w64 (((m + 1 : Nat) : Int) * (fct m : Int)) = ((fct (m + 1) : Nat) : Int) := by
      rcases (show m = 0 ∨ m = 1 ∨ m = 2 ∨ m = 3 ∨ m = 4 ∨ m = 5 by omega) with rfl | rfl | rfl | rfl | rfl | rfl <;> (rw [w64_id (by decide) (by decide)]; decide)
    have e4 : ¬ (m : Int) + 1 = 0 := by omega
    rw [show ((m + 1 : Nat) : Int) = (m : Int) + 1 by omega] at e3
    show WPc l g 250 (d + m + 1 + 1) 0 0 _ t σ Q
    refine wg (by decide) rg tk_250 py_250 ml_250 30 (by simp [catT]) (fun N hN => ?_)
    simp [bl_250, hN _, x_iconst, x_ldc2_w, x_aconst_null, x_iload, x_lload, x_aload, x_istore, x_lstore, x_astore, x_iinc, x_iadd, x_isub, x_imul, x_idiv, x_irem, x_iand, x_ior, x_ixor, x_ishl, x_ishr, x_iushr, x_ineg, x_ladd, x_lsub, x_lmul, x_ldiv, x_lrem, x_lcmp, x_i2l, x_i2b, x_i2s, x_i2c, x_dup, x_pop, x_dup_x1, x_dup2, x_getfield, x_putfield, x_iaload, x_baload, x_saload, x_caload, x_daload, x_faload, x_laload, x_aaload, x_iastore, x_bastore, x_sastore, x_castore, x_lastore, x_aastore, x_arraylength, x_getstatic, x_goto, x_goto_w, x_ifCond, x_if_icmp, x_ifnull, x_ifnonnull, x_lookupswitch, x_invokevirtual, x_invokestatic, x_invokedynamic, x_ireturn, x_freturn, x_dreturn, x_lreturn, x_areturn, x_return_, pI_c, pL_c, pR_c, pV_i, pV_r, gI_c, gL_c, gR_c, pN_z, pN_s, lget_c, lins_z, lins_c, ldel_z, ldel_c, ldel2_z, ldel2_c, lset_i, lset_l, lset_r, lkeep_z, lkeep_c, largs_z, largs_c, cat_i, cat_l, cat_r, lkp_c, cnd_eq, cnd_ne, cnd_lt, cnd_ge, cnd_gt, cnd_le, swL_z, swL_c, rE_e, rOr_s, rOr_n, rlk_z, rlk_c, aR_c, aI_c, aII_c, aIII_c, aRI_c, aRII_c, aRIII_c, vJn, vJs, vlc, aRR_c, aRRI_c, aRRII_c, aRRIII_c, aRIIII_c, aRL_c, aRLL_c, aLL_c, aRRRI_c, aIL_c, aIIII_c, aRRIIII_c, aIRII_c, aIR_c, aLI_c, aRIR_c, aRIIR_c, e1, e4, e2, mpOrd, e3]
    exact h
def mpOrdA : Sp := fun as t σ Q => aI as fun n => (0 ≤ n ∧ n ≤ 6) ∧ Q (some (vL (fct n.toNat))) t σ
theorem m_ordersA {l : Launch} {g : GE} {d : Nat} {t : Tau} {σ : Mem} {Q : Post} {as : List TV} (h0 : mpOrdA as t σ Q) : WPc l g 250 (d + 7) 0 0 as t σ Q := by
  obtain ⟨n, rfl, ⟨n0, n1⟩, h⟩ := aI_e h0
  obtain ⟨m, rfl⟩ : ∃ m : Nat, n = m := ⟨n.toNat, by omega⟩
  rw [Int.toNat_natCast] at h
  have := m_orders (l := l) (g := g) m (by omega) (d := d + 6 - m) (as := [vI m]) (t := t) (σ := σ) (Q := Q) (show mpOrd m [vI m] t σ Q from by simp only [mpOrd, aI_c]; exact ⟨trivial, h⟩)
  rw [show d + 6 - m + m + 1 = d + 7 by omega] at this
  exact this
theorem sumT_or {f : Int → Int} {b b' s : Nat} (ht : tb b s = false) (h : ∀ j, j < 6 → tb b' j = (tb b j || decide (j = s))) : ∀ n : Nat, n ≤ 6 → sumT b' f n = sumT b f n + if s < n then f s else 0
  | 0, _ => by simp [sumT, sumN]
  | n + 1, hn => by
    have ih := sumT_or (f := f) ht h n (by omega)
    have e1 : sumT b' f (n + 1) = sumT b' f n + (if tb b' n then f n else 0) := rfl
    have e2 : sumT b f (n + 1) = sumT b f n + (if tb b n then f n else 0) := rfl
    rw [e1, e2, ih, h n (by omega)]
    by_cases hs : n = s
    · subst hs
      simp [ht]
    · have e3 : (s < n + 1) = (s < n) := propext (by omega)
      simp [hs, e3]
      omega
theorem sumT_add {f : Int → Int} {b s n : Nat} (hb : b < 64) (hs : s < n) (hn : n ≤ 6) (ht : tb b s = false) : b + 2 ^ s < 64 ∧ ior (b : Int) (ishl 1 s) = ((b + 2 ^ s : Nat) : Int) ∧ sumT (b + 2 ^ s) f n = sumT b f n + f s := by
  have e := fun j hj => or_t0 ⟨b, hb⟩ ⟨s, by omega⟩ ⟨j, hj⟩
  simp only [ht] at e
  have e0 := e 0 (by omega)
  refine ⟨by simpa using e0.1, by rw [or_b hb (by omega), ht]; rfl, ?_⟩
  have := sumT_or (f := f) (b' := b + 2 ^ s) ht (fun j hj => by simpa using (e j hj).2) n hn
  rw [this, if_pos hs]
abbrev rgOw : Reg := (226, mpTp) :: (250, mpOrdA) :: rgNs
theorem rgOw_ok {l : Launch} {g : GE} {d : Nat} : ∀ e as t σ Q, rE l g (d + 102) rgOw e as t σ Q → WPc l g e (d + 102) 0 0 as t σ Q := rE_cons (fun _ _ _ _ h => m_tellPart h) (rE_cons (fun _ _ _ _ h => m_ordersA (d := d + 95) h) (rgNs_ok (d := d + 97)))
set_option maxHeartbeats 1000000 in
theorem mo_worth {l : Launch} {g : GE} {d : Nat} {t : Tau} {σ : Mem} {Q : Post} {s : Int} (hk : MK t σ) (h : ansM (worQ (nM σ) (vA σ 176) s) t σ Q) : WPc l g 251 (d + 103) 0 0 [vR 175, vI s] t σ Q := by
  have hk' := hk
  obtain ⟨hM, hW⟩ := hk
  have n6 := hM.2.2
  have z0 := hM.2.1
  have hp2 := pow_le64 n6
  have hk8 : MK t (up σ 175 8 0) := by rw [mk_up (by omega) (by omega) (by omega)]; exact hk'
  have hM8 := hk8.1
  have hpw : ((2 ^ nM σ : Nat) : Int) = (2 : Int) ^ nM σ := by simp
  unfold ansM worQ at h
  by_cases hs : 0 ≤ s ∧ s < nM σ
  · rw [if_pos hs] at h
    obtain ⟨s0, s1⟩ := hs
    obtain ⟨m, rfl⟩ : ∃ m : Nat, s = m := ⟨s.toNat, by omega⟩
    have m1 : m < nM σ := by omega
    have hB : ∀ i : Int, 0 ≤ i → i < nM σ → 0 ≤ vA σ 176 i ∧ vA σ 176 i ≤ 9 := fun i i0 i1 => st_in hW i0 i1
    have hA := sumN_b (f := vA σ 176) (nM σ) hB
    have hA2 := mul_le12 n6 (by omega) hA.2
    have hAll := sumT_all (f := vA σ 176) (nM σ) n6
    have hms := hB m s0 s1
    generalize hF : worF (vA σ 176) (nM σ) m = F at h
    have hF0 : F 0 = 0 := by rw [← hF]; rfl
    have hFl : ∀ k, F k ≤ k * 518400 := by rw [← hF]; exact worF_l _ _ _
    have hFs : ∀ b, F (b + 1) = if tb b m then F b else if 2 * sumT b (vA σ 176) (nM σ) ≤ sumN (vA σ 176) (nM σ) ∧ sumN (vA σ 176) (nM σ) < 2 * (sumT b (vA σ 176) (nM σ) + vA σ 176 m) then F b + fct (popc b) * fct (nM σ - 1 - popc b) else F b := by rw [← hF]; intro k; rfl
    generalize hAl : sumN (vA σ 176) (nM σ) = A at hA hA2 hFs hAll
    have K : Wp l g 251 (d + 103) 0 0 29 [(0, vR 175), (1, vI m), (2, vI A), (3, vL (F 0)), (5, vI (0 : Nat))] [] t (up σ 175 8 0) Q := by
      refine lpU (P := fun b => Wp l g 251 (d + 103) 0 0 29 [(0, vR 175), (1, vI m), (2, vI A), (3, vL (F b)), (5, vI b)] [] t (up σ 175 8 0) Q) (n := 2 ^ nM σ) ?_ (fun b hb K => ?_)
      · have hf := hFl (2 ^ nM σ)
        have hfp := fct_p n6
        have hf7 := fct_l (nM σ)
        generalize F (2 ^ nM σ) = R at h hf
        have n6' : (nM σ : Int) ≤ 6 := by omega
        refine wa (by decide) rgOw_ok tk_251 30 (fun N hN => ?_)
        simp [bl_251, hN _, x_iconst, x_ldc2_w, x_aconst_null, x_iload, x_lload, x_aload, x_istore, x_lstore, x_astore, x_iinc, x_iadd, x_isub, x_imul, x_idiv, x_irem, x_iand, x_ior, x_ixor, x_ishl, x_ishr, x_iushr, x_ineg, x_ladd, x_lsub, x_lmul, x_ldiv, x_lrem, x_lcmp, x_i2l, x_i2b, x_i2s, x_i2c, x_dup, x_pop, x_dup_x1, x_dup2, x_getfield, x_putfield, x_iaload, x_baload, x_saload, x_caload, x_daload, x_faload, x_laload, x_aaload, x_iastore, x_bastore, x_sastore, x_castore, x_lastore, x_aastore, x_arraylength, x_getstatic, x_goto, x_goto_w, x_ifCond, x_if_icmp, x_ifnull, x_ifnonnull, x_lookupswitch, x_invokevirtual, x_invokestatic, x_invokedynamic, x_ireturn, x_freturn, x_dreturn, x_lreturn, x_areturn, x_return_, pI_c, pL_c, pR_c, pV_i, pV_r, gI_c, gL_c, gR_c, pN_z, pN_s, lget_c, lins_z, lins_c, ldel_z, ldel_c, ldel2_z, ldel2_c, lset_i, lset_l, lset_r, lkeep_z, lkeep_c, largs_z, largs_c, cat_i, cat_l, cat_r, lkp_c, cnd_eq, cnd_ne, cnd_lt, cnd_ge, cnd_gt, cnd_le, swL_z, swL_c, rE_e, rOr_s, rOr_n, rlk_z, rlk_c, aR_c, aI_c, aII_c, aIII_c, aRI_c, aRII_c, aRIII_c, vJn, vJs, vlc, aRR_c, aRRI_c, aRRII_c, aRRIII_c, aRIIII_c, aRL_c, aRLL_c, aLL_c, aRRRI_c, aIL_c, aIIII_c, aRRIIII_c, aIRII_c, aIR_c, aLI_c, aRIR_c, aRIIR_c, hM.1.o, hM.1, mpAll, mpTp, mpOrdA, hM8, nM_up, up_ap, z0, n6', n6]
        refine ⟨fun _ => ⟨R, rfl, fct (nM σ), rfl, by omega, by omega, by omega, ?_⟩, fun z => by omega⟩
        simpa using h _ (QTM.fr (QFM.rf.up sf8) (by simp [up_ap]))
      · have e1 : ¬ ((2 ^ nM σ : Nat) : Int) ≤ (b : Int) := by omega
        have b64 : b < 64 := by omega
        have b64' : (b : Int) < 64 := by omega
        have hsb := sumT_b (b := b) (f := vA σ 176) (nM σ) n6 (by omega) hB
        have ec := bc_n (b := b) b64
        have et := bit_m (b := b) (k := m) b64 (by omega)
        have e3 : w32 (2 * sumT b (vA σ 176) (nM σ)) = 2 * sumT b (vA σ 176) (nM σ) := w32_id (by omega) (by omega)
        have e5 : w32 (2 * (sumT b (vA σ 176) (nM σ) + vA σ 176 m)) = 2 * (sumT b (vA σ 176) (nM σ) + vA σ 176 m) := w32_id (by omega) (by omega)
        have e6 := w32_succ (k := b) (by omega)
        have hfl := hFl b
        have hm0 : fct (popc b) * fct (nM σ - 1 - popc b) ≤ 720 * 720 := Nat.mul_le_mul (fct_l _) (fct_l _)
        rw [hFs b] at K
        refine wa (by decide) rgOw_ok tk_251 30 (fun N hN => ?_)
        by_cases ht : tb b m = true
        · rw [if_pos ht] at K
          simp [bl_251, hN _, x_iconst, x_ldc2_w, x_aconst_null, x_iload, x_lload, x_aload, x_istore, x_lstore, x_astore, x_iinc, x_iadd, x_isub, x_imul, x_idiv, x_irem, x_iand, x_ior, x_ixor, x_ishl, x_ishr, x_iushr, x_ineg, x_ladd, x_lsub, x_lmul, x_ldiv, x_lrem, x_lcmp, x_i2l, x_i2b, x_i2s, x_i2c, x_dup, x_pop, x_dup_x1, x_dup2, x_getfield, x_putfield, x_iaload, x_baload, x_saload, x_caload, x_daload, x_faload, x_laload, x_aaload, x_iastore, x_bastore, x_sastore, x_castore, x_lastore, x_aastore, x_arraylength, x_getstatic, x_goto, x_goto_w, x_ifCond, x_if_icmp, x_ifnull, x_ifnonnull, x_lookupswitch, x_invokevirtual, x_invokestatic, x_invokedynamic, x_ireturn, x_freturn, x_dreturn, x_lreturn, x_areturn, x_return_, pI_c, pL_c, pR_c, pV_i, pV_r, gI_c, gL_c, gR_c, pN_z, pN_s, lget_c, lins_z, lins_c, ldel_z, ldel_c, ldel2_z, ldel2_c, lset_i, lset_l, lset_r, lkeep_z, lkeep_c, largs_z, largs_c, cat_i, cat_l, cat_r, lkp_c, cnd_eq, cnd_ne, cnd_lt, cnd_ge, cnd_gt, cnd_le, swL_z, swL_c, rE_e, rOr_s, rOr_n, rlk_z, rlk_c, aR_c, aI_c, aII_c, aIII_c, aRI_c, aRII_c, aRIII_c, vJn, vJs, vlc, aRR_c, aRRI_c, aRRII_c, aRRIII_c, aRIIII_c, aRL_c, aRLL_c, aLL_c, aRRRI_c, aIL_c, aIIII_c, aRRIIII_c, aIRII_c, aIR_c, aLI_c, aRIR_c, aRIIR_c, hM.1.o, mpAll, mpHas, hM8, nM_up, et, ht, e6]
          exact ⟨fun z => by omega, fun _ => K⟩
        · have ht' : tb b m = false := by simpa using ht
          obtain ⟨c1, c2, c3⟩ := sumT_add (f := vA σ 176) b64 m1 n6 ht'
          have hpn := popc_n n6 hb m1 ht'
          rw [if_neg ht] at K
          have c1' : ((b + 2 ^ m : Nat) : Int) < 64 := by omega
          have c4 : 0 ≤ ((b + 2 ^ m : Nat) : Int) := Int.natCast_nonneg _
          generalize hb2 : b + 2 ^ m = b2 at c1 c2 c3 c1' c4
          have g1 : w32 ((nM σ : Int) - 1) = ((nM σ - 1 : Nat) : Int) := by rw [w32_id (by omega) (by omega)]; omega
          have g2 : w32 (((nM σ - 1 : Nat) : Int) - (popc b : Int)) = ((nM σ - 1 - popc b : Nat) : Int) := by rw [w32_id (by omega) (by omega)]; omega
          have g3 : w64 ((fct (popc b) : Int) * (fct (nM σ - 1 - popc b) : Int)) = ((fct (popc b) * fct (nM σ - 1 - popc b) : Nat) : Int) := by
            rw [← Int.natCast_mul]; exact w64_id (by omega) (by omega)
          have g4 : w64 ((F b : Int) + ((fct (popc b) * fct (nM σ - 1 - popc b) : Nat) : Int)) = ((F b + fct (popc b) * fct (nM σ - 1 - popc b) : Nat) : Int) := by
            rw [← Int.natCast_add]; exact w64_id (by omega) (by omega)
          have p1 : popc b ≤ 6 := popc_l b
          have p2 : (popc b : Int) ≤ 6 := by omega
          have p3 : nM σ - 1 - popc b ≤ 6 := by omega
          have p4 : ((nM σ - 1 - popc b : Nat) : Int) ≤ 6 := by omega
          simp [bl_251, hN _, x_iconst, x_ldc2_w, x_aconst_null, x_iload, x_lload, x_aload, x_istore, x_lstore, x_astore, x_iinc, x_iadd, x_isub, x_imul, x_idiv, x_irem, x_iand, x_ior, x_ixor, x_ishl, x_ishr, x_iushr, x_ineg, x_ladd, x_lsub, x_lmul, x_ldiv, x_lrem, x_lcmp, x_i2l, x_i2b, x_i2s, x_i2c, x_dup, x_pop, x_dup_x1, x_dup2, x_getfield, x_putfield, x_iaload, x_baload, x_saload, x_caload, x_daload, x_faload, x_laload, x_aaload, x_iastore, x_bastore, x_sastore, x_castore, x_lastore, x_aastore, x_arraylength, x_getstatic, x_goto, x_goto_w, x_ifCond, x_if_icmp, x_ifnull, x_ifnonnull, x_lookupswitch, x_invokevirtual, x_invokestatic, x_invokedynamic, x_ireturn, x_freturn, x_dreturn, x_lreturn, x_areturn, x_return_, pI_c, pL_c, pR_c, pV_i, pV_r, gI_c, gL_c, gR_c, pN_z, pN_s, lget_c, lins_z, lins_c, ldel_z, ldel_c, ldel2_z, ldel2_c, lset_i, lset_l, lset_r, lkeep_z, lkeep_c, largs_z, largs_c, cat_i, cat_l, cat_r, lkp_c, cnd_eq, cnd_ne, cnd_lt, cnd_ge, cnd_gt, cnd_le, swL_z, swL_c, rE_e, rOr_s, rOr_n, rlk_z, rlk_c, aR_c, aI_c, aII_c, aIII_c, aRI_c, aRII_c, aRIII_c, vJn, vJs, vlc, aRR_c, aRRI_c, aRRII_c, aRRIII_c, aRIIII_c, aRL_c, aRLL_c, aLL_c, aRRRI_c, aIL_c, aIIII_c, aRRIIII_c, aIRII_c, aIR_c, aLI_c, aRIR_c, aRIIR_c, hM.1.o, mpAll, mpHas, mpStO, mpOrdA, bpCount, hM8, hk8, nM_up, vA_up, up_ap, z0, et, ht', c2, c1, c1', c3, b64, b64', ec, e3, e5, e6, g1, g2, p1, p2, p3, p4]
          refine ⟨fun z => by omega, fun _ => ?_⟩
          rw [g3, g4]
          grind
    rw [hF0] at K
    have b7 : ((2 : Int) ^ nM σ - 1).toNat = 2 ^ nM σ - 1 := by omega
    have b9 : ((2 : Int) ^ nM σ).toNat - 1 = 2 ^ nM σ - 1 := by omega
    have b8 : (2 : Int) ^ nM σ - 1 < 64 ∧ 0 ≤ (2 : Int) ^ nM σ - 1 := by omega
    refine wg (by decide) rgOw_ok tk_251 py_251 ml_251 30 (by simp [catT]) (fun N hN => ?_)
    simp [bl_251, hN _, x_iconst, x_ldc2_w, x_aconst_null, x_iload, x_lload, x_aload, x_istore, x_lstore, x_astore, x_iinc, x_iadd, x_isub, x_imul, x_idiv, x_irem, x_iand, x_ior, x_ixor, x_ishl, x_ishr, x_iushr, x_ineg, x_ladd, x_lsub, x_lmul, x_ldiv, x_lrem, x_lcmp, x_i2l, x_i2b, x_i2s, x_i2c, x_dup, x_pop, x_dup_x1, x_dup2, x_getfield, x_putfield, x_iaload, x_baload, x_saload, x_caload, x_daload, x_faload, x_laload, x_aaload, x_iastore, x_bastore, x_sastore, x_castore, x_lastore, x_aastore, x_arraylength, x_getstatic, x_goto, x_goto_w, x_ifCond, x_if_icmp, x_ifnull, x_ifnonnull, x_lookupswitch, x_invokevirtual, x_invokestatic, x_invokedynamic, x_ireturn, x_freturn, x_dreturn, x_lreturn, x_areturn, x_return_, pI_c, pL_c, pR_c, pV_i, pV_r, gI_c, gL_c, gR_c, pN_z, pN_s, lget_c, lins_z, lins_c, ldel_z, ldel_c, ldel2_z, ldel2_c, lset_i, lset_l, lset_r, lkeep_z, lkeep_c, largs_z, largs_c, cat_i, cat_l, cat_r, lkp_c, cnd_eq, cnd_ne, cnd_lt, cnd_ge, cnd_gt, cnd_le, swL_z, swL_c, rE_e, rOr_s, rOr_n, rlk_z, rlk_c, aR_c, aI_c, aII_c, aIII_c, aRI_c, aRII_c, aRIII_c, vJn, vJs, vlc, aRR_c, aRRI_c, aRRII_c, aRRIII_c, aRIIII_c, aRL_c, aRLL_c, aLL_c, aRRRI_c, aIL_c, aIIII_c, aRRIIII_c, aIRII_c, aIR_c, aLI_c, aRIR_c, aRIIR_c, hM.1.o, mpShip, mpAll, mpStO, hM8, hk8, nM_up, vA_up, m1, Nat.not_le.mpr m1, b7, b8, b9, hAll]
    exact ⟨by omega, K⟩
  · rw [if_neg hs] at h
    have h := h _ QTM.rf
    refine wg (by decide) rgOw_ok tk_251 py_251 ml_251 30 (by simp [catT]) (fun N hN => ?_)
    simp [bl_251, hN _, x_iconst, x_ldc2_w, x_aconst_null, x_iload, x_lload, x_aload, x_istore, x_lstore, x_astore, x_iinc, x_iadd, x_isub, x_imul, x_idiv, x_irem, x_iand, x_ior, x_ixor, x_ishl, x_ishr, x_iushr, x_ineg, x_ladd, x_lsub, x_lmul, x_ldiv, x_lrem, x_lcmp, x_i2l, x_i2b, x_i2s, x_i2c, x_dup, x_pop, x_dup_x1, x_dup2, x_getfield, x_putfield, x_iaload, x_baload, x_saload, x_caload, x_daload, x_faload, x_laload, x_aaload, x_iastore, x_bastore, x_sastore, x_castore, x_lastore, x_aastore, x_arraylength, x_getstatic, x_goto, x_goto_w, x_ifCond, x_if_icmp, x_ifnull, x_ifnonnull, x_lookupswitch, x_invokevirtual, x_invokestatic, x_invokedynamic, x_ireturn, x_freturn, x_dreturn, x_lreturn, x_areturn, x_return_, pI_c, pL_c, pR_c, pV_i, pV_r, gI_c, gL_c, gR_c, pN_z, pN_s, lget_c, lins_z, lins_c, ldel_z, ldel_c, ldel2_z, ldel2_c, lset_i, lset_l, lset_r, lkeep_z, lkeep_c, largs_z, largs_c, cat_i, cat_l, cat_r, lkp_c, cnd_eq, cnd_ne, cnd_lt, cnd_ge, cnd_gt, cnd_le, swL_z, swL_c, rE_e, rOr_s, rOr_n, rlk_z, rlk_c, aR_c, aI_c, aII_c, aIII_c, aRI_c, aRII_c, aRIII_c, vJn, vJs, vlc, aRR_c, aRRI_c, aRRII_c, aRRIII_c, aRIIII_c, aRL_c, aRLL_c, aLL_c, aRRRI_c, aIL_c, aIIII_c, aRRIIII_c, aIRII_c, aIR_c, aLI_c, aRIR_c, aRIIR_c, hM.1.o, mpShip, hM8, nM_up]
    grind
