/-! StruckColours: order, sisters -/
/-- ships whose parts are v, behind those that stand there -/
def ordJ (V : Int → Int) (s v : Int) (p : List Int × Nat) : Nat → List Int × Nat := fo (fun i p => if partV V i s = v then (p.1 ++ [(i : Int)], p.2 + if 0 < v then 1 else 0) else p) p
def ordO (V : Int → Int) (s : Int) (n : Nat) : Nat → List Int × Nat := fo (fun j p => ordJ V s (12 - j) p n) ([], 0)
def cntN (p : Int → Bool) : Nat → Nat
  | 0 => 0
  | k + 1 => if p k then cntN p k + 1 else cntN p k
theorem cntN_l (p : Int → Bool) : ∀ n, cntN p n ≤ n
  | 0 => Nat.le_refl _
  | k + 1 => by have := cntN_l p k; unfold cntN; split <;> omega
theorem cntN_mono {p : Int → Bool} {m n : Nat} (h : m ≤ n) : cntN p m ≤ cntN p n := by
  induction n with
  | zero => obtain rfl : m = 0 := by omega
            exact Nat.le_refl _
  | succ n ih =>
    by_cases hm : m = n + 1
    · rw [hm]; exact Nat.le_refl _
    · have := ih (by omega)
      show _ ≤ (if p n then cntN p n + 1 else cntN p n)
      split <;> omega
theorem ordJ_l (V : Int → Int) (s v : Int) (p : List Int × Nat) : ∀ i, (ordJ V s v p i).1.length = p.1.length + cntN (fun k => decide (partV V k s = v)) i ∧ (ordJ V s v p i).2 ≤ p.2 + i
  | 0 => ⟨rfl, Nat.le_refl _⟩
  | i + 1 => by
    have ih := ordJ_l V s v p i
    have es : ordJ V s v p (i + 1) = if partV V i s = v then ((ordJ V s v p i).1 ++ [(i : Int)], (ordJ V s v p i).2 + if 0 < v then 1 else 0) else ordJ V s v p i := rfl
    have ec : cntN (fun k => decide (partV V k s = v)) (i + 1) = if partV V i s = v then cntN (fun k => decide (partV V k s = v)) i + 1 else cntN (fun k => decide (partV V k s = v)) i := by
      show (if decide (partV V i s = v) = true then _ else _) = _
      simp
    rw [es, ec]
    by_cases hv : partV V i s = v
    · rw [if_pos hv, if_pos hv]
      refine ⟨by simp [ih.1]; omega, ?_⟩
      show (ordJ V s v p i).2 + (if 0 < v then 1 else 0) ≤ _
      split <;> omega
    · rw [if_neg hv, if_neg hv]
      exact ⟨ih.1, by omega⟩
theorem cnt_split {V : Int → Int} {s v : Int} : ∀ n, cntN (fun k => decide (v < partV V k s)) n + cntN (fun k => decide (partV V k s = v)) n = cntN (fun k => decide (v - 1 < partV V k s)) n
  | 0 => rfl
  | n + 1 => by
    have ih := cnt_split (V := V) (s := s) (v := v) n
    show (if decide (v < partV V n s) = true then _ else _) + (if decide (partV V n s = v) = true then _ else _) = (if decide (v - 1 < partV V n s) = true then _ else _)
    simp only [decide_eq_true_eq]
    by_cases h1 : v < partV V n s
    · rw [if_pos h1, if_neg (by omega), if_pos (by omega)]; omega
    · by_cases h2 : partV V n s = v
      · rw [if_neg h1, if_pos h2, if_pos (by omega)]; omega
      · rw [if_neg h1, if_neg h2, if_neg (by omega)]; exact ih
theorem cnt_top {V : Int → Int} {s : Int} : ∀ n : Nat, (∀ i : Int, 0 ≤ i → i < n → partV V i s ≤ 12) → cntN (fun k => decide (12 < partV V k s)) n = 0
  | 0, _ => rfl
  | n + 1, h => by
    have ih := cnt_top (V := V) (s := s) n (fun i i0 i1 => h i i0 (by omega))
    have := h n (by omega) (by omega)
    show (if decide (12 < partV V n s) = true then _ else _) = 0
    rw [if_neg (by simp; omega)]
    exact ih
theorem ordO_l {V : Int → Int} {s : Int} {n : Nat} (h : ∀ i : Int, 0 ≤ i → i < n → partV V i s ≤ 12) : ∀ j : Nat, (ordO V s n j).1.length = cntN (fun k => decide (12 - (j : Int) < partV V k s)) n ∧ (ordO V s n j).2 ≤ j * n
  | 0 => ⟨(by show 0 = _; rw [show (12 : Int) - (0 : Nat) = 12 by omega, cnt_top n h]), by show 0 ≤ _; omega⟩
  | j + 1 => by
    have ih := ordO_l h j
    have es : ordO V s n (j + 1) = ordJ V s (12 - j) (ordO V s n j) n := rfl
    have hl := ordJ_l V s (12 - j) (ordO V s n j) n
    have hc := cnt_split (V := V) (s := s) (v := 12 - j) n
    rw [es]
    refine ⟨?_, ?_⟩
    · rw [hl.1, ih.1, hc]
      congr 1
      funext k
      rw [show (12 : Int) - ((j + 1 : Nat) : Int) = 12 - (j : Int) - 1 by omega]
    · have : (j + 1) * n = j * n + n := by rw [Nat.add_mul]; omega
      omega
def orderQ (n : Nat) (V : Int → Int) (s : Int) : QA := if 0 ≤ s ∧ s < 4 then ((ordO V s n 13).2, some (ordO V s n 13).1) else (-1, none)
set_option maxHeartbeats 1000000 in
theorem o_order {l : Launch} {g : GE} {d : Nat} {t : Tau} {σ : Mem} {Q : Post} {s : Int} (hC : TC t) (hk : SeaOk t σ 5) (h : ansC (orderQ (nS σ 5) (vwS σ 5) s) t σ Q) : WPc l g 105 (d + 7) 0 0 [vR 0, vI s] t σ Q := by
  have n6 := hk.2.2.1
  unfold ansC orderQ at h
  by_cases hs : 0 ≤ s ∧ s < 4
  · rw [if_pos hs] at h
    obtain ⟨s0, s1⟩ := hs
    have hp := fun i i0 i1 => (hk.2.2.pt (i := i) (s := s) i0 i1 s0 s1).2
    have hO := ordO_l (V := vwS σ 5) (s := s) (n := nS σ 5) hp
    have O : ∀ σ', QFr σ σ' → rwIs σ' (ordO (vwS σ 5) s (nS σ 5) 0).1 → Wp l g 105 (d + 7) 0 0 21 [(0, vR 0), (1, vI s), (2, vI (ordO (vwS σ 5) s (nS σ 5) 0).2), (3, vI (12 - (0 : Nat)))] [] t σ' Q := by
      refine lpU (P := fun j => ∀ σ', QFr σ σ' → rwIs σ' (ordO (vwS σ 5) s (nS σ 5) j).1 → Wp l g 105 (d + 7) 0 0 21 [(0, vR 0), (1, vI s), (2, vI (ordO (vwS σ 5) s (nS σ 5) j).2), (3, vI (12 - (j : Nat)))] [] t σ' Q) (n := 13) ?_ (fun j hj KO σ' q hr => ?_)
      · intro σ' q hr
        refine wa (by decide) rgC_ok tk_105 30 (fun N hN => ?_)
        simp [bl_105, hN _, x_iconst, x_ldc2_w, x_aconst_null, x_iload, x_lload, x_aload, x_istore, x_lstore, x_astore, x_iinc, x_iadd, x_isub, x_imul, x_idiv, x_irem, x_iand, x_ior, x_ixor, x_ishl, x_ishr, x_iushr, x_ineg, x_ladd, x_lsub, x_lmul, x_ldiv, x_lrem, x_lcmp, x_i2l, x_i2b, x_i2s, x_i2c, x_dup, x_pop, x_dup_x1, x_dup2, x_getfield, x_putfield, x_iaload, x_baload, x_saload, x_caload, x_daload, x_faload, x_laload, x_aaload, x_iastore, x_bastore, x_sastore, x_castore, x_lastore, x_aastore, x_arraylength, x_getstatic, x_goto, x_goto_w, x_ifCond, x_if_icmp, x_ifnull, x_ifnonnull, x_lookupswitch, x_invokevirtual, x_invokestatic, x_invokedynamic, x_ireturn, x_freturn, x_dreturn, x_lreturn, x_areturn, x_return_, pI_c, pL_c, pR_c, pV_i, pV_r, gI_c, gL_c, gR_c, pN_z, pN_s, lget_c, lins_z, lins_c, ldel_z, ldel_c, ldel2_z, ldel2_c, lset_i, lset_l, lset_r, lkeep_z, lkeep_c, largs_z, largs_c, cat_i, cat_l, cat_r, lkp_c, cnd_eq, cnd_ne, cnd_lt, cnd_ge, cnd_gt, cnd_le, swL_z, swL_c, rE_e, rOr_s, rOr_n, rlk_z, rlk_c, aR_c, aI_c, aII_c, aIII_c, aRI_c, aRII_c, aRIII_c, vJn, vJs, vlc, aRR_c, aRRI_c, aRRII_c, aRRIII_c, aRIIII_c, aRL_c, aRLL_c, aLL_c, aRRRI_c, aIL_c, aIIII_c, aRRIIII_c, aIRII_c, aIR_c, aLI_c, aRIR_c, aRIIR_c]
        exact h σ' ⟨q, hr⟩
      · have hOj := hO j
        have hOn := hO (j + 1)
        have es : ordO (vwS σ 5) s (nS σ 5) (j + 1) = ordJ (vwS σ 5) s (12 - j) (ordO (vwS σ 5) s (nS σ 5) j) (nS σ 5) := rfl
        rw [es] at KO
        generalize hP : ordO (vwS σ 5) s (nS σ 5) j = P at KO hr hOj es
        have hbig : ∀ i, i ≤ nS σ 5 → (ordJ (vwS σ 5) s (12 - j) P i).1.length ≤ nS σ 5 ∧ (ordJ (vwS σ 5) s (12 - j) P i).2 ≤ 100 := by
          intro i hi
          have h1 := ordJ_l (vwS σ 5) s (12 - j) P i
          have h2 := ordJ_l (vwS σ 5) s (12 - j) P (nS σ 5)
          rw [es] at hOn
          have h3 := cntN_l (fun k => decide (12 - ((j + 1 : Nat) : Int) < partV (vwS σ 5) k s)) (nS σ 5)
          have h4 := cntN_mono (p := fun k => decide (partV (vwS σ 5) k s = 12 - (j : Int))) hi
          have h5 : j * nS σ 5 ≤ 12 * 6 := Nat.mul_le_mul (by omega) n6
          omega
        have I : ∀ σ', QFr σ σ' → rwIs σ' (ordJ (vwS σ 5) s (12 - j) P 0).1 → Wp l g 105 (d + 7) 0 0 28 [(0, vR 0), (1, vI s), (2, vI (ordJ (vwS σ 5) s (12 - j) P 0).2), (3, vI (12 - j)), (4, vI (0 : Nat))] [] t σ' Q := by
          refine lpU (P := fun i => ∀ σ', QFr σ σ' → rwIs σ' (ordJ (vwS σ 5) s (12 - j) P i).1 → Wp l g 105 (d + 7) 0 0 28 [(0, vR 0), (1, vI s), (2, vI (ordJ (vwS σ 5) s (12 - j) P i).2), (3, vI (12 - j)), (4, vI i)] [] t σ' Q) (n := nS σ 5) ?_ (fun i hi K σ' q hr => ?_)
          · intro σ' q hr
            obtain ⟨k5, e1, e3, e4⟩ := q.sea hk
            have z0 := k5.2.1
            rw [e1] at z0
            have K := KO σ' q hr
            have e2 : w32 (12 - (j : Int) + -1) = 12 - ((j + 1 : Nat) : Int) := by rw [w32_id (by omega) (by omega)]; omega
            refine wa (by decide) rgC_ok tk_105 30 (fun N hN => ?_)
            simp [bl_105, hN _, x_iconst, x_ldc2_w, x_aconst_null, x_iload, x_lload, x_aload, x_istore, x_lstore, x_astore, x_iinc, x_iadd, x_isub, x_imul, x_idiv, x_irem, x_iand, x_ior, x_ixor, x_ishl, x_ishr, x_iushr, x_ineg, x_ladd, x_lsub, x_lmul, x_ldiv, x_lrem, x_lcmp, x_i2l, x_i2b, x_i2s, x_i2c, x_dup, x_pop, x_dup_x1, x_dup2, x_getfield, x_putfield, x_iaload, x_baload, x_saload, x_caload, x_daload, x_faload, x_laload, x_aaload, x_iastore, x_bastore, x_sastore, x_castore, x_lastore, x_aastore, x_arraylength, x_getstatic, x_goto, x_goto_w, x_ifCond, x_if_icmp, x_ifnull, x_ifnonnull, x_lookupswitch, x_invokevirtual, x_invokestatic, x_invokedynamic, x_ireturn, x_freturn, x_dreturn, x_lreturn, x_areturn, x_return_, pI_c, pL_c, pR_c, pV_i, pV_r, gI_c, gL_c, gR_c, pN_z, pN_s, lget_c, lins_z, lins_c, ldel_z, ldel_c, ldel2_z, ldel2_c, lset_i, lset_l, lset_r, lkeep_z, lkeep_c, largs_z, largs_c, cat_i, cat_l, cat_r, lkp_c, cnd_eq, cnd_ne, cnd_lt, cnd_ge, cnd_gt, cnd_le, swL_z, swL_c, rE_e, rOr_s, rOr_n, rlk_z, rlk_c, aR_c, aI_c, aII_c, aIII_c, aRI_c, aRII_c, aRIII_c, vJn, vJs, vlc, aRR_c, aRRI_c, aRRII_c, aRRIII_c, aRIIII_c, aRL_c, aRLL_c, aLL_c, aRRRI_c, aIL_c, aIIII_c, aRRIIII_c, aIRII_c, aIR_c, aLI_c, aRIR_c, aRIIR_c, hC.o0, hC.f0_0, hC.f0_1, hC.f0_2, hC.f0_3, hC.f0_4, hC.f0_5, hC.f0_6, hC.f0_7, hC.f0_8, hC.f0_9, hC.f0_10, hC.f0_11, hC.o1, hC.f1, hC.t2, hC.l2, hC.o3, hC.f3, hC.t4, hC.l4, hC.s5, hC.s12, hC.s19, hC.s112, hC.s119, hC.o26, hC.f26, hC.t27, hC.l27, hC.s28, hC.o126, hC.f126_0, hC.f126_1, hC.t127, hC.l127, hC.t128, hC.l128, hC.s129, hC.n157, hC.n161, hC.o165, hC.f165, hC.t166, hC.l166, hC.r167, hC.r171, hC.q5, hC.q12, hC.q19, hC.q112, hC.q119, hC.a2, hC.a4, hC.a27, hC.a127, hC.a128, hC, z0, e2]
            simpa using K
          · have e2 := w32_succ (k := i) (by omega); have i1 : ((i : Nat) : Int) < (nS σ 5 : Nat) := (by omega); have i1n : i < nS σ 5 := (by omega); have i1x : ¬ nS σ 5 ≤ i := (by omega)
            obtain ⟨k5, e1, e3, e4⟩ := q.sea hk
            have z0 := k5.2.1
            rw [e1] at z0
            have hb := hbig i (by omega)
            have hb1 := hbig (i + 1) (by omega)
            have er : ordJ (vwS σ 5) s (12 - j) P (i + 1) = if partV (vwS σ 5) i s = 12 - j then ((ordJ (vwS σ 5) s (12 - j) P i).1 ++ [(i : Int)], (ordJ (vwS σ 5) s (12 - j) P i).2 + if 0 < (12 : Int) - j then 1 else 0) else ordJ (vwS σ 5) s (12 - j) P i := rfl
            rw [er] at K hb1
            generalize hR : ordJ (vwS σ 5) s (12 - j) P i = R at K hr hb hb1
            have a1 : σ' 3 1 = R.1.length := hr.1
            have e5 : w32 (R.2 : Int) = R.2 := w32_id (by omega) (by omega)
            have e6 : w32 ((R.2 : Int) + 1) = R.2 + 1 := w32_id (by omega) (by omega)
            refine wa (by decide) rgC_ok tk_105 30 (fun N hN => ?_)
            simp [bl_105, hN _, x_iconst, x_ldc2_w, x_aconst_null, x_iload, x_lload, x_aload, x_istore, x_lstore, x_astore, x_iinc, x_iadd, x_isub, x_imul, x_idiv, x_irem, x_iand, x_ior, x_ixor, x_ishl, x_ishr, x_iushr, x_ineg, x_ladd, x_lsub, x_lmul, x_ldiv, x_lrem, x_lcmp, x_i2l, x_i2b, x_i2s, x_i2c, x_dup, x_pop, x_dup_x1, x_dup2, x_getfield, x_putfield, x_iaload, x_baload, x_saload, x_caload, x_daload, x_faload, x_laload, x_aaload, x_iastore, x_bastore, x_sastore, x_castore, x_lastore, x_aastore, x_arraylength, x_getstatic, x_goto, x_goto_w, x_ifCond, x_if_icmp, x_ifnull, x_ifnonnull, x_lookupswitch, x_invokevirtual, x_invokestatic, x_invokedynamic, x_ireturn, x_freturn, x_dreturn, x_lreturn, x_areturn, x_return_, pI_c, pL_c, pR_c, pV_i, pV_r, gI_c, gL_c, gR_c, pN_z, pN_s, lget_c, lins_z, lins_c, ldel_z, ldel_c, ldel2_z, ldel2_c, lset_i, lset_l, lset_r, lkeep_z, lkeep_c, largs_z, largs_c, cat_i, cat_l, cat_r, lkp_c, cnd_eq, cnd_ne, cnd_lt, cnd_ge, cnd_gt, cnd_le, swL_z, swL_c, rE_e, rOr_s, rOr_n, rlk_z, rlk_c, aR_c, aI_c, aII_c, aIII_c, aRI_c, aRII_c, aRIII_c, vJn, vJs, vlc, aRR_c, aRRI_c, aRRII_c, aRRIII_c, aRIIII_c, aRL_c, aRLL_c, aLL_c, aRRRI_c, aIL_c, aIIII_c, aRRIIII_c, aIRII_c, aIR_c, aLI_c, aRIR_c, aRIIR_c, hC.o0, hC.f0_0, hC.f0_1, hC.f0_2, hC.f0_3, hC.f0_4, hC.f0_5, hC.f0_6, hC.f0_7, hC.f0_8, hC.f0_9, hC.f0_10, hC.f0_11, hC.o1, hC.f1, hC.t2, hC.l2, hC.o3, hC.f3, hC.t4, hC.l4, hC.s5, hC.s12, hC.s19, hC.s112, hC.s119, hC.o26, hC.f26, hC.t27, hC.l27, hC.s28, hC.o126, hC.f126_0, hC.f126_1, hC.t127, hC.l127, hC.t128, hC.l128, hC.s129, hC.n157, hC.n161, hC.o165, hC.f165, hC.t166, hC.l166, hC.r167, hC.r171, hC.q5, hC.q12, hC.q19, hC.q112, hC.q119, hC.a2, hC.a4, hC.a27, hC.a127, hC.a128, hC, z0, e2, i1, i1n, i1x, apParts, rpAdds, k5, e1, e4, s0, s1, Int.not_le.mpr s1, Int.not_lt.mpr s0, e5, e6]
            by_cases hv : partV (vwS σ 5) i s = 12 - j
            · rw [if_pos hv] at K hb1
              simp at hb1
              refine ⟨fun z => (z hv).elim, fun z => ⟨by omega, fun y => ?_, fun y => ?_⟩⟩
              · rw [if_neg (by omega)] at K
                exact K _ ((q.up scr4).up scr3) (hr.add (by omega))
              · rw [if_pos (by omega)] at K
                simpa using K _ ((q.up scr4).up scr3) (hr.add (by omega))
            · rw [if_neg hv] at K
              exact ⟨fun z => K _ q hr, fun z => (hv z).elim⟩
        have K := I σ' q hr
        have e7 : ¬ 12 - (j : Int) < 0 := by omega
        refine wa (by decide) rgC_ok tk_105 30 (fun N hN => ?_)
        simp [bl_105, hN _, x_iconst, x_ldc2_w, x_aconst_null, x_iload, x_lload, x_aload, x_istore, x_lstore, x_astore, x_iinc, x_iadd, x_isub, x_imul, x_idiv, x_irem, x_iand, x_ior, x_ixor, x_ishl, x_ishr, x_iushr, x_ineg, x_ladd, x_lsub, x_lmul, x_ldiv, x_lrem, x_lcmp, x_i2l, x_i2b, x_i2s, x_i2c, x_dup, x_pop, x_dup_x1, x_dup2, x_getfield, x_putfield, x_iaload, x_baload, x_saload, x_caload, x_daload, x_faload, x_laload, x_aaload, x_iastore, x_bastore, x_sastore, x_castore, x_lastore, x_aastore, x_arraylength, x_getstatic, x_goto, x_goto_w, x_ifCond, x_if_icmp, x_ifnull, x_ifnonnull, x_lookupswitch, x_invokevirtual, x_invokestatic, x_invokedynamic, x_ireturn, x_freturn, x_dreturn, x_lreturn, x_areturn, x_return_, pI_c, pL_c, pR_c, pV_i, pV_r, gI_c, gL_c, gR_c, pN_z, pN_s, lget_c, lins_z, lins_c, ldel_z, ldel_c, ldel2_z, ldel2_c, lset_i, lset_l, lset_r, lkeep_z, lkeep_c, largs_z, largs_c, cat_i, cat_l, cat_r, lkp_c, cnd_eq, cnd_ne, cnd_lt, cnd_ge, cnd_gt, cnd_le, swL_z, swL_c, rE_e, rOr_s, rOr_n, rlk_z, rlk_c, aR_c, aI_c, aII_c, aIII_c, aRI_c, aRII_c, aRIII_c, vJn, vJs, vlc, aRR_c, aRRI_c, aRRII_c, aRRIII_c, aRIIII_c, aRL_c, aRLL_c, aLL_c, aRRRI_c, aIL_c, aIIII_c, aRRIIII_c, aIRII_c, aIR_c, aLI_c, aRIR_c, aRIIR_c, e7]
        exact fun _ => K
    have K := O _ (QFr.rf.up scr3) rwIs.nil
    refine wg (by decide) rgC_ok tk_105 py_105 ml_105 30 (by simp [catT]) (fun N hN => ?_)
    simp [bl_105, hN _, x_iconst, x_ldc2_w, x_aconst_null, x_iload, x_lload, x_aload, x_istore, x_lstore, x_astore, x_iinc, x_iadd, x_isub, x_imul, x_idiv, x_irem, x_iand, x_ior, x_ixor, x_ishl, x_ishr, x_iushr, x_ineg, x_ladd, x_lsub, x_lmul, x_ldiv, x_lrem, x_lcmp, x_i2l, x_i2b, x_i2s, x_i2c, x_dup, x_pop, x_dup_x1, x_dup2, x_getfield, x_putfield, x_iaload, x_baload, x_saload, x_caload, x_daload, x_faload, x_laload, x_aaload, x_iastore, x_bastore, x_sastore, x_castore, x_lastore, x_aastore, x_arraylength, x_getstatic, x_goto, x_goto_w, x_ifCond, x_if_icmp, x_ifnull, x_ifnonnull, x_lookupswitch, x_invokevirtual, x_invokestatic, x_invokedynamic, x_ireturn, x_freturn, x_dreturn, x_lreturn, x_areturn, x_return_, pI_c, pL_c, pR_c, pV_i, pV_r, gI_c, gL_c, gR_c, pN_z, pN_s, lget_c, lins_z, lins_c, ldel_z, ldel_c, ldel2_z, ldel2_c, lset_i, lset_l, lset_r, lkeep_z, lkeep_c, largs_z, largs_c, cat_i, cat_l, cat_r, lkp_c, cnd_eq, cnd_ne, cnd_lt, cnd_ge, cnd_gt, cnd_le, swL_z, swL_c, rE_e, rOr_s, rOr_n, rlk_z, rlk_c, aR_c, aI_c, aII_c, aIII_c, aRI_c, aRII_c, aRIII_c, vJn, vJs, vlc, aRR_c, aRRI_c, aRRII_c, aRRIII_c, aRIIII_c, aRL_c, aRLL_c, aLL_c, aRRRI_c, aIL_c, aIIII_c, aRRIIII_c, aIRII_c, aIR_c, aLI_c, aRIR_c, aRIIR_c, hC.o0, hC.f0_0, hC.f0_1, hC.f0_2, hC.f0_3, hC.f0_4, hC.f0_5, hC.f0_6, hC.f0_7, hC.f0_8, hC.f0_9, hC.f0_10, hC.f0_11, hC.o1, hC.f1, hC.t2, hC.l2, hC.o3, hC.f3, hC.t4, hC.l4, hC.s5, hC.s12, hC.s19, hC.s112, hC.s119, hC.o26, hC.f26, hC.t27, hC.l27, hC.s28, hC.o126, hC.f126_0, hC.f126_1, hC.t127, hC.l127, hC.t128, hC.l128, hC.s129, hC.n157, hC.n161, hC.o165, hC.f165, hC.t166, hC.l166, hC.r167, hC.r171, hC.q5, hC.q12, hC.q19, hC.q112, hC.q119, hC.a2, hC.a4, hC.a27, hC.a127, hC.a128, hC, spSide, rpClears, s0, s1, Int.not_le.mpr s1, Int.not_lt.mpr s0]
    exact K
  · rw [if_neg hs] at h
    have h := h σ QTo.rf
    refine wg (by decide) rgC_ok tk_105 py_105 ml_105 30 (by simp [catT]) (fun N hN => ?_)
    simp [bl_105, hN _, x_iconst, x_ldc2_w, x_aconst_null, x_iload, x_lload, x_aload, x_istore, x_lstore, x_astore, x_iinc, x_iadd, x_isub, x_imul, x_idiv, x_irem, x_iand, x_ior, x_ixor, x_ishl, x_ishr, x_iushr, x_ineg, x_ladd, x_lsub, x_lmul, x_ldiv, x_lrem, x_lcmp, x_i2l, x_i2b, x_i2s, x_i2c, x_dup, x_pop, x_dup_x1, x_dup2, x_getfield, x_putfield, x_iaload, x_baload, x_saload, x_caload, x_daload, x_faload, x_laload, x_aaload, x_iastore, x_bastore, x_sastore, x_castore, x_lastore, x_aastore, x_arraylength, x_getstatic, x_goto, x_goto_w, x_ifCond, x_if_icmp, x_ifnull, x_ifnonnull, x_lookupswitch, x_invokevirtual, x_invokestatic, x_invokedynamic, x_ireturn, x_freturn, x_dreturn, x_lreturn, x_areturn, x_return_, pI_c, pL_c, pR_c, pV_i, pV_r, gI_c, gL_c, gR_c, pN_z, pN_s, lget_c, lins_z, lins_c, ldel_z, ldel_c, ldel2_z, ldel2_c, lset_i, lset_l, lset_r, lkeep_z, lkeep_c, largs_z, largs_c, cat_i, cat_l, cat_r, lkp_c, cnd_eq, cnd_ne, cnd_lt, cnd_ge, cnd_gt, cnd_le, swL_z, swL_c, rE_e, rOr_s, rOr_n, rlk_z, rlk_c, aR_c, aI_c, aII_c, aIII_c, aRI_c, aRII_c, aRIII_c, vJn, vJs, vlc, aRR_c, aRRI_c, aRRII_c, aRRIII_c, aRIIII_c, aRL_c, aRLL_c, aLL_c, aRRRI_c, aIL_c, aIIII_c, aRRIIII_c, aIRII_c, aIR_c, aLI_c, aRIR_c, aRIIR_c, spSide]
    grind
