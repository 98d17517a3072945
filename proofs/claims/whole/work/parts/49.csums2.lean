/-! StruckColours: evens, worth, patched -/
def evF (V : Int → Int) (n : Nat) : Nat → Nat := fo (fun k b => if absI (2 * sumT (2 * k) V n - sumN V n) < absI (2 * sumT b V n - sumN V n) then 2 * k else b) 0
theorem evF_l (V : Int → Int) (n : Nat) : ∀ k, evF V n k ≤ 2 * k
  | 0 => Nat.le_refl _
  | k + 1 => by
    have := evF_l V n k
    have es : evF V n (k + 1) = if absI (2 * sumT (2 * k) V n - sumN V n) < absI (2 * sumT (evF V n k) V n - sumN V n) then 2 * k else evF V n k := rfl
    rw [es]; split <;> omega
def evQ (n : Nat) (V : Int → Int) : QA := (absI (2 * sumT (evF V n ((2 ^ n + 1) / 2)) V n - sumN V n), some [(evF V n ((2 ^ n + 1) / 2) : Int)])
theorem sumT_0 {f : Int → Int} {n : Nat} : sumT 0 f n = 0 := by
  unfold sumT
  have : ∀ n, sumN (fun i => if tb 0 i.toNat then f i else 0) n = 0 := by
    intro n
    induction n with
    | zero => rfl
    | succ n ih =>
      show sumN _ n + (if tb 0 (n : Int).toNat then f n else 0) = 0
      rw [ih]
      have : tb 0 (n : Int).toNat = false := by unfold tb; simp
      rw [this]; simp
  exact this n
theorem absI_c (x y : Int) : absI (x - y) = absI (y - x) := by unfold absI; split <;> split <;> omega
theorem st_in {n : Nat} {M V : Int → Int} (h : WFV n M V) {i : Int} (h0 : 0 ≤ i) (h1 : i < n) : 0 ≤ V i ∧ V i ≤ 9 := by have := (h.2.1 i h0 h1).1; omega
theorem o_evens {l : Launch} {g : GE} {d : Nat} {t : Tau} {σ : Mem} {Q : Post} (hC : TC t) (hk : SeaOk t σ 5) (h : ansC (evQ (nS σ 5) (vwS σ 5)) t σ Q) : WPc l g 115 (d + 7) 0 0 [vR 0] t σ Q := by
  have n6 := hk.2.2.1
  have z0 := hk.2.1
  have hp2 := pow_le64 n6
  have eS := shl_1 n6
  unfold ansC evQ at h
  have hB : ∀ i : Int, 0 ≤ i → i < nS σ 5 → 0 ≤ vwS σ 5 i ∧ vwS σ 5 i ≤ 9 := fun i i0 i1 => st_in hk.2.2 i0 i1
  have hA := sumN_b (f := vwS σ 5) (nS σ 5) hB
  have hA2 := mul_le12 n6 (by omega) hA.2
  generalize hF : evF (vwS σ 5) (nS σ 5) = F at h
  have hF0 : F 0 = 0 := by rw [← hF]; rfl
  have hFl : ∀ k, F k ≤ 2 * k := by rw [← hF]; exact evF_l _ _
  have hFs : ∀ k, F (k + 1) = if absI (2 * sumT (2 * k) (vwS σ 5) (nS σ 5) - sumN (vwS σ 5) (nS σ 5)) < absI (2 * sumT (F k) (vwS σ 5) (nS σ 5) - sumN (vwS σ 5) (nS σ 5)) then 2 * k else F k := by rw [← hF]; intro k; rfl
  generalize hAl : sumN (vwS σ 5) (nS σ 5) = A at h hA hA2 hFs
  have K : Wp l g 115 (d + 7) 0 0 15 [(0, vR 0), (1, vI A), (2, vI (F 0)), (3, vI (absI (2 * sumT (F 0) (vwS σ 5) (nS σ 5) - A))), (4, vI (2 * 0 : Nat))] [] t σ Q := by
    refine lpU (P := fun k => Wp l g 115 (d + 7) 0 0 15 [(0, vR 0), (1, vI A), (2, vI (F k)), (3, vI (absI (2 * sumT (F k) (vwS σ 5) (nS σ 5) - A))), (4, vI (2 * k : Nat))] [] t σ Q) (n := (2 ^ nS σ 5 + 1) / 2) ?_ (fun k hk' K => ?_)
    · have e1 : ((2 ^ nS σ 5 : Nat) : Int) ≤ ((2 * ((2 ^ nS σ 5 + 1) / 2) : Nat) : Int) := by omega
      generalize (2 ^ nS σ 5 + 1) / 2 = K at h e1
      have e2 : (2 : Int) ^ nS σ 5 ≤ 2 * (K : Int) := by simpa using e1
      refine wa (by decide) rgD_ok tk_115 30 (fun N hN => ?_)
      simp [bl_115, hN _, x_iconst, x_ldc2_w, x_aconst_null, x_iload, x_lload, x_aload, x_istore, x_lstore, x_astore, x_iinc, x_iadd, x_isub, x_imul, x_idiv, x_irem, x_iand, x_ior, x_ixor, x_ishl, x_ishr, x_iushr, x_ineg, x_ladd, x_lsub, x_lmul, x_ldiv, x_lrem, x_lcmp, x_i2l, x_i2b, x_i2s, x_i2c, x_dup, x_pop, x_dup_x1, x_dup2, x_getfield, x_putfield, x_iaload, x_baload, x_saload, x_caload, x_daload, x_faload, x_laload, x_aaload, x_iastore, x_bastore, x_sastore, x_castore, x_lastore, x_aastore, x_arraylength, x_getstatic, x_goto, x_goto_w, x_ifCond, x_if_icmp, x_ifnull, x_ifnonnull, x_lookupswitch, x_invokevirtual, x_invokestatic, x_invokedynamic, x_ireturn, x_freturn, x_dreturn, x_lreturn, x_areturn, x_return_, pI_c, pL_c, pR_c, pV_i, pV_r, gI_c, gL_c, gR_c, pN_z, pN_s, lget_c, lins_z, lins_c, ldel_z, ldel_c, ldel2_z, ldel2_c, lset_i, lset_l, lset_r, lkeep_z, lkeep_c, largs_z, largs_c, cat_i, cat_l, cat_r, lkp_c, cnd_eq, cnd_ne, cnd_lt, cnd_ge, cnd_gt, cnd_le, swL_z, swL_c, rE_e, rOr_s, rOr_n, rlk_z, rlk_c, aR_c, aI_c, aII_c, aIII_c, aRI_c, aRII_c, aRIII_c, vJn, vJs, vlc, aRR_c, aRRI_c, aRRII_c, aRRIII_c, aRIIII_c, aRL_c, aRLL_c, aLL_c, aRRRI_c, aIL_c, aIIII_c, aRRIIII_c, aIRII_c, aIR_c, aLI_c, aRIR_c, aRIIR_c, hC.o0, hC.f0_0, hC.f0_1, hC.f0_2, hC.f0_3, hC.f0_4, hC.f0_5, hC.f0_6, hC.f0_7, hC.f0_8, hC.f0_9, hC.f0_10, hC.f0_11, hC.o1, hC.f1, hC.t2, hC.l2, hC.o3, hC.f3, hC.t4, hC.l4, hC.s5, hC.s12, hC.s19, hC.s112, hC.s119, hC.o26, hC.f26, hC.t27, hC.l27, hC.s28, hC.o126, hC.f126_0, hC.f126_1, hC.t127, hC.l127, hC.t128, hC.l128, hC.s129, hC.n157, hC.n161, hC.o165, hC.f165, hC.t166, hC.l166, hC.r167, hC.r171, hC.q5, hC.q12, hC.q19, hC.q112, hC.q119, hC.a2, hC.a4, hC.a27, hC.a127, hC.a128, hC, z0, eS, rpClears, rpAdds, up_ap]
      exact ⟨fun _ => h _ (QTo.q1 QFr.rf), fun z => by omega⟩
    · have e1 : ¬ ((2 ^ nS σ 5 : Nat) : Int) ≤ ((2 * k : Nat) : Int) := by omega
      have e2 : ¬ (2 : Int) ^ nS σ 5 ≤ 2 * (k : Int) := by simpa using e1
      have hb : 2 * k < 64 := by omega
      have eb := sumT_B (b := 2 * k) (f := vwS σ 5) (n := nS σ 5) hb n6
      have hs := sumT_b (b := 2 * k) (f := vwS σ 5) (nS σ 5) n6 (by omega) hB
      have e3 : w32 (2 * sumT (2 * k) (vwS σ 5) (nS σ 5)) = 2 * sumT (2 * k) (vwS σ 5) (nS σ 5) := w32_id (by omega) (by omega)
      have e4 := abs_w (x := A - 2 * sumT (2 * k) (vwS σ 5) (nS σ 5)) (by omega)
      rw [absI_c] at e4
      have e5 : w32 (2 * (k : Int) + 2) = ((2 * (k + 1) : Nat) : Int) := by rw [w32_id (by omega) (by omega)]; omega
      rw [show ((2 * k : Nat) : Int) = 2 * (k : Int) by omega] at eb
      rw [hFs k] at K
      refine wa (by decide) rgD_ok tk_115 30 (fun N hN => ?_)
      simp [bl_115, hN _, x_iconst, x_ldc2_w, x_aconst_null, x_iload, x_lload, x_aload, x_istore, x_lstore, x_astore, x_iinc, x_iadd, x_isub, x_imul, x_idiv, x_irem, x_iand, x_ior, x_ixor, x_ishl, x_ishr, x_iushr, x_ineg, x_ladd, x_lsub, x_lmul, x_ldiv, x_lrem, x_lcmp, x_i2l, x_i2b, x_i2s, x_i2c, x_dup, x_pop, x_dup_x1, x_dup2, x_getfield, x_putfield, x_iaload, x_baload, x_saload, x_caload, x_daload, x_faload, x_laload, x_aaload, x_iastore, x_bastore, x_sastore, x_castore, x_lastore, x_aastore, x_arraylength, x_getstatic, x_goto, x_goto_w, x_ifCond, x_if_icmp, x_ifnull, x_ifnonnull, x_lookupswitch, x_invokevirtual, x_invokestatic, x_invokedynamic, x_ireturn, x_freturn, x_dreturn, x_lreturn, x_areturn, x_return_, pI_c, pL_c, pR_c, pV_i, pV_r, gI_c, gL_c, gR_c, pN_z, pN_s, lget_c, lins_z, lins_c, ldel_z, ldel_c, ldel2_z, ldel2_c, lset_i, lset_l, lset_r, lkeep_z, lkeep_c, largs_z, largs_c, cat_i, cat_l, cat_r, lkp_c, cnd_eq, cnd_ne, cnd_lt, cnd_ge, cnd_gt, cnd_le, swL_z, swL_c, rE_e, rOr_s, rOr_n, rlk_z, rlk_c, aR_c, aI_c, aII_c, aIII_c, aRI_c, aRII_c, aRIII_c, vJn, vJs, vlc, aRR_c, aRRI_c, aRRII_c, aRRIII_c, aRIIII_c, aRL_c, aRLL_c, aLL_c, aRRRI_c, aIL_c, aIIII_c, aRRIIII_c, aIRII_c, aIR_c, aLI_c, aRIR_c, aRIIR_c, hC.o0, hC.f0_0, hC.f0_1, hC.f0_2, hC.f0_3, hC.f0_4, hC.f0_5, hC.f0_6, hC.f0_7, hC.f0_8, hC.f0_9, hC.f0_10, hC.f0_11, hC.o1, hC.f1, hC.t2, hC.l2, hC.o3, hC.f3, hC.t4, hC.l4, hC.s5, hC.s12, hC.s19, hC.s112, hC.s119, hC.o26, hC.f26, hC.t27, hC.l27, hC.s28, hC.o126, hC.f126_0, hC.f126_1, hC.t127, hC.l127, hC.t128, hC.l128, hC.s129, hC.n157, hC.n161, hC.o165, hC.f165, hC.t166, hC.l166, hC.r167, hC.r171, hC.q5, hC.q12, hC.q19, hC.q112, hC.q119, hC.a2, hC.a4, hC.a27, hC.a127, hC.a128, hC, z0, eS, apSos, spAbs, hk]
      refine ⟨fun z => (e2 z).elim, fun _ => ?_⟩
      rw [eb, e3, e4, e5]
      refine ⟨fun z => ?_, fun z => ?_⟩
      · rw [if_neg (by omega)] at K; exact K
      · rw [if_pos z] at K; simpa using K
  rw [hF0, sumT_0] at K
  have e6 : absI (2 * 0 - A) = A := by unfold absI; split <;> omega
  rw [e6] at K
  refine wg (by decide) rgD_ok tk_115 py_115 ml_115 30 (by simp [catT]) (fun N hN => ?_)
  simp [bl_115, hN _, x_iconst, x_ldc2_w, x_aconst_null, x_iload, x_lload, x_aload, x_istore, x_lstore, x_astore, x_iinc, x_iadd, x_isub, x_imul, x_idiv, x_irem, x_iand, x_ior, x_ixor, x_ishl, x_ishr, x_iushr, x_ineg, x_ladd, x_lsub, x_lmul, x_ldiv, x_lrem, x_lcmp, x_i2l, x_i2b, x_i2s, x_i2c, x_dup, x_pop, x_dup_x1, x_dup2, x_getfield, x_putfield, x_iaload, x_baload, x_saload, x_caload, x_daload, x_faload, x_laload, x_aaload, x_iastore, x_bastore, x_sastore, x_castore, x_lastore, x_aastore, x_arraylength, x_getstatic, x_goto, x_goto_w, x_ifCond, x_if_icmp, x_ifnull, x_ifnonnull, x_lookupswitch, x_invokevirtual, x_invokestatic, x_invokedynamic, x_ireturn, x_freturn, x_dreturn, x_lreturn, x_areturn, x_return_, pI_c, pL_c, pR_c, pV_i, pV_r, gI_c, gL_c, gR_c, pN_z, pN_s, lget_c, lins_z, lins_c, ldel_z, ldel_c, ldel2_z, ldel2_c, lset_i, lset_l, lset_r, lkeep_z, lkeep_c, largs_z, largs_c, cat_i, cat_l, cat_r, lkp_c, cnd_eq, cnd_ne, cnd_lt, cnd_ge, cnd_gt, cnd_le, swL_z, swL_c, rE_e, rOr_s, rOr_n, rlk_z, rlk_c, aR_c, aI_c, aII_c, aIII_c, aRI_c, aRII_c, aRIII_c, vJn, vJs, vlc, aRR_c, aRRI_c, aRRII_c, aRRIII_c, aRIIII_c, aRL_c, aRLL_c, aLL_c, aRRRI_c, aIL_c, aIIII_c, aRRIIII_c, aIRII_c, aIR_c, aLI_c, aRIR_c, aRIIR_c, hC.o0, hC.f0_0, hC.f0_1, hC.f0_2, hC.f0_3, hC.f0_4, hC.f0_5, hC.f0_6, hC.f0_7, hC.f0_8, hC.f0_9, hC.f0_10, hC.f0_11, hC.o1, hC.f1, hC.t2, hC.l2, hC.o3, hC.f3, hC.t4, hC.l4, hC.s5, hC.s12, hC.s19, hC.s112, hC.s119, hC.o26, hC.f26, hC.t27, hC.l27, hC.s28, hC.o126, hC.f126_0, hC.f126_1, hC.t127, hC.l127, hC.t128, hC.l128, hC.s129, hC.n157, hC.n161, hC.o165, hC.f165, hC.t166, hC.l166, hC.r167, hC.r171, hC.q5, hC.q12, hC.q19, hC.q112, hC.q119, hC.a2, hC.a4, hC.a27, hC.a127, hC.a128, hC, apSoa, hk, hAl]
  exact K
/-! worth -/
def fct (n : Nat) : Nat := [1, 1, 2, 6, 24, 120, 720].getD n 0
theorem fct_l (n : Nat) : fct n ≤ 720 := by
  unfold fct
  rcases (show n = 0 ∨ n = 1 ∨ n = 2 ∨ n = 3 ∨ n = 4 ∨ n = 5 ∨ n = 6 ∨ 7 ≤ n by omega) with rfl | rfl | rfl | rfl | rfl | rfl | rfl | h
  all_goals first | decide | skip
  rw [List.getD_eq_getElem?_getD, List.getElem?_eq_none (by simpa using h)]
  decide
theorem fct_p {n : Nat} (h : n ≤ 6) : 0 < fct n := by
  unfold fct
  rcases (show n = 0 ∨ n = 1 ∨ n = 2 ∨ n = 3 ∨ n = 4 ∨ n = 5 ∨ n = 6 by omega) with rfl | rfl | rfl | rfl | rfl | rfl | rfl <;> decide
def fpFact : Sp := fun as t σ Q => aI as fun n => (0 ≤ n ∧ n ≤ 6) ∧ Q (some (vI (fct n.toNat))) t σ
theorem f_fact {l : Launch} {g : GE} {d : Nat} {t : Tau} {σ : Mem} {Q : Post} {as : List TV} (h : fpFact as t σ Q) : WPc l g 163 (d + 1) 0 0 as t σ Q := by
  obtain ⟨n, rfl, ⟨n0, n1⟩, h1⟩ := aI_e h
  obtain ⟨m, rfl⟩ : ∃ m : Nat, n = m := ⟨n.toNat, by omega⟩
  have n7 : (m : Int) < 7 := by omega
  have n8 : ¬ (7 : Int) ≤ m := by omega
  have n9 : m < 7 := by omega
  have n10 : ¬ 7 ≤ m := by omega
  have e : sCt g 3 m = (fct m : Int) := by
    rcases (show m = 0 ∨ m = 1 ∨ m = 2 ∨ m = 3 ∨ m = 4 ∨ m = 5 ∨ m = 6 by omega) with rfl | rfl | rfl | rfl | rfl | rfl | rfl <;> rfl
  have e2 : sLen g 3 = 7 := rfl
  refine wg (by decide) rE_nil tk_163 py_163 ml_163 30 (by simp [catT]) (fun N hN => ?_)
  simp [bl_163, hN _, x_iconst, x_ldc2_w, x_aconst_null, x_iload, x_lload, x_aload, x_istore, x_lstore, x_astore, x_iinc, x_iadd, x_isub, x_imul, x_idiv, x_irem, x_iand, x_ior, x_ixor, x_ishl, x_ishr, x_iushr, x_ineg, x_ladd, x_lsub, x_lmul, x_ldiv, x_lrem, x_lcmp, x_i2l, x_i2b, x_i2s, x_i2c, x_dup, x_pop, x_dup_x1, x_dup2, x_getfield, x_putfield, x_iaload, x_baload, x_saload, x_caload, x_daload, x_faload, x_laload, x_aaload, x_iastore, x_bastore, x_sastore, x_castore, x_lastore, x_aastore, x_arraylength, x_getstatic, x_goto, x_goto_w, x_ifCond, x_if_icmp, x_ifnull, x_ifnonnull, x_lookupswitch, x_invokevirtual, x_invokestatic, x_invokedynamic, x_ireturn, x_freturn, x_dreturn, x_lreturn, x_areturn, x_return_, pI_c, pL_c, pR_c, pV_i, pV_r, gI_c, gL_c, gR_c, pN_z, pN_s, lget_c, lins_z, lins_c, ldel_z, ldel_c, ldel2_z, ldel2_c, lset_i, lset_l, lset_r, lkeep_z, lkeep_c, largs_z, largs_c, cat_i, cat_l, cat_r, lkp_c, cnd_eq, cnd_ne, cnd_lt, cnd_ge, cnd_gt, cnd_le, swL_z, swL_c, rE_e, rOr_s, rOr_n, rlk_z, rlk_c, aR_c, aI_c, aII_c, aIII_c, aRI_c, aRII_c, aRIII_c, vJn, vJs, vlc, aRR_c, aRRI_c, aRRII_c, aRRIII_c, aRIIII_c, aRL_c, aRLL_c, aLL_c, aRRRI_c, aIL_c, aIIII_c, aRRIIII_c, aIRII_c, aIR_c, aLI_c, aRIR_c, aRIIR_c, e, e2, n7, n8, n9, n10]
  exact ⟨fun z => by omega, by simpa using h1⟩
abbrev rgE : Reg := (163, fpFact) :: rgD
theorem rgE_ok {l : Launch} {g : GE} {d : Nat} : ∀ e as t σ Q, rE l g (d + 6) rgE e as t σ Q → WPc l g e (d + 6) 0 0 as t σ Q := rE_cons (fun _ _ _ _ h => f_fact h) rgD_ok
def worF (V : Int → Int) (n : Nat) (s : Int) : Nat → Nat := fo (fun b a => if tb b s.toNat then a else if 2 * sumT b V n ≤ sumN V n ∧ sumN V n < 2 * (sumT b V n + V s) then a + fct (popc b) * fct (n - 1 - popc b) else a) 0
theorem worF_l (V : Int → Int) (n : Nat) (s : Int) : ∀ b, worF V n s b ≤ b * 518400
  | 0 => Nat.le_refl _
  | b + 1 => by
    have ih := worF_l V n s b
    have hm : fct (popc b) * fct (n - 1 - popc b) ≤ 518400 := Nat.le_trans (Nat.mul_le_mul (fct_l _) (fct_l _)) (by decide)
    rw [Nat.succ_mul]
    generalize b * 518400 = X at ih ⊢
    have es : worF V n s (b + 1) = if tb b s.toNat then worF V n s b else if 2 * sumT b V n ≤ sumN V n ∧ sumN V n < 2 * (sumT b V n + V s) then worF V n s b + fct (popc b) * fct (n - 1 - popc b) else worF V n s b := rfl
    rw [es]
    split
    · omega
    · split <;> omega
def worQ (n : Nat) (V : Int → Int) (s : Int) : QA := if 0 ≤ s ∧ s < n then (0, some (frQ (worF V n s (2 ^ n)) (fct n))) else (-1, none)
theorem popc_n0 : ∀ n : Fin 7, ∀ b : Fin 64, ∀ s : Fin 6, b.val < 2 ^ n.val → s.val < n.val → tb b.val s.val = false → popc b.val + 1 ≤ n.val := by decide +kernel
theorem popc_n {n b s : Nat} (hn : n ≤ 6) (hb : b < 2 ^ n) (hs : s < n) (ht : tb b s = false) : popc b + 1 ≤ n := by
  have := pow_le64 hn
  exact popc_n0 ⟨n, by omega⟩ ⟨b, by omega⟩ ⟨s, by omega⟩ hb hs ht
set_option maxHeartbeats 1000000 in
theorem o_worth {l : Launch} {g : GE} {d : Nat} {t : Tau} {σ : Mem} {Q : Post} {s : Int} (hC : TC t) (hk : SeaOk t σ 5) (h : ansC (worQ (nS σ 5) (vwS σ 5) s) t σ Q) : WPc l g 116 (d + 7) 0 0 [vR 0, vI s] t σ Q := by
  have n6 := hk.2.2.1
  have z0 := hk.2.1
  have hp2 := pow_le64 n6
  have eS := shl_1 n6
  unfold ansC worQ at h
  by_cases hs : 0 ≤ s ∧ s < nS σ 5
  · rw [if_pos hs] at h
    obtain ⟨s0, s1⟩ := hs
    obtain ⟨m, rfl⟩ : ∃ m : Nat, s = m := ⟨s.toNat, by omega⟩
    have m1 : m < nS σ 5 := by omega
    have hB : ∀ i : Int, 0 ≤ i → i < nS σ 5 → 0 ≤ vwS σ 5 i ∧ vwS σ 5 i ≤ 9 := fun i i0 i1 => st_in hk.2.2 i0 i1
    have hA := sumN_b (f := vwS σ 5) (nS σ 5) hB
    have hA2 := mul_le12 n6 (by omega) hA.2
    have hms := hB m s0 s1
    generalize hF : worF (vwS σ 5) (nS σ 5) m = F at h
    have hF0 : F 0 = 0 := by rw [← hF]; rfl
    have hFl : ∀ k, F k ≤ k * 518400 := by rw [← hF]; exact worF_l _ _ _
    have hFs : ∀ b, F (b + 1) = if tb b m then F b else if 2 * sumT b (vwS σ 5) (nS σ 5) ≤ sumN (vwS σ 5) (nS σ 5) ∧ sumN (vwS σ 5) (nS σ 5) < 2 * (sumT b (vwS σ 5) (nS σ 5) + vwS σ 5 m) then F b + fct (popc b) * fct (nS σ 5 - 1 - popc b) else F b := by rw [← hF]; intro k; rfl
    generalize hAl : sumN (vwS σ 5) (nS σ 5) = A at hA hA2 hFs
    have K : Wp l g 116 (d + 7) 0 0 26 [(0, vR 0), (1, vI m), (2, vI A), (3, vI (F 0)), (4, vI (0 : Nat))] [] t σ Q := by
      refine lpU (P := fun b => Wp l g 116 (d + 7) 0 0 26 [(0, vR 0), (1, vI m), (2, vI A), (3, vI (F b)), (4, vI b)] [] t σ Q) (n := 2 ^ nS σ 5) ?_ (fun b hb K => ?_)
      · have hf := hFl (2 ^ nS σ 5)
        have hfp := fct_p n6
        have hf7 := fct_l (nS σ 5)
        generalize F (2 ^ nS σ 5) = R at h hf
        refine wa (by decide) rgE_ok tk_116 30 (fun N hN => ?_)
        simp [bl_116, hN _, x_iconst, x_ldc2_w, x_aconst_null, x_iload, x_lload, x_aload, x_istore, x_lstore, x_astore, x_iinc, x_iadd, x_isub, x_imul, x_idiv, x_irem, x_iand, x_ior, x_ixor, x_ishl, x_ishr, x_iushr, x_ineg, x_ladd, x_lsub, x_lmul, x_ldiv, x_lrem, x_lcmp, x_i2l, x_i2b, x_i2s, x_i2c, x_dup, x_pop, x_dup_x1, x_dup2, x_getfield, x_putfield, x_iaload, x_baload, x_saload, x_caload, x_daload, x_faload, x_laload, x_aaload, x_iastore, x_bastore, x_sastore, x_castore, x_lastore, x_aastore, x_arraylength, x_getstatic, x_goto, x_goto_w, x_ifCond, x_if_icmp, x_ifnull, x_ifnonnull, x_lookupswitch, x_invokevirtual, x_invokestatic, x_invokedynamic, x_ireturn, x_freturn, x_dreturn, x_lreturn, x_areturn, x_return_, pI_c, pL_c, pR_c, pV_i, pV_r, gI_c, gL_c, gR_c, pN_z, pN_s, lget_c, lins_z, lins_c, ldel_z, ldel_c, ldel2_z, ldel2_c, lset_i, lset_l, lset_r, lkeep_z, lkeep_c, largs_z, largs_c, cat_i, cat_l, cat_r, lkp_c, cnd_eq, cnd_ne, cnd_lt, cnd_ge, cnd_gt, cnd_le, swL_z, swL_c, rE_e, rOr_s, rOr_n, rlk_z, rlk_c, aR_c, aI_c, aII_c, aIII_c, aRI_c, aRII_c, aRIII_c, vJn, vJs, vlc, aRR_c, aRRI_c, aRRII_c, aRRIII_c, aRIIII_c, aRL_c, aRLL_c, aLL_c, aRRRI_c, aIL_c, aIIII_c, aRRIIII_c, aIRII_c, aIR_c, aLI_c, aRIR_c, aRIIR_c, hC.o0, hC.f0_0, hC.f0_1, hC.f0_2, hC.f0_3, hC.f0_4, hC.f0_5, hC.f0_6, hC.f0_7, hC.f0_8, hC.f0_9, hC.f0_10, hC.f0_11, hC.o1, hC.f1, hC.t2, hC.l2, hC.o3, hC.f3, hC.t4, hC.l4, hC.s5, hC.s12, hC.s19, hC.s112, hC.s119, hC.o26, hC.f26, hC.t27, hC.l27, hC.s28, hC.o126, hC.f126_0, hC.f126_1, hC.t127, hC.l127, hC.t128, hC.l128, hC.s129, hC.n157, hC.n161, hC.o165, hC.f165, hC.t166, hC.l166, hC.r167, hC.r171, hC.q5, hC.q12, hC.q19, hC.q112, hC.q119, hC.a2, hC.a4, hC.a27, hC.a127, hC.a128, hC, z0, eS, rpClears, rpFrac, fpFact, up_ap]
        refine ⟨by omega, R, rfl, fct (nS σ 5), rfl, hfp, by omega, by omega, ?_⟩
        simpa using h _ (QTo.q2 (σ' := σ) QFr.rf)
      · have e1 : ¬ ((2 ^ nS σ 5 : Nat) : Int) ≤ (b : Int) := by omega
        have e2 : ¬ (2 : Int) ^ nS σ 5 ≤ (b : Int) := by simpa using e1
        have b64 : b < 64 := by omega
        have eb := sumT_B (b := b) (f := vwS σ 5) (n := nS σ 5) b64 n6
        have hsb := sumT_b (b := b) (f := vwS σ 5) (nS σ 5) n6 (by omega) hB
        have ec := bc_n (b := b) b64
        have et := bit_c (b := b) (k := m) b64 (by omega)
        have e3 : w32 (2 * sumT b (vwS σ 5) (nS σ 5)) = 2 * sumT b (vwS σ 5) (nS σ 5) := w32_id (by omega) (by omega)
        have e4 : w32 (sumT b (vwS σ 5) (nS σ 5) + vwS σ 5 m) = sumT b (vwS σ 5) (nS σ 5) + vwS σ 5 m := w32_id (by omega) (by omega)
        have e5 : w32 (2 * (sumT b (vwS σ 5) (nS σ 5) + vwS σ 5 m)) = 2 * (sumT b (vwS σ 5) (nS σ 5) + vwS σ 5 m) := w32_id (by omega) (by omega)
        have e6 := w32_succ (k := b) (by omega)
        have hfl := hFl b
        have hm0 : fct (popc b) * fct (nS σ 5 - 1 - popc b) ≤ 720 * 720 := Nat.mul_le_mul (fct_l _) (fct_l _)
        rw [hFs b] at K
        refine wa (by decide) rgE_ok ts_116 30 (fun N hN => ?_)
        simp [bs_116, hN _, x_iconst, x_ldc2_w, x_aconst_null, x_iload, x_lload, x_aload, x_istore, x_lstore, x_astore, x_iinc, x_iadd, x_isub, x_imul, x_idiv, x_irem, x_iand, x_ior, x_ixor, x_ishl, x_ishr, x_iushr, x_ineg, x_ladd, x_lsub, x_lmul, x_ldiv, x_lrem, x_lcmp, x_i2l, x_i2b, x_i2s, x_i2c, x_dup, x_pop, x_dup_x1, x_dup2, x_getfield, x_putfield, x_iaload, x_baload, x_saload, x_caload, x_daload, x_faload, x_laload, x_aaload, x_iastore, x_bastore, x_sastore, x_castore, x_lastore, x_aastore, x_arraylength, x_getstatic, x_goto, x_goto_w, x_ifCond, x_if_icmp, x_ifnull, x_ifnonnull, x_lookupswitch, x_invokevirtual, x_invokestatic, x_invokedynamic, x_ireturn, x_freturn, x_dreturn, x_lreturn, x_areturn, x_return_, pI_c, pL_c, pR_c, pV_i, pV_r, gI_c, gL_c, gR_c, pN_z, pN_s, lget_c, lins_z, lins_c, ldel_z, ldel_c, ldel2_z, ldel2_c, lset_i, lset_l, lset_r, lkeep_z, lkeep_c, largs_z, largs_c, cat_i, cat_l, cat_r, lkp_c, cnd_eq, cnd_ne, cnd_lt, cnd_ge, cnd_gt, cnd_le, swL_z, swL_c, rE_e, rOr_s, rOr_n, rlk_z, rlk_c, aR_c, aI_c, aII_c, aIII_c, aRI_c, aRII_c, aRIII_c, vJn, vJs, vlc, aRR_c, aRRI_c, aRRII_c, aRRIII_c, aRIIII_c, aRL_c, aRLL_c, aLL_c, aRRRI_c, aIL_c, aIIII_c, aRRIIII_c, aIRII_c, aIR_c, aLI_c, aRIR_c, aRIIR_c, hC.o0, hC.f0_0, hC.f0_1, hC.f0_2, hC.f0_3, hC.f0_4, hC.f0_5, hC.f0_6, hC.f0_7, hC.f0_8, hC.f0_9, hC.f0_10, hC.f0_11, hC.o1, hC.f1, hC.t2, hC.l2, hC.o3, hC.f3, hC.t4, hC.l4, hC.s5, hC.s12, hC.s19, hC.s112, hC.s119, hC.o26, hC.f26, hC.t27, hC.l27, hC.s28, hC.o126, hC.f126_0, hC.f126_1, hC.t127, hC.l127, hC.t128, hC.l128, hC.s129, hC.n157, hC.n161, hC.o165, hC.f165, hC.t166, hC.l166, hC.r167, hC.r171, hC.q5, hC.q12, hC.q19, hC.q112, hC.q119, hC.a2, hC.a4, hC.a27, hC.a127, hC.a128, hC, z0, eS, apSos, apOf, bpCount, fpFact, hk, m1]
        refine ⟨fun z => (e2 z).elim, fun _ => ?_⟩
        rw [eb, ec, e3, e4, e5, e6]
        refine ⟨fun z => ?_, fun z => ?_⟩
        · have ht := et.mp z
          have hpn := popc_n n6 hb m1 ht
          rw [if_neg (by simp [ht])] at K
          have g1 : w32 ((nS σ 5 : Int) - 1) = ((nS σ 5 - 1 : Nat) : Int) := by rw [w32_id (by omega) (by omega)]; omega
          have g2 : w32 (((nS σ 5 - 1 : Nat) : Int) - (popc b : Int)) = ((nS σ 5 - 1 - popc b : Nat) : Int) := by rw [w32_id (by omega) (by omega)]; omega
          have g3 : w32 ((fct (popc b) : Int) * (fct (nS σ 5 - 1 - popc b) : Int)) = ((fct (popc b) * fct (nS σ 5 - 1 - popc b) : Nat) : Int) := by
            rw [← Int.natCast_mul]; exact w32_id (by omega) (by omega)
          have g4 : w32 ((F b : Int) + ((fct (popc b) * fct (nS σ 5 - 1 - popc b) : Nat) : Int)) = ((F b + fct (popc b) * fct (nS σ 5 - 1 - popc b) : Nat) : Int) := by
            rw [← Int.natCast_add]; exact w32_id (by omega) (by omega)
          rw [g1, g2]
          simp only [Int.toNat_natCast]
          rw [g3, g4]
          refine ⟨fun y => ?_, fun y => ⟨fun x => ?_, fun x => ⟨by omega, by omega, ?_⟩⟩⟩
          · rw [if_neg (by omega)] at K; exact K
          · rw [if_neg (by omega)] at K; exact K
          · rw [if_pos (by omega)] at K; exact K
        · have ht : tb b m = true := by
            cases hh : tb b m
            · exact (z (et.mpr hh)).elim
            · rfl
          rw [if_pos ht] at K
          exact K
    rw [hF0] at K
    refine wg (by decide) rgE_ok tk_116 py_116 ml_116 30 (by simp [catT]) (fun N hN => ?_)
    simp [bl_116, hN _, x_iconst, x_ldc2_w, x_aconst_null, x_iload, x_lload, x_aload, x_istore, x_lstore, x_astore, x_iinc, x_iadd, x_isub, x_imul, x_idiv, x_irem, x_iand, x_ior, x_ixor, x_ishl, x_ishr, x_iushr, x_ineg, x_ladd, x_lsub, x_lmul, x_ldiv, x_lrem, x_lcmp, x_i2l, x_i2b, x_i2s, x_i2c, x_dup, x_pop, x_dup_x1, x_dup2, x_getfield, x_putfield, x_iaload, x_baload, x_saload, x_caload, x_daload, x_faload, x_laload, x_aaload, x_iastore, x_bastore, x_sastore, x_castore, x_lastore, x_aastore, x_arraylength, x_getstatic, x_goto, x_goto_w, x_ifCond, x_if_icmp, x_ifnull, x_ifnonnull, x_lookupswitch, x_invokevirtual, x_invokestatic, x_invokedynamic, x_ireturn, x_freturn, x_dreturn, x_lreturn, x_areturn, x_return_, pI_c, pL_c, pR_c, pV_i, pV_r, gI_c, gL_c, gR_c, pN_z, pN_s, lget_c, lins_z, lins_c, ldel_z, ldel_c, ldel2_z, ldel2_c, lset_i, lset_l, lset_r, lkeep_z, lkeep_c, largs_z, largs_c, cat_i, cat_l, cat_r, lkp_c, cnd_eq, cnd_ne, cnd_lt, cnd_ge, cnd_gt, cnd_le, swL_z, swL_c, rE_e, rOr_s, rOr_n, rlk_z, rlk_c, aR_c, aI_c, aII_c, aIII_c, aRI_c, aRII_c, aRIII_c, vJn, vJs, vlc, aRR_c, aRRI_c, aRRII_c, aRRIII_c, aRIIII_c, aRL_c, aRLL_c, aLL_c, aRRRI_c, aIL_c, aIIII_c, aRRIIII_c, aIRII_c, aIR_c, aLI_c, aRIR_c, aRIIR_c, hC.o0, hC.f0_0, hC.f0_1, hC.f0_2, hC.f0_3, hC.f0_4, hC.f0_5, hC.f0_6, hC.f0_7, hC.f0_8, hC.f0_9, hC.f0_10, hC.f0_11, hC.o1, hC.f1, hC.t2, hC.l2, hC.o3, hC.f3, hC.t4, hC.l4, hC.s5, hC.s12, hC.s19, hC.s112, hC.s119, hC.o26, hC.f26, hC.t27, hC.l27, hC.s28, hC.o126, hC.f126_0, hC.f126_1, hC.t127, hC.l127, hC.t128, hC.l128, hC.s129, hC.n157, hC.n161, hC.o165, hC.f165, hC.t166, hC.l166, hC.r167, hC.r171, hC.q5, hC.q12, hC.q19, hC.q112, hC.q119, hC.a2, hC.a4, hC.a27, hC.a127, hC.a128, hC, apHas, apSoa, hk, hAl, m1, Nat.not_le.mpr m1]
    exact K
  · rw [if_neg hs] at h
    have h := h σ QTo.rf
    refine wg (by decide) rgE_ok tk_116 py_116 ml_116 30 (by simp [catT]) (fun N hN => ?_)
    simp [bl_116, hN _, x_iconst, x_ldc2_w, x_aconst_null, x_iload, x_lload, x_aload, x_istore, x_lstore, x_astore, x_iinc, x_iadd, x_isub, x_imul, x_idiv, x_irem, x_iand, x_ior, x_ixor, x_ishl, x_ishr, x_iushr, x_ineg, x_ladd, x_lsub, x_lmul, x_ldiv, x_lrem, x_lcmp, x_i2l, x_i2b, x_i2s, x_i2c, x_dup, x_pop, x_dup_x1, x_dup2, x_getfield, x_putfield, x_iaload, x_baload, x_saload, x_caload, x_daload, x_faload, x_laload, x_aaload, x_iastore, x_bastore, x_sastore, x_castore, x_lastore, x_aastore, x_arraylength, x_getstatic, x_goto, x_goto_w, x_ifCond, x_if_icmp, x_ifnull, x_ifnonnull, x_lookupswitch, x_invokevirtual, x_invokestatic, x_invokedynamic, x_ireturn, x_freturn, x_dreturn, x_lreturn, x_areturn, x_return_, pI_c, pL_c, pR_c, pV_i, pV_r, gI_c, gL_c, gR_c, pN_z, pN_s, lget_c, lins_z, lins_c, ldel_z, ldel_c, ldel2_z, ldel2_c, lset_i, lset_l, lset_r, lkeep_z, lkeep_c, largs_z, largs_c, cat_i, cat_l, cat_r, lkp_c, cnd_eq, cnd_ne, cnd_lt, cnd_ge, cnd_gt, cnd_le, swL_z, swL_c, rE_e, rOr_s, rOr_n, rlk_z, rlk_c, aR_c, aI_c, aII_c, aIII_c, aRI_c, aRII_c, aRIII_c, vJn, vJs, vlc, aRR_c, aRRI_c, aRRII_c, aRRIII_c, aRIIII_c, aRL_c, aRLL_c, aLL_c, aRRRI_c, aIL_c, aIIII_c, aRRIIII_c, aIRII_c, aIR_c, aLI_c, aRIR_c, aRIIR_c, hC.o0, hC.f0_0, hC.f0_1, hC.f0_2, hC.f0_3, hC.f0_4, hC.f0_5, hC.f0_6, hC.f0_7, hC.f0_8, hC.f0_9, hC.f0_10, hC.f0_11, hC.o1, hC.f1, hC.t2, hC.l2, hC.o3, hC.f3, hC.t4, hC.l4, hC.s5, hC.s12, hC.s19, hC.s112, hC.s119, hC.o26, hC.f26, hC.t27, hC.l27, hC.s28, hC.o126, hC.f126_0, hC.f126_1, hC.t127, hC.l127, hC.t128, hC.l128, hC.s129, hC.n157, hC.n161, hC.o165, hC.f165, hC.t166, hC.l166, hC.r167, hC.r171, hC.q5, hC.q12, hC.q19, hC.q112, hC.q119, hC.a2, hC.a4, hC.a27, hC.a127, hC.a128, hC, apHas, hk]
    grind
def mxF (V : Int → Int) (s : Int) : Nat → Int := fo (fun i m => max m (partV V i s)) 0
def ptB (V : Int → Int) (s k : Int) (i : Nat) : Bool := decide (k ≤ partV V i s)
def patQ (n : Nat) (V : Int → Int) (s k : Int) : QA := if (0 ≤ s ∧ s < 4) ∧ (0 ≤ k ∧ k ≤ 12) then ((setN (ptB V s k) n : Int), some [(popc (setN (ptB V s k) n) : Int), mxF V s n]) else (-1, none)
theorem o_patched {l : Launch} {g : GE} {d : Nat} {t : Tau} {σ : Mem} {Q : Post} {s k : Int} (hC : TC t) (hk : SeaOk t σ 5) (h : ansC (patQ (nS σ 5) (vwS σ 5) s k) t σ Q) : WPc l g 117 (d + 7) 0 0 [vR 0, vI s, vI k] t σ Q := by
  have n6 := hk.2.2.1
  have z0 := hk.2.1
  unfold ansC patQ at h
  by_cases hs : (0 ≤ s ∧ s < 4) ∧ (0 ≤ k ∧ k ≤ 12)
  · rw [if_pos hs] at h
    obtain ⟨⟨s0, s1⟩, k0, k1⟩ := hs
    have K : Wp l g 117 (d + 7) 0 0 27 [(0, vR 0), (1, vI s), (2, vI k), (3, vI (setN (ptB (vwS σ 5) s k) 0 : Nat)), (4, vI (mxF (vwS σ 5) s 0)), (5, vI (0 : Nat))] [] t σ Q := by
      refine lpU (P := fun i => Wp l g 117 (d + 7) 0 0 27 [(0, vR 0), (1, vI s), (2, vI k), (3, vI (setN (ptB (vwS σ 5) s k) i : Nat)), (4, vI (mxF (vwS σ 5) s i)), (5, vI i)] [] t σ Q) (n := nS σ 5) ?_ (fun i hi K => ?_)
      · have ec := bc_n (set64 (p := ptB (vwS σ 5) s k) n6)
        refine wa (by decide) rgD_ok tk_117 30 (fun N hN => ?_)
        simp [bl_117, hN _, x_iconst, x_ldc2_w, x_aconst_null, x_iload, x_lload, x_aload, x_istore, x_lstore, x_astore, x_iinc, x_iadd, x_isub, x_imul, x_idiv, x_irem, x_iand, x_ior, x_ixor, x_ishl, x_ishr, x_iushr, x_ineg, x_ladd, x_lsub, x_lmul, x_ldiv, x_lrem, x_lcmp, x_i2l, x_i2b, x_i2s, x_i2c, x_dup, x_pop, x_dup_x1, x_dup2, x_getfield, x_putfield, x_iaload, x_baload, x_saload, x_caload, x_daload, x_faload, x_laload, x_aaload, x_iastore, x_bastore, x_sastore, x_castore, x_lastore, x_aastore, x_arraylength, x_getstatic, x_goto, x_goto_w, x_ifCond, x_if_icmp, x_ifnull, x_ifnonnull, x_lookupswitch, x_invokevirtual, x_invokestatic, x_invokedynamic, x_ireturn, x_freturn, x_dreturn, x_lreturn, x_areturn, x_return_, pI_c, pL_c, pR_c, pV_i, pV_r, gI_c, gL_c, gR_c, pN_z, pN_s, lget_c, lins_z, lins_c, ldel_z, ldel_c, ldel2_z, ldel2_c, lset_i, lset_l, lset_r, lkeep_z, lkeep_c, largs_z, largs_c, cat_i, cat_l, cat_r, lkp_c, cnd_eq, cnd_ne, cnd_lt, cnd_ge, cnd_gt, cnd_le, swL_z, swL_c, rE_e, rOr_s, rOr_n, rlk_z, rlk_c, aR_c, aI_c, aII_c, aIII_c, aRI_c, aRII_c, aRIII_c, vJn, vJs, vlc, aRR_c, aRRI_c, aRRII_c, aRRIII_c, aRIIII_c, aRL_c, aRLL_c, aLL_c, aRRRI_c, aIL_c, aIIII_c, aRRIIII_c, aIRII_c, aIR_c, aLI_c, aRIR_c, aRIIR_c, hC.o0, hC.f0_0, hC.f0_1, hC.f0_2, hC.f0_3, hC.f0_4, hC.f0_5, hC.f0_6, hC.f0_7, hC.f0_8, hC.f0_9, hC.f0_10, hC.f0_11, hC.o1, hC.f1, hC.t2, hC.l2, hC.o3, hC.f3, hC.t4, hC.l4, hC.s5, hC.s12, hC.s19, hC.s112, hC.s119, hC.o26, hC.f26, hC.t27, hC.l27, hC.s28, hC.o126, hC.f126_0, hC.f126_1, hC.t127, hC.l127, hC.t128, hC.l128, hC.s129, hC.n157, hC.n161, hC.o165, hC.f165, hC.t166, hC.l166, hC.r167, hC.r171, hC.q5, hC.q12, hC.q19, hC.q112, hC.q119, hC.a2, hC.a4, hC.a27, hC.a127, hC.a128, hC, z0, rpClears, rpAdds, bpCount, up_ap, ec]
        exact h _ (QTo.q2 QFr.rf)
      · have e2 := w32_succ (k := i) (by omega); have i1 : ((i : Nat) : Int) < (nS σ 5 : Nat) := (by omega); have i1n : i < nS σ 5 := (by omega); have i1x : ¬ nS σ 5 ≤ i := (by omega)
        have ho := or_set (p := ptB (vwS σ 5) s k) (k := i) (by omega)
        have em : mxF (vwS σ 5) s (i + 1) = max (mxF (vwS σ 5) s i) (partV (vwS σ 5) i s) := rfl
        rw [em, ← ho] at K
        refine wa (by decide) rgD_ok tk_117 30 (fun N hN => ?_)
        simp [bl_117, hN _, x_iconst, x_ldc2_w, x_aconst_null, x_iload, x_lload, x_aload, x_istore, x_lstore, x_astore, x_iinc, x_iadd, x_isub, x_imul, x_idiv, x_irem, x_iand, x_ior, x_ixor, x_ishl, x_ishr, x_iushr, x_ineg, x_ladd, x_lsub, x_lmul, x_ldiv, x_lrem, x_lcmp, x_i2l, x_i2b, x_i2s, x_i2c, x_dup, x_pop, x_dup_x1, x_dup2, x_getfield, x_putfield, x_iaload, x_baload, x_saload, x_caload, x_daload, x_faload, x_laload, x_aaload, x_iastore, x_bastore, x_sastore, x_castore, x_lastore, x_aastore, x_arraylength, x_getstatic, x_goto, x_goto_w, x_ifCond, x_if_icmp, x_ifnull, x_ifnonnull, x_lookupswitch, x_invokevirtual, x_invokestatic, x_invokedynamic, x_ireturn, x_freturn, x_dreturn, x_lreturn, x_areturn, x_return_, pI_c, pL_c, pR_c, pV_i, pV_r, gI_c, gL_c, gR_c, pN_z, pN_s, lget_c, lins_z, lins_c, ldel_z, ldel_c, ldel2_z, ldel2_c, lset_i, lset_l, lset_r, lkeep_z, lkeep_c, largs_z, largs_c, cat_i, cat_l, cat_r, lkp_c, cnd_eq, cnd_ne, cnd_lt, cnd_ge, cnd_gt, cnd_le, swL_z, swL_c, rE_e, rOr_s, rOr_n, rlk_z, rlk_c, aR_c, aI_c, aII_c, aIII_c, aRI_c, aRII_c, aRIII_c, vJn, vJs, vlc, aRR_c, aRRI_c, aRRII_c, aRRIII_c, aRIIII_c, aRL_c, aRLL_c, aLL_c, aRRRI_c, aIL_c, aIIII_c, aRRIIII_c, aIRII_c, aIR_c, aLI_c, aRIR_c, aRIIR_c, hC.o0, hC.f0_0, hC.f0_1, hC.f0_2, hC.f0_3, hC.f0_4, hC.f0_5, hC.f0_6, hC.f0_7, hC.f0_8, hC.f0_9, hC.f0_10, hC.f0_11, hC.o1, hC.f1, hC.t2, hC.l2, hC.o3, hC.f3, hC.t4, hC.l4, hC.s5, hC.s12, hC.s19, hC.s112, hC.s119, hC.o26, hC.f26, hC.t27, hC.l27, hC.s28, hC.o126, hC.f126_0, hC.f126_1, hC.t127, hC.l127, hC.t128, hC.l128, hC.s129, hC.n157, hC.n161, hC.o165, hC.f165, hC.t166, hC.l166, hC.r167, hC.r171, hC.q5, hC.q12, hC.q19, hC.q112, hC.q119, hC.a2, hC.a4, hC.a27, hC.a127, hC.a128, hC, z0, apParts, spMax, hk, e2, i1, i1n, i1x, s0, s1, Int.not_le.mpr s1, Int.not_lt.mpr s0]
        refine ⟨fun z => ?_, fun z => ?_⟩
        · rw [if_neg (by unfold ptB; simp; omega)] at K; exact K
        · rw [if_pos (by unfold ptB; simp; omega)] at K; exact K
    refine wg (by decide) rgD_ok tk_117 py_117 ml_117 30 (by simp [catT]) (fun N hN => ?_)
    simp [bl_117, hN _, x_iconst, x_ldc2_w, x_aconst_null, x_iload, x_lload, x_aload, x_istore, x_lstore, x_astore, x_iinc, x_iadd, x_isub, x_imul, x_idiv, x_irem, x_iand, x_ior, x_ixor, x_ishl, x_ishr, x_iushr, x_ineg, x_ladd, x_lsub, x_lmul, x_ldiv, x_lrem, x_lcmp, x_i2l, x_i2b, x_i2s, x_i2c, x_dup, x_pop, x_dup_x1, x_dup2, x_getfield, x_putfield, x_iaload, x_baload, x_saload, x_caload, x_daload, x_faload, x_laload, x_aaload, x_iastore, x_bastore, x_sastore, x_castore, x_lastore, x_aastore, x_arraylength, x_getstatic, x_goto, x_goto_w, x_ifCond, x_if_icmp, x_ifnull, x_ifnonnull, x_lookupswitch, x_invokevirtual, x_invokestatic, x_invokedynamic, x_ireturn, x_freturn, x_dreturn, x_lreturn, x_areturn, x_return_, pI_c, pL_c, pR_c, pV_i, pV_r, gI_c, gL_c, gR_c, pN_z, pN_s, lget_c, lins_z, lins_c, ldel_z, ldel_c, ldel2_z, ldel2_c, lset_i, lset_l, lset_r, lkeep_z, lkeep_c, largs_z, largs_c, cat_i, cat_l, cat_r, lkp_c, cnd_eq, cnd_ne, cnd_lt, cnd_ge, cnd_gt, cnd_le, swL_z, swL_c, rE_e, rOr_s, rOr_n, rlk_z, rlk_c, aR_c, aI_c, aII_c, aIII_c, aRI_c, aRII_c, aRIII_c, vJn, vJs, vlc, aRR_c, aRRI_c, aRRII_c, aRRIII_c, aRIIII_c, aRL_c, aRLL_c, aLL_c, aRRRI_c, aIL_c, aIIII_c, aRRIIII_c, aIRII_c, aIR_c, aLI_c, aRIR_c, aRIIR_c, spSide, s0, s1, Int.not_le.mpr s1, Int.not_lt.mpr s0, k0, k1, Int.not_lt.mpr k0, Int.not_lt.mpr k1]
    exact K
  · rw [if_neg hs] at h
    have h := h σ QTo.rf
    refine wg (by decide) rgD_ok tk_117 py_117 ml_117 30 (by simp [catT]) (fun N hN => ?_)
    simp [bl_117, hN _, x_iconst, x_ldc2_w, x_aconst_null, x_iload, x_lload, x_aload, x_istore, x_lstore, x_astore, x_iinc, x_iadd, x_isub, x_imul, x_idiv, x_irem, x_iand, x_ior, x_ixor, x_ishl, x_ishr, x_iushr, x_ineg, x_ladd, x_lsub, x_lmul, x_ldiv, x_lrem, x_lcmp, x_i2l, x_i2b, x_i2s, x_i2c, x_dup, x_pop, x_dup_x1, x_dup2, x_getfield, x_putfield, x_iaload, x_baload, x_saload, x_caload, x_daload, x_faload, x_laload, x_aaload, x_iastore, x_bastore, x_sastore, x_castore, x_lastore, x_aastore, x_arraylength, x_getstatic, x_goto, x_goto_w, x_ifCond, x_if_icmp, x_ifnull, x_ifnonnull, x_lookupswitch, x_invokevirtual, x_invokestatic, x_invokedynamic, x_ireturn, x_freturn, x_dreturn, x_lreturn, x_areturn, x_return_, pI_c, pL_c, pR_c, pV_i, pV_r, gI_c, gL_c, gR_c, pN_z, pN_s, lget_c, lins_z, lins_c, ldel_z, ldel_c, ldel2_z, ldel2_c, lset_i, lset_l, lset_r, lkeep_z, lkeep_c, largs_z, largs_c, cat_i, cat_l, cat_r, lkp_c, cnd_eq, cnd_ne, cnd_lt, cnd_ge, cnd_gt, cnd_le, swL_z, swL_c, rE_e, rOr_s, rOr_n, rlk_z, rlk_c, aR_c, aI_c, aII_c, aIII_c, aRI_c, aRII_c, aRIII_c, vJn, vJs, vlc, aRR_c, aRRI_c, aRRII_c, aRRIII_c, aRIIII_c, aRL_c, aRLL_c, aLL_c, aRRRI_c, aIL_c, aIIII_c, aRRIIII_c, aIRII_c, aIR_c, aLI_c, aRIR_c, aRIIR_c, spSide]
    grind
