/-! StruckColours: ships that come -/
/-- ship n of side s and might m -/
def jnV (n : Int) (V : Int → Int) (s m : Int) : Int → Int := yieldV (upv (upv (upv V n m) (36 + n) 0) (42 + n) 0) n s
theorem jn_at {n : Int} {V : Int → Int} {s m j : Int} (h0 : 0 ≤ n) (h1 : n < 6) (hj : j ≠ n ∧ j ≠ 6 + n ∧ (j < 12 + 4 * n ∨ 12 + 4 * n + 4 ≤ j) ∧ j ≠ 36 + n ∧ j ≠ 42 + n) : jnV n V s m j = V j := by
  unfold jnV
  rw [yield_n hj.2.2.1 hj.2.1, upv_n hj.2.2.2.2, upv_n hj.2.2.2.1, upv_n hj.1]
theorem wf_jn {n : Nat} {M V : Int → Int} (h : WFV n M V) (hn : n < 6) {s m : Int} (hs : 0 ≤ s ∧ s < 4) (hm : 1 ≤ m ∧ m ≤ 9) : WFV (n + 1) (upv M n m) (jnV n V s m) := by
  obtain ⟨q0, q1, q2, q3, q4⟩ := h
  have h6 : ∀ j : Int, jnV n V s m (6 + n) = s := fun _ => yield_6
  refine ⟨by omega, fun j j0 j1 => ?_, ?_, ?_, fun j hj => ?_⟩
  · by_cases hj : j = n
    · subst hj
      have a0 : jnV n V s m n = m := by
        unfold jnV
        rw [yield_n (by omega) (by omega), upv_n (by omega), upv_n (by omega), upv_s]
      have aw : jnV n V s m (36 + n) = 0 := by
        unfold jnV
        rw [yield_n (by omega) (by omega), upv_n (by omega), upv_s]
      have al : jnV n V s m (42 + n) = 0 := by
        unfold jnV
        rw [yield_n (by omega) (by omega), upv_s]
      have ap : ∀ f, 0 ≤ f → f < 4 → partV (jnV n V s m) n f = if f = s then 12 else 0 := fun f f0 f1 => yield_p (by omega) (by omega) f0 f1
      refine ⟨by rw [a0, upv_s]; omega, by rw [h6 0]; exact hs, ?_, fun f f0 f1 => ?_, by rw [aw]; omega, by rw [al]; omega⟩
      · rw [ap 0 (by omega) (by omega), ap 1 (by omega) (by omega), ap 2 (by omega) (by omega), ap 3 (by omega) (by omega)]
        rcases (show s = 0 ∨ s = 1 ∨ s = 2 ∨ s = 3 by omega) with rfl | rfl | rfl | rfl <;> simp
      · show partV _ _ f ≤ partV (jnV n V s m) n (jnV n V s m (6 + n))
        rw [h6 0, ap f f0 f1, ap s hs.1 hs.2]
        split <;> simp
    · obtain ⟨s0, a, pj, st, w, lo⟩ := q1 j j0 (by omega)
      have e6 : jnV n V s m (6 + j) = V (6 + j) := jn_at (by omega) (by omega) (by omega)
      have ep : ∀ f, 0 ≤ f → f < 4 → partV (jnV n V s m) j f = partV V j f := fun f z0 z1 => jn_at (by omega) (by omega) (by omega)
      refine ⟨by rw [jn_at (by omega) (by omega) (by omega), upv_n (by omega)]; exact s0, by rw [e6]; exact a, ?_, fun f z0 z1 => ?_, by rw [jn_at (by omega) (by omega) (by omega)]; exact w, by rw [jn_at (by omega) (by omega) (by omega)]; exact lo⟩
      · rw [ep 0 (by omega) (by omega), ep 1 (by omega) (by omega), ep 2 (by omega) (by omega), ep 3 (by omega) (by omega)]; exact pj
      · show partV _ j f ≤ partV (jnV n V s m) j (jnV n V s m (6 + j))
        rw [e6, ep f z0 z1, ep _ a.1 a.2]; exact st f z0 z1
  · rw [jn_at (by omega) (by omega) (by omega)]; exact q2
  · rw [jn_at (by omega) (by omega) (by omega)]; exact q3
  · rw [jn_at (by omega) (by omega) (by omega)]; exact q4 j hj
/-- a sea with one ship more -/
def SeaJn (t : Tau) (σ σ' : Mem) (a : Int) (s m : Int) : Prop := SeaX σ σ' a ∧ SeaOk t σ' a ∧ nS σ' a = nS σ a + 1 ∧ mS σ' a = upv (mS σ a) (nS σ a) m ∧ vwS σ' a = jnV (nS σ a) (vwS σ a) s m
def apJoins : Sp := fun as t σ Q => aRII as fun a s m => SeaOk t σ a ∧ nS σ a < 6 ∧ (0 ≤ s ∧ s < 4) ∧ (1 ≤ m ∧ m ≤ 9) ∧ ∀ σ', SeaJn t σ σ' a s m → Q none t σ'
theorem vwU_0 {σ : Mem} {a x : Int} : vwS (up σ a 0 x) a = vwS σ a := by
  funext j; unfold vwS up; grind
theorem vwU_m {σ : Mem} {a i x : Int} : vwS (up σ (a + 1) i x) a = vwS σ a := by
  funext j; unfold vwS up; grind
theorem rgJo_ok {l : Launch} {g : GE} {d : Nat} : ∀ e as t σ Q, rE l g (d + 2) [(144, spSide), (58, spHoists)] e as t σ Q → WPc l g e (d + 2) 0 0 as t σ Q := rE_cons (fun _ _ _ _ h => c_isSide h) (rE_cons (fun _ _ _ _ h => c_hoists h) rE_nil)
theorem a_joins {l : Launch} {g : GE} {d : Nat} {t : Tau} {σ : Mem} {Q : Post} {as : List TV} (h0 : apJoins as t σ Q) : WPc l g 57 (d + 3) 0 0 as t σ Q := by
  obtain ⟨a, s, m, rfl, hk, hn, ⟨s0, s1⟩, hm, h⟩ := aRII_e h0
  clear h0
  have hk' := hk
  obtain ⟨hs, z0, hW⟩ := hk
  have hs' := hs
  obtain ⟨o, f1, f2, f3, f4, f5, f6, t1, t2, t3, t4, t5, t6, l1, l2, l3, l4, l5, l6⟩ := hs
  generalize hNn : nS σ a = n at h hn z0 hW
  have n0 : ¬ (n : Int) < 0 := by omega
  have n1 : ¬ (6 : Int) ≤ n := by omega
  have n2 : (n : Int) < 6 := by omega
  have n3 : ¬ 6 ≤ n := by omega
  have e2 := w32_succ (k := n) (by omega)
  have ev : vwS (up (up (up (up (up σ a 0 ((n : Int) + 1)) (a + 1) n m) (a + 2) n m) (a + 4) n 0) (a + 5) n 0) a = upv (upv (upv (vwS σ a) n m) (36 + n) 0) (42 + n) 0 := by
    rw [vwU_ls (by omega) n2, vwU_wn (by omega) n2, vwU_st (by omega) n2, vwU_m, vwU_0]
  refine wg (by decide) rgJo_ok ts_57 py_57 ml_57 30 (by simp [catT]) (fun N hN => ?_)
  simp [bs_57, hN _, x_iconst, x_ldc2_w, x_aconst_null, x_iload, x_lload, x_aload, x_istore, x_lstore, x_astore, x_iinc, x_iadd, x_isub, x_imul, x_idiv, x_irem, x_iand, x_ior, x_ixor, x_ishl, x_ishr, x_iushr, x_ineg, x_ladd, x_lsub, x_lmul, x_ldiv, x_lrem, x_lcmp, x_i2l, x_i2b, x_i2s, x_i2c, x_dup, x_pop, x_dup_x1, x_dup2, x_getfield, x_putfield, x_iaload, x_baload, x_saload, x_caload, x_daload, x_faload, x_laload, x_aaload, x_iastore, x_bastore, x_sastore, x_castore, x_lastore, x_aastore, x_arraylength, x_getstatic, x_goto, x_goto_w, x_ifCond, x_if_icmp, x_ifnull, x_ifnonnull, x_lookupswitch, x_invokevirtual, x_invokestatic, x_invokedynamic, x_ireturn, x_freturn, x_dreturn, x_lreturn, x_areturn, x_return_, pI_c, pL_c, pR_c, pV_i, pV_r, gI_c, gL_c, gR_c, pN_z, pN_s, lget_c, lins_z, lins_c, ldel_z, ldel_c, ldel2_z, ldel2_c, lset_i, lset_l, lset_r, lkeep_z, lkeep_c, largs_z, largs_c, cat_i, cat_l, cat_r, lkp_c, cnd_eq, cnd_ne, cnd_lt, cnd_ge, cnd_gt, cnd_le, swL_z, swL_c, rE_e, rOr_s, rOr_n, rlk_z, rlk_c, aR_c, aI_c, aII_c, aIII_c, aRI_c, aRII_c, aRIII_c, vJn, vJs, vlc, aRR_c, aRRI_c, aRRII_c, aRRIII_c, aRIIII_c, aRL_c, aRLL_c, aLL_c, aRRRI_c, aIL_c, aIIII_c, aRRIIII_c, aIRII_c, aIR_c, aLI_c, aRIR_c, aRIIR_c, spSide, o, z0, n0, n1, n2, n3, hn, s0, s1, Int.not_le.mpr s1, Int.not_lt.mpr s0, f1, f2, f4, f5, t1, t2, t4, t5, l1, l2, l4, l5, e2, spHoists, SeaPre, hsB, hs', up_ap, na1, na2, na3, na4, na5]
  refine ⟨by omega, fun σ' F z V => ?_⟩
  rw [ev] at V
  simp [sg_57_23_1, hN _, x_iconst, x_ldc2_w, x_aconst_null, x_iload, x_lload, x_aload, x_istore, x_lstore, x_astore, x_iinc, x_iadd, x_isub, x_imul, x_idiv, x_irem, x_iand, x_ior, x_ixor, x_ishl, x_ishr, x_iushr, x_ineg, x_ladd, x_lsub, x_lmul, x_ldiv, x_lrem, x_lcmp, x_i2l, x_i2b, x_i2s, x_i2c, x_dup, x_pop, x_dup_x1, x_dup2, x_getfield, x_putfield, x_iaload, x_baload, x_saload, x_caload, x_daload, x_faload, x_laload, x_aaload, x_iastore, x_bastore, x_sastore, x_castore, x_lastore, x_aastore, x_arraylength, x_getstatic, x_goto, x_goto_w, x_ifCond, x_if_icmp, x_ifnull, x_ifnonnull, x_lookupswitch, x_invokevirtual, x_invokestatic, x_invokedynamic, x_ireturn, x_freturn, x_dreturn, x_lreturn, x_areturn, x_return_, pI_c, pL_c, pR_c, pV_i, pV_r, gI_c, gL_c, gR_c, pN_z, pN_s, lget_c, lins_z, lins_c, ldel_z, ldel_c, ldel2_z, ldel2_c, lset_i, lset_l, lset_r, lkeep_z, lkeep_c, largs_z, largs_c, cat_i, cat_l, cat_r, lkp_c, cnd_eq, cnd_ne, cnd_lt, cnd_ge, cnd_gt, cnd_le, swL_z, swL_c, rE_e, rOr_s, rOr_n, rlk_z, rlk_c, aR_c, aI_c, aII_c, aIII_c, aRI_c, aRII_c, aRIII_c, vJn, vJs, vlc, aRR_c, aRRI_c, aRRII_c, aRRIII_c, aRIIII_c, aRL_c, aRLL_c, aLL_c, aRRRI_c, aIL_c, aIIII_c, aRRIIII_c, aIRII_c, aIR_c, aLI_c, aRIR_c, aRIIR_c]
  have e0 : σ' a 0 = (n : Int) + 1 := z
  have en : nS σ' a = n + 1 := by unfold nS; rw [e0]; omega
  have em : mS σ' a = upv (mS σ a) n m := by
    funext i
    unfold mS
    rw [F.2.1]
    simp only [up_ap, upv]
    have c1 : ¬ a + 1 = a + 5 := by omega
    have c2 : ¬ a + 1 = a + 4 := by omega
    have c3 : ¬ a + 1 = a + 2 := by omega
    have c4 : ¬ a + 1 = a := by omega
    simp only [c1, c2, c3, c4, false_and, if_false, true_and]
    by_cases hi : i = n
    · subst hi; simp [n2]
    · simp [hi]
  refine h σ' ⟨fun q hq => ?_, ⟨hs', by rw [e0, en]; omega, ?_⟩, by rw [en, hNn], by rw [em, hNn], by rw [V, hNn]; rfl⟩
  · rw [F.1 q hq, up_ne (by omega), up_ne (by omega), up_ne (by omega), up_ne (by omega), up_ne (by omega)]
  · rw [en, em, V]
    exact wf_jn hW hn ⟨s0, s1⟩ hm
/-! the text of ships -/
def dgB (c : Int) : Int := if 48 ≤ c ∧ c ≤ 57 then 1 else 0
def sdB (c : Int) : Int := if 97 ≤ c ∧ c ≤ 100 then 1 else 0
def fpDigit : Sp := fun as t σ Q => aI as fun c => Q (some (vI (dgB c))) t σ
theorem f_digit {l : Launch} {g : GE} {d : Nat} {t : Tau} {σ : Mem} {Q : Post} {as : List TV} (h0 : fpDigit as t σ Q) : WPc l g 142 (d + 1) 0 0 as t σ Q := by
  obtain ⟨c, rfl, h⟩ := aI_e h0
  clear h0
  unfold dgB at h
  refine wg (by decide) rE_nil tk_142 py_142 ml_142 30 (by simp [catT]) (fun N hN => ?_)
  simp [bl_142, hN _, x_iconst, x_ldc2_w, x_aconst_null, x_iload, x_lload, x_aload, x_istore, x_lstore, x_astore, x_iinc, x_iadd, x_isub, x_imul, x_idiv, x_irem, x_iand, x_ior, x_ixor, x_ishl, x_ishr, x_iushr, x_ineg, x_ladd, x_lsub, x_lmul, x_ldiv, x_lrem, x_lcmp, x_i2l, x_i2b, x_i2s, x_i2c, x_dup, x_pop, x_dup_x1, x_dup2, x_getfield, x_putfield, x_iaload, x_baload, x_saload, x_caload, x_daload, x_faload, x_laload, x_aaload, x_iastore, x_bastore, x_sastore, x_castore, x_lastore, x_aastore, x_arraylength, x_getstatic, x_goto, x_goto_w, x_ifCond, x_if_icmp, x_ifnull, x_ifnonnull, x_lookupswitch, x_invokevirtual, x_invokestatic, x_invokedynamic, x_ireturn, x_freturn, x_dreturn, x_lreturn, x_areturn, x_return_, pI_c, pL_c, pR_c, pV_i, pV_r, gI_c, gL_c, gR_c, pN_z, pN_s, lget_c, lins_z, lins_c, ldel_z, ldel_c, ldel2_z, ldel2_c, lset_i, lset_l, lset_r, lkeep_z, lkeep_c, largs_z, largs_c, cat_i, cat_l, cat_r, lkp_c, cnd_eq, cnd_ne, cnd_lt, cnd_ge, cnd_gt, cnd_le, swL_z, swL_c, rE_e, rOr_s, rOr_n, rlk_z, rlk_c, aR_c, aI_c, aII_c, aIII_c, aRI_c, aRII_c, aRIII_c, vJn, vJs, vlc, aRR_c, aRRI_c, aRRII_c, aRRIII_c, aRIIII_c, aRL_c, aRLL_c, aLL_c, aRRRI_c, aIL_c, aIIII_c, aRRIIII_c, aIRII_c, aIR_c, aLI_c, aRIR_c, aRIIR_c]
  grind
def fpSdSign : Sp := fun as t σ Q => aI as fun c => Q (some (vI (sdB c))) t σ
theorem f_sdSign {l : Launch} {g : GE} {d : Nat} {t : Tau} {σ : Mem} {Q : Post} {as : List TV} (h0 : fpSdSign as t σ Q) : WPc l g 143 (d + 1) 0 0 as t σ Q := by
  obtain ⟨c, rfl, h⟩ := aI_e h0
  clear h0
  unfold sdB at h
  refine wg (by decide) rE_nil tk_143 py_143 ml_143 30 (by simp [catT]) (fun N hN => ?_)
  simp [bl_143, hN _, x_iconst, x_ldc2_w, x_aconst_null, x_iload, x_lload, x_aload, x_istore, x_lstore, x_astore, x_iinc, x_iadd, x_isub, x_imul, x_idiv, x_irem, x_iand, x_ior, x_ixor, x_ishl, x_ishr, x_iushr, x_ineg, x_ladd, x_lsub, x_lmul, x_ldiv, x_lrem, x_lcmp, x_i2l, x_i2b, x_i2s, x_i2c, x_dup, x_pop, x_dup_x1, x_dup2, x_getfield, x_putfield, x_iaload, x_baload, x_saload, x_caload, x_daload, x_faload, x_laload, x_aaload, x_iastore, x_bastore, x_sastore, x_castore, x_lastore, x_aastore, x_arraylength, x_getstatic, x_goto, x_goto_w, x_ifCond, x_if_icmp, x_ifnull, x_ifnonnull, x_lookupswitch, x_invokevirtual, x_invokestatic, x_invokedynamic, x_ireturn, x_freturn, x_dreturn, x_lreturn, x_areturn, x_return_, pI_c, pL_c, pR_c, pV_i, pV_r, gI_c, gL_c, gR_c, pN_z, pN_s, lget_c, lins_z, lins_c, ldel_z, ldel_c, ldel2_z, ldel2_c, lset_i, lset_l, lset_r, lkeep_z, lkeep_c, largs_z, largs_c, cat_i, cat_l, cat_r, lkp_c, cnd_eq, cnd_ne, cnd_lt, cnd_ge, cnd_gt, cnd_le, swL_z, swL_c, rE_e, rOr_s, rOr_n, rlk_z, rlk_c, aR_c, aI_c, aII_c, aIII_c, aRI_c, aRII_c, aRIII_c, vJn, vJs, vlc, aRR_c, aRRI_c, aRRII_c, aRRIII_c, aRIIII_c, aRL_c, aRLL_c, aLL_c, aRRRI_c, aIL_c, aIIII_c, aRRIIII_c, aIRII_c, aIR_c, aLI_c, aRIR_c, aRIIR_c]
  grind
abbrev rgX : Reg := (142, fpDigit) :: (143, fpSdSign) :: rgC
theorem rgX_ok {l : Launch} {g : GE} {d : Nat} : ∀ e as t σ Q, rE l g (d + 6) rgX e as t σ Q → WPc l g e (d + 6) 0 0 as t σ Q := rE_cons (fun _ _ _ _ h => f_digit h) (rE_cons (fun _ _ _ _ h => f_sdSign h) rgC_ok)
/-- a sign can stand at p of a text of ships -/
def stS (n : Nat) (T : Int → Int) (p : Nat) : Bool := if p % 3 = 0 then decide ((97 ≤ T p ∧ T p ≤ 100) ∧ n + p / 3 < 6) else if p % 3 = 1 then decide (49 ≤ T p ∧ T p ≤ 57) else decide (T p = 59)
def fpStands : Sp := fun as t σ Q => aRI as fun a p => a = 0 ∧ TC t ∧ SeaOk t σ 5 ∧ TxOk σ ∧ (0 ≤ p ∧ p < 80) ∧ Q (some (vI (if stS (nS σ 5) (σ 2) p.toNat then 1 else 0))) t σ
theorem f_stands {l : Launch} {g : GE} {d : Nat} {t : Tau} {σ : Mem} {Q : Post} {as : List TV} (h0 : fpStands as t σ Q) : WPc l g 136 (d + 7) 0 0 as t σ Q := by
  obtain ⟨a, p', rfl, rfl, hC, hk, hT, hp, h⟩ := aRI_e h0
  clear h0
  obtain ⟨p, rfl⟩ : ∃ n : Nat, p' = n := ⟨p'.toNat, by omega⟩
  simp only [Int.toNat_natCast] at h
  have z0 := hk.2.1
  have n6 := hk.2.2.1
  have p80 : (p : Int) < 80 := by omega
  have p80n : p < 80 := by omega
  have e1 : w32 (((p : Int)).tmod 3) = ((p % 3 : Nat) : Int) := by rw [Int.tmod_eq_emod_of_nonneg (by omega), w32_id (by omega) (by omega)]; omega
  have e2 : w32 ((p : Int) / 3) = ((p / 3 : Nat) : Int) := by rw [w32_id (by omega) (by omega)]; omega
  have e3 : w32 ((nS σ 5 : Int) + ((p / 3 : Nat) : Int)) = ((nS σ 5 + p / 3 : Nat) : Int) := by rw [w32_id (by omega) (by omega)]; omega
  have hv := hT.2 p (by omega) (by omega)
  unfold stS at h
  refine wg (by decide) rgX_ok tk_136 py_136 ml_136 30 (by simp [catT]) (fun N hN => ?_)
  simp [bl_136, hN _, x_iconst, x_ldc2_w, x_aconst_null, x_iload, x_lload, x_aload, x_istore, x_lstore, x_astore, x_iinc, x_iadd, x_isub, x_imul, x_idiv, x_irem, x_iand, x_ior, x_ixor, x_ishl, x_ishr, x_iushr, x_ineg, x_ladd, x_lsub, x_lmul, x_ldiv, x_lrem, x_lcmp, x_i2l, x_i2b, x_i2s, x_i2c, x_dup, x_pop, x_dup_x1, x_dup2, x_getfield, x_putfield, x_iaload, x_baload, x_saload, x_caload, x_daload, x_faload, x_laload, x_aaload, x_iastore, x_bastore, x_sastore, x_castore, x_lastore, x_aastore, x_arraylength, x_getstatic, x_goto, x_goto_w, x_ifCond, x_if_icmp, x_ifnull, x_ifnonnull, x_lookupswitch, x_invokevirtual, x_invokestatic, x_invokedynamic, x_ireturn, x_freturn, x_dreturn, x_lreturn, x_areturn, x_return_, pI_c, pL_c, pR_c, pV_i, pV_r, gI_c, gL_c, gR_c, pN_z, pN_s, lget_c, lins_z, lins_c, ldel_z, ldel_c, ldel2_z, ldel2_c, lset_i, lset_l, lset_r, lkeep_z, lkeep_c, largs_z, largs_c, cat_i, cat_l, cat_r, lkp_c, cnd_eq, cnd_ne, cnd_lt, cnd_ge, cnd_gt, cnd_le, swL_z, swL_c, rE_e, rOr_s, rOr_n, rlk_z, rlk_c, aR_c, aI_c, aII_c, aIII_c, aRI_c, aRII_c, aRIII_c, vJn, vJs, vlc, aRR_c, aRRI_c, aRRII_c, aRRIII_c, aRIIII_c, aRL_c, aRLL_c, aLL_c, aRRRI_c, aIL_c, aIIII_c, aRRIIII_c, aIRII_c, aIR_c, aLI_c, aRIR_c, aRIIR_c, hC.o0, hC.f0_0, hC.f0_1, hC.f0_2, hC.f0_3, hC.f0_4, hC.f0_5, hC.f0_6, hC.f0_7, hC.f0_8, hC.f0_9, hC.f0_10, hC.f0_11, hC.o1, hC.f1, hC.t2, hC.l2, hC.o3, hC.f3, hC.t4, hC.l4, hC.s5, hC.s12, hC.s19, hC.s112, hC.s119, hC.o26, hC.f26, hC.t27, hC.l27, hC.s28, hC.o126, hC.f126_0, hC.f126_1, hC.t127, hC.l127, hC.t128, hC.l128, hC.s129, hC.n157, hC.n161, hC.o165, hC.f165, hC.t166, hC.l166, hC.r167, hC.r171, hC.q5, hC.q12, hC.q19, hC.q112, hC.q119, hC.a2, hC.a4, hC.a27, hC.a127, hC.a128, hC, xpAt, fpDigit, fpSdSign, hT, z0, p80, p80n, sdB, dgB]
  rw [e1, e2, e3]
  rcases (show p % 3 = 0 ∨ p % 3 = 1 ∨ p % 3 = 2 by omega) with c | c | c <;> simp [c] at h ⊢ <;> grind
/-- the first sign that can't stand there, or -1 -/
def fltS (n : Nat) (T : Int → Int) (len : Nat) : Int := if fF (fun p => !stS n T p) 0 (-1) (min len 17) ≠ -1 then fF (fun p => !stS n T p) 0 (-1) (min len 17) else if 0 < min len 17 ∧ min len 17 % 3 ≠ 2 then (min len 17 : Nat) else if 17 < len then 17 else -1
theorem rgSt_ok {l : Launch} {g : GE} {d : Nat} : ∀ e as t σ Q, rE l g (d + 7) ((136, fpStands) :: rgC) e as t σ Q → WPc l g e (d + 7) 0 0 as t σ Q := rE_cons (fun _ _ _ _ h => f_stands h) (rgC_ok (d := d + 1))
theorem fF_neg {p : Nat → Bool} : ∀ {r a : Nat}, fF p a (-1) r = -1 ∨ ((a : Int) ≤ fF p a (-1) r ∧ fF p a (-1) r < (a : Int) + r)
  | 0, a => Or.inl rfl
  | r + 1, a => by
    unfold fF
    split
    · exact Or.inr (by omega)
    · rcases fF_neg (p := p) (r := r) (a := a + 1) with h | h
      · exact Or.inl h
      · exact Or.inr (by omega)
def fpFault : Sp := fun as t σ Q => aRI as fun a len => a = 0 ∧ TC t ∧ SeaOk t σ 5 ∧ TxOk σ ∧ (0 ≤ len ∧ len ≤ 80) ∧ Q (some (vI (fltS (nS σ 5) (σ 2) len.toNat))) t σ
theorem f_fault {l : Launch} {g : GE} {d : Nat} {t : Tau} {σ : Mem} {Q : Post} {as : List TV} (h0 : fpFault as t σ Q) : WPc l g 135 (d + 8) 0 0 as t σ Q := by
  obtain ⟨a, len', rfl, rfl, hC, hk, hT, hp, h⟩ := aRI_e h0
  clear h0
  obtain ⟨len, rfl⟩ : ∃ n : Nat, len' = n := ⟨len'.toNat, by omega⟩
  simp only [Int.toNat_natCast] at h
  unfold fltS at h
  generalize hE : min len 17 = E at h
  have hE17 : E ≤ 17 ∧ E ≤ len := by omega
  have hEi : min (len : Int) 17 = (E : Int) := by omega
  generalize hq : (fun p => !stS (nS σ 5) (σ 2) p) = q at h
  have K : ∀ (r p : Nat), p + r = E → fF q 0 (-1) E = fF q p (-1) r → Wp l g 135 (d + 8) 0 0 9 [(0, vR 0), (1, vI len), (2, vI E), (3, vI p)] [] t σ Q := by
    intro r
    induction r with
    | zero =>
      intro p hp' he
      obtain rfl : p = E := by omega
      rw [he] at h
      simp [fF] at h
      have e1 : w32 ((p : Int).tmod 3) = ((p % 3 : Nat) : Int) := by rw [Int.tmod_eq_emod_of_nonneg (by omega), w32_id (by omega) (by omega)]; omega
      refine wa (by decide) rgSt_ok tk_135 30 (fun N hN => ?_)
      simp [bl_135, hN _, x_iconst, x_ldc2_w, x_aconst_null, x_iload, x_lload, x_aload, x_istore, x_lstore, x_astore, x_iinc, x_iadd, x_isub, x_imul, x_idiv, x_irem, x_iand, x_ior, x_ixor, x_ishl, x_ishr, x_iushr, x_ineg, x_ladd, x_lsub, x_lmul, x_ldiv, x_lrem, x_lcmp, x_i2l, x_i2b, x_i2s, x_i2c, x_dup, x_pop, x_dup_x1, x_dup2, x_getfield, x_putfield, x_iaload, x_baload, x_saload, x_caload, x_daload, x_faload, x_laload, x_aaload, x_iastore, x_bastore, x_sastore, x_castore, x_lastore, x_aastore, x_arraylength, x_getstatic, x_goto, x_goto_w, x_ifCond, x_if_icmp, x_ifnull, x_ifnonnull, x_lookupswitch, x_invokevirtual, x_invokestatic, x_invokedynamic, x_ireturn, x_freturn, x_dreturn, x_lreturn, x_areturn, x_return_, pI_c, pL_c, pR_c, pV_i, pV_r, gI_c, gL_c, gR_c, pN_z, pN_s, lget_c, lins_z, lins_c, ldel_z, ldel_c, ldel2_z, ldel2_c, lset_i, lset_l, lset_r, lkeep_z, lkeep_c, largs_z, largs_c, cat_i, cat_l, cat_r, lkp_c, cnd_eq, cnd_ne, cnd_lt, cnd_ge, cnd_gt, cnd_le, swL_z, swL_c, rE_e, rOr_s, rOr_n, rlk_z, rlk_c, aR_c, aI_c, aII_c, aIII_c, aRI_c, aRII_c, aRIII_c, vJn, vJs, vlc, aRR_c, aRRI_c, aRRII_c, aRRIII_c, aRIIII_c, aRL_c, aRLL_c, aLL_c, aRRRI_c, aIL_c, aIIII_c, aRRIIII_c, aIRII_c, aIR_c, aLI_c, aRIR_c, aRIIR_c, e1]
      refine ⟨fun z => ?_, fun z => ⟨fun y => ?_, fun y => ?_⟩⟩
      · rw [if_neg (by omega)] at h
        refine ⟨fun y => ?_, fun y => ?_⟩
        · rw [if_neg (by omega)] at h; exact h
        · rw [if_pos (by omega)] at h; exact h
      · rw [if_neg (by omega)] at h
        refine ⟨fun y => ?_, fun y => ?_⟩
        · rw [if_neg (by omega)] at h; exact h
        · rw [if_pos (by omega)] at h; exact h
      · rw [if_pos (by omega)] at h; exact h
    | succ r ih =>
      intro p hp' he
      have e2 := w32_succ (k := p) (by omega); have i1 : ((p : Nat) : Int) < (E : Nat) := (by omega); have i1n : p < E := (by omega); have i1x : ¬ E ≤ p := (by omega)
      have hs : fF q p (-1) (r + 1) = if q p then (p : Int) else fF q (p + 1) (-1) r := rfl
      have hqp : q p = !stS (nS σ 5) (σ 2) p := by rw [← hq]
      rw [hs, hqp] at he
      refine wa (by decide) rgSt_ok tk_135 30 (fun N hN => ?_)
      simp [bl_135, hN _, x_iconst, x_ldc2_w, x_aconst_null, x_iload, x_lload, x_aload, x_istore, x_lstore, x_astore, x_iinc, x_iadd, x_isub, x_imul, x_idiv, x_irem, x_iand, x_ior, x_ixor, x_ishl, x_ishr, x_iushr, x_ineg, x_ladd, x_lsub, x_lmul, x_ldiv, x_lrem, x_lcmp, x_i2l, x_i2b, x_i2s, x_i2c, x_dup, x_pop, x_dup_x1, x_dup2, x_getfield, x_putfield, x_iaload, x_baload, x_saload, x_caload, x_daload, x_faload, x_laload, x_aaload, x_iastore, x_bastore, x_sastore, x_castore, x_lastore, x_aastore, x_arraylength, x_getstatic, x_goto, x_goto_w, x_ifCond, x_if_icmp, x_ifnull, x_ifnonnull, x_lookupswitch, x_invokevirtual, x_invokestatic, x_invokedynamic, x_ireturn, x_freturn, x_dreturn, x_lreturn, x_areturn, x_return_, pI_c, pL_c, pR_c, pV_i, pV_r, gI_c, gL_c, gR_c, pN_z, pN_s, lget_c, lins_z, lins_c, ldel_z, ldel_c, ldel2_z, ldel2_c, lset_i, lset_l, lset_r, lkeep_z, lkeep_c, largs_z, largs_c, cat_i, cat_l, cat_r, lkp_c, cnd_eq, cnd_ne, cnd_lt, cnd_ge, cnd_gt, cnd_le, swL_z, swL_c, rE_e, rOr_s, rOr_n, rlk_z, rlk_c, aR_c, aI_c, aII_c, aIII_c, aRI_c, aRII_c, aRIII_c, vJn, vJs, vlc, aRR_c, aRRI_c, aRRII_c, aRRIII_c, aRIIII_c, aRL_c, aRLL_c, aLL_c, aRRRI_c, aIL_c, aIIII_c, aRRIIII_c, aIRII_c, aIR_c, aLI_c, aRIR_c, aRIIR_c, hC.o0, hC.f0_0, hC.f0_1, hC.f0_2, hC.f0_3, hC.f0_4, hC.f0_5, hC.f0_6, hC.f0_7, hC.f0_8, hC.f0_9, hC.f0_10, hC.f0_11, hC.o1, hC.f1, hC.t2, hC.l2, hC.o3, hC.f3, hC.t4, hC.l4, hC.s5, hC.s12, hC.s19, hC.s112, hC.s119, hC.o26, hC.f26, hC.t27, hC.l27, hC.s28, hC.o126, hC.f126_0, hC.f126_1, hC.t127, hC.l127, hC.t128, hC.l128, hC.s129, hC.n157, hC.n161, hC.o165, hC.f165, hC.t166, hC.l166, hC.r167, hC.r171, hC.q5, hC.q12, hC.q19, hC.q112, hC.q119, hC.a2, hC.a4, hC.a27, hC.a127, hC.a128, e2, i1, i1n, i1x, fpStands, hC, hk, hT]
      refine ⟨by omega, ?_⟩
      cases hc : stS (nS σ 5) (σ 2) p
      · rw [hc] at he
        rw [he] at h
        simp at h ⊢
        exact h
      · rw [hc] at he
        have K := ih (p + 1) (by omega) (by simpa using he)
        simpa using K
  have K := K E 0 (by omega) rfl
  refine wg (by decide) rgSt_ok tk_135 py_135 ml_135 30 (by simp [catT]) (fun N hN => ?_)
  simp [bl_135, hN _, x_iconst, x_ldc2_w, x_aconst_null, x_iload, x_lload, x_aload, x_istore, x_lstore, x_astore, x_iinc, x_iadd, x_isub, x_imul, x_idiv, x_irem, x_iand, x_ior, x_ixor, x_ishl, x_ishr, x_iushr, x_ineg, x_ladd, x_lsub, x_lmul, x_ldiv, x_lrem, x_lcmp, x_i2l, x_i2b, x_i2s, x_i2c, x_dup, x_pop, x_dup_x1, x_dup2, x_getfield, x_putfield, x_iaload, x_baload, x_saload, x_caload, x_daload, x_faload, x_laload, x_aaload, x_iastore, x_bastore, x_sastore, x_castore, x_lastore, x_aastore, x_arraylength, x_getstatic, x_goto, x_goto_w, x_ifCond, x_if_icmp, x_ifnull, x_ifnonnull, x_lookupswitch, x_invokevirtual, x_invokestatic, x_invokedynamic, x_ireturn, x_freturn, x_dreturn, x_lreturn, x_areturn, x_return_, pI_c, pL_c, pR_c, pV_i, pV_r, gI_c, gL_c, gR_c, pN_z, pN_s, lget_c, lins_z, lins_c, ldel_z, ldel_c, ldel2_z, ldel2_c, lset_i, lset_l, lset_r, lkeep_z, lkeep_c, largs_z, largs_c, cat_i, cat_l, cat_r, lkp_c, cnd_eq, cnd_ne, cnd_lt, cnd_ge, cnd_gt, cnd_le, swL_z, swL_c, rE_e, rOr_s, rOr_n, rlk_z, rlk_c, aR_c, aI_c, aII_c, aIII_c, aRI_c, aRII_c, aRIII_c, vJn, vJs, vlc, aRR_c, aRRI_c, aRRII_c, aRRIII_c, aRIIII_c, aRL_c, aRLL_c, aLL_c, aRRRI_c, aIL_c, aIIII_c, aRRIIII_c, aIRII_c, aIR_c, aLI_c, aRIR_c, aRIIR_c, spMin, hEi]
  exact K
/-! ships() -/
def jnS (T : Int → Int) (k : Nat) : Int := T (3 * k : Nat) - 97
def jnM (T : Int → Int) (k : Nat) : Int := T (3 * k + 1 : Nat) - 48
/-- k ships came: mights, row -/
def jnI (n : Nat) (M V T : Int → Int) : Nat → (Int → Int) × (Int → Int) := fo (fun k q => (upv q.1 ((n + k : Nat) : Int) (jnM T k), jnV ((n + k : Nat) : Int) q.2 (jnS T k) (jnM T k))) (M, V)
theorem fF_all {p : Nat → Bool} : ∀ {r a : Nat}, fF p a (-1) r = -1 → ∀ k, a ≤ k → k < a + r → p k = false
  | 0, a, _, k, h1, h2 => by omega
  | r + 1, a, h, k, h1, h2 => by
    unfold fF at h
    by_cases hp : p a = true
    · rw [if_pos hp] at h; omega
    · rw [if_neg hp] at h
      by_cases hk : k = a
      · subst hk; simpa using hp
      · exact fF_all h k (by omega) (by omega)
/-- a text without a fault: its lines -/
theorem flt_ok {n : Nat} {T : Int → Int} {len : Nat} (h : fltS n T len = -1) : len ≤ 17 ∧ ∀ k : Nat, k < (len + 1) / 3 → (0 ≤ jnS T k ∧ jnS T k < 4) ∧ (1 ≤ jnM T k ∧ jnM T k ≤ 9) ∧ n + k < 6 := by
  unfold fltS at h
  split at h
  · rename_i hc; exact (hc h).elim
  · rename_i hc
    have hc : fF (fun p => !stS n T p) 0 (-1) (min len 17) = -1 := Classical.byContradiction hc
    split at h
    · omega
    · rename_i hd
      split at h
      · omega
      · refine ⟨by omega, fun k hk => ?_⟩
        have hl : min len 17 = len := by omega
        rw [hl] at hc hd
        have h0 := fF_all hc (3 * k) (by omega) (by omega)
        have h1 := fF_all hc (3 * k + 1) (by omega) (by omega)
        simp only [Bool.not_eq_false'] at h0 h1
        unfold stS at h0 h1
        rw [if_pos (by omega)] at h0
        rw [if_neg (by omega), if_pos (by omega)] at h1
        have h0 := of_decide_eq_true h0
        have h1 := of_decide_eq_true h1
        rw [show 3 * k / 3 = k by omega] at h0
        unfold jnS jnM
        exact ⟨by omega, by omega, h0.2⟩
abbrev rgS : Reg := (135, fpFault) :: (57, apJoins) :: (12, ppClears) :: rgC
theorem rgS_ok {l : Launch} {g : GE} {d : Nat} : ∀ e as t σ Q, rE l g (d + 8) rgS e as t σ Q → WPc l g e (d + 8) 0 0 as t σ Q := rE_cons (fun _ _ _ _ h => f_fault h) (rE_cons (fun _ _ _ _ h => a_joins (d := d + 5) h) (rE_cons (fun _ _ _ _ h => p_clears (d := d + 7) h) (rgC_ok (d := d + 2))))
theorem flt_b {n : Nat} {T : Int → Int} {len : Nat} : -1 ≤ fltS n T len ∧ fltS n T len ≤ 17 := by
  unfold fltS
  have h := fF_neg (p := fun p => !stS n T p) (r := min len 17) (a := 0)
  split
  · omega
  · split
    · omega
    · split <;> omega
def shEnd (L : Nat) (σ' : Mem) : Mem := if L = 0 then σ' else up (up σ' 26 2 0) 0 15 0
/-- k ships came by the text T -/
def ShTo (t : Tau) (σ σ' : Mem) (k : Nat) : Prop := (∀ o, (o < 5 ∨ 11 < o) → o ≠ 1 → σ' o = σ o) ∧ σ' 1 1 = 0 ∧ SeaOk t σ' 5 ∧ nS σ' 5 = nS σ 5 + k ∧ mS σ' 5 = (jnI (nS σ 5) (mS σ 5) (vwS σ 5) (σ 2) k).1 ∧ vwS σ' 5 = (jnI (nS σ 5) (mS σ 5) (vwS σ 5) (σ 2) k).2
set_option maxHeartbeats 1000000 in
theorem o_ships {l : Launch} {g : GE} {d : Nat} {t : Tau} {σ : Mem} {Q : Post} (hC : TC t) (hk : SeaOk t σ 5) (hT : TxOk σ) (h : if fltS (nS σ 5) (σ 2) (σ 1 1).toNat = -1 then (∀ σ', ShTo t σ σ' (((σ 1 1).toNat + 1) / 3) → Q (some (vI (((σ 1 1).toNat + 1) / 3 : Nat))) t (shEnd (((σ 1 1).toNat + 1) / 3) σ')) else Q (some (vI (-1 - fltS (nS σ 5) (σ 2) (σ 1 1).toNat))) t (up σ 1 1 0)) : WPc l g 87 (d + 9) 0 0 [vR 0] t σ Q := by
  have n6 := hk.2.2.1
  obtain ⟨len, hlen⟩ : ∃ n : Nat, σ 1 1 = n := ⟨(σ 1 1).toNat, by have := hT.1; omega⟩
  have hl80 : len ≤ 80 := by have := hT.1; omega
  rw [hlen] at h
  simp only [Int.toNat_natCast] at h
  have hT1 : TxOk (up σ 1 1 0) := ⟨by simp [up_ap], fun k k0 k1 => by rw [up_ne (by omega)]; exact hT.2 k k0 k1⟩
  have e2 : up σ 1 1 0 2 = σ 2 := up_ne (by omega)
  have hl80' : (len : Int) ≤ 80 := by omega
  by_cases hf : fltS (nS σ 5) (σ 2) len = -1
  · rw [if_pos hf] at h
    obtain ⟨h17, hlin⟩ := flt_ok hf
    generalize hL : (len + 1) / 3 = L at h hlin
    have K : ∀ σ', ShTo t σ σ' 0 → Wp l g 87 (d + 9) 0 0 32 [(0, vR 0), (3, vI L), (4, vI (0 : Nat))] [] t σ' Q := by
      refine lpU (P := fun k => ∀ σ', ShTo t σ σ' k → Wp l g 87 (d + 9) 0 0 32 [(0, vR 0), (3, vI L), (4, vI k)] [] t σ' Q) (n := L) ?_ (fun k hk' K σ' S => ?_)
      · intro σ' S
        refine wa (by decide) rgS_ok tk_87 30 (fun N hN => ?_)
        simp [bl_87, hN _, x_iconst, x_ldc2_w, x_aconst_null, x_iload, x_lload, x_aload, x_istore, x_lstore, x_astore, x_iinc, x_iadd, x_isub, x_imul, x_idiv, x_irem, x_iand, x_ior, x_ixor, x_ishl, x_ishr, x_iushr, x_ineg, x_ladd, x_lsub, x_lmul, x_ldiv, x_lrem, x_lcmp, x_i2l, x_i2b, x_i2s, x_i2c, x_dup, x_pop, x_dup_x1, x_dup2, x_getfield, x_putfield, x_iaload, x_baload, x_saload, x_caload, x_daload, x_faload, x_laload, x_aaload, x_iastore, x_bastore, x_sastore, x_castore, x_lastore, x_aastore, x_arraylength, x_getstatic, x_goto, x_goto_w, x_ifCond, x_if_icmp, x_ifnull, x_ifnonnull, x_lookupswitch, x_invokevirtual, x_invokestatic, x_invokedynamic, x_ireturn, x_freturn, x_dreturn, x_lreturn, x_areturn, x_return_, pI_c, pL_c, pR_c, pV_i, pV_r, gI_c, gL_c, gR_c, pN_z, pN_s, lget_c, lins_z, lins_c, ldel_z, ldel_c, ldel2_z, ldel2_c, lset_i, lset_l, lset_r, lkeep_z, lkeep_c, largs_z, largs_c, cat_i, cat_l, cat_r, lkp_c, cnd_eq, cnd_ne, cnd_lt, cnd_ge, cnd_gt, cnd_le, swL_z, swL_c, rE_e, rOr_s, rOr_n, rlk_z, rlk_c, aR_c, aI_c, aII_c, aIII_c, aRI_c, aRII_c, aRIII_c, vJn, vJs, vlc, aRR_c, aRRI_c, aRRII_c, aRRIII_c, aRIIII_c, aRL_c, aRLL_c, aLL_c, aRRRI_c, aIL_c, aIIII_c, aRRIIII_c, aIRII_c, aIR_c, aLI_c, aRIR_c, aRIIR_c, hC.o0, hC.f0_0, hC.f0_1, hC.f0_2, hC.f0_3, hC.f0_4, hC.f0_5, hC.f0_6, hC.f0_7, hC.f0_8, hC.f0_9, hC.f0_10, hC.f0_11, hC.o1, hC.f1, hC.t2, hC.l2, hC.o3, hC.f3, hC.t4, hC.l4, hC.s5, hC.s12, hC.s19, hC.s112, hC.s119, hC.o26, hC.f26, hC.t27, hC.l27, hC.s28, hC.o126, hC.f126_0, hC.f126_1, hC.t127, hC.l127, hC.t128, hC.l128, hC.s129, hC.n157, hC.n161, hC.o165, hC.f165, hC.t166, hC.l166, hC.r167, hC.r171, hC.q5, hC.q12, hC.q19, hC.q112, hC.q119, hC.a2, hC.a4, hC.a27, hC.a127, hC.a128, hC, ppClears]
        have h := h σ' S
        unfold shEnd at h
        refine ⟨fun z => ?_, fun z => ?_⟩
        · rw [if_pos (by omega)] at h; exact h
        · rw [if_neg (by omega)] at h; exact h
      · have e2 := w32_succ (k := k) (by omega); have i1 : ((k : Nat) : Int) < (L : Nat) := (by omega); have i1n : k < L := (by omega); have i1x : ¬ L ≤ k := (by omega)
        obtain ⟨a1, a2, a3, a4, a5, a6⟩ := S
        obtain ⟨g1, g2, g3⟩ := hlin k hk'
        have x2 : σ' 2 = σ 2 := a1 2 (by omega) (by omega)
        have hT2 : TxOk σ' := ⟨by rw [a2]; omega, fun k k0 k1 => by rw [x2]; exact hT.2 k k0 k1⟩
        have e4 : w32 (3 * (k : Int)) = ((3 * k : Nat) : Int) := by rw [w32_id (by omega) (by omega)]; omega
        have e5 : w32 (((3 * k : Nat) : Int) + 1) = ((3 * k + 1 : Nat) : Int) := by rw [w32_id (by omega) (by omega)]; omega
        have e6 : w32 (σ 2 ((3 * k : Nat) : Int) - 97) = jnS (σ 2) k := by unfold jnS at g1 ⊢; exact w32_id (by omega) (by omega)
        have e7 : w32 (σ 2 ((3 * k + 1 : Nat) : Int) - 48) = jnM (σ 2) k := by unfold jnM at g2 ⊢; exact w32_id (by omega) (by omega)
        have es : jnI (nS σ 5) (mS σ 5) (vwS σ 5) (σ 2) (k + 1) = (upv (jnI (nS σ 5) (mS σ 5) (vwS σ 5) (σ 2) k).1 ((nS σ 5 + k : Nat) : Int) (jnM (σ 2) k), jnV ((nS σ 5 + k : Nat) : Int) (jnI (nS σ 5) (mS σ 5) (vwS σ 5) (σ 2) k).2 (jnS (σ 2) k) (jnM (σ 2) k)) := rfl
        refine wa (by decide) rgS_ok ts_87 30 (fun N hN => ?_)
        simp [bs_87, hN _, x_iconst, x_ldc2_w, x_aconst_null, x_iload, x_lload, x_aload, x_istore, x_lstore, x_astore, x_iinc, x_iadd, x_isub, x_imul, x_idiv, x_irem, x_iand, x_ior, x_ixor, x_ishl, x_ishr, x_iushr, x_ineg, x_ladd, x_lsub, x_lmul, x_ldiv, x_lrem, x_lcmp, x_i2l, x_i2b, x_i2s, x_i2c, x_dup, x_pop, x_dup_x1, x_dup2, x_getfield, x_putfield, x_iaload, x_baload, x_saload, x_caload, x_daload, x_faload, x_laload, x_aaload, x_iastore, x_bastore, x_sastore, x_castore, x_lastore, x_aastore, x_arraylength, x_getstatic, x_goto, x_goto_w, x_ifCond, x_if_icmp, x_ifnull, x_ifnonnull, x_lookupswitch, x_invokevirtual, x_invokestatic, x_invokedynamic, x_ireturn, x_freturn, x_dreturn, x_lreturn, x_areturn, x_return_, pI_c, pL_c, pR_c, pV_i, pV_r, gI_c, gL_c, gR_c, pN_z, pN_s, lget_c, lins_z, lins_c, ldel_z, ldel_c, ldel2_z, ldel2_c, lset_i, lset_l, lset_r, lkeep_z, lkeep_c, largs_z, largs_c, cat_i, cat_l, cat_r, lkp_c, cnd_eq, cnd_ne, cnd_lt, cnd_ge, cnd_gt, cnd_le, swL_z, swL_c, rE_e, rOr_s, rOr_n, rlk_z, rlk_c, aR_c, aI_c, aII_c, aIII_c, aRI_c, aRII_c, aRIII_c, vJn, vJs, vlc, aRR_c, aRRI_c, aRRII_c, aRRIII_c, aRIIII_c, aRL_c, aRLL_c, aLL_c, aRRRI_c, aIL_c, aIIII_c, aRRIIII_c, aIRII_c, aIR_c, aLI_c, aRIR_c, aRIIR_c, hC.o0, hC.f0_0, hC.f0_1, hC.f0_2, hC.f0_3, hC.f0_4, hC.f0_5, hC.f0_6, hC.f0_7, hC.f0_8, hC.f0_9, hC.f0_10, hC.f0_11, hC.o1, hC.f1, hC.t2, hC.l2, hC.o3, hC.f3, hC.t4, hC.l4, hC.s5, hC.s12, hC.s19, hC.s112, hC.s119, hC.o26, hC.f26, hC.t27, hC.l27, hC.s28, hC.o126, hC.f126_0, hC.f126_1, hC.t127, hC.l127, hC.t128, hC.l128, hC.s129, hC.n157, hC.n161, hC.o165, hC.f165, hC.t166, hC.l166, hC.r167, hC.r171, hC.q5, hC.q12, hC.q19, hC.q112, hC.q119, hC.a2, hC.a4, hC.a27, hC.a127, hC.a128, hC, e2, i1, i1n, i1x, xpAt, hT2, x2, apJoins, a3]
        rw [e4, e5, e6, e7]
        refine ⟨by omega, by omega, by omega, g1, g2, fun σ2 J => ?_⟩
        obtain ⟨b1, b2, b3, b4, b5⟩ := J
        have K := K σ2 ⟨fun o ho ho' => by rw [b1 o (by omega)]; exact a1 o ho ho', by rw [b1 1 (by omega)]; exact a2, b2, by rw [b3, a4]; omega, by rw [b4, a4, a5, es], by rw [b5, a4, a6, es]⟩
        simp [sg_87_0_1, sg_87_32_1, sg_87_81_1, hN _, x_iconst, x_ldc2_w, x_aconst_null, x_iload, x_lload, x_aload, x_istore, x_lstore, x_astore, x_iinc, x_iadd, x_isub, x_imul, x_idiv, x_irem, x_iand, x_ior, x_ixor, x_ishl, x_ishr, x_iushr, x_ineg, x_ladd, x_lsub, x_lmul, x_ldiv, x_lrem, x_lcmp, x_i2l, x_i2b, x_i2s, x_i2c, x_dup, x_pop, x_dup_x1, x_dup2, x_getfield, x_putfield, x_iaload, x_baload, x_saload, x_caload, x_daload, x_faload, x_laload, x_aaload, x_iastore, x_bastore, x_sastore, x_castore, x_lastore, x_aastore, x_arraylength, x_getstatic, x_goto, x_goto_w, x_ifCond, x_if_icmp, x_ifnull, x_ifnonnull, x_lookupswitch, x_invokevirtual, x_invokestatic, x_invokedynamic, x_ireturn, x_freturn, x_dreturn, x_lreturn, x_areturn, x_return_, pI_c, pL_c, pR_c, pV_i, pV_r, gI_c, gL_c, gR_c, pN_z, pN_s, lget_c, lins_z, lins_c, ldel_z, ldel_c, ldel2_z, ldel2_c, lset_i, lset_l, lset_r, lkeep_z, lkeep_c, largs_z, largs_c, cat_i, cat_l, cat_r, lkp_c, cnd_eq, cnd_ne, cnd_lt, cnd_ge, cnd_gt, cnd_le, swL_z, swL_c, rE_e, rOr_s, rOr_n, rlk_z, rlk_c, aR_c, aI_c, aII_c, aIII_c, aRI_c, aRII_c, aRIII_c, vJn, vJs, vlc, aRR_c, aRRI_c, aRRII_c, aRRIII_c, aRIIII_c, aRL_c, aRLL_c, aLL_c, aRRRI_c, aIL_c, aIIII_c, aRRIIII_c, aIRII_c, aIR_c, aLI_c, aRIR_c, aRIIR_c, e2]
        exact K
    have K := K (up σ 1 1 0) ⟨fun o ho ho' => up_ne ho', by simp [up_ap], by rw [ok_up (by omega)]; exact hk, by rw [nS_up (by omega)]; rfl, by rw [mS_up (by omega)]; rfl, by rw [vw_up (by omega)]; rfl⟩
    have e8 : w32 ((len : Int) + 1) = ((len + 1 : Nat) : Int) := w32_succ (by omega)
    have e9 : w32 ((((len + 1 : Nat) : Int)).tdiv 3) = (L : Int) := by rw [Int.tdiv_eq_ediv_of_nonneg (by omega), w32_id (by omega) (by omega)]; omega
    refine wg (by decide) rgS_ok tk_87 py_87 ml_87 30 (by simp [catT]) (fun N hN => ?_)
    simp [bl_87, hN _, x_iconst, x_ldc2_w, x_aconst_null, x_iload, x_lload, x_aload, x_istore, x_lstore, x_astore, x_iinc, x_iadd, x_isub, x_imul, x_idiv, x_irem, x_iand, x_ior, x_ixor, x_ishl, x_ishr, x_iushr, x_ineg, x_ladd, x_lsub, x_lmul, x_ldiv, x_lrem, x_lcmp, x_i2l, x_i2b, x_i2s, x_i2c, x_dup, x_pop, x_dup_x1, x_dup2, x_getfield, x_putfield, x_iaload, x_baload, x_saload, x_caload, x_daload, x_faload, x_laload, x_aaload, x_iastore, x_bastore, x_sastore, x_castore, x_lastore, x_aastore, x_arraylength, x_getstatic, x_goto, x_goto_w, x_ifCond, x_if_icmp, x_ifnull, x_ifnonnull, x_lookupswitch, x_invokevirtual, x_invokestatic, x_invokedynamic, x_ireturn, x_freturn, x_dreturn, x_lreturn, x_areturn, x_return_, pI_c, pL_c, pR_c, pV_i, pV_r, gI_c, gL_c, gR_c, pN_z, pN_s, lget_c, lins_z, lins_c, ldel_z, ldel_c, ldel2_z, ldel2_c, lset_i, lset_l, lset_r, lkeep_z, lkeep_c, largs_z, largs_c, cat_i, cat_l, cat_r, lkp_c, cnd_eq, cnd_ne, cnd_lt, cnd_ge, cnd_gt, cnd_le, swL_z, swL_c, rE_e, rOr_s, rOr_n, rlk_z, rlk_c, aR_c, aI_c, aII_c, aIII_c, aRI_c, aRII_c, aRIII_c, vJn, vJs, vlc, aRR_c, aRRI_c, aRRII_c, aRRIII_c, aRIIII_c, aRL_c, aRLL_c, aLL_c, aRRRI_c, aIL_c, aIIII_c, aRRIIII_c, aIRII_c, aIR_c, aLI_c, aRIR_c, aRIIR_c, hC.o0, hC.f0_0, hC.f0_1, hC.f0_2, hC.f0_3, hC.f0_4, hC.f0_5, hC.f0_6, hC.f0_7, hC.f0_8, hC.f0_9, hC.f0_10, hC.f0_11, hC.o1, hC.f1, hC.t2, hC.l2, hC.o3, hC.f3, hC.t4, hC.l4, hC.s5, hC.s12, hC.s19, hC.s112, hC.s119, hC.o26, hC.f26, hC.t27, hC.l27, hC.s28, hC.o126, hC.f126_0, hC.f126_1, hC.t127, hC.l127, hC.t128, hC.l128, hC.s129, hC.n157, hC.n161, hC.o165, hC.f165, hC.t166, hC.l166, hC.r167, hC.r171, hC.q5, hC.q12, hC.q19, hC.q112, hC.q119, hC.a2, hC.a4, hC.a27, hC.a127, hC.a128, hC, xpEmpties, fpFault, ok_up, nS_up, hk, hT1, hlen, hl80', hl80, e2, hf]
    rw [e8, e9]
    simpa using K
  · rw [if_neg hf] at h
    have hb := flt_b (n := nS σ 5) (T := σ 2) (len := len)
    refine wg (by decide) rgS_ok tk_87 py_87 ml_87 30 (by simp [catT]) (fun N hN => ?_)
    simp [bl_87, hN _, x_iconst, x_ldc2_w, x_aconst_null, x_iload, x_lload, x_aload, x_istore, x_lstore, x_astore, x_iinc, x_iadd, x_isub, x_imul, x_idiv, x_irem, x_iand, x_ior, x_ixor, x_ishl, x_ishr, x_iushr, x_ineg, x_ladd, x_lsub, x_lmul, x_ldiv, x_lrem, x_lcmp, x_i2l, x_i2b, x_i2s, x_i2c, x_dup, x_pop, x_dup_x1, x_dup2, x_getfield, x_putfield, x_iaload, x_baload, x_saload, x_caload, x_daload, x_faload, x_laload, x_aaload, x_iastore, x_bastore, x_sastore, x_castore, x_lastore, x_aastore, x_arraylength, x_getstatic, x_goto, x_goto_w, x_ifCond, x_if_icmp, x_ifnull, x_ifnonnull, x_lookupswitch, x_invokevirtual, x_invokestatic, x_invokedynamic, x_ireturn, x_freturn, x_dreturn, x_lreturn, x_areturn, x_return_, pI_c, pL_c, pR_c, pV_i, pV_r, gI_c, gL_c, gR_c, pN_z, pN_s, lget_c, lins_z, lins_c, ldel_z, ldel_c, ldel2_z, ldel2_c, lset_i, lset_l, lset_r, lkeep_z, lkeep_c, largs_z, largs_c, cat_i, cat_l, cat_r, lkp_c, cnd_eq, cnd_ne, cnd_lt, cnd_ge, cnd_gt, cnd_le, swL_z, swL_c, rE_e, rOr_s, rOr_n, rlk_z, rlk_c, aR_c, aI_c, aII_c, aIII_c, aRI_c, aRII_c, aRIII_c, vJn, vJs, vlc, aRR_c, aRRI_c, aRRII_c, aRRIII_c, aRIIII_c, aRL_c, aRLL_c, aLL_c, aRRRI_c, aIL_c, aIIII_c, aRRIIII_c, aIRII_c, aIR_c, aLI_c, aRIR_c, aRIIR_c, hC.o0, hC.f0_0, hC.f0_1, hC.f0_2, hC.f0_3, hC.f0_4, hC.f0_5, hC.f0_6, hC.f0_7, hC.f0_8, hC.f0_9, hC.f0_10, hC.f0_11, hC.o1, hC.f1, hC.t2, hC.l2, hC.o3, hC.f3, hC.t4, hC.l4, hC.s5, hC.s12, hC.s19, hC.s112, hC.s119, hC.o26, hC.f26, hC.t27, hC.l27, hC.s28, hC.o126, hC.f126_0, hC.f126_1, hC.t127, hC.l127, hC.t128, hC.l128, hC.s129, hC.n157, hC.n161, hC.o165, hC.f165, hC.t166, hC.l166, hC.r167, hC.r171, hC.q5, hC.q12, hC.q19, hC.q112, hC.q119, hC.a2, hC.a4, hC.a27, hC.a127, hC.a128, hC, xpEmpties, fpFault, ok_up, nS_up, hk, hT1, hlen, hl80', hl80, e2, hf]
    rw [w32_id (by omega) (by omega)]
    simpa using h
