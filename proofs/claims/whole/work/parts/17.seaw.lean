/-! StruckColours$Sea: what is written -/
theorem fidx {s k : Int} (h0 : 0 ≤ s) (h1 : s < 6) (k0 : 0 ≤ k) (k1 : k < 4) : w32 (w32 (s * 4) + k) = 4 * s + k ∧ 0 ≤ 4 * s + k ∧ 4 * s + k < 24 := by
  rw [w32_id (x := s * 4) (by omega) (by omega), w32_id (by omega) (by omega)]
  omega
theorem w32_succ {k : Nat} (h : k < 1000000) : w32 ((k : Int) + 1) = ((k + 1 : Nat) : Int) := by
  rw [w32_id (by omega) (by omega)]
  omega
abbrev SeaPre (t : Tau) (σ : Mem) (a s : Int) : Prop := SeaT t a ∧ hsB σ a s
def spStrengthens : Sp := fun as t σ Q => aRII as fun a s v => SeaPre t σ a s ∧ ∀ σ', SeaFr σ σ' a → σ' a 0 = σ a 0 → vwS σ' a = upv (vwS σ a) s (max 0 (min (σ (a + 1) s) v)) → Q none t σ'
theorem c_strengthens {l : Launch} {g : GE} {d : Nat} {t : Tau} {σ : Mem} {Q : Post} {as : List TV} (h : spStrengthens as t σ Q) : WPc l g 59 (d + 2) 0 0 as t σ Q := by
  obtain ⟨a, s, v, rfl, ⟨hs, hv⟩, h'⟩ := aRII_e h
  have h := fun σ' (f : SeaFr σ σ' a) v => h' σ' f f.2.2 v
  have hs' := hs
  obtain ⟨o, f1, f2, f3, f4, f5, f6, t1, t2, t3, t4, t5, t6, l1, l2, l3, l4, l5, l6⟩ := hs
  refine wg (by decide) (regJ_ok reg1_ok) tk_59 py_59 ml_59 30 (by simp [catT]) (fun N hN => ?_)
  simp [bl_59, hN _, x_iconst, x_ldc2_w, x_aconst_null, x_iload, x_lload, x_aload, x_istore, x_lstore, x_astore, x_iinc, x_iadd, x_isub, x_imul, x_idiv, x_irem, x_iand, x_ior, x_ixor, x_ishl, x_ishr, x_iushr, x_ineg, x_ladd, x_lsub, x_lmul, x_ldiv, x_lrem, x_lcmp, x_i2l, x_i2b, x_i2s, x_i2c, x_dup, x_pop, x_dup_x1, x_dup2, x_getfield, x_putfield, x_iaload, x_baload, x_saload, x_caload, x_daload, x_faload, x_laload, x_aaload, x_iastore, x_bastore, x_sastore, x_castore, x_lastore, x_aastore, x_arraylength, x_getstatic, x_goto, x_goto_w, x_ifCond, x_if_icmp, x_ifnull, x_ifnonnull, x_lookupswitch, x_invokevirtual, x_invokestatic, x_invokedynamic, x_ireturn, x_freturn, x_dreturn, x_lreturn, x_areturn, x_return_, pI_c, pL_c, pR_c, pV_i, pV_r, gI_c, gL_c, gR_c, pN_z, pN_s, lget_c, lins_z, lins_c, ldel_z, ldel_c, ldel2_z, ldel2_c, lset_i, lset_l, lset_r, lkeep_z, lkeep_c, largs_z, largs_c, cat_i, cat_l, cat_r, lkp_c, cnd_eq, cnd_ne, cnd_lt, cnd_ge, cnd_gt, cnd_le, swL_z, swL_c, rE_e, rOr_s, rOr_n, rlk_z, rlk_c, aR_c, aI_c, aII_c, aIII_c, aRI_c, aRII_c, aRIII_c, vJn, vJs, vlc, spHas, spMax, spMin, o, hs', f1, t1, l1, f2, t2, l2, hv]
  exact ⟨fun z => by omega, h _ (SeaFr.rf.up (by omega)) (vwU_st hv.1 hv.2.2)⟩
def spResews : Sp := fun as t σ Q => pR as fun a r => pI r fun s r => pI r fun f r => pI r fun u r => pI r fun n r => r = [] ∧ SeaPre t σ a s ∧ (0 ≤ f ∧ f < 4 ∧ 0 ≤ u ∧ u < 4 ∧ 0 ≤ n ∧ n ≤ 1000) ∧ (0 ≤ partV (vwS σ a) s f ∧ partV (vwS σ a) s f ≤ 1000 ∧ 0 ≤ partV (vwS σ a) s u ∧ partV (vwS σ a) s u ≤ 1000) ∧ ∀ σ', SeaFr σ σ' a → σ' a 0 = σ a 0 → vwS σ' a = sewP (vwS σ a) s f u n → Q none t σ'
theorem c_resews {l : Launch} {g : GE} {d : Nat} {t : Tau} {σ : Mem} {Q : Post} {as : List TV} (h : spResews as t σ Q) : WPc l g 60 (d + 2) 0 0 as t σ Q := by
  obtain ⟨a, r1, rfl, h⟩ := pR_e h
  obtain ⟨s, r2, rfl, h⟩ := pI_e h
  obtain ⟨f, r3, rfl, h⟩ := pI_e h
  obtain ⟨u, r4, rfl, h⟩ := pI_e h
  obtain ⟨n, r5, rfl, rfl, ⟨hs, hv⟩, ⟨b1, b2, b3, b4, b5, b6⟩, ⟨p1, p2, p3, p4⟩, h'⟩ := pI_e h
  have h := fun σ' (f : SeaFr σ σ' a) v => h' σ' f f.2.2 v
  have hs' := hs
  obtain ⟨o, f1, f2, f3, f4, f5, f6, t1, t2, t3, t4, t5, t6, l1, l2, l3, l4, l5, l6⟩ := hs
  refine wg (by decide) reg1_ok tk_60 py_60 ml_60 30 (by simp [catT]) (fun N hN => ?_)
  have e1 := (fidx (s := s) (k := f) (by omega) (by omega) (by omega) (by omega)).1
  have e2 := (fidx (s := s) (k := u) (by omega) (by omega) (by omega) (by omega)).1
  simp [bl_60, hN _, x_iconst, x_ldc2_w, x_aconst_null, x_iload, x_lload, x_aload, x_istore, x_lstore, x_astore, x_iinc, x_iadd, x_isub, x_imul, x_idiv, x_irem, x_iand, x_ior, x_ixor, x_ishl, x_ishr, x_iushr, x_ineg, x_ladd, x_lsub, x_lmul, x_ldiv, x_lrem, x_lcmp, x_i2l, x_i2b, x_i2s, x_i2c, x_dup, x_pop, x_dup_x1, x_dup2, x_getfield, x_putfield, x_iaload, x_baload, x_saload, x_caload, x_daload, x_faload, x_laload, x_aaload, x_iastore, x_bastore, x_sastore, x_castore, x_lastore, x_aastore, x_arraylength, x_getstatic, x_goto, x_goto_w, x_ifCond, x_if_icmp, x_ifnull, x_ifnonnull, x_lookupswitch, x_invokevirtual, x_invokestatic, x_invokedynamic, x_ireturn, x_freturn, x_dreturn, x_lreturn, x_areturn, x_return_, pI_c, pL_c, pR_c, pV_i, pV_r, gI_c, gL_c, gR_c, pN_z, pN_s, lget_c, lins_z, lins_c, ldel_z, ldel_c, ldel2_z, ldel2_c, lset_i, lset_l, lset_r, lkeep_z, lkeep_c, largs_z, largs_c, cat_i, cat_l, cat_r, lkp_c, cnd_eq, cnd_ne, cnd_lt, cnd_ge, cnd_gt, cnd_le, swL_z, swL_c, rE_e, rOr_s, rOr_n, rlk_z, rlk_c, aR_c, aI_c, aII_c, aIII_c, aRI_c, aRII_c, aRIII_c, vJn, vJs, vlc, spHas, spSide, o, hs', f6, t6, l6, hv, b1, b2, b3, b4, e1, e2]
  refine ⟨fun z => by omega, fun z => by omega, fun z => by omega, by omega, by omega, ?_⟩
  have x1 : 12 + (4 * s + f) = 12 + 4 * s + f := by omega
  have x2 : 12 + (4 * s + u) = 12 + 4 * s + u := by omega
  have q1 : σ (a + 6) (4 * s + f) = partV (vwS σ a) s f := by rw [vw_fl (σ := σ) (a := a) (j := 4 * s + f) (by omega) (by omega), x1]
  have q3 : ∀ y, vwS (up σ (a + 6) (4 * s + f) y) a = upv (vwS σ a) (12 + 4 * s + f) y := fun y => by rw [vwU_fl (by omega) (by omega), x1]
  rw [q1, w32_id (by omega) (by omega)]
  have q2 : up σ (a + 6) (4 * s + f) (partV (vwS σ a) s f - n) (a + 6) (4 * s + u) = upv (vwS σ a) (12 + 4 * s + f) (partV (vwS σ a) s f - n) (12 + 4 * s + u) := by
    rw [vw_fl (σ := up σ (a + 6) (4 * s + f) (partV (vwS σ a) s f - n)) (by omega) (by omega), q3, x2]
  have p1' : 0 ≤ vwS σ a (12 + 4 * s + f) := p1
  have p2' : vwS σ a (12 + 4 * s + f) ≤ 1000 := p2
  have p3' : 0 ≤ vwS σ a (12 + 4 * s + u) := p3
  have p4' : vwS σ a (12 + 4 * s + u) ≤ 1000 := p4
  have q4 : -1000 ≤ upv (vwS σ a) (12 + 4 * s + f) (partV (vwS σ a) s f - n) (12 + 4 * s + u) ∧ upv (vwS σ a) (12 + 4 * s + f) (partV (vwS σ a) s f - n) (12 + 4 * s + u) ≤ 1000 := by
    unfold upv partV
    split <;> omega
  rw [q2, w32_id (by omega) (by omega)]
  refine h _ ((SeaFr.rf.up (by omega)).up (by omega)) ?_
  rw [vwU_fl (by omega) (by omega), q3, x2]
  rfl
/-- GO OVER: the loop -/
def spGo : Sp := fun as t σ Q => aRI as fun a s => SeaPre t σ a s ∧ (0 ≤ vwS σ a (6 + s) ∧ vwS σ a (6 + s) < 4) ∧ (0 ≤ vwS σ a 49 ∧ vwS σ a 49 ≤ 9999) ∧ ∀ σ', SeaFr σ σ' a → σ' a 0 = σ a 0 → vwS σ' a = goV (vwS σ a) s → Q none t σ'
theorem mgo_step {l : Launch} {g : GE} {d : Nat} {t : Tau} {σ : Mem} {Q : Post} {a s k m : Int} (hs : SeaT t a) (hv : hsB σ a s) (hk : 1 ≤ k ∧ k ≤ 3) (hm : 0 ≤ m ∧ m < 4) (K : Wp l g 61 (d + 3) 0 0 4 [(0, vR a), (1, vI s), (2, vI (if partV (vwS σ a) s m < partV (vwS σ a) s k then k else m)), (3, vI (k + 1))] [] t σ Q) :
    Wp l g 61 (d + 3) 0 0 4 [(0, vR a), (1, vI s), (2, vI m), (3, vI k)] [] t σ Q := by
  have hs' := hs
  obtain ⟨o, f1, f2, f3, f4, f5, f6, t1, t2, t3, t4, t5, t6, l1, l2, l3, l4, l5, l6⟩ := hs
  refine wa (by decide) (regJ_ok reg2_ok) tk_61 30 (fun N hN => ?_)
  have e1 : w32 (k + 1) = k + 1 := w32_id (by omega) (by omega)
  have x1 : σ (a + 6) (4 * s + k) = vwS σ a (12 + 4 * s + k) := by rw [vw_fl (σ := σ) (a := a) (j := 4 * s + k) (by omega) (by omega)]; congr 1; omega
  have x2 : σ (a + 6) (4 * s + m) = vwS σ a (12 + 4 * s + m) := by rw [vw_fl (σ := σ) (a := a) (j := 4 * s + m) (by omega) (by omega)]; congr 1; omega
  obtain ⟨v0, v1, v2⟩ := hv
  have k0 : 0 ≤ k := by omega
  have kn : ¬ 4 ≤ k := by omega
  have k4 : k < 4 := by omega
  simp [bl_61, hN _, x_iconst, x_ldc2_w, x_aconst_null, x_iload, x_lload, x_aload, x_istore, x_lstore, x_astore, x_iinc, x_iadd, x_isub, x_imul, x_idiv, x_irem, x_iand, x_ior, x_ixor, x_ishl, x_ishr, x_iushr, x_ineg, x_ladd, x_lsub, x_lmul, x_ldiv, x_lrem, x_lcmp, x_i2l, x_i2b, x_i2s, x_i2c, x_dup, x_pop, x_dup_x1, x_dup2, x_getfield, x_putfield, x_iaload, x_baload, x_saload, x_caload, x_daload, x_faload, x_laload, x_aaload, x_iastore, x_bastore, x_sastore, x_castore, x_lastore, x_aastore, x_arraylength, x_getstatic, x_goto, x_goto_w, x_ifCond, x_if_icmp, x_ifnull, x_ifnonnull, x_lookupswitch, x_invokevirtual, x_invokestatic, x_invokedynamic, x_ireturn, x_freturn, x_dreturn, x_lreturn, x_areturn, x_return_, pI_c, pL_c, pR_c, pV_i, pV_r, gI_c, gL_c, gR_c, pN_z, pN_s, lget_c, lins_z, lins_c, ldel_z, ldel_c, ldel2_z, ldel2_c, lset_i, lset_l, lset_r, lkeep_z, lkeep_c, largs_z, largs_c, cat_i, cat_l, cat_r, lkp_c, cnd_eq, cnd_ne, cnd_lt, cnd_ge, cnd_gt, cnd_le, swL_z, swL_c, rE_e, rOr_s, rOr_n, rlk_z, rlk_c, aR_c, aI_c, aII_c, aIII_c, aRI_c, aRII_c, aRIII_c, vJn, vJs, vlc, spHas, spSide, spParts, spOf, spMin, hsB, o, hs', v0, v1, v2, hm, e1, x1, x2, k0, k4, kn]
  refine ⟨fun z => ?_, fun z => ?_⟩
  · rwa [if_neg (Int.not_lt.mpr z)] at K
  · rwa [if_pos z] at K
theorem mgo_end {l : Launch} {g : GE} {d : Nat} {t : Tau} {σ : Mem} {Q : Post} {a s m : Int} (hs : SeaT t a) (hv : hsB σ a s) (hm : 0 ≤ m ∧ m < 4) (hb : m = bestV (vwS σ a) s) (b1 : 0 ≤ vwS σ a (6 + s)) (b2 : vwS σ a (6 + s) < 4) (b3 : 0 ≤ vwS σ a 49) (b4 : vwS σ a 49 ≤ 9999) (h : ∀ σ', SeaFr σ σ' a → vwS σ' a = goV (vwS σ a) s → Q none t σ') :
    Wp l g 61 (d + 3) 0 0 4 [(0, vR a), (1, vI s), (2, vI m), (3, vI 4)] [] t σ Q := by
  have hs' := hs
  obtain ⟨o, f1, f2, f3, f4, f5, f6, t1, t2, t3, t4, t5, t6, l1, l2, l3, l4, l5, l6⟩ := hs
  refine wa (by decide) (regJ_ok reg2_ok) tk_61 30 (fun N hN => ?_)
  obtain ⟨v0, v1, v2⟩ := hv
  obtain ⟨m0, m4⟩ := hm
  have x3 : σ (a + 3) s = vwS σ a (6 + s) := vw_sd v0 v2
  have x2 : σ (a + 6) (4 * s + m) = vwS σ a (12 + 4 * s + m) := by rw [vw_fl (σ := σ) (a := a) (j := 4 * s + m) (by omega) (by omega)]; congr 1; omega
  have x1 : σ (a + 6) (4 * s + vwS σ a (6 + s)) = vwS σ a (12 + 4 * s + vwS σ a (6 + s)) := by rw [vw_fl (σ := σ) (a := a) (j := 4 * s + vwS σ a (6 + s)) (by omega) (by omega)]; congr 1; omega
  simp [bl_61, hN _, x_iconst, x_ldc2_w, x_aconst_null, x_iload, x_lload, x_aload, x_istore, x_lstore, x_astore, x_iinc, x_iadd, x_isub, x_imul, x_idiv, x_irem, x_iand, x_ior, x_ixor, x_ishl, x_ishr, x_iushr, x_ineg, x_ladd, x_lsub, x_lmul, x_ldiv, x_lrem, x_lcmp, x_i2l, x_i2b, x_i2s, x_i2c, x_dup, x_pop, x_dup_x1, x_dup2, x_getfield, x_putfield, x_iaload, x_baload, x_saload, x_caload, x_daload, x_faload, x_laload, x_aaload, x_iastore, x_bastore, x_sastore, x_castore, x_lastore, x_aastore, x_arraylength, x_getstatic, x_goto, x_goto_w, x_ifCond, x_if_icmp, x_ifnull, x_ifnonnull, x_lookupswitch, x_invokevirtual, x_invokestatic, x_invokedynamic, x_ireturn, x_freturn, x_dreturn, x_lreturn, x_areturn, x_return_, pI_c, pL_c, pR_c, pV_i, pV_r, gI_c, gL_c, gR_c, pN_z, pN_s, lget_c, lins_z, lins_c, ldel_z, ldel_c, ldel2_z, ldel2_c, lset_i, lset_l, lset_r, lkeep_z, lkeep_c, largs_z, largs_c, cat_i, cat_l, cat_r, lkp_c, cnd_eq, cnd_ne, cnd_lt, cnd_ge, cnd_gt, cnd_le, swL_z, swL_c, rE_e, rOr_s, rOr_n, rlk_z, rlk_c, aR_c, aI_c, aII_c, aIII_c, aRI_c, aRII_c, aRIII_c, vJn, vJs, vlc, spHas, spSide, spParts, spOf, spMin, hsB, o, hs', v0, v1, v2, m0, m4, x1, x2, x3, b1, b2, f3, t3, l3]
  refine ⟨fun z => by omega, fun z => ?_, fun z => ?_⟩
  · refine h _ SeaFr.rf ?_
    unfold goV
    rw [if_pos (by rw [← hb]; exact z)]
  · have y1 : up σ (a + 3) s m a 2 = vwS σ a 49 := by
      rw [show up σ (a + 3) s m a = σ a from up_ne (by omega)]; exact vw_ov
    rw [y1, w32_id (by omega) (by omega)]
    refine h _ ((SeaFr.rf.up (by omega)).up (by omega)) ?_
    rw [vwU_ov, vwU_sd v0 v2]
    unfold goV
    rw [if_neg (by rw [← hb]; exact Int.not_le.mpr z), ← hb, Int.min_comm]
theorem best_b (V : Int → Int) (i : Int) : (0 ≤ best1 V i ∧ best1 V i < 4) ∧ (0 ≤ best2 V i ∧ best2 V i < 4) ∧ (0 ≤ bestV V i ∧ bestV V i < 4) := by
  have h1 : 0 ≤ best1 V i ∧ best1 V i < 4 := by unfold best1; split <;> omega
  have h2 : 0 ≤ best2 V i ∧ best2 V i < 4 := by unfold best2; split <;> omega
  refine ⟨h1, h2, ?_⟩
  unfold bestV
  split <;> omega
theorem c_mayGoOver {l : Launch} {g : GE} {d : Nat} {t : Tau} {σ : Mem} {Q : Post} {as : List TV} (h : spGo as t σ Q) : WPc l g 61 (d + 3) 0 0 as t σ Q := by
  obtain ⟨a, s, rfl, ⟨hs, hv⟩, ⟨b1, b2⟩, ⟨b3, b4⟩, h'⟩ := aRI_e h
  have h := fun σ' (f : SeaFr σ σ' a) v => h' σ' f f.2.2 v
  refine wg (by decide) (regJ_ok reg2_ok) tk_61 py_61 ml_61 30 (by simp [catT]) (fun N hN => ?_)
  simp [bl_61, hN _, x_iconst, x_ldc2_w, x_aconst_null, x_iload, x_lload, x_aload, x_istore, x_lstore, x_astore, x_iinc, x_iadd, x_isub, x_imul, x_idiv, x_irem, x_iand, x_ior, x_ixor, x_ishl, x_ishr, x_iushr, x_ineg, x_ladd, x_lsub, x_lmul, x_ldiv, x_lrem, x_lcmp, x_i2l, x_i2b, x_i2s, x_i2c, x_dup, x_pop, x_dup_x1, x_dup2, x_getfield, x_putfield, x_iaload, x_baload, x_saload, x_caload, x_daload, x_faload, x_laload, x_aaload, x_iastore, x_bastore, x_sastore, x_castore, x_lastore, x_aastore, x_arraylength, x_getstatic, x_goto, x_goto_w, x_ifCond, x_if_icmp, x_ifnull, x_ifnonnull, x_lookupswitch, x_invokevirtual, x_invokestatic, x_invokedynamic, x_ireturn, x_freturn, x_dreturn, x_lreturn, x_areturn, x_return_, pI_c, pL_c, pR_c, pV_i, pV_r, gI_c, gL_c, gR_c, pN_z, pN_s, lget_c, lins_z, lins_c, ldel_z, ldel_c, ldel2_z, ldel2_c, lset_i, lset_l, lset_r, lkeep_z, lkeep_c, largs_z, largs_c, cat_i, cat_l, cat_r, lkp_c, cnd_eq, cnd_ne, cnd_lt, cnd_ge, cnd_gt, cnd_le, swL_z, swL_c, rE_e, rOr_s, rOr_n, rlk_z, rlk_c, aR_c, aI_c, aII_c, aIII_c, aRI_c, aRII_c, aRIII_c, vJn, vJs, vlc]
  have hb := best_b (vwS σ a) s
  refine mgo_step hs hv (by omega) (by omega) ?_
  refine mgo_step hs hv (by omega) (by exact hb.1) ?_
  refine mgo_step hs hv (by omega) (by exact hb.2.1) ?_
  exact mgo_end hs hv (by exact hb.2.2) rfl b1 b2 b3 b4 h
/-- all PARTS become of a SIDE: the loop -/
def spHoists : Sp := fun as t σ Q => aRII as fun a s f => SeaPre t σ a s ∧ (0 ≤ f ∧ f < 4) ∧ ∀ σ', SeaFr σ σ' a → σ' a 0 = σ a 0 → vwS σ' a = yieldV (vwS σ a) s f → Q none t σ'
theorem hoi_loop {l : Launch} {g : GE} {d : Nat} {t : Tau} {σ : Mem} {Q : Post} {a s f : Int} {σ0 : Mem} (hs : SeaT t a) (hv : hsB σ0 a s) (hf : 0 ≤ f ∧ f < 4) (h : ∀ σ', SeaFr σ0 σ' a → vwS σ' a = yieldV (vwS σ0 a) s f → Q none t σ') :
    ∀ (n k : Nat) (σ : Mem), k + n = 4 → SeaFr σ0 σ a → vwS σ a = hoist4 (vwS σ0 a) s f k → Wp l g 58 (d + 2) 0 0 18 [(0, vR a), (1, vI s), (2, vI f), (3, vI k)] [] t σ Q := by
  have hs' := hs
  obtain ⟨o, f1, f2, f3, f4, f5, f6, t1, t2, t3, t4, t5, t6, l1, l2, l3, l4, l5, l6⟩ := hs
  obtain ⟨v0, v1, v2⟩ := hv
  obtain ⟨q0, q4⟩ := hf
  intro n
  induction n with
  | zero =>
    intro k σ hk hF hV
    obtain rfl : k = 4 := by omega
    refine wa (by decide) reg1_ok tk_58 30 (fun N hN => ?_)
    simp [bl_58, hN _, x_iconst, x_ldc2_w, x_aconst_null, x_iload, x_lload, x_aload, x_istore, x_lstore, x_astore, x_iinc, x_iadd, x_isub, x_imul, x_idiv, x_irem, x_iand, x_ior, x_ixor, x_ishl, x_ishr, x_iushr, x_ineg, x_ladd, x_lsub, x_lmul, x_ldiv, x_lrem, x_lcmp, x_i2l, x_i2b, x_i2s, x_i2c, x_dup, x_pop, x_dup_x1, x_dup2, x_getfield, x_putfield, x_iaload, x_baload, x_saload, x_caload, x_daload, x_faload, x_laload, x_aaload, x_iastore, x_bastore, x_sastore, x_castore, x_lastore, x_aastore, x_arraylength, x_getstatic, x_goto, x_goto_w, x_ifCond, x_if_icmp, x_ifnull, x_ifnonnull, x_lookupswitch, x_invokevirtual, x_invokestatic, x_invokedynamic, x_ireturn, x_freturn, x_dreturn, x_lreturn, x_areturn, x_return_, pI_c, pL_c, pR_c, pV_i, pV_r, gI_c, gL_c, gR_c, pN_z, pN_s, lget_c, lins_z, lins_c, ldel_z, ldel_c, ldel2_z, ldel2_c, lset_i, lset_l, lset_r, lkeep_z, lkeep_c, largs_z, largs_c, cat_i, cat_l, cat_r, lkp_c, cnd_eq, cnd_ne, cnd_lt, cnd_ge, cnd_gt, cnd_le, swL_z, swL_c, rE_e, rOr_s, rOr_n, rlk_z, rlk_c, aR_c, aI_c, aII_c, aIII_c, aRI_c, aRII_c, aRIII_c, vJn, vJs, vlc, o, f3, t3, l3, v0, v2]
    refine h _ (hF.up (by omega)) ?_
    rw [vwU_sd v0 v2, hV]
    rfl
  | succ n ih =>
    intro k σ hk hF hV
    have hk4 : k < 4 := by omega
    obtain ⟨e1, i0, i1⟩ := fidx (k := (k : Int)) v0 v2 (by omega) (by omega)
    have e2 := w32_succ (k := k) (by omega)
    have nk : ¬ (4 : Int) ≤ k := by omega
    refine wa (by decide) reg1_ok tk_58 30 (fun N hN => ?_)
    have ih' : ∀ x : Int, x = (if (k : Int) = f then 12 else 0) → Wp l g 58 (d + 2) 0 0 18 [(0, vR a), (1, vI s), (2, vI f), (3, vI (k + 1 : Nat))] [] t (up σ (a + 6) (4 * s + k) x) Q := fun x hx => by
      refine ih (k + 1) _ (by omega) (hF.up (by omega)) ?_
      rw [vwU_fl i0 i1, hV, hx, show 12 + (4 * s + (k : Int)) = 12 + 4 * s + k by omega]
      rfl
    simp [bl_58, hN _, x_iconst, x_ldc2_w, x_aconst_null, x_iload, x_lload, x_aload, x_istore, x_lstore, x_astore, x_iinc, x_iadd, x_isub, x_imul, x_idiv, x_irem, x_iand, x_ior, x_ixor, x_ishl, x_ishr, x_iushr, x_ineg, x_ladd, x_lsub, x_lmul, x_ldiv, x_lrem, x_lcmp, x_i2l, x_i2b, x_i2s, x_i2c, x_dup, x_pop, x_dup_x1, x_dup2, x_getfield, x_putfield, x_iaload, x_baload, x_saload, x_caload, x_daload, x_faload, x_laload, x_aaload, x_iastore, x_bastore, x_sastore, x_castore, x_lastore, x_aastore, x_arraylength, x_getstatic, x_goto, x_goto_w, x_ifCond, x_if_icmp, x_ifnull, x_ifnonnull, x_lookupswitch, x_invokevirtual, x_invokestatic, x_invokedynamic, x_ireturn, x_freturn, x_dreturn, x_lreturn, x_areturn, x_return_, pI_c, pL_c, pR_c, pV_i, pV_r, gI_c, gL_c, gR_c, pN_z, pN_s, lget_c, lins_z, lins_c, ldel_z, ldel_c, ldel2_z, ldel2_c, lset_i, lset_l, lset_r, lkeep_z, lkeep_c, largs_z, largs_c, cat_i, cat_l, cat_r, lkp_c, cnd_eq, cnd_ne, cnd_lt, cnd_ge, cnd_gt, cnd_le, swL_z, swL_c, rE_e, rOr_s, rOr_n, rlk_z, rlk_c, aR_c, aI_c, aII_c, aIII_c, aRI_c, aRII_c, aRIII_c, vJn, vJs, vlc, o, f6, t6, l6, e1, e2, i0, i1]
    refine ⟨fun z => absurd z nk, fun _ => ⟨fun z => ?_, fun z => ?_⟩⟩
    · exact ih' 0 (by rw [if_neg z])
    · exact ih' 12 (by rw [if_pos z])
theorem c_hoists {l : Launch} {g : GE} {d : Nat} {t : Tau} {σ : Mem} {Q : Post} {as : List TV} (h : spHoists as t σ Q) : WPc l g 58 (d + 2) 0 0 as t σ Q := by
  obtain ⟨a, s, f, rfl, ⟨hs, hv⟩, hf, h'⟩ := aRII_e h
  have h := fun σ' (f : SeaFr σ σ' a) v => h' σ' f f.2.2 v
  have hs' := hs
  obtain ⟨o, f1, f2, f3, f4, f5, f6, t1, t2, t3, t4, t5, t6, l1, l2, l3, l4, l5, l6⟩ := hs
  obtain ⟨v0, v1, v2⟩ := hv
  obtain ⟨q0, q4⟩ := hf
  refine wg (by decide) reg1_ok tk_58 py_58 ml_58 30 (by simp [catT]) (fun N hN => ?_)
  have K := hoi_loop (l := l) (g := g) (d := d) (σ := σ) hs' ⟨v0, v1, v2⟩ ⟨q0, q4⟩ h 4 0 σ rfl SeaFr.rf rfl
  simp [bl_58, hN _, x_iconst, x_ldc2_w, x_aconst_null, x_iload, x_lload, x_aload, x_istore, x_lstore, x_astore, x_iinc, x_iadd, x_isub, x_imul, x_idiv, x_irem, x_iand, x_ior, x_ixor, x_ishl, x_ishr, x_iushr, x_ineg, x_ladd, x_lsub, x_lmul, x_ldiv, x_lrem, x_lcmp, x_i2l, x_i2b, x_i2s, x_i2c, x_dup, x_pop, x_dup_x1, x_dup2, x_getfield, x_putfield, x_iaload, x_baload, x_saload, x_caload, x_daload, x_faload, x_laload, x_aaload, x_iastore, x_bastore, x_sastore, x_castore, x_lastore, x_aastore, x_arraylength, x_getstatic, x_goto, x_goto_w, x_ifCond, x_if_icmp, x_ifnull, x_ifnonnull, x_lookupswitch, x_invokevirtual, x_invokestatic, x_invokedynamic, x_ireturn, x_freturn, x_dreturn, x_lreturn, x_areturn, x_return_, pI_c, pL_c, pR_c, pV_i, pV_r, gI_c, gL_c, gR_c, pN_z, pN_s, lget_c, lins_z, lins_c, ldel_z, ldel_c, ldel2_z, ldel2_c, lset_i, lset_l, lset_r, lkeep_z, lkeep_c, largs_z, largs_c, cat_i, cat_l, cat_r, lkp_c, cnd_eq, cnd_ne, cnd_lt, cnd_ge, cnd_gt, cnd_le, swL_z, swL_c, rE_e, rOr_s, rOr_n, rlk_z, rlk_c, aR_c, aI_c, aII_c, aIII_c, aRI_c, aRII_c, aRIII_c, vJn, vJs, vlc, spHas, spSide, hsB, o, hs', v0, v1, v2, q0, q4]
  exact ⟨fun z => by omega, K, fun z => by omega⟩
abbrev reg3 : Reg := [(60, spResews), (61, spGo), (58, spHoists), (59, spStrengthens)] ++ (regJ ++ reg2)
theorem reg3_ok {l : Launch} {g : GE} {d : Nat} : ∀ e as t σ Q, rE l g (d + 3) reg3 e as t σ Q → WPc l g e (d + 3) 0 0 as t σ Q :=
  rE_cons (fun _ _ _ _ h => c_resews (d := d + 1) h) (rE_cons (fun _ _ _ _ h => c_mayGoOver h) (rE_cons (fun _ _ _ _ h => c_hoists (d := d + 1) h) (rE_cons (fun _ _ _ _ h => c_strengthens (d := d + 1) h) (regJ_ok (reg2_ok (d := d + 1))))))
