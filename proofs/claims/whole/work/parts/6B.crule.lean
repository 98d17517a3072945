/-! StruckColours$Rule: how it reads: its small parts -/
theorem ich_id0 {x : Int} (h0 : 0 ≤ x) (h1 : x < 65536) : (Int32.ofInt x).toUInt32.toUInt16.toUInt32.toInt32.toInt = x := by
  have e : ∃ n : Nat, n < 65536 ∧ x = n := ⟨x.toNat, by omega, by omega⟩
  obtain ⟨n, hn, rfl⟩ := e
  have e1 : (Int32.ofInt (n : Int)).toUInt32 = UInt32.ofNat n := by
    show (Int32.ofInt (Int.ofNat n)).toUInt32 = _
    rfl
  have e2 : (UInt32.ofNat n).toUInt16.toUInt32 = UInt32.ofNat n := by
    apply UInt32.toNat_inj.mp
    rw [UInt16.toNat_toUInt32, UInt32.toNat_toUInt16]
    have e3 : (UInt32.ofNat n).toNat = n := Nat.mod_eq_of_lt (show n < 4294967296 by omega)
    rw [e3]
    exact Nat.mod_eq_of_lt hn
  rw [e1, e2]
  show (Int32.ofNat n).toInt = n
  exact Int32.toInt_ofNat_of_lt (by omega)
theorem ich_id {x : Int} (h0 : 0 ≤ x) (h1 : x < 65536) : ich x = x := by rw [ich_eq]; exact ich_id0 h0 h1
def upBnd : Sp := fun as t σ Q => aI as fun c => Q (some (vI (bnd c))) t σ
theorem u_binding {l : Launch} {g : GE} {d : Nat} {t : Tau} {σ : Mem} {Q : Post} {as : List TV} (h0 : upBnd as t σ Q) : WPc l g 30 (d + 1) 0 0 as t σ Q := by
  obtain ⟨c, rfl, h⟩ := aI_e h0
  clear h0
  unfold bnd at h
  refine wg (by decide) rE_nil tk_30 py_30 ml_30 30 (by simp [catT]) (fun N hN => ?_)
  simp [bl_30, hN _, x_iconst, x_ldc2_w, x_aconst_null, x_iload, x_lload, x_aload, x_istore, x_lstore, x_astore, x_iinc, x_iadd, x_isub, x_imul, x_idiv, x_irem, x_iand, x_ior, x_ixor, x_ishl, x_ishr, x_iushr, x_ineg, x_ladd, x_lsub, x_lmul, x_ldiv, x_lrem, x_lcmp, x_i2l, x_i2b, x_i2s, x_i2c, x_dup, x_pop, x_dup_x1, x_dup2, x_getfield, x_putfield, x_iaload, x_baload, x_saload, x_caload, x_daload, x_faload, x_laload, x_aaload, x_iastore, x_bastore, x_sastore, x_castore, x_lastore, x_aastore, x_arraylength, x_getstatic, x_goto, x_goto_w, x_ifCond, x_if_icmp, x_ifnull, x_ifnonnull, x_lookupswitch, x_invokevirtual, x_invokestatic, x_invokedynamic, x_ireturn, x_freturn, x_dreturn, x_lreturn, x_areturn, x_return_, pI_c, pL_c, pR_c, pV_i, pV_r, gI_c, gL_c, gR_c, pN_z, pN_s, lget_c, lins_z, lins_c, ldel_z, ldel_c, ldel2_z, ldel2_c, lset_i, lset_l, lset_r, lkeep_z, lkeep_c, largs_z, largs_c, cat_i, cat_l, cat_r, lkp_c, cnd_eq, cnd_ne, cnd_lt, cnd_ge, cnd_gt, cnd_le, swL_z, swL_c, rE_e, rOr_s, rOr_n, rlk_z, rlk_c, aR_c, aI_c, aII_c, aIII_c, aRI_c, aRII_c, aRIII_c, vJn, vJs, vlc, aRR_c, aRRI_c, aRRII_c, aRRIII_c, aRIIII_c, aRL_c, aRLL_c, aLL_c, aRRRI_c, aIL_c, aIIII_c, aRRIIII_c, aIRII_c, aIR_c, aLI_c, aRIR_c, aRIIR_c]
  grind
def upEmits : Sp := fun as t σ Q => aRI as fun r v => RulT t r ∧ (0 ≤ σ r 3 ∧ σ r 3 < 40) ∧ Q none t (up (up σ (r + 1) (σ r 3) v) r 3 (σ r 3 + 1))
theorem u_emits {l : Launch} {g : GE} {d : Nat} {t : Tau} {σ : Mem} {Q : Post} {as : List TV} (h0 : upEmits as t σ Q) : WPc l g 31 (d + 1) 0 0 as t σ Q := by
  obtain ⟨r, v, rfl, ⟨o, ⟨f1, f2, f3⟩, ⟨t1, t2, t3⟩, l1, l2, l3⟩, ⟨h0', h1⟩, h⟩ := aRI_e h0
  clear h0
  have e1 : w32 (σ r 3 + 1) = σ r 3 + 1 := w32_id (by omega) (by omega)
  have a1 : isArr t (r + 1) := isArr_of t1 (by omega) l1 (by omega)
  have x1 : ¬ r + 1 < 0 := by have := t1.1; omega
  have n1 : r ≠ r + 1 := by omega
  refine wg (by decide) rE_nil tk_31 py_31 ml_31 30 (by simp [catT]) (fun N hN => ?_)
  simp [bl_31, hN _, x_iconst, x_ldc2_w, x_aconst_null, x_iload, x_lload, x_aload, x_istore, x_lstore, x_astore, x_iinc, x_iadd, x_isub, x_imul, x_idiv, x_irem, x_iand, x_ior, x_ixor, x_ishl, x_ishr, x_iushr, x_ineg, x_ladd, x_lsub, x_lmul, x_ldiv, x_lrem, x_lcmp, x_i2l, x_i2b, x_i2s, x_i2c, x_dup, x_pop, x_dup_x1, x_dup2, x_getfield, x_putfield, x_iaload, x_baload, x_saload, x_caload, x_daload, x_faload, x_laload, x_aaload, x_iastore, x_bastore, x_sastore, x_castore, x_lastore, x_aastore, x_arraylength, x_getstatic, x_goto, x_goto_w, x_ifCond, x_if_icmp, x_ifnull, x_ifnonnull, x_lookupswitch, x_invokevirtual, x_invokestatic, x_invokedynamic, x_ireturn, x_freturn, x_dreturn, x_lreturn, x_areturn, x_return_, pI_c, pL_c, pR_c, pV_i, pV_r, gI_c, gL_c, gR_c, pN_z, pN_s, lget_c, lins_z, lins_c, ldel_z, ldel_c, ldel2_z, ldel2_c, lset_i, lset_l, lset_r, lkeep_z, lkeep_c, largs_z, largs_c, cat_i, cat_l, cat_r, lkp_c, cnd_eq, cnd_ne, cnd_lt, cnd_ge, cnd_gt, cnd_le, swL_z, swL_c, rE_e, rOr_s, rOr_n, rlk_z, rlk_c, aR_c, aI_c, aII_c, aIII_c, aRI_c, aRII_c, aRIII_c, vJn, vJs, vlc, aRR_c, aRRI_c, aRRII_c, aRRIII_c, aRIIII_c, aRL_c, aRLL_c, aLL_c, aRRRI_c, aIL_c, aIIII_c, aRRIIII_c, aIRII_c, aIR_c, aLI_c, aRIR_c, aRIIR_c, o, f1, t1, l1, a1, x1, h0', h1, e1, Int.not_lt.mpr h0', Int.not_le.mpr h1, up_ap, n1]
  exact h
def upPuts : Sp := fun as t σ Q => aRI as fun r c => RulT t r ∧ (0 ≤ σ r 4 ∧ σ r 4 < 40) ∧ (0 ≤ c ∧ c < 65536) ∧ Q none t (up (up σ (r + 2) (σ r 4) c) r 4 (σ r 4 + 1))
theorem u_puts {l : Launch} {g : GE} {d : Nat} {t : Tau} {σ : Mem} {Q : Post} {as : List TV} (h0 : upPuts as t σ Q) : WPc l g 32 (d + 1) 0 0 as t σ Q := by
  obtain ⟨r, v, rfl, ⟨o, ⟨f1, f2, f3⟩, ⟨t1, t2, t3⟩, l1, l2, l3⟩, ⟨h0', h1⟩, ⟨c0, c1⟩, h⟩ := aRI_e h0
  clear h0
  have e1 : w32 (σ r 4 + 1) = σ r 4 + 1 := w32_id (by omega) (by omega)
  have a1 : isArr t (r + 2) := isArr_of t2 (by omega) l2 (by omega)
  have x1 : ¬ r + 2 < 0 := by have := t2.1; omega
  have n1 : r ≠ r + 2 := by omega
  have ec : ich v = v := ich_id c0 c1
  refine wg (by decide) rE_nil tk_32 py_32 ml_32 30 (by simp [catT]) (fun N hN => ?_)
  simp [bl_32, hN _, x_iconst, x_ldc2_w, x_aconst_null, x_iload, x_lload, x_aload, x_istore, x_lstore, x_astore, x_iinc, x_iadd, x_isub, x_imul, x_idiv, x_irem, x_iand, x_ior, x_ixor, x_ishl, x_ishr, x_iushr, x_ineg, x_ladd, x_lsub, x_lmul, x_ldiv, x_lrem, x_lcmp, x_i2l, x_i2b, x_i2s, x_i2c, x_dup, x_pop, x_dup_x1, x_dup2, x_getfield, x_putfield, x_iaload, x_baload, x_saload, x_caload, x_daload, x_faload, x_laload, x_aaload, x_iastore, x_bastore, x_sastore, x_castore, x_lastore, x_aastore, x_arraylength, x_getstatic, x_goto, x_goto_w, x_ifCond, x_if_icmp, x_ifnull, x_ifnonnull, x_lookupswitch, x_invokevirtual, x_invokestatic, x_invokedynamic, x_ireturn, x_freturn, x_dreturn, x_lreturn, x_areturn, x_return_, pI_c, pL_c, pR_c, pV_i, pV_r, gI_c, gL_c, gR_c, pN_z, pN_s, lget_c, lins_z, lins_c, ldel_z, ldel_c, ldel2_z, ldel2_c, lset_i, lset_l, lset_r, lkeep_z, lkeep_c, largs_z, largs_c, cat_i, cat_l, cat_r, lkp_c, cnd_eq, cnd_ne, cnd_lt, cnd_ge, cnd_gt, cnd_le, swL_z, swL_c, rE_e, rOr_s, rOr_n, rlk_z, rlk_c, aR_c, aI_c, aII_c, aIII_c, aRI_c, aRII_c, aRIII_c, vJn, vJs, vlc, aRR_c, aRRI_c, aRRII_c, aRRIII_c, aRIIII_c, aRL_c, aRLL_c, aLL_c, aRRRI_c, aIL_c, aIIII_c, aRRIIII_c, aIRII_c, aIR_c, aLI_c, aRIR_c, aRIIR_c, o, f2, t2, l2, a1, x1, h0', h1, e1, ec, Int.not_lt.mpr h0', Int.not_le.mpr h1, up_ap, n1]
  exact h
/-- the code is C, what waits is w, the latest first -/
def CW (σ : Mem) (r : Int) (C w : List Int) : Prop := (σ r 3 = C.length ∧ ∀ k : Nat, k < C.length → σ (r + 1) k = C.getD k 0) ∧ σ r 4 = w.length ∧ ∀ k : Nat, k < w.length → σ (r + 2) k = w.getD (w.length - 1 - k) 0
theorem getD_ap {C : List Int} {v : Int} {k : Nat} (h : k < (C ++ [v]).length) : (C ++ [v]).getD k 0 = if k = C.length then v else C.getD k 0 := by
  by_cases hk : k = C.length
  · subst hk; simp
  · have : k < C.length := by simp at h; omega
    rw [if_neg hk]
    simp [List.getElem?_append_left this]
theorem CW.em {σ : Mem} {r v : Int} {C w : List Int} (h : CW σ r C w) : CW (up (up σ (r + 1) (σ r 3) v) r 3 (σ r 3 + 1)) r (C ++ [v]) w := by
  obtain ⟨⟨h1, h2⟩, h3, h4⟩ := h
  refine ⟨⟨by simp [up]; omega, fun k hk => ?_⟩, ?_, fun k hk => ?_⟩
  · rw [getD_ap hk, up_ne (by omega), up_ap]
    by_cases z : k = C.length
    · rw [if_pos ⟨rfl, by omega⟩, if_pos z]
    · rw [if_neg (fun y => z (by omega)), if_neg z]
      exact h2 k (by simp at hk; omega)
  · rw [up_ap, if_neg (by omega), up_ne (by omega)]; exact h3
  · rw [up_ne (by omega), up_ne (by omega)]; exact h4 k hk
theorem CW.pu {σ : Mem} {r v : Int} {C w : List Int} (h : CW σ r C w) : CW (up (up σ (r + 2) (σ r 4) v) r 4 (σ r 4 + 1)) r C (v :: w) := by
  obtain ⟨⟨h1, h2⟩, h3, h4⟩ := h
  refine ⟨⟨?_, fun k hk => ?_⟩, by simp [up]; omega, fun k hk => ?_⟩
  · rw [up_ap, if_neg (by omega), up_ne (by omega)]; exact h1
  · rw [up_ne (by omega), up_ne (by omega)]; exact h2 k hk
  · rw [up_ne (by omega), up_ap]
    by_cases z : k = w.length
    · rw [if_pos ⟨rfl, by omega⟩]
      subst z
      simp
    · rw [if_neg (fun y => z (by omega)), h4 k (by simp at hk; omega)]
      have hk' : k < w.length := by simp at hk; omega
      rw [show (v :: w).length - 1 - k = (w.length - 1 - k) + 1 by simp; omega]
      rfl
theorem CW.po {σ : Mem} {r x : Int} {C w : List Int} (h : CW σ r C (x :: w)) : CW (up σ r 4 w.length) r C w := by
  obtain ⟨⟨h1, h2⟩, h3, h4⟩ := h
  refine ⟨⟨?_, fun k hk => ?_⟩, by simp [up], fun k hk => ?_⟩
  · rw [up_ap, if_neg (by omega)]; exact h1
  · rw [up_ne (by omega)]; exact h2 k hk
  · rw [up_ne (by omega), h4 k (by simp; omega), show (x :: w).length - 1 - k = (w.length - 1 - k) + 1 by simp; omega]
    rfl
theorem CW.tp {σ : Mem} {r x : Int} {C w : List Int} (h : CW σ r C (x :: w)) : σ (r + 2) w.length = x := by
  have := h.2.2 w.length (by simp)
  simpa using this
/-- what reading leaves as it was -/
def RuF (σ σ' : Mem) (r : Int) : Prop := (∀ o, o ≠ r → o ≠ r + 1 → o ≠ r + 2 → σ' o = σ o) ∧ ∀ j, j ≠ 3 → j ≠ 4 → σ' r j = σ r j
theorem RuF.rf {σ : Mem} {r : Int} : RuF σ σ r := ⟨fun _ _ _ _ => rfl, fun _ _ _ => rfl⟩
theorem RuF.tr {σ σ' σ'' : Mem} {r : Int} (h : RuF σ σ' r) (h' : RuF σ' σ'' r) : RuF σ σ'' r := ⟨fun o a b c => (h'.1 o a b c).trans (h.1 o a b c), fun j a b => (h'.2 j a b).trans (h.2 j a b)⟩
theorem RuF.em {σ : Mem} {r v j x : Int} : RuF σ (up (up σ (r + 1) j v) r 3 x) r := ⟨fun o a b c => by rw [up_ne a, up_ne b], fun j a b => by rw [up_ap, if_neg (fun z => a z.2), up_ne (by omega)]⟩
theorem RuF.pu {σ : Mem} {r v j x : Int} : RuF σ (up (up σ (r + 2) j v) r 4 x) r := ⟨fun o a b c => by rw [up_ne a, up_ne c], fun j a b => by rw [up_ap, if_neg (fun z => b z.2), up_ne (by omega)]⟩
theorem RuF.po {σ : Mem} {r x : Int} : RuF σ (up σ r 4 x) r := ⟨fun o a b c => by rw [up_ne a], fun j a b => by rw [up_ap, if_neg (fun z => b z.2)]⟩
def upJoins : Sp := fun as t σ Q => aRI as fun r b => RulT t r ∧ ∃ C w, CW σ r C w ∧ C.length + w.length ≤ 40 ∧ (∀ x ∈ w, 0 ≤ x ∧ x < 256) ∧ ∀ σ', RuF σ σ' r → CW σ' r (jn b w C).2 (jn b w C).1 → Q none t σ'
theorem rgRj_ok {l : Launch} {g : GE} {d : Nat} : ∀ e as t σ Q, rE l g (d + 1) [(30, upBnd), (31, upEmits)] e as t σ Q → WPc l g e (d + 1) 0 0 as t σ Q := rE_cons (fun _ _ _ _ h => u_binding h) (rE_cons (fun _ _ _ _ h => u_emits h) rE_nil)
theorem u_joins {l : Launch} {g : GE} {d : Nat} {t : Tau} {σ : Mem} {Q : Post} {as : List TV} (h0 : upJoins as t σ Q) : WPc l g 33 (d + 2) 0 0 as t σ Q := by
  obtain ⟨r, b, rfl, hr, C, w, hC, hn, hw, h⟩ := aRI_e h0
  clear h0
  have hr0 := hr
  obtain ⟨o, ⟨f1, f2, f3⟩, ⟨t1, t2, t3⟩, l1, l2, l3⟩ := hr
  have a1 : isArr t (r + 2) := isArr_of t2 (by omega) l2 (by omega)
  have x1 : ¬ r + 2 < 0 := by have := t2.1; omega
  have K : ∀ (w C : List Int) (σ' : Mem), RuF σ σ' r → CW σ' r C w → C.length + w.length ≤ 40 → (∀ x ∈ w, 0 ≤ x ∧ x < 256) → (∀ σ'', RuF σ σ'' r → CW σ'' r (jn b w C).2 (jn b w C).1 → Q none t σ'') → Wp l g 33 (d + 2) 0 0 7 [(0, vR r), (1, vI b), (2, vI ((w.length : Int) - 1))] [] t σ' Q := by
    intro w
    induction w with
    | nil =>
      intro C σ' hf hC _ _ h
      refine wa (by decide) rgRj_ok ts_33 30 (fun N hN => ?_)
      simp [bs_33, hN _, x_iconst, x_ldc2_w, x_aconst_null, x_iload, x_lload, x_aload, x_istore, x_lstore, x_astore, x_iinc, x_iadd, x_isub, x_imul, x_idiv, x_irem, x_iand, x_ior, x_ixor, x_ishl, x_ishr, x_iushr, x_ineg, x_ladd, x_lsub, x_lmul, x_ldiv, x_lrem, x_lcmp, x_i2l, x_i2b, x_i2s, x_i2c, x_dup, x_pop, x_dup_x1, x_dup2, x_getfield, x_putfield, x_iaload, x_baload, x_saload, x_caload, x_daload, x_faload, x_laload, x_aaload, x_iastore, x_bastore, x_sastore, x_castore, x_lastore, x_aastore, x_arraylength, x_getstatic, x_goto, x_goto_w, x_ifCond, x_if_icmp, x_ifnull, x_ifnonnull, x_lookupswitch, x_invokevirtual, x_invokestatic, x_invokedynamic, x_ireturn, x_freturn, x_dreturn, x_lreturn, x_areturn, x_return_, pI_c, pL_c, pR_c, pV_i, pV_r, gI_c, gL_c, gR_c, pN_z, pN_s, lget_c, lins_z, lins_c, ldel_z, ldel_c, ldel2_z, ldel2_c, lset_i, lset_l, lset_r, lkeep_z, lkeep_c, largs_z, largs_c, cat_i, cat_l, cat_r, lkp_c, cnd_eq, cnd_ne, cnd_lt, cnd_ge, cnd_gt, cnd_le, swL_z, swL_c, rE_e, rOr_s, rOr_n, rlk_z, rlk_c, aR_c, aI_c, aII_c, aIII_c, aRI_c, aRII_c, aRIII_c, vJn, vJs, vlc, aRR_c, aRRI_c, aRRII_c, aRRIII_c, aRIIII_c, aRL_c, aRLL_c, aLL_c, aRRRI_c, aIL_c, aIIII_c, aRRIIII_c, aIRII_c, aIR_c, aLI_c, aRIR_c, aRIIR_c]
      exact h σ' hf hC
    | cons x w ih =>
      intro C σ' hf hC hn hw h
      have hl : ((x :: w).length : Int) - 1 = (w.length : Int) := by simp
      rw [hl]
      have hx := hw x (List.mem_cons_self ..)
      have n1 : (w.length : Int) < 40 := by simp at hn; omega
      have n1n : w.length < 40 := by simp at hn; omega
      have n2 : ¬ (40 : Int) ≤ (w.length : Int) := by omega
      have n2n : ¬ 40 ≤ w.length := by omega
      have n3 : ¬ (w.length : Int) < 0 := by omega
      have tp := hC.tp
      have c1 : σ' r 3 = C.length := hC.1.1
      have c2 : (C.length : Int) < 40 := by simp at hn; omega
      have c2n : C.length < 40 := by simp at hn; omega
      have e1 : w32 (1000 + x) = 1000 + x := w32_id (by omega) (by omega)
      have e2 : w32 ((w.length : Int) + -1) = (w.length : Int) - 1 := by rw [w32_id (by omega) (by omega)]; omega
      have e3 : w32 ((w.length : Int) - 1) = (w.length : Int) - 1 := w32_id (by omega) (by omega)
      refine wa (by decide) rgRj_ok ts_33 30 (fun N hN => ?_)
      by_cases hb : b ≤ bnd x
      · rw [jn_o1 hb] at h
        have C1 := (hC.em (v := 1000 + x)).po
        have K := ih (C ++ [1000 + x]) _ (hf.tr (RuF.em.tr RuF.po)) C1 (by simp at hn ⊢; omega) (fun y hy => hw y (List.mem_cons_of_mem _ hy)) h
        rw [c1] at K
        simp [bs_33, sg_33_7_1, hN _, x_iconst, x_ldc2_w, x_aconst_null, x_iload, x_lload, x_aload, x_istore, x_lstore, x_astore, x_iinc, x_iadd, x_isub, x_imul, x_idiv, x_irem, x_iand, x_ior, x_ixor, x_ishl, x_ishr, x_iushr, x_ineg, x_ladd, x_lsub, x_lmul, x_ldiv, x_lrem, x_lcmp, x_i2l, x_i2b, x_i2s, x_i2c, x_dup, x_pop, x_dup_x1, x_dup2, x_getfield, x_putfield, x_iaload, x_baload, x_saload, x_caload, x_daload, x_faload, x_laload, x_aaload, x_iastore, x_bastore, x_sastore, x_castore, x_lastore, x_aastore, x_arraylength, x_getstatic, x_goto, x_goto_w, x_ifCond, x_if_icmp, x_ifnull, x_ifnonnull, x_lookupswitch, x_invokevirtual, x_invokestatic, x_invokedynamic, x_ireturn, x_freturn, x_dreturn, x_lreturn, x_areturn, x_return_, pI_c, pL_c, pR_c, pV_i, pV_r, gI_c, gL_c, gR_c, pN_z, pN_s, lget_c, lins_z, lins_c, ldel_z, ldel_c, ldel2_z, ldel2_c, lset_i, lset_l, lset_r, lkeep_z, lkeep_c, largs_z, largs_c, cat_i, cat_l, cat_r, lkp_c, cnd_eq, cnd_ne, cnd_lt, cnd_ge, cnd_gt, cnd_le, swL_z, swL_c, rE_e, rOr_s, rOr_n, rlk_z, rlk_c, aR_c, aI_c, aII_c, aIII_c, aRI_c, aRII_c, aRIII_c, vJn, vJs, vlc, aRR_c, aRRI_c, aRRII_c, aRRIII_c, aRIIII_c, aRL_c, aRLL_c, aLL_c, aRRRI_c, aIL_c, aIIII_c, aRRIIII_c, aIRII_c, aIR_c, aLI_c, aRIR_c, aRIIR_c, o, f2, t2, l2, a1, x1, n1, n1n, n2, n2n, n3, tp, upBnd, hb, Int.not_lt.mpr hb, upEmits, hr0, c1, c2, c2n, e1, e2, e3]
        exact K
      · rw [jn_o0 hb] at h
        have hb' : bnd x < b := by omega
        simp [bs_33, sg_33_7_1, hN _, x_iconst, x_ldc2_w, x_aconst_null, x_iload, x_lload, x_aload, x_istore, x_lstore, x_astore, x_iinc, x_iadd, x_isub, x_imul, x_idiv, x_irem, x_iand, x_ior, x_ixor, x_ishl, x_ishr, x_iushr, x_ineg, x_ladd, x_lsub, x_lmul, x_ldiv, x_lrem, x_lcmp, x_i2l, x_i2b, x_i2s, x_i2c, x_dup, x_pop, x_dup_x1, x_dup2, x_getfield, x_putfield, x_iaload, x_baload, x_saload, x_caload, x_daload, x_faload, x_laload, x_aaload, x_iastore, x_bastore, x_sastore, x_castore, x_lastore, x_aastore, x_arraylength, x_getstatic, x_goto, x_goto_w, x_ifCond, x_if_icmp, x_ifnull, x_ifnonnull, x_lookupswitch, x_invokevirtual, x_invokestatic, x_invokedynamic, x_ireturn, x_freturn, x_dreturn, x_lreturn, x_areturn, x_return_, pI_c, pL_c, pR_c, pV_i, pV_r, gI_c, gL_c, gR_c, pN_z, pN_s, lget_c, lins_z, lins_c, ldel_z, ldel_c, ldel2_z, ldel2_c, lset_i, lset_l, lset_r, lkeep_z, lkeep_c, largs_z, largs_c, cat_i, cat_l, cat_r, lkp_c, cnd_eq, cnd_ne, cnd_lt, cnd_ge, cnd_gt, cnd_le, swL_z, swL_c, rE_e, rOr_s, rOr_n, rlk_z, rlk_c, aR_c, aI_c, aII_c, aIII_c, aRI_c, aRII_c, aRIII_c, vJn, vJs, vlc, aRR_c, aRRI_c, aRRII_c, aRRIII_c, aRIIII_c, aRL_c, aRLL_c, aLL_c, aRRRI_c, aIL_c, aIIII_c, aRRIIII_c, aIRII_c, aIR_c, aLI_c, aRIR_c, aRIIR_c, o, f2, t2, l2, a1, x1, n1, n1n, n2, n2n, n3, tp, upBnd, hb, hb']
        exact h σ' hf hC
  have K := K w C σ RuF.rf hC hn hw h
  have e4 : σ r 4 = w.length := hC.2.1
  have e5 : w32 ((w.length : Int) - 1) = (w.length : Int) - 1 := w32_id (by omega) (by omega)
  refine wg (by decide) rgRj_ok ts_33 py_33 ml_33 30 (by simp [catT]) (fun N hN => ?_)
  simp [bs_33, hN _, x_iconst, x_ldc2_w, x_aconst_null, x_iload, x_lload, x_aload, x_istore, x_lstore, x_astore, x_iinc, x_iadd, x_isub, x_imul, x_idiv, x_irem, x_iand, x_ior, x_ixor, x_ishl, x_ishr, x_iushr, x_ineg, x_ladd, x_lsub, x_lmul, x_ldiv, x_lrem, x_lcmp, x_i2l, x_i2b, x_i2s, x_i2c, x_dup, x_pop, x_dup_x1, x_dup2, x_getfield, x_putfield, x_iaload, x_baload, x_saload, x_caload, x_daload, x_faload, x_laload, x_aaload, x_iastore, x_bastore, x_sastore, x_castore, x_lastore, x_aastore, x_arraylength, x_getstatic, x_goto, x_goto_w, x_ifCond, x_if_icmp, x_ifnull, x_ifnonnull, x_lookupswitch, x_invokevirtual, x_invokestatic, x_invokedynamic, x_ireturn, x_freturn, x_dreturn, x_lreturn, x_areturn, x_return_, pI_c, pL_c, pR_c, pV_i, pV_r, gI_c, gL_c, gR_c, pN_z, pN_s, lget_c, lins_z, lins_c, ldel_z, ldel_c, ldel2_z, ldel2_c, lset_i, lset_l, lset_r, lkeep_z, lkeep_c, largs_z, largs_c, cat_i, cat_l, cat_r, lkp_c, cnd_eq, cnd_ne, cnd_lt, cnd_ge, cnd_gt, cnd_le, swL_z, swL_c, rE_e, rOr_s, rOr_n, rlk_z, rlk_c, aR_c, aI_c, aII_c, aIII_c, aRI_c, aRII_c, aRIII_c, vJn, vJs, vlc, aRR_c, aRRI_c, aRRII_c, aRRIII_c, aRIIII_c, aRL_c, aRLL_c, aLL_c, aRRRI_c, aIL_c, aIIII_c, aRRIIII_c, aIRII_c, aIR_c, aLI_c, aRIR_c, aRIIR_c, o, e4, e5]
  exact K
