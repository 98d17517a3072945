/-! FORCE by a rule that was read; who wins; a fight -/
def ltI (c : Int) : Int := if c = 115 then 0 else if c = 111 then 1 else if c = 101 then 2 else if c = 119 then 3 else if c = 108 then 4 else 5
def ltB (c : Int) : Int := if c = 115 ∨ c = 111 ∨ c = 101 ∨ c = 119 ∨ c = 108 ∨ c = 110 then 1 else 0
noncomputable def joinV (c a b : Int) : Int := if c = 60 then (if a < b then 1 else 0) else if c = 62 then (if b < a then 1 else 0) else if c = 61 then (if a = b then 1 else 0) else if c = 43 then w32 (a + b) else if c = 45 then w32 (a - b) else if c = 42 then w32 (a * b) else if b = 0 then 0 else w32 (a.tdiv b)
noncomputable def envV (V : Int → Int) (i j : Int) : Int → Int := fun k => if k = 0 then V i else if k = 1 then ownV V i else if k = 2 then partV V i (V (6 + j)) else if k = 3 then V (36 + i) else if k = 4 then V (42 + i) else w32 ((V 48).tmod 7)
abbrev Stk : Type := Nat × (Int → Int)
def psh (v : Int) (m : Stk) : Stk := if m.1 < 40 then (m.1 + 1, upv m.2 m.1 v) else m
noncomputable def redu (c : Int) (m : Stk) : Stk := if m.1 < 1 then m else if c = 126 then (m.1, upv m.2 ((m.1 : Int) - 1) (w32 (-(m.2 ((m.1 : Int) - 1))))) else if m.1 < 2 then m else (m.1 - 1, upv m.2 ((m.1 : Int) - 2) (joinV c (m.2 ((m.1 : Int) - 2)) (m.2 ((m.1 : Int) - 1))))
noncomputable def stp (env : Int → Int) (p : Int) (m : Stk) : Stk := if p < 1000 then psh p m else if ltB (p - 1000) = 1 then psh (env (ltI (p - 1000))) m else redu (p - 1000) m
noncomputable def runC (code : Int → Int) (env : Int → Int) (m : Stk) (n : Nat) : Stk := fo (fun k m => stp env (code k) m) m n
theorem psh_h {v : Int} {m : Stk} (h : m.1 ≤ 40) : (psh v m).1 ≤ 40 := by unfold psh; split <;> simp_all; omega
theorem redu_h {c : Int} {m : Stk} (h : m.1 ≤ 40) : (redu c m).1 ≤ 40 := by
  unfold redu
  split
  · exact h
  split
  · exact h
  split
  · exact h
  · show m.1 - 1 ≤ 40; omega
theorem stp_h {env : Int → Int} {p : Int} {m : Stk} (h : m.1 ≤ 40) : (stp env p m).1 ≤ 40 := by
  unfold stp
  split
  · exact psh_h h
  split
  · exact psh_h h
  · exact redu_h h
theorem run_h {code env : Int → Int} {m : Stk} (h : m.1 ≤ 40) : ∀ n, (runC code env m n).1 ≤ 40
  | 0 => h
  | n + 1 => stp_h (run_h h n)
def upLet : Sp := fun as t σ Q => aI as fun c => Q (some (vI (ltB c))) t σ
theorem u_letter {l : Launch} {g : GE} {d : Nat} {t : Tau} {σ : Mem} {Q : Post} {as : List TV} (h : upLet as t σ Q) : WPc l g 29 (d + 1) 0 0 as t σ Q := by
  obtain ⟨c, rfl, h1⟩ := aI_e h
  unfold ltB at h1
  refine wg (by decide) rE_nil tk_29 py_29 ml_29 30 (by simp [catT]) (fun N hN => ?_)
  simp [bl_29, hN _, x_iconst, x_ldc2_w, x_aconst_null, x_iload, x_lload, x_aload, x_istore, x_lstore, x_astore, x_iinc, x_iadd, x_isub, x_imul, x_idiv, x_irem, x_iand, x_ior, x_ixor, x_ishl, x_ishr, x_iushr, x_ineg, x_ladd, x_lsub, x_lmul, x_ldiv, x_lrem, x_lcmp, x_i2l, x_i2b, x_i2s, x_i2c, x_dup, x_pop, x_dup_x1, x_dup2, x_getfield, x_putfield, x_iaload, x_baload, x_saload, x_caload, x_daload, x_faload, x_laload, x_aaload, x_iastore, x_bastore, x_sastore, x_castore, x_lastore, x_aastore, x_arraylength, x_getstatic, x_goto, x_goto_w, x_ifCond, x_if_icmp, x_ifnull, x_ifnonnull, x_lookupswitch, x_invokevirtual, x_invokestatic, x_invokedynamic, x_ireturn, x_freturn, x_dreturn, x_lreturn, x_areturn, x_return_, pI_c, pL_c, pR_c, pV_i, pV_r, gI_c, gL_c, gR_c, pN_z, pN_s, lget_c, lins_z, lins_c, ldel_z, ldel_c, ldel2_z, ldel2_c, lset_i, lset_l, lset_r, lkeep_z, lkeep_c, largs_z, largs_c, cat_i, cat_l, cat_r, lkp_c, cnd_eq, cnd_ne, cnd_lt, cnd_ge, cnd_gt, cnd_le, swL_z, swL_c, rE_e, rOr_s, rOr_n, rlk_z, rlk_c, aR_c, aI_c, aII_c, aIII_c, aRI_c, aRII_c, aRIII_c, vJn, vJs, vlc, aRR_c, aRRI_c, aRRII_c, aRRIII_c, aRIIII_c, aRL_c, aRLL_c, aLL_c, aRRRI_c, aIL_c, aIIII_c, aRRIIII_c, aIRII_c, aIR_c, aLI_c, aRIR_c, aRIIR_c]
  grind
def upJoined : Sp := fun as t σ Q => aIII as fun c a b => Q (some (vI (joinV c a b))) t σ
theorem u_joined {l : Launch} {g : GE} {d : Nat} {t : Tau} {σ : Mem} {Q : Post} {as : List TV} (h : upJoined as t σ Q) : WPc l g 37 (d + 1) 0 0 as t σ Q := by
  obtain ⟨c, a, b, rfl, h1⟩ := aIII_e h
  unfold joinV at h1
  refine wg (by decide) rE_nil tk_37 py_37 ml_37 30 (by simp [catT]) (fun N hN => ?_)
  simp [bl_37, hN _, x_iconst, x_ldc2_w, x_aconst_null, x_iload, x_lload, x_aload, x_istore, x_lstore, x_astore, x_iinc, x_iadd, x_isub, x_imul, x_idiv, x_irem, x_iand, x_ior, x_ixor, x_ishl, x_ishr, x_iushr, x_ineg, x_ladd, x_lsub, x_lmul, x_ldiv, x_lrem, x_lcmp, x_i2l, x_i2b, x_i2s, x_i2c, x_dup, x_pop, x_dup_x1, x_dup2, x_getfield, x_putfield, x_iaload, x_baload, x_saload, x_caload, x_daload, x_faload, x_laload, x_aaload, x_iastore, x_bastore, x_sastore, x_castore, x_lastore, x_aastore, x_arraylength, x_getstatic, x_goto, x_goto_w, x_ifCond, x_if_icmp, x_ifnull, x_ifnonnull, x_lookupswitch, x_invokevirtual, x_invokestatic, x_invokedynamic, x_ireturn, x_freturn, x_dreturn, x_lreturn, x_areturn, x_return_, pI_c, pL_c, pR_c, pV_i, pV_r, gI_c, gL_c, gR_c, pN_z, pN_s, lget_c, lins_z, lins_c, ldel_z, ldel_c, ldel2_z, ldel2_c, lset_i, lset_l, lset_r, lkeep_z, lkeep_c, largs_z, largs_c, cat_i, cat_l, cat_r, lkp_c, cnd_eq, cnd_ne, cnd_lt, cnd_ge, cnd_gt, cnd_le, swL_z, swL_c, rE_e, rOr_s, rOr_n, rlk_z, rlk_c, aR_c, aI_c, aII_c, aIII_c, aRI_c, aRII_c, aRIII_c, vJn, vJs, vlc, aRR_c, aRRI_c, aRRII_c, aRRIII_c, aRIIII_c, aRL_c, aRLL_c, aLL_c, aRRRI_c, aIL_c, aIIII_c, aRRIIII_c, aIRII_c, aIR_c, aLI_c, aRIR_c, aRIIR_c]
  grind (splits := 30)
def upStacks : Sp := fun as t σ Q => aRII as fun r h v => RulT t r ∧ (0 ≤ h ∧ h ≤ 40) ∧ Q (some (vI (if h < 40 then h + 1 else h))) t (if h < 40 then up σ (r + 3) h v else σ)
theorem u_stacks {l : Launch} {g : GE} {d : Nat} {t : Tau} {σ : Mem} {Q : Post} {as : List TV} (h : upStacks as t σ Q) : WPc l g 35 (d + 1) 0 0 as t σ Q := by
  obtain ⟨r, k, v, rfl, ⟨o, ⟨f1, f2, f3⟩, ⟨t1, t2, t3⟩, l1, l2, l3⟩, ⟨h0, h1⟩, h⟩ := aRII_e h
  have e1 : w32 (k + 1) = k + 1 := w32_id (by omega) (by omega)
  have a3 : isArr t (r + 3) := isArr_of t3 (by omega) l3 (by omega)
  have x3 : ¬ r + 3 < 0 := by have := t3.1; omega
  refine wg (by decide) rE_nil tk_35 py_35 ml_35 30 (by simp [catT]) (fun N hN => ?_)
  simp [bl_35, hN _, x_iconst, x_ldc2_w, x_aconst_null, x_iload, x_lload, x_aload, x_istore, x_lstore, x_astore, x_iinc, x_iadd, x_isub, x_imul, x_idiv, x_irem, x_iand, x_ior, x_ixor, x_ishl, x_ishr, x_iushr, x_ineg, x_ladd, x_lsub, x_lmul, x_ldiv, x_lrem, x_lcmp, x_i2l, x_i2b, x_i2s, x_i2c, x_dup, x_pop, x_dup_x1, x_dup2, x_getfield, x_putfield, x_iaload, x_baload, x_saload, x_caload, x_daload, x_faload, x_laload, x_aaload, x_iastore, x_bastore, x_sastore, x_castore, x_lastore, x_aastore, x_arraylength, x_getstatic, x_goto, x_goto_w, x_ifCond, x_if_icmp, x_ifnull, x_ifnonnull, x_lookupswitch, x_invokevirtual, x_invokestatic, x_invokedynamic, x_ireturn, x_freturn, x_dreturn, x_lreturn, x_areturn, x_return_, pI_c, pL_c, pR_c, pV_i, pV_r, gI_c, gL_c, gR_c, pN_z, pN_s, lget_c, lins_z, lins_c, ldel_z, ldel_c, ldel2_z, ldel2_c, lset_i, lset_l, lset_r, lkeep_z, lkeep_c, largs_z, largs_c, cat_i, cat_l, cat_r, lkp_c, cnd_eq, cnd_ne, cnd_lt, cnd_ge, cnd_gt, cnd_le, swL_z, swL_c, rE_e, rOr_s, rOr_n, rlk_z, rlk_c, aR_c, aI_c, aII_c, aIII_c, aRI_c, aRII_c, aRIII_c, vJn, vJs, vlc, aRR_c, aRRI_c, aRRII_c, aRRIII_c, aRIIII_c, aRL_c, aRLL_c, aLL_c, aRRRI_c, aIL_c, aIIII_c, aRRIIII_c, aIRII_c, aIR_c, aLI_c, aRIR_c, aRIIR_c, o, f3, t3, l3, a3, x3, h0, e1]
  refine ⟨fun z => by omega, fun z => ?_, fun z => ?_⟩
  · rw [if_pos (by omega), if_pos (by omega)] at h; exact ⟨by omega, h⟩
  · rw [if_neg (by omega), if_neg (by omega)] at h; exact h
theorem rgJ_ok {l : Launch} {g : GE} {d : Nat} : ∀ e as t σ Q, rE l g (d + 1) [(37, upJoined)] e as t σ Q → WPc l g e (d + 1) 0 0 as t σ Q := rE_cons (fun _ _ _ _ h => u_joined h) rE_nil
def upReduces : Sp := fun as t σ Q => aRII as fun r h c => ∃ m : Nat, h = m ∧ m ≤ 40 ∧ RulT t r ∧ ∀ σ', (∀ o, o ≠ r + 3 → σ' o = σ o) → σ' (r + 3) = (redu c (m, σ (r + 3))).2 → Q (some (vI (redu c (m, σ (r + 3))).1)) t σ'
theorem u_reduces {l : Launch} {g : GE} {d : Nat} {t : Tau} {σ : Mem} {Q : Post} {as : List TV} (h : upReduces as t σ Q) : WPc l g 36 (d + 2) 0 0 as t σ Q := by
  obtain ⟨r, k, c, rfl, m, rfl, hm, ⟨o, ⟨f1, f2, f3⟩, ⟨t1, t2, t3⟩, l1, l2, l3⟩, h⟩ := aRII_e h
  unfold redu at h
  have a3 : isArr t (r + 3) := isArr_of t3 (by omega) l3 (by omega)
  have x3 : ¬ r + 3 < 0 := by have := t3.1; omega
  refine wg (by decide) rgJ_ok tk_36 py_36 ml_36 30 (by simp [catT]) (fun N hN => ?_)
  simp [bl_36, hN _, x_iconst, x_ldc2_w, x_aconst_null, x_iload, x_lload, x_aload, x_istore, x_lstore, x_astore, x_iinc, x_iadd, x_isub, x_imul, x_idiv, x_irem, x_iand, x_ior, x_ixor, x_ishl, x_ishr, x_iushr, x_ineg, x_ladd, x_lsub, x_lmul, x_ldiv, x_lrem, x_lcmp, x_i2l, x_i2b, x_i2s, x_i2c, x_dup, x_pop, x_dup_x1, x_dup2, x_getfield, x_putfield, x_iaload, x_baload, x_saload, x_caload, x_daload, x_faload, x_laload, x_aaload, x_iastore, x_bastore, x_sastore, x_castore, x_lastore, x_aastore, x_arraylength, x_getstatic, x_goto, x_goto_w, x_ifCond, x_if_icmp, x_ifnull, x_ifnonnull, x_lookupswitch, x_invokevirtual, x_invokestatic, x_invokedynamic, x_ireturn, x_freturn, x_dreturn, x_lreturn, x_areturn, x_return_, pI_c, pL_c, pR_c, pV_i, pV_r, gI_c, gL_c, gR_c, pN_z, pN_s, lget_c, lins_z, lins_c, ldel_z, ldel_c, ldel2_z, ldel2_c, lset_i, lset_l, lset_r, lkeep_z, lkeep_c, largs_z, largs_c, cat_i, cat_l, cat_r, lkp_c, cnd_eq, cnd_ne, cnd_lt, cnd_ge, cnd_gt, cnd_le, swL_z, swL_c, rE_e, rOr_s, rOr_n, rlk_z, rlk_c, aR_c, aI_c, aII_c, aIII_c, aRI_c, aRII_c, aRIII_c, vJn, vJs, vlc, aRR_c, aRRI_c, aRRII_c, aRRIII_c, aRIIII_c, aRL_c, aRLL_c, aLL_c, aRRRI_c, aIL_c, aIIII_c, aRRIIII_c, aIRII_c, aIR_c, aLI_c, aRIR_c, aRIIR_c, upJoined, o, f3, t3, l3, a3, x3]
  refine ⟨fun z => ?_, fun z => ⟨fun y => ?_, fun y => ?_⟩⟩
  · rw [if_pos (show m < 1 by omega)] at h
    simpa using h σ (fun _ _ => rfl)
  · have e1 : w32 ((m : Int) - 1) = (m : Int) - 1 := w32_id (by omega) (by omega)
    have e2 : w32 ((m : Int) - 2) = (m : Int) - 2 := w32_id (by omega) (by omega)
    rw [if_neg (show ¬ m < 1 by omega)] at h
    rw [e1, e2]
    refine ⟨fun x => ⟨fun w => ⟨by omega, by omega, by omega, ?_⟩, fun w => ?_⟩, fun x => ⟨by omega, ?_⟩⟩
    rotate_left 2
    · rw [if_pos x] at h
      exact h _ (fun q hq => up_ne hq) up_r
    · rw [if_neg x, if_neg (show ¬ m < 2 by omega)] at h
      have := h _ (fun q hq => up_ne hq) up_r
      simp only at this
      rw [show ((m - 1 : Nat) : Int) = (m : Int) - 1 by omega] at this
      exact this
    · rw [if_neg x, if_pos (show m < 2 by omega)] at h
      simpa using h σ (fun _ _ => rfl)
  · omega
def upThing : Sp := fun as t σ Q => aIRII as fun c a i j => SeaOk t σ a ∧ (0 ≤ i ∧ i < nS σ a) ∧ (0 ≤ j ∧ j < nS σ a) ∧ Q (some (vI (envV (vwS σ a) i j (ltI c)))) t σ
theorem u_thing {l : Launch} {g : GE} {d : Nat} {t : Tau} {σ : Mem} {Q : Post} {as : List TV} (h : upThing as t σ Q) : WPc l g 38 (d + 3) 0 0 as t σ Q := by
  obtain ⟨c, a, i, j, rfl, hk, ⟨i0, i1⟩, ⟨j0, j1⟩, h⟩ := aIRII_e h
  have ha := (hk.2.2.2.1 i i0 i1).2.1
  have hb := (hk.2.2.2.1 j j0 j1).2.1
  have x1 : σ a 1 = vwS σ a 48 := vw_dy
  unfold ltI at h
  refine wg (by decide) regA_ok tk_38 py_38 ml_38 30 (by simp [catT]) (fun N hN => ?_)
  simp [bl_38, hN _, x_iconst, x_ldc2_w, x_aconst_null, x_iload, x_lload, x_aload, x_istore, x_lstore, x_astore, x_iinc, x_iadd, x_isub, x_imul, x_idiv, x_irem, x_iand, x_ior, x_ixor, x_ishl, x_ishr, x_iushr, x_ineg, x_ladd, x_lsub, x_lmul, x_ldiv, x_lrem, x_lcmp, x_i2l, x_i2b, x_i2s, x_i2c, x_dup, x_pop, x_dup_x1, x_dup2, x_getfield, x_putfield, x_iaload, x_baload, x_saload, x_caload, x_daload, x_faload, x_laload, x_aaload, x_iastore, x_bastore, x_sastore, x_castore, x_lastore, x_aastore, x_arraylength, x_getstatic, x_goto, x_goto_w, x_ifCond, x_if_icmp, x_ifnull, x_ifnonnull, x_lookupswitch, x_invokevirtual, x_invokestatic, x_invokedynamic, x_ireturn, x_freturn, x_dreturn, x_lreturn, x_areturn, x_return_, pI_c, pL_c, pR_c, pV_i, pV_r, gI_c, gL_c, gR_c, pN_z, pN_s, lget_c, lins_z, lins_c, ldel_z, ldel_c, ldel2_z, ldel2_c, lset_i, lset_l, lset_r, lkeep_z, lkeep_c, largs_z, largs_c, cat_i, cat_l, cat_r, lkp_c, cnd_eq, cnd_ne, cnd_lt, cnd_ge, cnd_gt, cnd_le, swL_z, swL_c, rE_e, rOr_s, rOr_n, rlk_z, rlk_c, aR_c, aI_c, aII_c, aIII_c, aRI_c, aRII_c, aRIII_c, vJn, vJs, vlc, aRR_c, aRRI_c, aRRII_c, aRRIII_c, aRIIII_c, aRL_c, aRLL_c, aLL_c, aRRRI_c, aIL_c, aIIII_c, aRRIIII_c, aIRII_c, aIR_c, aLI_c, aRIR_c, aRIIR_c, apOf, apParts, hk, hk.1.1, i0, i1, j0, j1, ha, hb, x1]
  refine ⟨?_, ?_⟩
  · rintro rfl; simpa [envV] using h
  refine fun c1 => ⟨?_, fun c2 => ⟨?_, fun c3 => ⟨?_, fun c4 => ⟨?_, fun c5 => ?_⟩⟩⟩⟩
  · rintro rfl; simpa [envV] using h
  · rintro rfl; simpa [envV] using h
  · rintro rfl; simpa [envV] using h
  · rintro rfl; simpa [envV] using h
  · simpa [envV, c1, c2, c3, c4, c5] using h
abbrev rgU : Reg := [(29, upLet), (35, upStacks), (36, upReduces), (38, upThing)]
theorem rgU_ok {l : Launch} {g : GE} {d : Nat} : ∀ e as t σ Q, rE l g (d + 3) rgU e as t σ Q → WPc l g e (d + 3) 0 0 as t σ Q :=
  rE_cons (fun _ _ _ _ h => u_letter h) (rE_cons (fun _ _ _ _ h => u_stacks h) (rE_cons (fun _ _ _ _ h => u_reduces h) (rE_cons (fun _ _ _ _ h => u_thing h) rE_nil)))
/-- the rule at r is F -/
def RuleIs (t : Tau) (σ : Mem) (r : Int) (F : (Int → Int) → Int) : Prop := RulT t r ∧ (0 ≤ σ r 3 ∧ σ r 3 ≤ 40) ∧ (∀ k : Int, 0 ≤ k → k < σ r 3 → 0 ≤ σ (r + 1) k ∧ σ (r + 1) k < 1256) ∧ ∀ env s0, (runC (σ (r + 1)) env (0, s0) (σ r 3).toNat).2 0 = F env
def upMeas : Sp := fun as t σ Q => aRRII as fun r a i j => (∃ F, RuleIs t σ r F ∧ a + 6 < r ∧ SeaOk t σ a ∧ (0 ≤ i ∧ i < nS σ a) ∧ (0 ≤ j ∧ j < nS σ a) ∧ ∀ σ', (∀ o, o ≠ r + 3 → σ' o = σ o) → Q (some (vI (F (envV (vwS σ a) i j)))) t σ')
theorem iu16_id {x : Int} (h0 : 0 ≤ x) (h1 : x < 65536) : iu16 x = x := by
  rw [iu16_eq]
  have e : ∃ n : Nat, n < 65536 ∧ x = n := ⟨x.toNat, by omega, by omega⟩
  obtain ⟨n, hn, rfl⟩ := e
  have e1 : (Int32.ofInt (n : Int)).toUInt32 = UInt32.ofNat n := by
    show (Int32.ofInt (Int.ofNat n)).toUInt32 = _
    rfl
  have e2 : UInt32.ofNat n % 65536 = UInt32.ofNat n := by
    apply UInt32.toNat_inj.mp
    rw [UInt32.toNat_mod, UInt32.toNat_ofNat]
    show n % 4294967296 % 65536 = n % 4294967296
    omega
  rw [e1, e2]
  show (Int32.ofNat n).toInt = n
  exact Int32.toInt_ofNat_of_lt (by omega)
theorem u_measures {l : Launch} {g : GE} {d : Nat} {t : Tau} {σ : Mem} {Q : Post} {as : List TV} (h : upMeas as t σ Q) : WPc l g 34 (d + 4) 0 0 as t σ Q := by
  obtain ⟨r, a, i, j, rfl, F, ⟨hR, ⟨n0, n1⟩, hc, hF⟩, ha, hk, hi, hj, h⟩ := aRRII_e h
  have hR' := hR
  obtain ⟨o, ⟨f1, f2, f3⟩, ⟨t1, t2, t3⟩, l1, l2, l3⟩ := hR
  have a1 : isArr t (r + 1) := isArr_of t1 (by omega) l1 (by omega)
  have x1 : ¬ r + 1 < 0 := by have := t1.1; omega
  have hF := hF (envV (vwS σ a) i j) (σ (r + 3))
  generalize hRn : runC (σ (r + 1)) (envV (vwS σ a) i j) (0, σ (r + 3)) = R at hF
  have hRh : ∀ n, (R n).1 ≤ 40 := by rw [← hRn]; exact run_h (by show 0 ≤ 40; omega)
  have hRs : ∀ n : Nat, R (n + 1) = stp (envV (vwS σ a) i j) (σ (r + 1) n) (R n) := by rw [← hRn]; intro n; rfl
  have hR0 : R 0 = (0, σ (r + 3)) := by rw [← hRn]; rfl
  have K : ∀ σ', (∀ o, o ≠ r + 3 → σ' o = σ o) → σ' (r + 3) = (R 0).2 → Wp l g 34 (d + 4) 0 0 6 [(0, vR r), (1, vR a), (2, vI i), (3, vI j), (4, vI (R 0).1), (5, vI (0 : Nat))] [] t σ' Q := by
    refine lpU (P := fun k => ∀ σ', (∀ o, o ≠ r + 3 → σ' o = σ o) → σ' (r + 3) = (R k).2 → Wp l g 34 (d + 4) 0 0 6 [(0, vR r), (1, vR a), (2, vI i), (3, vI j), (4, vI (R k).1), (5, vI k)] [] t σ' Q) (n := (σ r 3).toNat) ?_ (fun k hkn K σ' hS hV => ?_)
    · intro σ' hS hV
      have z0 : σ' r = σ r := hS r (by omega)
      have e1 : ((σ r 3).toNat : Int) = σ r 3 := by omega
      refine wa (by decide) rgU_ok tk_34 30 (fun N hN => ?_)
      simp [bl_34, hN _, x_iconst, x_ldc2_w, x_aconst_null, x_iload, x_lload, x_aload, x_istore, x_lstore, x_astore, x_iinc, x_iadd, x_isub, x_imul, x_idiv, x_irem, x_iand, x_ior, x_ixor, x_ishl, x_ishr, x_iushr, x_ineg, x_ladd, x_lsub, x_lmul, x_ldiv, x_lrem, x_lcmp, x_i2l, x_i2b, x_i2s, x_i2c, x_dup, x_pop, x_dup_x1, x_dup2, x_getfield, x_putfield, x_iaload, x_baload, x_saload, x_caload, x_daload, x_faload, x_laload, x_aaload, x_iastore, x_bastore, x_sastore, x_castore, x_lastore, x_aastore, x_arraylength, x_getstatic, x_goto, x_goto_w, x_ifCond, x_if_icmp, x_ifnull, x_ifnonnull, x_lookupswitch, x_invokevirtual, x_invokestatic, x_invokedynamic, x_ireturn, x_freturn, x_dreturn, x_lreturn, x_areturn, x_return_, pI_c, pL_c, pR_c, pV_i, pV_r, gI_c, gL_c, gR_c, pN_z, pN_s, lget_c, lins_z, lins_c, ldel_z, ldel_c, ldel2_z, ldel2_c, lset_i, lset_l, lset_r, lkeep_z, lkeep_c, largs_z, largs_c, cat_i, cat_l, cat_r, lkp_c, cnd_eq, cnd_ne, cnd_lt, cnd_ge, cnd_gt, cnd_le, swL_z, swL_c, rE_e, rOr_s, rOr_n, rlk_z, rlk_c, aR_c, aI_c, aII_c, aIII_c, aRI_c, aRII_c, aRIII_c, vJn, vJs, vlc, aRR_c, aRRI_c, aRRII_c, aRRIII_c, aRIIII_c, aRL_c, aRLL_c, aLL_c, aRRRI_c, aIL_c, aIIII_c, aRRIIII_c, aIRII_c, aIR_c, aLI_c, aRIR_c, aRIIR_c, o, f1, f3, t1, t3, l1, l3, a1, x1, z0, e1]
      rw [hV, hF]
      exact h σ' hS
    · have z0 : σ' r = σ r := hS r (by omega)
      have z1 : σ' (r + 1) = σ (r + 1) := hS _ (by omega)
      have k1 : (k : Int) < σ r 3 := by omega
      have k2 : ¬ σ r 3 ≤ (k : Int) := by omega
      have k4 : k < 40 := by omega
      have k3 : ¬ (40 : Nat) ≤ k := by omega
      have k5 : ¬ (40 : Int) ≤ (k : Int) := by omega
      have k6 : (k : Int) < 40 := by omega
      have hck := hc k (by omega) k1
      have e2 := w32_succ (k := k) (by omega)
      have e3 : w32 (σ (r + 1) k - 1000) = σ (r + 1) k - 1000 := w32_id (by omega) (by omega)
      have hk' : SeaOk t σ' a := seaok_cg (fun q h1 h2 => hS q (by omega)) hk
      obtain ⟨s1, s2, s3⟩ := sea_cg (σ := σ) (σ' := σ') (a := a) (fun q h1 h2 => hS q (by omega))
      have hh := hRh k
      have hs := hRs k
      rw [hs] at K
      unfold stp at K
      generalize hRk : R k = m at hh hV K
      obtain ⟨m1, m2⟩ := m
      simp only at hh hV K
      generalize hcv : σ (r + 1) k = p at hck e3 K
      have hh' : (m1 : Int) ≤ 40 := by omega
      refine wa (by decide) rgU_ok tk_34 30 (fun N hN => ?_)
      simp [bl_34, hN _, x_iconst, x_ldc2_w, x_aconst_null, x_iload, x_lload, x_aload, x_istore, x_lstore, x_astore, x_iinc, x_iadd, x_isub, x_imul, x_idiv, x_irem, x_iand, x_ior, x_ixor, x_ishl, x_ishr, x_iushr, x_ineg, x_ladd, x_lsub, x_lmul, x_ldiv, x_lrem, x_lcmp, x_i2l, x_i2b, x_i2s, x_i2c, x_dup, x_pop, x_dup_x1, x_dup2, x_getfield, x_putfield, x_iaload, x_baload, x_saload, x_caload, x_daload, x_faload, x_laload, x_aaload, x_iastore, x_bastore, x_sastore, x_castore, x_lastore, x_aastore, x_arraylength, x_getstatic, x_goto, x_goto_w, x_ifCond, x_if_icmp, x_ifnull, x_ifnonnull, x_lookupswitch, x_invokevirtual, x_invokestatic, x_invokedynamic, x_ireturn, x_freturn, x_dreturn, x_lreturn, x_areturn, x_return_, pI_c, pL_c, pR_c, pV_i, pV_r, gI_c, gL_c, gR_c, pN_z, pN_s, lget_c, lins_z, lins_c, ldel_z, ldel_c, ldel2_z, ldel2_c, lset_i, lset_l, lset_r, lkeep_z, lkeep_c, largs_z, largs_c, cat_i, cat_l, cat_r, lkp_c, cnd_eq, cnd_ne, cnd_lt, cnd_ge, cnd_gt, cnd_le, swL_z, swL_c, rE_e, rOr_s, rOr_n, rlk_z, rlk_c, aR_c, aI_c, aII_c, aIII_c, aRI_c, aRII_c, aRIII_c, vJn, vJs, vlc, aRR_c, aRRI_c, aRRII_c, aRRIII_c, aRIIII_c, aRL_c, aRLL_c, aLL_c, aRRRI_c, aIL_c, aIIII_c, aRRIIII_c, aIRII_c, aIR_c, aLI_c, aRIR_c, aRIIR_c, upLet, upStacks, upReduces, upThing, o, f1, f3, t1, t3, l1, l3, a1, x1, z0, z1, k1, k2, k3, k4, k5, k6, e2, hcv, e3, hk', hR', s1, s3, hi, hj, hh, hh']
      refine ⟨fun z => ?_, fun z => ?_⟩
      · rw [if_neg (by omega)] at K
        have e5 : iu16 (p - 1000) = p - 1000 := iu16_id (by omega) (by omega)
        rw [e5]
        refine ⟨fun y => ⟨m1, rfl, hh, fun σ'' h1 h2 => ?_⟩, fun y => ?_⟩
        · rw [if_neg (by omega)] at K
          rw [hV] at h2 ⊢
          exact K σ'' (fun q hq => by rw [h1 q hq]; exact hS q hq) h2
        · have y1 : ltB (p - 1000) = 1 := by
            unfold ltB at y ⊢
            split
            · rfl
            · rename_i hx; rw [if_neg hx] at y; omega
          rw [if_pos y1] at K
          unfold psh at K
          by_cases hm : m1 < 40
          · rw [if_pos hm] at K
            have hm' : (m1 : Int) < 40 := by omega
            simp [hm']
            exact K _ (fun q hq => by rw [up_ne hq]; exact hS q hq) (by rw [up_r, hV])
          · rw [if_neg hm] at K
            have hm' : ¬ (m1 : Int) < 40 := by omega
            simp [hm']
            exact K _ hS hV
      · rw [if_pos z] at K
        unfold psh at K
        by_cases hm : m1 < 40
        · rw [if_pos hm] at K
          have hm' : (m1 : Int) < 40 := by omega
          simp [hm']
          exact K _ (fun q hq => by rw [up_ne hq]; exact hS q hq) (by rw [up_r, hV])
        · rw [if_neg hm] at K
          have hm' : ¬ (m1 : Int) < 40 := by omega
          simp [hm']
          exact K _ hS hV
  have K' := K σ (fun _ _ => rfl) (by rw [hR0])
  rw [hR0] at K'
  refine wg (by decide) rgU_ok tk_34 py_34 ml_34 30 (by simp [catT]) (fun N hN => ?_)
  simp [bl_34, hN _, x_iconst, x_ldc2_w, x_aconst_null, x_iload, x_lload, x_aload, x_istore, x_lstore, x_astore, x_iinc, x_iadd, x_isub, x_imul, x_idiv, x_irem, x_iand, x_ior, x_ixor, x_ishl, x_ishr, x_iushr, x_ineg, x_ladd, x_lsub, x_lmul, x_ldiv, x_lrem, x_lcmp, x_i2l, x_i2b, x_i2s, x_i2c, x_dup, x_pop, x_dup_x1, x_dup2, x_getfield, x_putfield, x_iaload, x_baload, x_saload, x_caload, x_daload, x_faload, x_laload, x_aaload, x_iastore, x_bastore, x_sastore, x_castore, x_lastore, x_aastore, x_arraylength, x_getstatic, x_goto, x_goto_w, x_ifCond, x_if_icmp, x_ifnull, x_ifnonnull, x_lookupswitch, x_invokevirtual, x_invokestatic, x_invokedynamic, x_ireturn, x_freturn, x_dreturn, x_lreturn, x_areturn, x_return_, pI_c, pL_c, pR_c, pV_i, pV_r, gI_c, gL_c, gR_c, pN_z, pN_s, lget_c, lins_z, lins_c, ldel_z, ldel_c, ldel2_z, ldel2_c, lset_i, lset_l, lset_r, lkeep_z, lkeep_c, largs_z, largs_c, cat_i, cat_l, cat_r, lkp_c, cnd_eq, cnd_ne, cnd_lt, cnd_ge, cnd_gt, cnd_le, swL_z, swL_c, rE_e, rOr_s, rOr_n, rlk_z, rlk_c, aR_c, aI_c, aII_c, aIII_c, aRI_c, aRII_c, aRIII_c, vJn, vJs, vlc, aRR_c, aRRI_c, aRRII_c, aRRIII_c, aRIIII_c, aRL_c, aRLL_c, aLL_c, aRRRI_c, aIL_c, aIIII_c, aRRIIII_c, aIRII_c, aIR_c, aLI_c, aRIR_c, aRIIR_c]
  exact K'
