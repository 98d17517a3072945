/-! StruckColours$Rule: reads -/
def plX (p : Nat) : Int := [115, 42, 50, 43, 111, 45, 101].getD p 0
theorem plX_s {g : GE} {p : Nat} (h : p < 7) : sCt g 2 p = plX p := by
  rcases (show p = 0 ∨ p = 1 ∨ p = 2 ∨ p = 3 ∨ p = 4 ∨ p = 5 ∨ p = 6 by omega) with rfl | rfl | rfl | rfl | rfl | rfl | rfl <;> rfl
/-- x is the text of n signs at a -/
def srcO (t : Tau) (σ : Mem) (a : Int) (x : Nat → Int) (n : Nat) : Prop := ((a = -2 ∧ n = 7 ∧ x = plX) ∨ (isT t a 4 ∧ lenOf t a = 80 ∧ n ≤ 80 ∧ ∀ p : Nat, p < n → σ a p = x p)) ∧ ∀ p, p < n → 0 ≤ x p ∧ x p < 256
def rdA (R : Rs) (n : Nat) : Int := match R with
  | .inl w => w
  | .inr _ => if 40 < n then 40 else -1
def rdP (R : Rs) (n : Nat) (t : Tau) (σ σ' : Mem) (r : Int) : Prop := RsF σ σ' r ∧ match R with
  | .inl _ => True
  | .inr e => n ≤ 40 → RuleIs t σ' r (fun E => evE E e)
def upReads : Sp := fun as t σ Q => aRRI as fun r a n' => RulT t r ∧ (a ≠ r ∧ a ≠ r + 1 ∧ a ≠ r + 2) ∧ ∃ (n : Nat) (x : Nat → Int), n' = n ∧ srcO t σ a x n ∧ ∀ σ', rdP (rn x (min n 40) (min n 40) (oP [] lv0)) n t σ σ' r → Q (some (vI (rdA (rn x (min n 40) (min n 40) (oP [] lv0)) n))) t σ'
abbrev rgRe2 : Reg := [(25, upBegins), (26, upComes), (33, upJoins), (289, spMin)]
theorem rgRe2_ok {l : Launch} {g : GE} {d : Nat} : ∀ e as t σ Q, rE l g (d + 4) rgRe2 e as t σ Q → WPc l g e (d + 4) 0 0 as t σ Q := rE_cons (fun _ _ _ _ h => u_begins h) (rE_cons (fun _ _ _ _ h => u_comes h) (rE_cons (fun _ _ _ _ h => u_joins h) (rE_cons (fun _ _ _ _ h => c_min h) rE_nil)))
theorem ruleIs_of {t : Tau} {σ : Mem} {r : Int} {e : Ex} {w : List Int} (hr : RulT t r) (he : WfE e) (hl : e.length ≤ 40) (hC : CW σ r e w) : RuleIs t σ r (fun E => evE E e) := by
  obtain ⟨⟨h1, h2⟩, -⟩ := hC
  refine ⟨hr, by omega, fun k k0 k1 => ?_, fun env s0 => ?_⟩
  · obtain ⟨m, rfl⟩ : ∃ m : Nat, k = m := ⟨k.toNat, by omega⟩
    have hm : m < e.length := by omega
    rw [h2 m hm]
    have : e.getD m 0 = e[m] := by simp [List.getD_eq_getElem?_getD, List.getElem?_eq_getElem hm]
    rw [this]
    exact he.2 _ (List.getElem_mem hm)
  · have e1 : (σ r 3).toNat = e.length := by omega
    rw [e1, rl_run e h2]
    exact rl_ev he hl s0
set_option maxHeartbeats 1000000 in
theorem u_reads {l : Launch} {g : GE} {d : Nat} {t : Tau} {σ : Mem} {Q : Post} {as : List TV} (h0 : upReads as t σ Q) : WPc l g 24 (d + 5) 0 0 as t σ Q := by
  obtain ⟨r, a, n', rfl, hr, ⟨na0, na1, na2⟩, n, x, rfl, ⟨hs, hx⟩, h⟩ := aRRI_e h0
  clear h0
  have o := hr.1
  generalize hN' : min n 40 = M at h
  have hM : M ≤ 40 ∧ M ≤ n := by omega
  have n80 : n ≤ 80 := by rcases hs with ⟨-, z, -⟩ | ⟨-, -, z, -⟩ <;> omega
  generalize hR : rn x M M (oP [] lv0) = R at h
  have E : ∀ (s : Sr) (σ' : Mem), WfS s → RdS σ' r s → cnS s ≤ M → RsF σ σ' r → rn x M 0 s = R → Wp l g 24 (d + 5) 0 0 40 [(0, vR r), (1, vR a), (2, vI n), (3, vI M), (4, vI M)] [] t σ' Q := by
    intro s σ' hw hd hc hf he
    have he : endS M s = R := he
    match s, hw, hd, hc, he with
    | .inl (ls, l'), hw, hd, hc, he =>
      have he : R = .inl M := he.symm
      subst he
      obtain ⟨hC, b, hb, e6, e5, hcm, e8⟩ := hd
      refine wa (by decide) rgRe2_ok ts_24 30 (fun N hN => ?_)
      simp [bs_24, hN _, x_iconst, x_ldc2_w, x_aconst_null, x_iload, x_lload, x_aload, x_istore, x_lstore, x_astore, x_iinc, x_iadd, x_isub, x_imul, x_idiv, x_irem, x_iand, x_ior, x_ixor, x_ishl, x_ishr, x_iushr, x_ineg, x_ladd, x_lsub, x_lmul, x_ldiv, x_lrem, x_lcmp, x_i2l, x_i2b, x_i2s, x_i2c, x_dup, x_pop, x_dup_x1, x_dup2, x_getfield, x_putfield, x_iaload, x_baload, x_saload, x_caload, x_daload, x_faload, x_laload, x_aaload, x_iastore, x_bastore, x_sastore, x_castore, x_lastore, x_aastore, x_arraylength, x_getstatic, x_goto, x_goto_w, x_ifCond, x_if_icmp, x_ifnull, x_ifnonnull, x_lookupswitch, x_invokevirtual, x_invokestatic, x_invokedynamic, x_ireturn, x_freturn, x_dreturn, x_lreturn, x_areturn, x_return_, pI_c, pL_c, pR_c, pV_i, pV_r, gI_c, gL_c, gR_c, pN_z, pN_s, lget_c, lins_z, lins_c, ldel_z, ldel_c, ldel2_z, ldel2_c, lset_i, lset_l, lset_r, lkeep_z, lkeep_c, largs_z, largs_c, cat_i, cat_l, cat_r, lkp_c, cnd_eq, cnd_ne, cnd_lt, cnd_ge, cnd_gt, cnd_le, swL_z, swL_c, rE_e, rOr_s, rOr_n, rlk_z, rlk_c, aR_c, aI_c, aII_c, aIII_c, aRI_c, aRII_c, aRIII_c, vJn, vJs, vlc, aRR_c, aRRI_c, aRRII_c, aRRIII_c, aRIIII_c, aRL_c, aRLL_c, aLL_c, aRRRI_c, aIL_c, aIIII_c, aRRIIII_c, aIRII_c, aIR_c, aLI_c, aRIR_c, aRIIR_c, o, e8]
      exact h σ' ⟨hf, trivial⟩
    | .inr (l2 :: ls, l', e, k), hw, hd, hc, he =>
      have he : R = .inl M := he.symm
      subst he
      obtain ⟨hC, b, hb, e6, e5, hcm, e8, e7⟩ := hd
      have e5' : σ' r 5 = (ls.length : Int) + 1 := by rw [e5]; simp
      have p5 : ¬ (ls.length : Int) + 1 ≤ 0 := by omega
      refine wa (by decide) rgRe2_ok ts_24 30 (fun N hN => ?_)
      simp [bs_24, hN _, x_iconst, x_ldc2_w, x_aconst_null, x_iload, x_lload, x_aload, x_istore, x_lstore, x_astore, x_iinc, x_iadd, x_isub, x_imul, x_idiv, x_irem, x_iand, x_ior, x_ixor, x_ishl, x_ishr, x_iushr, x_ineg, x_ladd, x_lsub, x_lmul, x_ldiv, x_lrem, x_lcmp, x_i2l, x_i2b, x_i2s, x_i2c, x_dup, x_pop, x_dup_x1, x_dup2, x_getfield, x_putfield, x_iaload, x_baload, x_saload, x_caload, x_daload, x_faload, x_laload, x_aaload, x_iastore, x_bastore, x_sastore, x_castore, x_lastore, x_aastore, x_arraylength, x_getstatic, x_goto, x_goto_w, x_ifCond, x_if_icmp, x_ifnull, x_ifnonnull, x_lookupswitch, x_invokevirtual, x_invokestatic, x_invokedynamic, x_ireturn, x_freturn, x_dreturn, x_lreturn, x_areturn, x_return_, pI_c, pL_c, pR_c, pV_i, pV_r, gI_c, gL_c, gR_c, pN_z, pN_s, lget_c, lins_z, lins_c, ldel_z, ldel_c, ldel2_z, ldel2_c, lset_i, lset_l, lset_r, lkeep_z, lkeep_c, largs_z, largs_c, cat_i, cat_l, cat_r, lkp_c, cnd_eq, cnd_ne, cnd_lt, cnd_ge, cnd_gt, cnd_le, swL_z, swL_c, rE_e, rOr_s, rOr_n, rlk_z, rlk_c, aR_c, aI_c, aII_c, aIII_c, aRI_c, aRII_c, aRIII_c, vJn, vJs, vlc, aRR_c, aRRI_c, aRRII_c, aRRIII_c, aRIIII_c, aRL_c, aRLL_c, aLL_c, aRRRI_c, aIL_c, aIIII_c, aRRIIII_c, aIRII_c, aIR_c, aLI_c, aRIR_c, aRIIR_c, o, e8, e5']
      exact ⟨fun z => by omega, h σ' ⟨hf, trivial⟩⟩
    | .inr ([], l', e, k), hw, hd, hc, he =>
      have he : R = .inr (l'.c e) := he.symm
      subst he
      obtain ⟨hC, b, hb, e6, e5, hcm, e8, e7⟩ := hd
      have e5' : σ' r 5 = 0 := by rw [e5]; rfl
      obtain ⟨hw1, hw2, hw3, hw4, hw5⟩ := hw
      refine wa (by decide) rgRe2_ok ts_24 30 (fun N hN => ?_)
      by_cases hn : 40 < n
      · have h := h σ' ⟨hf, fun z => by omega⟩
        have hA : rdA (.inr (l'.c e)) n = 40 := by show (if 40 < n then (40 : Int) else -1) = 40; rw [if_pos hn]
        rw [hA] at h
        have hn' : ¬ (n : Int) ≤ 40 := by omega
        simp [bs_24, hN _, x_iconst, x_ldc2_w, x_aconst_null, x_iload, x_lload, x_aload, x_istore, x_lstore, x_astore, x_iinc, x_iadd, x_isub, x_imul, x_idiv, x_irem, x_iand, x_ior, x_ixor, x_ishl, x_ishr, x_iushr, x_ineg, x_ladd, x_lsub, x_lmul, x_ldiv, x_lrem, x_lcmp, x_i2l, x_i2b, x_i2s, x_i2c, x_dup, x_pop, x_dup_x1, x_dup2, x_getfield, x_putfield, x_iaload, x_baload, x_saload, x_caload, x_daload, x_faload, x_laload, x_aaload, x_iastore, x_bastore, x_sastore, x_castore, x_lastore, x_aastore, x_arraylength, x_getstatic, x_goto, x_goto_w, x_ifCond, x_if_icmp, x_ifnull, x_ifnonnull, x_lookupswitch, x_invokevirtual, x_invokestatic, x_invokedynamic, x_ireturn, x_freturn, x_dreturn, x_lreturn, x_areturn, x_return_, pI_c, pL_c, pR_c, pV_i, pV_r, gI_c, gL_c, gR_c, pN_z, pN_s, lget_c, lins_z, lins_c, ldel_z, ldel_c, ldel2_z, ldel2_c, lset_i, lset_l, lset_r, lkeep_z, lkeep_c, largs_z, largs_c, cat_i, cat_l, cat_r, lkp_c, cnd_eq, cnd_ne, cnd_lt, cnd_ge, cnd_gt, cnd_le, swL_z, swL_c, rE_e, rOr_s, rOr_n, rlk_z, rlk_c, aR_c, aI_c, aII_c, aIII_c, aRI_c, aRII_c, aRIII_c, vJn, vJs, vlc, aRR_c, aRRI_c, aRRII_c, aRRIII_c, aRIIII_c, aRL_c, aRLL_c, aLL_c, aRRRI_c, aIL_c, aIIII_c, aRRIIII_c, aIRII_c, aIR_c, aLI_c, aRIR_c, aRIIR_c, o, e8, e5', hn', hn]
        exact fun _ => h
      · have J := jn_1 (ls := []) (l := l') (e := e) hw2 []
        have L := jn_ln (b := 1) (wL l' ++ wt []) ([] ++ (plL l' ++ e))
        have hC' : CW σ' r ([] ++ (plL l' ++ e)) (wL l' ++ wt []) := hC
        have hcn : ([] ++ (plL l' ++ e)).length + (wL l' ++ wt []).length ≤ M := hc
        have hA : rdA (.inr (l'.c e)) n = -1 := by show (if 40 < n then (40 : Int) else -1) = -1; rw [if_neg hn]
        rw [hA] at h
        have hn' : (n : Int) ≤ 40 := by omega
        have hn2 : n ≤ 40 := by omega
        simp [bs_24, hN _, x_iconst, x_ldc2_w, x_aconst_null, x_iload, x_lload, x_aload, x_istore, x_lstore, x_astore, x_iinc, x_iadd, x_isub, x_imul, x_idiv, x_irem, x_iand, x_ior, x_ixor, x_ishl, x_ishr, x_iushr, x_ineg, x_ladd, x_lsub, x_lmul, x_ldiv, x_lrem, x_lcmp, x_i2l, x_i2b, x_i2s, x_i2c, x_dup, x_pop, x_dup_x1, x_dup2, x_getfield, x_putfield, x_iaload, x_baload, x_saload, x_caload, x_daload, x_faload, x_laload, x_aaload, x_iastore, x_bastore, x_sastore, x_castore, x_lastore, x_aastore, x_arraylength, x_getstatic, x_goto, x_goto_w, x_ifCond, x_if_icmp, x_ifnull, x_ifnonnull, x_lookupswitch, x_invokevirtual, x_invokestatic, x_invokedynamic, x_ireturn, x_freturn, x_dreturn, x_lreturn, x_areturn, x_return_, pI_c, pL_c, pR_c, pV_i, pV_r, gI_c, gL_c, gR_c, pN_z, pN_s, lget_c, lins_z, lins_c, ldel_z, ldel_c, ldel2_z, ldel2_c, lset_i, lset_l, lset_r, lkeep_z, lkeep_c, largs_z, largs_c, cat_i, cat_l, cat_r, lkp_c, cnd_eq, cnd_ne, cnd_lt, cnd_ge, cnd_gt, cnd_le, swL_z, swL_c, rE_e, rOr_s, rOr_n, rlk_z, rlk_c, aR_c, aI_c, aII_c, aIII_c, aRI_c, aRII_c, aRIII_c, vJn, vJs, vlc, aRR_c, aRRI_c, aRRII_c, aRRIII_c, aRIIII_c, aRL_c, aRLL_c, aLL_c, aRRRI_c, aIL_c, aIIII_c, aRRIIII_c, aIRII_c, aIR_c, aLI_c, aRIR_c, aRIIR_c, o, e8, e5', hn', hn, hn2]
        refine ⟨⟨hr, _, _, hC', by omega, wtw_b hw1 hw2, fun σ1 f1 c1 => ?_⟩, fun z => by omega⟩
        rw [J] at c1 L
        have K := h σ1 ⟨hf.tr f1.s, fun _ => ruleIs_of hr (wf_c hw2 hw4) (by simp only [List.nil_append] at L; simp [wt] at L hcn ⊢; omega) c1⟩
        simp [sg_24_40_1, sg_24_74_1, sg_24_119_1, hN _, x_iconst, x_ldc2_w, x_aconst_null, x_iload, x_lload, x_aload, x_istore, x_lstore, x_astore, x_iinc, x_iadd, x_isub, x_imul, x_idiv, x_irem, x_iand, x_ior, x_ixor, x_ishl, x_ishr, x_iushr, x_ineg, x_ladd, x_lsub, x_lmul, x_ldiv, x_lrem, x_lcmp, x_i2l, x_i2b, x_i2s, x_i2c, x_dup, x_pop, x_dup_x1, x_dup2, x_getfield, x_putfield, x_iaload, x_baload, x_saload, x_caload, x_daload, x_faload, x_laload, x_aaload, x_iastore, x_bastore, x_sastore, x_castore, x_lastore, x_aastore, x_arraylength, x_getstatic, x_goto, x_goto_w, x_ifCond, x_if_icmp, x_ifnull, x_ifnonnull, x_lookupswitch, x_invokevirtual, x_invokestatic, x_invokedynamic, x_ireturn, x_freturn, x_dreturn, x_lreturn, x_areturn, x_return_, pI_c, pL_c, pR_c, pV_i, pV_r, gI_c, gL_c, gR_c, pN_z, pN_s, lget_c, lins_z, lins_c, ldel_z, ldel_c, ldel2_z, ldel2_c, lset_i, lset_l, lset_r, lkeep_z, lkeep_c, largs_z, largs_c, cat_i, cat_l, cat_r, lkp_c, cnd_eq, cnd_ne, cnd_lt, cnd_ge, cnd_gt, cnd_le, swL_z, swL_c, rE_e, rOr_s, rOr_n, rlk_z, rlk_c, aR_c, aI_c, aII_c, aIII_c, aRI_c, aRII_c, aRIII_c, vJn, vJs, vlc, aRR_c, aRRI_c, aRRII_c, aRRIII_c, aRIIII_c, aRL_c, aRLL_c, aLL_c, aRRRI_c, aIL_c, aIIII_c, aRRIIII_c, aIRII_c, aIR_c, aLI_c, aRIR_c, aRIIR_c]
        exact K
  have K : ∀ (q p : Nat) (s : Sr) (σ' : Mem), p + q = M → WfS s → RdS σ' r s → cnS s ≤ p → RsF σ σ' r → rn x M q s = R → Wp l g 24 (d + 5) 0 0 40 [(0, vR r), (1, vR a), (2, vI n), (3, vI M), (4, vI p)] [] t σ' Q := by
    intro q
    induction q with
    | zero =>
      intro p s σ' hp hw hd hc hf he
      obtain rfl : p = M := by omega
      exact E s σ' hw hd hc hf he
    | succ q ih =>
      intro p s σ' hp hw hd hc hf he
      have hpq : M - (q + 1) = p := by omega
      have he : (match srT s (x (M - (q + 1))) with | none => bD (M - (q + 1)) | some s' => rn x M q s') = R := he
      rw [hpq] at he
      have e1 : ¬ (M : Int) ≤ p := by omega
      have e1n : ¬ M ≤ p := by omega
      have e2 := w32_succ (k := p) (by omega)
      have hxp := hx p (by omega)
      have fn : srT s (x p) = none → ∀ σ'', RsF σ σ'' r → Q (some (vI p)) t σ'' := fun hz σ'' hf'' => by
        rw [hz] at he
        subst he
        exact h σ'' ⟨hf'', trivial⟩
      have fs : ∀ s', srT s (x p) = some s' → ∀ σ'', RsF σ σ'' r → RdS σ'' r s' → Wp l g 24 (d + 5) 0 0 40 [(0, vR r), (1, vR a), (2, vI n), (3, vI M), (4, vI (p + 1 : Nat))] [] t σ'' Q := fun s' hz σ'' hf'' hd'' => by
        rw [hz] at he
        have hws : WfS s' ∧ cnS s' ≤ p + 1 := by
          match s, hw, hc, hz with
          | .inl (ls, l'), hw, hc, hz => exact ⟨wf_stO hw hz, by have := cn_stO hz; have hc' : cnS (oP ls l') ≤ p := hc; omega⟩
          | .inr (ls, l', e, k), hw, hc, hz => exact ⟨wf_stC hw hz, by have := cn_stC hz; have hc' : cnS (cL ls l' e k) ≤ p := hc; omega⟩
        exact ih (p + 1) s' σ'' (by omega) hws.1 hd'' hws.2 hf'' he
      match s, hw, hd, hc, fn, fs with
      | .inl (ls, l'), hw, hd, hc, fn, fs =>
        have e8 : σ' r 8 = 1 := by obtain ⟨-, b, -, -, -, -, e8⟩ := hd; exact e8
        have fn' : stO ls l' (x p) = none → ∀ σ'', RsF σ σ'' r → Q (some (vI p)) t σ'' := fn
        have fs' : ∀ s', stO ls l' (x p) = some s' → ∀ σ'', RsF σ σ'' r → RdS σ'' r s' → Wp l g 24 (d + 5) 0 0 40 [(0, vR r), (1, vR a), (2, vI n), (3, vI M), (4, vI (p + 1 : Nat))] [] t σ'' Q := fs
        have hc' : cnS (oP ls l') < 40 := by have hc' : cnS (oP ls l') ≤ p := hc; omega
        rcases hs with ⟨rfl, rfl, rfl⟩ | ⟨ht, hl, -, hsx⟩
        · have p7 : (p : Int) < 7 := by omega
          have p7n : p < 7 := by omega
          have ex : sCt g 2 p = plX p := plX_s p7n
          have el : sLen g 2 = 7 := rfl
          refine wa (by decide) rgRe2_ok ts_24 30 (fun N hN => ?_)
          simp [bs_24, hN _, x_iconst, x_ldc2_w, x_aconst_null, x_iload, x_lload, x_aload, x_istore, x_lstore, x_astore, x_iinc, x_iadd, x_isub, x_imul, x_idiv, x_irem, x_iand, x_ior, x_ixor, x_ishl, x_ishr, x_iushr, x_ineg, x_ladd, x_lsub, x_lmul, x_ldiv, x_lrem, x_lcmp, x_i2l, x_i2b, x_i2s, x_i2c, x_dup, x_pop, x_dup_x1, x_dup2, x_getfield, x_putfield, x_iaload, x_baload, x_saload, x_caload, x_daload, x_faload, x_laload, x_aaload, x_iastore, x_bastore, x_sastore, x_castore, x_lastore, x_aastore, x_arraylength, x_getstatic, x_goto, x_goto_w, x_ifCond, x_if_icmp, x_ifnull, x_ifnonnull, x_lookupswitch, x_invokevirtual, x_invokestatic, x_invokedynamic, x_ireturn, x_freturn, x_dreturn, x_lreturn, x_areturn, x_return_, pI_c, pL_c, pR_c, pV_i, pV_r, gI_c, gL_c, gR_c, pN_z, pN_s, lget_c, lins_z, lins_c, ldel_z, ldel_c, ldel2_z, ldel2_c, lset_i, lset_l, lset_r, lkeep_z, lkeep_c, largs_z, largs_c, cat_i, cat_l, cat_r, lkp_c, cnd_eq, cnd_ne, cnd_lt, cnd_ge, cnd_gt, cnd_le, swL_z, swL_c, rE_e, rOr_s, rOr_n, rlk_z, rlk_c, aR_c, aI_c, aII_c, aIII_c, aRI_c, aRII_c, aRIII_c, vJn, vJs, vlc, aRR_c, aRRI_c, aRRII_c, aRRIII_c, aRIIII_c, aRL_c, aRLL_c, aLL_c, aRRRI_c, aIL_c, aIIII_c, aRRIIII_c, aIRII_c, aIR_c, aLI_c, aRIR_c, aRIIR_c, o, e8, e1, e1n, p7, p7n, Nat.not_le.mpr p7n, Int.not_le.mpr p7, ex, el]
          refine fun _ => ⟨hr, hxp, ls, l', hw, hd, hc', ?_⟩
          cases hz : stO ls l' (plX p) with
          | none =>
            intro σ'' hf''
            simp [sg_24_40_1, sg_24_74_1, sg_24_119_1, bs_24, hN _, x_iconst, x_ldc2_w, x_aconst_null, x_iload, x_lload, x_aload, x_istore, x_lstore, x_astore, x_iinc, x_iadd, x_isub, x_imul, x_idiv, x_irem, x_iand, x_ior, x_ixor, x_ishl, x_ishr, x_iushr, x_ineg, x_ladd, x_lsub, x_lmul, x_ldiv, x_lrem, x_lcmp, x_i2l, x_i2b, x_i2s, x_i2c, x_dup, x_pop, x_dup_x1, x_dup2, x_getfield, x_putfield, x_iaload, x_baload, x_saload, x_caload, x_daload, x_faload, x_laload, x_aaload, x_iastore, x_bastore, x_sastore, x_castore, x_lastore, x_aastore, x_arraylength, x_getstatic, x_goto, x_goto_w, x_ifCond, x_if_icmp, x_ifnull, x_ifnonnull, x_lookupswitch, x_invokevirtual, x_invokestatic, x_invokedynamic, x_ireturn, x_freturn, x_dreturn, x_lreturn, x_areturn, x_return_, pI_c, pL_c, pR_c, pV_i, pV_r, gI_c, gL_c, gR_c, pN_z, pN_s, lget_c, lins_z, lins_c, ldel_z, ldel_c, ldel2_z, ldel2_c, lset_i, lset_l, lset_r, lkeep_z, lkeep_c, largs_z, largs_c, cat_i, cat_l, cat_r, lkp_c, cnd_eq, cnd_ne, cnd_lt, cnd_ge, cnd_gt, cnd_le, swL_z, swL_c, rE_e, rOr_s, rOr_n, rlk_z, rlk_c, aR_c, aI_c, aII_c, aIII_c, aRI_c, aRII_c, aRIII_c, vJn, vJs, vlc, aRR_c, aRRI_c, aRRII_c, aRRIII_c, aRIIII_c, aRL_c, aRLL_c, aLL_c, aRRRI_c, aIL_c, aIIII_c, aRRIIII_c, aIRII_c, aIR_c, aLI_c, aRIR_c, aRIIR_c]
            exact fn' hz σ'' (hf.tr hf'')
          | some s' =>
            intro σ'' hf'' hd''
            have K := fs' s' hz σ'' (hf.tr hf'') hd''
            simp [sg_24_40_1, sg_24_74_1, sg_24_119_1, bs_24, hN _, x_iconst, x_ldc2_w, x_aconst_null, x_iload, x_lload, x_aload, x_istore, x_lstore, x_astore, x_iinc, x_iadd, x_isub, x_imul, x_idiv, x_irem, x_iand, x_ior, x_ixor, x_ishl, x_ishr, x_iushr, x_ineg, x_ladd, x_lsub, x_lmul, x_ldiv, x_lrem, x_lcmp, x_i2l, x_i2b, x_i2s, x_i2c, x_dup, x_pop, x_dup_x1, x_dup2, x_getfield, x_putfield, x_iaload, x_baload, x_saload, x_caload, x_daload, x_faload, x_laload, x_aaload, x_iastore, x_bastore, x_sastore, x_castore, x_lastore, x_aastore, x_arraylength, x_getstatic, x_goto, x_goto_w, x_ifCond, x_if_icmp, x_ifnull, x_ifnonnull, x_lookupswitch, x_invokevirtual, x_invokestatic, x_invokedynamic, x_ireturn, x_freturn, x_dreturn, x_lreturn, x_areturn, x_return_, pI_c, pL_c, pR_c, pV_i, pV_r, gI_c, gL_c, gR_c, pN_z, pN_s, lget_c, lins_z, lins_c, ldel_z, ldel_c, ldel2_z, ldel2_c, lset_i, lset_l, lset_r, lkeep_z, lkeep_c, largs_z, largs_c, cat_i, cat_l, cat_r, lkp_c, cnd_eq, cnd_ne, cnd_lt, cnd_ge, cnd_gt, cnd_le, swL_z, swL_c, rE_e, rOr_s, rOr_n, rlk_z, rlk_c, aR_c, aI_c, aII_c, aIII_c, aRI_c, aRII_c, aRIII_c, vJn, vJs, vlc, aRR_c, aRRI_c, aRRII_c, aRRIII_c, aRIIII_c, aRL_c, aRLL_c, aLL_c, aRRRI_c, aIL_c, aIIII_c, aRRIIII_c, aIRII_c, aIR_c, aLI_c, aRIR_c, aRIIR_c, e2]
            exact K
        · have a0 : ¬ a < 0 := by have := ht.1; omega
          have a2 : ¬ a = -2 := by omega
          have aa : isArr t a := isArr_of ht (by omega) hl (by omega)
          have p7 : (p : Int) < 80 := by omega
          have p7n : p < 80 := by omega
          have ex : σ' a p = x p := by rw [hf a na0 na1 na2]; exact hsx p (by omega)
          refine wa (by decide) rgRe2_ok ts_24 30 (fun N hN => ?_)
          simp [bs_24, hN _, x_iconst, x_ldc2_w, x_aconst_null, x_iload, x_lload, x_aload, x_istore, x_lstore, x_astore, x_iinc, x_iadd, x_isub, x_imul, x_idiv, x_irem, x_iand, x_ior, x_ixor, x_ishl, x_ishr, x_iushr, x_ineg, x_ladd, x_lsub, x_lmul, x_ldiv, x_lrem, x_lcmp, x_i2l, x_i2b, x_i2s, x_i2c, x_dup, x_pop, x_dup_x1, x_dup2, x_getfield, x_putfield, x_iaload, x_baload, x_saload, x_caload, x_daload, x_faload, x_laload, x_aaload, x_iastore, x_bastore, x_sastore, x_castore, x_lastore, x_aastore, x_arraylength, x_getstatic, x_goto, x_goto_w, x_ifCond, x_if_icmp, x_ifnull, x_ifnonnull, x_lookupswitch, x_invokevirtual, x_invokestatic, x_invokedynamic, x_ireturn, x_freturn, x_dreturn, x_lreturn, x_areturn, x_return_, pI_c, pL_c, pR_c, pV_i, pV_r, gI_c, gL_c, gR_c, pN_z, pN_s, lget_c, lins_z, lins_c, ldel_z, ldel_c, ldel2_z, ldel2_c, lset_i, lset_l, lset_r, lkeep_z, lkeep_c, largs_z, largs_c, cat_i, cat_l, cat_r, lkp_c, cnd_eq, cnd_ne, cnd_lt, cnd_ge, cnd_gt, cnd_le, swL_z, swL_c, rE_e, rOr_s, rOr_n, rlk_z, rlk_c, aR_c, aI_c, aII_c, aIII_c, aRI_c, aRII_c, aRIII_c, vJn, vJs, vlc, aRR_c, aRRI_c, aRRII_c, aRRIII_c, aRIIII_c, aRL_c, aRLL_c, aLL_c, aRRRI_c, aIL_c, aIIII_c, aRRIIII_c, aIRII_c, aIR_c, aLI_c, aRIR_c, aRIIR_c, o, e8, e1, e1n, p7, p7n, Nat.not_le.mpr p7n, Int.not_le.mpr p7, ex, a0, a2, aa, ht, hl]
          refine fun _ => ⟨hr, hxp, ls, l', hw, hd, hc', ?_⟩
          cases hz : stO ls l' (x p) with
          | none =>
            intro σ'' hf''
            simp [sg_24_40_1, sg_24_74_1, sg_24_119_1, bs_24, hN _, x_iconst, x_ldc2_w, x_aconst_null, x_iload, x_lload, x_aload, x_istore, x_lstore, x_astore, x_iinc, x_iadd, x_isub, x_imul, x_idiv, x_irem, x_iand, x_ior, x_ixor, x_ishl, x_ishr, x_iushr, x_ineg, x_ladd, x_lsub, x_lmul, x_ldiv, x_lrem, x_lcmp, x_i2l, x_i2b, x_i2s, x_i2c, x_dup, x_pop, x_dup_x1, x_dup2, x_getfield, x_putfield, x_iaload, x_baload, x_saload, x_caload, x_daload, x_faload, x_laload, x_aaload, x_iastore, x_bastore, x_sastore, x_castore, x_lastore, x_aastore, x_arraylength, x_getstatic, x_goto, x_goto_w, x_ifCond, x_if_icmp, x_ifnull, x_ifnonnull, x_lookupswitch, x_invokevirtual, x_invokestatic, x_invokedynamic, x_ireturn, x_freturn, x_dreturn, x_lreturn, x_areturn, x_return_, pI_c, pL_c, pR_c, pV_i, pV_r, gI_c, gL_c, gR_c, pN_z, pN_s, lget_c, lins_z, lins_c, ldel_z, ldel_c, ldel2_z, ldel2_c, lset_i, lset_l, lset_r, lkeep_z, lkeep_c, largs_z, largs_c, cat_i, cat_l, cat_r, lkp_c, cnd_eq, cnd_ne, cnd_lt, cnd_ge, cnd_gt, cnd_le, swL_z, swL_c, rE_e, rOr_s, rOr_n, rlk_z, rlk_c, aR_c, aI_c, aII_c, aIII_c, aRI_c, aRII_c, aRIII_c, vJn, vJs, vlc, aRR_c, aRRI_c, aRRII_c, aRRIII_c, aRIIII_c, aRL_c, aRLL_c, aLL_c, aRRRI_c, aIL_c, aIIII_c, aRRIIII_c, aIRII_c, aIR_c, aLI_c, aRIR_c, aRIIR_c]
            exact fn' hz σ'' (hf.tr hf'')
          | some s' =>
            intro σ'' hf'' hd''
            have K := fs' s' hz σ'' (hf.tr hf'') hd''
            simp [sg_24_40_1, sg_24_74_1, sg_24_119_1, bs_24, hN _, x_iconst, x_ldc2_w, x_aconst_null, x_iload, x_lload, x_aload, x_istore, x_lstore, x_astore, x_iinc, x_iadd, x_isub, x_imul, x_idiv, x_irem, x_iand, x_ior, x_ixor, x_ishl, x_ishr, x_iushr, x_ineg, x_ladd, x_lsub, x_lmul, x_ldiv, x_lrem, x_lcmp, x_i2l, x_i2b, x_i2s, x_i2c, x_dup, x_pop, x_dup_x1, x_dup2, x_getfield, x_putfield, x_iaload, x_baload, x_saload, x_caload, x_daload, x_faload, x_laload, x_aaload, x_iastore, x_bastore, x_sastore, x_castore, x_lastore, x_aastore, x_arraylength, x_getstatic, x_goto, x_goto_w, x_ifCond, x_if_icmp, x_ifnull, x_ifnonnull, x_lookupswitch, x_invokevirtual, x_invokestatic, x_invokedynamic, x_ireturn, x_freturn, x_dreturn, x_lreturn, x_areturn, x_return_, pI_c, pL_c, pR_c, pV_i, pV_r, gI_c, gL_c, gR_c, pN_z, pN_s, lget_c, lins_z, lins_c, ldel_z, ldel_c, ldel2_z, ldel2_c, lset_i, lset_l, lset_r, lkeep_z, lkeep_c, largs_z, largs_c, cat_i, cat_l, cat_r, lkp_c, cnd_eq, cnd_ne, cnd_lt, cnd_ge, cnd_gt, cnd_le, swL_z, swL_c, rE_e, rOr_s, rOr_n, rlk_z, rlk_c, aR_c, aI_c, aII_c, aIII_c, aRI_c, aRII_c, aRIII_c, vJn, vJs, vlc, aRR_c, aRRI_c, aRRII_c, aRRIII_c, aRIIII_c, aRL_c, aRLL_c, aLL_c, aRRRI_c, aIL_c, aIIII_c, aRRIIII_c, aIRII_c, aIR_c, aLI_c, aRIR_c, aRIIR_c, e2]
            exact K
      | .inr (ls, l', e, k), hw, hd, hc, fn, fs =>
        have e8 : σ' r 8 = 0 := by obtain ⟨-, b, -, -, -, -, e8, -⟩ := hd; exact e8
        have fn' : stC ls l' e k (x p) = none → ∀ σ'', RsF σ σ'' r → Q (some (vI p)) t σ'' := fn
        have fs' : ∀ s', stC ls l' e k (x p) = some s' → ∀ σ'', RsF σ σ'' r → RdS σ'' r s' → Wp l g 24 (d + 5) 0 0 40 [(0, vR r), (1, vR a), (2, vI n), (3, vI M), (4, vI (p + 1 : Nat))] [] t σ'' Q := fs
        have hc' : cnS (cL ls l' e k) < 40 := by have hc' : cnS (cL ls l' e k) ≤ p := hc; omega
        rcases hs with ⟨rfl, rfl, rfl⟩ | ⟨ht, hl, -, hsx⟩
        · have p7 : (p : Int) < 7 := by omega
          have p7n : p < 7 := by omega
          have ex : sCt g 2 p = plX p := plX_s p7n
          have el : sLen g 2 = 7 := rfl
          refine wa (by decide) rgRe2_ok ts_24 30 (fun N hN => ?_)
          simp [bs_24, hN _, x_iconst, x_ldc2_w, x_aconst_null, x_iload, x_lload, x_aload, x_istore, x_lstore, x_astore, x_iinc, x_iadd, x_isub, x_imul, x_idiv, x_irem, x_iand, x_ior, x_ixor, x_ishl, x_ishr, x_iushr, x_ineg, x_ladd, x_lsub, x_lmul, x_ldiv, x_lrem, x_lcmp, x_i2l, x_i2b, x_i2s, x_i2c, x_dup, x_pop, x_dup_x1, x_dup2, x_getfield, x_putfield, x_iaload, x_baload, x_saload, x_caload, x_daload, x_faload, x_laload, x_aaload, x_iastore, x_bastore, x_sastore, x_castore, x_lastore, x_aastore, x_arraylength, x_getstatic, x_goto, x_goto_w, x_ifCond, x_if_icmp, x_ifnull, x_ifnonnull, x_lookupswitch, x_invokevirtual, x_invokestatic, x_invokedynamic, x_ireturn, x_freturn, x_dreturn, x_lreturn, x_areturn, x_return_, pI_c, pL_c, pR_c, pV_i, pV_r, gI_c, gL_c, gR_c, pN_z, pN_s, lget_c, lins_z, lins_c, ldel_z, ldel_c, ldel2_z, ldel2_c, lset_i, lset_l, lset_r, lkeep_z, lkeep_c, largs_z, largs_c, cat_i, cat_l, cat_r, lkp_c, cnd_eq, cnd_ne, cnd_lt, cnd_ge, cnd_gt, cnd_le, swL_z, swL_c, rE_e, rOr_s, rOr_n, rlk_z, rlk_c, aR_c, aI_c, aII_c, aIII_c, aRI_c, aRII_c, aRIII_c, vJn, vJs, vlc, aRR_c, aRRI_c, aRRII_c, aRRIII_c, aRIIII_c, aRL_c, aRLL_c, aLL_c, aRRRI_c, aIL_c, aIIII_c, aRRIIII_c, aIRII_c, aIR_c, aLI_c, aRIR_c, aRIIR_c, o, e8, e1, e1n, p7, p7n, Nat.not_le.mpr p7n, Int.not_le.mpr p7, ex, el]
          refine fun _ => ⟨hxp, ls, l', e, k, ⟨hr, hw, hd, by omega⟩, hc', ?_⟩
          cases hz : stC ls l' e k (plX p) with
          | none =>
            intro σ'' hf''
            simp [sg_24_40_1, sg_24_74_1, sg_24_119_1, bs_24, hN _, x_iconst, x_ldc2_w, x_aconst_null, x_iload, x_lload, x_aload, x_istore, x_lstore, x_astore, x_iinc, x_iadd, x_isub, x_imul, x_idiv, x_irem, x_iand, x_ior, x_ixor, x_ishl, x_ishr, x_iushr, x_ineg, x_ladd, x_lsub, x_lmul, x_ldiv, x_lrem, x_lcmp, x_i2l, x_i2b, x_i2s, x_i2c, x_dup, x_pop, x_dup_x1, x_dup2, x_getfield, x_putfield, x_iaload, x_baload, x_saload, x_caload, x_daload, x_faload, x_laload, x_aaload, x_iastore, x_bastore, x_sastore, x_castore, x_lastore, x_aastore, x_arraylength, x_getstatic, x_goto, x_goto_w, x_ifCond, x_if_icmp, x_ifnull, x_ifnonnull, x_lookupswitch, x_invokevirtual, x_invokestatic, x_invokedynamic, x_ireturn, x_freturn, x_dreturn, x_lreturn, x_areturn, x_return_, pI_c, pL_c, pR_c, pV_i, pV_r, gI_c, gL_c, gR_c, pN_z, pN_s, lget_c, lins_z, lins_c, ldel_z, ldel_c, ldel2_z, ldel2_c, lset_i, lset_l, lset_r, lkeep_z, lkeep_c, largs_z, largs_c, cat_i, cat_l, cat_r, lkp_c, cnd_eq, cnd_ne, cnd_lt, cnd_ge, cnd_gt, cnd_le, swL_z, swL_c, rE_e, rOr_s, rOr_n, rlk_z, rlk_c, aR_c, aI_c, aII_c, aIII_c, aRI_c, aRII_c, aRIII_c, vJn, vJs, vlc, aRR_c, aRRI_c, aRRII_c, aRRIII_c, aRIIII_c, aRL_c, aRLL_c, aLL_c, aRRRI_c, aIL_c, aIIII_c, aRRIIII_c, aIRII_c, aIR_c, aLI_c, aRIR_c, aRIIR_c]
            exact fn' hz σ'' (hf.tr hf'')
          | some s' =>
            intro σ'' hf'' hd''
            have K := fs' s' hz σ'' (hf.tr hf'') hd''
            simp [sg_24_40_1, sg_24_74_1, sg_24_119_1, bs_24, hN _, x_iconst, x_ldc2_w, x_aconst_null, x_iload, x_lload, x_aload, x_istore, x_lstore, x_astore, x_iinc, x_iadd, x_isub, x_imul, x_idiv, x_irem, x_iand, x_ior, x_ixor, x_ishl, x_ishr, x_iushr, x_ineg, x_ladd, x_lsub, x_lmul, x_ldiv, x_lrem, x_lcmp, x_i2l, x_i2b, x_i2s, x_i2c, x_dup, x_pop, x_dup_x1, x_dup2, x_getfield, x_putfield, x_iaload, x_baload, x_saload, x_caload, x_daload, x_faload, x_laload, x_aaload, x_iastore, x_bastore, x_sastore, x_castore, x_lastore, x_aastore, x_arraylength, x_getstatic, x_goto, x_goto_w, x_ifCond, x_if_icmp, x_ifnull, x_ifnonnull, x_lookupswitch, x_invokevirtual, x_invokestatic, x_invokedynamic, x_ireturn, x_freturn, x_dreturn, x_lreturn, x_areturn, x_return_, pI_c, pL_c, pR_c, pV_i, pV_r, gI_c, gL_c, gR_c, pN_z, pN_s, lget_c, lins_z, lins_c, ldel_z, ldel_c, ldel2_z, ldel2_c, lset_i, lset_l, lset_r, lkeep_z, lkeep_c, largs_z, largs_c, cat_i, cat_l, cat_r, lkp_c, cnd_eq, cnd_ne, cnd_lt, cnd_ge, cnd_gt, cnd_le, swL_z, swL_c, rE_e, rOr_s, rOr_n, rlk_z, rlk_c, aR_c, aI_c, aII_c, aIII_c, aRI_c, aRII_c, aRIII_c, vJn, vJs, vlc, aRR_c, aRRI_c, aRRII_c, aRRIII_c, aRIIII_c, aRL_c, aRLL_c, aLL_c, aRRRI_c, aIL_c, aIIII_c, aRRIIII_c, aIRII_c, aIR_c, aLI_c, aRIR_c, aRIIR_c, e2]
            exact K
        · have a0 : ¬ a < 0 := by have := ht.1; omega
          have a2 : ¬ a = -2 := by omega
          have aa : isArr t a := isArr_of ht (by omega) hl (by omega)
          have p7 : (p : Int) < 80 := by omega
          have p7n : p < 80 := by omega
          have ex : σ' a p = x p := by rw [hf a na0 na1 na2]; exact hsx p (by omega)
          refine wa (by decide) rgRe2_ok ts_24 30 (fun N hN => ?_)
          simp [bs_24, hN _, x_iconst, x_ldc2_w, x_aconst_null, x_iload, x_lload, x_aload, x_istore, x_lstore, x_astore, x_iinc, x_iadd, x_isub, x_imul, x_idiv, x_irem, x_iand, x_ior, x_ixor, x_ishl, x_ishr, x_iushr, x_ineg, x_ladd, x_lsub, x_lmul, x_ldiv, x_lrem, x_lcmp, x_i2l, x_i2b, x_i2s, x_i2c, x_dup, x_pop, x_dup_x1, x_dup2, x_getfield, x_putfield, x_iaload, x_baload, x_saload, x_caload, x_daload, x_faload, x_laload, x_aaload, x_iastore, x_bastore, x_sastore, x_castore, x_lastore, x_aastore, x_arraylength, x_getstatic, x_goto, x_goto_w, x_ifCond, x_if_icmp, x_ifnull, x_ifnonnull, x_lookupswitch, x_invokevirtual, x_invokestatic, x_invokedynamic, x_ireturn, x_freturn, x_dreturn, x_lreturn, x_areturn, x_return_, pI_c, pL_c, pR_c, pV_i, pV_r, gI_c, gL_c, gR_c, pN_z, pN_s, lget_c, lins_z, lins_c, ldel_z, ldel_c, ldel2_z, ldel2_c, lset_i, lset_l, lset_r, lkeep_z, lkeep_c, largs_z, largs_c, cat_i, cat_l, cat_r, lkp_c, cnd_eq, cnd_ne, cnd_lt, cnd_ge, cnd_gt, cnd_le, swL_z, swL_c, rE_e, rOr_s, rOr_n, rlk_z, rlk_c, aR_c, aI_c, aII_c, aIII_c, aRI_c, aRII_c, aRIII_c, vJn, vJs, vlc, aRR_c, aRRI_c, aRRII_c, aRRIII_c, aRIIII_c, aRL_c, aRLL_c, aLL_c, aRRRI_c, aIL_c, aIIII_c, aRRIIII_c, aIRII_c, aIR_c, aLI_c, aRIR_c, aRIIR_c, o, e8, e1, e1n, p7, p7n, Nat.not_le.mpr p7n, Int.not_le.mpr p7, ex, a0, a2, aa, ht, hl]
          refine fun _ => ⟨hxp, ls, l', e, k, ⟨hr, hw, hd, by omega⟩, hc', ?_⟩
          cases hz : stC ls l' e k (x p) with
          | none =>
            intro σ'' hf''
            simp [sg_24_40_1, sg_24_74_1, sg_24_119_1, bs_24, hN _, x_iconst, x_ldc2_w, x_aconst_null, x_iload, x_lload, x_aload, x_istore, x_lstore, x_astore, x_iinc, x_iadd, x_isub, x_imul, x_idiv, x_irem, x_iand, x_ior, x_ixor, x_ishl, x_ishr, x_iushr, x_ineg, x_ladd, x_lsub, x_lmul, x_ldiv, x_lrem, x_lcmp, x_i2l, x_i2b, x_i2s, x_i2c, x_dup, x_pop, x_dup_x1, x_dup2, x_getfield, x_putfield, x_iaload, x_baload, x_saload, x_caload, x_daload, x_faload, x_laload, x_aaload, x_iastore, x_bastore, x_sastore, x_castore, x_lastore, x_aastore, x_arraylength, x_getstatic, x_goto, x_goto_w, x_ifCond, x_if_icmp, x_ifnull, x_ifnonnull, x_lookupswitch, x_invokevirtual, x_invokestatic, x_invokedynamic, x_ireturn, x_freturn, x_dreturn, x_lreturn, x_areturn, x_return_, pI_c, pL_c, pR_c, pV_i, pV_r, gI_c, gL_c, gR_c, pN_z, pN_s, lget_c, lins_z, lins_c, ldel_z, ldel_c, ldel2_z, ldel2_c, lset_i, lset_l, lset_r, lkeep_z, lkeep_c, largs_z, largs_c, cat_i, cat_l, cat_r, lkp_c, cnd_eq, cnd_ne, cnd_lt, cnd_ge, cnd_gt, cnd_le, swL_z, swL_c, rE_e, rOr_s, rOr_n, rlk_z, rlk_c, aR_c, aI_c, aII_c, aIII_c, aRI_c, aRII_c, aRIII_c, vJn, vJs, vlc, aRR_c, aRRI_c, aRRII_c, aRRIII_c, aRIIII_c, aRL_c, aRLL_c, aLL_c, aRRRI_c, aIL_c, aIIII_c, aRRIIII_c, aIRII_c, aIR_c, aLI_c, aRIR_c, aRIIR_c]
            exact fn' hz σ'' (hf.tr hf'')
          | some s' =>
            intro σ'' hf'' hd''
            have K := fs' s' hz σ'' (hf.tr hf'') hd''
            simp [sg_24_40_1, sg_24_74_1, sg_24_119_1, bs_24, hN _, x_iconst, x_ldc2_w, x_aconst_null, x_iload, x_lload, x_aload, x_istore, x_lstore, x_astore, x_iinc, x_iadd, x_isub, x_imul, x_idiv, x_irem, x_iand, x_ior, x_ixor, x_ishl, x_ishr, x_iushr, x_ineg, x_ladd, x_lsub, x_lmul, x_ldiv, x_lrem, x_lcmp, x_i2l, x_i2b, x_i2s, x_i2c, x_dup, x_pop, x_dup_x1, x_dup2, x_getfield, x_putfield, x_iaload, x_baload, x_saload, x_caload, x_daload, x_faload, x_laload, x_aaload, x_iastore, x_bastore, x_sastore, x_castore, x_lastore, x_aastore, x_arraylength, x_getstatic, x_goto, x_goto_w, x_ifCond, x_if_icmp, x_ifnull, x_ifnonnull, x_lookupswitch, x_invokevirtual, x_invokestatic, x_invokedynamic, x_ireturn, x_freturn, x_dreturn, x_lreturn, x_areturn, x_return_, pI_c, pL_c, pR_c, pV_i, pV_r, gI_c, gL_c, gR_c, pN_z, pN_s, lget_c, lins_z, lins_c, ldel_z, ldel_c, ldel2_z, ldel2_c, lset_i, lset_l, lset_r, lkeep_z, lkeep_c, largs_z, largs_c, cat_i, cat_l, cat_r, lkp_c, cnd_eq, cnd_ne, cnd_lt, cnd_ge, cnd_gt, cnd_le, swL_z, swL_c, rE_e, rOr_s, rOr_n, rlk_z, rlk_c, aR_c, aI_c, aII_c, aIII_c, aRI_c, aRII_c, aRIII_c, vJn, vJs, vlc, aRR_c, aRRI_c, aRRII_c, aRRIII_c, aRIIII_c, aRL_c, aRLL_c, aLL_c, aRRRI_c, aIL_c, aIIII_c, aRRIIII_c, aIRII_c, aIR_c, aLI_c, aRIR_c, aRIIR_c, e2]
            exact K
  have K := K M 0 (oP [] lv0) (up (up (up (up (up (up σ r 3 0) r 4 0) r 5 0) r 6 0) r 7 0) r 8 1) (by omega) ⟨fun _ hz => by simp at hz, ⟨trivial, trivial, trivial⟩, by simp⟩ ⟨⟨⟨by simp [up_ap, cdS, cd, plL, lv0, lv_cm, lv_su, lv_mu, pO_n], fun k hk => by simp [cdS, cd, plL, lv0, lv_cm, lv_su, lv_mu, pO_n] at hk⟩, by simp [up_ap, wtS, wt, wL, lv0, lv_cm, lv_su, lv_mu, lv_ng, oO_n], fun k hk => by simp [wtS, wt, wL, lv0, lv_cm, lv_su, lv_mu, lv_ng, oO_n] at hk⟩, 0, by omega, by simp [up_ap], by simp [up_ap], ⟨by simp [tb, lv0, lv_cm], trivial⟩, by simp [up_ap]⟩ (by simp [cnS, cdS, cd, plL, wtS, wt, wL, lv0, lv_cm, lv_su, lv_mu, lv_ng, pO_n, oO_n]) (RsF.rf.up.up.up.up.up.up) hR
  have em : min (n : Int) 40 = (M : Int) := by omega
  refine wg (by decide) rgRe2_ok ts_24 py_24 ml_24 30 (by simp [catT]) (fun N hN => ?_)
  simp [bs_24, hN _, x_iconst, x_ldc2_w, x_aconst_null, x_iload, x_lload, x_aload, x_istore, x_lstore, x_astore, x_iinc, x_iadd, x_isub, x_imul, x_idiv, x_irem, x_iand, x_ior, x_ixor, x_ishl, x_ishr, x_iushr, x_ineg, x_ladd, x_lsub, x_lmul, x_ldiv, x_lrem, x_lcmp, x_i2l, x_i2b, x_i2s, x_i2c, x_dup, x_pop, x_dup_x1, x_dup2, x_getfield, x_putfield, x_iaload, x_baload, x_saload, x_caload, x_daload, x_faload, x_laload, x_aaload, x_iastore, x_bastore, x_sastore, x_castore, x_lastore, x_aastore, x_arraylength, x_getstatic, x_goto, x_goto_w, x_ifCond, x_if_icmp, x_ifnull, x_ifnonnull, x_lookupswitch, x_invokevirtual, x_invokestatic, x_invokedynamic, x_ireturn, x_freturn, x_dreturn, x_lreturn, x_areturn, x_return_, pI_c, pL_c, pR_c, pV_i, pV_r, gI_c, gL_c, gR_c, pN_z, pN_s, lget_c, lins_z, lins_c, ldel_z, ldel_c, ldel2_z, ldel2_c, lset_i, lset_l, lset_r, lkeep_z, lkeep_c, largs_z, largs_c, cat_i, cat_l, cat_r, lkp_c, cnd_eq, cnd_ne, cnd_lt, cnd_ge, cnd_gt, cnd_le, swL_z, swL_c, rE_e, rOr_s, rOr_n, rlk_z, rlk_c, aR_c, aI_c, aII_c, aIII_c, aRI_c, aRII_c, aRIII_c, vJn, vJs, vlc, aRR_c, aRRI_c, aRRII_c, aRRIII_c, aRIIII_c, aRL_c, aRLL_c, aLL_c, aRRRI_c, aIL_c, aIIII_c, aRRIIII_c, aIRII_c, aIR_c, aLI_c, aRIR_c, aRIIR_c, o, spMin, em]
  exact K
