/-! StruckColours: rests, treaties, series -/
def gnI (v x y : Int) : Int := (if y < x then v else if x = y then v / 2 else 0) - x - (if y + 3 ≤ x then 2 else 0)
def fpGain : Sp := fun as t σ Q => aIII as fun v x y => (0 ≤ v ∧ v ≤ 20) ∧ (0 ≤ x ∧ x ≤ 9) ∧ (0 ≤ y ∧ y ≤ 9) ∧ Q (some (vI (gnI v x y))) t σ
theorem f_gain {l : Launch} {g : GE} {d : Nat} {t : Tau} {σ : Mem} {Q : Post} {as : List TV} (h0 : fpGain as t σ Q) : WPc l g 162 (d + 1) 0 0 as t σ Q := by
  obtain ⟨v, x, y, rfl, hv, hx, hy, h⟩ := aIII_e h0
  clear h0
  have e1 : w32 (v.tdiv 2) = v / 2 := by rw [Int.tdiv_eq_ediv_of_nonneg (by omega)]; exact w32_id (by omega) (by omega)
  have e2 : w32 (x - y) = x - y := w32_id (by omega) (by omega)
  have e3 : w32 (0 - x) = 0 - x := w32_id (by omega) (by omega)
  have e4 : w32 (v - x) = v - x := w32_id (by omega) (by omega)
  have e5 : w32 (v / 2 - x) = v / 2 - x := w32_id (by omega) (by omega)
  have e6 : ∀ z, -100 ≤ z → z ≤ 100 → w32 (z - 2) = z - 2 := fun z a b => w32_id (by omega) (by omega)
  have e7 : ∀ z, -100 ≤ z → z ≤ 100 → w32 z = z := fun z a b => w32_id (by omega) (by omega)
  unfold gnI at h
  refine wg (by decide) rE_nil tk_162 py_162 ml_162 30 (by simp [catT]) (fun N hN => ?_)
  simp [bl_162, hN _, x_iconst, x_ldc2_w, x_aconst_null, x_iload, x_lload, x_aload, x_istore, x_lstore, x_astore, x_iinc, x_iadd, x_isub, x_imul, x_idiv, x_irem, x_iand, x_ior, x_ixor, x_ishl, x_ishr, x_iushr, x_ineg, x_ladd, x_lsub, x_lmul, x_ldiv, x_lrem, x_lcmp, x_i2l, x_i2b, x_i2s, x_i2c, x_dup, x_pop, x_dup_x1, x_dup2, x_getfield, x_putfield, x_iaload, x_baload, x_saload, x_caload, x_daload, x_faload, x_laload, x_aaload, x_iastore, x_bastore, x_sastore, x_castore, x_lastore, x_aastore, x_arraylength, x_getstatic, x_goto, x_goto_w, x_ifCond, x_if_icmp, x_ifnull, x_ifnonnull, x_lookupswitch, x_invokevirtual, x_invokestatic, x_invokedynamic, x_ireturn, x_freturn, x_dreturn, x_lreturn, x_areturn, x_return_, pI_c, pL_c, pR_c, pV_i, pV_r, gI_c, gL_c, gR_c, pN_z, pN_s, lget_c, lins_z, lins_c, ldel_z, ldel_c, ldel2_z, ldel2_c, lset_i, lset_l, lset_r, lkeep_z, lkeep_c, largs_z, largs_c, cat_i, cat_l, cat_r, lkp_c, cnd_eq, cnd_ne, cnd_lt, cnd_ge, cnd_gt, cnd_le, swL_z, swL_c, rE_e, rOr_s, rOr_n, rlk_z, rlk_c, aR_c, aI_c, aII_c, aIII_c, aRI_c, aRII_c, aRIII_c, vJn, vJs, vlc, aRR_c, aRRI_c, aRRII_c, aRRIII_c, aRIIII_c, aRL_c, aRLL_c, aLL_c, aRRRI_c, aIL_c, aIIII_c, aRRIIII_c, aIRII_c, aIR_c, aLI_c, aRIR_c, aRIIR_c, e1, e2, e4, e5]
  by_cases c1 : y < x
  · by_cases c2 : y + 3 ≤ x
    · simp [c1, c2] at h ⊢
      refine ⟨fun z => by omega, fun z => by omega, fun _ => ?_⟩
      rw [e6 _ (by omega) (by omega)]; exact h
    · simp [c1, c2] at h ⊢
      refine ⟨fun z => by omega, fun _ => h, fun z => by omega⟩
  · by_cases c3 : x = y
    · subst c3
      rw [if_neg (by omega), if_pos rfl, if_neg (by omega)] at h
      simp at h ⊢
      exact h
    · have c4 : ¬ y + 3 ≤ x := by omega
      simp [c1, c3, c4] at h ⊢
      refine fun _ => ⟨fun _ => ?_, fun z => by omega⟩
      rw [e7 (-x) (by omega) (by omega), e7 _ (by omega) (by omega)]
      exact h
theorem rgGn_ok {l : Launch} {g : GE} {d : Nat} : ∀ e as t σ Q, rE l g (d + 1) [(162, fpGain)] e as t σ Q → WPc l g e (d + 1) 0 0 as t σ Q := rE_cons (fun _ _ _ _ h => f_gain h) rE_nil
def cnB (v : Int) (x y : Nat) : Bool := sA (fun z => decide (gnI v z y ≤ gnI v x y)) 10
def fpContent : Sp := fun as t σ Q => aIII as fun v x y => (0 ≤ v ∧ v ≤ 20) ∧ (0 ≤ x ∧ x ≤ 9) ∧ (0 ≤ y ∧ y ≤ 9) ∧ Q (some (vI (if cnB v x.toNat y.toNat then 1 else 0))) t σ
theorem f_content {l : Launch} {g : GE} {d : Nat} {t : Tau} {σ : Mem} {Q : Post} {as : List TV} (h0 : fpContent as t σ Q) : WPc l g 161 (d + 2) 0 0 as t σ Q := by
  obtain ⟨v, x', y', rfl, hv, hx, hy, h⟩ := aIII_e h0
  clear h0
  obtain ⟨x, rfl⟩ : ∃ n : Nat, x' = n := ⟨x'.toNat, by omega⟩
  obtain ⟨y, rfl⟩ : ∃ n : Nat, y' = n := ⟨y'.toNat, by omega⟩
  simp only [Int.toNat_natCast] at h
  have hx9 : x ≤ 9 := by omega
  have hy9 : y ≤ 9 := by omega
  generalize hp : (fun z : Nat => decide (gnI v z y ≤ gnI v x y)) = p
  have hcn : cnB v x y = sA p 10 := by unfold cnB; rw [hp]
  simp only [hcn] at h
  have K : sA p 0 = true → Wp l g 161 (d + 2) 0 0 10 [(0, vI v), (2, vI y), (3, vI (gnI v x y)), (4, vI (0 : Nat))] [] t σ Q := by
    refine lpU (P := fun j => sA p j = true → Wp l g 161 (d + 2) 0 0 10 [(0, vI v), (2, vI y), (3, vI (gnI v x y)), (4, vI j)] [] t σ Q) (n := 10) ?_ (fun j hj K hs => ?_)
    · intro hs
      simp [hs] at h
      refine wa (by decide) rgGn_ok tk_161 30 (fun N hN => ?_)
      simp [bl_161, hN _, x_iconst, x_ldc2_w, x_aconst_null, x_iload, x_lload, x_aload, x_istore, x_lstore, x_astore, x_iinc, x_iadd, x_isub, x_imul, x_idiv, x_irem, x_iand, x_ior, x_ixor, x_ishl, x_ishr, x_iushr, x_ineg, x_ladd, x_lsub, x_lmul, x_ldiv, x_lrem, x_lcmp, x_i2l, x_i2b, x_i2s, x_i2c, x_dup, x_pop, x_dup_x1, x_dup2, x_getfield, x_putfield, x_iaload, x_baload, x_saload, x_caload, x_daload, x_faload, x_laload, x_aaload, x_iastore, x_bastore, x_sastore, x_castore, x_lastore, x_aastore, x_arraylength, x_getstatic, x_goto, x_goto_w, x_ifCond, x_if_icmp, x_ifnull, x_ifnonnull, x_lookupswitch, x_invokevirtual, x_invokestatic, x_invokedynamic, x_ireturn, x_freturn, x_dreturn, x_lreturn, x_areturn, x_return_, pI_c, pL_c, pR_c, pV_i, pV_r, gI_c, gL_c, gR_c, pN_z, pN_s, lget_c, lins_z, lins_c, ldel_z, ldel_c, ldel2_z, ldel2_c, lset_i, lset_l, lset_r, lkeep_z, lkeep_c, largs_z, largs_c, cat_i, cat_l, cat_r, lkp_c, cnd_eq, cnd_ne, cnd_lt, cnd_ge, cnd_gt, cnd_le, swL_z, swL_c, rE_e, rOr_s, rOr_n, rlk_z, rlk_c, aR_c, aI_c, aII_c, aIII_c, aRI_c, aRII_c, aRIII_c, vJn, vJs, vlc, aRR_c, aRRI_c, aRRII_c, aRRIII_c, aRIIII_c, aRL_c, aRLL_c, aLL_c, aRRRI_c, aIL_c, aIIII_c, aRRIIII_c, aIRII_c, aIR_c, aLI_c, aRIR_c, aRIIR_c]
      exact h
    · have e2 := w32_succ (k := j) (by omega); have i1 : ((j : Nat) : Int) < 10 := (by omega); have i1n : j < 10 := (by omega); have i1x : ¬ (10 : Int) ≤ (j : Nat) := (by omega)
      have j9 : ¬ (9 : Int) < j := by omega
      have j9n : ¬ 9 < j := by omega
      have j9a : j ≤ 9 := by omega
      have j9b : (j : Int) ≤ 9 := by omega
      have es : sA p (j + 1) = (sA p j && p j) := rfl
      rw [es, hs] at K
      have hf := sA_f (p := p) (k := j) (m := 10)
      have hpj : p j = decide (gnI v j y ≤ gnI v x y) := by rw [← hp]
      refine wa (by decide) rgGn_ok tk_161 30 (fun N hN => ?_)
      simp [bl_161, hN _, x_iconst, x_ldc2_w, x_aconst_null, x_iload, x_lload, x_aload, x_istore, x_lstore, x_astore, x_iinc, x_iadd, x_isub, x_imul, x_idiv, x_irem, x_iand, x_ior, x_ixor, x_ishl, x_ishr, x_iushr, x_ineg, x_ladd, x_lsub, x_lmul, x_ldiv, x_lrem, x_lcmp, x_i2l, x_i2b, x_i2s, x_i2c, x_dup, x_pop, x_dup_x1, x_dup2, x_getfield, x_putfield, x_iaload, x_baload, x_saload, x_caload, x_daload, x_faload, x_laload, x_aaload, x_iastore, x_bastore, x_sastore, x_castore, x_lastore, x_aastore, x_arraylength, x_getstatic, x_goto, x_goto_w, x_ifCond, x_if_icmp, x_ifnull, x_ifnonnull, x_lookupswitch, x_invokevirtual, x_invokestatic, x_invokedynamic, x_ireturn, x_freturn, x_dreturn, x_lreturn, x_areturn, x_return_, pI_c, pL_c, pR_c, pV_i, pV_r, gI_c, gL_c, gR_c, pN_z, pN_s, lget_c, lins_z, lins_c, ldel_z, ldel_c, ldel2_z, ldel2_c, lset_i, lset_l, lset_r, lkeep_z, lkeep_c, largs_z, largs_c, cat_i, cat_l, cat_r, lkp_c, cnd_eq, cnd_ne, cnd_lt, cnd_ge, cnd_gt, cnd_le, swL_z, swL_c, rE_e, rOr_s, rOr_n, rlk_z, rlk_c, aR_c, aI_c, aII_c, aIII_c, aRI_c, aRII_c, aRIII_c, vJn, vJs, vlc, aRR_c, aRRI_c, aRRII_c, aRRIII_c, aRIIII_c, aRL_c, aRLL_c, aLL_c, aRRRI_c, aIL_c, aIIII_c, aRRIIII_c, aIRII_c, aIR_c, aLI_c, aRIR_c, aRIIR_c, e2, i1, i1n, i1x, fpGain, hv, hy9, j9, j9n, j9a, j9b]
      cases hc : p j
      · simp [hf hc hj] at h
        rw [hc] at hpj
        have hpj : ¬ gnI v j y ≤ gnI v x y := by simpa using hpj
        exact ⟨by omega, fun z => (hpj z).elim, fun _ => h⟩
      · rw [hc] at K hpj
        have K := K rfl
        have hpj : gnI v j y ≤ gnI v x y := by simpa using hpj
        exact ⟨by omega, fun _ => by simpa using K, fun z => by omega⟩
  refine wg (by decide) rgGn_ok tk_161 py_161 ml_161 30 (by simp [catT]) (fun N hN => ?_)
  simp [bl_161, hN _, x_iconst, x_ldc2_w, x_aconst_null, x_iload, x_lload, x_aload, x_istore, x_lstore, x_astore, x_iinc, x_iadd, x_isub, x_imul, x_idiv, x_irem, x_iand, x_ior, x_ixor, x_ishl, x_ishr, x_iushr, x_ineg, x_ladd, x_lsub, x_lmul, x_ldiv, x_lrem, x_lcmp, x_i2l, x_i2b, x_i2s, x_i2c, x_dup, x_pop, x_dup_x1, x_dup2, x_getfield, x_putfield, x_iaload, x_baload, x_saload, x_caload, x_daload, x_faload, x_laload, x_aaload, x_iastore, x_bastore, x_sastore, x_castore, x_lastore, x_aastore, x_arraylength, x_getstatic, x_goto, x_goto_w, x_ifCond, x_if_icmp, x_ifnull, x_ifnonnull, x_lookupswitch, x_invokevirtual, x_invokestatic, x_invokedynamic, x_ireturn, x_freturn, x_dreturn, x_lreturn, x_areturn, x_return_, pI_c, pL_c, pR_c, pV_i, pV_r, gI_c, gL_c, gR_c, pN_z, pN_s, lget_c, lins_z, lins_c, ldel_z, ldel_c, ldel2_z, ldel2_c, lset_i, lset_l, lset_r, lkeep_z, lkeep_c, largs_z, largs_c, cat_i, cat_l, cat_r, lkp_c, cnd_eq, cnd_ne, cnd_lt, cnd_ge, cnd_gt, cnd_le, swL_z, swL_c, rE_e, rOr_s, rOr_n, rlk_z, rlk_c, aR_c, aI_c, aII_c, aIII_c, aRI_c, aRII_c, aRIII_c, vJn, vJs, vlc, aRR_c, aRRI_c, aRRII_c, aRRIII_c, aRIIII_c, aRL_c, aRLL_c, aLL_c, aRRRI_c, aIL_c, aIIII_c, aRRIIII_c, aIRII_c, aIR_c, aLI_c, aRIR_c, aRIIR_c, fpGain, hv, hx9, hy9]
  exact ⟨by omega, by omega, K rfl⟩
def rstJ (v : Int) (x : Nat) (s : Nat × List Int) : Nat → Nat × List Int := fo (fun y s => if cnB v x y && cnB v y x then (s.1 + 1, if s.1 = 0 then [(x : Int), (y : Int)] else s.2) else s) s
def rstI (v : Int) : Nat → Nat × List Int := fo (fun x s => rstJ v x s 10) (0, [])
def restsQ (v : Int) : QA := if 0 ≤ v ∧ v ≤ 20 then ((rstI v 10).1, some (rstI v 10).2) else (-1, none)
def rstW (s : Nat × List Int) (b : Nat) : Prop := (s.1 = 0 → s.2 = []) ∧ s.1 ≤ b
theorem rstJ_w {v : Int} {x b : Nat} {s : Nat × List Int} (h : rstW s b) : ∀ y, rstW (rstJ v x s y) (b + y)
  | 0 => h
  | y + 1 => by
    have ih := rstJ_w (v := v) (x := x) h y
    have es : rstJ v x s (y + 1) = if cnB v x y && cnB v y x then ((rstJ v x s y).1 + 1, if (rstJ v x s y).1 = 0 then [(x : Int), (y : Int)] else (rstJ v x s y).2) else rstJ v x s y := rfl
    rw [es]
    split
    · exact ⟨fun z => by simp at z, by have := ih.2; simp; omega⟩
    · exact ⟨ih.1, by have := ih.2; omega⟩
theorem rstI_w {v : Int} : ∀ x, rstW (rstI v x) (10 * x)
  | 0 => ⟨fun _ => rfl, Nat.le_refl _⟩
  | x + 1 => by
    have := rstJ_w (v := v) (x := x) (rstI_w (v := v) x) 10
    exact this
theorem rgCt_ok {l : Launch} {g : GE} {d : Nat} : ∀ e as t σ Q, rE l g (d + 6) ((161, fpContent) :: rgC) e as t σ Q → WPc l g e (d + 6) 0 0 as t σ Q := rE_cons (fun _ _ _ _ h => f_content h) rgC_ok
set_option maxHeartbeats 1000000 in
theorem o_rests {l : Launch} {g : GE} {d : Nat} {t : Tau} {σ : Mem} {Q : Post} {v : Int} (hC : TC t) (h : ansC (restsQ v) t σ Q) : WPc l g 128 (d + 7) 0 0 [vR 0, vI v] t σ Q := by
  unfold ansC restsQ at h
  by_cases hv : 0 ≤ v ∧ v ≤ 20
  · rw [if_pos hv] at h
    obtain ⟨v0, v1⟩ := hv
    have O : ∀ σ', QFr σ σ' → rwIs σ' (rstI v 0).2 → Wp l g 128 (d + 7) 0 0 23 [(0, vR 0), (1, vI v), (2, vI (rstI v 0).1), (3, vI (0 : Nat))] [] t σ' Q := by
      refine lpU (P := fun x => ∀ σ', QFr σ σ' → rwIs σ' (rstI v x).2 → Wp l g 128 (d + 7) 0 0 23 [(0, vR 0), (1, vI v), (2, vI (rstI v x).1), (3, vI x)] [] t σ' Q) (n := 10) ?_ (fun x hx KO σ' q hr => ?_)
      · intro σ' q hr
        refine wa (by decide) rgCt_ok tk_128 30 (fun N hN => ?_)
        simp [bl_128, hN _, x_iconst, x_ldc2_w, x_aconst_null, x_iload, x_lload, x_aload, x_istore, x_lstore, x_astore, x_iinc, x_iadd, x_isub, x_imul, x_idiv, x_irem, x_iand, x_ior, x_ixor, x_ishl, x_ishr, x_iushr, x_ineg, x_ladd, x_lsub, x_lmul, x_ldiv, x_lrem, x_lcmp, x_i2l, x_i2b, x_i2s, x_i2c, x_dup, x_pop, x_dup_x1, x_dup2, x_getfield, x_putfield, x_iaload, x_baload, x_saload, x_caload, x_daload, x_faload, x_laload, x_aaload, x_iastore, x_bastore, x_sastore, x_castore, x_lastore, x_aastore, x_arraylength, x_getstatic, x_goto, x_goto_w, x_ifCond, x_if_icmp, x_ifnull, x_ifnonnull, x_lookupswitch, x_invokevirtual, x_invokestatic, x_invokedynamic, x_ireturn, x_freturn, x_dreturn, x_lreturn, x_areturn, x_return_, pI_c, pL_c, pR_c, pV_i, pV_r, gI_c, gL_c, gR_c, pN_z, pN_s, lget_c, lins_z, lins_c, ldel_z, ldel_c, ldel2_z, ldel2_c, lset_i, lset_l, lset_r, lkeep_z, lkeep_c, largs_z, largs_c, cat_i, cat_l, cat_r, lkp_c, cnd_eq, cnd_ne, cnd_lt, cnd_ge, cnd_gt, cnd_le, swL_z, swL_c, rE_e, rOr_s, rOr_n, rlk_z, rlk_c, aR_c, aI_c, aII_c, aIII_c, aRI_c, aRII_c, aRIII_c, vJn, vJs, vlc, aRR_c, aRRI_c, aRRII_c, aRRIII_c, aRIIII_c, aRL_c, aRLL_c, aLL_c, aRRRI_c, aIL_c, aIIII_c, aRRIIII_c, aIRII_c, aIR_c, aLI_c, aRIR_c, aRIIR_c]
        exact h σ' ⟨q, hr⟩
      · have es : rstI v (x + 1) = rstJ v x (rstI v x) 10 := rfl
        rw [es] at KO
        have hw := rstI_w (v := v) x
        generalize rstI v x = S at KO hr hw ⊢
        have I : ∀ σ', QFr σ σ' → rwIs σ' (rstJ v x S 0).2 → Wp l g 128 (d + 7) 0 0 32 [(0, vR 0), (1, vI v), (2, vI (rstJ v x S 0).1), (3, vI x), (4, vI (0 : Nat))] [] t σ' Q := by
          refine lpU (P := fun y => ∀ σ', QFr σ σ' → rwIs σ' (rstJ v x S y).2 → Wp l g 128 (d + 7) 0 0 32 [(0, vR 0), (1, vI v), (2, vI (rstJ v x S y).1), (3, vI x), (4, vI y)] [] t σ' Q) (n := 10) ?_ (fun y hy K σ' q hr => ?_)
          · intro σ' q hr
            have K := KO σ' q hr
            have e2 := w32_succ (k := x) (by omega)
            refine wa (by decide) rgCt_ok tk_128 30 (fun N hN => ?_)
            simp [bl_128, hN _, x_iconst, x_ldc2_w, x_aconst_null, x_iload, x_lload, x_aload, x_istore, x_lstore, x_astore, x_iinc, x_iadd, x_isub, x_imul, x_idiv, x_irem, x_iand, x_ior, x_ixor, x_ishl, x_ishr, x_iushr, x_ineg, x_ladd, x_lsub, x_lmul, x_ldiv, x_lrem, x_lcmp, x_i2l, x_i2b, x_i2s, x_i2c, x_dup, x_pop, x_dup_x1, x_dup2, x_getfield, x_putfield, x_iaload, x_baload, x_saload, x_caload, x_daload, x_faload, x_laload, x_aaload, x_iastore, x_bastore, x_sastore, x_castore, x_lastore, x_aastore, x_arraylength, x_getstatic, x_goto, x_goto_w, x_ifCond, x_if_icmp, x_ifnull, x_ifnonnull, x_lookupswitch, x_invokevirtual, x_invokestatic, x_invokedynamic, x_ireturn, x_freturn, x_dreturn, x_lreturn, x_areturn, x_return_, pI_c, pL_c, pR_c, pV_i, pV_r, gI_c, gL_c, gR_c, pN_z, pN_s, lget_c, lins_z, lins_c, ldel_z, ldel_c, ldel2_z, ldel2_c, lset_i, lset_l, lset_r, lkeep_z, lkeep_c, largs_z, largs_c, cat_i, cat_l, cat_r, lkp_c, cnd_eq, cnd_ne, cnd_lt, cnd_ge, cnd_gt, cnd_le, swL_z, swL_c, rE_e, rOr_s, rOr_n, rlk_z, rlk_c, aR_c, aI_c, aII_c, aIII_c, aRI_c, aRII_c, aRIII_c, vJn, vJs, vlc, aRR_c, aRRI_c, aRRII_c, aRRIII_c, aRIIII_c, aRL_c, aRLL_c, aLL_c, aRRRI_c, aIL_c, aIIII_c, aRRIIII_c, aIRII_c, aIR_c, aLI_c, aRIR_c, aRIIR_c, e2]
            exact K
          · have hwy := rstJ_w (v := v) (x := x) hw y
            have er : rstJ v x S (y + 1) = if cnB v x y && cnB v y x then ((rstJ v x S y).1 + 1, if (rstJ v x S y).1 = 0 then [(x : Int), (y : Int)] else (rstJ v x S y).2) else rstJ v x S y := rfl
            rw [er] at K
            generalize rstJ v x S y = R at K hr hwy ⊢
            obtain ⟨w1, w2⟩ := hwy
            have e2 := w32_succ (k := y) (by omega)
            have e3 := w32_succ (k := R.1) (by omega)
            have y9 : ¬ (9 : Int) < y := by omega
            have y9n : ¬ 9 < y := by omega
            have y9a : y ≤ 9 := by omega
            have x9a : x ≤ 9 := by omega
            have y9b : (y : Int) ≤ 9 := by omega
            have x9b : (x : Int) ≤ 9 := by omega
            by_cases hz : R.1 = 0
            · have hn := w1 hz
              rw [hn] at hr
              have a1 : σ' 3 1 = 0 := by rw [hr.1]; rfl
              refine wa (by decide) rgCt_ok tk_128 30 (fun N hN => ?_)
              simp [bl_128, hN _, x_iconst, x_ldc2_w, x_aconst_null, x_iload, x_lload, x_aload, x_istore, x_lstore, x_astore, x_iinc, x_iadd, x_isub, x_imul, x_idiv, x_irem, x_iand, x_ior, x_ixor, x_ishl, x_ishr, x_iushr, x_ineg, x_ladd, x_lsub, x_lmul, x_ldiv, x_lrem, x_lcmp, x_i2l, x_i2b, x_i2s, x_i2c, x_dup, x_pop, x_dup_x1, x_dup2, x_getfield, x_putfield, x_iaload, x_baload, x_saload, x_caload, x_daload, x_faload, x_laload, x_aaload, x_iastore, x_bastore, x_sastore, x_castore, x_lastore, x_aastore, x_arraylength, x_getstatic, x_goto, x_goto_w, x_ifCond, x_if_icmp, x_ifnull, x_ifnonnull, x_lookupswitch, x_invokevirtual, x_invokestatic, x_invokedynamic, x_ireturn, x_freturn, x_dreturn, x_lreturn, x_areturn, x_return_, pI_c, pL_c, pR_c, pV_i, pV_r, gI_c, gL_c, gR_c, pN_z, pN_s, lget_c, lins_z, lins_c, ldel_z, ldel_c, ldel2_z, ldel2_c, lset_i, lset_l, lset_r, lkeep_z, lkeep_c, largs_z, largs_c, cat_i, cat_l, cat_r, lkp_c, cnd_eq, cnd_ne, cnd_lt, cnd_ge, cnd_gt, cnd_le, swL_z, swL_c, rE_e, rOr_s, rOr_n, rlk_z, rlk_c, aR_c, aI_c, aII_c, aIII_c, aRI_c, aRII_c, aRIII_c, vJn, vJs, vlc, aRR_c, aRRI_c, aRRII_c, aRRIII_c, aRIIII_c, aRL_c, aRLL_c, aLL_c, aRRRI_c, aIL_c, aIIII_c, aRRIIII_c, aIRII_c, aIR_c, aLI_c, aRIR_c, aRIIR_c, hC.o0, hC.f0_0, hC.f0_1, hC.f0_2, hC.f0_3, hC.f0_4, hC.f0_5, hC.f0_6, hC.f0_7, hC.f0_8, hC.f0_9, hC.f0_10, hC.f0_11, hC.o1, hC.f1, hC.t2, hC.l2, hC.o3, hC.f3, hC.t4, hC.l4, hC.s5, hC.s12, hC.s19, hC.s112, hC.s119, hC.o26, hC.f26, hC.t27, hC.l27, hC.s28, hC.o126, hC.f126_0, hC.f126_1, hC.t127, hC.l127, hC.t128, hC.l128, hC.s129, hC.n157, hC.n161, hC.o165, hC.f165, hC.t166, hC.l166, hC.r167, hC.r171, hC.q5, hC.q12, hC.q19, hC.q112, hC.q119, hC.a2, hC.a4, hC.a27, hC.a127, hC.a128, hC, fpContent, rpAdds, v0, v1, y9, y9n, y9a, x9a, y9b, x9b, a1, up_ap, hz, e2, w32_1]
              have hr2 : rwIs (up (up (up (up σ' 4 0 x) 3 1 1) 4 1 y) 3 1 2) [(x : Int), (y : Int)] := by
                have r1 := hr.add (v := (x : Int)) (by simp)
                have r2 := r1.add (v := (y : Int)) (by simp)
                simpa [a1, up_ap] using r2
              have q2 : QFr σ (up (up (up (up σ' 4 0 x) 3 1 1) 4 1 y) 3 1 2) := (((q.up scr4).up scr3).up scr4).up scr3
              cases h1 : cnB v x y <;> cases h2 : cnB v y x <;> simp [h1, h2, hz, hn] at K ⊢
              · exact K σ' q hr
              · exact K σ' q hr
              · exact K σ' q hr
              · exact K _ q2 hr2
            · have hz' : ¬ (R.1 : Int) = 0 := by omega
              refine wa (by decide) rgCt_ok tk_128 30 (fun N hN => ?_)
              simp [bl_128, hN _, x_iconst, x_ldc2_w, x_aconst_null, x_iload, x_lload, x_aload, x_istore, x_lstore, x_astore, x_iinc, x_iadd, x_isub, x_imul, x_idiv, x_irem, x_iand, x_ior, x_ixor, x_ishl, x_ishr, x_iushr, x_ineg, x_ladd, x_lsub, x_lmul, x_ldiv, x_lrem, x_lcmp, x_i2l, x_i2b, x_i2s, x_i2c, x_dup, x_pop, x_dup_x1, x_dup2, x_getfield, x_putfield, x_iaload, x_baload, x_saload, x_caload, x_daload, x_faload, x_laload, x_aaload, x_iastore, x_bastore, x_sastore, x_castore, x_lastore, x_aastore, x_arraylength, x_getstatic, x_goto, x_goto_w, x_ifCond, x_if_icmp, x_ifnull, x_ifnonnull, x_lookupswitch, x_invokevirtual, x_invokestatic, x_invokedynamic, x_ireturn, x_freturn, x_dreturn, x_lreturn, x_areturn, x_return_, pI_c, pL_c, pR_c, pV_i, pV_r, gI_c, gL_c, gR_c, pN_z, pN_s, lget_c, lins_z, lins_c, ldel_z, ldel_c, ldel2_z, ldel2_c, lset_i, lset_l, lset_r, lkeep_z, lkeep_c, largs_z, largs_c, cat_i, cat_l, cat_r, lkp_c, cnd_eq, cnd_ne, cnd_lt, cnd_ge, cnd_gt, cnd_le, swL_z, swL_c, rE_e, rOr_s, rOr_n, rlk_z, rlk_c, aR_c, aI_c, aII_c, aIII_c, aRI_c, aRII_c, aRIII_c, vJn, vJs, vlc, aRR_c, aRRI_c, aRRII_c, aRRIII_c, aRIIII_c, aRL_c, aRLL_c, aLL_c, aRRRI_c, aIL_c, aIIII_c, aRRIIII_c, aIRII_c, aIR_c, aLI_c, aRIR_c, aRIIR_c, hC.o0, hC.f0_0, hC.f0_1, hC.f0_2, hC.f0_3, hC.f0_4, hC.f0_5, hC.f0_6, hC.f0_7, hC.f0_8, hC.f0_9, hC.f0_10, hC.f0_11, hC.o1, hC.f1, hC.t2, hC.l2, hC.o3, hC.f3, hC.t4, hC.l4, hC.s5, hC.s12, hC.s19, hC.s112, hC.s119, hC.o26, hC.f26, hC.t27, hC.l27, hC.s28, hC.o126, hC.f126_0, hC.f126_1, hC.t127, hC.l127, hC.t128, hC.l128, hC.s129, hC.n157, hC.n161, hC.o165, hC.f165, hC.t166, hC.l166, hC.r167, hC.r171, hC.q5, hC.q12, hC.q19, hC.q112, hC.q119, hC.a2, hC.a4, hC.a27, hC.a127, hC.a128, hC, fpContent, v0, v1, y9, y9n, y9a, x9a, y9b, x9b, up_ap, hz, e2, e3]
              cases h1 : cnB v x y <;> cases h2 : cnB v y x <;> simp [h1, h2, hz] at K ⊢ <;> exact K σ' q hr
        have K := I σ' q hr
        have x9 : ¬ (9 : Int) < x := by omega
        have x9n : ¬ 9 < x := by omega
        refine wa (by decide) rgCt_ok tk_128 30 (fun N hN => ?_)
        simp [bl_128, hN _, x_iconst, x_ldc2_w, x_aconst_null, x_iload, x_lload, x_aload, x_istore, x_lstore, x_astore, x_iinc, x_iadd, x_isub, x_imul, x_idiv, x_irem, x_iand, x_ior, x_ixor, x_ishl, x_ishr, x_iushr, x_ineg, x_ladd, x_lsub, x_lmul, x_ldiv, x_lrem, x_lcmp, x_i2l, x_i2b, x_i2s, x_i2c, x_dup, x_pop, x_dup_x1, x_dup2, x_getfield, x_putfield, x_iaload, x_baload, x_saload, x_caload, x_daload, x_faload, x_laload, x_aaload, x_iastore, x_bastore, x_sastore, x_castore, x_lastore, x_aastore, x_arraylength, x_getstatic, x_goto, x_goto_w, x_ifCond, x_if_icmp, x_ifnull, x_ifnonnull, x_lookupswitch, x_invokevirtual, x_invokestatic, x_invokedynamic, x_ireturn, x_freturn, x_dreturn, x_lreturn, x_areturn, x_return_, pI_c, pL_c, pR_c, pV_i, pV_r, gI_c, gL_c, gR_c, pN_z, pN_s, lget_c, lins_z, lins_c, ldel_z, ldel_c, ldel2_z, ldel2_c, lset_i, lset_l, lset_r, lkeep_z, lkeep_c, largs_z, largs_c, cat_i, cat_l, cat_r, lkp_c, cnd_eq, cnd_ne, cnd_lt, cnd_ge, cnd_gt, cnd_le, swL_z, swL_c, rE_e, rOr_s, rOr_n, rlk_z, rlk_c, aR_c, aI_c, aII_c, aIII_c, aRI_c, aRII_c, aRIII_c, vJn, vJs, vlc, aRR_c, aRRI_c, aRRII_c, aRRIII_c, aRIIII_c, aRL_c, aRLL_c, aLL_c, aRRRI_c, aIL_c, aIIII_c, aRRIIII_c, aIRII_c, aIR_c, aLI_c, aRIR_c, aRIIR_c, x9, x9n]
        exact fun _ => K
    have K := O _ (QFr.rf.up scr3) rwIs.nil
    refine wg (by decide) rgCt_ok tk_128 py_128 ml_128 30 (by simp [catT]) (fun N hN => ?_)
    simp [bl_128, hN _, x_iconst, x_ldc2_w, x_aconst_null, x_iload, x_lload, x_aload, x_istore, x_lstore, x_astore, x_iinc, x_iadd, x_isub, x_imul, x_idiv, x_irem, x_iand, x_ior, x_ixor, x_ishl, x_ishr, x_iushr, x_ineg, x_ladd, x_lsub, x_lmul, x_ldiv, x_lrem, x_lcmp, x_i2l, x_i2b, x_i2s, x_i2c, x_dup, x_pop, x_dup_x1, x_dup2, x_getfield, x_putfield, x_iaload, x_baload, x_saload, x_caload, x_daload, x_faload, x_laload, x_aaload, x_iastore, x_bastore, x_sastore, x_castore, x_lastore, x_aastore, x_arraylength, x_getstatic, x_goto, x_goto_w, x_ifCond, x_if_icmp, x_ifnull, x_ifnonnull, x_lookupswitch, x_invokevirtual, x_invokestatic, x_invokedynamic, x_ireturn, x_freturn, x_dreturn, x_lreturn, x_areturn, x_return_, pI_c, pL_c, pR_c, pV_i, pV_r, gI_c, gL_c, gR_c, pN_z, pN_s, lget_c, lins_z, lins_c, ldel_z, ldel_c, ldel2_z, ldel2_c, lset_i, lset_l, lset_r, lkeep_z, lkeep_c, largs_z, largs_c, cat_i, cat_l, cat_r, lkp_c, cnd_eq, cnd_ne, cnd_lt, cnd_ge, cnd_gt, cnd_le, swL_z, swL_c, rE_e, rOr_s, rOr_n, rlk_z, rlk_c, aR_c, aI_c, aII_c, aIII_c, aRI_c, aRII_c, aRIII_c, vJn, vJs, vlc, aRR_c, aRRI_c, aRRII_c, aRRIII_c, aRIIII_c, aRL_c, aRLL_c, aLL_c, aRRRI_c, aIL_c, aIIII_c, aRRIIII_c, aIRII_c, aIR_c, aLI_c, aRIR_c, aRIIR_c, hC.o0, hC.f0_0, hC.f0_1, hC.f0_2, hC.f0_3, hC.f0_4, hC.f0_5, hC.f0_6, hC.f0_7, hC.f0_8, hC.f0_9, hC.f0_10, hC.f0_11, hC.o1, hC.f1, hC.t2, hC.l2, hC.o3, hC.f3, hC.t4, hC.l4, hC.s5, hC.s12, hC.s19, hC.s112, hC.s119, hC.o26, hC.f26, hC.t27, hC.l27, hC.s28, hC.o126, hC.f126_0, hC.f126_1, hC.t127, hC.l127, hC.t128, hC.l128, hC.s129, hC.n157, hC.n161, hC.o165, hC.f165, hC.t166, hC.l166, hC.r167, hC.r171, hC.q5, hC.q12, hC.q19, hC.q112, hC.q119, hC.a2, hC.a4, hC.a27, hC.a127, hC.a128, hC, rpClears, v0, v1, Int.not_lt.mpr v0, Int.not_lt.mpr v1]
    exact K
  · rw [if_neg hv] at h
    have h := h σ QTo.rf
    refine wg (by decide) rgCt_ok tk_128 py_128 ml_128 30 (by simp [catT]) (fun N hN => ?_)
    simp [bl_128, hN _, x_iconst, x_ldc2_w, x_aconst_null, x_iload, x_lload, x_aload, x_istore, x_lstore, x_astore, x_iinc, x_iadd, x_isub, x_imul, x_idiv, x_irem, x_iand, x_ior, x_ixor, x_ishl, x_ishr, x_iushr, x_ineg, x_ladd, x_lsub, x_lmul, x_ldiv, x_lrem, x_lcmp, x_i2l, x_i2b, x_i2s, x_i2c, x_dup, x_pop, x_dup_x1, x_dup2, x_getfield, x_putfield, x_iaload, x_baload, x_saload, x_caload, x_daload, x_faload, x_laload, x_aaload, x_iastore, x_bastore, x_sastore, x_castore, x_lastore, x_aastore, x_arraylength, x_getstatic, x_goto, x_goto_w, x_ifCond, x_if_icmp, x_ifnull, x_ifnonnull, x_lookupswitch, x_invokevirtual, x_invokestatic, x_invokedynamic, x_ireturn, x_freturn, x_dreturn, x_lreturn, x_areturn, x_return_, pI_c, pL_c, pR_c, pV_i, pV_r, gI_c, gL_c, gR_c, pN_z, pN_s, lget_c, lins_z, lins_c, ldel_z, ldel_c, ldel2_z, ldel2_c, lset_i, lset_l, lset_r, lkeep_z, lkeep_c, largs_z, largs_c, cat_i, cat_l, cat_r, lkp_c, cnd_eq, cnd_ne, cnd_lt, cnd_ge, cnd_gt, cnd_le, swL_z, swL_c, rE_e, rOr_s, rOr_n, rlk_z, rlk_c, aR_c, aI_c, aII_c, aIII_c, aRI_c, aRII_c, aRIII_c, vJn, vJs, vlc, aRR_c, aRRI_c, aRRII_c, aRRIII_c, aRIIII_c, aRL_c, aRLL_c, aLL_c, aRRRI_c, aIL_c, aIIII_c, aRRIIII_c, aIRII_c, aIR_c, aLI_c, aRIR_c, aRIIR_c]
    grind
/-! treaties -/
def cdN (a : Nat) : Nat := [0, 2, 1, 5, 7, 3, 10, 4, 13, 15, 6, 18, 20, 8, 23, 9, 26, 28, 11, 31, 12, 34, 36, 14, 39, 41, 16, 44, 17, 47, 49].getD a 0
theorem cd_g0 : ∀ a : Fin 31, (stL 4).getD a.val 0 = (cdN a.val : Int) := by decide +kernel
def fpCold : Sp := fun as t σ Q => aII as fun a b => (0 ≤ a ∧ a ≤ 30) ∧ Q (some (vI (if (cdN a.toNat : Int) = b then 1 else 0))) t σ
theorem f_cold {l : Launch} {g : GE} {d : Nat} {t : Tau} {σ : Mem} {Q : Post} {as : List TV} (h0 : fpCold as t σ Q) : WPc l g 160 (d + 1) 0 0 as t σ Q := by
  obtain ⟨a, b, rfl, ha, h⟩ := aII_e h0
  clear h0
  obtain ⟨m, rfl⟩ : ∃ m : Nat, a = m := ⟨a.toNat, by omega⟩
  have n7 : (m : Int) < 31 := by omega
  have n8 : ¬ (31 : Int) ≤ m := by omega
  have n9 : m < 31 := by omega
  have n10 : ¬ 31 ≤ m := by omega
  have n11 : ¬ (m : Int) < 0 := by omega
  have e : sCt g 4 m = (cdN m : Int) := cd_g0 ⟨m, n9⟩
  have e2 : sLen g 4 = 31 := rfl
  simp only [Int.toNat_natCast] at h
  refine wg (by decide) rE_nil tk_160 py_160 ml_160 30 (by simp [catT]) (fun N hN => ?_)
  simp [bl_160, hN _, x_iconst, x_ldc2_w, x_aconst_null, x_iload, x_lload, x_aload, x_istore, x_lstore, x_astore, x_iinc, x_iadd, x_isub, x_imul, x_idiv, x_irem, x_iand, x_ior, x_ixor, x_ishl, x_ishr, x_iushr, x_ineg, x_ladd, x_lsub, x_lmul, x_ldiv, x_lrem, x_lcmp, x_i2l, x_i2b, x_i2s, x_i2c, x_dup, x_pop, x_dup_x1, x_dup2, x_getfield, x_putfield, x_iaload, x_baload, x_saload, x_caload, x_daload, x_faload, x_laload, x_aaload, x_iastore, x_bastore, x_sastore, x_castore, x_lastore, x_aastore, x_arraylength, x_getstatic, x_goto, x_goto_w, x_ifCond, x_if_icmp, x_ifnull, x_ifnonnull, x_lookupswitch, x_invokevirtual, x_invokestatic, x_invokedynamic, x_ireturn, x_freturn, x_dreturn, x_lreturn, x_areturn, x_return_, pI_c, pL_c, pR_c, pV_i, pV_r, gI_c, gL_c, gR_c, pN_z, pN_s, lget_c, lins_z, lins_c, ldel_z, ldel_c, ldel2_z, ldel2_c, lset_i, lset_l, lset_r, lkeep_z, lkeep_c, largs_z, largs_c, cat_i, cat_l, cat_r, lkp_c, cnd_eq, cnd_ne, cnd_lt, cnd_ge, cnd_gt, cnd_le, swL_z, swL_c, rE_e, rOr_s, rOr_n, rlk_z, rlk_c, aR_c, aI_c, aII_c, aIII_c, aRI_c, aRII_c, aRIII_c, vJn, vJs, vlc, aRR_c, aRRI_c, aRRII_c, aRRIII_c, aRIIII_c, aRL_c, aRLL_c, aLL_c, aRRRI_c, aIL_c, aIIII_c, aRRIIII_c, aIRII_c, aIR_c, aLI_c, aRIR_c, aRIIR_c, e, e2, n7, n8, n9, n10, n11]
  grind
theorem rgCd_ok {l : Launch} {g : GE} {d : Nat} : ∀ e as t σ Q, rE l g (d + 6) ((160, fpCold) :: rgC) e as t σ Q → WPc l g e (d + 6) 0 0 as t σ Q := rE_cons (fun _ _ _ _ h => f_cold h) rgC_ok
def trJ (a b x : Nat) (c : QA) : Nat → Nat → QA
  | 0, _ => c
  | r + 1, y => if (x = 0 ∨ y = 0 ∨ x = y) ∧ cdN (a - x) = b - y then (1, some [(x : Int), (y : Int)]) else trJ a b x c r (y + 1)
def trI (a b : Nat) : Nat → Nat → QA
  | 0, _ => (0, some [])
  | r + 1, x => trJ a b x (trI a b r (x + 1)) (b + 1) 0
def trQ (a b : Int) : QA := if (0 ≤ a ∧ a ≤ 30) ∧ (0 ≤ b ∧ b ≤ 30) then (if cdN a.toNat = b.toNat then (0, some []) else trI a.toNat b.toNat (a.toNat + 1) 0) else (-1, none)
set_option maxHeartbeats 1000000 in
theorem o_treaty {l : Launch} {g : GE} {d : Nat} {t : Tau} {σ : Mem} {Q : Post} {a b : Int} (hC : TC t) (h : ansC (trQ a b) t σ Q) : WPc l g 126 (d + 7) 0 0 [vR 0, vI a, vI b] t σ Q := by
  unfold trQ at h
  by_cases hv : (0 ≤ a ∧ a ≤ 30) ∧ (0 ≤ b ∧ b ≤ 30)
  · rw [if_pos hv] at h
    obtain ⟨⟨a0, a1⟩, b0, b1⟩ := hv
    obtain ⟨m, rfl⟩ : ∃ m : Nat, a = m := ⟨a.toNat, by omega⟩
    obtain ⟨n, rfl⟩ : ∃ n : Nat, b = n := ⟨b.toNat, by omega⟩
    simp only [Int.toNat_natCast] at h
    have O : ∀ (q x : Nat), x + q = m + 1 → ansC (trI m n q x) t σ Q → Wp l g 126 (d + 7) 0 0 41 [(0, vR 0), (1, vI m), (2, vI n), (3, vI x)] [] t (up σ 3 1 0) Q := by
      intro q
      induction q with
      | zero =>
        intro x hx hQ
        have x1 : (m : Int) < x := by omega
        have x2 : m < x := by omega
        refine wa (by decide) rgCd_ok tk_126 30 (fun N hN => ?_)
        simp [bl_126, hN _, x_iconst, x_ldc2_w, x_aconst_null, x_iload, x_lload, x_aload, x_istore, x_lstore, x_astore, x_iinc, x_iadd, x_isub, x_imul, x_idiv, x_irem, x_iand, x_ior, x_ixor, x_ishl, x_ishr, x_iushr, x_ineg, x_ladd, x_lsub, x_lmul, x_ldiv, x_lrem, x_lcmp, x_i2l, x_i2b, x_i2s, x_i2c, x_dup, x_pop, x_dup_x1, x_dup2, x_getfield, x_putfield, x_iaload, x_baload, x_saload, x_caload, x_daload, x_faload, x_laload, x_aaload, x_iastore, x_bastore, x_sastore, x_castore, x_lastore, x_aastore, x_arraylength, x_getstatic, x_goto, x_goto_w, x_ifCond, x_if_icmp, x_ifnull, x_ifnonnull, x_lookupswitch, x_invokevirtual, x_invokestatic, x_invokedynamic, x_ireturn, x_freturn, x_dreturn, x_lreturn, x_areturn, x_return_, pI_c, pL_c, pR_c, pV_i, pV_r, gI_c, gL_c, gR_c, pN_z, pN_s, lget_c, lins_z, lins_c, ldel_z, ldel_c, ldel2_z, ldel2_c, lset_i, lset_l, lset_r, lkeep_z, lkeep_c, largs_z, largs_c, cat_i, cat_l, cat_r, lkp_c, cnd_eq, cnd_ne, cnd_lt, cnd_ge, cnd_gt, cnd_le, swL_z, swL_c, rE_e, rOr_s, rOr_n, rlk_z, rlk_c, aR_c, aI_c, aII_c, aIII_c, aRI_c, aRII_c, aRIII_c, vJn, vJs, vlc, aRR_c, aRRI_c, aRRII_c, aRRIII_c, aRIIII_c, aRL_c, aRLL_c, aLL_c, aRRRI_c, aIL_c, aIIII_c, aRRIIII_c, aIRII_c, aIR_c, aLI_c, aRIR_c, aRIIR_c, x1, x2]
        exact ⟨hQ _ ⟨QFr.rf.up scr3, rwIs.nil⟩, fun z => by omega⟩
      | succ q ih =>
        intro x hx hQ
        have I : ∀ (r y : Nat), y + r = n + 1 → ansC (trJ m n x (trI m n q (x + 1)) r y) t σ Q → Wp l g 126 (d + 7) 0 0 49 [(0, vR 0), (1, vI m), (2, vI n), (3, vI x), (4, vI y)] [] t (up σ 3 1 0) Q := by
          intro r
          induction r with
          | zero =>
            intro y hy hQ
            have x2 : n < y := by omega
            have K := ih (x + 1) (by omega) hQ
            have e2 := w32_succ (k := x) (by omega)
            refine wa (by decide) rgCd_ok tk_126 30 (fun N hN => ?_)
            simp [bl_126, hN _, x_iconst, x_ldc2_w, x_aconst_null, x_iload, x_lload, x_aload, x_istore, x_lstore, x_astore, x_iinc, x_iadd, x_isub, x_imul, x_idiv, x_irem, x_iand, x_ior, x_ixor, x_ishl, x_ishr, x_iushr, x_ineg, x_ladd, x_lsub, x_lmul, x_ldiv, x_lrem, x_lcmp, x_i2l, x_i2b, x_i2s, x_i2c, x_dup, x_pop, x_dup_x1, x_dup2, x_getfield, x_putfield, x_iaload, x_baload, x_saload, x_caload, x_daload, x_faload, x_laload, x_aaload, x_iastore, x_bastore, x_sastore, x_castore, x_lastore, x_aastore, x_arraylength, x_getstatic, x_goto, x_goto_w, x_ifCond, x_if_icmp, x_ifnull, x_ifnonnull, x_lookupswitch, x_invokevirtual, x_invokestatic, x_invokedynamic, x_ireturn, x_freturn, x_dreturn, x_lreturn, x_areturn, x_return_, pI_c, pL_c, pR_c, pV_i, pV_r, gI_c, gL_c, gR_c, pN_z, pN_s, lget_c, lins_z, lins_c, ldel_z, ldel_c, ldel2_z, ldel2_c, lset_i, lset_l, lset_r, lkeep_z, lkeep_c, largs_z, largs_c, cat_i, cat_l, cat_r, lkp_c, cnd_eq, cnd_ne, cnd_lt, cnd_ge, cnd_gt, cnd_le, swL_z, swL_c, rE_e, rOr_s, rOr_n, rlk_z, rlk_c, aR_c, aI_c, aII_c, aIII_c, aRI_c, aRII_c, aRIII_c, vJn, vJs, vlc, aRR_c, aRRI_c, aRRII_c, aRRIII_c, aRIIII_c, aRL_c, aRLL_c, aLL_c, aRRRI_c, aIL_c, aIIII_c, aRRIIII_c, aIRII_c, aIR_c, aLI_c, aRIR_c, aRIIR_c, e2]
            exact ⟨fun _ => K, fun z => by omega⟩
          | succ r ihr =>
            intro y hy hQ
            have er : trJ m n x (trI m n q (x + 1)) (r + 1) y = if (x = 0 ∨ y = 0 ∨ x = y) ∧ cdN (m - x) = n - y then (1, some [(x : Int), (y : Int)]) else trJ m n x (trI m n q (x + 1)) r (y + 1) := rfl
            rw [er] at hQ
            have e2 := w32_succ (k := y) (by omega)
            have e3 : w32 ((m : Int) - x) = ((m - x : Nat) : Int) := by rw [w32_id (by omega) (by omega)]; omega
            have e4 : w32 ((n : Int) - y) = ((n - y : Nat) : Int) := by rw [w32_id (by omega) (by omega)]; omega
            have m1 : ((m - x : Nat) : Int) ≤ 30 := by omega
            have m2 : m - x ≤ 30 := by omega
            have m3 : 0 ≤ (m : Int) - x := by omega
            have y2 : ¬ n < y := by omega
            have hgo : ¬ ((x = 0 ∨ y = 0 ∨ x = y) ∧ cdN (m - x) = n - y) → Wp l g 126 (d + 7) 0 0 49 [(0, vR 0), (1, vI m), (2, vI n), (3, vI x), (4, vI (y + 1 : Nat))] [] t (up σ 3 1 0) Q := fun hc => by
              rw [if_neg hc] at hQ
              exact ihr (y + 1) (by omega) hQ
            have hyes : ((x = 0 ∨ y = 0 ∨ x = y) ∧ cdN (m - x) = n - y) → Q (some (vI 1)) t (up (up (up (up (up σ 3 1 0) 4 0 x) 3 1 1) 4 1 y) 3 1 2) := fun hc => by
              rw [if_pos hc] at hQ
              exact hQ _ (QTo.q2 QFr.rf)
            refine wa (by decide) rgCd_ok tk_126 30 (fun N hN => ?_)
            simp [bl_126, hN _, x_iconst, x_ldc2_w, x_aconst_null, x_iload, x_lload, x_aload, x_istore, x_lstore, x_astore, x_iinc, x_iadd, x_isub, x_imul, x_idiv, x_irem, x_iand, x_ior, x_ixor, x_ishl, x_ishr, x_iushr, x_ineg, x_ladd, x_lsub, x_lmul, x_ldiv, x_lrem, x_lcmp, x_i2l, x_i2b, x_i2s, x_i2c, x_dup, x_pop, x_dup_x1, x_dup2, x_getfield, x_putfield, x_iaload, x_baload, x_saload, x_caload, x_daload, x_faload, x_laload, x_aaload, x_iastore, x_bastore, x_sastore, x_castore, x_lastore, x_aastore, x_arraylength, x_getstatic, x_goto, x_goto_w, x_ifCond, x_if_icmp, x_ifnull, x_ifnonnull, x_lookupswitch, x_invokevirtual, x_invokestatic, x_invokedynamic, x_ireturn, x_freturn, x_dreturn, x_lreturn, x_areturn, x_return_, pI_c, pL_c, pR_c, pV_i, pV_r, gI_c, gL_c, gR_c, pN_z, pN_s, lget_c, lins_z, lins_c, ldel_z, ldel_c, ldel2_z, ldel2_c, lset_i, lset_l, lset_r, lkeep_z, lkeep_c, largs_z, largs_c, cat_i, cat_l, cat_r, lkp_c, cnd_eq, cnd_ne, cnd_lt, cnd_ge, cnd_gt, cnd_le, swL_z, swL_c, rE_e, rOr_s, rOr_n, rlk_z, rlk_c, aR_c, aI_c, aII_c, aIII_c, aRI_c, aRII_c, aRIII_c, vJn, vJs, vlc, aRR_c, aRRI_c, aRRII_c, aRRIII_c, aRIIII_c, aRL_c, aRLL_c, aLL_c, aRRRI_c, aIL_c, aIIII_c, aRRIIII_c, aIRII_c, aIR_c, aLI_c, aRIR_c, aRIIR_c, hC.o0, hC.f0_0, hC.f0_1, hC.f0_2, hC.f0_3, hC.f0_4, hC.f0_5, hC.f0_6, hC.f0_7, hC.f0_8, hC.f0_9, hC.f0_10, hC.f0_11, hC.o1, hC.f1, hC.t2, hC.l2, hC.o3, hC.f3, hC.t4, hC.l4, hC.s5, hC.s12, hC.s19, hC.s112, hC.s119, hC.o26, hC.f26, hC.t27, hC.l27, hC.s28, hC.o126, hC.f126_0, hC.f126_1, hC.t127, hC.l127, hC.t128, hC.l128, hC.s129, hC.n157, hC.n161, hC.o165, hC.f165, hC.t166, hC.l166, hC.r167, hC.r171, hC.q5, hC.q12, hC.q19, hC.q112, hC.q119, hC.a2, hC.a4, hC.a27, hC.a127, hC.a128, hC, fpCold, rpAdds, up_ap, e2, e3, e4, m1, m2, y2]
            simp only [Int.natCast_add, Int.cast_ofNat_Int] at hgo
            exact fun _ => ⟨fun a => ⟨fun c => hgo (by omega), fun c => hyes (by omega)⟩, fun a => ⟨fun b => ⟨fun c => hgo (by omega), fun c => hyes (by omega)⟩, fun b => ⟨fun c => hgo (by omega), fun c => ⟨fun e => hgo (by omega), fun e => hyes (by omega)⟩⟩⟩⟩
        have K := I (n + 1) 0 (by omega) hQ
        have x2 : ¬ m < x := by omega
        refine wa (by decide) rgCd_ok tk_126 30 (fun N hN => ?_)
        simp [bl_126, hN _, x_iconst, x_ldc2_w, x_aconst_null, x_iload, x_lload, x_aload, x_istore, x_lstore, x_astore, x_iinc, x_iadd, x_isub, x_imul, x_idiv, x_irem, x_iand, x_ior, x_ixor, x_ishl, x_ishr, x_iushr, x_ineg, x_ladd, x_lsub, x_lmul, x_ldiv, x_lrem, x_lcmp, x_i2l, x_i2b, x_i2s, x_i2c, x_dup, x_pop, x_dup_x1, x_dup2, x_getfield, x_putfield, x_iaload, x_baload, x_saload, x_caload, x_daload, x_faload, x_laload, x_aaload, x_iastore, x_bastore, x_sastore, x_castore, x_lastore, x_aastore, x_arraylength, x_getstatic, x_goto, x_goto_w, x_ifCond, x_if_icmp, x_ifnull, x_ifnonnull, x_lookupswitch, x_invokevirtual, x_invokestatic, x_invokedynamic, x_ireturn, x_freturn, x_dreturn, x_lreturn, x_areturn, x_return_, pI_c, pL_c, pR_c, pV_i, pV_r, gI_c, gL_c, gR_c, pN_z, pN_s, lget_c, lins_z, lins_c, ldel_z, ldel_c, ldel2_z, ldel2_c, lset_i, lset_l, lset_r, lkeep_z, lkeep_c, largs_z, largs_c, cat_i, cat_l, cat_r, lkp_c, cnd_eq, cnd_ne, cnd_lt, cnd_ge, cnd_gt, cnd_le, swL_z, swL_c, rE_e, rOr_s, rOr_n, rlk_z, rlk_c, aR_c, aI_c, aII_c, aIII_c, aRI_c, aRII_c, aRIII_c, vJn, vJs, vlc, aRR_c, aRRI_c, aRRII_c, aRRIII_c, aRIIII_c, aRL_c, aRLL_c, aLL_c, aRRRI_c, aIL_c, aIIII_c, aRRIIII_c, aIRII_c, aIR_c, aLI_c, aRIR_c, aRIIR_c, x2]
        exact fun _ => K
    have a30 : m ≤ 30 := by omega
    have b30 : n ≤ 30 := by omega
    refine wg (by decide) rgCd_ok tk_126 py_126 ml_126 30 (by simp [catT]) (fun N hN => ?_)
    simp [bl_126, hN _, x_iconst, x_ldc2_w, x_aconst_null, x_iload, x_lload, x_aload, x_istore, x_lstore, x_astore, x_iinc, x_iadd, x_isub, x_imul, x_idiv, x_irem, x_iand, x_ior, x_ixor, x_ishl, x_ishr, x_iushr, x_ineg, x_ladd, x_lsub, x_lmul, x_ldiv, x_lrem, x_lcmp, x_i2l, x_i2b, x_i2s, x_i2c, x_dup, x_pop, x_dup_x1, x_dup2, x_getfield, x_putfield, x_iaload, x_baload, x_saload, x_caload, x_daload, x_faload, x_laload, x_aaload, x_iastore, x_bastore, x_sastore, x_castore, x_lastore, x_aastore, x_arraylength, x_getstatic, x_goto, x_goto_w, x_ifCond, x_if_icmp, x_ifnull, x_ifnonnull, x_lookupswitch, x_invokevirtual, x_invokestatic, x_invokedynamic, x_ireturn, x_freturn, x_dreturn, x_lreturn, x_areturn, x_return_, pI_c, pL_c, pR_c, pV_i, pV_r, gI_c, gL_c, gR_c, pN_z, pN_s, lget_c, lins_z, lins_c, ldel_z, ldel_c, ldel2_z, ldel2_c, lset_i, lset_l, lset_r, lkeep_z, lkeep_c, largs_z, largs_c, cat_i, cat_l, cat_r, lkp_c, cnd_eq, cnd_ne, cnd_lt, cnd_ge, cnd_gt, cnd_le, swL_z, swL_c, rE_e, rOr_s, rOr_n, rlk_z, rlk_c, aR_c, aI_c, aII_c, aIII_c, aRI_c, aRII_c, aRIII_c, vJn, vJs, vlc, aRR_c, aRRI_c, aRRII_c, aRRIII_c, aRIIII_c, aRL_c, aRLL_c, aLL_c, aRRRI_c, aIL_c, aIIII_c, aRRIIII_c, aIRII_c, aIR_c, aLI_c, aRIR_c, aRIIR_c, hC.o0, hC.f0_0, hC.f0_1, hC.f0_2, hC.f0_3, hC.f0_4, hC.f0_5, hC.f0_6, hC.f0_7, hC.f0_8, hC.f0_9, hC.f0_10, hC.f0_11, hC.o1, hC.f1, hC.t2, hC.l2, hC.o3, hC.f3, hC.t4, hC.l4, hC.s5, hC.s12, hC.s19, hC.s112, hC.s119, hC.o26, hC.f26, hC.t27, hC.l27, hC.s28, hC.o126, hC.f126_0, hC.f126_1, hC.t127, hC.l127, hC.t128, hC.l128, hC.s129, hC.n157, hC.n161, hC.o165, hC.f165, hC.t166, hC.l166, hC.r167, hC.r171, hC.q5, hC.q12, hC.q19, hC.q112, hC.q119, hC.a2, hC.a4, hC.a27, hC.a127, hC.a128, hC, rpClears, fpCold, a30, b30]
    refine ⟨fun z => by omega, fun z => by omega, fun _ => ⟨fun z => by omega, fun _ => ⟨by omega, fun c => ?_, fun c => ?_⟩, fun z => by omega⟩⟩
    · rw [if_neg (by omega)] at h
      exact O (m + 1) 0 (by omega) h
    · rw [if_pos (by omega)] at h
      exact h _ ⟨QFr.rf.up scr3, rwIs.nil⟩
  · rw [if_neg hv] at h
    have h := h σ QTo.rf
    refine wg (by decide) rgCd_ok tk_126 py_126 ml_126 30 (by simp [catT]) (fun N hN => ?_)
    simp [bl_126, hN _, x_iconst, x_ldc2_w, x_aconst_null, x_iload, x_lload, x_aload, x_istore, x_lstore, x_astore, x_iinc, x_iadd, x_isub, x_imul, x_idiv, x_irem, x_iand, x_ior, x_ixor, x_ishl, x_ishr, x_iushr, x_ineg, x_ladd, x_lsub, x_lmul, x_ldiv, x_lrem, x_lcmp, x_i2l, x_i2b, x_i2s, x_i2c, x_dup, x_pop, x_dup_x1, x_dup2, x_getfield, x_putfield, x_iaload, x_baload, x_saload, x_caload, x_daload, x_faload, x_laload, x_aaload, x_iastore, x_bastore, x_sastore, x_castore, x_lastore, x_aastore, x_arraylength, x_getstatic, x_goto, x_goto_w, x_ifCond, x_if_icmp, x_ifnull, x_ifnonnull, x_lookupswitch, x_invokevirtual, x_invokestatic, x_invokedynamic, x_ireturn, x_freturn, x_dreturn, x_lreturn, x_areturn, x_return_, pI_c, pL_c, pR_c, pV_i, pV_r, gI_c, gL_c, gR_c, pN_z, pN_s, lget_c, lins_z, lins_c, ldel_z, ldel_c, ldel2_z, ldel2_c, lset_i, lset_l, lset_r, lkeep_z, lkeep_c, largs_z, largs_c, cat_i, cat_l, cat_r, lkp_c, cnd_eq, cnd_ne, cnd_lt, cnd_ge, cnd_gt, cnd_le, swL_z, swL_c, rE_e, rOr_s, rOr_n, rlk_z, rlk_c, aR_c, aI_c, aII_c, aIII_c, aRI_c, aRII_c, aRIII_c, vJn, vJs, vlc, aRR_c, aRRI_c, aRRII_c, aRRIII_c, aRIIII_c, aRL_c, aRLL_c, aLL_c, aRRRI_c, aIL_c, aIIII_c, aRRIIII_c, aIRII_c, aIR_c, aLI_c, aRIR_c, aRIIR_c]
    grind
/-! series -/
theorem pw_b {b e : Nat} (hb : b ≤ 10) (he : e ≤ 15) : b ^ e ≤ 1000000000000000 := by
  have h1 : b ^ e ≤ 10 ^ e := Nat.pow_le_pow_left hb e
  have h2 : 10 ^ e ≤ 10 ^ 15 := Nat.pow_le_pow_right (by omega) he
  have h3 : (10 : Nat) ^ 15 = 1000000000000000 := by decide
  omega
def pwI (b e : Int) : Int := ((b.toNat ^ e.toNat : Nat) : Int)
theorem pwI_n (b e : Nat) : pwI b e = ((b ^ e : Nat) : Int) := rfl
def fpPower : Sp := fun as t σ Q => aII as fun b e => (0 ≤ b ∧ b ≤ 10) ∧ (0 ≤ e ∧ e ≤ 15) ∧ Q (some (vL (pwI b e))) t σ
theorem f_power {l : Launch} {g : GE} {d : Nat} {t : Tau} {σ : Mem} {Q : Post} {as : List TV} (h0 : fpPower as t σ Q) : WPc l g 164 (d + 1) 0 0 as t σ Q := by
  obtain ⟨b', e', rfl, hb, he, h⟩ := aII_e h0
  clear h0
  obtain ⟨b, rfl⟩ : ∃ n : Nat, b' = n := ⟨b'.toNat, by omega⟩
  obtain ⟨e, rfl⟩ : ∃ n : Nat, e' = n := ⟨e'.toNat, by omega⟩
  rw [pwI_n] at h
  have K : Wp l g 164 (d + 1) 0 0 5 [(0, vI b), (1, vI e), (2, vL (b ^ 0 : Nat)), (4, vI (0 : Nat))] [] t σ Q := by
    refine lpU (P := fun i => Wp l g 164 (d + 1) 0 0 5 [(0, vI b), (1, vI e), (2, vL (b ^ i : Nat)), (4, vI i)] [] t σ Q) (n := e) ?_ (fun i hi K => ?_)
    · refine wa (by decide) rE_nil tk_164 30 (fun N hN => ?_)
      simp [bl_164, hN _, x_iconst, x_ldc2_w, x_aconst_null, x_iload, x_lload, x_aload, x_istore, x_lstore, x_astore, x_iinc, x_iadd, x_isub, x_imul, x_idiv, x_irem, x_iand, x_ior, x_ixor, x_ishl, x_ishr, x_iushr, x_ineg, x_ladd, x_lsub, x_lmul, x_ldiv, x_lrem, x_lcmp, x_i2l, x_i2b, x_i2s, x_i2c, x_dup, x_pop, x_dup_x1, x_dup2, x_getfield, x_putfield, x_iaload, x_baload, x_saload, x_caload, x_daload, x_faload, x_laload, x_aaload, x_iastore, x_bastore, x_sastore, x_castore, x_lastore, x_aastore, x_arraylength, x_getstatic, x_goto, x_goto_w, x_ifCond, x_if_icmp, x_ifnull, x_ifnonnull, x_lookupswitch, x_invokevirtual, x_invokestatic, x_invokedynamic, x_ireturn, x_freturn, x_dreturn, x_lreturn, x_areturn, x_return_, pI_c, pL_c, pR_c, pV_i, pV_r, gI_c, gL_c, gR_c, pN_z, pN_s, lget_c, lins_z, lins_c, ldel_z, ldel_c, ldel2_z, ldel2_c, lset_i, lset_l, lset_r, lkeep_z, lkeep_c, largs_z, largs_c, cat_i, cat_l, cat_r, lkp_c, cnd_eq, cnd_ne, cnd_lt, cnd_ge, cnd_gt, cnd_le, swL_z, swL_c, rE_e, rOr_s, rOr_n, rlk_z, rlk_c, aR_c, aI_c, aII_c, aIII_c, aRI_c, aRII_c, aRIII_c, vJn, vJs, vlc, aRR_c, aRRI_c, aRRII_c, aRRIII_c, aRIIII_c, aRL_c, aRLL_c, aLL_c, aRRRI_c, aIL_c, aIIII_c, aRRIIII_c, aIRII_c, aIR_c, aLI_c, aRIR_c, aRIIR_c]
      simpa using h
    · have e2 := w32_succ (k := i) (by omega); have i1 : ((i : Nat) : Int) < (e : Nat) := (by omega); have i1n : i < e := (by omega); have i1x : ¬ e ≤ i := (by omega)
      have hp := pw_b (b := b) (e := i + 1) (by omega) (by omega)
      have e3 : w64 (((b ^ i : Nat) : Int) * b) = ((b ^ (i + 1) : Nat) : Int) := by
        rw [Nat.pow_succ] at hp ⊢
        rw [← Int.natCast_mul]
        exact w64_id (by omega) (by omega)
      refine wa (by decide) rE_nil tk_164 30 (fun N hN => ?_)
      simp [bl_164, hN _, x_iconst, x_ldc2_w, x_aconst_null, x_iload, x_lload, x_aload, x_istore, x_lstore, x_astore, x_iinc, x_iadd, x_isub, x_imul, x_idiv, x_irem, x_iand, x_ior, x_ixor, x_ishl, x_ishr, x_iushr, x_ineg, x_ladd, x_lsub, x_lmul, x_ldiv, x_lrem, x_lcmp, x_i2l, x_i2b, x_i2s, x_i2c, x_dup, x_pop, x_dup_x1, x_dup2, x_getfield, x_putfield, x_iaload, x_baload, x_saload, x_caload, x_daload, x_faload, x_laload, x_aaload, x_iastore, x_bastore, x_sastore, x_castore, x_lastore, x_aastore, x_arraylength, x_getstatic, x_goto, x_goto_w, x_ifCond, x_if_icmp, x_ifnull, x_ifnonnull, x_lookupswitch, x_invokevirtual, x_invokestatic, x_invokedynamic, x_ireturn, x_freturn, x_dreturn, x_lreturn, x_areturn, x_return_, pI_c, pL_c, pR_c, pV_i, pV_r, gI_c, gL_c, gR_c, pN_z, pN_s, lget_c, lins_z, lins_c, ldel_z, ldel_c, ldel2_z, ldel2_c, lset_i, lset_l, lset_r, lkeep_z, lkeep_c, largs_z, largs_c, cat_i, cat_l, cat_r, lkp_c, cnd_eq, cnd_ne, cnd_lt, cnd_ge, cnd_gt, cnd_le, swL_z, swL_c, rE_e, rOr_s, rOr_n, rlk_z, rlk_c, aR_c, aI_c, aII_c, aIII_c, aRI_c, aRII_c, aRIII_c, vJn, vJs, vlc, aRR_c, aRRI_c, aRRII_c, aRRIII_c, aRIIII_c, aRL_c, aRLL_c, aLL_c, aRRRI_c, aIL_c, aIIII_c, aRRIIII_c, aIRII_c, aIR_c, aLI_c, aRIR_c, aRIIR_c, e2, i1, i1n, i1x]
      rw [show ((b : Int) ^ i * b) = ((b ^ i : Nat) : Int) * b by simp, e3]
      exact K
  refine wg (by decide) rE_nil tk_164 py_164 ml_164 30 (by simp [catT]) (fun N hN => ?_)
  simp [bl_164, hN _, x_iconst, x_ldc2_w, x_aconst_null, x_iload, x_lload, x_aload, x_istore, x_lstore, x_astore, x_iinc, x_iadd, x_isub, x_imul, x_idiv, x_irem, x_iand, x_ior, x_ixor, x_ishl, x_ishr, x_iushr, x_ineg, x_ladd, x_lsub, x_lmul, x_ldiv, x_lrem, x_lcmp, x_i2l, x_i2b, x_i2s, x_i2c, x_dup, x_pop, x_dup_x1, x_dup2, x_getfield, x_putfield, x_iaload, x_baload, x_saload, x_caload, x_daload, x_faload, x_laload, x_aaload, x_iastore, x_bastore, x_sastore, x_castore, x_lastore, x_aastore, x_arraylength, x_getstatic, x_goto, x_goto_w, x_ifCond, x_if_icmp, x_ifnull, x_ifnonnull, x_lookupswitch, x_invokevirtual, x_invokestatic, x_invokedynamic, x_ireturn, x_freturn, x_dreturn, x_lreturn, x_areturn, x_return_, pI_c, pL_c, pR_c, pV_i, pV_r, gI_c, gL_c, gR_c, pN_z, pN_s, lget_c, lins_z, lins_c, ldel_z, ldel_c, ldel2_z, ldel2_c, lset_i, lset_l, lset_r, lkeep_z, lkeep_c, largs_z, largs_c, cat_i, cat_l, cat_r, lkp_c, cnd_eq, cnd_ne, cnd_lt, cnd_ge, cnd_gt, cnd_le, swL_z, swL_c, rE_e, rOr_s, rOr_n, rlk_z, rlk_c, aR_c, aI_c, aII_c, aIII_c, aRI_c, aRII_c, aRIII_c, vJn, vJs, vlc, aRR_c, aRRI_c, aRRII_c, aRRIII_c, aRIIII_c, aRL_c, aRLL_c, aLL_c, aRRRI_c, aIL_c, aIIII_c, aRRIIII_c, aIRII_c, aIR_c, aLI_c, aRIR_c, aRIIR_c]
  simpa using K
def serW (k i w : Nat) : Nat := if i = 0 then w else w * (k - 1 + i) / i
def serT (k m p i w : Nat) : Nat := w * p ^ k * (10 - p) ^ i * 10 ^ (m - 1 - i)
def serF (k m p : Nat) : Nat → Nat × Nat := fo (fun i s => (serW k i s.1, s.2 + serT k m p i (serW k i s.1))) (1, 0)
def serB (k m p i : Nat) : Bool := decide ((serF k m p i).1 * (k - 1 + i) ≤ 1000000000000000) && decide ((serF k m p (i + 1)).1 * p ^ k ≤ 1000000000000000) && decide ((serF k m p (i + 1)).1 * p ^ k * (10 - p) ^ i ≤ 1000000000000000) && decide ((serF k m p (i + 1)).2 ≤ 1000000000000000)
theorem ser_b0 : ∀ k : Fin 9, ∀ m : Fin 9, ∀ p : Fin 11, ∀ i : Fin 8, 1 ≤ k.val → i.val < m.val → serB k.val m.val p.val i.val = true := by decide +kernel
def serQ (k m p : Int) : QA := if (1 ≤ k ∧ k ≤ 8) ∧ (1 ≤ m ∧ m ≤ 8) ∧ (0 ≤ p ∧ p ≤ 10) then (0, some (frQ (serF k.toNat m.toNat p.toNat m.toNat).2 (10 ^ (k.toNat + m.toNat - 1)))) else (-1, none)
theorem rgPw_ok {l : Launch} {g : GE} {d : Nat} : ∀ e as t σ Q, rE l g (d + 6) ((164, fpPower) :: rgC) e as t σ Q → WPc l g e (d + 6) 0 0 as t σ Q := rE_cons (fun _ _ _ _ h => f_power h) rgC_ok
set_option maxHeartbeats 1000000 in
theorem o_series {l : Launch} {g : GE} {d : Nat} {t : Tau} {σ : Mem} {Q : Post} {k m p : Int} (hC : TC t) (h : ansC (serQ k m p) t σ Q) : WPc l g 127 (d + 7) 0 0 [vR 0, vI k, vI m, vI p] t σ Q := by
  unfold ansC serQ at h
  by_cases hv : (1 ≤ k ∧ k ≤ 8) ∧ (1 ≤ m ∧ m ≤ 8) ∧ (0 ≤ p ∧ p ≤ 10)
  · rw [if_pos hv] at h
    obtain ⟨⟨k0, k1⟩, ⟨m0, m1⟩, p0, p1⟩ := hv
    obtain ⟨k, rfl⟩ : ∃ n : Nat, k = n := ⟨k.toNat, by omega⟩
    obtain ⟨m, rfl⟩ : ∃ n : Nat, m = n := ⟨m.toNat, by omega⟩
    obtain ⟨p, rfl⟩ : ∃ n : Nat, p = n := ⟨p.toNat, by omega⟩
    simp only [Int.toNat_natCast] at h
    generalize hF : serF k m p = F at h
    have hF0 : F 0 = (1, 0) := by rw [← hF]; rfl
    have hFs : ∀ i, F (i + 1) = (serW k i (F i).1, (F i).2 + serT k m p i (serW k i (F i).1)) := by rw [← hF]; intro i; rfl
    have hb : ∀ i, i < m → serB k m p i = true := fun i hi => ser_b0 ⟨k, by omega⟩ ⟨m, by omega⟩ ⟨p, by omega⟩ ⟨i, by omega⟩ (show 1 ≤ k by omega) hi
    have hb' : ∀ i, i < m → (F i).1 * (k - 1 + i) ≤ 1000000000000000 ∧ serW k i (F i).1 * p ^ k ≤ 1000000000000000 ∧ serW k i (F i).1 * p ^ k * (10 - p) ^ i ≤ 1000000000000000 ∧ (F i).2 + serT k m p i (serW k i (F i).1) ≤ 1000000000000000 := by
      intro i hi
      have := hb i hi
      unfold serB at this
      rw [hF, hFs i] at this
      simp only [Bool.and_eq_true, decide_eq_true_eq] at this
      exact ⟨this.1.1.1, this.1.1.2, this.1.2, this.2⟩
    have K : Wp l g 127 (d + 7) 0 0 43 [(0, vR 0), (1, vI k), (2, vI m), (3, vI p), (4, vL (F 0).1), (6, vL (F 0).2), (8, vI (0 : Nat))] [] t σ Q := by
      refine lpU (P := fun i => Wp l g 127 (d + 7) 0 0 43 [(0, vR 0), (1, vI k), (2, vI m), (3, vI p), (4, vL (F i).1), (6, vL (F i).2), (8, vI i)] [] t σ Q) (n := m) ?_ (fun i hi K => ?_)
      · have e1 : w32 ((k : Int) + m) = ((k + m : Nat) : Int) := by rw [w32_id (by omega) (by omega)]; omega
        have e2 : w32 (((k + m : Nat) : Int) - 1) = ((k + m - 1 : Nat) : Int) := by rw [w32_id (by omega) (by omega)]; omega
        have e3 : k + m - 1 ≤ 15 := by omega
        have hlst := (hb' (m - 1) (by omega)).2.2.2
        have em : F m = (serW k (m - 1) (F (m - 1)).1, (F (m - 1)).2 + serT k m p (m - 1) (serW k (m - 1) (F (m - 1)).1)) := by
          have := hFs (m - 1); rwa [show m - 1 + 1 = m by omega] at this
        have hup : (F m).2 ≤ 1000000000000000 := by rw [em]; exact hlst
        have hpw := pw_b (b := 10) (e := k + m - 1) (by omega) e3
        have hpp : 0 < 10 ^ (k + m - 1) := Nat.pow_pos (by omega)
        refine wa (by decide) rgPw_ok tk_127 30 (fun N hN => ?_)
        simp [bl_127, hN _, x_iconst, x_ldc2_w, x_aconst_null, x_iload, x_lload, x_aload, x_istore, x_lstore, x_astore, x_iinc, x_iadd, x_isub, x_imul, x_idiv, x_irem, x_iand, x_ior, x_ixor, x_ishl, x_ishr, x_iushr, x_ineg, x_ladd, x_lsub, x_lmul, x_ldiv, x_lrem, x_lcmp, x_i2l, x_i2b, x_i2s, x_i2c, x_dup, x_pop, x_dup_x1, x_dup2, x_getfield, x_putfield, x_iaload, x_baload, x_saload, x_caload, x_daload, x_faload, x_laload, x_aaload, x_iastore, x_bastore, x_sastore, x_castore, x_lastore, x_aastore, x_arraylength, x_getstatic, x_goto, x_goto_w, x_ifCond, x_if_icmp, x_ifnull, x_ifnonnull, x_lookupswitch, x_invokevirtual, x_invokestatic, x_invokedynamic, x_ireturn, x_freturn, x_dreturn, x_lreturn, x_areturn, x_return_, pI_c, pL_c, pR_c, pV_i, pV_r, gI_c, gL_c, gR_c, pN_z, pN_s, lget_c, lins_z, lins_c, ldel_z, ldel_c, ldel2_z, ldel2_c, lset_i, lset_l, lset_r, lkeep_z, lkeep_c, largs_z, largs_c, cat_i, cat_l, cat_r, lkp_c, cnd_eq, cnd_ne, cnd_lt, cnd_ge, cnd_gt, cnd_le, swL_z, swL_c, rE_e, rOr_s, rOr_n, rlk_z, rlk_c, aR_c, aI_c, aII_c, aIII_c, aRI_c, aRII_c, aRIII_c, vJn, vJs, vlc, aRR_c, aRRI_c, aRRII_c, aRRIII_c, aRIIII_c, aRL_c, aRLL_c, aLL_c, aRRRI_c, aIL_c, aIIII_c, aRRIIII_c, aIRII_c, aIR_c, aLI_c, aRIR_c, aRIIR_c, hC.o0, hC.f0_0, hC.f0_1, hC.f0_2, hC.f0_3, hC.f0_4, hC.f0_5, hC.f0_6, hC.f0_7, hC.f0_8, hC.f0_9, hC.f0_10, hC.f0_11, hC.o1, hC.f1, hC.t2, hC.l2, hC.o3, hC.f3, hC.t4, hC.l4, hC.s5, hC.s12, hC.s19, hC.s112, hC.s119, hC.o26, hC.f26, hC.t27, hC.l27, hC.s28, hC.o126, hC.f126_0, hC.f126_1, hC.t127, hC.l127, hC.t128, hC.l128, hC.s129, hC.n157, hC.n161, hC.o165, hC.f165, hC.t166, hC.l166, hC.r167, hC.r171, hC.q5, hC.q12, hC.q19, hC.q112, hC.q119, hC.a2, hC.a4, hC.a27, hC.a127, hC.a128, hC, rpClears, fpPower, rpFrac, up_ap]
        rw [e1, e2]
        refine ⟨by omega, (F m).2, rfl, 10 ^ (k + m - 1), rfl, hpp, hpw, hup, ?_⟩
        simpa using h _ (QTo.q2 (σ' := σ) QFr.rf)
      · have e2 := w32_succ (k := i) (by omega); have i1 : ((i : Nat) : Int) < (m : Nat) := (by omega); have i1n : i < m := (by omega); have i1x : ¬ m ≤ i := (by omega)
        obtain ⟨g1, g2, g3, g4⟩ := hb' i hi
        rw [hFs i] at K
        have c1 : w32 ((k : Int) - 1) = ((k - 1 : Nat) : Int) := by rw [w32_id (by omega) (by omega)]; omega
        have c2 : w32 (((k - 1 : Nat) : Int) + i) = ((k - 1 + i : Nat) : Int) := by rw [w32_id (by omega) (by omega)]; omega
        have c3 : w64 (((F i).1 : Int) * ((k - 1 + i : Nat) : Int)) = (((F i).1 * (k - 1 + i) : Nat) : Int) := by rw [← Int.natCast_mul]; exact w64_id (by omega) (by omega)
        have c4 : w32 (10 - (p : Int)) = ((10 - p : Nat) : Int) := by rw [w32_id (by omega) (by omega)]; omega
        have c5 : w32 ((m : Int) - 1) = ((m - 1 : Nat) : Int) := by rw [w32_id (by omega) (by omega)]; omega
        have c6 : w32 (((m - 1 : Nat) : Int) - i) = ((m - 1 - i : Nat) : Int) := by rw [w32_id (by omega) (by omega)]; omega
        have c7 : ∀ w : Nat, w = serW k i (F i).1 → w64 ((w : Int) * ((p ^ k : Nat) : Int)) = ((w * p ^ k : Nat) : Int) := by intro w hw; subst hw; rw [← Int.natCast_mul]; exact w64_id (by omega) (by omega)
        have c8 : ∀ w : Nat, w = serW k i (F i).1 → w64 (((w * p ^ k : Nat) : Int) * (((10 - p) ^ i : Nat) : Int)) = ((w * p ^ k * (10 - p) ^ i : Nat) : Int) := by intro w hw; subst hw; rw [← Int.natCast_mul]; exact w64_id (by omega) (by omega)
        have g5 : serT k m p i (serW k i (F i).1) ≤ 1000000000000000 := by omega
        have c9 : ∀ w : Nat, w = serW k i (F i).1 → w64 (((w * p ^ k * (10 - p) ^ i : Nat) : Int) * ((10 ^ (m - 1 - i) : Nat) : Int)) = ((serT k m p i w : Nat) : Int) := by intro w hw; subst hw; rw [← Int.natCast_mul]; exact w64_id (by unfold serT at g5; omega) (by unfold serT at g5; omega)
        have c10 : ∀ w : Nat, w = serW k i (F i).1 → w64 (((F i).2 : Int) + ((serT k m p i w : Nat) : Int)) = (((F i).2 + serT k m p i w : Nat) : Int) := by intro w hw; subst hw; rw [← Int.natCast_add]; exact w64_id (by omega) (by omega)
        have k8 : k ≤ 8 := by omega
        have i8 : i < 8 := by omega
        refine wa (by decide) rgPw_ok tk_127 30 (fun N hN => ?_)
        simp [bl_127, hN _, x_iconst, x_ldc2_w, x_aconst_null, x_iload, x_lload, x_aload, x_istore, x_lstore, x_astore, x_iinc, x_iadd, x_isub, x_imul, x_idiv, x_irem, x_iand, x_ior, x_ixor, x_ishl, x_ishr, x_iushr, x_ineg, x_ladd, x_lsub, x_lmul, x_ldiv, x_lrem, x_lcmp, x_i2l, x_i2b, x_i2s, x_i2c, x_dup, x_pop, x_dup_x1, x_dup2, x_getfield, x_putfield, x_iaload, x_baload, x_saload, x_caload, x_daload, x_faload, x_laload, x_aaload, x_iastore, x_bastore, x_sastore, x_castore, x_lastore, x_aastore, x_arraylength, x_getstatic, x_goto, x_goto_w, x_ifCond, x_if_icmp, x_ifnull, x_ifnonnull, x_lookupswitch, x_invokevirtual, x_invokestatic, x_invokedynamic, x_ireturn, x_freturn, x_dreturn, x_lreturn, x_areturn, x_return_, pI_c, pL_c, pR_c, pV_i, pV_r, gI_c, gL_c, gR_c, pN_z, pN_s, lget_c, lins_z, lins_c, ldel_z, ldel_c, ldel2_z, ldel2_c, lset_i, lset_l, lset_r, lkeep_z, lkeep_c, largs_z, largs_c, cat_i, cat_l, cat_r, lkp_c, cnd_eq, cnd_ne, cnd_lt, cnd_ge, cnd_gt, cnd_le, swL_z, swL_c, rE_e, rOr_s, rOr_n, rlk_z, rlk_c, aR_c, aI_c, aII_c, aIII_c, aRI_c, aRII_c, aRIII_c, vJn, vJs, vlc, aRR_c, aRRI_c, aRRII_c, aRRIII_c, aRIIII_c, aRL_c, aRLL_c, aLL_c, aRRRI_c, aIL_c, aIIII_c, aRRIIII_c, aIRII_c, aIR_c, aLI_c, aRIR_c, aRIIR_c, e2, i1, i1n, i1x, fpPower]
        rw [c1, c2, c3, c4, c5, c6, show pwI (p : Int) k = ((p ^ k : Nat) : Int) from rfl, show pwI ((10 - p : Nat) : Int) i = (((10 - p) ^ i : Nat) : Int) from rfl, show pwI 10 ((m - 1 - i : Nat) : Int) = ((10 ^ (m - 1 - i) : Nat) : Int) from rfl]
        refine ⟨fun z => ⟨by omega, by omega, by omega, by omega, by omega, ?_⟩, fun z => ⟨by omega, by omega, by omega, by omega, by omega, by omega, ?_⟩⟩
        · have hw : (F i).1 = serW k i (F i).1 := by unfold serW; rw [if_pos z]
          rw [c7 _ hw, c8 _ hw, c9 _ hw, c10 _ hw]
          rw [← hw] at K
          exact K
        · have c11 : w64 (Int.tdiv (((F i).1 * (k - 1 + i) : Nat) : Int) (i : Int)) = ((serW k i (F i).1 : Nat) : Int) := by
            rw [Int.tdiv_eq_ediv_of_nonneg (by omega), ← Int.natCast_ediv]
            unfold serW
            rw [if_neg (by omega)]
            have := Nat.div_le_self ((F i).1 * (k - 1 + i)) i
            generalize (F i).1 * (k - 1 + i) / i = q at this ⊢
            exact w64_id (by omega) (by omega)
          rw [c11, c7 _ rfl, c8 _ rfl, c9 _ rfl, c10 _ rfl]
          exact K
    rw [hF0] at K
    refine wg (by decide) rgPw_ok tk_127 py_127 ml_127 30 (by simp [catT]) (fun N hN => ?_)
    simp [bl_127, hN _, x_iconst, x_ldc2_w, x_aconst_null, x_iload, x_lload, x_aload, x_istore, x_lstore, x_astore, x_iinc, x_iadd, x_isub, x_imul, x_idiv, x_irem, x_iand, x_ior, x_ixor, x_ishl, x_ishr, x_iushr, x_ineg, x_ladd, x_lsub, x_lmul, x_ldiv, x_lrem, x_lcmp, x_i2l, x_i2b, x_i2s, x_i2c, x_dup, x_pop, x_dup_x1, x_dup2, x_getfield, x_putfield, x_iaload, x_baload, x_saload, x_caload, x_daload, x_faload, x_laload, x_aaload, x_iastore, x_bastore, x_sastore, x_castore, x_lastore, x_aastore, x_arraylength, x_getstatic, x_goto, x_goto_w, x_ifCond, x_if_icmp, x_ifnull, x_ifnonnull, x_lookupswitch, x_invokevirtual, x_invokestatic, x_invokedynamic, x_ireturn, x_freturn, x_dreturn, x_lreturn, x_areturn, x_return_, pI_c, pL_c, pR_c, pV_i, pV_r, gI_c, gL_c, gR_c, pN_z, pN_s, lget_c, lins_z, lins_c, ldel_z, ldel_c, ldel2_z, ldel2_c, lset_i, lset_l, lset_r, lkeep_z, lkeep_c, largs_z, largs_c, cat_i, cat_l, cat_r, lkp_c, cnd_eq, cnd_ne, cnd_lt, cnd_ge, cnd_gt, cnd_le, swL_z, swL_c, rE_e, rOr_s, rOr_n, rlk_z, rlk_c, aR_c, aI_c, aII_c, aIII_c, aRI_c, aRII_c, aRIII_c, vJn, vJs, vlc, aRR_c, aRRI_c, aRRII_c, aRRIII_c, aRIIII_c, aRL_c, aRLL_c, aLL_c, aRRRI_c, aIL_c, aIIII_c, aRRIIII_c, aIRII_c, aIR_c, aLI_c, aRIR_c, aRIIR_c]
    exact ⟨fun z => by omega, fun _ => ⟨fun z => by omega, fun _ => ⟨fun z => by omega, fun _ => ⟨fun z => by omega, fun _ => ⟨fun z => by omega, fun _ => K, fun z => by omega⟩⟩⟩⟩⟩
  · rw [if_neg hv] at h
    have h := h σ QTo.rf
    refine wg (by decide) rgPw_ok tk_127 py_127 ml_127 30 (by simp [catT]) (fun N hN => ?_)
    simp [bl_127, hN _, x_iconst, x_ldc2_w, x_aconst_null, x_iload, x_lload, x_aload, x_istore, x_lstore, x_astore, x_iinc, x_iadd, x_isub, x_imul, x_idiv, x_irem, x_iand, x_ior, x_ixor, x_ishl, x_ishr, x_iushr, x_ineg, x_ladd, x_lsub, x_lmul, x_ldiv, x_lrem, x_lcmp, x_i2l, x_i2b, x_i2s, x_i2c, x_dup, x_pop, x_dup_x1, x_dup2, x_getfield, x_putfield, x_iaload, x_baload, x_saload, x_caload, x_daload, x_faload, x_laload, x_aaload, x_iastore, x_bastore, x_sastore, x_castore, x_lastore, x_aastore, x_arraylength, x_getstatic, x_goto, x_goto_w, x_ifCond, x_if_icmp, x_ifnull, x_ifnonnull, x_lookupswitch, x_invokevirtual, x_invokestatic, x_invokedynamic, x_ireturn, x_freturn, x_dreturn, x_lreturn, x_areturn, x_return_, pI_c, pL_c, pR_c, pV_i, pV_r, gI_c, gL_c, gR_c, pN_z, pN_s, lget_c, lins_z, lins_c, ldel_z, ldel_c, ldel2_z, ldel2_c, lset_i, lset_l, lset_r, lkeep_z, lkeep_c, largs_z, largs_c, cat_i, cat_l, cat_r, lkp_c, cnd_eq, cnd_ne, cnd_lt, cnd_ge, cnd_gt, cnd_le, swL_z, swL_c, rE_e, rOr_s, rOr_n, rlk_z, rlk_c, aR_c, aI_c, aII_c, aIII_c, aRI_c, aRII_c, aRIII_c, vJn, vJs, vlc, aRR_c, aRRI_c, aRRII_c, aRRIII_c, aRIIII_c, aRL_c, aRLL_c, aLL_c, aRRRI_c, aIL_c, aIIII_c, aRRIIII_c, aIRII_c, aIR_c, aLI_c, aRIR_c, aRIIR_c]
    grind (splits := 20)
