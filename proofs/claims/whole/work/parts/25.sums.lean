/-! the sea as a value: fights, sums -/
theorem a_strikesTo {l : Launch} {g : GE} {d : Nat} {t : Tau} {σ : Mem} {Q : Post} {as : List TV} (h : apStrikesTo as t σ Q) : WPc l g 64 (d + 4) 0 0 as t σ Q := by
  obtain ⟨a, w, b, k, rfl, hk, hw, hb, hne, hk6, h⟩ := aRIII_e h
  have n6 := hk.2.2.1
  obtain ⟨-, aw, pw, -, ww, -⟩ := hk.2.2.2.1 w hw.1 hw.2
  obtain ⟨sl, al, -, -, -, ll⟩ := hk.2.2.2.1 b hb.1 hb.2
  have ho := (hk.2.2.sh hw.1 hw.2).2.1
  have o1 := ho _ aw.1 aw.2
  have o2 := ho _ al.1 al.2
  refine c_strikesTo ⟨hk.1, (hsA hk).mpr hw, (hsA hk).mpr hb, fun z => hne (by rw [z]), ⟨⟨aw.1, aw.2, al.1, al.2⟩, ⟨o1.1, o1.2, o2.1, o2.2⟩, hk6, by omega, hk.2.2.2.2.1⟩, fun σ' F _ V => h σ' (F.to hk (hk.2.2.strike hw.1 hw.2 hb.1 hb.2 (by omega) hne) V)⟩
def sumN (f : Int → Int) : Nat → Int
  | 0 => 0
  | k + 1 => sumN f k + f k
theorem sumN_b {f : Int → Int} {B : Int} : ∀ n : Nat, (∀ i : Int, 0 ≤ i → i < n → 0 ≤ f i ∧ f i ≤ B) → 0 ≤ sumN f n ∧ sumN f n ≤ n * B
  | 0, _ => by simp [sumN]
  | n + 1, h => by
    have h1 := sumN_b n (fun i i0 i1 => h i i0 (by omega))
    have h2 := h n (by omega) (by omega)
    have e : ((n + 1 : Nat) : Int) * B = n * B + B := by rw [Int.natCast_add, Int.add_mul]; simp
    rw [e]
    show 0 ≤ sumN f n + f n ∧ sumN f n + f n ≤ _
    omega
theorem sumN_cg {f f' : Int → Int} : ∀ n : Nat, (∀ i : Int, 0 ≤ i → i < n → f i = f' i) → sumN f n = sumN f' n
  | 0, _ => rfl
  | n + 1, h => by
    show sumN f n + f n = sumN f' n + f' n
    rw [sumN_cg n (fun i i0 i1 => h i i0 (by omega)), h n (by omega) (by omega)]
/-- of the ships of a set -/
noncomputable def sumB (b : Int) (f : Int → Int) (n : Nat) : Int := sumN (fun i => if iand b (ishl 1 i) = 0 then 0 else f i) n
theorem sumB_b {b : Int} {f : Int → Int} {B : Int} (n : Nat) (hB : 0 ≤ B) (h : ∀ i : Int, 0 ≤ i → i < n → 0 ≤ f i ∧ f i ≤ B) : 0 ≤ sumB b f n ∧ sumB b f n ≤ n * B := by
  refine sumN_b n fun i i0 i1 => ?_
  have := h i i0 i1
  split <;> omega
theorem bit63 {i : Int} (h0 : 0 ≤ i) (h1 : i < 6) : iand 63 (ishl 1 i) ≠ 0 := by
  rcases (show i = 0 ∨ i = 1 ∨ i = 2 ∨ i = 3 ∨ i = 4 ∨ i = 5 by omega) with rfl | rfl | rfl | rfl | rfl | rfl <;> (rw [iand_eq, ishl_eq]; decide +kernel)
theorem sumB_63 {f : Int → Int} {n : Nat} (h : n ≤ 6) : sumB 63 f n = sumN f n :=
  sumN_cg n fun i i0 i1 => if_neg (bit63 i0 (by omega))
theorem mul_le12 {n : Nat} {B x : Int} (h : n ≤ 6) (hB : 0 ≤ B) (hx : x ≤ n * B) : x ≤ 6 * B := by
  have : (n : Int) * B ≤ 6 * B := Int.mul_le_mul_of_nonneg_right (by omega) hB
  omega
theorem WFV.pt {n : Nat} {M V : Int → Int} (h : WFV n M V) {i s : Int} (h0 : 0 ≤ i) (h1 : i < n) (s0 : 0 ≤ s) (s1 : s < 4) : 0 ≤ partV V i s ∧ partV V i s ≤ 12 := (h.sh h0 h1).2.1 s s0 s1
abbrev regA : Reg := [(41, apHas), (144, spSide), (42, apPair), (43, apMight), (44, apOf 0 0), (45, apOf 6 (-1)), (46, apOf 36 0), (47, apOf 42 0), (48, apParts), (288, spMax), (289, spMin), (287, spAbs), (40, apBecomes), (59, apStrengthens), (58, spHoists)]
theorem regA_ok {l : Launch} {g : GE} {d : Nat} : ∀ e as t σ Q, rE l g (d + 2) regA e as t σ Q → WPc l g e (d + 2) 0 0 as t σ Q :=
  rE_cons (fun _ _ _ _ h => a_has h) (rE_cons (fun _ _ _ _ h => c_isSide h) (rE_cons (fun _ _ _ _ h => a_isPair h) (rE_cons (fun _ _ _ _ h => a_mightOf h) (rE_cons (fun _ _ _ _ h => a_strengthOf h) (rE_cons (fun _ _ _ _ h => a_sideOf h) (rE_cons (fun _ _ _ _ h => a_wonOf h) (rE_cons (fun _ _ _ _ h => a_lostOf h) (rE_cons (fun _ _ _ _ h => a_parts h) (rE_cons (fun _ _ _ _ h => c_max h) (rE_cons (fun _ _ _ _ h => c_min h) (rE_cons (fun _ _ _ _ h => c_abs h) (rE_cons (fun _ _ _ _ h => a_becomes h) (rE_cons (fun _ _ _ _ h => a_strengthens h) (rE_cons (fun _ _ _ _ h => c_hoists h) rE_nil))))))))))))))
def apSos : Sp := fun as t σ Q => aRI as fun a b => SeaOk t σ a ∧ Q (some (vI (sumB b (vwS σ a) (nS σ a)))) t σ
theorem a_strengthOfSome {l : Launch} {g : GE} {d : Nat} {t : Tau} {σ : Mem} {Q : Post} {as : List TV} (h : apSos as t σ Q) : WPc l g 51 (d + 3) 0 0 as t σ Q := by
  obtain ⟨a, b, rfl, hk, h⟩ := aRI_e h
  have hk' := hk
  obtain ⟨⟨o, -⟩, z0, hW⟩ := hk
  have n6 := hW.1
  have hB : ∀ i : Int, 0 ≤ i → i < nS σ a → 0 ≤ vwS σ a i ∧ vwS σ a i ≤ 9 := fun i i0 i1 => by have := (hW.2.1 i i0 i1).1; omega
  have lp : ∀ (r i : Nat), i + r = nS σ a → Wp l g 51 (d + 3) 0 0 4 [(0, vR a), (1, vI b), (2, vI (sumB b (vwS σ a) i)), (3, vI i)] [] t σ Q := by
    intro r
    induction r with
    | zero =>
      intro i hi
      obtain rfl : i = nS σ a := by omega
      refine wa (by decide) regA_ok tk_51 30 (fun N hN => ?_)
      simp [bl_51, hN _, x_iconst, x_ldc2_w, x_aconst_null, x_iload, x_lload, x_aload, x_istore, x_lstore, x_astore, x_iinc, x_iadd, x_isub, x_imul, x_idiv, x_irem, x_iand, x_ior, x_ixor, x_ishl, x_ishr, x_iushr, x_ineg, x_ladd, x_lsub, x_lmul, x_ldiv, x_lrem, x_lcmp, x_i2l, x_i2b, x_i2s, x_i2c, x_dup, x_pop, x_dup_x1, x_dup2, x_getfield, x_putfield, x_iaload, x_baload, x_saload, x_caload, x_daload, x_faload, x_laload, x_aaload, x_iastore, x_bastore, x_sastore, x_castore, x_lastore, x_aastore, x_arraylength, x_getstatic, x_goto, x_goto_w, x_ifCond, x_if_icmp, x_ifnull, x_ifnonnull, x_lookupswitch, x_invokevirtual, x_invokestatic, x_invokedynamic, x_ireturn, x_freturn, x_dreturn, x_lreturn, x_areturn, x_return_, pI_c, pL_c, pR_c, pV_i, pV_r, gI_c, gL_c, gR_c, pN_z, pN_s, lget_c, lins_z, lins_c, ldel_z, ldel_c, ldel2_z, ldel2_c, lset_i, lset_l, lset_r, lkeep_z, lkeep_c, largs_z, largs_c, cat_i, cat_l, cat_r, lkp_c, cnd_eq, cnd_ne, cnd_lt, cnd_ge, cnd_gt, cnd_le, swL_z, swL_c, rE_e, rOr_s, rOr_n, rlk_z, rlk_c, aR_c, aI_c, aII_c, aIII_c, aRI_c, aRII_c, aRIII_c, vJn, vJs, vlc, o, z0]
      exact h
    | succ r ih =>
      intro i hi
      have e2 := w32_succ (k := i) (by omega); have i1 : ((i : Nat) : Int) < (nS σ a : Nat) := (by omega); have i1n : i < nS σ a := (by omega); have i1x : ¬ nS σ a ≤ i := (by omega)
      have b1 := sumB_b (b := b) i (by omega) (fun j j0 j1 => hB j j0 (by omega))
      have b2 := mul_le12 (by omega) (by omega) b1.2
      have b3 := hB i (by omega) (by omega)
      have K := ih (i + 1) (by omega)
      have es : sumB b (vwS σ a) (i + 1) = sumB b (vwS σ a) i + (if iand b (ishl 1 i) = 0 then 0 else vwS σ a i) := rfl
      refine wa (by decide) regA_ok tk_51 30 (fun N hN => ?_)
      simp [bl_51, hN _, x_iconst, x_ldc2_w, x_aconst_null, x_iload, x_lload, x_aload, x_istore, x_lstore, x_astore, x_iinc, x_iadd, x_isub, x_imul, x_idiv, x_irem, x_iand, x_ior, x_ixor, x_ishl, x_ishr, x_iushr, x_ineg, x_ladd, x_lsub, x_lmul, x_ldiv, x_lrem, x_lcmp, x_i2l, x_i2b, x_i2s, x_i2c, x_dup, x_pop, x_dup_x1, x_dup2, x_getfield, x_putfield, x_iaload, x_baload, x_saload, x_caload, x_daload, x_faload, x_laload, x_aaload, x_iastore, x_bastore, x_sastore, x_castore, x_lastore, x_aastore, x_arraylength, x_getstatic, x_goto, x_goto_w, x_ifCond, x_if_icmp, x_ifnull, x_ifnonnull, x_lookupswitch, x_invokevirtual, x_invokestatic, x_invokedynamic, x_ireturn, x_freturn, x_dreturn, x_lreturn, x_areturn, x_return_, pI_c, pL_c, pR_c, pV_i, pV_r, gI_c, gL_c, gR_c, pN_z, pN_s, lget_c, lins_z, lins_c, ldel_z, ldel_c, ldel2_z, ldel2_c, lset_i, lset_l, lset_r, lkeep_z, lkeep_c, largs_z, largs_c, cat_i, cat_l, cat_r, lkp_c, cnd_eq, cnd_ne, cnd_lt, cnd_ge, cnd_gt, cnd_le, swL_z, swL_c, rE_e, rOr_s, rOr_n, rlk_z, rlk_c, aR_c, aI_c, aII_c, aIII_c, aRI_c, aRII_c, aRIII_c, vJn, vJs, vlc, apOf, o, z0, hk', e2, i1, i1n, i1x]
      refine ⟨fun z => ?_, fun z => ?_⟩
      · rw [es, if_pos z, Int.add_zero] at K
        rw [w32_id (by omega) (by omega)]
        exact K
      · rw [es, if_neg z] at K
        rw [w32_id (by omega) (by omega)]
        exact K
  have K := lp (nS σ a) 0 (by omega)
  refine wg (by decide) regA_ok tk_51 py_51 ml_51 30 (by simp [catT]) (fun N hN => ?_)
  simp [bl_51, hN _, x_iconst, x_ldc2_w, x_aconst_null, x_iload, x_lload, x_aload, x_istore, x_lstore, x_astore, x_iinc, x_iadd, x_isub, x_imul, x_idiv, x_irem, x_iand, x_ior, x_ixor, x_ishl, x_ishr, x_iushr, x_ineg, x_ladd, x_lsub, x_lmul, x_ldiv, x_lrem, x_lcmp, x_i2l, x_i2b, x_i2s, x_i2c, x_dup, x_pop, x_dup_x1, x_dup2, x_getfield, x_putfield, x_iaload, x_baload, x_saload, x_caload, x_daload, x_faload, x_laload, x_aaload, x_iastore, x_bastore, x_sastore, x_castore, x_lastore, x_aastore, x_arraylength, x_getstatic, x_goto, x_goto_w, x_ifCond, x_if_icmp, x_ifnull, x_ifnonnull, x_lookupswitch, x_invokevirtual, x_invokestatic, x_invokedynamic, x_ireturn, x_freturn, x_dreturn, x_lreturn, x_areturn, x_return_, pI_c, pL_c, pR_c, pV_i, pV_r, gI_c, gL_c, gR_c, pN_z, pN_s, lget_c, lins_z, lins_c, ldel_z, ldel_c, ldel2_z, ldel2_c, lset_i, lset_l, lset_r, lkeep_z, lkeep_c, largs_z, largs_c, cat_i, cat_l, cat_r, lkp_c, cnd_eq, cnd_ne, cnd_lt, cnd_ge, cnd_gt, cnd_le, swL_z, swL_c, rE_e, rOr_s, rOr_n, rlk_z, rlk_c, aR_c, aI_c, aII_c, aIII_c, aRI_c, aRII_c, aRIII_c, vJn, vJs, vlc]
  exact K
theorem regSos_ok {l : Launch} {g : GE} {d : Nat} : ∀ e as t σ Q, rE l g (d + 3) [(51, apSos)] e as t σ Q → WPc l g e (d + 3) 0 0 as t σ Q :=
  rE_cons (fun _ _ _ _ h => a_strengthOfSome h) rE_nil
def apSoa : Sp := fun as t σ Q => aR as fun a => SeaOk t σ a ∧ Q (some (vI (sumN (vwS σ a) (nS σ a)))) t σ
theorem a_strengthOfAll {l : Launch} {g : GE} {d : Nat} {t : Tau} {σ : Mem} {Q : Post} {as : List TV} (h : apSoa as t σ Q) : WPc l g 50 (d + 4) 0 0 as t σ Q := by
  obtain ⟨a, rfl, hk, h⟩ := aR_e h
  refine wg (by decide) regSos_ok tk_50 py_50 ml_50 30 (by simp [catT]) (fun N hN => ?_)
  simp [bl_50, hN _, x_iconst, x_ldc2_w, x_aconst_null, x_iload, x_lload, x_aload, x_istore, x_lstore, x_astore, x_iinc, x_iadd, x_isub, x_imul, x_idiv, x_irem, x_iand, x_ior, x_ixor, x_ishl, x_ishr, x_iushr, x_ineg, x_ladd, x_lsub, x_lmul, x_ldiv, x_lrem, x_lcmp, x_i2l, x_i2b, x_i2s, x_i2c, x_dup, x_pop, x_dup_x1, x_dup2, x_getfield, x_putfield, x_iaload, x_baload, x_saload, x_caload, x_daload, x_faload, x_laload, x_aaload, x_iastore, x_bastore, x_sastore, x_castore, x_lastore, x_aastore, x_arraylength, x_getstatic, x_goto, x_goto_w, x_ifCond, x_if_icmp, x_ifnull, x_ifnonnull, x_lookupswitch, x_invokevirtual, x_invokestatic, x_invokedynamic, x_ireturn, x_freturn, x_dreturn, x_lreturn, x_areturn, x_return_, pI_c, pL_c, pR_c, pV_i, pV_r, gI_c, gL_c, gR_c, pN_z, pN_s, lget_c, lins_z, lins_c, ldel_z, ldel_c, ldel2_z, ldel2_c, lset_i, lset_l, lset_r, lkeep_z, lkeep_c, largs_z, largs_c, cat_i, cat_l, cat_r, lkp_c, cnd_eq, cnd_ne, cnd_lt, cnd_ge, cnd_gt, cnd_le, swL_z, swL_c, rE_e, rOr_s, rOr_n, rlk_z, rlk_c, aR_c, aI_c, aII_c, aIII_c, aRI_c, aRII_c, aRIII_c, vJn, vJs, vlc, apSos, hk, hk.1.1]
  rw [sumB_63 hk.2.2.1]
  exact h
def apPos : Sp := fun as t σ Q => aRII as fun a b s => SeaOk t σ a ∧ (0 ≤ s ∧ s < 4) ∧ Q (some (vI (sumB b (fun i => partV (vwS σ a) i s) (nS σ a)))) t σ
theorem a_partsOfSome {l : Launch} {g : GE} {d : Nat} {t : Tau} {σ : Mem} {Q : Post} {as : List TV} (h : apPos as t σ Q) : WPc l g 53 (d + 3) 0 0 as t σ Q := by
  obtain ⟨a, b, s, rfl, hk, ⟨s0, s1⟩, h⟩ := aRII_e h
  have hk' := hk
  obtain ⟨⟨o, -⟩, z0, hW⟩ := hk
  have n6 := hW.1
  have hB : ∀ i : Int, 0 ≤ i → i < nS σ a → 0 ≤ partV (vwS σ a) i s ∧ partV (vwS σ a) i s ≤ 12 := fun i i0 i1 => hW.pt i0 i1 s0 s1
  have lp : ∀ (r i : Nat), i + r = nS σ a → Wp l g 53 (d + 3) 0 0 5 [(0, vR a), (1, vI b), (2, vI s), (3, vI (sumB b (fun i => partV (vwS σ a) i s) i)), (4, vI i)] [] t σ Q := by
    intro r
    induction r with
    | zero =>
      intro i hi
      obtain rfl : i = nS σ a := by omega
      refine wa (by decide) regA_ok tk_53 30 (fun N hN => ?_)
      simp [bl_53, hN _, x_iconst, x_ldc2_w, x_aconst_null, x_iload, x_lload, x_aload, x_istore, x_lstore, x_astore, x_iinc, x_iadd, x_isub, x_imul, x_idiv, x_irem, x_iand, x_ior, x_ixor, x_ishl, x_ishr, x_iushr, x_ineg, x_ladd, x_lsub, x_lmul, x_ldiv, x_lrem, x_lcmp, x_i2l, x_i2b, x_i2s, x_i2c, x_dup, x_pop, x_dup_x1, x_dup2, x_getfield, x_putfield, x_iaload, x_baload, x_saload, x_caload, x_daload, x_faload, x_laload, x_aaload, x_iastore, x_bastore, x_sastore, x_castore, x_lastore, x_aastore, x_arraylength, x_getstatic, x_goto, x_goto_w, x_ifCond, x_if_icmp, x_ifnull, x_ifnonnull, x_lookupswitch, x_invokevirtual, x_invokestatic, x_invokedynamic, x_ireturn, x_freturn, x_dreturn, x_lreturn, x_areturn, x_return_, pI_c, pL_c, pR_c, pV_i, pV_r, gI_c, gL_c, gR_c, pN_z, pN_s, lget_c, lins_z, lins_c, ldel_z, ldel_c, ldel2_z, ldel2_c, lset_i, lset_l, lset_r, lkeep_z, lkeep_c, largs_z, largs_c, cat_i, cat_l, cat_r, lkp_c, cnd_eq, cnd_ne, cnd_lt, cnd_ge, cnd_gt, cnd_le, swL_z, swL_c, rE_e, rOr_s, rOr_n, rlk_z, rlk_c, aR_c, aI_c, aII_c, aIII_c, aRI_c, aRII_c, aRIII_c, vJn, vJs, vlc, o, z0]
      exact h
    | succ r ih =>
      intro i hi
      have e2 := w32_succ (k := i) (by omega); have i1 : ((i : Nat) : Int) < (nS σ a : Nat) := (by omega); have i1n : i < nS σ a := (by omega); have i1x : ¬ nS σ a ≤ i := (by omega)
      have b1 := sumB_b (b := b) (f := fun i => partV (vwS σ a) i s) i (by omega) (fun j j0 j1 => hB j j0 (by omega))
      have b2 := mul_le12 (by omega) (by omega) b1.2
      have b3 := hB i (by omega) (by omega)
      have K := ih (i + 1) (by omega)
      have es : sumB b (fun i => partV (vwS σ a) i s) (i + 1) = sumB b (fun i => partV (vwS σ a) i s) i + (if iand b (ishl 1 i) = 0 then 0 else partV (vwS σ a) i s) := rfl
      refine wa (by decide) regA_ok tk_53 30 (fun N hN => ?_)
      simp [bl_53, hN _, x_iconst, x_ldc2_w, x_aconst_null, x_iload, x_lload, x_aload, x_istore, x_lstore, x_astore, x_iinc, x_iadd, x_isub, x_imul, x_idiv, x_irem, x_iand, x_ior, x_ixor, x_ishl, x_ishr, x_iushr, x_ineg, x_ladd, x_lsub, x_lmul, x_ldiv, x_lrem, x_lcmp, x_i2l, x_i2b, x_i2s, x_i2c, x_dup, x_pop, x_dup_x1, x_dup2, x_getfield, x_putfield, x_iaload, x_baload, x_saload, x_caload, x_daload, x_faload, x_laload, x_aaload, x_iastore, x_bastore, x_sastore, x_castore, x_lastore, x_aastore, x_arraylength, x_getstatic, x_goto, x_goto_w, x_ifCond, x_if_icmp, x_ifnull, x_ifnonnull, x_lookupswitch, x_invokevirtual, x_invokestatic, x_invokedynamic, x_ireturn, x_freturn, x_dreturn, x_lreturn, x_areturn, x_return_, pI_c, pL_c, pR_c, pV_i, pV_r, gI_c, gL_c, gR_c, pN_z, pN_s, lget_c, lins_z, lins_c, ldel_z, ldel_c, ldel2_z, ldel2_c, lset_i, lset_l, lset_r, lkeep_z, lkeep_c, largs_z, largs_c, cat_i, cat_l, cat_r, lkp_c, cnd_eq, cnd_ne, cnd_lt, cnd_ge, cnd_gt, cnd_le, swL_z, swL_c, rE_e, rOr_s, rOr_n, rlk_z, rlk_c, aR_c, aI_c, aII_c, aIII_c, aRI_c, aRII_c, aRIII_c, vJn, vJs, vlc, apParts, o, z0, hk', e2, i1, i1n, i1x, s0, s1]
      refine ⟨fun z => ?_, fun z => ?_⟩
      · rw [es, if_pos z, Int.add_zero] at K
        rw [w32_id (by omega) (by omega)]
        exact K
      · rw [es, if_neg z] at K
        rw [w32_id (by omega) (by omega)]
        exact K
  have K := lp (nS σ a) 0 (by omega)
  refine wg (by decide) regA_ok tk_53 py_53 ml_53 30 (by simp [catT]) (fun N hN => ?_)
  simp [bl_53, hN _, x_iconst, x_ldc2_w, x_aconst_null, x_iload, x_lload, x_aload, x_istore, x_lstore, x_astore, x_iinc, x_iadd, x_isub, x_imul, x_idiv, x_irem, x_iand, x_ior, x_ixor, x_ishl, x_ishr, x_iushr, x_ineg, x_ladd, x_lsub, x_lmul, x_ldiv, x_lrem, x_lcmp, x_i2l, x_i2b, x_i2s, x_i2c, x_dup, x_pop, x_dup_x1, x_dup2, x_getfield, x_putfield, x_iaload, x_baload, x_saload, x_caload, x_daload, x_faload, x_laload, x_aaload, x_iastore, x_bastore, x_sastore, x_castore, x_lastore, x_aastore, x_arraylength, x_getstatic, x_goto, x_goto_w, x_ifCond, x_if_icmp, x_ifnull, x_ifnonnull, x_lookupswitch, x_invokevirtual, x_invokestatic, x_invokedynamic, x_ireturn, x_freturn, x_dreturn, x_lreturn, x_areturn, x_return_, pI_c, pL_c, pR_c, pV_i, pV_r, gI_c, gL_c, gR_c, pN_z, pN_s, lget_c, lins_z, lins_c, ldel_z, ldel_c, ldel2_z, ldel2_c, lset_i, lset_l, lset_r, lkeep_z, lkeep_c, largs_z, largs_c, cat_i, cat_l, cat_r, lkp_c, cnd_eq, cnd_ne, cnd_lt, cnd_ge, cnd_gt, cnd_le, swL_z, swL_c, rE_e, rOr_s, rOr_n, rlk_z, rlk_c, aR_c, aI_c, aII_c, aIII_c, aRI_c, aRII_c, aRIII_c, vJn, vJs, vlc]
  exact K
theorem regPos_ok {l : Launch} {g : GE} {d : Nat} : ∀ e as t σ Q, rE l g (d + 3) [(53, apPos)] e as t σ Q → WPc l g e (d + 3) 0 0 as t σ Q :=
  rE_cons (fun _ _ _ _ h => a_partsOfSome h) rE_nil
def apPoa : Sp := fun as t σ Q => aRI as fun a s => SeaOk t σ a ∧ (0 ≤ s ∧ s < 4) ∧ Q (some (vI (sumN (fun i => partV (vwS σ a) i s) (nS σ a)))) t σ
theorem a_partsOfAll {l : Launch} {g : GE} {d : Nat} {t : Tau} {σ : Mem} {Q : Post} {as : List TV} (h : apPoa as t σ Q) : WPc l g 52 (d + 4) 0 0 as t σ Q := by
  obtain ⟨a, s, rfl, hk, ⟨s0, s1⟩, h⟩ := aRI_e h
  refine wg (by decide) regPos_ok tk_52 py_52 ml_52 30 (by simp [catT]) (fun N hN => ?_)
  simp [bl_52, hN _, x_iconst, x_ldc2_w, x_aconst_null, x_iload, x_lload, x_aload, x_istore, x_lstore, x_astore, x_iinc, x_iadd, x_isub, x_imul, x_idiv, x_irem, x_iand, x_ior, x_ixor, x_ishl, x_ishr, x_iushr, x_ineg, x_ladd, x_lsub, x_lmul, x_ldiv, x_lrem, x_lcmp, x_i2l, x_i2b, x_i2s, x_i2c, x_dup, x_pop, x_dup_x1, x_dup2, x_getfield, x_putfield, x_iaload, x_baload, x_saload, x_caload, x_daload, x_faload, x_laload, x_aaload, x_iastore, x_bastore, x_sastore, x_castore, x_lastore, x_aastore, x_arraylength, x_getstatic, x_goto, x_goto_w, x_ifCond, x_if_icmp, x_ifnull, x_ifnonnull, x_lookupswitch, x_invokevirtual, x_invokestatic, x_invokedynamic, x_ireturn, x_freturn, x_dreturn, x_lreturn, x_areturn, x_return_, pI_c, pL_c, pR_c, pV_i, pV_r, gI_c, gL_c, gR_c, pN_z, pN_s, lget_c, lins_z, lins_c, ldel_z, ldel_c, ldel2_z, ldel2_c, lset_i, lset_l, lset_r, lkeep_z, lkeep_c, largs_z, largs_c, cat_i, cat_l, cat_r, lkp_c, cnd_eq, cnd_ne, cnd_lt, cnd_ge, cnd_gt, cnd_le, swL_z, swL_c, rE_e, rOr_s, rOr_n, rlk_z, rlk_c, aR_c, aI_c, aII_c, aIII_c, aRI_c, aRII_c, aRIII_c, vJn, vJs, vlc, apPos, hk, hk.1.1, s0, s1]
  rw [sumB_63 hk.2.2.1]
  exact h
def apSum (k : Int) : Sp := fun as t σ Q => aR as fun a => SeaOk t σ a ∧ Q (some (vI (sumN (fun i => vwS σ a (k + i)) (nS σ a)))) t σ
theorem a_wonOfAll {l : Launch} {g : GE} {d : Nat} {t : Tau} {σ : Mem} {Q : Post} {as : List TV} (h : apSum 36 as t σ Q) : WPc l g 54 (d + 3) 0 0 as t σ Q := by
  obtain ⟨a, rfl, hk, h⟩ := aR_e h
  have hk' := hk
  obtain ⟨⟨o, -⟩, z0, hW⟩ := hk
  have n6 := hW.1
  have hB : ∀ i : Int, 0 ≤ i → i < nS σ a → 0 ≤ vwS σ a (36 + i) ∧ vwS σ a (36 + i) ≤ 99 := fun i i0 i1 => (hW.2.1 i i0 i1).2.2.2.2.1
  have lp : ∀ (r i : Nat), i + r = nS σ a → Wp l g 54 (d + 3) 0 0 4 [(0, vR a), (1, vI (sumN (fun i => vwS σ a (36 + i)) i)), (2, vI i)] [] t σ Q := by
    intro r
    induction r with
    | zero =>
      intro i hi
      obtain rfl : i = nS σ a := by omega
      refine wa (by decide) regA_ok tk_54 30 (fun N hN => ?_)
      simp [bl_54, hN _, x_iconst, x_ldc2_w, x_aconst_null, x_iload, x_lload, x_aload, x_istore, x_lstore, x_astore, x_iinc, x_iadd, x_isub, x_imul, x_idiv, x_irem, x_iand, x_ior, x_ixor, x_ishl, x_ishr, x_iushr, x_ineg, x_ladd, x_lsub, x_lmul, x_ldiv, x_lrem, x_lcmp, x_i2l, x_i2b, x_i2s, x_i2c, x_dup, x_pop, x_dup_x1, x_dup2, x_getfield, x_putfield, x_iaload, x_baload, x_saload, x_caload, x_daload, x_faload, x_laload, x_aaload, x_iastore, x_bastore, x_sastore, x_castore, x_lastore, x_aastore, x_arraylength, x_getstatic, x_goto, x_goto_w, x_ifCond, x_if_icmp, x_ifnull, x_ifnonnull, x_lookupswitch, x_invokevirtual, x_invokestatic, x_invokedynamic, x_ireturn, x_freturn, x_dreturn, x_lreturn, x_areturn, x_return_, pI_c, pL_c, pR_c, pV_i, pV_r, gI_c, gL_c, gR_c, pN_z, pN_s, lget_c, lins_z, lins_c, ldel_z, ldel_c, ldel2_z, ldel2_c, lset_i, lset_l, lset_r, lkeep_z, lkeep_c, largs_z, largs_c, cat_i, cat_l, cat_r, lkp_c, cnd_eq, cnd_ne, cnd_lt, cnd_ge, cnd_gt, cnd_le, swL_z, swL_c, rE_e, rOr_s, rOr_n, rlk_z, rlk_c, aR_c, aI_c, aII_c, aIII_c, aRI_c, aRII_c, aRIII_c, vJn, vJs, vlc, o, z0]
      exact h
    | succ r ih =>
      intro i hi
      have e2 := w32_succ (k := i) (by omega); have i1 : ((i : Nat) : Int) < (nS σ a : Nat) := (by omega); have i1n : i < nS σ a := (by omega); have i1x : ¬ nS σ a ≤ i := (by omega)
      have b1 := sumN_b (f := fun i => vwS σ a (36 + i)) i (fun j j0 j1 => hB j j0 (by omega))
      have b2 := mul_le12 (by omega) (by omega) b1.2
      have b3 := hB i (by omega) (by omega)
      have K := ih (i + 1) (by omega)
      have es : sumN (fun i => vwS σ a (36 + i)) (i + 1) = sumN (fun i => vwS σ a (36 + i)) i + vwS σ a (36 + i) := rfl
      refine wa (by decide) regA_ok tk_54 30 (fun N hN => ?_)
      simp [bl_54, hN _, x_iconst, x_ldc2_w, x_aconst_null, x_iload, x_lload, x_aload, x_istore, x_lstore, x_astore, x_iinc, x_iadd, x_isub, x_imul, x_idiv, x_irem, x_iand, x_ior, x_ixor, x_ishl, x_ishr, x_iushr, x_ineg, x_ladd, x_lsub, x_lmul, x_ldiv, x_lrem, x_lcmp, x_i2l, x_i2b, x_i2s, x_i2c, x_dup, x_pop, x_dup_x1, x_dup2, x_getfield, x_putfield, x_iaload, x_baload, x_saload, x_caload, x_daload, x_faload, x_laload, x_aaload, x_iastore, x_bastore, x_sastore, x_castore, x_lastore, x_aastore, x_arraylength, x_getstatic, x_goto, x_goto_w, x_ifCond, x_if_icmp, x_ifnull, x_ifnonnull, x_lookupswitch, x_invokevirtual, x_invokestatic, x_invokedynamic, x_ireturn, x_freturn, x_dreturn, x_lreturn, x_areturn, x_return_, pI_c, pL_c, pR_c, pV_i, pV_r, gI_c, gL_c, gR_c, pN_z, pN_s, lget_c, lins_z, lins_c, ldel_z, ldel_c, ldel2_z, ldel2_c, lset_i, lset_l, lset_r, lkeep_z, lkeep_c, largs_z, largs_c, cat_i, cat_l, cat_r, lkp_c, cnd_eq, cnd_ne, cnd_lt, cnd_ge, cnd_gt, cnd_le, swL_z, swL_c, rE_e, rOr_s, rOr_n, rlk_z, rlk_c, aR_c, aI_c, aII_c, aIII_c, aRI_c, aRII_c, aRIII_c, vJn, vJs, vlc, apOf, o, z0, hk', e2, i1, i1n, i1x]
      rw [es] at K
      rw [w32_id (by omega) (by omega)]
      exact K
  have K := lp (nS σ a) 0 (by omega)
  refine wg (by decide) regA_ok tk_54 py_54 ml_54 30 (by simp [catT]) (fun N hN => ?_)
  simp [bl_54, hN _, x_iconst, x_ldc2_w, x_aconst_null, x_iload, x_lload, x_aload, x_istore, x_lstore, x_astore, x_iinc, x_iadd, x_isub, x_imul, x_idiv, x_irem, x_iand, x_ior, x_ixor, x_ishl, x_ishr, x_iushr, x_ineg, x_ladd, x_lsub, x_lmul, x_ldiv, x_lrem, x_lcmp, x_i2l, x_i2b, x_i2s, x_i2c, x_dup, x_pop, x_dup_x1, x_dup2, x_getfield, x_putfield, x_iaload, x_baload, x_saload, x_caload, x_daload, x_faload, x_laload, x_aaload, x_iastore, x_bastore, x_sastore, x_castore, x_lastore, x_aastore, x_arraylength, x_getstatic, x_goto, x_goto_w, x_ifCond, x_if_icmp, x_ifnull, x_ifnonnull, x_lookupswitch, x_invokevirtual, x_invokestatic, x_invokedynamic, x_ireturn, x_freturn, x_dreturn, x_lreturn, x_areturn, x_return_, pI_c, pL_c, pR_c, pV_i, pV_r, gI_c, gL_c, gR_c, pN_z, pN_s, lget_c, lins_z, lins_c, ldel_z, ldel_c, ldel2_z, ldel2_c, lset_i, lset_l, lset_r, lkeep_z, lkeep_c, largs_z, largs_c, cat_i, cat_l, cat_r, lkp_c, cnd_eq, cnd_ne, cnd_lt, cnd_ge, cnd_gt, cnd_le, swL_z, swL_c, rE_e, rOr_s, rOr_n, rlk_z, rlk_c, aR_c, aI_c, aII_c, aIII_c, aRI_c, aRII_c, aRIII_c, vJn, vJs, vlc]
  exact K
theorem a_lostOfAll {l : Launch} {g : GE} {d : Nat} {t : Tau} {σ : Mem} {Q : Post} {as : List TV} (h : apSum 42 as t σ Q) : WPc l g 55 (d + 3) 0 0 as t σ Q := by
  obtain ⟨a, rfl, hk, h⟩ := aR_e h
  have hk' := hk
  obtain ⟨⟨o, -⟩, z0, hW⟩ := hk
  have n6 := hW.1
  have hB : ∀ i : Int, 0 ≤ i → i < nS σ a → 0 ≤ vwS σ a (42 + i) ∧ vwS σ a (42 + i) ≤ 99 := fun i i0 i1 => (hW.2.1 i i0 i1).2.2.2.2.2
  have lp : ∀ (r i : Nat), i + r = nS σ a → Wp l g 55 (d + 3) 0 0 4 [(0, vR a), (1, vI (sumN (fun i => vwS σ a (42 + i)) i)), (2, vI i)] [] t σ Q := by
    intro r
    induction r with
    | zero =>
      intro i hi
      obtain rfl : i = nS σ a := by omega
      refine wa (by decide) regA_ok tk_55 30 (fun N hN => ?_)
      simp [bl_55, hN _, x_iconst, x_ldc2_w, x_aconst_null, x_iload, x_lload, x_aload, x_istore, x_lstore, x_astore, x_iinc, x_iadd, x_isub, x_imul, x_idiv, x_irem, x_iand, x_ior, x_ixor, x_ishl, x_ishr, x_iushr, x_ineg, x_ladd, x_lsub, x_lmul, x_ldiv, x_lrem, x_lcmp, x_i2l, x_i2b, x_i2s, x_i2c, x_dup, x_pop, x_dup_x1, x_dup2, x_getfield, x_putfield, x_iaload, x_baload, x_saload, x_caload, x_daload, x_faload, x_laload, x_aaload, x_iastore, x_bastore, x_sastore, x_castore, x_lastore, x_aastore, x_arraylength, x_getstatic, x_goto, x_goto_w, x_ifCond, x_if_icmp, x_ifnull, x_ifnonnull, x_lookupswitch, x_invokevirtual, x_invokestatic, x_invokedynamic, x_ireturn, x_freturn, x_dreturn, x_lreturn, x_areturn, x_return_, pI_c, pL_c, pR_c, pV_i, pV_r, gI_c, gL_c, gR_c, pN_z, pN_s, lget_c, lins_z, lins_c, ldel_z, ldel_c, ldel2_z, ldel2_c, lset_i, lset_l, lset_r, lkeep_z, lkeep_c, largs_z, largs_c, cat_i, cat_l, cat_r, lkp_c, cnd_eq, cnd_ne, cnd_lt, cnd_ge, cnd_gt, cnd_le, swL_z, swL_c, rE_e, rOr_s, rOr_n, rlk_z, rlk_c, aR_c, aI_c, aII_c, aIII_c, aRI_c, aRII_c, aRIII_c, vJn, vJs, vlc, o, z0]
      exact h
    | succ r ih =>
      intro i hi
      have e2 := w32_succ (k := i) (by omega); have i1 : ((i : Nat) : Int) < (nS σ a : Nat) := (by omega); have i1n : i < nS σ a := (by omega); have i1x : ¬ nS σ a ≤ i := (by omega)
      have b1 := sumN_b (f := fun i => vwS σ a (42 + i)) i (fun j j0 j1 => hB j j0 (by omega))
      have b2 := mul_le12 (by omega) (by omega) b1.2
      have b3 := hB i (by omega) (by omega)
      have K := ih (i + 1) (by omega)
      have es : sumN (fun i => vwS σ a (42 + i)) (i + 1) = sumN (fun i => vwS σ a (42 + i)) i + vwS σ a (42 + i) := rfl
      refine wa (by decide) regA_ok tk_55 30 (fun N hN => ?_)
      simp [bl_55, hN _, x_iconst, x_ldc2_w, x_aconst_null, x_iload, x_lload, x_aload, x_istore, x_lstore, x_astore, x_iinc, x_iadd, x_isub, x_imul, x_idiv, x_irem, x_iand, x_ior, x_ixor, x_ishl, x_ishr, x_iushr, x_ineg, x_ladd, x_lsub, x_lmul, x_ldiv, x_lrem, x_lcmp, x_i2l, x_i2b, x_i2s, x_i2c, x_dup, x_pop, x_dup_x1, x_dup2, x_getfield, x_putfield, x_iaload, x_baload, x_saload, x_caload, x_daload, x_faload, x_laload, x_aaload, x_iastore, x_bastore, x_sastore, x_castore, x_lastore, x_aastore, x_arraylength, x_getstatic, x_goto, x_goto_w, x_ifCond, x_if_icmp, x_ifnull, x_ifnonnull, x_lookupswitch, x_invokevirtual, x_invokestatic, x_invokedynamic, x_ireturn, x_freturn, x_dreturn, x_lreturn, x_areturn, x_return_, pI_c, pL_c, pR_c, pV_i, pV_r, gI_c, gL_c, gR_c, pN_z, pN_s, lget_c, lins_z, lins_c, ldel_z, ldel_c, ldel2_z, ldel2_c, lset_i, lset_l, lset_r, lkeep_z, lkeep_c, largs_z, largs_c, cat_i, cat_l, cat_r, lkp_c, cnd_eq, cnd_ne, cnd_lt, cnd_ge, cnd_gt, cnd_le, swL_z, swL_c, rE_e, rOr_s, rOr_n, rlk_z, rlk_c, aR_c, aI_c, aII_c, aIII_c, aRI_c, aRII_c, aRIII_c, vJn, vJs, vlc, apOf, o, z0, hk', e2, i1, i1n, i1x]
      rw [es] at K
      rw [w32_id (by omega) (by omega)]
      exact K
  have K := lp (nS σ a) 0 (by omega)
  refine wg (by decide) regA_ok tk_55 py_55 ml_55 30 (by simp [catT]) (fun N hN => ?_)
  simp [bl_55, hN _, x_iconst, x_ldc2_w, x_aconst_null, x_iload, x_lload, x_aload, x_istore, x_lstore, x_astore, x_iinc, x_iadd, x_isub, x_imul, x_idiv, x_irem, x_iand, x_ior, x_ixor, x_ishl, x_ishr, x_iushr, x_ineg, x_ladd, x_lsub, x_lmul, x_ldiv, x_lrem, x_lcmp, x_i2l, x_i2b, x_i2s, x_i2c, x_dup, x_pop, x_dup_x1, x_dup2, x_getfield, x_putfield, x_iaload, x_baload, x_saload, x_caload, x_daload, x_faload, x_laload, x_aaload, x_iastore, x_bastore, x_sastore, x_castore, x_lastore, x_aastore, x_arraylength, x_getstatic, x_goto, x_goto_w, x_ifCond, x_if_icmp, x_ifnull, x_ifnonnull, x_lookupswitch, x_invokevirtual, x_invokestatic, x_invokedynamic, x_ireturn, x_freturn, x_dreturn, x_lreturn, x_areturn, x_return_, pI_c, pL_c, pR_c, pV_i, pV_r, gI_c, gL_c, gR_c, pN_z, pN_s, lget_c, lins_z, lins_c, ldel_z, ldel_c, ldel2_z, ldel2_c, lset_i, lset_l, lset_r, lkeep_z, lkeep_c, largs_z, largs_c, cat_i, cat_l, cat_r, lkp_c, cnd_eq, cnd_ne, cnd_lt, cnd_ge, cnd_gt, cnd_le, swL_z, swL_c, rE_e, rOr_s, rOr_n, rlk_z, rlk_c, aR_c, aI_c, aII_c, aIII_c, aRI_c, aRII_c, aRIII_c, vJn, vJs, vlc]
  exact K
def apStrange : Sp := fun as t σ Q => aRI as fun a s => SeaOk t σ a ∧ (0 ≤ s ∧ s < nS σ a) ∧ Q (some (vI (12 - ownV (vwS σ a) s))) t σ
theorem a_strangeParts {l : Launch} {g : GE} {d : Nat} {t : Tau} {σ : Mem} {Q : Post} {as : List TV} (h : apStrange as t σ Q) : WPc l g 49 (d + 3) 0 0 as t σ Q := by
  obtain ⟨a, s, rfl, hk, ⟨s0, s1⟩, h⟩ := aRI_e h
  have hW := hk.2.2
  have ha := (hW.2.1 s s0 s1).2.1
  have hp := hW.pt s0 s1 ha.1 ha.2
  refine wg (by decide) regA_ok tk_49 py_49 ml_49 30 (by simp [catT]) (fun N hN => ?_)
  simp [bl_49, hN _, x_iconst, x_ldc2_w, x_aconst_null, x_iload, x_lload, x_aload, x_istore, x_lstore, x_astore, x_iinc, x_iadd, x_isub, x_imul, x_idiv, x_irem, x_iand, x_ior, x_ixor, x_ishl, x_ishr, x_iushr, x_ineg, x_ladd, x_lsub, x_lmul, x_ldiv, x_lrem, x_lcmp, x_i2l, x_i2b, x_i2s, x_i2c, x_dup, x_pop, x_dup_x1, x_dup2, x_getfield, x_putfield, x_iaload, x_baload, x_saload, x_caload, x_daload, x_faload, x_laload, x_aaload, x_iastore, x_bastore, x_sastore, x_castore, x_lastore, x_aastore, x_arraylength, x_getstatic, x_goto, x_goto_w, x_ifCond, x_if_icmp, x_ifnull, x_ifnonnull, x_lookupswitch, x_invokevirtual, x_invokestatic, x_invokedynamic, x_ireturn, x_freturn, x_dreturn, x_lreturn, x_areturn, x_return_, pI_c, pL_c, pR_c, pV_i, pV_r, gI_c, gL_c, gR_c, pN_z, pN_s, lget_c, lins_z, lins_c, ldel_z, ldel_c, ldel2_z, ldel2_c, lset_i, lset_l, lset_r, lkeep_z, lkeep_c, largs_z, largs_c, cat_i, cat_l, cat_r, lkp_c, cnd_eq, cnd_ne, cnd_lt, cnd_ge, cnd_gt, cnd_le, swL_z, swL_c, rE_e, rOr_s, rOr_n, rlk_z, rlk_c, aR_c, aI_c, aII_c, aIII_c, aRI_c, aRII_c, aRIII_c, vJn, vJs, vlc, apOf, apParts, hk, hk.1.1, s0, s1, ha]
  rw [w32_id (by omega) (by omega)]
  exact h
def absI (x : Int) : Int := if x < 0 then -x else x
def diffV (V : Int → Int) (i j : Int) : Int := sumN (fun s => absI (partV V i s - partV V j s)) 4
def apDiff : Sp := fun as t σ Q => aRII as fun a s r => SeaOk t σ a ∧ (0 ≤ s ∧ s < nS σ a) ∧ (0 ≤ r ∧ r < nS σ a) ∧ Q (some (vI (diffV (vwS σ a) s r))) t σ
theorem abs_w {x : Int} (h : -1000000 ≤ x ∧ x ≤ 1000000) : (if w32 x < 0 then w32 (-w32 x) else w32 x) = absI x := by
  rw [w32_id (x := x) (by omega) (by omega)]
  unfold absI
  split
  · rw [w32_id (by omega) (by omega)]
  · rfl
theorem a_difference {l : Launch} {g : GE} {d : Nat} {t : Tau} {σ : Mem} {Q : Post} {as : List TV} (h : apDiff as t σ Q) : WPc l g 56 (d + 3) 0 0 as t σ Q := by
  obtain ⟨a, s, r, rfl, hk, ⟨s0, s1⟩, ⟨r0, r1⟩, h⟩ := aRII_e h
  have hW := hk.2.2
  have n6 := hW.1
  have hB : ∀ i : Int, 0 ≤ i → i < 4 → 0 ≤ absI (partV (vwS σ a) s i - partV (vwS σ a) r i) ∧ absI (partV (vwS σ a) s i - partV (vwS σ a) r i) ≤ 12 := fun i i0 i1 => by
    have e1 := hW.pt s0 s1 i0 i1
    have e2 := hW.pt r0 r1 i0 i1
    unfold absI
    split <;> omega
  have lp : ∀ (q i : Nat), i + q = 4 → Wp l g 56 (d + 3) 0 0 5 [(0, vR a), (1, vI s), (2, vI r), (3, vI (sumN (fun f => absI (partV (vwS σ a) s f - partV (vwS σ a) r f)) i)), (4, vI i)] [] t σ Q := by
    intro q
    induction q with
    | zero =>
      intro i hi
      obtain rfl : i = 4 := by omega
      refine wa (by decide) regA_ok tk_56 30 (fun N hN => ?_)
      simp [bl_56, hN _, x_iconst, x_ldc2_w, x_aconst_null, x_iload, x_lload, x_aload, x_istore, x_lstore, x_astore, x_iinc, x_iadd, x_isub, x_imul, x_idiv, x_irem, x_iand, x_ior, x_ixor, x_ishl, x_ishr, x_iushr, x_ineg, x_ladd, x_lsub, x_lmul, x_ldiv, x_lrem, x_lcmp, x_i2l, x_i2b, x_i2s, x_i2c, x_dup, x_pop, x_dup_x1, x_dup2, x_getfield, x_putfield, x_iaload, x_baload, x_saload, x_caload, x_daload, x_faload, x_laload, x_aaload, x_iastore, x_bastore, x_sastore, x_castore, x_lastore, x_aastore, x_arraylength, x_getstatic, x_goto, x_goto_w, x_ifCond, x_if_icmp, x_ifnull, x_ifnonnull, x_lookupswitch, x_invokevirtual, x_invokestatic, x_invokedynamic, x_ireturn, x_freturn, x_dreturn, x_lreturn, x_areturn, x_return_, pI_c, pL_c, pR_c, pV_i, pV_r, gI_c, gL_c, gR_c, pN_z, pN_s, lget_c, lins_z, lins_c, ldel_z, ldel_c, ldel2_z, ldel2_c, lset_i, lset_l, lset_r, lkeep_z, lkeep_c, largs_z, largs_c, cat_i, cat_l, cat_r, lkp_c, cnd_eq, cnd_ne, cnd_lt, cnd_ge, cnd_gt, cnd_le, swL_z, swL_c, rE_e, rOr_s, rOr_n, rlk_z, rlk_c, aR_c, aI_c, aII_c, aIII_c, aRI_c, aRII_c, aRIII_c, vJn, vJs, vlc]
      exact h
    | succ q ih =>
      intro i hi
      have e2 := w32_succ (k := i) (by omega); have i1 : ((i : Nat) : Int) < 4 := (by omega); have i1n : i < 4 := (by omega); have i1x : ¬ (4 : Int) ≤ (i : Nat) := (by omega)
      have b1 := sumN_b (f := fun f => absI (partV (vwS σ a) s f - partV (vwS σ a) r f)) i (fun j j0 j1 => hB j j0 (by omega))
      have b2 := mul_le12 (by omega) (by omega) b1.2
      have b3 := hB i (by omega) (by omega)
      have K := ih (i + 1) (by omega)
      have es : sumN (fun f => absI (partV (vwS σ a) s f - partV (vwS σ a) r f)) (i + 1) = sumN (fun f => absI (partV (vwS σ a) s f - partV (vwS σ a) r f)) i + absI (partV (vwS σ a) s i - partV (vwS σ a) r i) := rfl
      have x1 := hW.pt s0 s1 (s := i) (by omega) (by omega)
      have x2 := hW.pt r0 r1 (s := i) (by omega) (by omega)
      have ea := abs_w (x := partV (vwS σ a) s i - partV (vwS σ a) r i) (by omega)
      refine wa (by decide) regA_ok tk_56 30 (fun N hN => ?_)
      simp [bl_56, hN _, x_iconst, x_ldc2_w, x_aconst_null, x_iload, x_lload, x_aload, x_istore, x_lstore, x_astore, x_iinc, x_iadd, x_isub, x_imul, x_idiv, x_irem, x_iand, x_ior, x_ixor, x_ishl, x_ishr, x_iushr, x_ineg, x_ladd, x_lsub, x_lmul, x_ldiv, x_lrem, x_lcmp, x_i2l, x_i2b, x_i2s, x_i2c, x_dup, x_pop, x_dup_x1, x_dup2, x_getfield, x_putfield, x_iaload, x_baload, x_saload, x_caload, x_daload, x_faload, x_laload, x_aaload, x_iastore, x_bastore, x_sastore, x_castore, x_lastore, x_aastore, x_arraylength, x_getstatic, x_goto, x_goto_w, x_ifCond, x_if_icmp, x_ifnull, x_ifnonnull, x_lookupswitch, x_invokevirtual, x_invokestatic, x_invokedynamic, x_ireturn, x_freturn, x_dreturn, x_lreturn, x_areturn, x_return_, pI_c, pL_c, pR_c, pV_i, pV_r, gI_c, gL_c, gR_c, pN_z, pN_s, lget_c, lins_z, lins_c, ldel_z, ldel_c, ldel2_z, ldel2_c, lset_i, lset_l, lset_r, lkeep_z, lkeep_c, largs_z, largs_c, cat_i, cat_l, cat_r, lkp_c, cnd_eq, cnd_ne, cnd_lt, cnd_ge, cnd_gt, cnd_le, swL_z, swL_c, rE_e, rOr_s, rOr_n, rlk_z, rlk_c, aR_c, aI_c, aII_c, aIII_c, aRI_c, aRII_c, aRIII_c, vJn, vJs, vlc, apParts, spAbs, hk, hk.1.1, e2, i1, i1n, i1x, s0, s1, r0, r1]
      rw [ea, w32_id (by omega) (by omega)]
      rw [es] at K
      exact K
  have K := lp 4 0 (by omega)
  refine wg (by decide) regA_ok tk_56 py_56 ml_56 30 (by simp [catT]) (fun N hN => ?_)
  simp [bl_56, hN _, x_iconst, x_ldc2_w, x_aconst_null, x_iload, x_lload, x_aload, x_istore, x_lstore, x_astore, x_iinc, x_iadd, x_isub, x_imul, x_idiv, x_irem, x_iand, x_ior, x_ixor, x_ishl, x_ishr, x_iushr, x_ineg, x_ladd, x_lsub, x_lmul, x_ldiv, x_lrem, x_lcmp, x_i2l, x_i2b, x_i2s, x_i2c, x_dup, x_pop, x_dup_x1, x_dup2, x_getfield, x_putfield, x_iaload, x_baload, x_saload, x_caload, x_daload, x_faload, x_laload, x_aaload, x_iastore, x_bastore, x_sastore, x_castore, x_lastore, x_aastore, x_arraylength, x_getstatic, x_goto, x_goto_w, x_ifCond, x_if_icmp, x_ifnull, x_ifnonnull, x_lookupswitch, x_invokevirtual, x_invokestatic, x_invokedynamic, x_ireturn, x_freturn, x_dreturn, x_lreturn, x_areturn, x_return_, pI_c, pL_c, pR_c, pV_i, pV_r, gI_c, gL_c, gR_c, pN_z, pN_s, lget_c, lins_z, lins_c, ldel_z, ldel_c, ldel2_z, ldel2_c, lset_i, lset_l, lset_r, lkeep_z, lkeep_c, largs_z, largs_c, cat_i, cat_l, cat_r, lkp_c, cnd_eq, cnd_ne, cnd_lt, cnd_ge, cnd_gt, cnd_le, swL_z, swL_c, rE_e, rOr_s, rOr_n, rlk_z, rlk_c, aR_c, aI_c, aII_c, aIII_c, aRI_c, aRII_c, aRIII_c, vJn, vJs, vlc]
  exact K
