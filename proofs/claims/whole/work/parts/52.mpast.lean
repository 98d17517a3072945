/-! the reference: yielding, what it remembers -/
def rfYield (n : Nat) (V : Int → Int) (s f : Int) : Int := if (0 ≤ s ∧ s < n) ∧ (0 ≤ f ∧ f < 4) then (if partV V s f = 12 then -2 else 0) else -1
theorem RowT.now {t : Tau} (hM : TM t) : RowT t 176 := ⟨hM.t176, hM.l176⟩
theorem RowT.thn {t : Tau} (hM : TM t) : RowT t 186 := ⟨hM.t186, hM.l186⟩
theorem RowT.asd {t : Tau} (hM : TM t) : RowT t 185 := ⟨hM.t185, hM.l185⟩
theorem RowT.spt {t : Tau} (hM : TM t) : RowT t 190 := ⟨hM.t190, hM.l190⟩
def mpRefY : Sp := fun as t σ Q => aRII as fun a s f => a = 175 ∧ MdOk t σ ∧ Q (some (vI (rfYield (nM σ) (vA σ 176) s f))) t σ
theorem m_refY {l : Launch} {g : GE} {d : Nat} {t : Tau} {σ : Mem} {Q : Post} {as : List TV} (h0 : mpRefY as t σ Q) : WPc l g 217 (d + 3) 0 0 as t σ Q := by
  obtain ⟨a, s, f, rfl, rfl, hM, h⟩ := aRII_e h0
  clear h0
  have n6 := hM.2.2
  unfold rfYield at h
  refine wg (by decide) rgM2_ok tk_217 py_217 ml_217 30 (by simp [catT]) (fun N hN => ?_)
  by_cases hs : (0 ≤ s ∧ s < nM σ) ∧ (0 ≤ f ∧ f < 4)
  · rw [if_pos hs] at h
    obtain ⟨⟨s0, s1⟩, f0, f1⟩ := hs
    have s6 : s < 6 := by omega
    simp [bl_217, hN _, x_iconst, x_ldc2_w, x_aconst_null, x_iload, x_lload, x_aload, x_istore, x_lstore, x_astore, x_iinc, x_iadd, x_isub, x_imul, x_idiv, x_irem, x_iand, x_ior, x_ixor, x_ishl, x_ishr, x_iushr, x_ineg, x_ladd, x_lsub, x_lmul, x_ldiv, x_lrem, x_lcmp, x_i2l, x_i2b, x_i2s, x_i2c, x_dup, x_pop, x_dup_x1, x_dup2, x_getfield, x_putfield, x_iaload, x_baload, x_saload, x_caload, x_daload, x_faload, x_laload, x_aaload, x_iastore, x_bastore, x_sastore, x_castore, x_lastore, x_aastore, x_arraylength, x_getstatic, x_goto, x_goto_w, x_ifCond, x_if_icmp, x_ifnull, x_ifnonnull, x_lookupswitch, x_invokevirtual, x_invokestatic, x_invokedynamic, x_ireturn, x_freturn, x_dreturn, x_lreturn, x_areturn, x_return_, pI_c, pL_c, pR_c, pV_i, pV_r, gI_c, gL_c, gR_c, pN_z, pN_s, lget_c, lins_z, lins_c, ldel_z, ldel_c, ldel2_z, ldel2_c, lset_i, lset_l, lset_r, lkeep_z, lkeep_c, largs_z, largs_c, cat_i, cat_l, cat_r, lkp_c, cnd_eq, cnd_ne, cnd_lt, cnd_ge, cnd_gt, cnd_le, swL_z, swL_c, rE_e, rOr_s, rOr_n, rlk_z, rlk_c, aR_c, aI_c, aII_c, aIII_c, aRI_c, aRII_c, aRIII_c, vJn, vJs, vlc, aRR_c, aRRI_c, aRRII_c, aRRIII_c, aRIIII_c, aRL_c, aRLL_c, aLL_c, aRRRI_c, aIL_c, aIIII_c, aRRIIII_c, aIRII_c, aIR_c, aLI_c, aRIR_c, aRIIR_c, hM.1.o, hM.1.f0, mpShip, mpSide, mpPart, hM, RowT.now hM.1, s0, s1, Int.not_le.mpr s1, Int.not_lt.mpr s0, f0, f1, Int.not_le.mpr f1, Int.not_lt.mpr f0, s6]
    grind
  · rw [if_neg hs] at h
    simp [bl_217, hN _, x_iconst, x_ldc2_w, x_aconst_null, x_iload, x_lload, x_aload, x_istore, x_lstore, x_astore, x_iinc, x_iadd, x_isub, x_imul, x_idiv, x_irem, x_iand, x_ior, x_ixor, x_ishl, x_ishr, x_iushr, x_ineg, x_ladd, x_lsub, x_lmul, x_ldiv, x_lrem, x_lcmp, x_i2l, x_i2b, x_i2s, x_i2c, x_dup, x_pop, x_dup_x1, x_dup2, x_getfield, x_putfield, x_iaload, x_baload, x_saload, x_caload, x_daload, x_faload, x_laload, x_aaload, x_iastore, x_bastore, x_sastore, x_castore, x_lastore, x_aastore, x_arraylength, x_getstatic, x_goto, x_goto_w, x_ifCond, x_if_icmp, x_ifnull, x_ifnonnull, x_lookupswitch, x_invokevirtual, x_invokestatic, x_invokedynamic, x_ireturn, x_freturn, x_dreturn, x_lreturn, x_areturn, x_return_, pI_c, pL_c, pR_c, pV_i, pV_r, gI_c, gL_c, gR_c, pN_z, pN_s, lget_c, lins_z, lins_c, ldel_z, ldel_c, ldel2_z, ldel2_c, lset_i, lset_l, lset_r, lkeep_z, lkeep_c, largs_z, largs_c, cat_i, cat_l, cat_r, lkp_c, cnd_eq, cnd_ne, cnd_lt, cnd_ge, cnd_gt, cnd_le, swL_z, swL_c, rE_e, rOr_s, rOr_n, rlk_z, rlk_c, aR_c, aI_c, aII_c, aIII_c, aRI_c, aRII_c, aRIII_c, vJn, vJs, vlc, aRR_c, aRRI_c, aRRII_c, aRRIII_c, aRIIII_c, aRL_c, aRLL_c, aLL_c, aRRRI_c, aIL_c, aIIII_c, aRRIIII_c, aIRII_c, aIR_c, aLI_c, aRIR_c, aRIIR_c, hM.1.o, mpShip, mpSide, hM]
    grind
def mpYield : Sp := fun as t σ Q => aRII as fun a i s => a = 175 ∧ TM t ∧ (0 ≤ i ∧ i < 6) ∧ (0 ≤ s ∧ s < 4) ∧ ∀ σ', RowTo σ σ' 176 (yieldV (vA σ 176) i s) → Q none t σ'
theorem m_goYielding {l : Launch} {g : GE} {d : Nat} {t : Tau} {σ : Mem} {Q : Post} {as : List TV} (h0 : mpYield as t σ Q) : WPc l g 218 (d + 1) 0 0 as t σ Q := by
  obtain ⟨a, i, s, rfl, rfl, hM, ⟨i0, i6⟩, hs, h⟩ := aRII_e h0
  clear h0
  have e8 : w32 (12 + w32 (4 * i)) = 12 + 4 * i := by rw [w32_id (x := 4 * i) (by omega) (by omega), w32_id (by omega) (by omega)]
  have e1 : w32 (6 + i) = 6 + i := w32_id (by omega) (by omega)
  have e3 : (0 : Int) ≤ 6 + i := by omega
  have e4 : 6 + i < 50 := by omega
  have K : ∀ σ', RowTo σ σ' 176 (hoist4 (vA σ 176) i s 0) → Wp l g 218 (d + 1) 0 0 2 [(0, vR 175), (1, vI i), (2, vI s), (3, vI (0 : Nat))] [] t σ' Q := by
    refine lpU (P := fun k => ∀ σ', RowTo σ σ' 176 (hoist4 (vA σ 176) i s k) → Wp l g 218 (d + 1) 0 0 2 [(0, vR 175), (1, vI i), (2, vI s), (3, vI k)] [] t σ' Q) (n := 4) ?_ (fun k hk K σ' T => ?_)
    · intro σ' T
      refine wa (by decide) rE_nil tk_218 30 (fun N hN => ?_)
      simp [bl_218, hN _, x_iconst, x_ldc2_w, x_aconst_null, x_iload, x_lload, x_aload, x_istore, x_lstore, x_astore, x_iinc, x_iadd, x_isub, x_imul, x_idiv, x_irem, x_iand, x_ior, x_ixor, x_ishl, x_ishr, x_iushr, x_ineg, x_ladd, x_lsub, x_lmul, x_ldiv, x_lrem, x_lcmp, x_i2l, x_i2b, x_i2s, x_i2c, x_dup, x_pop, x_dup_x1, x_dup2, x_getfield, x_putfield, x_iaload, x_baload, x_saload, x_caload, x_daload, x_faload, x_laload, x_aaload, x_iastore, x_bastore, x_sastore, x_castore, x_lastore, x_aastore, x_arraylength, x_getstatic, x_goto, x_goto_w, x_ifCond, x_if_icmp, x_ifnull, x_ifnonnull, x_lookupswitch, x_invokevirtual, x_invokestatic, x_invokedynamic, x_ireturn, x_freturn, x_dreturn, x_lreturn, x_areturn, x_return_, pI_c, pL_c, pR_c, pV_i, pV_r, gI_c, gL_c, gR_c, pN_z, pN_s, lget_c, lins_z, lins_c, ldel_z, ldel_c, ldel2_z, ldel2_c, lset_i, lset_l, lset_r, lkeep_z, lkeep_c, largs_z, largs_c, cat_i, cat_l, cat_r, lkp_c, cnd_eq, cnd_ne, cnd_lt, cnd_ge, cnd_gt, cnd_le, swL_z, swL_c, rE_e, rOr_s, rOr_n, rlk_z, rlk_c, aR_c, aI_c, aII_c, aIII_c, aRI_c, aRII_c, aRIII_c, vJn, vJs, vlc, aRR_c, aRRI_c, aRRII_c, aRRIII_c, aRIIII_c, aRL_c, aRLL_c, aLL_c, aRRRI_c, aIL_c, aIIII_c, aRRIIII_c, aIRII_c, aIR_c, aLI_c, aRIR_c, aRIIR_c, hM.o, hM.f0, hM.t176, hM.l176, e1, e3, e4]
      exact h _ (T.put (by omega) (by omega))
    · have e2 := w32_succ (k := k) (by omega); have i1 : ((k : Nat) : Int) < 4 := (by omega); have i1n : k < 4 := (by omega); have i1x : ¬ (4 : Int) ≤ (k : Nat) := (by omega)
      have e5 : w32 (12 + 4 * i + k) = 12 + 4 * i + k := w32_id (by omega) (by omega)
      have e6 : 0 ≤ 12 + 4 * i + (k : Int) := by omega
      have e7 : 12 + 4 * i + (k : Int) < 50 := by omega
      have es : hoist4 (vA σ 176) i s (k + 1) = upv (hoist4 (vA σ 176) i s k) (12 + 4 * i + k) (if (k : Int) = s then 12 else 0) := rfl
      rw [es] at K
      have K := K _ (T.put (j := 12 + 4 * i + k) e6 e7)
      refine wa (by decide) rE_nil tk_218 30 (fun N hN => ?_)
      simp [bl_218, hN _, x_iconst, x_ldc2_w, x_aconst_null, x_iload, x_lload, x_aload, x_istore, x_lstore, x_astore, x_iinc, x_iadd, x_isub, x_imul, x_idiv, x_irem, x_iand, x_ior, x_ixor, x_ishl, x_ishr, x_iushr, x_ineg, x_ladd, x_lsub, x_lmul, x_ldiv, x_lrem, x_lcmp, x_i2l, x_i2b, x_i2s, x_i2c, x_dup, x_pop, x_dup_x1, x_dup2, x_getfield, x_putfield, x_iaload, x_baload, x_saload, x_caload, x_daload, x_faload, x_laload, x_aaload, x_iastore, x_bastore, x_sastore, x_castore, x_lastore, x_aastore, x_arraylength, x_getstatic, x_goto, x_goto_w, x_ifCond, x_if_icmp, x_ifnull, x_ifnonnull, x_lookupswitch, x_invokevirtual, x_invokestatic, x_invokedynamic, x_ireturn, x_freturn, x_dreturn, x_lreturn, x_areturn, x_return_, pI_c, pL_c, pR_c, pV_i, pV_r, gI_c, gL_c, gR_c, pN_z, pN_s, lget_c, lins_z, lins_c, ldel_z, ldel_c, ldel2_z, ldel2_c, lset_i, lset_l, lset_r, lkeep_z, lkeep_c, largs_z, largs_c, cat_i, cat_l, cat_r, lkp_c, cnd_eq, cnd_ne, cnd_lt, cnd_ge, cnd_gt, cnd_le, swL_z, swL_c, rE_e, rOr_s, rOr_n, rlk_z, rlk_c, aR_c, aI_c, aII_c, aIII_c, aRI_c, aRII_c, aRIII_c, vJn, vJs, vlc, aRR_c, aRRI_c, aRRII_c, aRRIII_c, aRIIII_c, aRL_c, aRLL_c, aLL_c, aRRRI_c, aIL_c, aIIII_c, aRRIIII_c, aIRII_c, aIR_c, aLI_c, aRIR_c, aRIIR_c, hM.o, hM.f0, hM.t176, hM.l176, e2, i1, i1n, i1x, e8, e5, e6, e7]
      refine ⟨fun z => ?_, fun z => ?_⟩
      · rw [if_neg z] at K; exact K
      · rw [if_pos z] at K; exact K
  have K := K σ RowTo.rf
  refine wg (by decide) rE_nil tk_218 py_218 ml_218 30 (by simp [catT]) (fun N hN => ?_)
  simp [bl_218, hN _, x_iconst, x_ldc2_w, x_aconst_null, x_iload, x_lload, x_aload, x_istore, x_lstore, x_astore, x_iinc, x_iadd, x_isub, x_imul, x_idiv, x_irem, x_iand, x_ior, x_ixor, x_ishl, x_ishr, x_iushr, x_ineg, x_ladd, x_lsub, x_lmul, x_ldiv, x_lrem, x_lcmp, x_i2l, x_i2b, x_i2s, x_i2c, x_dup, x_pop, x_dup_x1, x_dup2, x_getfield, x_putfield, x_iaload, x_baload, x_saload, x_caload, x_daload, x_faload, x_laload, x_aaload, x_iastore, x_bastore, x_sastore, x_castore, x_lastore, x_aastore, x_arraylength, x_getstatic, x_goto, x_goto_w, x_ifCond, x_if_icmp, x_ifnull, x_ifnonnull, x_lookupswitch, x_invokevirtual, x_invokestatic, x_invokedynamic, x_ireturn, x_freturn, x_dreturn, x_lreturn, x_areturn, x_return_, pI_c, pL_c, pR_c, pV_i, pV_r, gI_c, gL_c, gR_c, pN_z, pN_s, lget_c, lins_z, lins_c, ldel_z, ldel_c, ldel2_z, ldel2_c, lset_i, lset_l, lset_r, lkeep_z, lkeep_c, largs_z, largs_c, cat_i, cat_l, cat_r, lkp_c, cnd_eq, cnd_ne, cnd_lt, cnd_ge, cnd_gt, cnd_le, swL_z, swL_c, rE_e, rOr_s, rOr_n, rlk_z, rlk_c, aR_c, aI_c, aII_c, aIII_c, aRI_c, aRII_c, aRIII_c, vJn, vJs, vlc, aRR_c, aRRI_c, aRRII_c, aRRIII_c, aRIIII_c, aRL_c, aRLL_c, aLL_c, aRRRI_c, aIL_c, aIIII_c, aRRIIII_c, aIRII_c, aIR_c, aLI_c, aRIR_c, aRIIR_c]
  exact K
/-! what can be undone -/
def sgA (A : Int → Int) (k : Int) : Int → Int := clp (fun j => A (50 * k + j))
def MpIs (σ : Mem) (p : Nat) (U : Nat → Int → Int) : Prop := (σ 175 21 = p ∧ p ≤ 12) ∧ ∀ k : Nat, k < p → sgA (σ 184) k = U k
abbrev rgLy : Reg := [(203, mpLay)]
theorem rgLy_ok {l : Launch} {g : GE} {d : Nat} : ∀ e as t σ Q, rE l g (d + 1) rgLy e as t σ Q → WPc l g e (d + 1) 0 0 as t σ Q := rE_cons (fun _ _ _ _ h => m_lay h) rE_nil
theorem sgA_cg {A B : Int → Int} {k : Int} (h : ∀ j, 50 * k ≤ j → j < 50 * k + 50 → A j = B j) : sgA A k = sgA B k := by
  funext j
  unfold sgA clp
  split
  · exact h _ (by omega) (by omega)
  · rfl
theorem sgA_of {A V : Int → Int} {k : Int} (h : ∀ j, 0 ≤ j → j < 50 → A (50 * k + j) = V j) : sgA A k = clp V := by
  funext j
  unfold sgA clp
  split
  · rename_i hc; exact h j hc.1 hc.2
  · rfl
theorem sgA_sh {A B : Int → Int} {k : Int} (h : ∀ j, 50 * k ≤ j → j < 50 * k + 50 → A j = B (j + 50)) : sgA A k = sgA B (k + 1) := by
  funext j
  unfold sgA clp
  split
  · show A (50 * k + j) = B (50 * (k + 1) + j)
    rw [h _ (by omega) (by omega)]; congr 1; omega
  · rfl
def mpRem : Sp := fun as t σ Q => aRR as fun a r => a = 175 ∧ TM t ∧ RowT t r ∧ r ≠ 175 ∧ ∃ p U, MpIs σ p U ∧ ∀ σ', (∀ o, o ≠ 175 → o ≠ 184 → σ' o = σ o) → (∀ j, j ≠ 21 → σ' 175 j = σ 175 j) → MpIs σ' (pushP p) (pushU p U (vA σ r)) → Q none t σ'
set_option maxHeartbeats 1000000 in
theorem m_remember {l : Launch} {g : GE} {d : Nat} {t : Tau} {σ : Mem} {Q : Post} {as : List TV} (h0 : mpRem as t σ Q) : WPc l g 204 (d + 2) 0 0 as t σ Q := by
  obtain ⟨a, r, rfl, rfl, hM, hr, r5, p, U, ⟨⟨p1, p2⟩, hU⟩, h⟩ := aRR_e h0
  clear h0
  have r4 : r ≠ 184 := by
    rintro rfl
    have := hr.2
    rw [hM.l184] at this
    omega
  /- behind the shift, if there was one: q are left, W -/
  have fin : ∀ (q : Nat) (W : Nat → Int → Int) (σ1 : Mem), q < 12 → (∀ o, o ≠ 175 → o ≠ 184 → σ1 o = σ o) → (∀ j, j ≠ 21 → σ1 175 j = σ 175 j) → (∀ k : Nat, k < q → sgA (σ1 184) k = W k) → ∀ σ2, (∀ o, o ≠ 184 → σ2 o = σ1 o) → (∀ j, σ2 184 j = if 50 * (q : Int) ≤ j ∧ j < 50 * q + 50 then σ1 r (j - 50 * q) else σ1 184 j) → (pushP p = q + 1 ∧ ∀ k : Nat, k < q + 1 → (if k = q then vA σ r else W k) = pushU p U (vA σ r) k) → Q none t (up σ2 175 21 ((q + 1 : Nat) : Int)) := by
    intro q W σ1 hq x1 x2 x3 σ2 y1 y2 ⟨e1, e2⟩
    refine h _ (fun o a b => by rw [up_ne a, y1 o b, x1 o a b]) (fun j hj => by rw [up_ap, if_neg (fun z => hj z.2), y1 175 (by omega), x2 j hj]) ⟨⟨by rw [e1]; simp [up_ap], by omega⟩, fun k hk => ?_⟩
    rw [e1] at hk
    rw [← e2 k hk, up_ne (by omega)]
    by_cases hkq : k = q
    · subst hkq
      rw [if_pos rfl]
      refine sgA_of (fun j j0 j1 => ?_)
      rw [y2, if_pos (by omega), x1 r r5 r4]
      congr 1; omega
    · rw [if_neg hkq, ← x3 k (by omega)]
      refine sgA_cg (fun j j0 j1 => ?_)
      rw [y2, if_neg (by omega)]
  by_cases hp : p = 12
  · subst hp
    have K : ∀ σ', (∀ o, o ≠ 184 → σ' o = σ o) → (∀ j, σ' 184 j = if 0 ≤ j ∧ j < ((0 : Nat) : Int) then σ 184 (j + 50) else σ 184 j) → Wp l g 204 (d + 2) 0 0 11 [(0, vR 175), (1, vR r), (2, vI (0 : Nat))] [] t σ' Q := by
      refine lpU (P := fun i => ∀ σ', (∀ o, o ≠ 184 → σ' o = σ o) → (∀ j, σ' 184 j = if 0 ≤ j ∧ j < ((i : Nat) : Int) then σ 184 (j + 50) else σ 184 j) → Wp l g 204 (d + 2) 0 0 11 [(0, vR 175), (1, vR r), (2, vI i)] [] t σ' Q) (n := 550) ?_ (fun i hi K σ' h1 h2 => ?_)
      · intro σ' h1 h2
        have x1 : σ' 175 = σ 175 := h1 175 (by omega)
        refine wa (by decide) rgLy_ok ts_204 30 (fun N hN => ?_)
        have w550 : w32 550 = 550 := by rw [w32_eq]; rfl
        have w12 : w32 12 = 12 := w32_12
        simp [bs_204, hN _, x_iconst, x_ldc2_w, x_aconst_null, x_iload, x_lload, x_aload, x_istore, x_lstore, x_astore, x_iinc, x_iadd, x_isub, x_imul, x_idiv, x_irem, x_iand, x_ior, x_ixor, x_ishl, x_ishr, x_iushr, x_ineg, x_ladd, x_lsub, x_lmul, x_ldiv, x_lrem, x_lcmp, x_i2l, x_i2b, x_i2s, x_i2c, x_dup, x_pop, x_dup_x1, x_dup2, x_getfield, x_putfield, x_iaload, x_baload, x_saload, x_caload, x_daload, x_faload, x_laload, x_aaload, x_iastore, x_bastore, x_sastore, x_castore, x_lastore, x_aastore, x_arraylength, x_getstatic, x_goto, x_goto_w, x_ifCond, x_if_icmp, x_ifnull, x_ifnonnull, x_lookupswitch, x_invokevirtual, x_invokestatic, x_invokedynamic, x_ireturn, x_freturn, x_dreturn, x_lreturn, x_areturn, x_return_, pI_c, pL_c, pR_c, pV_i, pV_r, gI_c, gL_c, gR_c, pN_z, pN_s, lget_c, lins_z, lins_c, ldel_z, ldel_c, ldel2_z, ldel2_c, lset_i, lset_l, lset_r, lkeep_z, lkeep_c, largs_z, largs_c, cat_i, cat_l, cat_r, lkp_c, cnd_eq, cnd_ne, cnd_lt, cnd_ge, cnd_gt, cnd_le, swL_z, swL_c, rE_e, rOr_s, rOr_n, rlk_z, rlk_c, aR_c, aI_c, aII_c, aIII_c, aRI_c, aRII_c, aRIII_c, vJn, vJs, vlc, aRR_c, aRRI_c, aRRII_c, aRRIII_c, aRIIII_c, aRL_c, aRLL_c, aLL_c, aRRRI_c, aIL_c, aIIII_c, aRRIIII_c, aIRII_c, aIR_c, aLI_c, aRIR_c, aRIIR_c, hM.o, hM.f20, hM.t184, hM.l184, x1, p1, w32_11, up_ap, mpLay, hr, r4, r5, w550]
        intro σ2 y1 y2
        have z1 : σ2 175 21 = 11 := by rw [y1 175 (by omega)]; simp [up_ap]
        simp [sg_204_39_1, sg_204_49_1, hN _, x_iconst, x_ldc2_w, x_aconst_null, x_iload, x_lload, x_aload, x_istore, x_lstore, x_astore, x_iinc, x_iadd, x_isub, x_imul, x_idiv, x_irem, x_iand, x_ior, x_ixor, x_ishl, x_ishr, x_iushr, x_ineg, x_ladd, x_lsub, x_lmul, x_ldiv, x_lrem, x_lcmp, x_i2l, x_i2b, x_i2s, x_i2c, x_dup, x_pop, x_dup_x1, x_dup2, x_getfield, x_putfield, x_iaload, x_baload, x_saload, x_caload, x_daload, x_faload, x_laload, x_aaload, x_iastore, x_bastore, x_sastore, x_castore, x_lastore, x_aastore, x_arraylength, x_getstatic, x_goto, x_goto_w, x_ifCond, x_if_icmp, x_ifnull, x_ifnonnull, x_lookupswitch, x_invokevirtual, x_invokestatic, x_invokedynamic, x_ireturn, x_freturn, x_dreturn, x_lreturn, x_areturn, x_return_, pI_c, pL_c, pR_c, pV_i, pV_r, gI_c, gL_c, gR_c, pN_z, pN_s, lget_c, lins_z, lins_c, ldel_z, ldel_c, ldel2_z, ldel2_c, lset_i, lset_l, lset_r, lkeep_z, lkeep_c, largs_z, largs_c, cat_i, cat_l, cat_r, lkp_c, cnd_eq, cnd_ne, cnd_lt, cnd_ge, cnd_gt, cnd_le, swL_z, swL_c, rE_e, rOr_s, rOr_n, rlk_z, rlk_c, aR_c, aI_c, aII_c, aIII_c, aRI_c, aRII_c, aRIII_c, vJn, vJs, vlc, aRR_c, aRRI_c, aRRII_c, aRRIII_c, aRIIII_c, aRL_c, aRLL_c, aLL_c, aRRRI_c, aIL_c, aIIII_c, aRRIIII_c, aIRII_c, aIR_c, aLI_c, aRIR_c, aRIIR_c, hM.o, z1, w12]
        refine fin 11 (fun k => U (k + 1)) (up σ' 175 21 11) (by omega) (fun o a b => by rw [up_ne a, h1 o b]) (fun j hj => by rw [up_ap, if_neg (fun z => hj z.2), x1]) (fun k hk => ?_) σ2 y1 (fun j => ?_) ⟨rfl, fun k hk => ?_⟩
        · rw [up_ne (by omega), ← hU (k + 1) (by omega), show ((k + 1 : Nat) : Int) = (k : Int) + 1 by omega]
          exact sgA_sh (fun j j0 j1 => by rw [h2 j, if_pos (by omega)])
        · rw [y2 j, up_ne (by omega)]
          by_cases hj : (550 : Int) ≤ j ∧ j < 600
          · rw [if_pos hj, if_pos (by omega)]; congr 1
          · rw [if_neg hj, if_neg (by omega), up_ne (by omega)]
        · unfold pushU
          rw [if_pos rfl]
      · have e2 := w32_succ (k := i) (by omega); have i1 : ((i : Nat) : Int) < 550 := (by omega); have i1n : i < 550 := (by omega); have i1x : ¬ (550 : Int) ≤ (i : Nat) := (by omega)
        have e3 : w32 ((i : Int) + 50) = (i : Int) + 50 := w32_id (by omega) (by omega)
        have e4 : (i : Int) + 50 < 600 := by omega
        have e5 : 0 ≤ (i : Int) + 50 := by omega
        have e6 : (i : Int) < 600 := by omega
        have e6n : i < 600 := by omega
        have x3 : σ' 184 ((i : Int) + 50) = σ 184 ((i : Int) + 50) := by rw [h2, if_neg (by omega)]
        refine wa (by decide) rgLy_ok ts_204 30 (fun N hN => ?_)
        simp [bs_204, hN _, x_iconst, x_ldc2_w, x_aconst_null, x_iload, x_lload, x_aload, x_istore, x_lstore, x_astore, x_iinc, x_iadd, x_isub, x_imul, x_idiv, x_irem, x_iand, x_ior, x_ixor, x_ishl, x_ishr, x_iushr, x_ineg, x_ladd, x_lsub, x_lmul, x_ldiv, x_lrem, x_lcmp, x_i2l, x_i2b, x_i2s, x_i2c, x_dup, x_pop, x_dup_x1, x_dup2, x_getfield, x_putfield, x_iaload, x_baload, x_saload, x_caload, x_daload, x_faload, x_laload, x_aaload, x_iastore, x_bastore, x_sastore, x_castore, x_lastore, x_aastore, x_arraylength, x_getstatic, x_goto, x_goto_w, x_ifCond, x_if_icmp, x_ifnull, x_ifnonnull, x_lookupswitch, x_invokevirtual, x_invokestatic, x_invokedynamic, x_ireturn, x_freturn, x_dreturn, x_lreturn, x_areturn, x_return_, pI_c, pL_c, pR_c, pV_i, pV_r, gI_c, gL_c, gR_c, pN_z, pN_s, lget_c, lins_z, lins_c, ldel_z, ldel_c, ldel2_z, ldel2_c, lset_i, lset_l, lset_r, lkeep_z, lkeep_c, largs_z, largs_c, cat_i, cat_l, cat_r, lkp_c, cnd_eq, cnd_ne, cnd_lt, cnd_ge, cnd_gt, cnd_le, swL_z, swL_c, rE_e, rOr_s, rOr_n, rlk_z, rlk_c, aR_c, aI_c, aII_c, aIII_c, aRI_c, aRII_c, aRIII_c, vJn, vJs, vlc, aRR_c, aRRI_c, aRRII_c, aRRIII_c, aRIIII_c, aRL_c, aRLL_c, aLL_c, aRRRI_c, aIL_c, aIIII_c, aRRIIII_c, aIRII_c, aIR_c, aLI_c, aRIR_c, aRIIR_c, hM.o, hM.f20, hM.t184, hM.l184, e2, i1, i1n, i1x, e3, e4, e5, e6, e6n, x3]
        refine K _ (fun o ho => by rw [up_ne ho]; exact h1 o ho) (fun j => ?_)
        rw [up_ap, h2 j]
        by_cases hj : j = i
        · subst hj
          rw [if_pos ⟨rfl, rfl⟩, if_pos (by omega)]
        · rw [if_neg (fun z => hj z.2)]
          by_cases hc : 0 ≤ j ∧ j < (i : Int)
          · rw [if_pos hc, if_pos (by omega)]
          · rw [if_neg hc, if_neg (by omega)]
    have K := K σ (fun _ _ => rfl) (fun j => by rw [if_neg (by omega)])
    refine wg (by decide) rgLy_ok tk_204 py_204 ml_204 30 (by simp [catT]) (fun N hN => ?_)
    simp [bl_204, hN _, x_iconst, x_ldc2_w, x_aconst_null, x_iload, x_lload, x_aload, x_istore, x_lstore, x_astore, x_iinc, x_iadd, x_isub, x_imul, x_idiv, x_irem, x_iand, x_ior, x_ixor, x_ishl, x_ishr, x_iushr, x_ineg, x_ladd, x_lsub, x_lmul, x_ldiv, x_lrem, x_lcmp, x_i2l, x_i2b, x_i2s, x_i2c, x_dup, x_pop, x_dup_x1, x_dup2, x_getfield, x_putfield, x_iaload, x_baload, x_saload, x_caload, x_daload, x_faload, x_laload, x_aaload, x_iastore, x_bastore, x_sastore, x_castore, x_lastore, x_aastore, x_arraylength, x_getstatic, x_goto, x_goto_w, x_ifCond, x_if_icmp, x_ifnull, x_ifnonnull, x_lookupswitch, x_invokevirtual, x_invokestatic, x_invokedynamic, x_ireturn, x_freturn, x_dreturn, x_lreturn, x_areturn, x_return_, pI_c, pL_c, pR_c, pV_i, pV_r, gI_c, gL_c, gR_c, pN_z, pN_s, lget_c, lins_z, lins_c, ldel_z, ldel_c, ldel2_z, ldel2_c, lset_i, lset_l, lset_r, lkeep_z, lkeep_c, largs_z, largs_c, cat_i, cat_l, cat_r, lkp_c, cnd_eq, cnd_ne, cnd_lt, cnd_ge, cnd_gt, cnd_le, swL_z, swL_c, rE_e, rOr_s, rOr_n, rlk_z, rlk_c, aR_c, aI_c, aII_c, aIII_c, aRI_c, aRII_c, aRIII_c, vJn, vJs, vlc, aRR_c, aRRI_c, aRRII_c, aRRIII_c, aRIIII_c, aRL_c, aRLL_c, aLL_c, aRRRI_c, aIL_c, aIIII_c, aRRIIII_c, aIRII_c, aIR_c, aLI_c, aRIR_c, aRIIR_c, hM.o, p1]
    exact K
  · have hp' : ¬ (p : Int) = 12 := by omega
    have hP : pushP p = p + 1 := by unfold pushP; rw [if_neg hp]
    have e1 : w32 (50 * (p : Int)) = 50 * p := w32_id (by omega) (by omega)
    have e2 := w32_succ (k := p) (by omega)
    refine wg (by decide) rgLy_ok ts_204 py_204 ml_204 30 (by simp [catT]) (fun N hN => ?_)
    simp [bs_204, hN _, x_iconst, x_ldc2_w, x_aconst_null, x_iload, x_lload, x_aload, x_istore, x_lstore, x_astore, x_iinc, x_iadd, x_isub, x_imul, x_idiv, x_irem, x_iand, x_ior, x_ixor, x_ishl, x_ishr, x_iushr, x_ineg, x_ladd, x_lsub, x_lmul, x_ldiv, x_lrem, x_lcmp, x_i2l, x_i2b, x_i2s, x_i2c, x_dup, x_pop, x_dup_x1, x_dup2, x_getfield, x_putfield, x_iaload, x_baload, x_saload, x_caload, x_daload, x_faload, x_laload, x_aaload, x_iastore, x_bastore, x_sastore, x_castore, x_lastore, x_aastore, x_arraylength, x_getstatic, x_goto, x_goto_w, x_ifCond, x_if_icmp, x_ifnull, x_ifnonnull, x_lookupswitch, x_invokevirtual, x_invokestatic, x_invokedynamic, x_ireturn, x_freturn, x_dreturn, x_lreturn, x_areturn, x_return_, pI_c, pL_c, pR_c, pV_i, pV_r, gI_c, gL_c, gR_c, pN_z, pN_s, lget_c, lins_z, lins_c, ldel_z, ldel_c, ldel2_z, ldel2_c, lset_i, lset_l, lset_r, lkeep_z, lkeep_c, largs_z, largs_c, cat_i, cat_l, cat_r, lkp_c, cnd_eq, cnd_ne, cnd_lt, cnd_ge, cnd_gt, cnd_le, swL_z, swL_c, rE_e, rOr_s, rOr_n, rlk_z, rlk_c, aR_c, aI_c, aII_c, aIII_c, aRI_c, aRII_c, aRIII_c, vJn, vJs, vlc, aRR_c, aRRI_c, aRRII_c, aRRIII_c, aRIIII_c, aRL_c, aRLL_c, aLL_c, aRRRI_c, aIL_c, aIIII_c, aRRIIII_c, aIRII_c, aIR_c, aLI_c, aRIR_c, aRIIR_c, hM.o, hM.f20, hM.t184, hM.l184, p1, hp, hp', mpLay, hr, r4, e1]
    refine ⟨by omega, fun σ2 y1 y2 => ?_⟩
    have z1 : σ2 175 21 = p := by rw [y1 175 (by omega), p1]
    simp [sg_204_39_1, sg_204_49_1, hN _, x_iconst, x_ldc2_w, x_aconst_null, x_iload, x_lload, x_aload, x_istore, x_lstore, x_astore, x_iinc, x_iadd, x_isub, x_imul, x_idiv, x_irem, x_iand, x_ior, x_ixor, x_ishl, x_ishr, x_iushr, x_ineg, x_ladd, x_lsub, x_lmul, x_ldiv, x_lrem, x_lcmp, x_i2l, x_i2b, x_i2s, x_i2c, x_dup, x_pop, x_dup_x1, x_dup2, x_getfield, x_putfield, x_iaload, x_baload, x_saload, x_caload, x_daload, x_faload, x_laload, x_aaload, x_iastore, x_bastore, x_sastore, x_castore, x_lastore, x_aastore, x_arraylength, x_getstatic, x_goto, x_goto_w, x_ifCond, x_if_icmp, x_ifnull, x_ifnonnull, x_lookupswitch, x_invokevirtual, x_invokestatic, x_invokedynamic, x_ireturn, x_freturn, x_dreturn, x_lreturn, x_areturn, x_return_, pI_c, pL_c, pR_c, pV_i, pV_r, gI_c, gL_c, gR_c, pN_z, pN_s, lget_c, lins_z, lins_c, ldel_z, ldel_c, ldel2_z, ldel2_c, lset_i, lset_l, lset_r, lkeep_z, lkeep_c, largs_z, largs_c, cat_i, cat_l, cat_r, lkp_c, cnd_eq, cnd_ne, cnd_lt, cnd_ge, cnd_gt, cnd_le, swL_z, swL_c, rE_e, rOr_s, rOr_n, rlk_z, rlk_c, aR_c, aI_c, aII_c, aIII_c, aRI_c, aRII_c, aRIII_c, vJn, vJs, vlc, aRR_c, aRRI_c, aRRII_c, aRRIII_c, aRIIII_c, aRL_c, aRLL_c, aLL_c, aRRRI_c, aIL_c, aIIII_c, aRRIIII_c, aIRII_c, aIR_c, aLI_c, aRIR_c, aRIIR_c, hM.o, z1, e2]
    have K := fin p U σ (by omega) (fun _ _ _ => rfl) (fun _ _ => rfl) hU σ2 y1 y2 ⟨hP, fun k hk => by unfold pushU; rw [if_neg hp]⟩
    simpa using K
