/-! laws, asks -/
theorem fF_in {p : Nat → Bool} {d : Int} : ∀ {r a : Nat}, 0 < cF p a r → (a : Int) ≤ fF p a d r ∧ fF p a d r < (a : Int) + r
  | 0, a, h => by simp [cF] at h
  | r + 1, a, h => by
    unfold fF
    by_cases hp : p a = true
    · rw [if_pos hp]; omega
    · rw [if_neg hp]
      have h1 : 0 < cF p (a + 1) r := by
        unfold cF at h; rw [if_neg hp] at h; omega
      have := fF_in (p := p) (d := d) h1
      omega
theorem fF_d {p : Nat → Bool} {d d' : Int} : ∀ {r a : Nat}, 0 < cF p a r → fF p a d r = fF p a d' r
  | 0, a, h => by simp [cF] at h
  | r + 1, a, h => by
    unfold fF
    by_cases hp : p a = true
    · rw [if_pos hp, if_pos hp]
    · rw [if_neg hp, if_neg hp]
      exact fF_d (by unfold cF at h; rw [if_neg hp] at h; omega)
def lawsQ (p : Nat → Bool) : QA := ((cF p 0 169 : Int), some (if cF p 0 169 = 0 then [] else [fF p 0 0 169 / 13, fF p 0 0 169 % 13]))
theorem rgLw_ok {l : Launch} {g : GE} {d : Nat} : ∀ e as t σ Q, rE l g (d + 6) ((1, lpWeighs) :: rgC) e as t σ Q → WPc l g e (d + 6) 0 0 as t σ Q := rE_cons (fun _ _ _ _ h => l_weighs h) rgC_ok
abbrev lwP (σ : Mem) : Nat → Bool := lwB (σ 162) (σ 163) (σ 164) (σ 161 3).toNat
theorem QFr.lw {σ σ' : Mem} (h : ∀ o, o ≠ 165 → o ≠ 166 → σ' o = σ o) : QFr σ σ' := fun o ho => h o (by unfold scr at ho; omega) (by unfold scr at ho; omega)
theorem o_laws {l : Launch} {g : GE} {d : Nat} {t : Tau} {σ : Mem} {Q : Post} (hC : TC t) (hT : TlOk σ) (h : ansC (lawsQ (lwP σ)) t σ Q) : WPc l g 124 (d + 7) 0 0 [vR 0] t σ Q := by
  unfold ansC lawsQ at h
  generalize hp : lwP σ = p at h
  have hp' : lwB (σ 162) (σ 163) (σ 164) (σ 161 3).toNat = p := hp
  refine wg (by decide) rgLw_ok ts_124 py_124 ml_124 30 (by simp [catT]) (fun N hN => ?_)
  simp [bs_124, hN _, x_iconst, x_ldc2_w, x_aconst_null, x_iload, x_lload, x_aload, x_istore, x_lstore, x_astore, x_iinc, x_iadd, x_isub, x_imul, x_idiv, x_irem, x_iand, x_ior, x_ixor, x_ishl, x_ishr, x_iushr, x_ineg, x_ladd, x_lsub, x_lmul, x_ldiv, x_lrem, x_lcmp, x_i2l, x_i2b, x_i2s, x_i2c, x_dup, x_pop, x_dup_x1, x_dup2, x_getfield, x_putfield, x_iaload, x_baload, x_saload, x_caload, x_daload, x_faload, x_laload, x_aaload, x_iastore, x_bastore, x_sastore, x_castore, x_lastore, x_aastore, x_arraylength, x_getstatic, x_goto, x_goto_w, x_ifCond, x_if_icmp, x_ifnull, x_ifnonnull, x_lookupswitch, x_invokevirtual, x_invokestatic, x_invokedynamic, x_ireturn, x_freturn, x_dreturn, x_lreturn, x_areturn, x_return_, pI_c, pL_c, pR_c, pV_i, pV_r, gI_c, gL_c, gR_c, pN_z, pN_s, lget_c, lins_z, lins_c, ldel_z, ldel_c, ldel2_z, ldel2_c, lset_i, lset_l, lset_r, lkeep_z, lkeep_c, largs_z, largs_c, cat_i, cat_l, cat_r, lkp_c, cnd_eq, cnd_ne, cnd_lt, cnd_ge, cnd_gt, cnd_le, swL_z, swL_c, rE_e, rOr_s, rOr_n, rlk_z, rlk_c, aR_c, aI_c, aII_c, aIII_c, aRI_c, aRII_c, aRIII_c, vJn, vJs, vlc, aRR_c, aRRI_c, aRRII_c, aRRIII_c, aRIIII_c, aRL_c, aRLL_c, aLL_c, aRRRI_c, aIL_c, aIIII_c, aRRIIII_c, aIRII_c, aIR_c, aLI_c, aRIR_c, aRIIR_c, hC.o0, hC.f0_0, hC.f0_1, hC.f0_2, hC.f0_3, hC.f0_4, hC.f0_5, hC.f0_6, hC.f0_7, hC.f0_8, hC.f0_9, hC.f0_10, hC.f0_11, hC.o1, hC.f1, hC.t2, hC.l2, hC.o3, hC.f3, hC.t4, hC.l4, hC.s5, hC.s12, hC.s19, hC.s112, hC.s119, hC.o26, hC.f26, hC.t27, hC.l27, hC.s28, hC.o126, hC.f126_0, hC.f126_1, hC.t127, hC.l127, hC.t128, hC.l128, hC.s129, hC.n157, hC.n161, hC.o165, hC.f165, hC.t166, hC.l166, hC.r167, hC.r171, hC.q5, hC.q12, hC.q19, hC.q112, hC.q119, hC.a2, hC.a4, hC.a27, hC.a127, hC.a128, hC, lpWeighs, hT, hp']
  intro σ1 h1 h2 h3
  have hl := cF_l p 169 0
  have q1 : QFr σ σ1 := QFr.lw h1
  simp [bs_124, sg_124_0_4, sg_124_0_3, sg_124_0_2, sg_124_0_1, hN _, x_iconst, x_ldc2_w, x_aconst_null, x_iload, x_lload, x_aload, x_istore, x_lstore, x_astore, x_iinc, x_iadd, x_isub, x_imul, x_idiv, x_irem, x_iand, x_ior, x_ixor, x_ishl, x_ishr, x_iushr, x_ineg, x_ladd, x_lsub, x_lmul, x_ldiv, x_lrem, x_lcmp, x_i2l, x_i2b, x_i2s, x_i2c, x_dup, x_pop, x_dup_x1, x_dup2, x_getfield, x_putfield, x_iaload, x_baload, x_saload, x_caload, x_daload, x_faload, x_laload, x_aaload, x_iastore, x_bastore, x_sastore, x_castore, x_lastore, x_aastore, x_arraylength, x_getstatic, x_goto, x_goto_w, x_ifCond, x_if_icmp, x_ifnull, x_ifnonnull, x_lookupswitch, x_invokevirtual, x_invokestatic, x_invokedynamic, x_ireturn, x_freturn, x_dreturn, x_lreturn, x_areturn, x_return_, pI_c, pL_c, pR_c, pV_i, pV_r, gI_c, gL_c, gR_c, pN_z, pN_s, lget_c, lins_z, lins_c, ldel_z, ldel_c, ldel2_z, ldel2_c, lset_i, lset_l, lset_r, lkeep_z, lkeep_c, largs_z, largs_c, cat_i, cat_l, cat_r, lkp_c, cnd_eq, cnd_ne, cnd_lt, cnd_ge, cnd_gt, cnd_le, swL_z, swL_c, rE_e, rOr_s, rOr_n, rlk_z, rlk_c, aR_c, aI_c, aII_c, aIII_c, aRI_c, aRII_c, aRIII_c, vJn, vJs, vlc, aRR_c, aRRI_c, aRRII_c, aRRIII_c, aRIIII_c, aRL_c, aRLL_c, aLL_c, aRRRI_c, aIL_c, aIIII_c, aRRIIII_c, aIRII_c, aIR_c, aLI_c, aRIR_c, aRIIR_c, hC.o0, hC.f0_0, hC.f0_1, hC.f0_2, hC.f0_3, hC.f0_4, hC.f0_5, hC.f0_6, hC.f0_7, hC.f0_8, hC.f0_9, hC.f0_10, hC.f0_11, hC.o1, hC.f1, hC.t2, hC.l2, hC.o3, hC.f3, hC.t4, hC.l4, hC.s5, hC.s12, hC.s19, hC.s112, hC.s119, hC.o26, hC.f26, hC.t27, hC.l27, hC.s28, hC.o126, hC.f126_0, hC.f126_1, hC.t127, hC.l127, hC.t128, hC.l128, hC.s129, hC.n157, hC.n161, hC.o165, hC.f165, hC.t166, hC.l166, hC.r167, hC.r171, hC.q5, hC.q12, hC.q19, hC.q112, hC.q119, hC.a2, hC.a4, hC.a27, hC.a127, hC.a128, hC, rpClears, rpAdds, up_ap, h3]
  refine ⟨fun z => ?_, fun z => ?_⟩
  · rw [if_pos z] at h
    rw [z] at h ⊢
    exact h _ ⟨q1.up scr3, rwIs.nil⟩
  · have hz : 0 < cF p 0 169 := by omega
    rw [if_neg (by omega)] at h
    have hb := fF_in (p := p) (d := 0) hz
    rw [fF_d (d' := 0) hz]
    generalize fF p 0 0 169 = f at h hb
    have e1 : w32 (Int.tdiv f 13) = f / 13 := by rw [Int.tdiv_eq_ediv_of_nonneg (by omega)]; exact w32_id (by omega) (by omega)
    have e2 : w32 (Int.tmod f 13) = f % 13 := by rw [Int.tmod_eq_emod_of_nonneg (by omega)]; exact w32_id (by omega) (by omega)
    rw [e1, e2]
    exact h _ (QTo.q2 q1)
def lpNumber : Sp := fun as t σ Q => aRII as fun a o e => a = 165 ∧ TC t ∧ (0 ≤ o ∧ o ≤ 12) ∧ (0 ≤ e ∧ e ≤ 12) ∧ ∃ p : Nat → Bool, (∀ e : Nat, e < 169 → σ 166 e = if p e then 1 else 0) ∧ Q (some (vI (cF (fun k => p k && ovB k o e) 0 169))) t σ
theorem l_number {l : Launch} {g : GE} {d : Nat} {t : Tau} {σ : Mem} {Q : Post} {as : List TV} (h0 : lpNumber as t σ Q) : WPc l g 3 (d + 2) 0 0 as t σ Q := by
  obtain ⟨a, o, e, rfl, rfl, hC, ⟨o0, o1⟩, ⟨x0, x1⟩, p, hp, h⟩ := aRII_e h0
  clear h0
  generalize hq : (fun k => p k && ovB k o e) = q at h
  have K : Wp l g 3 (d + 2) 0 0 5 [(0, vR 165), (1, vI o), (2, vI e), (3, vI (cF q 0 0)), (4, vI (0 : Nat))] [] t σ Q := by
    refine lpU (P := fun i => Wp l g 3 (d + 2) 0 0 5 [(0, vR 165), (1, vI o), (2, vI e), (3, vI (cF q 0 i)), (4, vI i)] [] t σ Q) (n := 169) ?_ (fun i hi K => ?_)
    · refine wa (by decide) rgOv_ok tk_3 30 (fun N hN => ?_)
      simp [bl_3, hN _, x_iconst, x_ldc2_w, x_aconst_null, x_iload, x_lload, x_aload, x_istore, x_lstore, x_astore, x_iinc, x_iadd, x_isub, x_imul, x_idiv, x_irem, x_iand, x_ior, x_ixor, x_ishl, x_ishr, x_iushr, x_ineg, x_ladd, x_lsub, x_lmul, x_ldiv, x_lrem, x_lcmp, x_i2l, x_i2b, x_i2s, x_i2c, x_dup, x_pop, x_dup_x1, x_dup2, x_getfield, x_putfield, x_iaload, x_baload, x_saload, x_caload, x_daload, x_faload, x_laload, x_aaload, x_iastore, x_bastore, x_sastore, x_castore, x_lastore, x_aastore, x_arraylength, x_getstatic, x_goto, x_goto_w, x_ifCond, x_if_icmp, x_ifnull, x_ifnonnull, x_lookupswitch, x_invokevirtual, x_invokestatic, x_invokedynamic, x_ireturn, x_freturn, x_dreturn, x_lreturn, x_areturn, x_return_, pI_c, pL_c, pR_c, pV_i, pV_r, gI_c, gL_c, gR_c, pN_z, pN_s, lget_c, lins_z, lins_c, ldel_z, ldel_c, ldel2_z, ldel2_c, lset_i, lset_l, lset_r, lkeep_z, lkeep_c, largs_z, largs_c, cat_i, cat_l, cat_r, lkp_c, cnd_eq, cnd_ne, cnd_lt, cnd_ge, cnd_gt, cnd_le, swL_z, swL_c, rE_e, rOr_s, rOr_n, rlk_z, rlk_c, aR_c, aI_c, aII_c, aIII_c, aRI_c, aRII_c, aRIII_c, vJn, vJs, vlc, aRR_c, aRRI_c, aRRII_c, aRRIII_c, aRIIII_c, aRL_c, aRLL_c, aLL_c, aRRRI_c, aIL_c, aIIII_c, aRRIIII_c, aIRII_c, aIR_c, aLI_c, aRIR_c, aRIIR_c]
      exact h
    · have e2 := w32_succ (k := i) (by omega); have i1 : ((i : Nat) : Int) < 169 := (by omega); have i1n : i < 169 := (by omega); have i1x : ¬ (169 : Int) ≤ (i : Nat) := (by omega)
      have hl := cF_l q i 0
      have e5 : w32 (cF q 0 i : Int) = cF q 0 i := w32_id (by omega) (by omega)
      have e6 := w32_succ (k := cF q 0 i) (by omega)
      have hqi : q i = (p i && ovB i o e) := by rw [← hq]
      have i2 : (i : Int) ≤ 168 := by omega
      have i2n : i ≤ 168 := by omega
      rw [cF_up, hqi] at K
      refine wa (by decide) rgOv_ok tk_3 30 (fun N hN => ?_)
      simp [bl_3, hN _, x_iconst, x_ldc2_w, x_aconst_null, x_iload, x_lload, x_aload, x_istore, x_lstore, x_astore, x_iinc, x_iadd, x_isub, x_imul, x_idiv, x_irem, x_iand, x_ior, x_ixor, x_ishl, x_ishr, x_iushr, x_ineg, x_ladd, x_lsub, x_lmul, x_ldiv, x_lrem, x_lcmp, x_i2l, x_i2b, x_i2s, x_i2c, x_dup, x_pop, x_dup_x1, x_dup2, x_getfield, x_putfield, x_iaload, x_baload, x_saload, x_caload, x_daload, x_faload, x_laload, x_aaload, x_iastore, x_bastore, x_sastore, x_castore, x_lastore, x_aastore, x_arraylength, x_getstatic, x_goto, x_goto_w, x_ifCond, x_if_icmp, x_ifnull, x_ifnonnull, x_lookupswitch, x_invokevirtual, x_invokestatic, x_invokedynamic, x_ireturn, x_freturn, x_dreturn, x_lreturn, x_areturn, x_return_, pI_c, pL_c, pR_c, pV_i, pV_r, gI_c, gL_c, gR_c, pN_z, pN_s, lget_c, lins_z, lins_c, ldel_z, ldel_c, ldel2_z, ldel2_c, lset_i, lset_l, lset_r, lkeep_z, lkeep_c, largs_z, largs_c, cat_i, cat_l, cat_r, lkp_c, cnd_eq, cnd_ne, cnd_lt, cnd_ge, cnd_gt, cnd_le, swL_z, swL_c, rE_e, rOr_s, rOr_n, rlk_z, rlk_c, aR_c, aI_c, aII_c, aIII_c, aRI_c, aRII_c, aRIII_c, vJn, vJs, vlc, aRR_c, aRRI_c, aRRII_c, aRRIII_c, aRIIII_c, aRL_c, aRLL_c, aLL_c, aRRRI_c, aIL_c, aIIII_c, aRRIIII_c, aIRII_c, aIR_c, aLI_c, aRIR_c, aRIIR_c, hC.o0, hC.f0_0, hC.f0_1, hC.f0_2, hC.f0_3, hC.f0_4, hC.f0_5, hC.f0_6, hC.f0_7, hC.f0_8, hC.f0_9, hC.f0_10, hC.f0_11, hC.o1, hC.f1, hC.t2, hC.l2, hC.o3, hC.f3, hC.t4, hC.l4, hC.s5, hC.s12, hC.s19, hC.s112, hC.s119, hC.o26, hC.f26, hC.t27, hC.l27, hC.s28, hC.o126, hC.f126_0, hC.f126_1, hC.t127, hC.l127, hC.t128, hC.l128, hC.s129, hC.n157, hC.n161, hC.o165, hC.f165, hC.t166, hC.l166, hC.r167, hC.r171, hC.q5, hC.q12, hC.q19, hC.q112, hC.q119, hC.a2, hC.a4, hC.a27, hC.a127, hC.a128, hC, e2, i1, i1n, i1x, lpOver, hp i hi, o0, o1, x0, x1, i2, i2n, e5, e6]
      cases h1 : p i <;> cases h2 : ovB i o e <;> rw [h1, h2] at K <;> simpa using K
  refine wg (by decide) rgOv_ok tk_3 py_3 ml_3 30 (by simp [catT]) (fun N hN => ?_)
  simp [bl_3, hN _, x_iconst, x_ldc2_w, x_aconst_null, x_iload, x_lload, x_aload, x_istore, x_lstore, x_astore, x_iinc, x_iadd, x_isub, x_imul, x_idiv, x_irem, x_iand, x_ior, x_ixor, x_ishl, x_ishr, x_iushr, x_ineg, x_ladd, x_lsub, x_lmul, x_ldiv, x_lrem, x_lcmp, x_i2l, x_i2b, x_i2s, x_i2c, x_dup, x_pop, x_dup_x1, x_dup2, x_getfield, x_putfield, x_iaload, x_baload, x_saload, x_caload, x_daload, x_faload, x_laload, x_aaload, x_iastore, x_bastore, x_sastore, x_castore, x_lastore, x_aastore, x_arraylength, x_getstatic, x_goto, x_goto_w, x_ifCond, x_if_icmp, x_ifnull, x_ifnonnull, x_lookupswitch, x_invokevirtual, x_invokestatic, x_invokedynamic, x_ireturn, x_freturn, x_dreturn, x_lreturn, x_areturn, x_return_, pI_c, pL_c, pR_c, pV_i, pV_r, gI_c, gL_c, gR_c, pN_z, pN_s, lget_c, lins_z, lins_c, ldel_z, ldel_c, ldel2_z, ldel2_c, lset_i, lset_l, lset_r, lkeep_z, lkeep_c, largs_z, largs_c, cat_i, cat_l, cat_r, lkp_c, cnd_eq, cnd_ne, cnd_lt, cnd_ge, cnd_gt, cnd_le, swL_z, swL_c, rE_e, rOr_s, rOr_n, rlk_z, rlk_c, aR_c, aI_c, aII_c, aIII_c, aRI_c, aRII_c, aRIII_c, vJn, vJs, vlc, aRR_c, aRRI_c, aRRII_c, aRRIII_c, aRIIII_c, aRL_c, aRLL_c, aLL_c, aRRRI_c, aIL_c, aIIII_c, aRRIIII_c, aIRII_c, aIR_c, aLI_c, aRIR_c, aRIIR_c]
  exact K
/-- what is left at most, if one asks about o and e -/
def leftA (p : Nat → Bool) (o e : Nat) : Nat := max (cF (fun k => p k && ovB k o e) 0 169) (cF p 0 169 - cF (fun k => p k && ovB k o e) 0 169)
def askJ (p : Nat → Bool) (o : Nat) (s : Nat × Nat) : Nat → Nat × Nat := fo (fun e s => if leftA p o e < s.1 then (leftA p o e, 13 * o + e) else s) s
def askI (p : Nat → Bool) (s : Nat × Nat) : Nat → Nat × Nat := fo (fun o s => askJ p o s (13 - o)) s
def asksQ (p : Nat → Bool) : QA := if cF p 0 169 = 0 then (-2, none) else (((askI p (cF p 0 169 + 1, 0) 13).2 : Int), some [((askI p (cF p 0 169 + 1, 0) 13).1 : Int)])
theorem rgAk_ok {l : Launch} {g : GE} {d : Nat} : ∀ e as t σ Q, rE l g (d + 6) ((1, lpWeighs) :: (3, lpNumber) :: rgC) e as t σ Q → WPc l g e (d + 6) 0 0 as t σ Q := rE_cons (fun _ _ _ _ h => l_weighs h) (rE_cons (fun _ _ _ _ h => l_number h) rgC_ok)
theorem cF_and (p q : Nat → Bool) : ∀ r a, cF (fun k => p k && q k) a r ≤ cF p a r
  | 0, _ => Nat.le_refl _
  | r + 1, a => by
    have := cF_and p q r (a + 1)
    show (if (p a && q a) = true then 1 else 0) + _ ≤ (if p a = true then 1 else 0) + _
    cases p a <;> cases q a <;> simp <;> omega
set_option maxHeartbeats 1000000 in
theorem o_asks {l : Launch} {g : GE} {d : Nat} {t : Tau} {σ : Mem} {Q : Post} (hC : TC t) (hT : TlOk σ) (h : ansC (asksQ (lwP σ)) t σ Q) : WPc l g 125 (d + 7) 0 0 [vR 0] t σ Q := by
  unfold ansC asksQ at h
  generalize hp : lwP σ = p at h
  have hp' : lwB (σ 162) (σ 163) (σ 164) (σ 161 3).toNat = p := hp
  have hl := cF_l p 169 0
  have O : ∀ σ', (∀ e : Nat, e < 169 → σ' 166 e = if p e then 1 else 0) → QFr σ σ' → cF p 0 169 ≠ 0 → Wp l g 125 (d + 7) 0 0 28 [(0, vR 0), (1, vI (cF p 0 169)), (2, vI (askI p (cF p 0 169 + 1, 0) 0).2), (3, vI (askI p (cF p 0 169 + 1, 0) 0).1), (4, vI (0 : Nat))] [] t σ' Q := by
    intro σ' hσ q hne
    rw [if_neg hne] at h
    generalize hC0 : cF p 0 169 = C at h hl hne ⊢
    refine lpU (P := fun o => Wp l g 125 (d + 7) 0 0 28 [(0, vR 0), (1, vI C), (2, vI (askI p (C + 1, 0) o).2), (3, vI (askI p (C + 1, 0) o).1), (4, vI o)] [] t σ' Q) (n := 13) ?_ (fun o ho KO => ?_)
    · refine wa (by decide) rgAk_ok tk_125 30 (fun N hN => ?_)
      simp [bl_125, hN _, x_iconst, x_ldc2_w, x_aconst_null, x_iload, x_lload, x_aload, x_istore, x_lstore, x_astore, x_iinc, x_iadd, x_isub, x_imul, x_idiv, x_irem, x_iand, x_ior, x_ixor, x_ishl, x_ishr, x_iushr, x_ineg, x_ladd, x_lsub, x_lmul, x_ldiv, x_lrem, x_lcmp, x_i2l, x_i2b, x_i2s, x_i2c, x_dup, x_pop, x_dup_x1, x_dup2, x_getfield, x_putfield, x_iaload, x_baload, x_saload, x_caload, x_daload, x_faload, x_laload, x_aaload, x_iastore, x_bastore, x_sastore, x_castore, x_lastore, x_aastore, x_arraylength, x_getstatic, x_goto, x_goto_w, x_ifCond, x_if_icmp, x_ifnull, x_ifnonnull, x_lookupswitch, x_invokevirtual, x_invokestatic, x_invokedynamic, x_ireturn, x_freturn, x_dreturn, x_lreturn, x_areturn, x_return_, pI_c, pL_c, pR_c, pV_i, pV_r, gI_c, gL_c, gR_c, pN_z, pN_s, lget_c, lins_z, lins_c, ldel_z, ldel_c, ldel2_z, ldel2_c, lset_i, lset_l, lset_r, lkeep_z, lkeep_c, largs_z, largs_c, cat_i, cat_l, cat_r, lkp_c, cnd_eq, cnd_ne, cnd_lt, cnd_ge, cnd_gt, cnd_le, swL_z, swL_c, rE_e, rOr_s, rOr_n, rlk_z, rlk_c, aR_c, aI_c, aII_c, aIII_c, aRI_c, aRII_c, aRIII_c, vJn, vJs, vlc, aRR_c, aRRI_c, aRRII_c, aRRIII_c, aRIIII_c, aRL_c, aRLL_c, aLL_c, aRRRI_c, aIL_c, aIIII_c, aRRIIII_c, aIRII_c, aIR_c, aLI_c, aRIR_c, aRIIR_c, hC.o0, hC.f0_0, hC.f0_1, hC.f0_2, hC.f0_3, hC.f0_4, hC.f0_5, hC.f0_6, hC.f0_7, hC.f0_8, hC.f0_9, hC.f0_10, hC.f0_11, hC.o1, hC.f1, hC.t2, hC.l2, hC.o3, hC.f3, hC.t4, hC.l4, hC.s5, hC.s12, hC.s19, hC.s112, hC.s119, hC.o26, hC.f26, hC.t27, hC.l27, hC.s28, hC.o126, hC.f126_0, hC.f126_1, hC.t127, hC.l127, hC.t128, hC.l128, hC.s129, hC.n157, hC.n161, hC.o165, hC.f165, hC.t166, hC.l166, hC.r167, hC.r171, hC.q5, hC.q12, hC.q19, hC.q112, hC.q119, hC.a2, hC.a4, hC.a27, hC.a127, hC.a128, hC, rpClears, rpAdds, up_ap]
      exact h _ (QTo.q1 q)
    · have es : askI p (C + 1, 0) (o + 1) = askJ p o (askI p (C + 1, 0) o) (13 - o) := rfl
      rw [es] at KO
      generalize askI p (C + 1, 0) o = S at KO ⊢
      have e12 : w32 (12 - (o : Int)) = 12 - o := w32_id (by omega) (by omega)
      have I : Wp l g 125 (d + 7) 0 0 38 [(0, vR 0), (1, vI C), (2, vI (askJ p o S 0).2), (3, vI (askJ p o S 0).1), (4, vI o), (5, vI (0 : Nat))] [] t σ' Q := by
        refine lpU (P := fun e => Wp l g 125 (d + 7) 0 0 38 [(0, vR 0), (1, vI C), (2, vI (askJ p o S e).2), (3, vI (askJ p o S e).1), (4, vI o), (5, vI e)] [] t σ' Q) (n := 13 - o) ?_ (fun e he K => ?_)
        · have e1 : 12 - (o : Int) < ((13 - o : Nat) : Int) := by omega
          have e2 := w32_succ (k := o) (by omega)
          generalize 13 - o = E at KO e1 ⊢
          refine wa (by decide) rgAk_ok tk_125 30 (fun N hN => ?_)
          simp [bl_125, hN _, x_iconst, x_ldc2_w, x_aconst_null, x_iload, x_lload, x_aload, x_istore, x_lstore, x_astore, x_iinc, x_iadd, x_isub, x_imul, x_idiv, x_irem, x_iand, x_ior, x_ixor, x_ishl, x_ishr, x_iushr, x_ineg, x_ladd, x_lsub, x_lmul, x_ldiv, x_lrem, x_lcmp, x_i2l, x_i2b, x_i2s, x_i2c, x_dup, x_pop, x_dup_x1, x_dup2, x_getfield, x_putfield, x_iaload, x_baload, x_saload, x_caload, x_daload, x_faload, x_laload, x_aaload, x_iastore, x_bastore, x_sastore, x_castore, x_lastore, x_aastore, x_arraylength, x_getstatic, x_goto, x_goto_w, x_ifCond, x_if_icmp, x_ifnull, x_ifnonnull, x_lookupswitch, x_invokevirtual, x_invokestatic, x_invokedynamic, x_ireturn, x_freturn, x_dreturn, x_lreturn, x_areturn, x_return_, pI_c, pL_c, pR_c, pV_i, pV_r, gI_c, gL_c, gR_c, pN_z, pN_s, lget_c, lins_z, lins_c, ldel_z, ldel_c, ldel2_z, ldel2_c, lset_i, lset_l, lset_r, lkeep_z, lkeep_c, largs_z, largs_c, cat_i, cat_l, cat_r, lkp_c, cnd_eq, cnd_ne, cnd_lt, cnd_ge, cnd_gt, cnd_le, swL_z, swL_c, rE_e, rOr_s, rOr_n, rlk_z, rlk_c, aR_c, aI_c, aII_c, aIII_c, aRI_c, aRII_c, aRIII_c, vJn, vJs, vlc, aRR_c, aRRI_c, aRRII_c, aRRIII_c, aRIIII_c, aRL_c, aRLL_c, aLL_c, aRRRI_c, aIL_c, aIIII_c, aRRIIII_c, aIRII_c, aIR_c, aLI_c, aRIR_c, aRIIR_c, e12, e2]
          exact ⟨fun _ => KO, fun z => by omega⟩
        · have e1 : ¬ 12 - (o : Int) < (e : Int) := by omega
          have e2 := w32_succ (k := e) (by omega)
          have er : askJ p o S (e + 1) = if leftA p o e < (askJ p o S e).1 then (leftA p o e, 13 * o + e) else askJ p o S e := rfl
          rw [er] at K
          generalize askJ p o S e = R at K ⊢
          unfold leftA at K
          have hle := cF_and p (fun k => ovB k o e) 169 0
          rw [hC0] at K hle
          generalize hX : cF (fun k => p k && ovB k o e) 0 169 = X at K hle
          have e3 : w32 ((C : Int) - X) = ((C - X : Nat) : Int) := by rw [w32_id (by omega) (by omega)]; omega
          have e4 : w32 (13 * (o : Int)) = 13 * o := w32_id (by omega) (by omega)
          have e5 : w32 (13 * (o : Int) + e) = 13 * o + e := w32_id (by omega) (by omega)
          refine wa (by decide) rgAk_ok tk_125 30 (fun N hN => ?_)
          simp [bl_125, hN _, x_iconst, x_ldc2_w, x_aconst_null, x_iload, x_lload, x_aload, x_istore, x_lstore, x_astore, x_iinc, x_iadd, x_isub, x_imul, x_idiv, x_irem, x_iand, x_ior, x_ixor, x_ishl, x_ishr, x_iushr, x_ineg, x_ladd, x_lsub, x_lmul, x_ldiv, x_lrem, x_lcmp, x_i2l, x_i2b, x_i2s, x_i2c, x_dup, x_pop, x_dup_x1, x_dup2, x_getfield, x_putfield, x_iaload, x_baload, x_saload, x_caload, x_daload, x_faload, x_laload, x_aaload, x_iastore, x_bastore, x_sastore, x_castore, x_lastore, x_aastore, x_arraylength, x_getstatic, x_goto, x_goto_w, x_ifCond, x_if_icmp, x_ifnull, x_ifnonnull, x_lookupswitch, x_invokevirtual, x_invokestatic, x_invokedynamic, x_ireturn, x_freturn, x_dreturn, x_lreturn, x_areturn, x_return_, pI_c, pL_c, pR_c, pV_i, pV_r, gI_c, gL_c, gR_c, pN_z, pN_s, lget_c, lins_z, lins_c, ldel_z, ldel_c, ldel2_z, ldel2_c, lset_i, lset_l, lset_r, lkeep_z, lkeep_c, largs_z, largs_c, cat_i, cat_l, cat_r, lkp_c, cnd_eq, cnd_ne, cnd_lt, cnd_ge, cnd_gt, cnd_le, swL_z, swL_c, rE_e, rOr_s, rOr_n, rlk_z, rlk_c, aR_c, aI_c, aII_c, aIII_c, aRI_c, aRII_c, aRIII_c, vJn, vJs, vlc, aRR_c, aRRI_c, aRRII_c, aRRIII_c, aRIIII_c, aRL_c, aRLL_c, aLL_c, aRRRI_c, aIL_c, aIIII_c, aRRIIII_c, aIRII_c, aIR_c, aLI_c, aRIR_c, aRIIR_c, hC.o0, hC.f0_0, hC.f0_1, hC.f0_2, hC.f0_3, hC.f0_4, hC.f0_5, hC.f0_6, hC.f0_7, hC.f0_8, hC.f0_9, hC.f0_10, hC.f0_11, hC.o1, hC.f1, hC.t2, hC.l2, hC.o3, hC.f3, hC.t4, hC.l4, hC.s5, hC.s12, hC.s19, hC.s112, hC.s119, hC.o26, hC.f26, hC.t27, hC.l27, hC.s28, hC.o126, hC.f126_0, hC.f126_1, hC.t127, hC.l127, hC.t128, hC.l128, hC.s129, hC.n157, hC.n161, hC.o165, hC.f165, hC.t166, hC.l166, hC.r167, hC.r171, hC.q5, hC.q12, hC.q19, hC.q112, hC.q119, hC.a2, hC.a4, hC.a27, hC.a127, hC.a128, hC, e12, lpNumber, spMax]
          refine ⟨fun z => by omega, fun _ => ⟨by omega, by omega, p, hσ, ?_⟩⟩
          simp only [hX, e3, e2, e4, e5]
          refine ⟨fun z => ?_, fun z => ?_⟩
          · rw [if_neg (by omega)] at K; exact K
          · rw [if_pos (by omega)] at K
            have e6 : ((max X (C - X) : Nat) : Int) = max (X : Int) ((C - X : Nat) : Int) := by omega
            simp only [e6] at K
            exact K
      have o12 : ¬ (12 : Int) < o := by omega
      have o12n : ¬ 12 < o := by omega
      refine wa (by decide) rgAk_ok tk_125 30 (fun N hN => ?_)
      simp [bl_125, hN _, x_iconst, x_ldc2_w, x_aconst_null, x_iload, x_lload, x_aload, x_istore, x_lstore, x_astore, x_iinc, x_iadd, x_isub, x_imul, x_idiv, x_irem, x_iand, x_ior, x_ixor, x_ishl, x_ishr, x_iushr, x_ineg, x_ladd, x_lsub, x_lmul, x_ldiv, x_lrem, x_lcmp, x_i2l, x_i2b, x_i2s, x_i2c, x_dup, x_pop, x_dup_x1, x_dup2, x_getfield, x_putfield, x_iaload, x_baload, x_saload, x_caload, x_daload, x_faload, x_laload, x_aaload, x_iastore, x_bastore, x_sastore, x_castore, x_lastore, x_aastore, x_arraylength, x_getstatic, x_goto, x_goto_w, x_ifCond, x_if_icmp, x_ifnull, x_ifnonnull, x_lookupswitch, x_invokevirtual, x_invokestatic, x_invokedynamic, x_ireturn, x_freturn, x_dreturn, x_lreturn, x_areturn, x_return_, pI_c, pL_c, pR_c, pV_i, pV_r, gI_c, gL_c, gR_c, pN_z, pN_s, lget_c, lins_z, lins_c, ldel_z, ldel_c, ldel2_z, ldel2_c, lset_i, lset_l, lset_r, lkeep_z, lkeep_c, largs_z, largs_c, cat_i, cat_l, cat_r, lkp_c, cnd_eq, cnd_ne, cnd_lt, cnd_ge, cnd_gt, cnd_le, swL_z, swL_c, rE_e, rOr_s, rOr_n, rlk_z, rlk_c, aR_c, aI_c, aII_c, aIII_c, aRI_c, aRII_c, aRIII_c, vJn, vJs, vlc, aRR_c, aRRI_c, aRRII_c, aRRIII_c, aRIIII_c, aRL_c, aRLL_c, aLL_c, aRRRI_c, aIL_c, aIIII_c, aRRIIII_c, aIRII_c, aIR_c, aLI_c, aRIR_c, aRIIR_c, o12, o12n]
      exact fun _ => I
  refine wg (by decide) rgAk_ok ts_125 py_125 ml_125 30 (by simp [catT]) (fun N hN => ?_)
  simp [bs_125, hN _, x_iconst, x_ldc2_w, x_aconst_null, x_iload, x_lload, x_aload, x_istore, x_lstore, x_astore, x_iinc, x_iadd, x_isub, x_imul, x_idiv, x_irem, x_iand, x_ior, x_ixor, x_ishl, x_ishr, x_iushr, x_ineg, x_ladd, x_lsub, x_lmul, x_ldiv, x_lrem, x_lcmp, x_i2l, x_i2b, x_i2s, x_i2c, x_dup, x_pop, x_dup_x1, x_dup2, x_getfield, x_putfield, x_iaload, x_baload, x_saload, x_caload, x_daload, x_faload, x_laload, x_aaload, x_iastore, x_bastore, x_sastore, x_castore, x_lastore, x_aastore, x_arraylength, x_getstatic, x_goto, x_goto_w, x_ifCond, x_if_icmp, x_ifnull, x_ifnonnull, x_lookupswitch, x_invokevirtual, x_invokestatic, x_invokedynamic, x_ireturn, x_freturn, x_dreturn, x_lreturn, x_areturn, x_return_, pI_c, pL_c, pR_c, pV_i, pV_r, gI_c, gL_c, gR_c, pN_z, pN_s, lget_c, lins_z, lins_c, ldel_z, ldel_c, ldel2_z, ldel2_c, lset_i, lset_l, lset_r, lkeep_z, lkeep_c, largs_z, largs_c, cat_i, cat_l, cat_r, lkp_c, cnd_eq, cnd_ne, cnd_lt, cnd_ge, cnd_gt, cnd_le, swL_z, swL_c, rE_e, rOr_s, rOr_n, rlk_z, rlk_c, aR_c, aI_c, aII_c, aIII_c, aRI_c, aRII_c, aRIII_c, vJn, vJs, vlc, aRR_c, aRRI_c, aRRII_c, aRRIII_c, aRIIII_c, aRL_c, aRLL_c, aLL_c, aRRRI_c, aIL_c, aIIII_c, aRRIIII_c, aIRII_c, aIR_c, aLI_c, aRIR_c, aRIIR_c, hC.o0, hC.f0_0, hC.f0_1, hC.f0_2, hC.f0_3, hC.f0_4, hC.f0_5, hC.f0_6, hC.f0_7, hC.f0_8, hC.f0_9, hC.f0_10, hC.f0_11, hC.o1, hC.f1, hC.t2, hC.l2, hC.o3, hC.f3, hC.t4, hC.l4, hC.s5, hC.s12, hC.s19, hC.s112, hC.s119, hC.o26, hC.f26, hC.t27, hC.l27, hC.s28, hC.o126, hC.f126_0, hC.f126_1, hC.t127, hC.l127, hC.t128, hC.l128, hC.s129, hC.n157, hC.n161, hC.o165, hC.f165, hC.t166, hC.l166, hC.r167, hC.r171, hC.q5, hC.q12, hC.q19, hC.q112, hC.q119, hC.a2, hC.a4, hC.a27, hC.a127, hC.a128, hC, lpWeighs, hT, hp']
  intro σ1 h1 h2 h3
  have q1 : QFr σ σ1 := QFr.lw h1
  have e8 := w32_succ (k := cF p 0 169) (by omega)
  simp [bs_125, sg_125_0_1, sg_125_102_2, sg_125_102_1, hN _, x_iconst, x_ldc2_w, x_aconst_null, x_iload, x_lload, x_aload, x_istore, x_lstore, x_astore, x_iinc, x_iadd, x_isub, x_imul, x_idiv, x_irem, x_iand, x_ior, x_ixor, x_ishl, x_ishr, x_iushr, x_ineg, x_ladd, x_lsub, x_lmul, x_ldiv, x_lrem, x_lcmp, x_i2l, x_i2b, x_i2s, x_i2c, x_dup, x_pop, x_dup_x1, x_dup2, x_getfield, x_putfield, x_iaload, x_baload, x_saload, x_caload, x_daload, x_faload, x_laload, x_aaload, x_iastore, x_bastore, x_sastore, x_castore, x_lastore, x_aastore, x_arraylength, x_getstatic, x_goto, x_goto_w, x_ifCond, x_if_icmp, x_ifnull, x_ifnonnull, x_lookupswitch, x_invokevirtual, x_invokestatic, x_invokedynamic, x_ireturn, x_freturn, x_dreturn, x_lreturn, x_areturn, x_return_, pI_c, pL_c, pR_c, pV_i, pV_r, gI_c, gL_c, gR_c, pN_z, pN_s, lget_c, lins_z, lins_c, ldel_z, ldel_c, ldel2_z, ldel2_c, lset_i, lset_l, lset_r, lkeep_z, lkeep_c, largs_z, largs_c, cat_i, cat_l, cat_r, lkp_c, cnd_eq, cnd_ne, cnd_lt, cnd_ge, cnd_gt, cnd_le, swL_z, swL_c, rE_e, rOr_s, rOr_n, rlk_z, rlk_c, aR_c, aI_c, aII_c, aIII_c, aRI_c, aRII_c, aRIII_c, vJn, vJs, vlc, aRR_c, aRRI_c, aRRII_c, aRRIII_c, aRIIII_c, aRL_c, aRLL_c, aLL_c, aRRRI_c, aIL_c, aIIII_c, aRRIIII_c, aIRII_c, aIR_c, aLI_c, aRIR_c, aRIIR_c, e8]
  refine ⟨fun z => ?_, fun z => ?_⟩
  · exact O σ1 h2 q1 z
  · rw [if_pos z] at h
    exact h σ1 (QTo.no q1 (h1 3 (by omega) (by omega)) (h1 4 (by omega) (by omega)))
