/-! the reference: canBe -/
noncomputable def cbS (S : (Int → Int) → OL) (k : Int) (F : (Int → Int) → Int) (n : Nat) (V : Int → Int) (i j : Nat) : OL := if 0 ≤ winA F n V i j then (match S (fgtV F n k V i j) with
    | some L => some ((i : Int) :: (j : Int) :: L)
    | none => none) else none
noncomputable def cbe (s f k : Int) (F : (Int → Int) → Int) (n : Nat) : Nat → (Int → Int) → OL
  | 0, V => if soB n V s f then some [] else none
  | r + 1, V => pI2 (cbS (cbe s f k F n r) k F n V) n 0
def CbF (σ σ' : Mem) (k : Nat) : Prop := (∀ o, o ≠ 175 → o ≠ 183 → o ≠ 188 → o ≠ 189 → o ≠ 190 → σ' o = σ o) ∧ (∀ j, ¬ (9 ≤ j ∧ j ≤ 13) → j ≠ 18 → σ' 175 j = σ 175 j) ∧ (∀ j, j < 50 * (k : Int) + 50 → σ' 188 j = σ 188 j) ∧ (∀ j, j < 2 * (k : Int) → σ' 189 j = σ 189 j)
theorem CbF.rf {σ : Mem} {k : Nat} : CbF σ σ k := ⟨fun _ _ _ _ _ _ => rfl, fun _ _ _ => rfl, fun _ _ => rfl, fun _ _ => rfl⟩
theorem CbF.tr {σ σ' σ'' : Mem} {k : Nat} (h : CbF σ σ' k) (h' : CbF σ' σ'' k) : CbF σ σ'' k := ⟨fun o a b c e f => (h'.1 o a b c e f).trans (h.1 o a b c e f), fun j a b => (h'.2.1 j a b).trans (h.2.1 j a b), fun j a => (h'.2.2.1 j a).trans (h.2.2.1 j a), fun j a => (h'.2.2.2 j a).trans (h.2.2.2 j a)⟩
theorem CbF.dn {σ σ' : Mem} {k : Nat} (h : CbF σ σ' (k + 1)) : CbF σ σ' k := ⟨h.1, h.2.1, fun j a => h.2.2.1 j (by omega), fun j a => h.2.2.2 j (by omega)⟩
theorem CbF.q {σ σ' : Mem} {k : Nat} (h : CbF σ σ' k) : QFM σ σ' := ⟨fun o a b => h.1 o a (fun z => b (by rw [z]; unfold scrM; omega)) (fun z => b (by rw [z]; unfold scrM; omega)) (fun z => b (by rw [z]; unfold scrM; omega)) (fun z => b (by rw [z]; unfold scrM; omega)), fun j a => h.2.1 j (fun z => a (by unfold scrF; omega)) (fun z => a (by unfold scrF; omega))⟩
theorem CbF.sg {σ σ' : Mem} {k : Nat} (h : CbF σ σ' k) : sgA (σ' 188) k = sgA (σ 188) k := sgA_cg (fun j _ b => h.2.2.1 j b)
def LnIs (σ : Mem) (k : Nat) (L : List Int) : Prop := ∀ i : Nat, i < L.length → σ 189 (2 * (k : Int) + i) = L.getD i 0
def cbP (O : OL) (k : Nat) (t : Tau) (Q : Post) (σ : Mem) : Prop := match O with
  | none => Q (some (vI 0)) t σ
  | some L => LnIs σ k L → Q (some (vI 1)) t σ
def mpCb (r : Nat) : Sp := fun as t σ Q => aRIIII as fun a k m s f => a = 175 ∧ (0 ≤ k ∧ m = k + r ∧ m ≤ 3) ∧ (s = -1 ∨ (0 ≤ s ∧ s < 6)) ∧ ∃ F, MR t σ F ∧ MdOk t σ ∧ WFV (nM σ) (mM σ) (sgA (σ 188) k) ∧ (1 ≤ σ 175 2 ∧ σ 175 2 ≤ 6) ∧ ∀ σ', CbF σ σ' k.toNat → cbP (cbe s f (σ 175 2) F (nM σ) r (sgA (σ 188) k)) k.toNat t Q σ'
abbrev rgCb : Reg := (239, mpLyD) :: (240, mpSo) :: rgMw
theorem rgCb_ok {l : Launch} {g : GE} {d : Nat} : ∀ e as t σ Q, rE l g (d + 92) rgCb e as t σ Q → WPc l g e (d + 92) 0 0 as t σ Q := rE_cons (fun _ _ _ _ h => m_layDeep h) (rE_cons (fun _ _ _ _ h => m_isSo h) rgMw_ok)
theorem m_canBe0 {l : Launch} {g : GE} {d : Nat} {t : Tau} {σ : Mem} {Q : Post} {as : List TV} (h0 : mpCb 0 as t σ Q) : WPc l g 241 (d + 93) 0 0 as t σ Q := by
  obtain ⟨a, k', m, s, f, rfl, rfl, ⟨k0, rfl, k3⟩, hs, F, hR, hM, hW, hT, h⟩ := aRIIII_e h0
  clear h0
  obtain ⟨k, rfl⟩ : ∃ n : Nat, k' = n := ⟨k'.toNat, by omega⟩
  simp only [Int.toNat_natCast] at h
  have k3' : (k : Int) ≤ 3 := by omega
  refine wg (by decide) rgCb_ok ts_241 py_241 ml_241 30 (by simp [catT]) (fun N hN => ?_)
  simp [bs_241, hN _, x_iconst, x_ldc2_w, x_aconst_null, x_iload, x_lload, x_aload, x_istore, x_lstore, x_astore, x_iinc, x_iadd, x_isub, x_imul, x_idiv, x_irem, x_iand, x_ior, x_ixor, x_ishl, x_ishr, x_iushr, x_ineg, x_ladd, x_lsub, x_lmul, x_ldiv, x_lrem, x_lcmp, x_i2l, x_i2b, x_i2s, x_i2c, x_dup, x_pop, x_dup_x1, x_dup2, x_getfield, x_putfield, x_iaload, x_baload, x_saload, x_caload, x_daload, x_faload, x_laload, x_aaload, x_iastore, x_bastore, x_sastore, x_castore, x_lastore, x_aastore, x_arraylength, x_getstatic, x_goto, x_goto_w, x_ifCond, x_if_icmp, x_ifnull, x_ifnonnull, x_lookupswitch, x_invokevirtual, x_invokestatic, x_invokedynamic, x_ireturn, x_freturn, x_dreturn, x_lreturn, x_areturn, x_return_, pI_c, pL_c, pR_c, pV_i, pV_r, gI_c, gL_c, gR_c, pN_z, pN_s, lget_c, lins_z, lins_c, ldel_z, ldel_c, ldel2_z, ldel2_c, lset_i, lset_l, lset_r, lkeep_z, lkeep_c, largs_z, largs_c, cat_i, cat_l, cat_r, lkp_c, cnd_eq, cnd_ne, cnd_lt, cnd_ge, cnd_gt, cnd_le, swL_z, swL_c, rE_e, rOr_s, rOr_n, rlk_z, rlk_c, aR_c, aI_c, aII_c, aIII_c, aRI_c, aRII_c, aRIII_c, vJn, vJs, vlc, aRR_c, aRRI_c, aRRII_c, aRRIII_c, aRIIII_c, aRL_c, aRLL_c, aLL_c, aRRRI_c, aIL_c, aIIII_c, aRRIIII_c, aIRII_c, aIR_c, aLI_c, aRIR_c, aRIIR_c, hM.1.o, hM.1, mpLyD, hM.1.l188]
  refine ⟨by omega, fun σ1 T => ?_⟩
  have h := h σ1 ⟨fun o _ _ _ _ a => T.1 o a, fun j _ _ => by rw [T.1 175 (by omega)], fun j _ => by rw [T.1 188 (by omega)], fun j _ => by rw [T.1 189 (by omega)]⟩
  have hM1 : MdOk t σ1 := by
    have e := T.1 175 (by omega)
    obtain ⟨k1, k2, k4⟩ := hM
    have en : nM σ1 = nM σ := by unfold nM; rw [e]
    exact ⟨k1, by rw [en, e]; exact k2, by rw [en]; exact k4⟩
  have en : nM σ1 = nM σ := by unfold nM; rw [T.1 175 (by omega)]
  have T2 := T.2
  unfold cbe at h
  rw [← T2, ← en] at h
  simp [sg_241_0_1, bs_241, hN _, x_iconst, x_ldc2_w, x_aconst_null, x_iload, x_lload, x_aload, x_istore, x_lstore, x_astore, x_iinc, x_iadd, x_isub, x_imul, x_idiv, x_irem, x_iand, x_ior, x_ixor, x_ishl, x_ishr, x_iushr, x_ineg, x_ladd, x_lsub, x_lmul, x_ldiv, x_lrem, x_lcmp, x_i2l, x_i2b, x_i2s, x_i2c, x_dup, x_pop, x_dup_x1, x_dup2, x_getfield, x_putfield, x_iaload, x_baload, x_saload, x_caload, x_daload, x_faload, x_laload, x_aaload, x_iastore, x_bastore, x_sastore, x_castore, x_lastore, x_aastore, x_arraylength, x_getstatic, x_goto, x_goto_w, x_ifCond, x_if_icmp, x_ifnull, x_ifnonnull, x_lookupswitch, x_invokevirtual, x_invokestatic, x_invokedynamic, x_ireturn, x_freturn, x_dreturn, x_lreturn, x_areturn, x_return_, pI_c, pL_c, pR_c, pV_i, pV_r, gI_c, gL_c, gR_c, pN_z, pN_s, lget_c, lins_z, lins_c, ldel_z, ldel_c, ldel2_z, ldel2_c, lset_i, lset_l, lset_r, lkeep_z, lkeep_c, largs_z, largs_c, cat_i, cat_l, cat_r, lkp_c, cnd_eq, cnd_ne, cnd_lt, cnd_ge, cnd_gt, cnd_le, swL_z, swL_c, rE_e, rOr_s, rOr_n, rlk_z, rlk_c, aR_c, aI_c, aII_c, aIII_c, aRI_c, aRII_c, aRIII_c, vJn, vJs, vlc, aRR_c, aRRI_c, aRRII_c, aRRIII_c, aRIIII_c, aRL_c, aRLL_c, aLL_c, aRRRI_c, aIL_c, aIIII_c, aRRIIII_c, aIRII_c, aIR_c, aLI_c, aRIR_c, aRIIR_c, hM.1.o, mpSo, hM1, hs]
  cases hc : soB (nM σ1) (vA σ1 190) s f
  · rw [hc] at h
    simpa [cbP] using h
  · rw [hc] at h
    have h : LnIs σ1 k [] → Q (some (vI 1)) t σ1 := by simpa [cbP] using h
    simpa using h (fun i hi => by simp at hi)
