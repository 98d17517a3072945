/-! the reference: war -/
def WmF (σ σ' : Mem) : Prop := (∀ o, o ≠ 175 → ¬ scrM o → o ≠ 176 → σ' o = σ o) ∧ ∀ j, j ≠ 5 → ¬ scrF j → σ' 175 j = σ 175 j
theorem WmF.n {σ σ' : Mem} (h : WmF σ σ') : nM σ' = nM σ := by unfold nM; rw [h.2 1 (by omega) (by unfold scrF; omega)]
theorem WmF.m {σ σ' : Mem} (h : WmF σ σ') : mM σ' = mM σ := by unfold mM; rw [h.1 177 (by omega) (by unfold scrM; omega) (by omega)]
theorem WmF.rs {σ σ' : Mem} (h : WmF σ σ') : RuS σ σ' := ⟨h.2 15 (by omega) (by unfold scrF; omega), h.2 17 (by omega) (by unfold scrF; omega), h.1 181 (by omega) (by unfold scrM; omega) (by omega), h.1 182 (by omega) (by unfold scrM; omega) (by omega)⟩
theorem wf_act {F : (Int → Int) → Int} {n : Nat} {M V : Int → Int} {k : Int} {T : Int → Int} {p : Nat} (h : WFV n M V) (hk : 1 ≤ k ∧ k ≤ 6) : WFV n M (actV F n M k T p V).2 := by
  unfold actV
  split
  · exact wf_fgtV h hk
  split
  · exact wf_days h _
  split
  · exact wf_sewN h _ _ _
  · exact wf_yieldN h _ _
noncomputable abbrev rw2 (σ : Mem) (a b : Int) : Mem := up (up (up (up (up σ 175 7 0) 179 0 a) 175 7 1) 179 1 b) 175 7 2
theorem rw2_o {σ : Mem} {a b o : Int} (h1 : o ≠ 175) (h2 : o ≠ 179) : rw2 σ a b o = σ o := by
  show up (up (up (up (up σ 175 7 0) 179 0 a) 175 7 1) 179 1 b) 175 7 2 o = _
  rw [up_ne h1, up_ne h2, up_ne h1, up_ne h2, up_ne h1]
set_option maxHeartbeats 4000000 in
set_option maxRecDepth 20000 in
theorem mo_war {l : Launch} {g : GE} {d : Nat} {t : Tau} {σ : Mem} {Q : Post} {F : (Int → Int) → Int} {p : Nat} {U : Nat → Int → Int} (hk : MK t σ) (hR : MR t σ F) (hT : 1 ≤ σ 175 2 ∧ σ 175 2 ≤ 6) (hTx : TxM σ) (hp : MpIs σ p U) (h : if fltW (txB σ) (σ 175 5).toNat = -1 then (∀ σ', MTo (up σ 175 5 0) σ' (wlF F (nM σ) (mM σ) (σ 175 2) (txB σ) (σ 175 5).toNat (σ 175 5).toNat 0 0 (vA σ 176)).2.2 (if (wlF F (nM σ) (mM σ) (σ 175 2) (txB σ) (σ 175 5).toNat (σ 175 5).toNat 0 0 (vA σ 176)).1 = 0 then p else pushP p) (if (wlF F (nM σ) (mM σ) (σ 175 2) (txB σ) (σ 175 5).toNat (σ 175 5).toNat 0 0 (vA σ 176)).1 = 0 then U else pushU p U (vA σ 176)) (some [if (wlF F (nM σ) (mM σ) (σ 175 2) (txB σ) (σ 175 5).toNat (σ 175 5).toNat 0 0 (vA σ 176)).2.1 then 1 else 0, (wlF F (nM σ) (mM σ) (σ 175 2) (txB σ) (σ 175 5).toNat (σ 175 5).toNat 0 0 (vA σ 176)).2.2 49]) → Q (some (vI (wlF F (nM σ) (mM σ) (σ 175 2) (txB σ) (σ 175 5).toNat (σ 175 5).toNat 0 0 (vA σ 176)).1)) t σ') else (∀ σ', QTM (up σ 175 5 0) σ' none → Q (some (vI (-1 - fltW (txB σ) (σ 175 5).toNat))) t σ')) : WPc l g 220 (d + 94) 0 0 [vR 175] t σ Q := by
  obtain ⟨⟨n0, n1⟩, hb⟩ := hTx
  obtain ⟨len, h5⟩ : ∃ n : Nat, σ 175 5 = n := ⟨(σ 175 5).toNat, by omega⟩
  have hn : (σ 175 5).toNat = len := by omega
  rw [hn] at h
  obtain ⟨hM, hW⟩ := hk
  have oM := hM.1.o
  generalize hTT : txB σ = T at h
  generalize hVV : vA σ 176 = V0 at h hW
  have e5 : up σ 175 8 0 175 5 = len := by simp [up_ap, h5]
  generalize hσ1 : up (up (up (up (up (up (up σ 175 8 0) 175 9 178) 175 10 len) 175 11 60) 175 12 0) 175 13 (-1)) 175 5 0 = σ1
  have g9 : σ1 175 9 = 178 := by rw [← hσ1]; simp [up_ap]
  have g10 : σ1 175 10 = len := by rw [← hσ1]; simp [up_ap]
  have g11 : σ1 175 11 = 60 := by rw [← hσ1]; simp [up_ap]
  have g12 : σ1 175 12 = 0 := by rw [← hσ1]; simp [up_ap]
  have g13 : σ1 175 13 = -1 := by rw [← hσ1]; simp [up_ap]
  have g5 : σ1 175 5 = 0 := by rw [← hσ1]; simp [up_ap]
  have g8 : σ1 175 8 = 0 := by rw [← hσ1]; simp [up_ap]
  have gj : ∀ j, j ≠ 5 → j ≠ 8 → ¬ (9 ≤ j ∧ j ≤ 13) → σ1 175 j = σ 175 j := fun j a b c => by
    rw [← hσ1]
    simp only [up_ap]
    rw [if_neg (by omega), if_neg (by omega), if_neg (by omega), if_neg (by omega), if_neg (by omega), if_neg (by omega), if_neg (by omega)]
  have go : ∀ o, o ≠ 175 → σ1 o = σ o := fun o a => by rw [← hσ1, up_ne a, up_ne a, up_ne a, up_ne a, up_ne a, up_ne a, up_ne a]
  have hX : PaX t σ1 T (min len 60) len := by
    refine ⟨hM.1, g9, g10, by omega, fun k => by rw [go 178 (by omega)]; exact hb k, by omega, fun p hp => ?_⟩
    unfold hrS
    rw [g9, g10, g11, go 178 (by omega), ← hTT]
    by_cases c : p < min len 60
    · rw [if_pos c, if_pos ⟨by omega, by omega⟩]
    · rw [if_neg c, if_neg (by omega)]
  -- what is left when all is done
  have fin : ∀ (σ' : Mem) (V : Int → Int) (p' : Nat) (U' : Nat → Int → Int) (a : Int), WmF σ σ' ∨ True → (∀ o, o ≠ 175 → ¬ scrM o → o ≠ 176 → o ≠ 184 → σ' o = σ o) → (∀ j, j ≠ 5 → ¬ scrF j → j ≠ 21 → σ' 175 j = σ 175 j) → σ' 175 5 = 0 → σ' 175 8 = 0 → vA σ' 176 = V → MpIs σ' p' U' → MTo (up σ 175 5 0) (rw2 σ' a (V 49)) V p' U' (some [a, V 49]) := by
    intro σ' V p' U' a _ ho hj h5' h8 hv hpp
    refine ⟨⟨fun o a1 a2 a3 a4 => ?_, fun j a1 a2 => ?_⟩, ?_, ?_, ?_, rm_2⟩
    · have o179 : o ≠ 179 := fun z => a2 (by rw [z]; unfold scrM; omega)
      rw [rw2_o a1 o179, up_ne a1]; exact ho o a1 a2 a3 a4
    · have j7 : ¬ j = 7 := fun z => a1 (by rw [z]; unfold scrF; omega)
      simp only [up_ap, j7, and_false, if_false, show ((175 : Int) = 179) = False by simp, false_and]
      by_cases z5 : j = 5
      · simp [z5, h5']
      · simp [z5]; exact hj j z5 a1 a2
    · rw [vA_up (by omega), vA_up (by omega), vA_up (by omega), vA_up (by omega), vA_up (by omega)]; exact hv
    · exact hpp.cg (by simp [up_ap]) (rw2_o (by omega) (by omega))
    · simp [up_ap, h8]
  have K := m_warRead (l := l) (g := g) (d := d) (t := t) (σ := σ) (Q := Q) (σ1 := σ1) (T := T) (len := len) hX (fun σ' f hf => ?_) (fun σ' n f hf hlen hc σ2 y1 y2 => ?_) (min len 60) 0 σ1 (by show 0 + _ = _; omega) WrI.z PwF.rf g13 g12 (fun k hk => by omega)
  · refine wg (by decide) rgWm_ok ts_220 py_220 ml_220 30 (by simp [catT]) (fun N hN => ?_)
    simp [bs_220, hN _, x_iconst, x_ldc2_w, x_aconst_null, x_iload, x_lload, x_aload, x_istore, x_lstore, x_astore, x_iinc, x_iadd, x_isub, x_imul, x_idiv, x_irem, x_iand, x_ior, x_ixor, x_ishl, x_ishr, x_iushr, x_ineg, x_ladd, x_lsub, x_lmul, x_ldiv, x_lrem, x_lcmp, x_i2l, x_i2b, x_i2s, x_i2c, x_dup, x_pop, x_dup_x1, x_dup2, x_getfield, x_putfield, x_iaload, x_baload, x_saload, x_caload, x_daload, x_faload, x_laload, x_aaload, x_iastore, x_bastore, x_sastore, x_castore, x_lastore, x_aastore, x_arraylength, x_getstatic, x_goto, x_goto_w, x_ifCond, x_if_icmp, x_ifnull, x_ifnonnull, x_lookupswitch, x_invokevirtual, x_invokestatic, x_invokedynamic, x_ireturn, x_freturn, x_dreturn, x_lreturn, x_areturn, x_return_, pI_c, pL_c, pR_c, pV_i, pV_r, gI_c, gL_c, gR_c, pN_z, pN_s, lget_c, lins_z, lins_c, ldel_z, ldel_c, ldel2_z, ldel2_c, lset_i, lset_l, lset_r, lkeep_z, lkeep_c, largs_z, largs_c, cat_i, cat_l, cat_r, lkp_c, cnd_eq, cnd_ne, cnd_lt, cnd_ge, cnd_gt, cnd_le, swL_z, swL_c, rE_e, rOr_s, rOr_n, rlk_z, rlk_c, aR_c, aI_c, aII_c, aIII_c, aRI_c, aRII_c, aRIII_c, vJn, vJs, vlc, aRR_c, aRRI_c, aRRII_c, aRRIII_c, aRIIII_c, aRL_c, aRLL_c, aLL_c, aRRRI_c, aIL_c, aIIII_c, aRRIIII_c, aIRII_c, aIR_c, aLI_c, aRIR_c, aRIIR_c, oM, hM.1, mpBeT, e5, hσ1]
    simp [sg_220_0_1, bs_220, hN _, x_iconst, x_ldc2_w, x_aconst_null, x_iload, x_lload, x_aload, x_istore, x_lstore, x_astore, x_iinc, x_iadd, x_isub, x_imul, x_idiv, x_irem, x_iand, x_ior, x_ixor, x_ishl, x_ishr, x_iushr, x_ineg, x_ladd, x_lsub, x_lmul, x_ldiv, x_lrem, x_lcmp, x_i2l, x_i2b, x_i2s, x_i2c, x_dup, x_pop, x_dup_x1, x_dup2, x_getfield, x_putfield, x_iaload, x_baload, x_saload, x_caload, x_daload, x_faload, x_laload, x_aaload, x_iastore, x_bastore, x_sastore, x_castore, x_lastore, x_aastore, x_arraylength, x_getstatic, x_goto, x_goto_w, x_ifCond, x_if_icmp, x_ifnull, x_ifnonnull, x_lookupswitch, x_invokevirtual, x_invokestatic, x_invokedynamic, x_ireturn, x_freturn, x_dreturn, x_lreturn, x_areturn, x_return_, pI_c, pL_c, pR_c, pV_i, pV_r, gI_c, gL_c, gR_c, pN_z, pN_s, lget_c, lins_z, lins_c, ldel_z, ldel_c, ldel2_z, ldel2_c, lset_i, lset_l, lset_r, lkeep_z, lkeep_c, largs_z, largs_c, cat_i, cat_l, cat_r, lkp_c, cnd_eq, cnd_ne, cnd_lt, cnd_ge, cnd_gt, cnd_le, swL_z, swL_c, rE_e, rOr_s, rOr_n, rlk_z, rlk_c, aR_c, aI_c, aII_c, aIII_c, aRI_c, aRII_c, aRIII_c, vJn, vJs, vlc, aRR_c, aRRI_c, aRRII_c, aRRIII_c, aRIIII_c, aRL_c, aRLL_c, aLL_c, aRRRI_c, aIL_c, aIIII_c, aRRIIII_c, aIRII_c, aIR_c, aLI_c, aRIR_c, aRIIR_c]
    simpa using K
  · rw [if_neg hf] at h
    refine h σ' ⟨⟨fun o a b => ?_, fun j a => ?_⟩, by rw [f.2.1 8 (by omega) (by omega)]; exact g8, ?_, ?_⟩
    · rw [f.1 o a (fun z => b (by rw [z]; unfold scrM; omega)), go o a, up_ne a]
    · by_cases z5 : j = 5
      · rw [z5, f.2.1 5 (by omega) (by omega), g5]; simp [up_ap]
      · have a' : ¬ (9 ≤ j ∧ j ≤ 13) ∧ j ≠ 8 := by unfold scrF at a; omega
        rw [f.2.1 j (by omega) (by omega), gj j z5 a'.2 a'.1, up_ap, if_neg (fun z => z5 z.2)]
    · rw [f.2.1 7 (by omega) (by omega), gj 7 (by omega) (by omega) (by omega)]; simp [up_ap]
    · rw [f.1 179 (by omega) (by omega), go 179 (by omega), up_ne (by omega)]
  · rw [if_pos hf] at h
    have s185 : ∀ o, o ≠ 175 → o ≠ 187 → o ≠ 185 → σ2 o = σ o := fun o a b c => by rw [y1 o c, f.1 o a b, go o a]
    have s175 : ∀ j, j ≠ 5 → j ≠ 8 → ¬ (9 ≤ j ∧ j ≤ 13) → σ2 175 j = σ 175 j := fun j a b c => by rw [y1 175 (by omega), f.2.1 j (by omega) (by omega), gj j a b c]
    have s5 : σ2 175 5 = 0 := by rw [y1 175 (by omega), f.2.1 5 (by omega) (by omega)]; exact g5
    have s8 : σ2 175 8 = 0 := by rw [y1 175 (by omega), f.2.1 8 (by omega) (by omega)]; exact g8
    have v0 : vA σ' 176 = V0 := by rw [← hVV]; unfold vA; rw [f.1 176 (by omega) (by omega), go 176 (by omega)]
    have n2 := psn_2 (T := T) n
    have l60 := (fltW_ok hf).1
    let J : Mem → (Int → Int) → Prop := fun σ' V => WmF σ σ' ∧ (σ' 175 5 = 0 ∧ σ' 175 8 = 0) ∧ vA σ' 176 = V ∧ vA σ' 185 = V0 ∧ (∀ k, k < n → AcIs σ' k T (psn T k)) ∧ WFV (nM σ) (mM σ) V
    have ex : ∀ (σ' : Mem) (V : Int → Int) (k : Nat) (st : Bool), J σ' V → wlF F (nM σ) (mM σ) (σ 175 2) T len len 0 0 V0 = (k, st, V) → (k = 0 → Q (some (vI 0)) t (rw2 σ' (if st then 1 else 0) (V 49))) ∧ (∀ σ'', (∀ o, o ≠ 175 → o ≠ 184 → σ'' o = σ' o) → (∀ j, j ≠ 21 → σ'' 175 j = σ' 175 j) → MpIs σ'' (pushP p) (pushU p U V0) → 0 < k → Q (some (vI k)) t (rw2 σ'' (if st then 1 else 0) (V 49))) := by
      rintro σ' V k st ⟨j1, j2, j3, j4, j5, j6⟩ hw
      rw [hw] at h
      refine ⟨fun hz => ?_, fun σ'' z1 z2 z3 hz => ?_⟩
      · subst hz
        have hp' : MpIs σ' p U := hp.cg (j1.2 21 (by omega) (by unfold scrF; omega)) (j1.1 184 (by omega) (by unfold scrM; omega) (by omega))
        exact h _ (fin σ' V p U _ (Or.inr trivial) (fun o a b c _ => j1.1 o a b c) (fun j a b _ => j1.2 j a b) j2.1 j2.2 j3 hp')
      · have hk0 : ¬ k = 0 := by omega
        simp only [hk0, if_false] at h
        exact h _ (fin σ'' V (pushP p) (pushU p U V0) _ (Or.inr trivial) (fun o a b c e => by rw [z1 o a e]; exact j1.1 o a b c) (fun j a b c => by rw [z2 j c]; exact j1.2 j a b) (by rw [z2 5 (by omega)]; exact j2.1) (by rw [z2 8 (by omega)]; exact j2.2) (by unfold vA; rw [z1 176 (by omega) (by omega)]; exact j3) z3)
    have L : ∀ (q k : Nat) (σ' : Mem) (V : Int → Int), k + q = n → J σ' V → wlF F (nM σ) (mM σ) (σ 175 2) T len len 0 0 V0 = wlF F (nM σ) (mM σ) (σ 175 2) T len (len - k) (psn T k) k V → Wp l g 220 (d + 94) 0 0 72 [(0, vR 175), (1, vI n), (2, vI k)] [] t σ' Q := by
      intro q
      induction q with
      | zero =>
        intro k σ' V hkq hJ hw
        obtain rfl : k = n := by omega
        have hw2 : wlF F (nM σ) (mM σ) (σ 175 2) T len (len - k) (psn T k) k V = (k, false, V) := by
          cases hl : len - k with
          | zero => rfl
          | succ r =>
            show (if psn T k < len then _ else _) = _
            rw [if_neg (by omega)]
        rw [hw2] at hw
        obtain ⟨E0, E1⟩ := ex σ' V k false hJ hw
        obtain ⟨j1, j2, j3, j4, j5, j6⟩ := hJ
        have x49 : σ' 176 49 = V 49 := by rw [vA_at (σ := σ') (r := 176) (by omega) (by omega), j3]
        have hp' : MpIs σ' p U := hp.cg (j1.2 21 (by omega) (by unfold scrF; omega)) (j1.1 184 (by omega) (by unfold scrM; omega) (by omega))
        refine wa (by decide) rgWm_ok ts_220 30 (fun N hN => ?_)
        by_cases hz : k = 0
        · have K := E0 hz
          subst hz
          simp [bs_220, hN _, x_iconst, x_ldc2_w, x_aconst_null, x_iload, x_lload, x_aload, x_istore, x_lstore, x_astore, x_iinc, x_iadd, x_isub, x_imul, x_idiv, x_irem, x_iand, x_ior, x_ixor, x_ishl, x_ishr, x_iushr, x_ineg, x_ladd, x_lsub, x_lmul, x_ldiv, x_lrem, x_lcmp, x_i2l, x_i2b, x_i2s, x_i2c, x_dup, x_pop, x_dup_x1, x_dup2, x_getfield, x_putfield, x_iaload, x_baload, x_saload, x_caload, x_daload, x_faload, x_laload, x_aaload, x_iastore, x_bastore, x_sastore, x_castore, x_lastore, x_aastore, x_arraylength, x_getstatic, x_goto, x_goto_w, x_ifCond, x_if_icmp, x_ifnull, x_ifnonnull, x_lookupswitch, x_invokevirtual, x_invokestatic, x_invokedynamic, x_ireturn, x_freturn, x_dreturn, x_lreturn, x_areturn, x_return_, pI_c, pL_c, pR_c, pV_i, pV_r, gI_c, gL_c, gR_c, pN_z, pN_s, lget_c, lins_z, lins_c, ldel_z, ldel_c, ldel2_z, ldel2_c, lset_i, lset_l, lset_r, lkeep_z, lkeep_c, largs_z, largs_c, cat_i, cat_l, cat_r, lkp_c, cnd_eq, cnd_ne, cnd_lt, cnd_ge, cnd_gt, cnd_le, swL_z, swL_c, rE_e, rOr_s, rOr_n, rlk_z, rlk_c, aR_c, aI_c, aII_c, aIII_c, aRI_c, aRII_c, aRIII_c, vJn, vJs, vlc, aRR_c, aRRI_c, aRRII_c, aRRIII_c, aRIIII_c, aRL_c, aRLL_c, aLL_c, aRRRI_c, aIL_c, aIIII_c, aRRIIII_c, aIRII_c, aIR_c, aLI_c, aRIR_c, aRIIR_c, oM, hM.1, mpTell, up_ap]
          simp [sg_220_0_1, sg_220_13_1, sg_220_44_1, sg_220_58_1, sg_220_72_1, sg_220_93_1, sg_220_120_2, sg_220_120_1, sg_220_121_2, sg_220_121_1, bs_220, hN _, x_iconst, x_ldc2_w, x_aconst_null, x_iload, x_lload, x_aload, x_istore, x_lstore, x_astore, x_iinc, x_iadd, x_isub, x_imul, x_idiv, x_irem, x_iand, x_ior, x_ixor, x_ishl, x_ishr, x_iushr, x_ineg, x_ladd, x_lsub, x_lmul, x_ldiv, x_lrem, x_lcmp, x_i2l, x_i2b, x_i2s, x_i2c, x_dup, x_pop, x_dup_x1, x_dup2, x_getfield, x_putfield, x_iaload, x_baload, x_saload, x_caload, x_daload, x_faload, x_laload, x_aaload, x_iastore, x_bastore, x_sastore, x_castore, x_lastore, x_aastore, x_arraylength, x_getstatic, x_goto, x_goto_w, x_ifCond, x_if_icmp, x_ifnull, x_ifnonnull, x_lookupswitch, x_invokevirtual, x_invokestatic, x_invokedynamic, x_ireturn, x_freturn, x_dreturn, x_lreturn, x_areturn, x_return_, pI_c, pL_c, pR_c, pV_i, pV_r, gI_c, gL_c, gR_c, pN_z, pN_s, lget_c, lins_z, lins_c, ldel_z, ldel_c, ldel2_z, ldel2_c, lset_i, lset_l, lset_r, lkeep_z, lkeep_c, largs_z, largs_c, cat_i, cat_l, cat_r, lkp_c, cnd_eq, cnd_ne, cnd_lt, cnd_ge, cnd_gt, cnd_le, swL_z, swL_c, rE_e, rOr_s, rOr_n, rlk_z, rlk_c, aR_c, aI_c, aII_c, aIII_c, aRI_c, aRII_c, aRIII_c, vJn, vJs, vlc, aRR_c, aRRI_c, aRRII_c, aRRIII_c, aRIIII_c, aRL_c, aRLL_c, aLL_c, aRRRI_c, aIL_c, aIIII_c, aRRIIII_c, aIRII_c, aIR_c, aLI_c, aRIR_c, aRIIR_c, oM, hM.1, hM.1.f0, hM.1.t176, hM.1.l176, mpTell, up_ap, x49]
          simp at K
          exact K
        · have hz' : ¬ (k : Int) ≤ 0 := by omega
          simp [bs_220, hN _, x_iconst, x_ldc2_w, x_aconst_null, x_iload, x_lload, x_aload, x_istore, x_lstore, x_astore, x_iinc, x_iadd, x_isub, x_imul, x_idiv, x_irem, x_iand, x_ior, x_ixor, x_ishl, x_ishr, x_iushr, x_ineg, x_ladd, x_lsub, x_lmul, x_ldiv, x_lrem, x_lcmp, x_i2l, x_i2b, x_i2s, x_i2c, x_dup, x_pop, x_dup_x1, x_dup2, x_getfield, x_putfield, x_iaload, x_baload, x_saload, x_caload, x_daload, x_faload, x_laload, x_aaload, x_iastore, x_bastore, x_sastore, x_castore, x_lastore, x_aastore, x_arraylength, x_getstatic, x_goto, x_goto_w, x_ifCond, x_if_icmp, x_ifnull, x_ifnonnull, x_lookupswitch, x_invokevirtual, x_invokestatic, x_invokedynamic, x_ireturn, x_freturn, x_dreturn, x_lreturn, x_areturn, x_return_, pI_c, pL_c, pR_c, pV_i, pV_r, gI_c, gL_c, gR_c, pN_z, pN_s, lget_c, lins_z, lins_c, ldel_z, ldel_c, ldel2_z, ldel2_c, lset_i, lset_l, lset_r, lkeep_z, lkeep_c, largs_z, largs_c, cat_i, cat_l, cat_r, lkp_c, cnd_eq, cnd_ne, cnd_lt, cnd_ge, cnd_gt, cnd_le, swL_z, swL_c, rE_e, rOr_s, rOr_n, rlk_z, rlk_c, aR_c, aI_c, aII_c, aIII_c, aRI_c, aRII_c, aRIII_c, vJn, vJs, vlc, aRR_c, aRRI_c, aRRII_c, aRRIII_c, aRIIII_c, aRL_c, aRLL_c, aLL_c, aRRRI_c, aIL_c, aIIII_c, aRRIIII_c, aIRII_c, aIR_c, aLI_c, aRIR_c, aRIIR_c, oM, hM.1, hM.1.f22, hz, hz']
          intro hk0
          refine ⟨rfl, hM.1, RowT.asd hM.1, by omega, p, U, hp', fun σ3 z1 z2 z3 => ?_⟩
          rw [j4] at z3
          have K := E1 σ3 z1 z2 z3 hk0
          have x49' : σ3 176 49 = V 49 := by rw [z1 176 (by omega) (by omega)]; exact x49
          simp [sg_220_93_1, bs_220, hN _, x_iconst, x_ldc2_w, x_aconst_null, x_iload, x_lload, x_aload, x_istore, x_lstore, x_astore, x_iinc, x_iadd, x_isub, x_imul, x_idiv, x_irem, x_iand, x_ior, x_ixor, x_ishl, x_ishr, x_iushr, x_ineg, x_ladd, x_lsub, x_lmul, x_ldiv, x_lrem, x_lcmp, x_i2l, x_i2b, x_i2s, x_i2c, x_dup, x_pop, x_dup_x1, x_dup2, x_getfield, x_putfield, x_iaload, x_baload, x_saload, x_caload, x_daload, x_faload, x_laload, x_aaload, x_iastore, x_bastore, x_sastore, x_castore, x_lastore, x_aastore, x_arraylength, x_getstatic, x_goto, x_goto_w, x_ifCond, x_if_icmp, x_ifnull, x_ifnonnull, x_lookupswitch, x_invokevirtual, x_invokestatic, x_invokedynamic, x_ireturn, x_freturn, x_dreturn, x_lreturn, x_areturn, x_return_, pI_c, pL_c, pR_c, pV_i, pV_r, gI_c, gL_c, gR_c, pN_z, pN_s, lget_c, lins_z, lins_c, ldel_z, ldel_c, ldel2_z, ldel2_c, lset_i, lset_l, lset_r, lkeep_z, lkeep_c, largs_z, largs_c, cat_i, cat_l, cat_r, lkp_c, cnd_eq, cnd_ne, cnd_lt, cnd_ge, cnd_gt, cnd_le, swL_z, swL_c, rE_e, rOr_s, rOr_n, rlk_z, rlk_c, aR_c, aI_c, aII_c, aIII_c, aRI_c, aRII_c, aRIII_c, vJn, vJs, vlc, aRR_c, aRRI_c, aRRII_c, aRRIII_c, aRIIII_c, aRL_c, aRLL_c, aLL_c, aRRRI_c, aIL_c, aIIII_c, aRRIIII_c, aIRII_c, aIR_c, aLI_c, aRIR_c, aRIIR_c, oM, hM.1, mpTell, up_ap]
          simp [sg_220_0_1, sg_220_13_1, sg_220_44_1, sg_220_58_1, sg_220_72_1, sg_220_93_1, sg_220_120_2, sg_220_120_1, sg_220_121_2, sg_220_121_1, bs_220, hN _, x_iconst, x_ldc2_w, x_aconst_null, x_iload, x_lload, x_aload, x_istore, x_lstore, x_astore, x_iinc, x_iadd, x_isub, x_imul, x_idiv, x_irem, x_iand, x_ior, x_ixor, x_ishl, x_ishr, x_iushr, x_ineg, x_ladd, x_lsub, x_lmul, x_ldiv, x_lrem, x_lcmp, x_i2l, x_i2b, x_i2s, x_i2c, x_dup, x_pop, x_dup_x1, x_dup2, x_getfield, x_putfield, x_iaload, x_baload, x_saload, x_caload, x_daload, x_faload, x_laload, x_aaload, x_iastore, x_bastore, x_sastore, x_castore, x_lastore, x_aastore, x_arraylength, x_getstatic, x_goto, x_goto_w, x_ifCond, x_if_icmp, x_ifnull, x_ifnonnull, x_lookupswitch, x_invokevirtual, x_invokestatic, x_invokedynamic, x_ireturn, x_freturn, x_dreturn, x_lreturn, x_areturn, x_return_, pI_c, pL_c, pR_c, pV_i, pV_r, gI_c, gL_c, gR_c, pN_z, pN_s, lget_c, lins_z, lins_c, ldel_z, ldel_c, ldel2_z, ldel2_c, lset_i, lset_l, lset_r, lkeep_z, lkeep_c, largs_z, largs_c, cat_i, cat_l, cat_r, lkp_c, cnd_eq, cnd_ne, cnd_lt, cnd_ge, cnd_gt, cnd_le, swL_z, swL_c, rE_e, rOr_s, rOr_n, rlk_z, rlk_c, aR_c, aI_c, aII_c, aIII_c, aRI_c, aRII_c, aRIII_c, vJn, vJs, vlc, aRR_c, aRRI_c, aRRII_c, aRRIII_c, aRIIII_c, aRL_c, aRLL_c, aLL_c, aRRRI_c, aIL_c, aIIII_c, aRRIIII_c, aIRII_c, aIR_c, aLI_c, aRIR_c, aRIIR_c, oM, hM.1, hM.1.f0, hM.1.t176, hM.1.l176, mpTell, up_ap, x49']
          simp at K
          exact K
      | succ q ih =>
        intro k σ' V hkq hJ hw
        have hkn : k < n := by omega
        have pk := psn_m (T := T) (k := k) n hkn
        have pk2 := psn_2 (T := T) k
        obtain ⟨j1, j2, j3, j4, j5, j6⟩ := hJ
        have w4 : w32 (4 * (k : Int)) = ((4 * k : Nat) : Int) := by rw [w32_id (by omega) (by omega)]; omega
        have e2 := w32_succ (k := k) (by omega)
        have hkn' : ¬ (n : Int) ≤ k := by omega
        have hMd : MdOk t σ' := ⟨hM.1, by rw [j1.n, j1.2 1 (by omega) (by unfold scrF; omega)]; exact hM.2.1, by rw [j1.n]; exact hM.2.2⟩
        have t2 : σ' 175 2 = σ 175 2 := j1.2 2 (by omega) (by unfold scrF; omega)
        have hk' : MK t σ' := ⟨hMd, by rw [j1.n, j1.m, j3]; exact j6⟩
        have hw2 : wlF F (nM σ) (mM σ) (σ 175 2) T len (len - k) (psn T k) k V = if (actV F (nM σ) (mM σ) (σ 175 2) T (psn T k) V).1 then wlF F (nM σ) (mM σ) (σ 175 2) T len (len - (k + 1)) (psn T (k + 1)) (k + 1) (actV F (nM σ) (mM σ) (σ 175 2) T (psn T k) V).2 else (k, true, (actV F (nM σ) (mM σ) (σ 175 2) T (psn T k) V).2) := by
          rw [show len - k = (len - (k + 1)) + 1 by omega]
          show (if psn T k < len then _ else _) = _
          rw [if_pos (by omega)]
          rfl
        rw [hw2] at hw
        have wA := wf_act (F := F) (T := T) (p := psn T k) j6 hT
        have hcn : ¬ n ≤ k := by omega
        refine wa (by decide) rgWm_ok ts_220 30 (fun N hN => ?_)
        simp [bs_220, hN _, x_iconst, x_ldc2_w, x_aconst_null, x_iload, x_lload, x_aload, x_istore, x_lstore, x_astore, x_iinc, x_iadd, x_isub, x_imul, x_idiv, x_irem, x_iand, x_ior, x_ixor, x_ishl, x_ishr, x_iushr, x_ineg, x_ladd, x_lsub, x_lmul, x_ldiv, x_lrem, x_lcmp, x_i2l, x_i2b, x_i2s, x_i2c, x_dup, x_pop, x_dup_x1, x_dup2, x_getfield, x_putfield, x_iaload, x_baload, x_saload, x_caload, x_daload, x_faload, x_laload, x_aaload, x_iastore, x_bastore, x_sastore, x_castore, x_lastore, x_aastore, x_arraylength, x_getstatic, x_goto, x_goto_w, x_ifCond, x_if_icmp, x_ifnull, x_ifnonnull, x_lookupswitch, x_invokevirtual, x_invokestatic, x_invokedynamic, x_ireturn, x_freturn, x_dreturn, x_lreturn, x_areturn, x_return_, pI_c, pL_c, pR_c, pV_i, pV_r, gI_c, gL_c, gR_c, pN_z, pN_s, lget_c, lins_z, lins_c, ldel_z, ldel_c, ldel2_z, ldel2_c, lset_i, lset_l, lset_r, lkeep_z, lkeep_c, largs_z, largs_c, cat_i, cat_l, cat_r, lkp_c, cnd_eq, cnd_ne, cnd_lt, cnd_ge, cnd_gt, cnd_le, swL_z, swL_c, rE_e, rOr_s, rOr_n, rlk_z, rlk_c, aR_c, aI_c, aII_c, aIII_c, aRI_c, aRII_c, aRIII_c, vJn, vJs, vlc, aRR_c, aRRI_c, aRRII_c, aRRIII_c, aRIIII_c, aRL_c, aRLL_c, aLL_c, aRRRI_c, aIL_c, aIIII_c, aRRIIII_c, aIRII_c, aIR_c, aLI_c, aRIR_c, aRIIR_c, oM, hkn', hcn, w4]
        refine fun _ => ⟨rfl, F, T, psn T k, k, by omega, by omega, hR.cg j1.rs, hk', by rw [t2]; exact hT, (hc k hkn).1, j5 k hkn, fun σ3 G => ?_⟩
        rw [j1.n, j1.m, t2, j3] at G ⊢
        have J3 : J σ3 (actV F (nM σ) (mM σ) (σ 175 2) T (psn T k) V).2 := by
          refine ⟨⟨fun o a b c => ?_, fun j a b => ?_⟩, ⟨?_, ?_⟩, G.2, ?_, fun i hi => ?_, wA⟩
          · rw [G.1.1 o a (fun z => b (by rw [z]; unfold scrM; omega)) c]; exact j1.1 o a b c
          · rw [G.1.2 j (fun z => b (by unfold scrF; omega)) (fun z => b (by unfold scrF; omega))]; exact j1.2 j a b
          · rw [G.1.2 5 (by omega) (by omega)]; exact j2.1
          · rw [G.1.2 8 (by omega) (by omega)]; exact j2.2
          · unfold vA; rw [G.1.1 185 (by omega) (by omega) (by omega)]; exact j4
          · obtain ⟨q0, q1, q2, q3, q4⟩ := j5 i hi
            have e187 : σ3 187 = σ' 187 := G.1.1 187 (by omega) (by omega) (by omega)
            exact ⟨by rw [e187]; exact q0, by rw [e187]; exact q1, fun z => by rw [e187]; exact q2 z, fun z => by rw [e187]; exact q3 z, fun z => by rw [e187]; exact q4 z⟩
        generalize actV F (nM σ) (mM σ) (σ 175 2) T (psn T k) V = BV at J3 hw
        obtain ⟨bb, W⟩ := BV
        simp only at J3 hw ⊢
        cases bb with
        | true =>
          have K := ih (k + 1) σ3 W (by omega) J3 (by simpa using hw)
          simp [sg_220_72_1, bs_220, hN _, x_iconst, x_ldc2_w, x_aconst_null, x_iload, x_lload, x_aload, x_istore, x_lstore, x_astore, x_iinc, x_iadd, x_isub, x_imul, x_idiv, x_irem, x_iand, x_ior, x_ixor, x_ishl, x_ishr, x_iushr, x_ineg, x_ladd, x_lsub, x_lmul, x_ldiv, x_lrem, x_lcmp, x_i2l, x_i2b, x_i2s, x_i2c, x_dup, x_pop, x_dup_x1, x_dup2, x_getfield, x_putfield, x_iaload, x_baload, x_saload, x_caload, x_daload, x_faload, x_laload, x_aaload, x_iastore, x_bastore, x_sastore, x_castore, x_lastore, x_aastore, x_arraylength, x_getstatic, x_goto, x_goto_w, x_ifCond, x_if_icmp, x_ifnull, x_ifnonnull, x_lookupswitch, x_invokevirtual, x_invokestatic, x_invokedynamic, x_ireturn, x_freturn, x_dreturn, x_lreturn, x_areturn, x_return_, pI_c, pL_c, pR_c, pV_i, pV_r, gI_c, gL_c, gR_c, pN_z, pN_s, lget_c, lins_z, lins_c, ldel_z, ldel_c, ldel2_z, ldel2_c, lset_i, lset_l, lset_r, lkeep_z, lkeep_c, largs_z, largs_c, cat_i, cat_l, cat_r, lkp_c, cnd_eq, cnd_ne, cnd_lt, cnd_ge, cnd_gt, cnd_le, swL_z, swL_c, rE_e, rOr_s, rOr_n, rlk_z, rlk_c, aR_c, aI_c, aII_c, aIII_c, aRI_c, aRII_c, aRIII_c, vJn, vJs, vlc, aRR_c, aRRI_c, aRRII_c, aRRIII_c, aRIIII_c, aRL_c, aRLL_c, aLL_c, aRRRI_c, aIL_c, aIIII_c, aRRIIII_c, aIRII_c, aIR_c, aLI_c, aRIR_c, aRIIR_c, e2]
          exact K
        | false =>
          obtain ⟨E0, E1⟩ := ex σ3 W k true J3 (by simpa using hw)
          obtain ⟨k1, k2, k3, k4, k5, k6⟩ := J3
          have x49 : σ3 176 49 = W 49 := by rw [vA_at (σ := σ3) (r := 176) (by omega) (by omega), k3]
          have hp' : MpIs σ3 p U := hp.cg (k1.2 21 (by omega) (by unfold scrF; omega)) (k1.1 184 (by omega) (by unfold scrM; omega) (by omega))
          by_cases hz : k = 0
          · have K := E0 hz
            subst hz
            have n0' : (0 : Int) < n := by omega
            have n0n : 0 < n := by omega
            have n00 : ¬ n = 0 := by omega
            simp [sg_220_72_1, bs_220, hN _, x_iconst, x_ldc2_w, x_aconst_null, x_iload, x_lload, x_aload, x_istore, x_lstore, x_astore, x_iinc, x_iadd, x_isub, x_imul, x_idiv, x_irem, x_iand, x_ior, x_ixor, x_ishl, x_ishr, x_iushr, x_ineg, x_ladd, x_lsub, x_lmul, x_ldiv, x_lrem, x_lcmp, x_i2l, x_i2b, x_i2s, x_i2c, x_dup, x_pop, x_dup_x1, x_dup2, x_getfield, x_putfield, x_iaload, x_baload, x_saload, x_caload, x_daload, x_faload, x_laload, x_aaload, x_iastore, x_bastore, x_sastore, x_castore, x_lastore, x_aastore, x_arraylength, x_getstatic, x_goto, x_goto_w, x_ifCond, x_if_icmp, x_ifnull, x_ifnonnull, x_lookupswitch, x_invokevirtual, x_invokestatic, x_invokedynamic, x_ireturn, x_freturn, x_dreturn, x_lreturn, x_areturn, x_return_, pI_c, pL_c, pR_c, pV_i, pV_r, gI_c, gL_c, gR_c, pN_z, pN_s, lget_c, lins_z, lins_c, ldel_z, ldel_c, ldel2_z, ldel2_c, lset_i, lset_l, lset_r, lkeep_z, lkeep_c, largs_z, largs_c, cat_i, cat_l, cat_r, lkp_c, cnd_eq, cnd_ne, cnd_lt, cnd_ge, cnd_gt, cnd_le, swL_z, swL_c, rE_e, rOr_s, rOr_n, rlk_z, rlk_c, aR_c, aI_c, aII_c, aIII_c, aRI_c, aRII_c, aRIII_c, vJn, vJs, vlc, aRR_c, aRRI_c, aRRII_c, aRRIII_c, aRIIII_c, aRL_c, aRLL_c, aLL_c, aRRRI_c, aIL_c, aIIII_c, aRRIIII_c, aIRII_c, aIR_c, aLI_c, aRIR_c, aRIIR_c, oM, hM.1, mpTell, up_ap, n0n, n00]
            simp [sg_220_0_1, sg_220_13_1, sg_220_44_1, sg_220_58_1, sg_220_72_1, sg_220_93_1, sg_220_120_2, sg_220_120_1, sg_220_121_2, sg_220_121_1, bs_220, hN _, x_iconst, x_ldc2_w, x_aconst_null, x_iload, x_lload, x_aload, x_istore, x_lstore, x_astore, x_iinc, x_iadd, x_isub, x_imul, x_idiv, x_irem, x_iand, x_ior, x_ixor, x_ishl, x_ishr, x_iushr, x_ineg, x_ladd, x_lsub, x_lmul, x_ldiv, x_lrem, x_lcmp, x_i2l, x_i2b, x_i2s, x_i2c, x_dup, x_pop, x_dup_x1, x_dup2, x_getfield, x_putfield, x_iaload, x_baload, x_saload, x_caload, x_daload, x_faload, x_laload, x_aaload, x_iastore, x_bastore, x_sastore, x_castore, x_lastore, x_aastore, x_arraylength, x_getstatic, x_goto, x_goto_w, x_ifCond, x_if_icmp, x_ifnull, x_ifnonnull, x_lookupswitch, x_invokevirtual, x_invokestatic, x_invokedynamic, x_ireturn, x_freturn, x_dreturn, x_lreturn, x_areturn, x_return_, pI_c, pL_c, pR_c, pV_i, pV_r, gI_c, gL_c, gR_c, pN_z, pN_s, lget_c, lins_z, lins_c, ldel_z, ldel_c, ldel2_z, ldel2_c, lset_i, lset_l, lset_r, lkeep_z, lkeep_c, largs_z, largs_c, cat_i, cat_l, cat_r, lkp_c, cnd_eq, cnd_ne, cnd_lt, cnd_ge, cnd_gt, cnd_le, swL_z, swL_c, rE_e, rOr_s, rOr_n, rlk_z, rlk_c, aR_c, aI_c, aII_c, aIII_c, aRI_c, aRII_c, aRIII_c, vJn, vJs, vlc, aRR_c, aRRI_c, aRRII_c, aRRIII_c, aRIIII_c, aRL_c, aRLL_c, aLL_c, aRRRI_c, aIL_c, aIIII_c, aRRIIII_c, aIRII_c, aIR_c, aLI_c, aRIR_c, aRIIR_c, oM, hM.1, hM.1.f0, hM.1.t176, hM.1.l176, mpTell, up_ap, x49]
            simp at K
            exact K
          · have hz' : ¬ (k : Int) ≤ 0 := by omega
            have hk0 : 0 < k := by omega
            simp [sg_220_72_1, bs_220, hN _, x_iconst, x_ldc2_w, x_aconst_null, x_iload, x_lload, x_aload, x_istore, x_lstore, x_astore, x_iinc, x_iadd, x_isub, x_imul, x_idiv, x_irem, x_iand, x_ior, x_ixor, x_ishl, x_ishr, x_iushr, x_ineg, x_ladd, x_lsub, x_lmul, x_ldiv, x_lrem, x_lcmp, x_i2l, x_i2b, x_i2s, x_i2c, x_dup, x_pop, x_dup_x1, x_dup2, x_getfield, x_putfield, x_iaload, x_baload, x_saload, x_caload, x_daload, x_faload, x_laload, x_aaload, x_iastore, x_bastore, x_sastore, x_castore, x_lastore, x_aastore, x_arraylength, x_getstatic, x_goto, x_goto_w, x_ifCond, x_if_icmp, x_ifnull, x_ifnonnull, x_lookupswitch, x_invokevirtual, x_invokestatic, x_invokedynamic, x_ireturn, x_freturn, x_dreturn, x_lreturn, x_areturn, x_return_, pI_c, pL_c, pR_c, pV_i, pV_r, gI_c, gL_c, gR_c, pN_z, pN_s, lget_c, lins_z, lins_c, ldel_z, ldel_c, ldel2_z, ldel2_c, lset_i, lset_l, lset_r, lkeep_z, lkeep_c, largs_z, largs_c, cat_i, cat_l, cat_r, lkp_c, cnd_eq, cnd_ne, cnd_lt, cnd_ge, cnd_gt, cnd_le, swL_z, swL_c, rE_e, rOr_s, rOr_n, rlk_z, rlk_c, aR_c, aI_c, aII_c, aIII_c, aRI_c, aRII_c, aRIII_c, vJn, vJs, vlc, aRR_c, aRRI_c, aRRII_c, aRRIII_c, aRIIII_c, aRL_c, aRLL_c, aLL_c, aRRRI_c, aIL_c, aIIII_c, aRRIIII_c, aIRII_c, aIR_c, aLI_c, aRIR_c, aRIIR_c, oM, hM.1, hM.1.f22, hz, hz', hk0]
            refine ⟨rfl, hM.1, RowT.asd hM.1, by omega, p, U, hp', fun σ4 z1 z2 z3 => ?_⟩
            rw [k4] at z3
            have K := E1 σ4 z1 z2 z3 hk0
            have x49' : σ4 176 49 = W 49 := by rw [z1 176 (by omega) (by omega)]; exact x49
            have hkn'' : (k : Int) < n := by omega
            simp [sg_220_93_1, bs_220, hN _, x_iconst, x_ldc2_w, x_aconst_null, x_iload, x_lload, x_aload, x_istore, x_lstore, x_astore, x_iinc, x_iadd, x_isub, x_imul, x_idiv, x_irem, x_iand, x_ior, x_ixor, x_ishl, x_ishr, x_iushr, x_ineg, x_ladd, x_lsub, x_lmul, x_ldiv, x_lrem, x_lcmp, x_i2l, x_i2b, x_i2s, x_i2c, x_dup, x_pop, x_dup_x1, x_dup2, x_getfield, x_putfield, x_iaload, x_baload, x_saload, x_caload, x_daload, x_faload, x_laload, x_aaload, x_iastore, x_bastore, x_sastore, x_castore, x_lastore, x_aastore, x_arraylength, x_getstatic, x_goto, x_goto_w, x_ifCond, x_if_icmp, x_ifnull, x_ifnonnull, x_lookupswitch, x_invokevirtual, x_invokestatic, x_invokedynamic, x_ireturn, x_freturn, x_dreturn, x_lreturn, x_areturn, x_return_, pI_c, pL_c, pR_c, pV_i, pV_r, gI_c, gL_c, gR_c, pN_z, pN_s, lget_c, lins_z, lins_c, ldel_z, ldel_c, ldel2_z, ldel2_c, lset_i, lset_l, lset_r, lkeep_z, lkeep_c, largs_z, largs_c, cat_i, cat_l, cat_r, lkp_c, cnd_eq, cnd_ne, cnd_lt, cnd_ge, cnd_gt, cnd_le, swL_z, swL_c, rE_e, rOr_s, rOr_n, rlk_z, rlk_c, aR_c, aI_c, aII_c, aIII_c, aRI_c, aRII_c, aRIII_c, vJn, vJs, vlc, aRR_c, aRRI_c, aRRII_c, aRRIII_c, aRIIII_c, aRL_c, aRLL_c, aLL_c, aRRRI_c, aIL_c, aIIII_c, aRRIIII_c, aIRII_c, aIR_c, aLI_c, aRIR_c, aRIIR_c, oM, hM.1, mpTell, up_ap, hkn, hcn]
            simp [sg_220_0_1, sg_220_13_1, sg_220_44_1, sg_220_58_1, sg_220_72_1, sg_220_93_1, sg_220_120_2, sg_220_120_1, sg_220_121_2, sg_220_121_1, bs_220, hN _, x_iconst, x_ldc2_w, x_aconst_null, x_iload, x_lload, x_aload, x_istore, x_lstore, x_astore, x_iinc, x_iadd, x_isub, x_imul, x_idiv, x_irem, x_iand, x_ior, x_ixor, x_ishl, x_ishr, x_iushr, x_ineg, x_ladd, x_lsub, x_lmul, x_ldiv, x_lrem, x_lcmp, x_i2l, x_i2b, x_i2s, x_i2c, x_dup, x_pop, x_dup_x1, x_dup2, x_getfield, x_putfield, x_iaload, x_baload, x_saload, x_caload, x_daload, x_faload, x_laload, x_aaload, x_iastore, x_bastore, x_sastore, x_castore, x_lastore, x_aastore, x_arraylength, x_getstatic, x_goto, x_goto_w, x_ifCond, x_if_icmp, x_ifnull, x_ifnonnull, x_lookupswitch, x_invokevirtual, x_invokestatic, x_invokedynamic, x_ireturn, x_freturn, x_dreturn, x_lreturn, x_areturn, x_return_, pI_c, pL_c, pR_c, pV_i, pV_r, gI_c, gL_c, gR_c, pN_z, pN_s, lget_c, lins_z, lins_c, ldel_z, ldel_c, ldel2_z, ldel2_c, lset_i, lset_l, lset_r, lkeep_z, lkeep_c, largs_z, largs_c, cat_i, cat_l, cat_r, lkp_c, cnd_eq, cnd_ne, cnd_lt, cnd_ge, cnd_gt, cnd_le, swL_z, swL_c, rE_e, rOr_s, rOr_n, rlk_z, rlk_c, aR_c, aI_c, aII_c, aIII_c, aRI_c, aRII_c, aRIII_c, vJn, vJs, vlc, aRR_c, aRRI_c, aRRII_c, aRRIII_c, aRIIII_c, aRL_c, aRLL_c, aLL_c, aRRRI_c, aIL_c, aIIII_c, aRRIIII_c, aIRII_c, aIR_c, aLI_c, aRIR_c, aRIIR_c, oM, hM.1, hM.1.f0, hM.1.t176, hM.1.l176, mpTell, up_ap, x49']
            simp at K
            exact K
    exact L n 0 σ2 V0 (by omega) ⟨⟨fun o a b c => s185 o a (fun z => b (by rw [z]; unfold scrM; omega)) (fun z => b (by rw [z]; unfold scrM; omega)), fun j a b => s175 j a (fun z => b (by rw [z]; unfold scrF; omega)) (fun z => b (by unfold scrF; omega))⟩, ⟨s5, s8⟩, by rw [← v0]; unfold vA; rw [y1 176 (by omega)], by rw [y2, v0], fun k hk => by
      obtain ⟨q0, q1, q2, q3, q4⟩ := (hc k hk).2
      have e187 : σ2 187 = σ' 187 := y1 187 (by omega)
      exact ⟨by rw [e187]; exact q0, by rw [e187]; exact q1, fun z => by rw [e187]; exact q2 z, fun z => by rw [e187]; exact q3 z, fun z => by rw [e187]; exact q4 z⟩, hW⟩ rfl
