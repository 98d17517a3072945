/-! the reference: a rule as a whole -/
theorem th_all {l : Launch} {g : GE} : ∀ (q d dp : Nat), dp ≤ 4 → ∀ as t σ Q, leQ (mpTh dp) q as t σ Q → WPc l g 194 (d + 5 + 4 * (4 - dp) + q) 0 0 as t σ Q
  | 0, d, dp, hd, as, t, σ, Q, ⟨q', hq, h⟩ => by
    obtain rfl : q' = 0 := by omega
    have := m_thing (l := l) (g := g) (d := d + 4 * (4 - dp)) hd (fun z => by omega) (fun z => by omega) h
    rwa [show d + 4 * (4 - dp) + 5 = d + 5 + 4 * (4 - dp) + 0 by omega] at this
  | q + 1, d, dp, hd, as, t, σ, Q, ⟨q', hq, h⟩ => by
    have ih := th_all (l := l) (g := g) q
    by_cases hz : q' ≤ q
    · have := ih (d + 1) dp hd as t σ Q ⟨q', hz, h⟩
      rwa [show d + 1 + 5 + 4 * (4 - dp) + q = d + 5 + 4 * (4 - dp) + (q + 1) by omega] at this
    · obtain rfl : q' = q + 1 := by omega
      have hT : ∀ as t σ Q, leQ (mpTh dp) (q + 1 - 1) as t σ Q → WPc l g 194 (d + 1 + 4 * (4 - dp) + q + 4) 0 0 as t σ Q := fun as t σ Q h => by
        have := ih d dp hd as t σ Q h
        rwa [show d + 5 + 4 * (4 - dp) + q = d + 1 + 4 * (4 - dp) + q + 4 by omega] at this
      have hH : dp < 4 → ∀ as t σ Q, leQ (mpHe (dp + 1)) (q + 1 - 1) as t σ Q → WPc l g 190 (d + 1 + 4 * (4 - dp) + q + 4) 0 0 as t σ Q := fun h4 as t σ Q ⟨q2, hq2, h⟩ => by
        have t1 : ∀ as t σ Q, leQ (mpTh (dp + 1)) q2 as t σ Q → WPc l g 194 ((d + 1 + 4 * (4 - dp) + q) + 1) 0 0 as t σ Q := fun as t σ Q ⟨q3, hq3, h⟩ => by
          have := ih (d + 1) (dp + 1) (by omega) as t σ Q ⟨q3, by omega, h⟩
          rwa [show d + 1 + 5 + 4 * (4 - (dp + 1)) + q = (d + 1 + 4 * (4 - dp) + q) + 1 by omega] at this
        exact m_held (fun as t σ Q ⟨q3, hq3, h⟩ => m_sum (fun as t σ Q ⟨q4, hq4, h⟩ => m_product (fun as t σ Q ⟨q5, hq5, h⟩ => t1 as t σ Q ⟨q5, by omega, h⟩) h) h) h
      have := m_thing (l := l) (g := g) (d := d + 1 + 4 * (4 - dp) + q) hd (fun _ => hT) (fun _ => hH) h
      rwa [show d + 1 + 4 * (4 - dp) + q + 5 = d + 5 + 4 * (4 - dp) + (q + 1) by omega] at this
/-- held, of at most 40 signs -/
def mpHeA : Sp := fun as t σ Q => ∃ q, q ≤ 40 ∧ mpHe 0 q as t σ Q
theorem m_heldA {l : Launch} {g : GE} {d : Nat} {t : Tau} {σ : Mem} {Q : Post} {as : List TV} (h0 : mpHeA as t σ Q) : WPc l g 190 (d + 64) 0 0 as t σ Q := by
  obtain ⟨q, hq, h⟩ := h0
  have t1 : ∀ as t σ Q, leQ (mpTh 0) q as t σ Q → WPc l g 194 ((d + 60) + 1) 0 0 as t σ Q := fun as t σ Q ⟨q3, hq3, h⟩ => by
    have := th_all (l := l) (g := g) 40 d 0 (by omega) as t σ Q ⟨q3, by omega, h⟩
    rwa [show d + 5 + 4 * (4 - 0) + 40 = (d + 60) + 1 by omega] at this
  exact m_held (d := d + 60) (fun as t σ Q ⟨q3, hq3, h⟩ => m_sum (fun as t σ Q ⟨q4, hq4, h⟩ => m_product (fun as t σ Q ⟨q5, hq5, h⟩ => t1 as t σ Q ⟨q5, by omega, h⟩) h) h) h
/-! readRule -/
theorem hrS_of {σ : Mem} {x : Nat → Int} {n : Nat} (hl : σ 175 10 = n) (ht : σ 175 11 = 40) (hx : ∀ p : Nat, p < n → iand (σ (σ 175 9) p) 255 = x p) : ∀ p : Nat, p ≤ min n 40 → hrS σ p = if p < min n 40 then x p else -1 := by
  intro p hp
  unfold hrS
  rw [hl, ht]
  by_cases hz : p < min n 40
  · rw [if_pos hz, if_pos ⟨by omega, by omega⟩]; exact hx p (by omega)
  · rw [if_neg hz, if_neg (by omega)]
/-- a text is right as a rule: what it is; or where it is not -/
def gdR (X : Nat → Int) (n : Nat) : Rs := rn X (min n 40) (min n 40) (oP [] lv0)
def gdA (X : Nat → Int) (n : Nat) : Int := if n = 0 then -1 else rdA (gdR X n) n
/-- what reading a rule leaves -/
def RrF (σ σ' : Mem) : Prop := (∀ o, o ≠ 175 → σ' o = σ o) ∧ (∀ j, j ≠ 5 → ¬ (9 ≤ j ∧ j ≤ 13) → j ≠ 18 → σ' 175 j = σ 175 j) ∧ σ' 175 5 = 0
def mpRrl : Sp := fun as t σ Q => aR as fun a => a = 175 ∧ TM t ∧ (∀ k, -128 ≤ σ 178 k ∧ σ 178 k ≤ 127) ∧ ∃ n : Nat, σ 175 5 = n ∧ n ≤ 80 ∧ ∀ σ', RrF σ σ' → σ' 175 13 = gdA (fun p => iand (σ 178 p) 255) n → Q (some (vI (if gdA (fun p => iand (σ 178 p) 255) n = -1 then 1 else 0))) t σ'
abbrev rgRr : Reg := (190, mpHeA) :: (180, mpBeT) :: (188, mpWas) :: rgPb
theorem rgRr_ok {l : Launch} {g : GE} {d : Nat} : ∀ e as t σ Q, rE l g (d + 64) rgRr e as t σ Q → WPc l g e (d + 64) 0 0 as t σ Q := rE_cons (fun _ _ _ _ h => m_heldA h) (rE_cons (fun _ _ _ _ h => m_beginText (d := d + 62) h) (rE_cons (fun _ _ _ _ h => m_wasRight (d := d + 61) h) (rgPb_ok (d := d + 62))))
def finR (N : Nat) (R : RT) : Rs := match R with
  | .inl w => bD w
  | .inr (e, q') => if q' = 0 then oK e else bD (N - q')
theorem he_fin {x : Nat → Int} {N : Nat} {R : RT} (h : HeOk x N 0 N R) : rn x N N (oP [] lv0) = finR N R := by
  rw [h.2 [] rfl]
  cases R <;> rfl
theorem m_readRule {l : Launch} {g : GE} {d : Nat} {t : Tau} {σ : Mem} {Q : Post} {as : List TV} (h0 : mpRrl as t σ Q) : WPc l g 195 (d + 65) 0 0 as t σ Q := by
  obtain ⟨a, rfl, rfl, hM, hb, n, h5, n80, h⟩ := aR_e h0
  clear h0
  have oM := hM.o
  generalize hX : (fun p : Nat => iand (σ 178 p) 255) = X at h
  generalize hσ1 : up (up (up (up (up (up (up σ 175 9 178) 175 10 n) 175 11 40) 175 12 0) 175 13 (-1)) 175 5 0) 175 18 0 = σ1
  have g9 : σ1 175 9 = 178 := by rw [← hσ1]; simp [up_ap]
  have g10 : σ1 175 10 = n := by rw [← hσ1]; simp [up_ap]
  have g11 : σ1 175 11 = 40 := by rw [← hσ1]; simp [up_ap]
  have g12 : σ1 175 12 = 0 := by rw [← hσ1]; simp [up_ap]
  have g13 : σ1 175 13 = -1 := by rw [← hσ1]; simp [up_ap]
  have g5 : σ1 175 5 = 0 := by rw [← hσ1]; simp [up_ap]
  have g18 : σ1 175 18 = 0 := by rw [← hσ1]; simp [up_ap]
  have gj : ∀ j, j ≠ 5 → ¬ (9 ≤ j ∧ j ≤ 13) → j ≠ 18 → σ1 175 j = σ 175 j := fun j a b c => by
    rw [← hσ1]
    simp only [up_ap]
    rw [if_neg (by omega), if_neg (by omega), if_neg (by omega), if_neg (by omega), if_neg (by omega), if_neg (by omega), if_neg (by omega)]
  have go : ∀ o, o ≠ 175 → σ1 o = σ o := fun o a => by
    rw [← hσ1, up_ne a, up_ne a, up_ne a, up_ne a, up_ne a, up_ne a, up_ne a]
  have F1 : RrF σ σ1 := ⟨go, gj, g5⟩
  have hPs : ∀ σ', (∀ j, j ≠ 12 → j ≠ 13 → σ' 175 j = σ1 175 j) → (0 ≤ σ' 175 12 ∧ σ' 175 12 ≤ (n : Int)) → PsOk t σ' := fun σ' hj ha => by
    refine ⟨hM, by rw [hj 10 (by omega) (by omega), g10]; exact ha, by rw [hj 9 (by omega) (by omega), g9]; exact hM.t178, ?_⟩
    rw [hj 9 (by omega) (by omega), hj 10 (by omega) (by omega), g9, g10, hM.l178]
    omega
  refine wg (by decide) rgRr_ok ts_195 py_195 ml_195 30 (by simp [catT]) (fun N hN => ?_)
  by_cases hz : n = 0
  · have e0 : gdA X n = -1 := by unfold gdA; rw [if_pos hz]
    rw [e0] at h
    have K := h σ1 F1 g13
    have n0 : ¬ (0 : Int) < n := by omega
    have hP := hPs σ1 (fun _ _ _ => rfl) (by rw [g12]; omega)
    have hwr : wrM σ1 = σ1 := by unfold wrM; rw [if_neg (by rw [g12, g10]; omega)]
    have hz' : (n : Int) = 0 := by omega
    simp [bs_195, sg_195_0_1, hN _, x_iconst, x_ldc2_w, x_aconst_null, x_iload, x_lload, x_aload, x_istore, x_lstore, x_astore, x_iinc, x_iadd, x_isub, x_imul, x_idiv, x_irem, x_iand, x_ior, x_ixor, x_ishl, x_ishr, x_iushr, x_ineg, x_ladd, x_lsub, x_lmul, x_ldiv, x_lrem, x_lcmp, x_i2l, x_i2b, x_i2s, x_i2c, x_dup, x_pop, x_dup_x1, x_dup2, x_getfield, x_putfield, x_iaload, x_baload, x_saload, x_caload, x_daload, x_faload, x_laload, x_aaload, x_iastore, x_bastore, x_sastore, x_castore, x_lastore, x_aastore, x_arraylength, x_getstatic, x_goto, x_goto_w, x_ifCond, x_if_icmp, x_ifnull, x_ifnonnull, x_lookupswitch, x_invokevirtual, x_invokestatic, x_invokedynamic, x_ireturn, x_freturn, x_dreturn, x_lreturn, x_areturn, x_return_, pI_c, pL_c, pR_c, pV_i, pV_r, gI_c, gL_c, gR_c, pN_z, pN_s, lget_c, lins_z, lins_c, ldel_z, ldel_c, ldel2_z, ldel2_c, lset_i, lset_l, lset_r, lkeep_z, lkeep_c, largs_z, largs_c, cat_i, cat_l, cat_r, lkp_c, cnd_eq, cnd_ne, cnd_lt, cnd_ge, cnd_gt, cnd_le, swL_z, swL_c, rE_e, rOr_s, rOr_n, rlk_z, rlk_c, aR_c, aI_c, aII_c, aIII_c, aRI_c, aRII_c, aRIII_c, vJn, vJs, vlc, aRR_c, aRRI_c, aRRII_c, aRRIII_c, aRIIII_c, aRL_c, aRLL_c, aLL_c, aRRRI_c, aIL_c, aIIII_c, aRRIIII_c, aIRII_c, aIR_c, aLI_c, aRIR_c, aRIIR_c, oM, hM, mpBeT, h5, hσ1, g10]
    refine ⟨fun _ => ⟨rfl, hP, ?_⟩, fun z => by exfalso; omega⟩
    rw [hwr, g13]
    simp [sg_195_0_3, sg_195_0_2, sg_195_0_1, sg_195_24_1, hN _, x_iconst, x_ldc2_w, x_aconst_null, x_iload, x_lload, x_aload, x_istore, x_lstore, x_astore, x_iinc, x_iadd, x_isub, x_imul, x_idiv, x_irem, x_iand, x_ior, x_ixor, x_ishl, x_ishr, x_iushr, x_ineg, x_ladd, x_lsub, x_lmul, x_ldiv, x_lrem, x_lcmp, x_i2l, x_i2b, x_i2s, x_i2c, x_dup, x_pop, x_dup_x1, x_dup2, x_getfield, x_putfield, x_iaload, x_baload, x_saload, x_caload, x_daload, x_faload, x_laload, x_aaload, x_iastore, x_bastore, x_sastore, x_castore, x_lastore, x_aastore, x_arraylength, x_getstatic, x_goto, x_goto_w, x_ifCond, x_if_icmp, x_ifnull, x_ifnonnull, x_lookupswitch, x_invokevirtual, x_invokestatic, x_invokedynamic, x_ireturn, x_freturn, x_dreturn, x_lreturn, x_areturn, x_return_, pI_c, pL_c, pR_c, pV_i, pV_r, gI_c, gL_c, gR_c, pN_z, pN_s, lget_c, lins_z, lins_c, ldel_z, ldel_c, ldel2_z, ldel2_c, lset_i, lset_l, lset_r, lkeep_z, lkeep_c, largs_z, largs_c, cat_i, cat_l, cat_r, lkp_c, cnd_eq, cnd_ne, cnd_lt, cnd_ge, cnd_gt, cnd_le, swL_z, swL_c, rE_e, rOr_s, rOr_n, rlk_z, rlk_c, aR_c, aI_c, aII_c, aIII_c, aRI_c, aRII_c, aRIII_c, vJn, vJs, vlc, aRR_c, aRRI_c, aRRII_c, aRRIII_c, aRIIII_c, aRL_c, aRLL_c, aLL_c, aRRRI_c, aIL_c, aIIII_c, aRRIIII_c, aIRII_c, aIR_c, aLI_c, aRIR_c, aRIIR_c]
    simpa using K
  · have n0 : (0 : Int) < n := by omega
    have e0 : gdA X n = rdA (gdR X n) n := by unfold gdA; rw [if_neg hz]
    have hC : PaC t σ1 X (min n 40) (fun _ => 0) := by
      refine ⟨hM, by rw [g9]; exact hM.t178, by rw [g9, g10, hM.l178]; omega, ⟨by rw [g9]; omega, fun k => by rw [g9, go 178 (by omega)]; exact hb k⟩, by rw [g10]; omega, hrS_of g10 g11 (fun p hp => by rw [g9, go 178 (by omega), ← hX]), fun k _ _ => by rw [if_pos g18], Or.inl g18⟩
    have hA : PaA σ1 (min n 40) (min n 40) := ⟨by rw [g12]; omega, Nat.le_refl _⟩
    simp [bs_195, sg_195_0_1, hN _, x_iconst, x_ldc2_w, x_aconst_null, x_iload, x_lload, x_aload, x_istore, x_lstore, x_astore, x_iinc, x_iadd, x_isub, x_imul, x_idiv, x_irem, x_iand, x_ior, x_ixor, x_ishl, x_ishr, x_iushr, x_ineg, x_ladd, x_lsub, x_lmul, x_ldiv, x_lrem, x_lcmp, x_i2l, x_i2b, x_i2s, x_i2c, x_dup, x_pop, x_dup_x1, x_dup2, x_getfield, x_putfield, x_iaload, x_baload, x_saload, x_caload, x_daload, x_faload, x_laload, x_aaload, x_iastore, x_bastore, x_sastore, x_castore, x_lastore, x_aastore, x_arraylength, x_getstatic, x_goto, x_goto_w, x_ifCond, x_if_icmp, x_ifnull, x_ifnonnull, x_lookupswitch, x_invokevirtual, x_invokestatic, x_invokedynamic, x_ireturn, x_freturn, x_dreturn, x_lreturn, x_areturn, x_return_, pI_c, pL_c, pR_c, pV_i, pV_r, gI_c, gL_c, gR_c, pN_z, pN_s, lget_c, lins_z, lins_c, ldel_z, ldel_c, ldel2_z, ldel2_c, lset_i, lset_l, lset_r, lkeep_z, lkeep_c, largs_z, largs_c, cat_i, cat_l, cat_r, lkp_c, cnd_eq, cnd_ne, cnd_lt, cnd_ge, cnd_gt, cnd_le, swL_z, swL_c, rE_e, rOr_s, rOr_n, rlk_z, rlk_c, aR_c, aI_c, aII_c, aIII_c, aRI_c, aRII_c, aRIII_c, vJn, vJs, vlc, aRR_c, aRRI_c, aRRII_c, aRRIII_c, aRIIII_c, aRL_c, aRLL_c, aLL_c, aRRRI_c, aIL_c, aIIII_c, aRRIIII_c, aIRII_c, aIR_c, aLI_c, aRIR_c, aRIIR_c, oM, hM, mpBeT, h5, hσ1, g10, n0, Int.not_le.mpr n0]
    refine ⟨fun z => by exfalso; omega, fun _ => ⟨min n 40, by omega, rfl, rfl, X, min n 40, fun _ => 0, hC, hA, g13, fun σ3 R u f3 hR hP3 => ?_⟩⟩
    have hf := he_fin hR
    have F3 : ∀ y, RrF σ (up σ3 175 13 y) := fun y => ⟨fun o a => by rw [up_ne a, f3.1 o a]; exact go o a, fun j a b c => by rw [up_ap, if_neg (by omega), f3.2 j (by omega) (by omega)]; exact gj j a b c, by rw [up_ap, if_neg (by omega), f3.2 5 (by omega) (by omega)]; exact g5⟩
    have F3' : RrF σ σ3 := ⟨fun o a => by rw [f3.1 o a]; exact go o a, fun j a b c => by rw [f3.2 j (by omega) (by omega)]; exact gj j a b c, by rw [f3.2 5 (by omega) (by omega)]; exact g5⟩
    have g103 : σ3 175 10 = n := by rw [f3.2 10 (by omega) (by omega)]; exact g10
    simp [sg_195_0_2, hN _, x_iconst, x_ldc2_w, x_aconst_null, x_iload, x_lload, x_aload, x_istore, x_lstore, x_astore, x_iinc, x_iadd, x_isub, x_imul, x_idiv, x_irem, x_iand, x_ior, x_ixor, x_ishl, x_ishr, x_iushr, x_ineg, x_ladd, x_lsub, x_lmul, x_ldiv, x_lrem, x_lcmp, x_i2l, x_i2b, x_i2s, x_i2c, x_dup, x_pop, x_dup_x1, x_dup2, x_getfield, x_putfield, x_iaload, x_baload, x_saload, x_caload, x_daload, x_faload, x_laload, x_aaload, x_iastore, x_bastore, x_sastore, x_castore, x_lastore, x_aastore, x_arraylength, x_getstatic, x_goto, x_goto_w, x_ifCond, x_if_icmp, x_ifnull, x_ifnonnull, x_lookupswitch, x_invokevirtual, x_invokestatic, x_invokedynamic, x_ireturn, x_freturn, x_dreturn, x_lreturn, x_areturn, x_return_, pI_c, pL_c, pR_c, pV_i, pV_r, gI_c, gL_c, gR_c, pN_z, pN_s, lget_c, lins_z, lins_c, ldel_z, ldel_c, ldel2_z, ldel2_c, lset_i, lset_l, lset_r, lkeep_z, lkeep_c, largs_z, largs_c, cat_i, cat_l, cat_r, lkp_c, cnd_eq, cnd_ne, cnd_lt, cnd_ge, cnd_gt, cnd_le, swL_z, swL_c, rE_e, rOr_s, rOr_n, rlk_z, rlk_c, aR_c, aI_c, aII_c, aIII_c, aRI_c, aRII_c, aRIII_c, vJn, vJs, vlc, aRR_c, aRRI_c, aRRII_c, aRRIII_c, aRIIII_c, aRL_c, aRLL_c, aLL_c, aRRRI_c, aIL_c, aIIII_c, aRRIIII_c, aIRII_c, aIR_c, aLI_c, aRIR_c, aRIIR_c, oM]
    cases R with
    | inl w =>
      obtain ⟨r1, r2⟩ := hP3
      have hP := hPs σ3 f3.2 (by rw [g103] at r2; exact r2)
      have hwr : wrM σ3 = σ3 := by unfold wrM; rw [if_neg (fun z => by have := z.2; omega)]
      have e1 : gdA X n = w := by rw [e0]; unfold gdR; rw [hf]; rfl
      rw [e1] at h
      have K := h σ3 F3' r1
      refine ⟨rfl, hP, ?_⟩
      rw [hwr, r1]
      simp [sg_195_0_3, sg_195_0_2, sg_195_0_1, sg_195_24_1, hN _, x_iconst, x_ldc2_w, x_aconst_null, x_iload, x_lload, x_aload, x_istore, x_lstore, x_astore, x_iinc, x_iadd, x_isub, x_imul, x_idiv, x_irem, x_iand, x_ior, x_ixor, x_ishl, x_ishr, x_iushr, x_ineg, x_ladd, x_lsub, x_lmul, x_ldiv, x_lrem, x_lcmp, x_i2l, x_i2b, x_i2s, x_i2c, x_dup, x_pop, x_dup_x1, x_dup2, x_getfield, x_putfield, x_iaload, x_baload, x_saload, x_caload, x_daload, x_faload, x_laload, x_aaload, x_iastore, x_bastore, x_sastore, x_castore, x_lastore, x_aastore, x_arraylength, x_getstatic, x_goto, x_goto_w, x_ifCond, x_if_icmp, x_ifnull, x_ifnonnull, x_lookupswitch, x_invokevirtual, x_invokestatic, x_invokedynamic, x_ireturn, x_freturn, x_dreturn, x_lreturn, x_areturn, x_return_, pI_c, pL_c, pR_c, pV_i, pV_r, gI_c, gL_c, gR_c, pN_z, pN_s, lget_c, lins_z, lins_c, ldel_z, ldel_c, ldel2_z, ldel2_c, lset_i, lset_l, lset_r, lkeep_z, lkeep_c, largs_z, largs_c, cat_i, cat_l, cat_r, lkp_c, cnd_eq, cnd_ne, cnd_lt, cnd_ge, cnd_gt, cnd_le, swL_z, swL_c, rE_e, rOr_s, rOr_n, rlk_z, rlk_c, aR_c, aI_c, aII_c, aIII_c, aRI_c, aRII_c, aRIII_c, vJn, vJs, vlc, aRR_c, aRRI_c, aRRII_c, aRRIII_c, aRIIII_c, aRL_c, aRLL_c, aLL_c, aRRRI_c, aIL_c, aIIII_c, aRRIIII_c, aIRII_c, aIR_c, aLI_c, aRIR_c, aRIIR_c]
      have nw : ¬ (w : Int) = -1 := by omega
      simp [nw] at K ⊢
      exact K
    | inr p =>
      obtain ⟨e, q'⟩ := p
      obtain ⟨r1, ⟨r2, r3⟩, r4, r5⟩ := hP3
      have hP := hPs σ3 f3.2 (by rw [r2]; omega)
      have hf : rn X (min n 40) (min n 40) (oP [] lv0) = if q' = 0 then oK e else bD (min n 40 - q') := hf
      refine ⟨rfl, hP, ?_⟩
      by_cases c1 : σ3 175 12 < n
      · have hwr : wrM σ3 = up σ3 175 13 (σ3 175 12) := by unfold wrM; rw [if_pos ⟨by rw [g103]; exact c1, r1⟩]
        have e1 : gdA X n = σ3 175 12 := by
          rw [e0]; unfold gdR; rw [hf]
          by_cases hq : q' = 0
          · rw [if_pos hq]
            show (if 40 < n then (40 : Int) else -1) = _
            rw [if_pos (by omega), r2]; omega
          · rw [if_neg hq]
            show ((min n 40 - q' : Nat) : Int) = _
            omega
        have g12' : 0 ≤ σ3 175 12 := by rw [r2]; omega
        rw [e1] at h
        have K := h (up σ3 175 13 (σ3 175 12)) (F3 _) (by simp [up_ap])
        rw [hwr]
        have ne1 : ¬ σ3 175 12 = -1 := by omega
        simp [sg_195_0_3, sg_195_0_2, sg_195_0_1, sg_195_24_1, hN _, x_iconst, x_ldc2_w, x_aconst_null, x_iload, x_lload, x_aload, x_istore, x_lstore, x_astore, x_iinc, x_iadd, x_isub, x_imul, x_idiv, x_irem, x_iand, x_ior, x_ixor, x_ishl, x_ishr, x_iushr, x_ineg, x_ladd, x_lsub, x_lmul, x_ldiv, x_lrem, x_lcmp, x_i2l, x_i2b, x_i2s, x_i2c, x_dup, x_pop, x_dup_x1, x_dup2, x_getfield, x_putfield, x_iaload, x_baload, x_saload, x_caload, x_daload, x_faload, x_laload, x_aaload, x_iastore, x_bastore, x_sastore, x_castore, x_lastore, x_aastore, x_arraylength, x_getstatic, x_goto, x_goto_w, x_ifCond, x_if_icmp, x_ifnull, x_ifnonnull, x_lookupswitch, x_invokevirtual, x_invokestatic, x_invokedynamic, x_ireturn, x_freturn, x_dreturn, x_lreturn, x_areturn, x_return_, pI_c, pL_c, pR_c, pV_i, pV_r, gI_c, gL_c, gR_c, pN_z, pN_s, lget_c, lins_z, lins_c, ldel_z, ldel_c, ldel2_z, ldel2_c, lset_i, lset_l, lset_r, lkeep_z, lkeep_c, largs_z, largs_c, cat_i, cat_l, cat_r, lkp_c, cnd_eq, cnd_ne, cnd_lt, cnd_ge, cnd_gt, cnd_le, swL_z, swL_c, rE_e, rOr_s, rOr_n, rlk_z, rlk_c, aR_c, aI_c, aII_c, aIII_c, aRI_c, aRII_c, aRIII_c, vJn, vJs, vlc, aRR_c, aRRI_c, aRRII_c, aRRIII_c, aRIIII_c, aRL_c, aRLL_c, aLL_c, aRRRI_c, aIL_c, aIIII_c, aRRIIII_c, aIRII_c, aIR_c, aLI_c, aRIR_c, aRIIR_c, up_ap, ne1]
        rw [if_neg ne1] at K
        exact K
      · have hwr : wrM σ3 = σ3 := by unfold wrM; rw [if_neg (fun z => c1 (by have := z.1; omega))]
        have hq : q' = 0 := by omega
        have e1 : gdA X n = -1 := by
          rw [e0]; unfold gdR; rw [hf, if_pos hq]
          show (if 40 < n then (40 : Int) else -1) = _
          rw [if_neg (by omega)]
        rw [e1] at h
        have K := h σ3 F3' r1
        rw [hwr, r1]
        simp [sg_195_0_3, sg_195_0_2, sg_195_0_1, sg_195_24_1, hN _, x_iconst, x_ldc2_w, x_aconst_null, x_iload, x_lload, x_aload, x_istore, x_lstore, x_astore, x_iinc, x_iadd, x_isub, x_imul, x_idiv, x_irem, x_iand, x_ior, x_ixor, x_ishl, x_ishr, x_iushr, x_ineg, x_ladd, x_lsub, x_lmul, x_ldiv, x_lrem, x_lcmp, x_i2l, x_i2b, x_i2s, x_i2c, x_dup, x_pop, x_dup_x1, x_dup2, x_getfield, x_putfield, x_iaload, x_baload, x_saload, x_caload, x_daload, x_faload, x_laload, x_aaload, x_iastore, x_bastore, x_sastore, x_castore, x_lastore, x_aastore, x_arraylength, x_getstatic, x_goto, x_goto_w, x_ifCond, x_if_icmp, x_ifnull, x_ifnonnull, x_lookupswitch, x_invokevirtual, x_invokestatic, x_invokedynamic, x_ireturn, x_freturn, x_dreturn, x_lreturn, x_areturn, x_return_, pI_c, pL_c, pR_c, pV_i, pV_r, gI_c, gL_c, gR_c, pN_z, pN_s, lget_c, lins_z, lins_c, ldel_z, ldel_c, ldel2_z, ldel2_c, lset_i, lset_l, lset_r, lkeep_z, lkeep_c, largs_z, largs_c, cat_i, cat_l, cat_r, lkp_c, cnd_eq, cnd_ne, cnd_lt, cnd_ge, cnd_gt, cnd_le, swL_z, swL_c, rE_e, rOr_s, rOr_n, rlk_z, rlk_c, aR_c, aI_c, aII_c, aIII_c, aRI_c, aRII_c, aRIII_c, vJn, vJs, vlc, aRR_c, aRRI_c, aRRII_c, aRRIII_c, aRIIII_c, aRL_c, aRLL_c, aLL_c, aRRRI_c, aIL_c, aIIII_c, aRRIIII_c, aIRII_c, aIR_c, aLI_c, aRIR_c, aRIIR_c]
        simpa using K
