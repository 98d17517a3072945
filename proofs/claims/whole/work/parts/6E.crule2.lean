/-! StruckColours$Rule: a sign more -/
def RdS (σ : Mem) (r : Int) (s : Sr) : Prop := CW σ r (cdS s) (wtS s) ∧ ∃ b : Nat, b < 64 ∧ σ r 6 = b ∧ match s with
  | .inl (ls, l) => σ r 5 = ls.length ∧ cmB b (l :: ls) ∧ σ r 8 = 1
  | .inr (ls, l, _, k) => σ r 5 = ls.length ∧ cmB b (l :: ls) ∧ σ r 8 = 0 ∧ σ r 7 = k
def RsF (σ σ' : Mem) (r : Int) : Prop := ∀ o, o ≠ r → o ≠ r + 1 → o ≠ r + 2 → σ' o = σ o
theorem RsF.rf {σ : Mem} {r : Int} : RsF σ σ r := fun _ _ _ _ => rfl
theorem RsF.tr {σ σ' σ'' : Mem} {r : Int} (h : RsF σ σ' r) (h' : RsF σ' σ'' r) : RsF σ σ'' r := fun o a b c => (h' o a b c).trans (h o a b c)
theorem RsF.up {σ σ' : Mem} {r j x : Int} (h : RsF σ σ' r) : RsF σ (up σ' r j x) r := fun o a b c => by rw [up_ne a]; exact h o a b c
theorem RuF.s {σ σ' : Mem} {r : Int} (h : RuF σ σ' r) : RsF σ σ' r := h.1
theorem CW.up {σ : Mem} {r j x : Int} {C w : List Int} (h : CW σ r C w) (h3 : j ≠ 3) (h4 : j ≠ 4) : CW (up σ r j x) r C w := by
  obtain ⟨⟨a, b⟩, c, e⟩ := h
  exact ⟨⟨by rw [up_ap, if_neg (fun z => h3 z.2.symm)]; exact a, fun k hk => by rw [up_ne (by omega)]; exact b k hk⟩, by rw [up_ap, if_neg (fun z => h4 z.2.symm)]; exact c, fun k hk => by rw [up_ne (by omega)]; exact e k hk⟩
theorem wL_b {l : Lv} (h : WfL l) : ∀ x ∈ wL l, 0 ≤ x ∧ x < 256 := by
  obtain ⟨h1, h2, h3⟩ := h
  intro x hx
  unfold wL at hx
  simp only [List.mem_append] at hx
  have key : ∀ (S : List Int) (o : OE), oin S o → (∀ c ∈ S, 0 ≤ c ∧ c < 256) → x ∈ oO o → 0 ≤ x ∧ x < 256 := by
    intro S o ho hS hx
    cases o with
    | none => simp [oO] at hx
    | some p =>
      have : x = p.2 := by simpa [oO] using hx
      rw [this]; exact hS _ ho.1
  rcases hx with hx | hx | hx | hx
  · have := List.eq_of_mem_replicate hx; omega
  · exact key _ _ h3 (fun c hc => by simp at hc; omega) hx
  · exact key _ _ h2 (fun c hc => by simp at hc; omega) hx
  · exact key _ _ h1 (fun c hc => by simp at hc; omega) hx
theorem wt_b : ∀ ls : List Lv, (∀ l ∈ ls, WfL l) → ∀ x ∈ wt ls, 0 ≤ x ∧ x < 256
  | [], _, x, hx => by simp [wt] at hx
  | l :: ls, h, x, hx => by
    simp only [wt, List.mem_cons, List.mem_append] at hx
    rcases hx with hx | hx | hx
    · omega
    · exact wL_b (h l (List.mem_cons_self ..)) x hx
    · exact wt_b ls (fun l' hl' => h l' (List.mem_cons_of_mem _ hl')) x hx
theorem wtw_b {ls : List Lv} {l : Lv} (h : ∀ l ∈ ls, WfL l) (hl : WfL l) : ∀ x ∈ wL l ++ wt ls, 0 ≤ x ∧ x < 256 := fun x hx => by
  rcases List.mem_append.mp hx with hx | hx
  · exact wL_b hl x hx
  · exact wt_b ls h x hx
abbrev rgRb : Reg := [(142, fpDigit), (29, upLet), (31, upEmits), (32, upPuts)]
theorem rgRb_ok {l : Launch} {g : GE} {d : Nat} : ∀ e as t σ Q, rE l g (d + 1) rgRb e as t σ Q → WPc l g e (d + 1) 0 0 as t σ Q := rE_cons (fun _ _ _ _ h => f_digit h) (rE_cons (fun _ _ _ _ h => u_letter h) (rE_cons (fun _ _ _ _ h => u_emits h) (rE_cons (fun _ _ _ _ h => u_puts h) rE_nil)))
def upBegins : Sp := fun as t σ Q => aRI as fun r c => RulT t r ∧ (0 ≤ c ∧ c < 256) ∧ ∃ ls l, WfS (oP ls l) ∧ RdS σ r (oP ls l) ∧ cnS (oP ls l) < 40 ∧ match stO ls l c with
  | none => ∀ σ', RsF σ σ' r → Q (some (vI 0)) t σ'
  | some s' => ∀ σ', RsF σ σ' r → RdS σ' r s' → Q (some (vI 1)) t σ'
set_option maxHeartbeats 1000000 in
theorem u_begins {l : Launch} {g : GE} {d : Nat} {t : Tau} {σ : Mem} {Q : Post} {as : List TV} (h0 : upBegins as t σ Q) : WPc l g 25 (d + 2) 0 0 as t σ Q := by
  obtain ⟨r, c, rfl, hr, ⟨c0, c1⟩, ls, l', hw, ⟨hC, b, hb, e6, e5, hcm, e8⟩, hn, h⟩ := aRI_e h0
  clear h0
  have hr0 := hr
  obtain ⟨o, ⟨f1, f2, f3⟩, ⟨t1, t2, t3⟩, l1, l2, l3⟩ := hr
  have s3 : σ r 3 = (cdS (oP ls l')).length := hC.1.1
  have s4 : σ r 4 = (wtS (oP ls l')).length := hC.2.1
  unfold cnS at hn
  have b3 : 0 ≤ σ r 3 ∧ σ r 3 < 40 := by omega
  have b4 : 0 ≤ σ r 4 ∧ σ r 4 < 40 := by omega
  have w1 : w32 (c - 48) = c - 48 := w32_id (by omega) (by omega)
  have w2 : w32 (1000 + c) = 1000 + c := w32_id (by omega) (by omega)
  have nr : r ≠ r + 1 ∧ r ≠ r + 2 := by omega
  unfold stO at h
  refine wg (by decide) rgRb_ok ts_25 py_25 ml_25 30 (by simp [catT]) (fun N hN => ?_)
  by_cases d1 : 48 ≤ c ∧ c ≤ 57
  · rw [if_pos d1] at h
    have d1' : dgB c = 1 := by unfold dgB; rw [if_pos d1]
    have K := h (up (up (up (up σ (r + 1) (σ r 3) (c - 48)) r 3 (σ r 3 + 1)) r 7 1) r 8 0) (RuF.em.s.up.up) ⟨?_, b, hb, ?_, ?_, hcm, ?_, ?_⟩
    · simp [bs_25, sg_25_0_1, sg_25_27_1, sg_25_55_1, sg_25_85_1, hN _, x_iconst, x_ldc2_w, x_aconst_null, x_iload, x_lload, x_aload, x_istore, x_lstore, x_astore, x_iinc, x_iadd, x_isub, x_imul, x_idiv, x_irem, x_iand, x_ior, x_ixor, x_ishl, x_ishr, x_iushr, x_ineg, x_ladd, x_lsub, x_lmul, x_ldiv, x_lrem, x_lcmp, x_i2l, x_i2b, x_i2s, x_i2c, x_dup, x_pop, x_dup_x1, x_dup2, x_getfield, x_putfield, x_iaload, x_baload, x_saload, x_caload, x_daload, x_faload, x_laload, x_aaload, x_iastore, x_bastore, x_sastore, x_castore, x_lastore, x_aastore, x_arraylength, x_getstatic, x_goto, x_goto_w, x_ifCond, x_if_icmp, x_ifnull, x_ifnonnull, x_lookupswitch, x_invokevirtual, x_invokestatic, x_invokedynamic, x_ireturn, x_freturn, x_dreturn, x_lreturn, x_areturn, x_return_, pI_c, pL_c, pR_c, pV_i, pV_r, gI_c, gL_c, gR_c, pN_z, pN_s, lget_c, lins_z, lins_c, ldel_z, ldel_c, ldel2_z, ldel2_c, lset_i, lset_l, lset_r, lkeep_z, lkeep_c, largs_z, largs_c, cat_i, cat_l, cat_r, lkp_c, cnd_eq, cnd_ne, cnd_lt, cnd_ge, cnd_gt, cnd_le, swL_z, swL_c, rE_e, rOr_s, rOr_n, rlk_z, rlk_c, aR_c, aI_c, aII_c, aIII_c, aRI_c, aRII_c, aRIII_c, vJn, vJs, vlc, aRR_c, aRRI_c, aRRII_c, aRRIII_c, aRIIII_c, aRL_c, aRLL_c, aLL_c, aRRRI_c, aIL_c, aIIII_c, aRRIIII_c, aIRII_c, aIR_c, aLI_c, aRIR_c, aRIIR_c, o, fpDigit, d1', upEmits, hr0, b3, w1]
      exact K
    · have := (hC.em (v := c - 48))
      have e : cdS (cL ls l' (xN (c - 48)) 1) = cdS (oP ls l') ++ [c - 48] := by simp [cdS, xN]
      rw [e]
      exact (this.up (by omega) (by omega)).up (by omega) (by omega)
    · simp [up_ap, nr, e6]
    · simp [up_ap, nr, e5]
    · simp [up_ap]
    · simp [up_ap]
  · rw [if_neg d1] at h
    have d1' : dgB c = 0 := by unfold dgB; rw [if_neg d1]
    by_cases d2 : ltB c = 1
    · rw [if_pos d2] at h
      have K := h (up (up (up (up σ (r + 1) (σ r 3) (1000 + c)) r 3 (σ r 3 + 1)) r 7 0) r 8 0) (RuF.em.s.up.up) ⟨?_, b, hb, ?_, ?_, hcm, ?_, ?_⟩
      · simp [bs_25, sg_25_0_1, sg_25_27_1, sg_25_55_1, sg_25_85_1, hN _, x_iconst, x_ldc2_w, x_aconst_null, x_iload, x_lload, x_aload, x_istore, x_lstore, x_astore, x_iinc, x_iadd, x_isub, x_imul, x_idiv, x_irem, x_iand, x_ior, x_ixor, x_ishl, x_ishr, x_iushr, x_ineg, x_ladd, x_lsub, x_lmul, x_ldiv, x_lrem, x_lcmp, x_i2l, x_i2b, x_i2s, x_i2c, x_dup, x_pop, x_dup_x1, x_dup2, x_getfield, x_putfield, x_iaload, x_baload, x_saload, x_caload, x_daload, x_faload, x_laload, x_aaload, x_iastore, x_bastore, x_sastore, x_castore, x_lastore, x_aastore, x_arraylength, x_getstatic, x_goto, x_goto_w, x_ifCond, x_if_icmp, x_ifnull, x_ifnonnull, x_lookupswitch, x_invokevirtual, x_invokestatic, x_invokedynamic, x_ireturn, x_freturn, x_dreturn, x_lreturn, x_areturn, x_return_, pI_c, pL_c, pR_c, pV_i, pV_r, gI_c, gL_c, gR_c, pN_z, pN_s, lget_c, lins_z, lins_c, ldel_z, ldel_c, ldel2_z, ldel2_c, lset_i, lset_l, lset_r, lkeep_z, lkeep_c, largs_z, largs_c, cat_i, cat_l, cat_r, lkp_c, cnd_eq, cnd_ne, cnd_lt, cnd_ge, cnd_gt, cnd_le, swL_z, swL_c, rE_e, rOr_s, rOr_n, rlk_z, rlk_c, aR_c, aI_c, aII_c, aIII_c, aRI_c, aRII_c, aRIII_c, vJn, vJs, vlc, aRR_c, aRRI_c, aRRII_c, aRRIII_c, aRIIII_c, aRL_c, aRLL_c, aLL_c, aRRRI_c, aIL_c, aIIII_c, aRRIIII_c, aIRII_c, aIR_c, aLI_c, aRIR_c, aRIIR_c, o, fpDigit, d1', upLet, d2, upEmits, hr0, b3, w2]
        exact K
      · have := (hC.em (v := 1000 + c))
        have e : cdS (cL ls l' (xL c) 0) = cdS (oP ls l') ++ [1000 + c] := by simp [cdS, xL]
        rw [e]
        exact (this.up (by omega) (by omega)).up (by omega) (by omega)
      · simp [up_ap, nr, e6]
      · simp [up_ap, nr, e5]
      · simp [up_ap]
      · simp [up_ap]
    · rw [if_neg d2] at h
      have d2' : ltB c = 0 := by unfold ltB at d2 ⊢; split at d2 <;> simp_all
      by_cases d3 : c = 45
      · rw [if_pos d3] at h
        have K := h (up (up σ (r + 2) (σ r 4) 126) r 4 (σ r 4 + 1)) RuF.pu.s ⟨?_, b, hb, ?_, ?_, hcm, ?_⟩
        · subst d3
          simp [bs_25, sg_25_0_1, sg_25_27_1, sg_25_55_1, sg_25_85_1, hN _, x_iconst, x_ldc2_w, x_aconst_null, x_iload, x_lload, x_aload, x_istore, x_lstore, x_astore, x_iinc, x_iadd, x_isub, x_imul, x_idiv, x_irem, x_iand, x_ior, x_ixor, x_ishl, x_ishr, x_iushr, x_ineg, x_ladd, x_lsub, x_lmul, x_ldiv, x_lrem, x_lcmp, x_i2l, x_i2b, x_i2s, x_i2c, x_dup, x_pop, x_dup_x1, x_dup2, x_getfield, x_putfield, x_iaload, x_baload, x_saload, x_caload, x_daload, x_faload, x_laload, x_aaload, x_iastore, x_bastore, x_sastore, x_castore, x_lastore, x_aastore, x_arraylength, x_getstatic, x_goto, x_goto_w, x_ifCond, x_if_icmp, x_ifnull, x_ifnonnull, x_lookupswitch, x_invokevirtual, x_invokestatic, x_invokedynamic, x_ireturn, x_freturn, x_dreturn, x_lreturn, x_areturn, x_return_, pI_c, pL_c, pR_c, pV_i, pV_r, gI_c, gL_c, gR_c, pN_z, pN_s, lget_c, lins_z, lins_c, ldel_z, ldel_c, ldel2_z, ldel2_c, lset_i, lset_l, lset_r, lkeep_z, lkeep_c, largs_z, largs_c, cat_i, cat_l, cat_r, lkp_c, cnd_eq, cnd_ne, cnd_lt, cnd_ge, cnd_gt, cnd_le, swL_z, swL_c, rE_e, rOr_s, rOr_n, rlk_z, rlk_c, aR_c, aI_c, aII_c, aIII_c, aRI_c, aRII_c, aRIII_c, vJn, vJs, vlc, aRR_c, aRRI_c, aRRII_c, aRRIII_c, aRIIII_c, aRL_c, aRLL_c, aLL_c, aRRRI_c, aIL_c, aIIII_c, aRRIIII_c, aIRII_c, aIR_c, aLI_c, aRIR_c, aRIIR_c, o, fpDigit, d1', upLet, d2', upPuts, hr0, b4]
          exact K
        · have := (hC.pu (v := 126))
          have e : wtS (oP ls (l'.cm, l'.su, l'.mu, l'.ng + 1)) = 126 :: wtS (oP ls l') := by
            show (List.replicate (l'.ng + 1) 126 ++ _) ++ _ = 126 :: ((List.replicate l'.ng 126 ++ _) ++ _)
            rw [List.replicate_succ]; rfl
          rw [e]
          exact this
        · simp [up_ap, nr, e6]
        · simp [up_ap, nr, e5]
        · simp [up_ap, nr, e8]
      · rw [if_neg d3] at h
        have hl4 := hw.2.2
        by_cases d4 : c = 40 ∧ ls.length < 4
        · rw [if_pos d4] at h
          have dk : σ r 5 < 4 := by omega
          have hk1 : ls.length + 1 < 6 := by omega
          have x1 := xor_b (b := b) (k := ls.length + 1) hb hk1
          have x2 := fun j : Fin 6 => xor_t0 ⟨b, hb⟩ ⟨ls.length + 1, hk1⟩ j
          simp only at x2
          generalize hb' : (if tb b (ls.length + 1) then b - 2 ^ (ls.length + 1) else b) = b' at x1 x2
          have w3 : w32 ((ls.length : Int) + 1) = ((ls.length + 1 : Nat) : Int) := by rw [w32_id (by omega) (by omega)]; omega
          have K := h (up (up (up (up σ (r + 2) (σ r 4) 40) r 4 (σ r 4 + 1)) r 5 ((ls.length + 1 : Nat) : Int)) r 6 b') (RuF.pu.s.up.up) ⟨?_, b', (x2 0).1, ?_, ?_, ⟨?_, ?_⟩, ?_⟩
          · obtain ⟨d4a, d4b⟩ := d4
            subst d4a
            have dk' : (ls.length : Int) < 4 := by omega
            simp [bs_25, sg_25_0_1, sg_25_27_1, sg_25_55_1, sg_25_85_1, hN _, x_iconst, x_ldc2_w, x_aconst_null, x_iload, x_lload, x_aload, x_istore, x_lstore, x_astore, x_iinc, x_iadd, x_isub, x_imul, x_idiv, x_irem, x_iand, x_ior, x_ixor, x_ishl, x_ishr, x_iushr, x_ineg, x_ladd, x_lsub, x_lmul, x_ldiv, x_lrem, x_lcmp, x_i2l, x_i2b, x_i2s, x_i2c, x_dup, x_pop, x_dup_x1, x_dup2, x_getfield, x_putfield, x_iaload, x_baload, x_saload, x_caload, x_daload, x_faload, x_laload, x_aaload, x_iastore, x_bastore, x_sastore, x_castore, x_lastore, x_aastore, x_arraylength, x_getstatic, x_goto, x_goto_w, x_ifCond, x_if_icmp, x_ifnull, x_ifnonnull, x_lookupswitch, x_invokevirtual, x_invokestatic, x_invokedynamic, x_ireturn, x_freturn, x_dreturn, x_lreturn, x_areturn, x_return_, pI_c, pL_c, pR_c, pV_i, pV_r, gI_c, gL_c, gR_c, pN_z, pN_s, lget_c, lins_z, lins_c, ldel_z, ldel_c, ldel2_z, ldel2_c, lset_i, lset_l, lset_r, lkeep_z, lkeep_c, largs_z, largs_c, cat_i, cat_l, cat_r, lkp_c, cnd_eq, cnd_ne, cnd_lt, cnd_ge, cnd_gt, cnd_le, swL_z, swL_c, rE_e, rOr_s, rOr_n, rlk_z, rlk_c, aR_c, aI_c, aII_c, aIII_c, aRI_c, aRII_c, aRIII_c, vJn, vJs, vlc, aRR_c, aRRI_c, aRRII_c, aRRIII_c, aRIIII_c, aRL_c, aRLL_c, aLL_c, aRRRI_c, aIL_c, aIIII_c, aRRIIII_c, aIRII_c, aIR_c, aLI_c, aRIR_c, aRIIR_c, o, fpDigit, d1', upLet, d2', upPuts, hr0, b4, dk', d4b, Nat.not_le.mpr d4b, Int.not_le.mpr dk', up_ap, nr, e5, e6, w3, x1]
            have c9 : ((ls.length + 1 : Nat) : Int) = (ls.length : Int) + 1 := by omega
            rw [c9] at x1 K
            rw [x1]
            exact K
          · have := (hC.pu (v := 40))
            have ea : cdS (oP (l' :: ls) lv0) = cdS (oP ls l') := by simp [cdS, cd, plL, lv0, lv_cm, lv_su, lv_mu, pO_n]
            have eb : wtS (oP (l' :: ls) lv0) = 40 :: wtS (oP ls l') := by simp [wtS, wt, wL, lv0, lv_cm, lv_su, lv_mu, lv_ng, oO_n]
            rw [ea, eb]
            exact (this.up (by omega) (by omega)).up (by omega) (by omega)
          · simp [up_ap]
          · simp [up_ap]
          · have := (x2 ⟨ls.length + 1, hk1⟩).2
            show tb b' (ls.length + 1) = false
            rw [this]; simp
          · refine cmB_cg _ (fun j hj => ?_) hcm
            have hj' : j < ls.length + 1 := by simpa using hj
            rw [(x2 ⟨j, by omega⟩).2]
            have : ¬ j = ls.length + 1 := by omega
            simp [this]
          · simp [up_ap, nr, e8]
        · rw [if_neg d4] at h
          have h := h σ RsF.rf
          by_cases d5 : c = 40
          · have dk : ¬ σ r 5 < 4 := by omega
            subst d5
            simp [bs_25, sg_25_0_1, sg_25_27_1, sg_25_55_1, sg_25_85_1, hN _, x_iconst, x_ldc2_w, x_aconst_null, x_iload, x_lload, x_aload, x_istore, x_lstore, x_astore, x_iinc, x_iadd, x_isub, x_imul, x_idiv, x_irem, x_iand, x_ior, x_ixor, x_ishl, x_ishr, x_iushr, x_ineg, x_ladd, x_lsub, x_lmul, x_ldiv, x_lrem, x_lcmp, x_i2l, x_i2b, x_i2s, x_i2c, x_dup, x_pop, x_dup_x1, x_dup2, x_getfield, x_putfield, x_iaload, x_baload, x_saload, x_caload, x_daload, x_faload, x_laload, x_aaload, x_iastore, x_bastore, x_sastore, x_castore, x_lastore, x_aastore, x_arraylength, x_getstatic, x_goto, x_goto_w, x_ifCond, x_if_icmp, x_ifnull, x_ifnonnull, x_lookupswitch, x_invokevirtual, x_invokestatic, x_invokedynamic, x_ireturn, x_freturn, x_dreturn, x_lreturn, x_areturn, x_return_, pI_c, pL_c, pR_c, pV_i, pV_r, gI_c, gL_c, gR_c, pN_z, pN_s, lget_c, lins_z, lins_c, ldel_z, ldel_c, ldel2_z, ldel2_c, lset_i, lset_l, lset_r, lkeep_z, lkeep_c, largs_z, largs_c, cat_i, cat_l, cat_r, lkp_c, cnd_eq, cnd_ne, cnd_lt, cnd_ge, cnd_gt, cnd_le, swL_z, swL_c, rE_e, rOr_s, rOr_n, rlk_z, rlk_c, aR_c, aI_c, aII_c, aIII_c, aRI_c, aRII_c, aRIII_c, vJn, vJs, vlc, aRR_c, aRRI_c, aRRII_c, aRRIII_c, aRIIII_c, aRL_c, aRLL_c, aLL_c, aRRRI_c, aIL_c, aIIII_c, aRRIIII_c, aIRII_c, aIR_c, aLI_c, aRIR_c, aRIIR_c, o, fpDigit, d1', upLet, d2', dk, Int.not_lt.mp dk]
            exact h
          · simp [bs_25, sg_25_0_1, sg_25_27_1, sg_25_55_1, sg_25_85_1, hN _, x_iconst, x_ldc2_w, x_aconst_null, x_iload, x_lload, x_aload, x_istore, x_lstore, x_astore, x_iinc, x_iadd, x_isub, x_imul, x_idiv, x_irem, x_iand, x_ior, x_ixor, x_ishl, x_ishr, x_iushr, x_ineg, x_ladd, x_lsub, x_lmul, x_ldiv, x_lrem, x_lcmp, x_i2l, x_i2b, x_i2s, x_i2c, x_dup, x_pop, x_dup_x1, x_dup2, x_getfield, x_putfield, x_iaload, x_baload, x_saload, x_caload, x_daload, x_faload, x_laload, x_aaload, x_iastore, x_bastore, x_sastore, x_castore, x_lastore, x_aastore, x_arraylength, x_getstatic, x_goto, x_goto_w, x_ifCond, x_if_icmp, x_ifnull, x_ifnonnull, x_lookupswitch, x_invokevirtual, x_invokestatic, x_invokedynamic, x_ireturn, x_freturn, x_dreturn, x_lreturn, x_areturn, x_return_, pI_c, pL_c, pR_c, pV_i, pV_r, gI_c, gL_c, gR_c, pN_z, pN_s, lget_c, lins_z, lins_c, ldel_z, ldel_c, ldel2_z, ldel2_c, lset_i, lset_l, lset_r, lkeep_z, lkeep_c, largs_z, largs_c, cat_i, cat_l, cat_r, lkp_c, cnd_eq, cnd_ne, cnd_lt, cnd_ge, cnd_gt, cnd_le, swL_z, swL_c, rE_e, rOr_s, rOr_n, rlk_z, rlk_c, aR_c, aI_c, aII_c, aIII_c, aRI_c, aRII_c, aRIII_c, vJn, vJs, vlc, aRR_c, aRRI_c, aRRII_c, aRRIII_c, aRIIII_c, aRL_c, aRLL_c, aLL_c, aRRRI_c, aIL_c, aIIII_c, aRRIIII_c, aIRII_c, aIR_c, aLI_c, aRIR_c, aRIIR_c, o, fpDigit, d1', upLet, d2', d3, d5]
            exact h
