/-! the reference: tempts -/
def tmInv (n : Nat) (V : Int → Int) (f : Int) (i : Nat) (b w : Int) : Prop := ((b = 1000000 ∧ w = -1) ∨ (1 ≤ b ∧ b ≤ 12 ∧ 0 ≤ w ∧ w < i ∧ tmpB n V w f b ≠ 0 ∧ ∀ j : Nat, (j : Int) < w → tmpB n V j f b = 0)) ∧ ∀ j k : Nat, j < i → 1 ≤ k → k ≤ 12 → (k : Int) < b → tmpB n V j f k = 0
theorem tmpI_n {n : Nat} {V : Int → Int} {f : Int} {k : Nat} {c : QA} : ∀ r i : Nat, (∀ j : Nat, i ≤ j → j < i + r → tmpB n V j f k = 0) → tmpI n V f k c r i = c
  | 0, _, _ => rfl
  | r + 1, i, h => by
    show (if tmpB n V i f k = 0 then tmpI n V f k c r (i + 1) else ((k : Int), some [(i : Int)])) = c
    rw [if_pos (h i (by omega) (by omega))]
    exact tmpI_n r (i + 1) (fun j a b => h j (by omega) (by omega))
theorem tmpI_y {n : Nat} {V : Int → Int} {f : Int} {k : Nat} {c : QA} {w : Nat} (hw : tmpB n V w f k ≠ 0) : ∀ r i : Nat, i ≤ w → w < i + r → (∀ j : Nat, i ≤ j → j < w → tmpB n V j f k = 0) → tmpI n V f k c r i = ((k : Int), some [(w : Int)])
  | 0, _, _, _, _ => by omega
  | r + 1, i, h1, h2, h => by
    show (if tmpB n V i f k = 0 then tmpI n V f k c r (i + 1) else ((k : Int), some [(i : Int)])) = _
    by_cases hi : i = w
    · subst hi; rw [if_neg hw]
    · rw [if_pos (h i (by omega) (by omega))]
      exact tmpI_y hw r (i + 1) (by omega) (by omega) (fun j a b => h j (by omega) b)
theorem tmpK_n {n : Nat} {V : Int → Int} {f : Int} : ∀ r k : Nat, (∀ j k' : Nat, j < n → k ≤ k' → k' < k + r → tmpB n V j f k' = 0) → tmpK n V f r k = (-2, none)
  | 0, _, _ => rfl
  | r + 1, k, h => by
    show tmpI n V f k (tmpK n V f r (k + 1)) n 0 = _
    rw [tmpI_n n 0 (fun j _ b => h j k (by omega) (by omega) (by omega))]
    exact tmpK_n r (k + 1) (fun j k' a b c => h j k' a (by omega) (by omega))
theorem tmpK_y {n : Nat} {V : Int → Int} {f : Int} {b w : Nat} (hw : tmpB n V w f b ≠ 0) (hn : w < n) (hb : ∀ j : Nat, j < w → tmpB n V j f b = 0) : ∀ r k : Nat, k ≤ b → b < k + r → (∀ j k' : Nat, j < n → k ≤ k' → k' < b → tmpB n V j f k' = 0) → tmpK n V f r k = ((b : Int), some [(w : Int)])
  | 0, _, _, _, _ => by omega
  | r + 1, k, h1, h2, h => by
    show tmpI n V f k (tmpK n V f r (k + 1)) n 0 = _
    by_cases hk : k = b
    · subst hk
      exact tmpI_y hw n 0 (by omega) (by omega) (fun j _ c => hb j c)
    · rw [tmpI_n n 0 (fun j _ c => h j k (by omega) (by omega) (by omega))]
      exact tmpK_y hw hn hb r (k + 1) (by omega) (by omega) (fun j k' a c e => h j k' a (by omega) e)
theorem tm_q {n : Nat} {V : Int → Int} {f b w : Int} (h : tmInv n V f n b w) : tmpK n V f 12 1 = if w = -1 then (-2, none) else (b, some [w]) := by
  obtain ⟨h1, h2⟩ := h
  rcases h1 with ⟨rfl, rfl⟩ | ⟨b1, b2, w1, w2, hT, hm⟩
  · rw [if_pos rfl]
    exact tmpK_n 12 1 (fun j k a c e => h2 j k a c (by omega) (by omega))
  · rw [if_neg (by omega)]
    obtain ⟨b', rfl⟩ : ∃ b' : Nat, b = b' := ⟨b.toNat, by omega⟩
    obtain ⟨w', rfl⟩ : ∃ w' : Nat, w = w' := ⟨w.toNat, by omega⟩
    exact tmpK_y hT (by omega) (fun j hj => hm j (by omega)) 12 1 (by omega) (by omega) (fun j k a c e => h2 j k a c (by omega) (by omega))
theorem tm_rf {n : Nat} {V M : Int → Int} (hW : WFV n M V) {i k k' : Nat} {f : Int} (hi : i < n) (f0 : 0 ≤ f) (f1 : f < 4) (k0 : 1 ≤ k) (hk : k ≤ k') (h : rfSew n V i f k ≠ 0) : tmpB n V i f k' = 0 := by
  unfold tmpB
  unfold rfSew at h
  by_cases hc : ((0 : Int) ≤ i ∧ (i : Int) < n) ∧ (0 ≤ f ∧ f < 4) ∧ (1 ≤ (k : Int) ∧ (k : Int) ≤ 12)
  · rw [if_pos hc] at h
    by_cases h1 : ownV V i < k
    · rw [if_pos (Or.inr (by omega))]
    · rw [if_neg h1] at h
      by_cases h2 : V (6 + i) = f
      · rw [if_pos (Or.inl h2)]
      · rw [if_neg h2] at h; omega
  · have ho := own_in hW (i := i) (by omega) (by omega)
    rw [if_pos (Or.inr (by omega))]
theorem tm_ok {n : Nat} {V M : Int → Int} (hW : WFV n M V) {i k : Nat} {f : Int} (h : rfSew n V i f k = 0) : (tmpB n V i f k ≠ 0 ↔ sewV V i f k (6 + i) = f) ∧ 1 ≤ k ∧ k ≤ 12 := by
  obtain ⟨-, hS⟩ := sewA_r (s := i) (f := f) (k := k) hW
  obtain ⟨hc, e1, -, -⟩ := hS (by omega)
  unfold rfSew at h
  rw [if_pos hc] at h
  have h1 : ¬ ownV V i < k := fun z => by rw [if_pos z] at h; omega
  have h2 : ¬ V (6 + i) = f := fun z => by rw [if_neg h1, if_pos z] at h; omega
  unfold tmpB
  rw [if_neg (fun z => z.elim h2 h1), e1]
  refine ⟨?_, by omega, by omega⟩
  split <;> simp_all
set_option maxHeartbeats 1000000 in
theorem mo_tempts {l : Launch} {g : GE} {d : Nat} {t : Tau} {σ : Mem} {Q : Post} {f : Int} (hk : MK t σ) (h : ansM (temptsQ (nM σ) (vA σ 176) f) t σ Q) : WPc l g 236 (d + 6) 0 0 [vR 175, vI f] t σ Q := by
  obtain ⟨hM, hW⟩ := hk
  have n6 := hM.2.2
  have z0 := hM.2.1
  unfold ansM temptsQ at h
  by_cases hf : 0 ≤ f ∧ f < 4
  · rw [if_pos hf] at h
    obtain ⟨f0, f1⟩ := hf
    have O : ∀ σ' b w, QFM σ σ' ∧ σ' 175 8 = 0 ∧ σ' 175 7 = σ 175 7 ∧ σ' 179 = σ 179 → tmInv (nM σ) (vA σ 176) f 0 b w → Wp l g 236 (d + 6) 0 0 23 [(0, vR 175), (1, vI f), (2, vI b), (3, vI w), (4, vI (0 : Nat))] [] t σ' Q := by
      refine lpU (P := fun i => ∀ σ' b w, QFM σ σ' ∧ σ' 175 8 = 0 ∧ σ' 175 7 = σ 175 7 ∧ σ' 179 = σ 179 → tmInv (nM σ) (vA σ 176) f i b w → Wp l g 236 (d + 6) 0 0 23 [(0, vR 175), (1, vI f), (2, vI b), (3, vI w), (4, vI i)] [] t σ' Q) (n := nM σ) ?_ (fun i hi KO σ' b w q hv => ?_)
      · rintro σ' b w ⟨q1, q2, q3, q4⟩ hv
        rw [tm_q hv] at h
        have z1 : σ' 175 1 = nM σ := by rw [q1.2 1 (by unfold scrF; omega), z0]
        refine wa (by decide) rgN_ok tk_236 30 (fun N hN => ?_)
        simp [bl_236, hN _, x_iconst, x_ldc2_w, x_aconst_null, x_iload, x_lload, x_aload, x_istore, x_lstore, x_astore, x_iinc, x_iadd, x_isub, x_imul, x_idiv, x_irem, x_iand, x_ior, x_ixor, x_ishl, x_ishr, x_iushr, x_ineg, x_ladd, x_lsub, x_lmul, x_ldiv, x_lrem, x_lcmp, x_i2l, x_i2b, x_i2s, x_i2c, x_dup, x_pop, x_dup_x1, x_dup2, x_getfield, x_putfield, x_iaload, x_baload, x_saload, x_caload, x_daload, x_faload, x_laload, x_aaload, x_iastore, x_bastore, x_sastore, x_castore, x_lastore, x_aastore, x_arraylength, x_getstatic, x_goto, x_goto_w, x_ifCond, x_if_icmp, x_ifnull, x_ifnonnull, x_lookupswitch, x_invokevirtual, x_invokestatic, x_invokedynamic, x_ireturn, x_freturn, x_dreturn, x_lreturn, x_areturn, x_return_, pI_c, pL_c, pR_c, pV_i, pV_r, gI_c, gL_c, gR_c, pN_z, pN_s, lget_c, lins_z, lins_c, ldel_z, ldel_c, ldel2_z, ldel2_c, lset_i, lset_l, lset_r, lkeep_z, lkeep_c, largs_z, largs_c, cat_i, cat_l, cat_r, lkp_c, cnd_eq, cnd_ne, cnd_lt, cnd_ge, cnd_gt, cnd_le, swL_z, swL_c, rE_e, rOr_s, rOr_n, rlk_z, rlk_c, aR_c, aI_c, aII_c, aIII_c, aRI_c, aRII_c, aRIII_c, vJn, vJs, vlc, aRR_c, aRRI_c, aRRII_c, aRRIII_c, aRIIII_c, aRL_c, aRLL_c, aLL_c, aRRRI_c, aIL_c, aIIII_c, aRRIIII_c, aIRII_c, aIR_c, aLI_c, aRIR_c, aRIIR_c, hM.1.o, hM.1, z1, mpTell, up_ap]
        refine ⟨fun y => ?_, fun y => ?_⟩
        · rw [if_neg y] at h
          exact h _ (QTM.q1 q1 q2)
        · rw [if_pos y] at h
          exact h σ' ⟨q1, q2, q3, q4⟩
      · have e2 := w32_succ (k := i) (by omega); have i1 : ((i : Nat) : Int) < (nM σ : Nat) := (by omega); have i1n : i < nM σ := (by omega); have i1x : ¬ nM σ ≤ i := (by omega)
        have i6 : (i : Int) < 6 := by omega
        have i6n : i < 6 := by omega
        have I : ∀ σ', QFM σ σ' ∧ σ' 175 8 = 0 ∧ σ' 175 7 = σ 175 7 ∧ σ' 179 = σ 179 → (∀ k : Nat, 1 ≤ k → k < 0 + 1 → tmpB (nM σ) (vA σ 176) i f k = 0) → Wp l g 236 (d + 6) 0 0 35 [(0, vR 175), (1, vI f), (2, vI b), (3, vI w), (4, vI i), (5, vI (0 + 1 : Nat))] [] t σ' Q := by
          refine lpU (P := fun j => ∀ σ', QFM σ σ' ∧ σ' 175 8 = 0 ∧ σ' 175 7 = σ 175 7 ∧ σ' 179 = σ 179 → (∀ k : Nat, 1 ≤ k → k < j + 1 → tmpB (nM σ) (vA σ 176) i f k = 0) → Wp l g 236 (d + 6) 0 0 35 [(0, vR 175), (1, vI f), (2, vI b), (3, vI w), (4, vI i), (5, vI (j + 1 : Nat))] [] t σ' Q) (n := 12) ?_ (fun j hj K σ' q hb => ?_)
          · intro σ' q hb
            have KO := KO σ' b w q ⟨hv.1.elim Or.inl (fun z => Or.inr ⟨z.1, z.2.1, z.2.2.1, by omega, z.2.2.2.2⟩), fun j k a1 a2 a3 a4 => by
              by_cases hj : j = i
              · subst hj; exact hb k a2 (by omega)
              · exact hv.2 j k (by omega) a2 a3 a4⟩
            have hA : ARow t σ' 176 := ⟨RowT.now hM.1, by rw [q.1.n, q.1.m, q.1.v]; exact hW⟩
            have e13 : rfSew (nM σ) (vA σ 176) i f 13 = -1 := by unfold rfSew; rw [if_neg (fun z => by omega)]
            refine wa (by decide) rgN_ok tk_236 30 (fun N hN => ?_)
            simp [bl_236, hN _, x_iconst, x_ldc2_w, x_aconst_null, x_iload, x_lload, x_aload, x_istore, x_lstore, x_astore, x_iinc, x_iadd, x_isub, x_imul, x_idiv, x_irem, x_iand, x_ior, x_ixor, x_ishl, x_ishr, x_iushr, x_ineg, x_ladd, x_lsub, x_lmul, x_ldiv, x_lrem, x_lcmp, x_i2l, x_i2b, x_i2s, x_i2c, x_dup, x_pop, x_dup_x1, x_dup2, x_getfield, x_putfield, x_iaload, x_baload, x_saload, x_caload, x_daload, x_faload, x_laload, x_aaload, x_iastore, x_bastore, x_sastore, x_castore, x_lastore, x_aastore, x_arraylength, x_getstatic, x_goto, x_goto_w, x_ifCond, x_if_icmp, x_ifnull, x_ifnonnull, x_lookupswitch, x_invokevirtual, x_invokestatic, x_invokedynamic, x_ireturn, x_freturn, x_dreturn, x_lreturn, x_areturn, x_return_, pI_c, pL_c, pR_c, pV_i, pV_r, gI_c, gL_c, gR_c, pN_z, pN_s, lget_c, lins_z, lins_c, ldel_z, ldel_c, ldel2_z, ldel2_c, lset_i, lset_l, lset_r, lkeep_z, lkeep_c, largs_z, largs_c, cat_i, cat_l, cat_r, lkp_c, cnd_eq, cnd_ne, cnd_lt, cnd_ge, cnd_gt, cnd_le, swL_z, swL_c, rE_e, rOr_s, rOr_n, rlk_z, rlk_c, aR_c, aI_c, aII_c, aIII_c, aRI_c, aRII_c, aRIII_c, vJn, vJs, vlc, aRR_c, aRRI_c, aRRII_c, aRRIII_c, aRIIII_c, aRL_c, aRLL_c, aLL_c, aRRRI_c, aIL_c, aIIII_c, aRRIIII_c, aIRII_c, aIR_c, aLI_c, aRIR_c, aRIIR_c, hM.1.o, hM.1.f0, mpRefS, hA, q.1.md hM, q.1.n, q.1.v, e13, e2]
            exact ⟨fun _ => KO, fun _ => KO⟩
          · have hA : ARow t σ' 176 := ⟨RowT.now hM.1, by rw [q.1.n, q.1.m, q.1.v]; exact hW⟩
            generalize hk' : j + 1 = k at K hb ⊢
            have KX : (rfSew (nM σ) (vA σ 176) i f k ≠ 0 ∨ b ≤ k) → Wp l g 236 (d + 6) 0 0 23 [(0, vR 175), (1, vI f), (2, vI b), (3, vI w), (4, vI (i + 1 : Nat))] [] t σ' Q := fun hc => KO σ' b w q ⟨hv.1.elim Or.inl (fun z => Or.inr ⟨z.1, z.2.1, z.2.2.1, by omega, z.2.2.2.2⟩), fun j k' a1 a2 a3 a4 => by
              by_cases hj : j = i
              · subst hj
                by_cases hkk : k' < k
                · exact hb k' a2 hkk
                · rcases hc with hc | hc
                  · exact tm_rf hW (by omega) f0 f1 (by omega) (by omega) hc
                  · omega
              · exact hv.2 j k' (by omega) a2 a3 a4⟩
            have e5 := w32_succ (k := k) (by omega)
            refine wa (by decide) rgN_ok ts_236 30 (fun N hN => ?_)
            by_cases c1 : b ≤ k
            · simp [bs_236, hN _, x_iconst, x_ldc2_w, x_aconst_null, x_iload, x_lload, x_aload, x_istore, x_lstore, x_astore, x_iinc, x_iadd, x_isub, x_imul, x_idiv, x_irem, x_iand, x_ior, x_ixor, x_ishl, x_ishr, x_iushr, x_ineg, x_ladd, x_lsub, x_lmul, x_ldiv, x_lrem, x_lcmp, x_i2l, x_i2b, x_i2s, x_i2c, x_dup, x_pop, x_dup_x1, x_dup2, x_getfield, x_putfield, x_iaload, x_baload, x_saload, x_caload, x_daload, x_faload, x_laload, x_aaload, x_iastore, x_bastore, x_sastore, x_castore, x_lastore, x_aastore, x_arraylength, x_getstatic, x_goto, x_goto_w, x_ifCond, x_if_icmp, x_ifnull, x_ifnonnull, x_lookupswitch, x_invokevirtual, x_invokestatic, x_invokedynamic, x_ireturn, x_freturn, x_dreturn, x_lreturn, x_areturn, x_return_, pI_c, pL_c, pR_c, pV_i, pV_r, gI_c, gL_c, gR_c, pN_z, pN_s, lget_c, lins_z, lins_c, ldel_z, ldel_c, ldel2_z, ldel2_c, lset_i, lset_l, lset_r, lkeep_z, lkeep_c, largs_z, largs_c, cat_i, cat_l, cat_r, lkp_c, cnd_eq, cnd_ne, cnd_lt, cnd_ge, cnd_gt, cnd_le, swL_z, swL_c, rE_e, rOr_s, rOr_n, rlk_z, rlk_c, aR_c, aI_c, aII_c, aIII_c, aRI_c, aRII_c, aRIII_c, vJn, vJs, vlc, aRR_c, aRRI_c, aRRII_c, aRRIII_c, aRIIII_c, aRL_c, aRLL_c, aLL_c, aRRRI_c, aIL_c, aIIII_c, aRRIIII_c, aIRII_c, aIR_c, aLI_c, aRIR_c, aRIIR_c, c1, Int.not_lt.mpr c1, e2]
              exact KX (Or.inr c1)
            · by_cases c2 : rfSew (nM σ) (vA σ 176) i f k = 0
              · obtain ⟨t1, t2, t3⟩ := tm_ok hW c2
                simp [bs_236, hN _, x_iconst, x_ldc2_w, x_aconst_null, x_iload, x_lload, x_aload, x_istore, x_lstore, x_astore, x_iinc, x_iadd, x_isub, x_imul, x_idiv, x_irem, x_iand, x_ior, x_ixor, x_ishl, x_ishr, x_iushr, x_ineg, x_ladd, x_lsub, x_lmul, x_ldiv, x_lrem, x_lcmp, x_i2l, x_i2b, x_i2s, x_i2c, x_dup, x_pop, x_dup_x1, x_dup2, x_getfield, x_putfield, x_iaload, x_baload, x_saload, x_caload, x_daload, x_faload, x_laload, x_aaload, x_iastore, x_bastore, x_sastore, x_castore, x_lastore, x_aastore, x_arraylength, x_getstatic, x_goto, x_goto_w, x_ifCond, x_if_icmp, x_ifnull, x_ifnonnull, x_lookupswitch, x_invokevirtual, x_invokestatic, x_invokedynamic, x_ireturn, x_freturn, x_dreturn, x_lreturn, x_areturn, x_return_, pI_c, pL_c, pR_c, pV_i, pV_r, gI_c, gL_c, gR_c, pN_z, pN_s, lget_c, lins_z, lins_c, ldel_z, ldel_c, ldel2_z, ldel2_c, lset_i, lset_l, lset_r, lkeep_z, lkeep_c, largs_z, largs_c, cat_i, cat_l, cat_r, lkp_c, cnd_eq, cnd_ne, cnd_lt, cnd_ge, cnd_gt, cnd_le, swL_z, swL_c, rE_e, rOr_s, rOr_n, rlk_z, rlk_c, aR_c, aI_c, aII_c, aIII_c, aRI_c, aRII_c, aRIII_c, vJn, vJs, vlc, aRR_c, aRRI_c, aRRII_c, aRRIII_c, aRIIII_c, aRL_c, aRLL_c, aLL_c, aRRRI_c, aIL_c, aIIII_c, aRRIIII_c, aIRII_c, aIR_c, aLI_c, aRIR_c, aRIIR_c, c1, Int.not_le.mp c1, hM.1.o, hM.1.f0, hM.1.f23, mpRefS, mpLay, hA, q.1.md hM, q.1.n, q.1.v, c2, RowT.now hM.1, hM.1.t186, hM.1.l186]
                intro σ1 y1 y2
                have q1 : QFM σ σ1 := q.1.tr ⟨fun o a b => y1 o (fun z => b (by rw [z]; unfold scrM; omega)), fun j _ => by rw [y1 175 (by omega)]⟩
                have v1 : vA σ1 186 = vA σ 176 := by rw [lay_v (σ := σ') (f := 176) (fun j => by rw [y2 j]; simp), q.1.v]
                have hSh := hW.sh (i := i) (by omega) (by omega)
                simp [sg_236_35_1, hN _, x_iconst, x_ldc2_w, x_aconst_null, x_iload, x_lload, x_aload, x_istore, x_lstore, x_astore, x_iinc, x_iadd, x_isub, x_imul, x_idiv, x_irem, x_iand, x_ior, x_ixor, x_ishl, x_ishr, x_iushr, x_ineg, x_ladd, x_lsub, x_lmul, x_ldiv, x_lrem, x_lcmp, x_i2l, x_i2b, x_i2s, x_i2c, x_dup, x_pop, x_dup_x1, x_dup2, x_getfield, x_putfield, x_iaload, x_baload, x_saload, x_caload, x_daload, x_faload, x_laload, x_aaload, x_iastore, x_bastore, x_sastore, x_castore, x_lastore, x_aastore, x_arraylength, x_getstatic, x_goto, x_goto_w, x_ifCond, x_if_icmp, x_ifnull, x_ifnonnull, x_lookupswitch, x_invokevirtual, x_invokestatic, x_invokedynamic, x_ireturn, x_freturn, x_dreturn, x_lreturn, x_areturn, x_return_, pI_c, pL_c, pR_c, pV_i, pV_r, gI_c, gL_c, gR_c, pN_z, pN_s, lget_c, lins_z, lins_c, ldel_z, ldel_c, ldel2_z, ldel2_c, lset_i, lset_l, lset_r, lkeep_z, lkeep_c, largs_z, largs_c, cat_i, cat_l, cat_r, lkp_c, cnd_eq, cnd_ne, cnd_lt, cnd_ge, cnd_gt, cnd_le, swL_z, swL_c, rE_e, rOr_s, rOr_n, rlk_z, rlk_c, aR_c, aI_c, aII_c, aIII_c, aRI_c, aRII_c, aRIII_c, vJn, vJs, vlc, aRR_c, aRRI_c, aRRII_c, aRRIII_c, aRIIII_c, aRL_c, aRLL_c, aLL_c, aRRRI_c, aIL_c, aIIII_c, aRRIIII_c, aIRII_c, aIR_c, aLI_c, aRIR_c, aRIIR_c, hM.1.o, hM.1.f23, mpSew, RowT.thn hM.1, i6, i6n, v1, hSh, f0, f1]
                refine ⟨by omega, fun σ2 T => ?_⟩
                have q2 : QFM σ σ2 ∧ σ2 175 8 = 0 ∧ σ2 175 7 = σ 175 7 ∧ σ2 179 = σ 179 := ⟨q1.tr ⟨fun o a b => T.1 o (fun z => b (by rw [z]; unfold scrM; omega)), fun j _ => by rw [T.1 175 (by omega)]⟩, by rw [T.1 175 (by omega), y1 175 (by omega)]; exact q.2.1, by rw [T.1 175 (by omega), y1 175 (by omega)]; exact q.2.2.1, by rw [T.1 179 (by omega), y1 179 (by omega)]; exact q.2.2.2⟩
                have e6 : w32 (6 + (i : Int)) = 6 + i := w32_id (by omega) (by omega)
                have e7 : (0 : Int) ≤ 6 + i := by omega
                have e8 : 6 + (i : Int) < 50 := by omega
                have e9 : σ2 186 (6 + (i : Int)) = sewV (vA σ 176) i f k (6 + i) := T.at e7 e8
                simp [sg_236_35_2, bs_236, hN _, x_iconst, x_ldc2_w, x_aconst_null, x_iload, x_lload, x_aload, x_istore, x_lstore, x_astore, x_iinc, x_iadd, x_isub, x_imul, x_idiv, x_irem, x_iand, x_ior, x_ixor, x_ishl, x_ishr, x_iushr, x_ineg, x_ladd, x_lsub, x_lmul, x_ldiv, x_lrem, x_lcmp, x_i2l, x_i2b, x_i2s, x_i2c, x_dup, x_pop, x_dup_x1, x_dup2, x_getfield, x_putfield, x_iaload, x_baload, x_saload, x_caload, x_daload, x_faload, x_laload, x_aaload, x_iastore, x_bastore, x_sastore, x_castore, x_lastore, x_aastore, x_arraylength, x_getstatic, x_goto, x_goto_w, x_ifCond, x_if_icmp, x_ifnull, x_ifnonnull, x_lookupswitch, x_invokevirtual, x_invokestatic, x_invokedynamic, x_ireturn, x_freturn, x_dreturn, x_lreturn, x_areturn, x_return_, pI_c, pL_c, pR_c, pV_i, pV_r, gI_c, gL_c, gR_c, pN_z, pN_s, lget_c, lins_z, lins_c, ldel_z, ldel_c, ldel2_z, ldel2_c, lset_i, lset_l, lset_r, lkeep_z, lkeep_c, largs_z, largs_c, cat_i, cat_l, cat_r, lkp_c, cnd_eq, cnd_ne, cnd_lt, cnd_ge, cnd_gt, cnd_le, swL_z, swL_c, rE_e, rOr_s, rOr_n, rlk_z, rlk_c, aR_c, aI_c, aII_c, aIII_c, aRI_c, aRII_c, aRIII_c, vJn, vJs, vlc, aRR_c, aRRI_c, aRRII_c, aRRIII_c, aRIIII_c, aRL_c, aRLL_c, aLL_c, aRRRI_c, aIL_c, aIIII_c, aRRIIII_c, aIRII_c, aIR_c, aLI_c, aRIR_c, aRIIR_c, hM.1.o, hM.1.f23, hM.1.t186, hM.1.l186, e5, e6, e7, e8, e9]
                refine ⟨fun z => ?_, fun z => ?_⟩
                · have hT : tmpB (nM σ) (vA σ 176) i f k ≠ 0 := t1.2 z
                  have KN := KO σ2 k i q2 ⟨Or.inr ⟨by omega, by omega, by omega, by omega, hT, fun j hj => hv.2 j k (by omega) t2 t3 (by omega)⟩, fun j k' a1 a2 a3 a4 => by
                    by_cases hj : j = i
                    · subst hj; exact hb k' a2 (by omega)
                    · exact hv.2 j k' (by omega) a2 a3 (by omega)⟩
                  refine wa (by decide) rgN_ok tk_236 30 (fun N hN => ?_)
                  have c3 : (k : Int) ≤ k + 1 := by omega
                  have c4 : ¬ (k : Int) + 1 < k := by omega
                  simp [bl_236, hN _, x_iconst, x_ldc2_w, x_aconst_null, x_iload, x_lload, x_aload, x_istore, x_lstore, x_astore, x_iinc, x_iadd, x_isub, x_imul, x_idiv, x_irem, x_iand, x_ior, x_ixor, x_ishl, x_ishr, x_iushr, x_ineg, x_ladd, x_lsub, x_lmul, x_ldiv, x_lrem, x_lcmp, x_i2l, x_i2b, x_i2s, x_i2c, x_dup, x_pop, x_dup_x1, x_dup2, x_getfield, x_putfield, x_iaload, x_baload, x_saload, x_caload, x_daload, x_faload, x_laload, x_aaload, x_iastore, x_bastore, x_sastore, x_castore, x_lastore, x_aastore, x_arraylength, x_getstatic, x_goto, x_goto_w, x_ifCond, x_if_icmp, x_ifnull, x_ifnonnull, x_lookupswitch, x_invokevirtual, x_invokestatic, x_invokedynamic, x_ireturn, x_freturn, x_dreturn, x_lreturn, x_areturn, x_return_, pI_c, pL_c, pR_c, pV_i, pV_r, gI_c, gL_c, gR_c, pN_z, pN_s, lget_c, lins_z, lins_c, ldel_z, ldel_c, ldel2_z, ldel2_c, lset_i, lset_l, lset_r, lkeep_z, lkeep_c, largs_z, largs_c, cat_i, cat_l, cat_r, lkp_c, cnd_eq, cnd_ne, cnd_lt, cnd_ge, cnd_gt, cnd_le, swL_z, swL_c, rE_e, rOr_s, rOr_n, rlk_z, rlk_c, aR_c, aI_c, aII_c, aIII_c, aRI_c, aRII_c, aRIII_c, vJn, vJs, vlc, aRR_c, aRRI_c, aRRII_c, aRRIII_c, aRIIII_c, aRL_c, aRLL_c, aLL_c, aRRRI_c, aIL_c, aIIII_c, aRRIIII_c, aIRII_c, aIR_c, aLI_c, aRIR_c, aRIIR_c, c3, c4, e2]
                  exact KN
                · exact K σ2 q2 (fun k' a1 a2 => by
                    by_cases hkk : k' = k
                    · subst hkk; exact Decidable.byContradiction (fun y => z (t1.1 y))
                    · exact hb k' a1 (by omega))
              · simp [bs_236, hN _, x_iconst, x_ldc2_w, x_aconst_null, x_iload, x_lload, x_aload, x_istore, x_lstore, x_astore, x_iinc, x_iadd, x_isub, x_imul, x_idiv, x_irem, x_iand, x_ior, x_ixor, x_ishl, x_ishr, x_iushr, x_ineg, x_ladd, x_lsub, x_lmul, x_ldiv, x_lrem, x_lcmp, x_i2l, x_i2b, x_i2s, x_i2c, x_dup, x_pop, x_dup_x1, x_dup2, x_getfield, x_putfield, x_iaload, x_baload, x_saload, x_caload, x_daload, x_faload, x_laload, x_aaload, x_iastore, x_bastore, x_sastore, x_castore, x_lastore, x_aastore, x_arraylength, x_getstatic, x_goto, x_goto_w, x_ifCond, x_if_icmp, x_ifnull, x_ifnonnull, x_lookupswitch, x_invokevirtual, x_invokestatic, x_invokedynamic, x_ireturn, x_freturn, x_dreturn, x_lreturn, x_areturn, x_return_, pI_c, pL_c, pR_c, pV_i, pV_r, gI_c, gL_c, gR_c, pN_z, pN_s, lget_c, lins_z, lins_c, ldel_z, ldel_c, ldel2_z, ldel2_c, lset_i, lset_l, lset_r, lkeep_z, lkeep_c, largs_z, largs_c, cat_i, cat_l, cat_r, lkp_c, cnd_eq, cnd_ne, cnd_lt, cnd_ge, cnd_gt, cnd_le, swL_z, swL_c, rE_e, rOr_s, rOr_n, rlk_z, rlk_c, aR_c, aI_c, aII_c, aIII_c, aRI_c, aRII_c, aRIII_c, vJn, vJs, vlc, aRR_c, aRRI_c, aRRII_c, aRRIII_c, aRIIII_c, aRL_c, aRLL_c, aLL_c, aRRRI_c, aIL_c, aIIII_c, aRRIIII_c, aIRII_c, aIR_c, aLI_c, aRIR_c, aRIIR_c, c1, Int.not_le.mp c1, hM.1.o, hM.1.f0, hM.1.f23, mpRefS, hA, q.1.md hM, q.1.n, q.1.v, c2, e2]
                exact KX (Or.inl c2)
        have z1 : σ' 175 1 = nM σ := by rw [q.1.2 1 (by unfold scrF; omega), z0]
        have K := I σ' q (fun k a c => by omega)
        refine wa (by decide) rgN_ok tk_236 30 (fun N hN => ?_)
        simp [bl_236, hN _, x_iconst, x_ldc2_w, x_aconst_null, x_iload, x_lload, x_aload, x_istore, x_lstore, x_astore, x_iinc, x_iadd, x_isub, x_imul, x_idiv, x_irem, x_iand, x_ior, x_ixor, x_ishl, x_ishr, x_iushr, x_ineg, x_ladd, x_lsub, x_lmul, x_ldiv, x_lrem, x_lcmp, x_i2l, x_i2b, x_i2s, x_i2c, x_dup, x_pop, x_dup_x1, x_dup2, x_getfield, x_putfield, x_iaload, x_baload, x_saload, x_caload, x_daload, x_faload, x_laload, x_aaload, x_iastore, x_bastore, x_sastore, x_castore, x_lastore, x_aastore, x_arraylength, x_getstatic, x_goto, x_goto_w, x_ifCond, x_if_icmp, x_ifnull, x_ifnonnull, x_lookupswitch, x_invokevirtual, x_invokestatic, x_invokedynamic, x_ireturn, x_freturn, x_dreturn, x_lreturn, x_areturn, x_return_, pI_c, pL_c, pR_c, pV_i, pV_r, gI_c, gL_c, gR_c, pN_z, pN_s, lget_c, lins_z, lins_c, ldel_z, ldel_c, ldel2_z, ldel2_c, lset_i, lset_l, lset_r, lkeep_z, lkeep_c, largs_z, largs_c, cat_i, cat_l, cat_r, lkp_c, cnd_eq, cnd_ne, cnd_lt, cnd_ge, cnd_gt, cnd_le, swL_z, swL_c, rE_e, rOr_s, rOr_n, rlk_z, rlk_c, aR_c, aI_c, aII_c, aIII_c, aRI_c, aRII_c, aRIII_c, vJn, vJs, vlc, aRR_c, aRRI_c, aRRII_c, aRRIII_c, aRIIII_c, aRL_c, aRLL_c, aLL_c, aRRRI_c, aIL_c, aIIII_c, aRRIIII_c, aIRII_c, aIR_c, aLI_c, aRIR_c, aRIIR_c, hM.1.o, z1, e2, i1, i1n, i1x]
        exact K
    have K := O (up σ 175 8 0) 1000000 (-1) ⟨QFM.rf.up sf8, by simp [up_ap], by simp [up_ap], up_ne (by omega)⟩ ⟨Or.inl ⟨rfl, rfl⟩, fun j k a => by omega⟩
    refine wg (by decide) rgN_ok tk_236 py_236 ml_236 30 (by simp [catT]) (fun N hN => ?_)
    simp [bl_236, hN _, x_iconst, x_ldc2_w, x_aconst_null, x_iload, x_lload, x_aload, x_istore, x_lstore, x_astore, x_iinc, x_iadd, x_isub, x_imul, x_idiv, x_irem, x_iand, x_ior, x_ixor, x_ishl, x_ishr, x_iushr, x_ineg, x_ladd, x_lsub, x_lmul, x_ldiv, x_lrem, x_lcmp, x_i2l, x_i2b, x_i2s, x_i2c, x_dup, x_pop, x_dup_x1, x_dup2, x_getfield, x_putfield, x_iaload, x_baload, x_saload, x_caload, x_daload, x_faload, x_laload, x_aaload, x_iastore, x_bastore, x_sastore, x_castore, x_lastore, x_aastore, x_arraylength, x_getstatic, x_goto, x_goto_w, x_ifCond, x_if_icmp, x_ifnull, x_ifnonnull, x_lookupswitch, x_invokevirtual, x_invokestatic, x_invokedynamic, x_ireturn, x_freturn, x_dreturn, x_lreturn, x_areturn, x_return_, pI_c, pL_c, pR_c, pV_i, pV_r, gI_c, gL_c, gR_c, pN_z, pN_s, lget_c, lins_z, lins_c, ldel_z, ldel_c, ldel2_z, ldel2_c, lset_i, lset_l, lset_r, lkeep_z, lkeep_c, largs_z, largs_c, cat_i, cat_l, cat_r, lkp_c, cnd_eq, cnd_ne, cnd_lt, cnd_ge, cnd_gt, cnd_le, swL_z, swL_c, rE_e, rOr_s, rOr_n, rlk_z, rlk_c, aR_c, aI_c, aII_c, aIII_c, aRI_c, aRII_c, aRIII_c, vJn, vJs, vlc, aRR_c, aRRI_c, aRRII_c, aRRIII_c, aRIIII_c, aRL_c, aRLL_c, aLL_c, aRRRI_c, aIL_c, aIIII_c, aRRIIII_c, aIRII_c, aIR_c, aLI_c, aRIR_c, aRIIR_c, hM.1.o, mpSide, f0, f1, Int.not_le.mpr f1, Int.not_lt.mpr f0]
    exact K
  · rw [if_neg hf] at h
    have h := h _ QTM.rf
    refine wg (by decide) rgN_ok tk_236 py_236 ml_236 30 (by simp [catT]) (fun N hN => ?_)
    simp [bl_236, hN _, x_iconst, x_ldc2_w, x_aconst_null, x_iload, x_lload, x_aload, x_istore, x_lstore, x_astore, x_iinc, x_iadd, x_isub, x_imul, x_idiv, x_irem, x_iand, x_ior, x_ixor, x_ishl, x_ishr, x_iushr, x_ineg, x_ladd, x_lsub, x_lmul, x_ldiv, x_lrem, x_lcmp, x_i2l, x_i2b, x_i2s, x_i2c, x_dup, x_pop, x_dup_x1, x_dup2, x_getfield, x_putfield, x_iaload, x_baload, x_saload, x_caload, x_daload, x_faload, x_laload, x_aaload, x_iastore, x_bastore, x_sastore, x_castore, x_lastore, x_aastore, x_arraylength, x_getstatic, x_goto, x_goto_w, x_ifCond, x_if_icmp, x_ifnull, x_ifnonnull, x_lookupswitch, x_invokevirtual, x_invokestatic, x_invokedynamic, x_ireturn, x_freturn, x_dreturn, x_lreturn, x_areturn, x_return_, pI_c, pL_c, pR_c, pV_i, pV_r, gI_c, gL_c, gR_c, pN_z, pN_s, lget_c, lins_z, lins_c, ldel_z, ldel_c, ldel2_z, ldel2_c, lset_i, lset_l, lset_r, lkeep_z, lkeep_c, largs_z, largs_c, cat_i, cat_l, cat_r, lkp_c, cnd_eq, cnd_ne, cnd_lt, cnd_ge, cnd_gt, cnd_le, swL_z, swL_c, rE_e, rOr_s, rOr_n, rlk_z, rlk_c, aR_c, aI_c, aII_c, aIII_c, aRI_c, aRII_c, aRIII_c, vJn, vJs, vlc, aRR_c, aRRI_c, aRRII_c, aRRIII_c, aRIIII_c, aRL_c, aRLL_c, aLL_c, aRRRI_c, aIL_c, aIIII_c, aRRIIII_c, aIRII_c, aIR_c, aLI_c, aRIR_c, aRIIR_c, hM.1.o, mpSide]
    grind
