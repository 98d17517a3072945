/-! the reference: ships come -/
theorem jn_row {V : Int → Int} {i s m : Int} (h0 : 0 ≤ i) (h6 : i < 6) : upv (upv (hoist4 (upv (upv V i m) (6 + i) s) i s 4) (36 + i) 0) (42 + i) 0 = jnV i V s m := by
  funext j
  unfold jnV yieldV
  have key : ∀ W : Int → Int, hoist4 W i s 4 = upv (upv (upv (upv W (12 + 4 * i + 0) (if (0 : Int) = s then 12 else 0)) (12 + 4 * i + 1) (if (1 : Int) = s then 12 else 0)) (12 + 4 * i + 2) (if (2 : Int) = s then 12 else 0)) (12 + 4 * i + 3) (if (3 : Int) = s then 12 else 0) := fun W => rfl
  rw [key, key]
  unfold upv
  by_cases a1 : j = 42 + i
  · subst a1
    rw [if_pos rfl, if_neg (by omega), if_neg (by omega), if_neg (by omega), if_neg (by omega), if_neg (by omega), if_pos rfl]
  by_cases a2 : j = 36 + i
  · subst a2
    rw [if_neg (by omega), if_pos rfl, if_neg (by omega), if_neg (by omega), if_neg (by omega), if_neg (by omega), if_neg (by omega), if_neg (by omega), if_pos rfl]
  by_cases a3 : j = 6 + i
  · subst a3
    rw [if_neg (by omega), if_neg (by omega), if_neg (by omega), if_neg (by omega), if_neg (by omega), if_neg (by omega), if_pos rfl, if_pos rfl]
  rw [if_neg a1, if_neg a2, if_neg a3, if_neg a3, if_neg a1, if_neg a2]
def JnM (σ0 σ' : Mem) (T : Int → Int) (k : Nat) : Prop := (∀ o, o ≠ 175 → o ≠ 176 → o ≠ 177 → σ' o = σ0 o) ∧ (∀ j, j ≠ 1 → σ' 175 j = σ0 175 j) ∧ σ' 175 1 = ((nM σ0 + k : Nat) : Int) ∧ mM σ' = (jnI (nM σ0) (mM σ0) (vA σ0 176) T k).1 ∧ vA σ' 176 = (jnI (nM σ0) (mM σ0) (vA σ0 176) T k).2
theorem mM_put {σ : Mem} {i x : Int} (h0 : 0 ≤ i) (h6 : i < 6) : mM (up σ 177 i x) = upv (mM σ) i x := by
  funext j
  unfold mM upv
  rw [up_ap]
  by_cases hj : j = i
  · subst hj; rw [if_pos ⟨h0, h6⟩, if_pos ⟨rfl, rfl⟩, if_pos rfl]
  · rw [if_neg hj]; simp [hj]
set_option maxHeartbeats 1000000 in
theorem m_joins {l : Launch} {g : GE} {d : Nat} {t : Tau} {σ : Mem} {Q : Post} {T : Int → Int} {L : Nat} (hM : TM t) (hn : σ 175 1 = (nM σ : Int)) (hL : nM σ + L ≤ 6) (hc : ∀ j : Nat, j < L → σ 180 (2 * j : Nat) = jnS T j ∧ σ 180 (2 * j + 1 : Nat) = jnM T j) (h : ∀ σ', JnM σ σ' T L → Q (some (vI L)) t (up (up σ' 175 21 0) 175 37 (w32 (σ 175 37 + 1)))) : Wp l g 189 (d + 6) 0 0 121 [(0, vR 175), (1, vI L), (3, vI (0 : Nat))] [] t σ Q := by
  have oM := hM.o
  have K : ∀ σ', JnM σ σ' T 0 → Wp l g 189 (d + 6) 0 0 121 [(0, vR 175), (1, vI L), (3, vI (0 : Nat))] [] t σ' Q := by
    refine lpU (P := fun k => ∀ σ', JnM σ σ' T k → Wp l g 189 (d + 6) 0 0 121 [(0, vR 175), (1, vI L), (3, vI k)] [] t σ' Q) (n := L) ?_ (fun k hk K σ' hJ => ?_)
    · intro σ' hJ
      have e37 : σ' 175 37 = σ 175 37 := hJ.2.1 37 (by omega)
      have K := h σ' hJ
      refine wa (by decide) rE_nil tk_189 30 (fun N hN => ?_)
      simp [bl_189, hN _, x_iconst, x_ldc2_w, x_aconst_null, x_iload, x_lload, x_aload, x_istore, x_lstore, x_astore, x_iinc, x_iadd, x_isub, x_imul, x_idiv, x_irem, x_iand, x_ior, x_ixor, x_ishl, x_ishr, x_iushr, x_ineg, x_ladd, x_lsub, x_lmul, x_ldiv, x_lrem, x_lcmp, x_i2l, x_i2b, x_i2s, x_i2c, x_dup, x_pop, x_dup_x1, x_dup2, x_getfield, x_putfield, x_iaload, x_baload, x_saload, x_caload, x_daload, x_faload, x_laload, x_aaload, x_iastore, x_bastore, x_sastore, x_castore, x_lastore, x_aastore, x_arraylength, x_getstatic, x_goto, x_goto_w, x_ifCond, x_if_icmp, x_ifnull, x_ifnonnull, x_lookupswitch, x_invokevirtual, x_invokestatic, x_invokedynamic, x_ireturn, x_freturn, x_dreturn, x_lreturn, x_areturn, x_return_, pI_c, pL_c, pR_c, pV_i, pV_r, gI_c, gL_c, gR_c, pN_z, pN_s, lget_c, lins_z, lins_c, ldel_z, ldel_c, ldel2_z, ldel2_c, lset_i, lset_l, lset_r, lkeep_z, lkeep_c, largs_z, largs_c, cat_i, cat_l, cat_r, lkp_c, cnd_eq, cnd_ne, cnd_lt, cnd_ge, cnd_gt, cnd_le, swL_z, swL_c, rE_e, rOr_s, rOr_n, rlk_z, rlk_c, aR_c, aI_c, aII_c, aIII_c, aRI_c, aRII_c, aRIII_c, vJn, vJs, vlc, aRR_c, aRRI_c, aRRII_c, aRRIII_c, aRIIII_c, aRL_c, aRLL_c, aLL_c, aRRRI_c, aIL_c, aIIII_c, aRRIIII_c, aIRII_c, aIR_c, aLI_c, aRIR_c, aRIIR_c, oM, up_ap, e37]
      exact K
    · have e2 := w32_succ (k := k) (by omega); have i1 : ((k : Nat) : Int) < (L : Nat) := (by omega); have i1n : k < L := (by omega); have i1x : ¬ L ≤ k := (by omega)
      obtain ⟨j1, j2, j3, j4, j5⟩ := hJ
      obtain ⟨c1, c2⟩ := hc k hk
      have c1' : σ' 180 (2 * k : Nat) = jnS T k := by rw [j1 180 (by omega) (by omega) (by omega)]; exact c1
      have c2' : σ' 180 (2 * k + 1 : Nat) = jnM T k := by rw [j1 180 (by omega) (by omega) (by omega)]; exact c2
      have es : jnI (nM σ) (mM σ) (vA σ 176) T (k + 1) = (upv (jnI (nM σ) (mM σ) (vA σ 176) T k).1 ((nM σ + k : Nat) : Int) (jnM T k), jnV ((nM σ + k : Nat) : Int) (jnI (nM σ) (mM σ) (vA σ 176) T k).2 (jnS T k) (jnM T k)) := rfl
      unfold JnM at K
      rw [es] at K
      generalize jnI (nM σ) (mM σ) (vA σ 176) T k = MV at K j4 j5
      obtain ⟨M, V⟩ := MV
      simp only at K j4 j5
      generalize hs : jnS T k = s at K c1'
      generalize hm : jnM T k = m at K c2'
      generalize hi : ((nM σ + k : Nat) : Int) = i at K j3
      have i0 : 0 ≤ i := by omega
      have i6 : i < 6 := by omega
      have i50 : i < 50 := by omega
      have w2k : w32 (2 * (k : Int)) = 2 * k := w32_id (by omega) (by omega)
      have w2k1 : w32 (2 * (k : Int) + 1) = 2 * k + 1 := w32_id (by omega) (by omega)
      have w6 : w32 (6 + i) = 6 + i := w32_id (by omega) (by omega)
      have b6 : 0 ≤ 6 + i ∧ 6 + i < 50 := by omega
      have b2k : 0 ≤ 2 * (k : Int) ∧ 2 * (k : Int) < 12 ∧ 0 ≤ 2 * (k : Int) + 1 ∧ 2 * (k : Int) + 1 < 12 := by omega
      have c1i : σ' 180 (2 * (k : Int)) = s := by rw [← c1']; congr 1
      have c2i : σ' 180 (2 * (k : Int) + 1) = m := by rw [← c2']; congr 1
      have w12 : w32 (12 + w32 (4 * i)) = 12 + 4 * i := by rw [w32_id (x := 4 * i) (by omega) (by omega), w32_id (by omega) (by omega)]
      have w4 : w32 (4 * i) = 4 * i := w32_id (by omega) (by omega)
      generalize hσ1 : up σ' 177 i m = σ1
      have o1 : ∀ o, o ≠ 177 → σ1 o = σ' o := fun o a => by rw [← hσ1, up_ne a]
      have T3 : RowTo σ1 (up (up σ1 176 i m) 176 (6 + i) s) 176 (upv (upv V i m) (6 + i) s) := by
        have := ((RowTo.rf (σ := σ1) (r := 176)).put (j := i) (x := m) i0 i50).put (j := 6 + i) (x := s) b6.1 b6.2
        have ev : vA σ1 176 = V := by rw [← j5]; unfold vA; rw [o1 176 (by omega)]
        rwa [ev] at this
      have I : ∀ σ2, RowTo σ1 σ2 176 (hoist4 (upv (upv V i m) (6 + i) s) i s 0) → Wp l g 189 (d + 6) 0 0 186 [(0, vR 175), (1, vI L), (3, vI k), (4, vI (0 : Nat))] [] t σ2 Q := by
        refine lpU (P := fun f => ∀ σ2, RowTo σ1 σ2 176 (hoist4 (upv (upv V i m) (6 + i) s) i s f) → Wp l g 189 (d + 6) 0 0 186 [(0, vR 175), (1, vI L), (3, vI k), (4, vI f)] [] t σ2 Q) (n := 4) ?_ (fun f hf KI σ2 T2 => ?_)
        · intro σ2 T2
          have z1 : σ2 175 1 = i := by rw [T2.1 175 (by omega), o1 175 (by omega), j3]
          have w36 : w32 (36 + i) = 36 + i := w32_id (by omega) (by omega)
          have w42 : w32 (42 + i) = 42 + i := w32_id (by omega) (by omega)
          have b36 : 0 ≤ 36 + i ∧ 36 + i < 50 := by omega
          have b42 : 0 ≤ 42 + i ∧ 42 + i < 50 := by omega
          have w1 : w32 (i + 1) = i + 1 := w32_id (by omega) (by omega)
          have T5 := (T2.put (j := 36 + i) (x := 0) b36.1 b36.2).put (j := 42 + i) (x := 0) b42.1 b42.2
          rw [jn_row i0 i6] at T5
          have K := K (up (up (up σ2 176 (36 + i) 0) 176 (42 + i) 0) 175 1 (i + 1)) ⟨fun o a b c => by rw [up_ne a, T5.1 o b, o1 o c]; exact j1 o a b c, fun j a => by rw [up_ap, if_neg (fun z => a z.2), T5.1 175 (by omega), o1 175 (by omega)]; exact j2 j a, by rw [up_ap, if_pos ⟨rfl, rfl⟩]; omega, by
            rw [mM_up (by omega)]
            have : mM (up (up σ2 176 (36 + i) 0) 176 (42 + i) 0) = mM σ1 := by unfold mM; rw [T5.1 177 (by omega)]
            rw [this, ← hσ1, mM_put i0 i6, j4], by rw [vA_up (by omega)]; exact T5.2⟩
          refine wa (by decide) rE_nil tk_189 30 (fun N hN => ?_)
          simp [bl_189, hN _, x_iconst, x_ldc2_w, x_aconst_null, x_iload, x_lload, x_aload, x_istore, x_lstore, x_astore, x_iinc, x_iadd, x_isub, x_imul, x_idiv, x_irem, x_iand, x_ior, x_ixor, x_ishl, x_ishr, x_iushr, x_ineg, x_ladd, x_lsub, x_lmul, x_ldiv, x_lrem, x_lcmp, x_i2l, x_i2b, x_i2s, x_i2c, x_dup, x_pop, x_dup_x1, x_dup2, x_getfield, x_putfield, x_iaload, x_baload, x_saload, x_caload, x_daload, x_faload, x_laload, x_aaload, x_iastore, x_bastore, x_sastore, x_castore, x_lastore, x_aastore, x_arraylength, x_getstatic, x_goto, x_goto_w, x_ifCond, x_if_icmp, x_ifnull, x_ifnonnull, x_lookupswitch, x_invokevirtual, x_invokestatic, x_invokedynamic, x_ireturn, x_freturn, x_dreturn, x_lreturn, x_areturn, x_return_, pI_c, pL_c, pR_c, pV_i, pV_r, gI_c, gL_c, gR_c, pN_z, pN_s, lget_c, lins_z, lins_c, ldel_z, ldel_c, ldel2_z, ldel2_c, lset_i, lset_l, lset_r, lkeep_z, lkeep_c, largs_z, largs_c, cat_i, cat_l, cat_r, lkp_c, cnd_eq, cnd_ne, cnd_lt, cnd_ge, cnd_gt, cnd_le, swL_z, swL_c, rE_e, rOr_s, rOr_n, rlk_z, rlk_c, aR_c, aI_c, aII_c, aIII_c, aRI_c, aRII_c, aRIII_c, vJn, vJs, vlc, aRR_c, aRRI_c, aRRII_c, aRRIII_c, aRIIII_c, aRL_c, aRLL_c, aLL_c, aRRRI_c, aIL_c, aIIII_c, aRRIIII_c, aIRII_c, aIR_c, aLI_c, aRIR_c, aRIIR_c, oM, hM.f0, hM.t176, hM.l176, z1, w36, w42, b36, b42, up_ap, w1, e2]
          exact K
        · have e2 := w32_succ (k := f) (by omega); have i1 : ((f : Nat) : Int) < 4 := (by omega); have i1n : f < 4 := (by omega); have i1x : ¬ (4 : Int) ≤ (f : Nat) := (by omega)
          have z1 : σ2 175 1 = i := by rw [T2.1 175 (by omega), o1 175 (by omega), j3]
          have e5 : w32 (12 + 4 * i + f) = 12 + 4 * i + f := w32_id (by omega) (by omega)
          have e6 : 0 ≤ 12 + 4 * i + (f : Int) := by omega
          have e7 : 12 + 4 * i + (f : Int) < 50 := by omega
          have c1j : σ2 180 (2 * (k : Int)) = s := by rw [T2.1 180 (by omega), o1 180 (by omega)]; exact c1i
          have es2 : hoist4 (upv (upv V i m) (6 + i) s) i s (f + 1) = upv (hoist4 (upv (upv V i m) (6 + i) s) i s f) (12 + 4 * i + f) (if (f : Int) = s then 12 else 0) := rfl
          rw [es2] at KI
          have KI := KI _ (T2.put (j := 12 + 4 * i + f) e6 e7)
          have w12' : w32 (12 + 4 * i) = 12 + 4 * i := w32_id (by omega) (by omega)
          refine wa (by decide) rE_nil tk_189 30 (fun N hN => ?_)
          simp [bl_189, hN _, x_iconst, x_ldc2_w, x_aconst_null, x_iload, x_lload, x_aload, x_istore, x_lstore, x_astore, x_iinc, x_iadd, x_isub, x_imul, x_idiv, x_irem, x_iand, x_ior, x_ixor, x_ishl, x_ishr, x_iushr, x_ineg, x_ladd, x_lsub, x_lmul, x_ldiv, x_lrem, x_lcmp, x_i2l, x_i2b, x_i2s, x_i2c, x_dup, x_pop, x_dup_x1, x_dup2, x_getfield, x_putfield, x_iaload, x_baload, x_saload, x_caload, x_daload, x_faload, x_laload, x_aaload, x_iastore, x_bastore, x_sastore, x_castore, x_lastore, x_aastore, x_arraylength, x_getstatic, x_goto, x_goto_w, x_ifCond, x_if_icmp, x_ifnull, x_ifnonnull, x_lookupswitch, x_invokevirtual, x_invokestatic, x_invokedynamic, x_ireturn, x_freturn, x_dreturn, x_lreturn, x_areturn, x_return_, pI_c, pL_c, pR_c, pV_i, pV_r, gI_c, gL_c, gR_c, pN_z, pN_s, lget_c, lins_z, lins_c, ldel_z, ldel_c, ldel2_z, ldel2_c, lset_i, lset_l, lset_r, lkeep_z, lkeep_c, largs_z, largs_c, cat_i, cat_l, cat_r, lkp_c, cnd_eq, cnd_ne, cnd_lt, cnd_ge, cnd_gt, cnd_le, swL_z, swL_c, rE_e, rOr_s, rOr_n, rlk_z, rlk_c, aR_c, aI_c, aII_c, aIII_c, aRI_c, aRII_c, aRIII_c, vJn, vJs, vlc, aRR_c, aRRI_c, aRRII_c, aRRIII_c, aRIIII_c, aRL_c, aRLL_c, aLL_c, aRRRI_c, aIL_c, aIIII_c, aRRIIII_c, aIRII_c, aIR_c, aLI_c, aRIR_c, aRIIR_c, oM, hM.f0, hM.f14, hM.t176, hM.l176, hM.t180, hM.l180, e2, i1, i1n, i1x, z1, w4, w12', e5, e6, e7, w2k, b2k, c1j]
          refine ⟨fun z => ?_, fun z => ?_⟩
          · rw [if_neg z] at KI; exact KI
          · rw [if_pos z] at KI; exact KI
      have I := I _ T3
      refine wa (by decide) rE_nil tk_189 30 (fun N hN => ?_)
      simp [bl_189, hN _, x_iconst, x_ldc2_w, x_aconst_null, x_iload, x_lload, x_aload, x_istore, x_lstore, x_astore, x_iinc, x_iadd, x_isub, x_imul, x_idiv, x_irem, x_iand, x_ior, x_ixor, x_ishl, x_ishr, x_iushr, x_ineg, x_ladd, x_lsub, x_lmul, x_ldiv, x_lrem, x_lcmp, x_i2l, x_i2b, x_i2s, x_i2c, x_dup, x_pop, x_dup_x1, x_dup2, x_getfield, x_putfield, x_iaload, x_baload, x_saload, x_caload, x_daload, x_faload, x_laload, x_aaload, x_iastore, x_bastore, x_sastore, x_castore, x_lastore, x_aastore, x_arraylength, x_getstatic, x_goto, x_goto_w, x_ifCond, x_if_icmp, x_ifnull, x_ifnonnull, x_lookupswitch, x_invokevirtual, x_invokestatic, x_invokedynamic, x_ireturn, x_freturn, x_dreturn, x_lreturn, x_areturn, x_return_, pI_c, pL_c, pR_c, pV_i, pV_r, gI_c, gL_c, gR_c, pN_z, pN_s, lget_c, lins_z, lins_c, ldel_z, ldel_c, ldel2_z, ldel2_c, lset_i, lset_l, lset_r, lkeep_z, lkeep_c, largs_z, largs_c, cat_i, cat_l, cat_r, lkp_c, cnd_eq, cnd_ne, cnd_lt, cnd_ge, cnd_gt, cnd_le, swL_z, swL_c, rE_e, rOr_s, rOr_n, rlk_z, rlk_c, aR_c, aI_c, aII_c, aIII_c, aRI_c, aRII_c, aRIII_c, vJn, vJs, vlc, aRR_c, aRRI_c, aRRII_c, aRRIII_c, aRIIII_c, aRL_c, aRLL_c, aLL_c, aRRRI_c, aIL_c, aIIII_c, aRRIIII_c, aIRII_c, aIR_c, aLI_c, aRIR_c, aRIIR_c, oM, hM.f0, hM.f3, hM.f14, hM.t176, hM.l176, hM.t177, hM.l177, hM.t180, hM.l180, e2, i1, i1n, i1x, j3, w2k, w2k1, b2k, c1i, c2i, w6, b6, i0, i6, i50, up_ap, hσ1]
      exact I
  exact K σ ⟨fun _ _ _ _ => rfl, fun _ _ => rfl, by rw [hn]; simp, rfl, rfl⟩
