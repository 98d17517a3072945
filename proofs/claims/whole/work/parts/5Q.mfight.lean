/-! the reference: a fight -/
def GfF (σ σ' : Mem) (r : Int) (W : Int → Int) : Prop := ((∀ o, o ≠ 175 → o ≠ 183 → o ≠ r → σ' o = σ o) ∧ ∀ j, ¬ (9 ≤ j ∧ j ≤ 13) → j ≠ 18 → σ' 175 j = σ 175 j) ∧ vA σ' r = W
/-- the five writes of a fight that w wins over l -/
theorem gf_row {σ : Mem} {r w l : Int} (w0 : 0 ≤ w) (w6 : w < 6) (l0 : 0 ≤ l) (l6 : l < 6) (k : Int) (a : 0 ≤ vA σ r (6 + w) ∧ vA σ r (6 + w) < 4) (b : 0 ≤ vA σ r (6 + l) ∧ vA σ r (6 + l) < 4) (hne : vA σ r (6 + w) ≠ vA σ r (6 + l)) : RowTo σ (up (up (up (up (up σ r (12 + 4 * w + vA σ r (6 + w)) (ownV (vA σ r) w - k)) r (12 + 4 * w + vA σ r (6 + l)) (partV (vA σ r) w (vA σ r (6 + l)) + k)) r (36 + w) (min 99 (vA σ r (36 + w) + 1))) r l (max 0 (vA σ r l - 1))) r (42 + l) (min 99 (vA σ r (42 + l) + 1))) r (upv (upv (upv (sewP (vA σ r) w (vA σ r (6 + w)) (vA σ r (6 + l)) k) (36 + w) (min (vA σ r (36 + w) + 1) 99)) l (max (vA σ r l - 1) 0)) (42 + l) (min (vA σ r (42 + l) + 1) 99)) := by
  have T := ((((RowTo.rf (σ := σ) (r := r)).put (j := 12 + 4 * w + vA σ r (6 + w)) (x := ownV (vA σ r) w - k) (by omega) (by omega)).put (j := 12 + 4 * w + vA σ r (6 + l)) (x := partV (vA σ r) w (vA σ r (6 + l)) + k) (by omega) (by omega)).put (j := 36 + w) (x := min 99 (vA σ r (36 + w) + 1)) (by omega) (by omega)).put (j := l) (x := max 0 (vA σ r l - 1)) (by omega) (by omega) |>.put (j := 42 + l) (x := min 99 (vA σ r (42 + l) + 1)) (by omega) (by omega)
  have e : sewP (vA σ r) w (vA σ r (6 + w)) (vA σ r (6 + l)) k = upv (upv (vA σ r) (12 + 4 * w + vA σ r (6 + w)) (ownV (vA σ r) w - k)) (12 + 4 * w + vA σ r (6 + l)) (partV (vA σ r) w (vA σ r (6 + l)) + k) := by
    unfold sewP
    rw [upv_n (show 12 + 4 * w + vA σ r (6 + l) ≠ 12 + 4 * w + vA σ r (6 + w) by omega)]
  rw [e, Int.min_comm (vA σ r (36 + w) + 1) 99, Int.max_comm (vA σ r l - 1) 0, Int.min_comm (vA σ r (42 + l) + 1) 99]
  exact T
theorem winV_c {F : (Int → Int) → Int} {V : Int → Int} {i j : Int} (h : ¬ winV F V i j < 0) (hi : 0 ≤ i) (hj : 0 ≤ j) : V (6 + i) ≠ V (6 + j) ∧ (winV F V i j = i ∨ winV F V i j = j) := by
  unfold winV at h ⊢
  by_cases h6 : V (6 + i) = V (6 + j)
  · rw [if_pos h6] at h; omega
  · rw [if_neg h6] at h ⊢
    by_cases h7 : F (envV V i j) = F (envV V j i)
    · rw [if_pos h7] at h; omega
    · rw [if_neg h7] at h ⊢
      refine ⟨h6, ?_⟩
      split
      · exact Or.inl rfl
      · exact Or.inr rfl
abbrev rgGf : Reg := (206, mpWin) :: rgFo
theorem rgGf_ok {l : Launch} {g : GE} {d : Nat} : ∀ e as t σ Q, rE l g (d + 91) rgGf e as t σ Q → WPc l g e (d + 91) 0 0 as t σ Q := rE_cons (fun _ _ _ _ h => m_winnerOf h) (rgFo_ok (d := d + 1))
def mpGoF : Sp := fun as t σ Q => aRRII as fun a r i j => a = 175 ∧ ∃ F, MR t σ F ∧ MdOk t σ ∧ ARow t σ r ∧ (r ≠ 175 ∧ r ≠ 183) ∧ prB (nM σ) i j ∧ (1 ≤ σ 175 2 ∧ σ 175 2 ≤ 6) ∧ ∀ σ', GfF σ σ' r (fgtV F (nM σ) (σ 175 2) (vA σ r) i j) → Q (some (vI (winA F (nM σ) (vA σ r) i j))) t σ'
set_option maxRecDepth 40000 in
set_option maxHeartbeats 4000000 in
theorem m_goFight {l : Launch} {g : GE} {d : Nat} {t : Tau} {σ : Mem} {Q : Post} {as : List TV} (h0 : mpGoF as t σ Q) : WPc l g 207 (d + 92) 0 0 as t σ Q := by
  obtain ⟨a, r, i, j, rfl, rfl, F, hR, hM, hA, ⟨r1, r2⟩, ⟨⟨i0, si⟩, ⟨j0, sj⟩, hij⟩, ⟨k1, k2⟩, h⟩ := aRRII_e h0
  clear h0
  have n6 := hM.2.2
  have hp : prB (nM σ) i j := ⟨⟨i0, si⟩, ⟨j0, sj⟩, hij⟩
  have eW : winA F (nM σ) (vA σ r) i j = winV F (vA σ r) i j := by unfold winA; rw [if_pos hp]
  unfold fgtV at h
  rw [eW] at h
  have hi := sd_in hA.2 i0 si
  have hj := sd_in hA.2 j0 sj
  have oi := own_in hA.2 i0 si
  have oj := own_in hA.2 j0 sj
  have pi' := hA.2.pt i0 si hj.1 hj.2
  have pj' := hA.2.pt j0 sj hi.1 hi.2
  obtain ⟨gi, -, -, -, gi5, gi6⟩ := hA.2.2.1 i i0 si
  obtain ⟨gj, -, -, -, gj5, gj6⟩ := hA.2.2.1 j j0 sj
  have h49 := hA.2.2.2.1
  generalize hWv : winV F (vA σ r) i j = W at h
  have hWc := winV_c (F := F) (V := vA σ r) (i := i) (j := j)
  rw [hWv] at hWc
  refine wg (by decide) rgGf_ok ts_207 py_207 ml_207 30 (by simp [catT]) (fun N hN => ?_)
  simp [bs_207, hN _, x_iconst, x_ldc2_w, x_aconst_null, x_iload, x_lload, x_aload, x_istore, x_lstore, x_astore, x_iinc, x_iadd, x_isub, x_imul, x_idiv, x_irem, x_iand, x_ior, x_ixor, x_ishl, x_ishr, x_iushr, x_ineg, x_ladd, x_lsub, x_lmul, x_ldiv, x_lrem, x_lcmp, x_i2l, x_i2b, x_i2s, x_i2c, x_dup, x_pop, x_dup_x1, x_dup2, x_getfield, x_putfield, x_iaload, x_baload, x_saload, x_caload, x_daload, x_faload, x_laload, x_aaload, x_iastore, x_bastore, x_sastore, x_castore, x_lastore, x_aastore, x_arraylength, x_getstatic, x_goto, x_goto_w, x_ifCond, x_if_icmp, x_ifnull, x_ifnonnull, x_lookupswitch, x_invokevirtual, x_invokestatic, x_invokedynamic, x_ireturn, x_freturn, x_dreturn, x_lreturn, x_areturn, x_return_, pI_c, pL_c, pR_c, pV_i, pV_r, gI_c, gL_c, gR_c, pN_z, pN_s, lget_c, lins_z, lins_c, ldel_z, ldel_c, ldel2_z, ldel2_c, lset_i, lset_l, lset_r, lkeep_z, lkeep_c, largs_z, largs_c, cat_i, cat_l, cat_r, lkp_c, cnd_eq, cnd_ne, cnd_lt, cnd_ge, cnd_gt, cnd_le, swL_z, swL_c, rE_e, rOr_s, rOr_n, rlk_z, rlk_c, aR_c, aI_c, aII_c, aIII_c, aRI_c, aRII_c, aRIII_c, vJn, vJs, vlc, aRR_c, aRRI_c, aRRII_c, aRRIII_c, aRIIII_c, aRL_c, aRLL_c, aLL_c, aRRRI_c, aIL_c, aIIII_c, aRRIIII_c, aIRII_c, aIR_c, aLI_c, aRIR_c, aRIIR_c, hM.1.o, mpWin, hM, hA, r1, r2, i0, si, j0, sj]
  refine ⟨F, hR, fun σ1 f1 => ?_⟩
  rw [hWv]
  have v1 := f1.v r1 r2
  have t1 : σ1 175 2 = σ 175 2 := f1.2 2 (by omega) (by omega)
  by_cases hz : W < 0
  · rw [if_pos hz] at h
    simp [sg_207_0_1, bs_207, hN _, x_iconst, x_ldc2_w, x_aconst_null, x_iload, x_lload, x_aload, x_istore, x_lstore, x_astore, x_iinc, x_iadd, x_isub, x_imul, x_idiv, x_irem, x_iand, x_ior, x_ixor, x_ishl, x_ishr, x_iushr, x_ineg, x_ladd, x_lsub, x_lmul, x_ldiv, x_lrem, x_lcmp, x_i2l, x_i2b, x_i2s, x_i2c, x_dup, x_pop, x_dup_x1, x_dup2, x_getfield, x_putfield, x_iaload, x_baload, x_saload, x_caload, x_daload, x_faload, x_laload, x_aaload, x_iastore, x_bastore, x_sastore, x_castore, x_lastore, x_aastore, x_arraylength, x_getstatic, x_goto, x_goto_w, x_ifCond, x_if_icmp, x_ifnull, x_ifnonnull, x_lookupswitch, x_invokevirtual, x_invokestatic, x_invokedynamic, x_ireturn, x_freturn, x_dreturn, x_lreturn, x_areturn, x_return_, pI_c, pL_c, pR_c, pV_i, pV_r, gI_c, gL_c, gR_c, pN_z, pN_s, lget_c, lins_z, lins_c, ldel_z, ldel_c, ldel2_z, ldel2_c, lset_i, lset_l, lset_r, lkeep_z, lkeep_c, largs_z, largs_c, cat_i, cat_l, cat_r, lkp_c, cnd_eq, cnd_ne, cnd_lt, cnd_ge, cnd_gt, cnd_le, swL_z, swL_c, rE_e, rOr_s, rOr_n, rlk_z, rlk_c, aR_c, aI_c, aII_c, aIII_c, aRI_c, aRII_c, aRIII_c, vJn, vJs, vlc, aRR_c, aRRI_c, aRRII_c, aRRIII_c, aRIIII_c, aRL_c, aRLL_c, aLL_c, aRRRI_c, aIL_c, aIIII_c, aRRIIII_c, aIRII_c, aIR_c, aLI_c, aRIR_c, aRIIR_c, Int.not_le.mpr hz, hz]
    exact h σ1 ⟨⟨fun o a b _ => f1.1 o a b, f1.2⟩, v1⟩
  · obtain ⟨h6, hc⟩ := hWc hz i0 j0
    rw [if_neg hz] at h
    have hz' : 0 ≤ W := by omega
    have hz2 : ¬ W < 0 := hz
    rcases hc with rfl | rfl
    · have hw : True := trivial
      rw [if_pos rfl] at h
      have RW := gf_row (σ := σ1) (r := r) (w := W) (l := j) i0 (by omega) j0 (by omega) (min (σ 175 2) (ownV (vA σ r) W)) (by rw [v1]; exact hi) (by rw [v1]; exact hj) (by rw [v1]; exact h6)
      rw [v1] at RW
      rw [strikeV_eq i0 (by omega) j0 (by omega) hi.1 hj.1 hi.2 hj.2] at h
      generalize hK : min (σ 175 2) (ownV (vA σ r) W) = K at RW h
      have K0 : 0 ≤ K ∧ K ≤ 6 := by omega
      have x1 : σ1 r (6 + W) = vA σ r (6 + W) := by rw [vA_at (σ := σ1) (r := r) (by omega) (by omega), v1]
      have x2 : σ1 r (6 + j) = vA σ r (6 + j) := by rw [vA_at (σ := σ1) (r := r) (by omega) (by omega), v1]
      generalize hA' : 12 + 4 * W + vA σ r (6 + W) = A at RW
      generalize hB' : 12 + 4 * W + vA σ r (6 + j) = B at RW
      have bA : 0 ≤ A ∧ A < 50 := by omega
      have bB : 0 ≤ B ∧ B < 50 := by omega
      have xA : σ1 r A = ownV (vA σ r) W := by rw [vA_at (σ := σ1) (r := r) bA.1 bA.2, v1, ← hA']
      have y1 : ∀ x, up σ1 r A x r (6 + j) = vA σ r (6 + j) := fun x => by rw [up_ap, if_neg (by omega)]; exact x2
      have y2 : ∀ x, up σ1 r A x r B = partV (vA σ r) W (vA σ r (6 + j)) := fun x => by rw [up_ap, if_neg (by omega), vA_at (σ := σ1) (r := r) bB.1 bB.2, v1, ← hB']
      have y3 : ∀ x y, up (up σ1 r A x) r B y r (36 + W) = vA σ r (36 + W) := fun x y => by rw [up_ap, if_neg (by omega), up_ap, if_neg (by omega), vA_at (σ := σ1) (r := r) (by omega) (by omega), v1]
      have y4 : ∀ x y z, up (up (up σ1 r A x) r B y) r (36 + W) z r j = vA σ r j := fun x y z => by rw [up_ap, if_neg (by omega), up_ap, if_neg (by omega), up_ap, if_neg (by omega), vA_at (σ := σ1) (r := r) (by omega) (by omega), v1]
      have y5 : ∀ x y z u, up (up (up (up σ1 r A x) r B y) r (36 + W) z) r j u r (42 + j) = vA σ r (42 + j) := fun x y z u => by rw [up_ap, if_neg (by omega), up_ap, if_neg (by omega), up_ap, if_neg (by omega), up_ap, if_neg (by omega), vA_at (σ := σ1) (r := r) (by omega) (by omega), v1]
      have c1 : w32 (6 + W) = 6 + W := w32_id (by omega) (by omega)
      have c2 : w32 (6 + j) = 6 + j := w32_id (by omega) (by omega)
      have c3 : w32 (4 * W) = 4 * W := w32_id (by omega) (by omega)
      have c4 : w32 (12 + 4 * W) = 12 + 4 * W := w32_id (by omega) (by omega)
      have c5 : w32 (12 + 4 * W + vA σ r (6 + W)) = A := by rw [w32_id (by omega) (by omega), hA']
      have c6 : w32 (12 + 4 * W + vA σ r (6 + j)) = B := by rw [w32_id (by omega) (by omega), hB']
      have c7 : w32 (36 + W) = 36 + W := w32_id (by omega) (by omega)
      have c8 : w32 (42 + j) = 42 + j := w32_id (by omega) (by omega)
      have c9 : w32 (ownV (vA σ r) W - K) = ownV (vA σ r) W - K := w32_id (by omega) (by omega)
      have c10 : w32 (partV (vA σ r) W (vA σ r (6 + j)) + K) = partV (vA σ r) W (vA σ r (6 + j)) + K := w32_id (by omega) (by omega)
      have c11 : w32 (vA σ r (36 + W) + 1) = vA σ r (36 + W) + 1 := w32_id (by omega) (by omega)
      have c12 : w32 (vA σ r j - 1) = vA σ r j - 1 := w32_id (by omega) (by omega)
      have c13 : w32 (vA σ r (42 + j) + 1) = vA σ r (42 + j) + 1 := w32_id (by omega) (by omega)
      have q1 : 0 ≤ 6 + W ∧ 6 + W < 50 := by omega
      have q2 : 0 ≤ 6 + j ∧ 6 + j < 50 := by omega
      have q3 : 0 ≤ 36 + W ∧ 36 + W < 50 := by omega
      have q4 : 0 ≤ 42 + j ∧ 42 + j < 50 := by omega
      have q5 : 0 ≤ j ∧ j < 50 := by omega
      have q6 : W < 6 := by omega
      have q7 : j < 6 := by omega
      have g1 : ∀ z, z ≠ A → z ≠ B → z ≠ 36 + W → z ≠ j → z ≠ 42 + j → 0 ≤ z → z < 50 → upv (upv (upv (sewP (vA σ r) W (vA σ r (6 + W)) (vA σ r (6 + j)) K) (36 + W) (min (vA σ r (36 + W) + 1) 99)) j (max (vA σ r j - 1) 0)) (42 + j) (min (vA σ r (42 + j) + 1) 99) z = vA σ r z := fun z z1 z2 z3 z4 z5 _ _ => by
        rw [upv_n z5, upv_n z4, upv_n z3, sewP_n (by rw [hA']; exact z1) (by rw [hB']; exact z2)]
      generalize hV5 : upv (upv (upv (sewP (vA σ r) W (vA σ r (6 + W)) (vA σ r (6 + j)) K) (36 + W) (min (vA σ r (36 + W) + 1) 99)) j (max (vA σ r j - 1) 0)) (42 + j) (min (vA σ r (42 + j) + 1) 99) = V5 at RW h g1
      have g2 := g1 (6 + W) (by omega) (by omega) (by omega) (by omega) (by omega) (by omega) (by omega)
      have g3 := g1 (6 + j) (by omega) (by omega) (by omega) (by omega) (by omega) (by omega) (by omega)
      have g4 := g1 49 (by omega) (by omega) (by omega) (by omega) (by omega) (by omega) (by omega)
      have RV := RW.2
      simp [sg_207_0_1, bs_207, hN _, x_iconst, x_ldc2_w, x_aconst_null, x_iload, x_lload, x_aload, x_istore, x_lstore, x_astore, x_iinc, x_iadd, x_isub, x_imul, x_idiv, x_irem, x_iand, x_ior, x_ixor, x_ishl, x_ishr, x_iushr, x_ineg, x_ladd, x_lsub, x_lmul, x_ldiv, x_lrem, x_lcmp, x_i2l, x_i2b, x_i2s, x_i2c, x_dup, x_pop, x_dup_x1, x_dup2, x_getfield, x_putfield, x_iaload, x_baload, x_saload, x_caload, x_daload, x_faload, x_laload, x_aaload, x_iastore, x_bastore, x_sastore, x_castore, x_lastore, x_aastore, x_arraylength, x_getstatic, x_goto, x_goto_w, x_ifCond, x_if_icmp, x_ifnull, x_ifnonnull, x_lookupswitch, x_invokevirtual, x_invokestatic, x_invokedynamic, x_ireturn, x_freturn, x_dreturn, x_lreturn, x_areturn, x_return_, pI_c, pL_c, pR_c, pV_i, pV_r, gI_c, gL_c, gR_c, pN_z, pN_s, lget_c, lins_z, lins_c, ldel_z, ldel_c, ldel2_z, ldel2_c, lset_i, lset_l, lset_r, lkeep_z, lkeep_c, largs_z, largs_c, cat_i, cat_l, cat_r, lkp_c, cnd_eq, cnd_ne, cnd_lt, cnd_ge, cnd_gt, cnd_le, swL_z, swL_c, rE_e, rOr_s, rOr_n, rlk_z, rlk_c, aR_c, aI_c, aII_c, aIII_c, aRI_c, aRII_c, aRIII_c, vJn, vJs, vlc, aRR_c, aRRI_c, aRRII_c, aRRIII_c, aRIIII_c, aRL_c, aRLL_c, aLL_c, aRRRI_c, aIL_c, aIIII_c, aRRIIII_c, aIRII_c, aIR_c, aLI_c, aRIR_c, aRIIR_c, hM.1.o, hz', hz2, hij, hA.1, hA.1.1, hA.1.2, t1, hK, mpOwn, mpGo, spMin, spMax, v1, i0, j0, q1, q2, q3, q4, q5, q6, q7, hi, x1, x2, xA, y1, y2, y3, y4, y5, c1, c2, c3, c4, c5, c6, c7, c8, c9, c10, c11, c12, c13, bA, bB, RV, g2, g4, h49]
      intro σ2 T2
      have d1 : vA σ2 r (6 + j) = vA σ r (6 + j) := by rw [T2.2, goV_n (by omega) (by omega), g3]
      have d2 := goV_49 (V := V5) (i := W) (by omega) (by rw [g4]; exact h49.1) (by rw [g4]; exact h49.2)
      have d3 := T2.2
      simp [sg_207_28_1, hN _, x_iconst, x_ldc2_w, x_aconst_null, x_iload, x_lload, x_aload, x_istore, x_lstore, x_astore, x_iinc, x_iadd, x_isub, x_imul, x_idiv, x_irem, x_iand, x_ior, x_ixor, x_ishl, x_ishr, x_iushr, x_ineg, x_ladd, x_lsub, x_lmul, x_ldiv, x_lrem, x_lcmp, x_i2l, x_i2b, x_i2s, x_i2c, x_dup, x_pop, x_dup_x1, x_dup2, x_getfield, x_putfield, x_iaload, x_baload, x_saload, x_caload, x_daload, x_faload, x_laload, x_aaload, x_iastore, x_bastore, x_sastore, x_castore, x_lastore, x_aastore, x_arraylength, x_getstatic, x_goto, x_goto_w, x_ifCond, x_if_icmp, x_ifnull, x_ifnonnull, x_lookupswitch, x_invokevirtual, x_invokestatic, x_invokedynamic, x_ireturn, x_freturn, x_dreturn, x_lreturn, x_areturn, x_return_, pI_c, pL_c, pR_c, pV_i, pV_r, gI_c, gL_c, gR_c, pN_z, pN_s, lget_c, lins_z, lins_c, ldel_z, ldel_c, ldel2_z, ldel2_c, lset_i, lset_l, lset_r, lkeep_z, lkeep_c, largs_z, largs_c, cat_i, cat_l, cat_r, lkp_c, cnd_eq, cnd_ne, cnd_lt, cnd_ge, cnd_gt, cnd_le, swL_z, swL_c, rE_e, rOr_s, rOr_n, rlk_z, rlk_c, aR_c, aI_c, aII_c, aIII_c, aRI_c, aRII_c, aRIII_c, vJn, vJs, vlc, aRR_c, aRRI_c, aRRII_c, aRRIII_c, aRIIII_c, aRL_c, aRLL_c, aLL_c, aRRRI_c, aIL_c, aIIII_c, aRRIIII_c, aIRII_c, aIR_c, aLI_c, aRIR_c, aRIIR_c, mpGo, hA.1, d3, hj, q7, j0, d2]
      rw [d3] at d1
      rw [d1]
      refine ⟨hj, fun σ3 T3 => ?_⟩
      have T := RW.tr (T2.tr T3)
      simp [sg_207_28_2, hN _, x_iconst, x_ldc2_w, x_aconst_null, x_iload, x_lload, x_aload, x_istore, x_lstore, x_astore, x_iinc, x_iadd, x_isub, x_imul, x_idiv, x_irem, x_iand, x_ior, x_ixor, x_ishl, x_ishr, x_iushr, x_ineg, x_ladd, x_lsub, x_lmul, x_ldiv, x_lrem, x_lcmp, x_i2l, x_i2b, x_i2s, x_i2c, x_dup, x_pop, x_dup_x1, x_dup2, x_getfield, x_putfield, x_iaload, x_baload, x_saload, x_caload, x_daload, x_faload, x_laload, x_aaload, x_iastore, x_bastore, x_sastore, x_castore, x_lastore, x_aastore, x_arraylength, x_getstatic, x_goto, x_goto_w, x_ifCond, x_if_icmp, x_ifnull, x_ifnonnull, x_lookupswitch, x_invokevirtual, x_invokestatic, x_invokedynamic, x_ireturn, x_freturn, x_dreturn, x_lreturn, x_areturn, x_return_, pI_c, pL_c, pR_c, pV_i, pV_r, gI_c, gL_c, gR_c, pN_z, pN_s, lget_c, lins_z, lins_c, ldel_z, ldel_c, ldel2_z, ldel2_c, lset_i, lset_l, lset_r, lkeep_z, lkeep_c, largs_z, largs_c, cat_i, cat_l, cat_r, lkp_c, cnd_eq, cnd_ne, cnd_lt, cnd_ge, cnd_gt, cnd_le, swL_z, swL_c, rE_e, rOr_s, rOr_n, rlk_z, rlk_c, aR_c, aI_c, aII_c, aIII_c, aRI_c, aRII_c, aRIII_c, vJn, vJs, vlc, aRR_c, aRRI_c, aRRII_c, aRRIII_c, aRIIII_c, aRL_c, aRLL_c, aLL_c, aRRRI_c, aIL_c, aIIII_c, aRRIIII_c, aIRII_c, aIR_c, aLI_c, aRIR_c, aRIIR_c]
      exact h σ3 ⟨⟨fun o a b c => by rw [T.1 o c, f1.1 o a b], fun k a b => by rw [T.1 175 (fun z => r1 z.symm), f1.2 k a b]⟩, T.2⟩
    · have hw : True := trivial
      rw [if_neg (fun z => hij z.symm)] at h
      have RW := gf_row (σ := σ1) (r := r) (w := W) (l := i) j0 (by omega) i0 (by omega) (min (σ 175 2) (ownV (vA σ r) W)) (by rw [v1]; exact hj) (by rw [v1]; exact hi) (by rw [v1]; exact (fun z => h6 z.symm))
      rw [v1] at RW
      rw [strikeV_eq j0 (by omega) i0 (by omega) hj.1 hi.1 hj.2 hi.2] at h
      generalize hK : min (σ 175 2) (ownV (vA σ r) W) = K at RW h
      have K0 : 0 ≤ K ∧ K ≤ 6 := by omega
      have x1 : σ1 r (6 + W) = vA σ r (6 + W) := by rw [vA_at (σ := σ1) (r := r) (by omega) (by omega), v1]
      have x2 : σ1 r (6 + i) = vA σ r (6 + i) := by rw [vA_at (σ := σ1) (r := r) (by omega) (by omega), v1]
      generalize hA' : 12 + 4 * W + vA σ r (6 + W) = A at RW
      generalize hB' : 12 + 4 * W + vA σ r (6 + i) = B at RW
      have bA : 0 ≤ A ∧ A < 50 := by omega
      have bB : 0 ≤ B ∧ B < 50 := by omega
      have xA : σ1 r A = ownV (vA σ r) W := by rw [vA_at (σ := σ1) (r := r) bA.1 bA.2, v1, ← hA']
      have y1 : ∀ x, up σ1 r A x r (6 + i) = vA σ r (6 + i) := fun x => by rw [up_ap, if_neg (by omega)]; exact x2
      have y2 : ∀ x, up σ1 r A x r B = partV (vA σ r) W (vA σ r (6 + i)) := fun x => by rw [up_ap, if_neg (by omega), vA_at (σ := σ1) (r := r) bB.1 bB.2, v1, ← hB']
      have y3 : ∀ x y, up (up σ1 r A x) r B y r (36 + W) = vA σ r (36 + W) := fun x y => by rw [up_ap, if_neg (by omega), up_ap, if_neg (by omega), vA_at (σ := σ1) (r := r) (by omega) (by omega), v1]
      have y4 : ∀ x y z, up (up (up σ1 r A x) r B y) r (36 + W) z r i = vA σ r i := fun x y z => by rw [up_ap, if_neg (by omega), up_ap, if_neg (by omega), up_ap, if_neg (by omega), vA_at (σ := σ1) (r := r) (by omega) (by omega), v1]
      have y5 : ∀ x y z u, up (up (up (up σ1 r A x) r B y) r (36 + W) z) r i u r (42 + i) = vA σ r (42 + i) := fun x y z u => by rw [up_ap, if_neg (by omega), up_ap, if_neg (by omega), up_ap, if_neg (by omega), up_ap, if_neg (by omega), vA_at (σ := σ1) (r := r) (by omega) (by omega), v1]
      have c1 : w32 (6 + W) = 6 + W := w32_id (by omega) (by omega)
      have c2 : w32 (6 + i) = 6 + i := w32_id (by omega) (by omega)
      have c3 : w32 (4 * W) = 4 * W := w32_id (by omega) (by omega)
      have c4 : w32 (12 + 4 * W) = 12 + 4 * W := w32_id (by omega) (by omega)
      have c5 : w32 (12 + 4 * W + vA σ r (6 + W)) = A := by rw [w32_id (by omega) (by omega), hA']
      have c6 : w32 (12 + 4 * W + vA σ r (6 + i)) = B := by rw [w32_id (by omega) (by omega), hB']
      have c7 : w32 (36 + W) = 36 + W := w32_id (by omega) (by omega)
      have c8 : w32 (42 + i) = 42 + i := w32_id (by omega) (by omega)
      have c9 : w32 (ownV (vA σ r) W - K) = ownV (vA σ r) W - K := w32_id (by omega) (by omega)
      have c10 : w32 (partV (vA σ r) W (vA σ r (6 + i)) + K) = partV (vA σ r) W (vA σ r (6 + i)) + K := w32_id (by omega) (by omega)
      have c11 : w32 (vA σ r (36 + W) + 1) = vA σ r (36 + W) + 1 := w32_id (by omega) (by omega)
      have c12 : w32 (vA σ r i - 1) = vA σ r i - 1 := w32_id (by omega) (by omega)
      have c13 : w32 (vA σ r (42 + i) + 1) = vA σ r (42 + i) + 1 := w32_id (by omega) (by omega)
      have q1 : 0 ≤ 6 + W ∧ 6 + W < 50 := by omega
      have q2 : 0 ≤ 6 + i ∧ 6 + i < 50 := by omega
      have q3 : 0 ≤ 36 + W ∧ 36 + W < 50 := by omega
      have q4 : 0 ≤ 42 + i ∧ 42 + i < 50 := by omega
      have q5 : 0 ≤ i ∧ i < 50 := by omega
      have q6 : W < 6 := by omega
      have q7 : i < 6 := by omega
      have g1 : ∀ z, z ≠ A → z ≠ B → z ≠ 36 + W → z ≠ i → z ≠ 42 + i → 0 ≤ z → z < 50 → upv (upv (upv (sewP (vA σ r) W (vA σ r (6 + W)) (vA σ r (6 + i)) K) (36 + W) (min (vA σ r (36 + W) + 1) 99)) i (max (vA σ r i - 1) 0)) (42 + i) (min (vA σ r (42 + i) + 1) 99) z = vA σ r z := fun z z1 z2 z3 z4 z5 _ _ => by
        rw [upv_n z5, upv_n z4, upv_n z3, sewP_n (by rw [hA']; exact z1) (by rw [hB']; exact z2)]
      generalize hV5 : upv (upv (upv (sewP (vA σ r) W (vA σ r (6 + W)) (vA σ r (6 + i)) K) (36 + W) (min (vA σ r (36 + W) + 1) 99)) i (max (vA σ r i - 1) 0)) (42 + i) (min (vA σ r (42 + i) + 1) 99) = V5 at RW h g1
      have g2 := g1 (6 + W) (by omega) (by omega) (by omega) (by omega) (by omega) (by omega) (by omega)
      have g3 := g1 (6 + i) (by omega) (by omega) (by omega) (by omega) (by omega) (by omega) (by omega)
      have g4 := g1 49 (by omega) (by omega) (by omega) (by omega) (by omega) (by omega) (by omega)
      have RV := RW.2
      simp [sg_207_0_1, bs_207, hN _, x_iconst, x_ldc2_w, x_aconst_null, x_iload, x_lload, x_aload, x_istore, x_lstore, x_astore, x_iinc, x_iadd, x_isub, x_imul, x_idiv, x_irem, x_iand, x_ior, x_ixor, x_ishl, x_ishr, x_iushr, x_ineg, x_ladd, x_lsub, x_lmul, x_ldiv, x_lrem, x_lcmp, x_i2l, x_i2b, x_i2s, x_i2c, x_dup, x_pop, x_dup_x1, x_dup2, x_getfield, x_putfield, x_iaload, x_baload, x_saload, x_caload, x_daload, x_faload, x_laload, x_aaload, x_iastore, x_bastore, x_sastore, x_castore, x_lastore, x_aastore, x_arraylength, x_getstatic, x_goto, x_goto_w, x_ifCond, x_if_icmp, x_ifnull, x_ifnonnull, x_lookupswitch, x_invokevirtual, x_invokestatic, x_invokedynamic, x_ireturn, x_freturn, x_dreturn, x_lreturn, x_areturn, x_return_, pI_c, pL_c, pR_c, pV_i, pV_r, gI_c, gL_c, gR_c, pN_z, pN_s, lget_c, lins_z, lins_c, ldel_z, ldel_c, ldel2_z, ldel2_c, lset_i, lset_l, lset_r, lkeep_z, lkeep_c, largs_z, largs_c, cat_i, cat_l, cat_r, lkp_c, cnd_eq, cnd_ne, cnd_lt, cnd_ge, cnd_gt, cnd_le, swL_z, swL_c, rE_e, rOr_s, rOr_n, rlk_z, rlk_c, aR_c, aI_c, aII_c, aIII_c, aRI_c, aRII_c, aRIII_c, vJn, vJs, vlc, aRR_c, aRRI_c, aRRII_c, aRRIII_c, aRIIII_c, aRL_c, aRLL_c, aLL_c, aRRRI_c, aIL_c, aIIII_c, aRRIIII_c, aIRII_c, aIR_c, aLI_c, aRIR_c, aRIIR_c, hM.1.o, hz', hz2, hij, Ne.symm hij, hA.1, hA.1.1, hA.1.2, t1, hK, mpOwn, mpGo, spMin, spMax, v1, j0, i0, q1, q2, q3, q4, q5, q6, q7, hj, x1, x2, xA, y1, y2, y3, y4, y5, c1, c2, c3, c4, c5, c6, c7, c8, c9, c10, c11, c12, c13, bA, bB, RV, g2, g4, h49]
      intro σ2 T2
      have d1 : vA σ2 r (6 + i) = vA σ r (6 + i) := by rw [T2.2, goV_n (by omega) (by omega), g3]
      have d2 := goV_49 (V := V5) (i := W) (by omega) (by rw [g4]; exact h49.1) (by rw [g4]; exact h49.2)
      have d3 := T2.2
      simp [sg_207_27_1, hN _, x_iconst, x_ldc2_w, x_aconst_null, x_iload, x_lload, x_aload, x_istore, x_lstore, x_astore, x_iinc, x_iadd, x_isub, x_imul, x_idiv, x_irem, x_iand, x_ior, x_ixor, x_ishl, x_ishr, x_iushr, x_ineg, x_ladd, x_lsub, x_lmul, x_ldiv, x_lrem, x_lcmp, x_i2l, x_i2b, x_i2s, x_i2c, x_dup, x_pop, x_dup_x1, x_dup2, x_getfield, x_putfield, x_iaload, x_baload, x_saload, x_caload, x_daload, x_faload, x_laload, x_aaload, x_iastore, x_bastore, x_sastore, x_castore, x_lastore, x_aastore, x_arraylength, x_getstatic, x_goto, x_goto_w, x_ifCond, x_if_icmp, x_ifnull, x_ifnonnull, x_lookupswitch, x_invokevirtual, x_invokestatic, x_invokedynamic, x_ireturn, x_freturn, x_dreturn, x_lreturn, x_areturn, x_return_, pI_c, pL_c, pR_c, pV_i, pV_r, gI_c, gL_c, gR_c, pN_z, pN_s, lget_c, lins_z, lins_c, ldel_z, ldel_c, ldel2_z, ldel2_c, lset_i, lset_l, lset_r, lkeep_z, lkeep_c, largs_z, largs_c, cat_i, cat_l, cat_r, lkp_c, cnd_eq, cnd_ne, cnd_lt, cnd_ge, cnd_gt, cnd_le, swL_z, swL_c, rE_e, rOr_s, rOr_n, rlk_z, rlk_c, aR_c, aI_c, aII_c, aIII_c, aRI_c, aRII_c, aRIII_c, vJn, vJs, vlc, aRR_c, aRRI_c, aRRII_c, aRRIII_c, aRIIII_c, aRL_c, aRLL_c, aLL_c, aRRRI_c, aIL_c, aIIII_c, aRRIIII_c, aIRII_c, aIR_c, aLI_c, aRIR_c, aRIIR_c, mpGo, hA.1, d3, hi, q7, i0, d2]
      rw [d3] at d1
      rw [d1]
      refine ⟨hi, fun σ3 T3 => ?_⟩
      have T := RW.tr (T2.tr T3)
      simp [sg_207_27_2, hN _, x_iconst, x_ldc2_w, x_aconst_null, x_iload, x_lload, x_aload, x_istore, x_lstore, x_astore, x_iinc, x_iadd, x_isub, x_imul, x_idiv, x_irem, x_iand, x_ior, x_ixor, x_ishl, x_ishr, x_iushr, x_ineg, x_ladd, x_lsub, x_lmul, x_ldiv, x_lrem, x_lcmp, x_i2l, x_i2b, x_i2s, x_i2c, x_dup, x_pop, x_dup_x1, x_dup2, x_getfield, x_putfield, x_iaload, x_baload, x_saload, x_caload, x_daload, x_faload, x_laload, x_aaload, x_iastore, x_bastore, x_sastore, x_castore, x_lastore, x_aastore, x_arraylength, x_getstatic, x_goto, x_goto_w, x_ifCond, x_if_icmp, x_ifnull, x_ifnonnull, x_lookupswitch, x_invokevirtual, x_invokestatic, x_invokedynamic, x_ireturn, x_freturn, x_dreturn, x_lreturn, x_areturn, x_return_, pI_c, pL_c, pR_c, pV_i, pV_r, gI_c, gL_c, gR_c, pN_z, pN_s, lget_c, lins_z, lins_c, ldel_z, ldel_c, ldel2_z, ldel2_c, lset_i, lset_l, lset_r, lkeep_z, lkeep_c, largs_z, largs_c, cat_i, cat_l, cat_r, lkp_c, cnd_eq, cnd_ne, cnd_lt, cnd_ge, cnd_gt, cnd_le, swL_z, swL_c, rE_e, rOr_s, rOr_n, rlk_z, rlk_c, aR_c, aI_c, aII_c, aIII_c, aRI_c, aRII_c, aRIII_c, vJn, vJs, vlc, aRR_c, aRRI_c, aRRII_c, aRRIII_c, aRIIII_c, aRL_c, aRLL_c, aLL_c, aRRRI_c, aIL_c, aIIII_c, aRRIIII_c, aIRII_c, aIR_c, aLI_c, aRIR_c, aRIIR_c]
      exact h σ3 ⟨⟨fun o a b c => by rw [T.1 o c, f1.1 o a b], fun k a b => by rw [T.1 175 (fun z => r1 z.symm), f1.2 k a b]⟩, T.2⟩
