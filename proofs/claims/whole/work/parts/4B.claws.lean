/-! StruckColours$Laws; laws, asks -/
def ovB (each : Nat) (o e : Int) : Bool := decide (o < (each / 13 : Nat)) || decide (((each % 13 : Nat) : Int) ≤ e - o)
def lwB (A B D : Int → Int) (m each : Nat) : Bool := sA (fun k => ovB each (A k) (B k) == decide (D k = 1)) m
def TlOk (σ : Mem) : Prop := (0 ≤ σ 161 3 ∧ σ 161 3 ≤ 12) ∧ ∀ k : Int, 0 ≤ k → k < σ 161 3 → (0 ≤ σ 162 k ∧ σ 162 k ≤ 12) ∧ (0 ≤ σ 163 k ∧ σ 163 k ≤ 12) ∧ (σ 164 k = 0 ∨ σ 164 k = 1)
def lpOver : Sp := fun as t σ Q => aIII as fun a o e => (0 ≤ a ∧ a ≤ 168) ∧ (0 ≤ o ∧ o ≤ 12) ∧ (0 ≤ e ∧ e ≤ 12) ∧ Q (some (vI (if ovB a.toNat o e then 1 else 0))) t σ
theorem l_over {l : Launch} {g : GE} {d : Nat} {t : Tau} {σ : Mem} {Q : Post} {as : List TV} (h0 : lpOver as t σ Q) : WPc l g 4 (d + 1) 0 0 as t σ Q := by
  obtain ⟨a, o, e, rfl, ha, ho, he, h⟩ := aIII_e h0
  clear h0
  obtain ⟨n, rfl⟩ : ∃ n : Nat, a = n := ⟨a.toNat, by omega⟩
  simp only [Int.toNat_natCast] at h
  have e1 : w32 (e - o) = e - o := w32_id (by omega) (by omega)
  have e2 : w32 ((n : Int) / 13) = ((n / 13 : Nat) : Int) := by rw [show (n : Int) / 13 = ((n / 13 : Nat) : Int) by omega]; exact w32_id (by omega) (by omega)
  have e3 : w32 ((n : Int) % 13) = ((n % 13 : Nat) : Int) := by rw [show (n : Int) % 13 = ((n % 13 : Nat) : Int) by omega]; exact w32_id (by omega) (by omega)
  unfold ovB at h
  refine wg (by decide) rE_nil tk_4 py_4 ml_4 30 (by simp [catT]) (fun N hN => ?_)
  simp [bl_4, hN _, x_iconst, x_ldc2_w, x_aconst_null, x_iload, x_lload, x_aload, x_istore, x_lstore, x_astore, x_iinc, x_iadd, x_isub, x_imul, x_idiv, x_irem, x_iand, x_ior, x_ixor, x_ishl, x_ishr, x_iushr, x_ineg, x_ladd, x_lsub, x_lmul, x_ldiv, x_lrem, x_lcmp, x_i2l, x_i2b, x_i2s, x_i2c, x_dup, x_pop, x_dup_x1, x_dup2, x_getfield, x_putfield, x_iaload, x_baload, x_saload, x_caload, x_daload, x_faload, x_laload, x_aaload, x_iastore, x_bastore, x_sastore, x_castore, x_lastore, x_aastore, x_arraylength, x_getstatic, x_goto, x_goto_w, x_ifCond, x_if_icmp, x_ifnull, x_ifnonnull, x_lookupswitch, x_invokevirtual, x_invokestatic, x_invokedynamic, x_ireturn, x_freturn, x_dreturn, x_lreturn, x_areturn, x_return_, pI_c, pL_c, pR_c, pV_i, pV_r, gI_c, gL_c, gR_c, pN_z, pN_s, lget_c, lins_z, lins_c, ldel_z, ldel_c, ldel2_z, ldel2_c, lset_i, lset_l, lset_r, lkeep_z, lkeep_c, largs_z, largs_c, cat_i, cat_l, cat_r, lkp_c, cnd_eq, cnd_ne, cnd_lt, cnd_ge, cnd_gt, cnd_le, swL_z, swL_c, rE_e, rOr_s, rOr_n, rlk_z, rlk_c, aR_c, aI_c, aII_c, aIII_c, aRI_c, aRII_c, aRIII_c, vJn, vJs, vlc, aRR_c, aRRI_c, aRRII_c, aRRIII_c, aRIIII_c, aRL_c, aRLL_c, aLL_c, aRRRI_c, aIL_c, aIIII_c, aRRIIII_c, aIRII_c, aIR_c, aLI_c, aRIR_c, aRIIR_c, e1, e2, e3, Int.tdiv_eq_ediv_of_nonneg, Int.tmod_eq_emod_of_nonneg]
  simp at h
  grind
theorem rgOv_ok {l : Launch} {g : GE} {d : Nat} : ∀ e as t σ Q, rE l g (d + 1) [(4, lpOver), (8, npOf 1), (9, npOf 2), (10, npOf 3)] e as t σ Q → WPc l g e (d + 1) 0 0 as t σ Q :=
  rE_cons (fun _ _ _ _ h => l_over h) <| rE_cons (fun _ _ _ _ h => n_first h) <| rE_cons (fun _ _ _ _ h => n_second h) <| rE_cons (fun _ _ _ _ h => n_third h) rE_nil
def lpTales : Sp := fun as t σ Q => aIR as fun a b => b = 161 ∧ TC t ∧ TlOk σ ∧ (0 ≤ a ∧ a ≤ 168) ∧ Q (some (vI (if lwB (σ 162) (σ 163) (σ 164) (σ 161 3).toNat a.toNat then 1 else 0))) t σ
theorem l_tales {l : Launch} {g : GE} {d : Nat} {t : Tau} {σ : Mem} {Q : Post} {as : List TV} (h0 : lpTales as t σ Q) : WPc l g 2 (d + 2) 0 0 as t σ Q := by
  obtain ⟨a, b, rfl, rfl, hC, ⟨⟨m0, m1⟩, hv⟩, ha, h⟩ := aIR_e h0
  clear h0
  obtain ⟨n, rfl⟩ : ∃ n : Nat, a = n := ⟨a.toNat, by omega⟩
  have hn : n ≤ 168 := by omega
  have hn' : (n : Int) ≤ 168 := by omega
  have hO : isO t 161 1 := hC.n161.1
  obtain ⟨m, hm⟩ : ∃ m : Nat, σ 161 3 = m := ⟨(σ 161 3).toNat, by omega⟩
  rw [hm] at h m1
  simp only [Int.toNat_natCast] at h
  generalize hp : (fun k : Nat => ovB n (σ 162 k) (σ 163 k) == decide (σ 164 k = 1)) = p
  have hlw : lwB (σ 162) (σ 163) (σ 164) m n = sA p m := by unfold lwB; rw [hp]
  simp only [hlw] at h
  have K : sA p 0 = true → Wp l g 2 (d + 2) 0 0 2 [(0, vI n), (1, vR 161), (2, vI (0 : Nat))] [] t σ Q := by
    refine lpU (P := fun j => sA p j = true → Wp l g 2 (d + 2) 0 0 2 [(0, vI n), (1, vR 161), (2, vI j)] [] t σ Q) (n := m) ?_ (fun j hj K hs => ?_)
    · intro hs
      simp [hs] at h
      refine wa (by decide) rgOv_ok tk_2 30 (fun N hN => ?_)
      simp [bl_2, hN _, x_iconst, x_ldc2_w, x_aconst_null, x_iload, x_lload, x_aload, x_istore, x_lstore, x_astore, x_iinc, x_iadd, x_isub, x_imul, x_idiv, x_irem, x_iand, x_ior, x_ixor, x_ishl, x_ishr, x_iushr, x_ineg, x_ladd, x_lsub, x_lmul, x_ldiv, x_lrem, x_lcmp, x_i2l, x_i2b, x_i2s, x_i2c, x_dup, x_pop, x_dup_x1, x_dup2, x_getfield, x_putfield, x_iaload, x_baload, x_saload, x_caload, x_daload, x_faload, x_laload, x_aaload, x_iastore, x_bastore, x_sastore, x_castore, x_lastore, x_aastore, x_arraylength, x_getstatic, x_goto, x_goto_w, x_ifCond, x_if_icmp, x_ifnull, x_ifnonnull, x_lookupswitch, x_invokevirtual, x_invokestatic, x_invokedynamic, x_ireturn, x_freturn, x_dreturn, x_lreturn, x_areturn, x_return_, pI_c, pL_c, pR_c, pV_i, pV_r, gI_c, gL_c, gR_c, pN_z, pN_s, lget_c, lins_z, lins_c, ldel_z, ldel_c, ldel2_z, ldel2_c, lset_i, lset_l, lset_r, lkeep_z, lkeep_c, largs_z, largs_c, cat_i, cat_l, cat_r, lkp_c, cnd_eq, cnd_ne, cnd_lt, cnd_ge, cnd_gt, cnd_le, swL_z, swL_c, rE_e, rOr_s, rOr_n, rlk_z, rlk_c, aR_c, aI_c, aII_c, aIII_c, aRI_c, aRII_c, aRIII_c, vJn, vJs, vlc, aRR_c, aRRI_c, aRRII_c, aRRIII_c, aRIIII_c, aRL_c, aRLL_c, aLL_c, aRRRI_c, aIL_c, aIIII_c, aRRIIII_c, aIRII_c, aIR_c, aLI_c, aRIR_c, aRIIR_c, hO, hm]
      exact h
    · have e2 := w32_succ (k := j) (by omega); have i1 : ((j : Nat) : Int) < (m : Nat) := (by omega); have i1n : j < m := (by omega); have i1x : ¬ m ≤ j := (by omega)
      obtain ⟨v1, v2, v3⟩ := hv j (by omega) (by omega)
      have j12 : (j : Int) < 12 := by omega
      have j12n : j < 12 := by omega
      have es : sA p (j + 1) = (sA p j && p j) := rfl
      rw [es, hs] at K
      have hf := sA_f (p := p) (k := j) (m := m)
      have hpj : p j = (ovB n (σ 162 j) (σ 163 j) == decide (σ 164 j = 1)) := by rw [← hp]
      refine wa (by decide) rgOv_ok tk_2 30 (fun N hN => ?_)
      simp [bl_2, hN _, x_iconst, x_ldc2_w, x_aconst_null, x_iload, x_lload, x_aload, x_istore, x_lstore, x_astore, x_iinc, x_iadd, x_isub, x_imul, x_idiv, x_irem, x_iand, x_ior, x_ixor, x_ishl, x_ishr, x_iushr, x_ineg, x_ladd, x_lsub, x_lmul, x_ldiv, x_lrem, x_lcmp, x_i2l, x_i2b, x_i2s, x_i2c, x_dup, x_pop, x_dup_x1, x_dup2, x_getfield, x_putfield, x_iaload, x_baload, x_saload, x_caload, x_daload, x_faload, x_laload, x_aaload, x_iastore, x_bastore, x_sastore, x_castore, x_lastore, x_aastore, x_arraylength, x_getstatic, x_goto, x_goto_w, x_ifCond, x_if_icmp, x_ifnull, x_ifnonnull, x_lookupswitch, x_invokevirtual, x_invokestatic, x_invokedynamic, x_ireturn, x_freturn, x_dreturn, x_lreturn, x_areturn, x_return_, pI_c, pL_c, pR_c, pV_i, pV_r, gI_c, gL_c, gR_c, pN_z, pN_s, lget_c, lins_z, lins_c, ldel_z, ldel_c, ldel2_z, ldel2_c, lset_i, lset_l, lset_r, lkeep_z, lkeep_c, largs_z, largs_c, cat_i, cat_l, cat_r, lkp_c, cnd_eq, cnd_ne, cnd_lt, cnd_ge, cnd_gt, cnd_le, swL_z, swL_c, rE_e, rOr_s, rOr_n, rlk_z, rlk_c, aR_c, aI_c, aII_c, aIII_c, aRI_c, aRII_c, aRIII_c, vJn, vJs, vlc, aRR_c, aRRI_c, aRRII_c, aRRIII_c, aRIIII_c, aRL_c, aRLL_c, aLL_c, aRRRI_c, aIL_c, aIIII_c, aRRIIII_c, aIRII_c, aIR_c, aLI_c, aRIR_c, aRIIR_c, hO, hm, e2, i1, i1n, i1x, npOf, lpOver, hC.n161, v1, v2, j12, j12n, hn, hn']
      cases hc : p j
      · simp [hf hc hj] at h
        rw [hc] at hpj
        cases ho : ovB n (σ 162 j) (σ 163 j) <;> rw [ho] at hpj <;> rcases v3 with v3 | v3 <;> simp [v3] at hpj ⊢ <;> exact h
      · rw [hc] at K hpj
        have K := K rfl
        cases ho : ovB n (σ 162 j) (σ 163 j) <;> rw [ho] at hpj <;> rcases v3 with v3 | v3 <;> simp [v3] at hpj ⊢ <;> exact K
  refine wg (by decide) rgOv_ok tk_2 py_2 ml_2 30 (by simp [catT]) (fun N hN => ?_)
  simp [bl_2, hN _, x_iconst, x_ldc2_w, x_aconst_null, x_iload, x_lload, x_aload, x_istore, x_lstore, x_astore, x_iinc, x_iadd, x_isub, x_imul, x_idiv, x_irem, x_iand, x_ior, x_ixor, x_ishl, x_ishr, x_iushr, x_ineg, x_ladd, x_lsub, x_lmul, x_ldiv, x_lrem, x_lcmp, x_i2l, x_i2b, x_i2s, x_i2c, x_dup, x_pop, x_dup_x1, x_dup2, x_getfield, x_putfield, x_iaload, x_baload, x_saload, x_caload, x_daload, x_faload, x_laload, x_aaload, x_iastore, x_bastore, x_sastore, x_castore, x_lastore, x_aastore, x_arraylength, x_getstatic, x_goto, x_goto_w, x_ifCond, x_if_icmp, x_ifnull, x_ifnonnull, x_lookupswitch, x_invokevirtual, x_invokestatic, x_invokedynamic, x_ireturn, x_freturn, x_dreturn, x_lreturn, x_areturn, x_return_, pI_c, pL_c, pR_c, pV_i, pV_r, gI_c, gL_c, gR_c, pN_z, pN_s, lget_c, lins_z, lins_c, ldel_z, ldel_c, ldel2_z, ldel2_c, lset_i, lset_l, lset_r, lkeep_z, lkeep_c, largs_z, largs_c, cat_i, cat_l, cat_r, lkp_c, cnd_eq, cnd_ne, cnd_lt, cnd_ge, cnd_gt, cnd_le, swL_z, swL_c, rE_e, rOr_s, rOr_n, rlk_z, rlk_c, aR_c, aI_c, aII_c, aIII_c, aRI_c, aRII_c, aRIII_c, vJn, vJs, vlc, aRR_c, aRRI_c, aRRII_c, aRRIII_c, aRIIII_c, aRL_c, aRLL_c, aLL_c, aRRRI_c, aIL_c, aIIII_c, aRRIIII_c, aIRII_c, aIR_c, aLI_c, aRIR_c, aRIIR_c]
  exact K rfl
/-- how many of a, .. are p; the first of them -/
def cF (p : Nat → Bool) (a : Nat) : Nat → Nat
  | 0 => 0
  | r + 1 => (if p a then 1 else 0) + cF p (a + 1) r
def fF (p : Nat → Bool) (a : Nat) (d : Int) : Nat → Int
  | 0 => d
  | r + 1 => if p a then (a : Int) else fF p (a + 1) d r
theorem cF_l (p : Nat → Bool) : ∀ r a, cF p a r ≤ r
  | 0, _ => Nat.le_refl _
  | r + 1, a => by have := cF_l p r (a + 1); unfold cF; split <;> omega
theorem cF_add (p : Nat → Bool) : ∀ r s a, cF p a (r + s) = cF p a r + cF p (a + r) s
  | 0, s, a => by simp [cF]
  | r + 1, s, a => by
    have := cF_add p r s (a + 1)
    rw [show r + 1 + s = (r + s) + 1 by omega]
    show (if p a then 1 else 0) + cF p (a + 1) (r + s) = (if p a then 1 else 0) + cF p (a + 1) r + cF p (a + (r + 1)) s
    rw [this, show a + 1 + r = a + (r + 1) by omega]; omega
theorem cF_up (p : Nat → Bool) (k : Nat) : cF p 0 (k + 1) = cF p 0 k + if p k then 1 else 0 := by
  rw [cF_add p k 1 0]
  show cF p 0 k + ((if p (0 + k) then 1 else 0) + 0) = _
  rw [Nat.zero_add]; omega
def lpWeighs : Sp := fun as t σ Q => aRR as fun a b => a = 165 ∧ b = 161 ∧ TC t ∧ TlOk σ ∧ ∀ σ', (∀ o, o ≠ 165 → o ≠ 166 → σ' o = σ o) → (∀ e : Nat, e < 169 → σ' 166 e = if lwB (σ 162) (σ 163) (σ 164) (σ 161 3).toNat e then 1 else 0) → σ' 165 1 = fF (lwB (σ 162) (σ 163) (σ 164) (σ 161 3).toNat) 0 (σ 165 1) 169 → Q (some (vI (cF (lwB (σ 162) (σ 163) (σ 164) (σ 161 3).toNat) 0 169))) t σ'
theorem rgTa_ok {l : Launch} {g : GE} {d : Nat} : ∀ e as t σ Q, rE l g (d + 2) [(2, lpTales)] e as t σ Q → WPc l g e (d + 2) 0 0 as t σ Q := rE_cons (fun _ _ _ _ h => l_tales h) rE_nil
theorem i1_01 {x : Int} (h : x = 0 ∨ x = 1) : i1 x = x := by
  rcases h with rfl | rfl <;> (rw [i1_eq]; decide)
set_option maxHeartbeats 1000000 in
theorem l_weighs {l : Launch} {g : GE} {d : Nat} {t : Tau} {σ : Mem} {Q : Post} {as : List TV} (h0 : lpWeighs as t σ Q) : WPc l g 1 (d + 3) 0 0 as t σ Q := by
  obtain ⟨a, b, rfl, rfl, rfl, hC, hT, h⟩ := aRR_e h0
  clear h0
  generalize hp : lwB (σ 162) (σ 163) (σ 164) (σ 161 3).toNat = p at h
  have K : ∀ σ', (∀ o, o ≠ 165 → o ≠ 166 → σ' o = σ o) → (∀ e : Nat, 169 - 0 ≤ e → e < 169 → σ' 166 e = if p e then 1 else 0) → σ' 165 1 = fF p (169 - 0) (σ 165 1) 0 → Wp l g 1 (d + 3) 0 0 6 [(0, vR 165), (1, vR 161), (2, vI (cF p (169 - 0) 0)), (3, vI (168 - (0 : Nat)))] [] t σ' Q := by
    refine lpU (P := fun i => ∀ σ', (∀ o, o ≠ 165 → o ≠ 166 → σ' o = σ o) → (∀ e : Nat, 169 - i ≤ e → e < 169 → σ' 166 e = if p e then 1 else 0) → σ' 165 1 = fF p (169 - i) (σ 165 1) i → Wp l g 1 (d + 3) 0 0 6 [(0, vR 165), (1, vR 161), (2, vI (cF p (169 - i) i)), (3, vI (168 - (i : Nat)))] [] t σ' Q) (n := 169) ?_ (fun i hi K σ' h1 h2 h3 => ?_)
    · intro σ' h1 h2 h3
      refine wa (by decide) rgTa_ok tk_1 30 (fun N hN => ?_)
      simp [bl_1, hN _, x_iconst, x_ldc2_w, x_aconst_null, x_iload, x_lload, x_aload, x_istore, x_lstore, x_astore, x_iinc, x_iadd, x_isub, x_imul, x_idiv, x_irem, x_iand, x_ior, x_ixor, x_ishl, x_ishr, x_iushr, x_ineg, x_ladd, x_lsub, x_lmul, x_ldiv, x_lrem, x_lcmp, x_i2l, x_i2b, x_i2s, x_i2c, x_dup, x_pop, x_dup_x1, x_dup2, x_getfield, x_putfield, x_iaload, x_baload, x_saload, x_caload, x_daload, x_faload, x_laload, x_aaload, x_iastore, x_bastore, x_sastore, x_castore, x_lastore, x_aastore, x_arraylength, x_getstatic, x_goto, x_goto_w, x_ifCond, x_if_icmp, x_ifnull, x_ifnonnull, x_lookupswitch, x_invokevirtual, x_invokestatic, x_invokedynamic, x_ireturn, x_freturn, x_dreturn, x_lreturn, x_areturn, x_return_, pI_c, pL_c, pR_c, pV_i, pV_r, gI_c, gL_c, gR_c, pN_z, pN_s, lget_c, lins_z, lins_c, ldel_z, ldel_c, ldel2_z, ldel2_c, lset_i, lset_l, lset_r, lkeep_z, lkeep_c, largs_z, largs_c, cat_i, cat_l, cat_r, lkp_c, cnd_eq, cnd_ne, cnd_lt, cnd_ge, cnd_gt, cnd_le, swL_z, swL_c, rE_e, rOr_s, rOr_n, rlk_z, rlk_c, aR_c, aI_c, aII_c, aIII_c, aRI_c, aRII_c, aRIII_c, vJn, vJs, vlc, aRR_c, aRRI_c, aRRII_c, aRRIII_c, aRIIII_c, aRL_c, aRLL_c, aLL_c, aRRRI_c, aIL_c, aIIII_c, aRRIIII_c, aIRII_c, aIR_c, aLI_c, aRIR_c, aRIIR_c]
      exact h σ' h1 (fun e he => h2 e (by omega) he) h3
    · obtain ⟨e, he⟩ : ∃ e, 169 - (i + 1) = e := ⟨_, rfl⟩
      have he1 : 169 - i = e + 1 := by omega
      have he2 : (168 : Int) - (i : Int) = (e : Int) := by omega
      rw [he] at K
      rw [he1] at h2 h3
      rw [he1, he2]
      have ec : cF p e (i + 1) = (if p e then 1 else 0) + cF p (e + 1) i := rfl
      have ef : fF p e (σ 165 1) (i + 1) = if p e then (e : Int) else fF p (e + 1) (σ 165 1) i := rfl
      rw [ec, ef] at K
      have hl := cF_l p i (e + 1)
      have hT' : TlOk σ' := by unfold TlOk; rw [h1 161 (by omega) (by omega), h1 162 (by omega) (by omega), h1 163 (by omega) (by omega), h1 164 (by omega) (by omega)]; exact hT
      have e168 : e ≤ 168 := by omega
      have e168' : (e : Int) ≤ 168 := by omega
      have e0' : ¬ (e : Int) < 0 := by omega
      have hpe : lwB (σ' 162) (σ' 163) (σ' 164) (σ' 161 3).toNat e = p e := by rw [h1 161 (by omega) (by omega), h1 162 (by omega) (by omega), h1 163 (by omega) (by omega), h1 164 (by omega) (by omega), hp]
      have e5 : w32 ((e : Int) + -1) = (168 : Int) - ((i + 1 : Nat) : Int) := by rw [w32_id (by omega) (by omega)]; omega
      have e6 := w32_succ (k := cF p (e + 1) i) (by omega)
      have e7 : i1 (if p e then 1 else 0) = if p e then 1 else 0 := i1_01 (by split <;> omega)
      have e9 : (e : Int) < 169 := by omega
      have e9n : e < 169 := by omega
      refine wa (by decide) rgTa_ok tk_1 30 (fun N hN => ?_)
      simp [bl_1, hN _, x_iconst, x_ldc2_w, x_aconst_null, x_iload, x_lload, x_aload, x_istore, x_lstore, x_astore, x_iinc, x_iadd, x_isub, x_imul, x_idiv, x_irem, x_iand, x_ior, x_ixor, x_ishl, x_ishr, x_iushr, x_ineg, x_ladd, x_lsub, x_lmul, x_ldiv, x_lrem, x_lcmp, x_i2l, x_i2b, x_i2s, x_i2c, x_dup, x_pop, x_dup_x1, x_dup2, x_getfield, x_putfield, x_iaload, x_baload, x_saload, x_caload, x_daload, x_faload, x_laload, x_aaload, x_iastore, x_bastore, x_sastore, x_castore, x_lastore, x_aastore, x_arraylength, x_getstatic, x_goto, x_goto_w, x_ifCond, x_if_icmp, x_ifnull, x_ifnonnull, x_lookupswitch, x_invokevirtual, x_invokestatic, x_invokedynamic, x_ireturn, x_freturn, x_dreturn, x_lreturn, x_areturn, x_return_, pI_c, pL_c, pR_c, pV_i, pV_r, gI_c, gL_c, gR_c, pN_z, pN_s, lget_c, lins_z, lins_c, ldel_z, ldel_c, ldel2_z, ldel2_c, lset_i, lset_l, lset_r, lkeep_z, lkeep_c, largs_z, largs_c, cat_i, cat_l, cat_r, lkp_c, cnd_eq, cnd_ne, cnd_lt, cnd_ge, cnd_gt, cnd_le, swL_z, swL_c, rE_e, rOr_s, rOr_n, rlk_z, rlk_c, aR_c, aI_c, aII_c, aIII_c, aRI_c, aRII_c, aRIII_c, vJn, vJs, vlc, aRR_c, aRRI_c, aRRII_c, aRRIII_c, aRIIII_c, aRL_c, aRLL_c, aLL_c, aRRRI_c, aIL_c, aIIII_c, aRRIIII_c, aIRII_c, aIR_c, aLI_c, aRIR_c, aRIIR_c, hC.o0, hC.f0_0, hC.f0_1, hC.f0_2, hC.f0_3, hC.f0_4, hC.f0_5, hC.f0_6, hC.f0_7, hC.f0_8, hC.f0_9, hC.f0_10, hC.f0_11, hC.o1, hC.f1, hC.t2, hC.l2, hC.o3, hC.f3, hC.t4, hC.l4, hC.s5, hC.s12, hC.s19, hC.s112, hC.s119, hC.o26, hC.f26, hC.t27, hC.l27, hC.s28, hC.o126, hC.f126_0, hC.f126_1, hC.t127, hC.l127, hC.t128, hC.l128, hC.s129, hC.n157, hC.n161, hC.o165, hC.f165, hC.t166, hC.l166, hC.r167, hC.r171, hC.q5, hC.q12, hC.q19, hC.q112, hC.q119, hC.a2, hC.a4, hC.a27, hC.a127, hC.a128, hC, lpTales, hT', e168, e168', e0', hpe, up_ap, e7, e9, e9n]
      cases hc : p e
      · simp only [hc] at K ⊢
        simp [e5] at K ⊢
        refine K _ (fun o ho1 ho2 => by rw [up_ne ho2]; exact h1 o ho1 ho2) (fun e' a1 a2 => ?_) ?_
        · rw [up_ap]
          by_cases hee : e' = e
          · subst hee; simp [hc]
          · rw [if_neg (by omega)]; exact h2 e' (by omega) a2
        · rw [up_ne (by omega)]; exact h3
      · simp only [hc] at K ⊢
        simp [e5, e6] at K ⊢
        rw [Int.add_comm] at K
        refine K _ (fun o ho1 ho2 => by rw [up_ne ho1, up_ne ho2]; exact h1 o ho1 ho2) (fun e' a1 a2 => ?_) ?_
        · rw [up_ne (by omega), up_ap]
          by_cases hee : e' = e
          · subst hee; simp [hc]
          · rw [if_neg (by omega)]; exact h2 e' (by omega) a2
        · simp [up_ap]
  have K := K σ (fun _ _ _ => rfl) (fun e a1 a2 => by omega) rfl
  refine wg (by decide) rgTa_ok tk_1 py_1 ml_1 30 (by simp [catT]) (fun N hN => ?_)
  simp [bl_1, hN _, x_iconst, x_ldc2_w, x_aconst_null, x_iload, x_lload, x_aload, x_istore, x_lstore, x_astore, x_iinc, x_iadd, x_isub, x_imul, x_idiv, x_irem, x_iand, x_ior, x_ixor, x_ishl, x_ishr, x_iushr, x_ineg, x_ladd, x_lsub, x_lmul, x_ldiv, x_lrem, x_lcmp, x_i2l, x_i2b, x_i2s, x_i2c, x_dup, x_pop, x_dup_x1, x_dup2, x_getfield, x_putfield, x_iaload, x_baload, x_saload, x_caload, x_daload, x_faload, x_laload, x_aaload, x_iastore, x_bastore, x_sastore, x_castore, x_lastore, x_aastore, x_arraylength, x_getstatic, x_goto, x_goto_w, x_ifCond, x_if_icmp, x_ifnull, x_ifnonnull, x_lookupswitch, x_invokevirtual, x_invokestatic, x_invokedynamic, x_ireturn, x_freturn, x_dreturn, x_lreturn, x_areturn, x_return_, pI_c, pL_c, pR_c, pV_i, pV_r, gI_c, gL_c, gR_c, pN_z, pN_s, lget_c, lins_z, lins_c, ldel_z, ldel_c, ldel2_z, ldel2_c, lset_i, lset_l, lset_r, lkeep_z, lkeep_c, largs_z, largs_c, cat_i, cat_l, cat_r, lkp_c, cnd_eq, cnd_ne, cnd_lt, cnd_ge, cnd_gt, cnd_le, swL_z, swL_c, rE_e, rOr_s, rOr_n, rlk_z, rlk_c, aR_c, aI_c, aII_c, aIII_c, aRI_c, aRII_c, aRIII_c, vJn, vJs, vlc, aRR_c, aRRI_c, aRRII_c, aRRIII_c, aRIIII_c, aRL_c, aRLL_c, aLL_c, aRRRI_c, aIL_c, aIIII_c, aRRIIII_c, aIRII_c, aIR_c, aLI_c, aRIR_c, aRIIR_c]
  exact K
