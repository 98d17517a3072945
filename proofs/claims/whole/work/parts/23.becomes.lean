/-! StruckColours$Sea: becomes, sums -/
theorem cpy_ne {σ : Mem} {x sp b dp n o : Int} (h : o ≠ b) : cpy σ x sp b dp n o = σ o := by
  funext j
  unfold cpy
  rw [if_neg (fun z => h z.1)]
theorem cpy_in {σ : Mem} {x b n j : Int} (h0 : 0 ≤ j) (h1 : j < n) : cpy σ x 0 b 0 n b j = σ x j := by
  unfold cpy
  rw [if_pos ⟨rfl, h0, by omega⟩]
  congr 1
  omega
theorem vw_of {S σ : Mem} {a b : Int} (h1 : S a 1 = σ b 1) (h2 : S a 2 = σ b 2) (g2 : ∀ j, 0 ≤ j → j < 6 → S (a + 2) j = σ (b + 2) j) (g3 : ∀ j, 0 ≤ j → j < 6 → S (a + 3) j = σ (b + 3) j) (g4 : ∀ j, 0 ≤ j → j < 6 → S (a + 4) j = σ (b + 4) j) (g5 : ∀ j, 0 ≤ j → j < 6 → S (a + 5) j = σ (b + 5) j) (g6 : ∀ j, 0 ≤ j → j < 24 → S (a + 6) j = σ (b + 6) j) : vwS S a = vwS σ b := by
  funext j
  unfold vwS
  by_cases c0 : j < 0
  · rw [if_pos c0, if_pos c0]
  rw [if_neg c0, if_neg c0]
  by_cases c1 : j < 6
  · rw [if_pos c1, if_pos c1]; exact g2 j (by omega) c1
  rw [if_neg c1, if_neg c1]
  by_cases c2 : j < 12
  · rw [if_pos c2, if_pos c2]; exact g3 _ (by omega) (by omega)
  rw [if_neg c2, if_neg c2]
  by_cases c3 : j < 36
  · rw [if_pos c3, if_pos c3]; exact g6 _ (by omega) (by omega)
  rw [if_neg c3, if_neg c3]
  by_cases c4 : j < 42
  · rw [if_pos c4, if_pos c4]; exact g4 _ (by omega) (by omega)
  rw [if_neg c4, if_neg c4]
  by_cases c5 : j < 48
  · rw [if_pos c5, if_pos c5]; exact g5 _ (by omega) (by omega)
  rw [if_neg c5, if_neg c5, h1, h2]
def SeaCp (σ σ' : Mem) (a b : Int) : Prop := (∀ o, (o < a ∨ a + 6 < o) → σ' o = σ o) ∧ σ' a 0 = σ b 0 ∧ (∀ i, 0 ≤ i → i < 6 → σ' (a + 1) i = σ (b + 1) i) ∧ vwS σ' a = vwS σ b
def spBecomes : Sp := fun as t σ Q => pR as fun a r => pR r fun b r => r = [] ∧ SeaT t a ∧ SeaT t b ∧ (a + 6 < b ∨ b + 6 < a) ∧ ∀ σ', SeaCp σ σ' a b → Q none t σ'
set_option maxRecDepth 20000 in
theorem c_becomes {l : Launch} {g : GE} {d : Nat} {t : Tau} {σ : Mem} {Q : Post} {as : List TV} (h : spBecomes as t σ Q) : WPc l g 40 (d + 1) 0 0 as t σ Q := by
  obtain ⟨a, r1, rfl, h1⟩ := pR_e h
  obtain ⟨b, r2, rfl, rfl, hs, hb, hd, h⟩ := pR_e h1
  obtain ⟨o, f1, f2, f3, f4, f5, f6, t1, t2, t3, t4, t5, t6, l1, l2, l3, l4, l5, l6⟩ := hs
  obtain ⟨o', f1', f2', f3', f4', f5', f6', t1', t2', t3', t4', t5', t6', l1', l2', l3', l4', l5', l6'⟩ := hb
  refine wg (by decide) rE_nil tk_40 py_40 ml_40 30 (by simp [catT]) (fun N hN => ?_)
  simp [bl_40, hN _, x_iconst, x_ldc2_w, x_aconst_null, x_iload, x_lload, x_aload, x_istore, x_lstore, x_astore, x_iinc, x_iadd, x_isub, x_imul, x_idiv, x_irem, x_iand, x_ior, x_ixor, x_ishl, x_ishr, x_iushr, x_ineg, x_ladd, x_lsub, x_lmul, x_ldiv, x_lrem, x_lcmp, x_i2l, x_i2b, x_i2s, x_i2c, x_dup, x_pop, x_dup_x1, x_dup2, x_getfield, x_putfield, x_iaload, x_baload, x_saload, x_caload, x_daload, x_faload, x_laload, x_aaload, x_iastore, x_bastore, x_sastore, x_castore, x_lastore, x_aastore, x_arraylength, x_getstatic, x_goto, x_goto_w, x_ifCond, x_if_icmp, x_ifnull, x_ifnonnull, x_lookupswitch, x_invokevirtual, x_invokestatic, x_invokedynamic, x_ireturn, x_freturn, x_dreturn, x_lreturn, x_areturn, x_return_, pI_c, pL_c, pR_c, pV_i, pV_r, gI_c, gL_c, gR_c, pN_z, pN_s, lget_c, lins_z, lins_c, ldel_z, ldel_c, ldel2_z, ldel2_c, lset_i, lset_l, lset_r, lkeep_z, lkeep_c, largs_z, largs_c, cat_i, cat_l, cat_r, lkp_c, cnd_eq, cnd_ne, cnd_lt, cnd_ge, cnd_gt, cnd_le, swL_z, swL_c, rE_e, rOr_s, rOr_n, rlk_z, rlk_c, aR_c, aI_c, aII_c, aIII_c, aRI_c, aRII_c, aRIII_c, vJn, vJs, vlc, o, f1, f2, f3, f4, f5, f6, t1, t2, t3, t4, t5, t6, l1, l2, l3, l4, l5, l6, o', f1', f2', f3', f4', f5', f6', t1', t2', t3', t4', t5', t6', l1', l2', l3', l4', l5', l6']
  clear h1 o f1 f2 f3 f4 f5 f6 t1 t2 t3 t4 t5 t6 l1 l2 l3 l4 l5 l6 o' f1' f2' f3' f4' f5' f6' t1' t2' t3' t4' t5' t6' l1' l2' l3' l4' l5' l6'
  refine h _ ⟨fun q hq => ?_, ?_, fun i i0 i1 => ?_, vw_of ?_ ?_ (fun j j0 j1 => ?_) (fun j j0 j1 => ?_) (fun j j0 j1 => ?_) (fun j j0 j1 => ?_) (fun j j0 j1 => ?_)⟩
  · simp (disch := omega) only [cpy_ne, up_ne]
  · simp (disch := omega) only [cpy_ne, up_ne]
    simp only [up_ap]
    grind
  · simp (disch := omega) only [cpy_ne, cpy_in, up_ne]
  · simp (disch := omega) only [cpy_ne, up_ne]
    simp only [up_ap]
    grind
  · simp (disch := omega) only [cpy_ne, up_ne]
    simp only [up_ap]
    grind
  · simp (disch := omega) only [cpy_ne, cpy_in, up_ne]
  · simp (disch := omega) only [cpy_ne, cpy_in, up_ne]
  · simp (disch := omega) only [cpy_ne, cpy_in, up_ne]
  · simp (disch := omega) only [cpy_ne, cpy_in, up_ne]
  · simp (disch := omega) only [cpy_ne, cpy_in, up_ne]
