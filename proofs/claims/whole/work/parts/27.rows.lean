/-! folds, loops, views behind a write elsewhere; the ROW, THE TEXT, what was noted -/
def fo {α : Type} (st : Nat → α → α) (a : α) : Nat → α
  | 0 => a
  | k + 1 => st k (fo st a k)
theorem fo_z {α : Type} {st : Nat → α → α} {a : α} : fo st a 0 = a := rfl
theorem fo_s {α : Type} {st : Nat → α → α} {a : α} {k : Nat} : fo st a (k + 1) = st k (fo st a k) := rfl
theorem lpU {P : Nat → Prop} {n : Nat} (hz : P n) (hs : ∀ i, i < n → P (i + 1) → P i) : P 0 := by
  have h : ∀ k, k ≤ n → P (n - k) := by
    intro k
    induction k with
    | zero => intro _; exact hz
    | succ k ih =>
      intro hk
      have h1 := ih (by omega)
      have e : n - k = n - (k + 1) + 1 := by omega
      rw [e] at h1
      exact hs _ (by omega) h1
  have h1 := h n (Nat.le_refl _)
  rwa [Nat.sub_self] at h1
theorem lpF {P : Nat → Prop} {j n : Nat} (hj : j ≤ n) (hz : P n) (hs : ∀ i, j ≤ i → i < n → P (i + 1) → P i) : P j := by
  have := lpU (P := fun i => P (j + i)) (n := n - j) (by rw [show j + (n - j) = n by omega]; exact hz) (fun i hi h => hs (j + i) (by omega) (by omega) h)
  exact this
theorem up_r {σ : Mem} {r j x : Int} : up σ r j x r = upv (σ r) j x := by
  funext k
  simp [up, upv]
theorem vw_up {σ : Mem} {o j x a : Int} (h : o < a ∨ a + 6 < o) : vwS (up σ o j x) a = vwS σ a := (sea_cg fun q h1 h2 => up_ne (by omega)).2.2
theorem nS_up {σ : Mem} {o j x a : Int} (h : o < a ∨ a + 6 < o) : nS (up σ o j x) a = nS σ a := (sea_cg fun q h1 h2 => up_ne (by omega)).1
theorem mS_up {σ : Mem} {o j x a : Int} (h : o < a ∨ a + 6 < o) : mS (up σ o j x) a = mS σ a := (sea_cg fun q h1 h2 => up_ne (by omega)).2.1
theorem ok_up {t : Tau} {σ : Mem} {o j x a : Int} (h : o < a ∨ a + 6 < o) : SeaOk t (up σ o j x) a = SeaOk t σ a :=
  propext ⟨fun k => seaok_cg (fun q h1 h2 => (up_ne (by omega)).symm) k, fun k => seaok_cg (fun q h1 h2 => up_ne (by omega)) k⟩
theorem isArr_of {t : Tau} {x : Int} {ty n : Nat} (h : isT t x ty) (hy : ty ≤ 5) (hl : lenOf t x = n) (hn : n < 2147483648) : isArr t x := ⟨h.1, ty, lenOf t x, hy, by rw [hl]; exact hn, h.2⟩
theorem TC.q5 {t : Tau} (h : TC t) : isO t 5 5 := h.s5.1
theorem TC.q12 {t : Tau} (h : TC t) : isO t 12 5 := h.s12.1
theorem TC.q19 {t : Tau} (h : TC t) : isO t 19 5 := h.s19.1
theorem TC.q112 {t : Tau} (h : TC t) : isO t 112 5 := h.s112.1
theorem TC.q119 {t : Tau} (h : TC t) : isO t 119 5 := h.s119.1
theorem TC.a2 {t : Tau} (h : TC t) : isArr t 2 := isArr_of h.t2 (by omega) h.l2 (by omega)
theorem TC.a4 {t : Tau} (h : TC t) : isArr t 4 := isArr_of h.t4 (by omega) h.l4 (by omega)
theorem TC.a27 {t : Tau} (h : TC t) : isArr t 27 := isArr_of h.t27 (by omega) h.l27 (by omega)
theorem TC.a127 {t : Tau} (h : TC t) : isArr t 127 := isArr_of h.t127 (by omega) h.l127 (by omega)
theorem TC.a128 {t : Tau} (h : TC t) : isArr t 128 := isArr_of h.t128 (by omega) h.l128 (by omega)
/-! the ROW -/
def rpClears : Sp := fun as t σ Q => aR as fun a => a = 3 ∧ TC t ∧ Q none t (up σ 3 1 0)
theorem r_clears {l : Launch} {g : GE} {d : Nat} {t : Tau} {σ : Mem} {Q : Post} {as : List TV} (h : rpClears as t σ Q) : WPc l g 17 (d + 1) 0 0 as t σ Q := by
  obtain ⟨a, rfl, rfl, hC, h⟩ := aR_e h
  refine wg (by decide) rE_nil tk_17 py_17 ml_17 30 (by simp [catT]) (fun N hN => ?_)
  simp [bl_17, hN _, x_iconst, x_ldc2_w, x_aconst_null, x_iload, x_lload, x_aload, x_istore, x_lstore, x_astore, x_iinc, x_iadd, x_isub, x_imul, x_idiv, x_irem, x_iand, x_ior, x_ixor, x_ishl, x_ishr, x_iushr, x_ineg, x_ladd, x_lsub, x_lmul, x_ldiv, x_lrem, x_lcmp, x_i2l, x_i2b, x_i2s, x_i2c, x_dup, x_pop, x_dup_x1, x_dup2, x_getfield, x_putfield, x_iaload, x_baload, x_saload, x_caload, x_daload, x_faload, x_laload, x_aaload, x_iastore, x_bastore, x_sastore, x_castore, x_lastore, x_aastore, x_arraylength, x_getstatic, x_goto, x_goto_w, x_ifCond, x_if_icmp, x_ifnull, x_ifnonnull, x_lookupswitch, x_invokevirtual, x_invokestatic, x_invokedynamic, x_ireturn, x_freturn, x_dreturn, x_lreturn, x_areturn, x_return_, pI_c, pL_c, pR_c, pV_i, pV_r, gI_c, gL_c, gR_c, pN_z, pN_s, lget_c, lins_z, lins_c, ldel_z, ldel_c, ldel2_z, ldel2_c, lset_i, lset_l, lset_r, lkeep_z, lkeep_c, largs_z, largs_c, cat_i, cat_l, cat_r, lkp_c, cnd_eq, cnd_ne, cnd_lt, cnd_ge, cnd_gt, cnd_le, swL_z, swL_c, rE_e, rOr_s, rOr_n, rlk_z, rlk_c, aR_c, aI_c, aII_c, aIII_c, aRI_c, aRII_c, aRIII_c, vJn, vJs, vlc, aRR_c, aRRI_c, aRRII_c, aRRIII_c, aRIIII_c, aRL_c, aRLL_c, aLL_c, aRRRI_c, aIL_c, aIIII_c, aRRIIII_c, aIRII_c, aIR_c, aLI_c, aRIR_c, aRIIR_c, hC.o3]
  exact h
def rpAdds : Sp := fun as t σ Q => aRL as fun a v => a = 3 ∧ TC t ∧ (0 ≤ σ 3 1 ∧ σ 3 1 < 8) ∧ Q none t (up (up σ 4 (σ 3 1) v) 3 1 (σ 3 1 + 1))
theorem r_adds {l : Launch} {g : GE} {d : Nat} {t : Tau} {σ : Mem} {Q : Post} {as : List TV} (h : rpAdds as t σ Q) : WPc l g 18 (d + 1) 0 0 as t σ Q := by
  obtain ⟨a, v, rfl, rfl, hC, ⟨h0, h1⟩, h⟩ := aRL_e h
  have e1 : w32 (σ 3 1 + 1) = σ 3 1 + 1 := w32_id (by omega) (by omega)
  refine wg (by decide) rE_nil tk_18 py_18 ml_18 30 (by simp [catT]) (fun N hN => ?_)
  simp [bl_18, hN _, x_iconst, x_ldc2_w, x_aconst_null, x_iload, x_lload, x_aload, x_istore, x_lstore, x_astore, x_iinc, x_iadd, x_isub, x_imul, x_idiv, x_irem, x_iand, x_ior, x_ixor, x_ishl, x_ishr, x_iushr, x_ineg, x_ladd, x_lsub, x_lmul, x_ldiv, x_lrem, x_lcmp, x_i2l, x_i2b, x_i2s, x_i2c, x_dup, x_pop, x_dup_x1, x_dup2, x_getfield, x_putfield, x_iaload, x_baload, x_saload, x_caload, x_daload, x_faload, x_laload, x_aaload, x_iastore, x_bastore, x_sastore, x_castore, x_lastore, x_aastore, x_arraylength, x_getstatic, x_goto, x_goto_w, x_ifCond, x_if_icmp, x_ifnull, x_ifnonnull, x_lookupswitch, x_invokevirtual, x_invokestatic, x_invokedynamic, x_ireturn, x_freturn, x_dreturn, x_lreturn, x_areturn, x_return_, pI_c, pL_c, pR_c, pV_i, pV_r, gI_c, gL_c, gR_c, pN_z, pN_s, lget_c, lins_z, lins_c, ldel_z, ldel_c, ldel2_z, ldel2_c, lset_i, lset_l, lset_r, lkeep_z, lkeep_c, largs_z, largs_c, cat_i, cat_l, cat_r, lkp_c, cnd_eq, cnd_ne, cnd_lt, cnd_ge, cnd_gt, cnd_le, swL_z, swL_c, rE_e, rOr_s, rOr_n, rlk_z, rlk_c, aR_c, aI_c, aII_c, aIII_c, aRI_c, aRII_c, aRIII_c, vJn, vJs, vlc, aRR_c, aRRI_c, aRRII_c, aRRIII_c, aRIIII_c, aRL_c, aRLL_c, aLL_c, aRRRI_c, aIL_c, aIIII_c, aRRIIII_c, aIRII_c, aIR_c, aLI_c, aRIR_c, aRIIR_c, hC.o3, hC.f3, hC.t4, hC.l4, hC.a4, up_ap, h0, h1, e1]
  exact ⟨fun z => by omega, fun z => by omega, h⟩
def rpHas : Sp := fun as t σ Q => aRI as fun a i => a = 3 ∧ TC t ∧ Q (some (vI (if 0 ≤ i ∧ i < σ 3 1 ∧ i < 8 then 1 else 0))) t σ
theorem r_has {l : Launch} {g : GE} {d : Nat} {t : Tau} {σ : Mem} {Q : Post} {as : List TV} (h : rpHas as t σ Q) : WPc l g 21 (d + 1) 0 0 as t σ Q := by
  obtain ⟨a, i, rfl, rfl, hC, h⟩ := aRI_e h
  refine wg (by decide) rE_nil tk_21 py_21 ml_21 30 (by simp [catT]) (fun N hN => ?_)
  simp [bl_21, hN _, x_iconst, x_ldc2_w, x_aconst_null, x_iload, x_lload, x_aload, x_istore, x_lstore, x_astore, x_iinc, x_iadd, x_isub, x_imul, x_idiv, x_irem, x_iand, x_ior, x_ixor, x_ishl, x_ishr, x_iushr, x_ineg, x_ladd, x_lsub, x_lmul, x_ldiv, x_lrem, x_lcmp, x_i2l, x_i2b, x_i2s, x_i2c, x_dup, x_pop, x_dup_x1, x_dup2, x_getfield, x_putfield, x_iaload, x_baload, x_saload, x_caload, x_daload, x_faload, x_laload, x_aaload, x_iastore, x_bastore, x_sastore, x_castore, x_lastore, x_aastore, x_arraylength, x_getstatic, x_goto, x_goto_w, x_ifCond, x_if_icmp, x_ifnull, x_ifnonnull, x_lookupswitch, x_invokevirtual, x_invokestatic, x_invokedynamic, x_ireturn, x_freturn, x_dreturn, x_lreturn, x_areturn, x_return_, pI_c, pL_c, pR_c, pV_i, pV_r, gI_c, gL_c, gR_c, pN_z, pN_s, lget_c, lins_z, lins_c, ldel_z, ldel_c, ldel2_z, ldel2_c, lset_i, lset_l, lset_r, lkeep_z, lkeep_c, largs_z, largs_c, cat_i, cat_l, cat_r, lkp_c, cnd_eq, cnd_ne, cnd_lt, cnd_ge, cnd_gt, cnd_le, swL_z, swL_c, rE_e, rOr_s, rOr_n, rlk_z, rlk_c, aR_c, aI_c, aII_c, aIII_c, aRI_c, aRII_c, aRIII_c, vJn, vJs, vlc, aRR_c, aRRI_c, aRRII_c, aRRIII_c, aRIIII_c, aRL_c, aRLL_c, aLL_c, aRRRI_c, aIL_c, aIIII_c, aRRIIII_c, aIRII_c, aIR_c, aLI_c, aRIR_c, aRIIR_c, hC.o3, hC.f3, hC.t4, hC.l4, hC.a4]
  grind
theorem rgHas_ok {l : Launch} {g : GE} {d : Nat} : ∀ e as t σ Q, rE l g (d + 1) [(21, rpHas)] e as t σ Q → WPc l g e (d + 1) 0 0 as t σ Q := rE_cons (fun _ _ _ _ h => r_has h) rE_nil
def rpAt : Sp := fun as t σ Q => aRI as fun a i => a = 3 ∧ TC t ∧ Q (some (vL (if 0 ≤ i ∧ i < σ 3 1 ∧ i < 8 then σ 4 i else 0))) t σ
theorem r_at {l : Launch} {g : GE} {d : Nat} {t : Tau} {σ : Mem} {Q : Post} {as : List TV} (h : rpAt as t σ Q) : WPc l g 22 (d + 2) 0 0 as t σ Q := by
  obtain ⟨a, i, rfl, rfl, hC, h⟩ := aRI_e h
  refine wg (by decide) rgHas_ok tk_22 py_22 ml_22 30 (by simp [catT]) (fun N hN => ?_)
  simp [bl_22, hN _, x_iconst, x_ldc2_w, x_aconst_null, x_iload, x_lload, x_aload, x_istore, x_lstore, x_astore, x_iinc, x_iadd, x_isub, x_imul, x_idiv, x_irem, x_iand, x_ior, x_ixor, x_ishl, x_ishr, x_iushr, x_ineg, x_ladd, x_lsub, x_lmul, x_ldiv, x_lrem, x_lcmp, x_i2l, x_i2b, x_i2s, x_i2c, x_dup, x_pop, x_dup_x1, x_dup2, x_getfield, x_putfield, x_iaload, x_baload, x_saload, x_caload, x_daload, x_faload, x_laload, x_aaload, x_iastore, x_bastore, x_sastore, x_castore, x_lastore, x_aastore, x_arraylength, x_getstatic, x_goto, x_goto_w, x_ifCond, x_if_icmp, x_ifnull, x_ifnonnull, x_lookupswitch, x_invokevirtual, x_invokestatic, x_invokedynamic, x_ireturn, x_freturn, x_dreturn, x_lreturn, x_areturn, x_return_, pI_c, pL_c, pR_c, pV_i, pV_r, gI_c, gL_c, gR_c, pN_z, pN_s, lget_c, lins_z, lins_c, ldel_z, ldel_c, ldel2_z, ldel2_c, lset_i, lset_l, lset_r, lkeep_z, lkeep_c, largs_z, largs_c, cat_i, cat_l, cat_r, lkp_c, cnd_eq, cnd_ne, cnd_lt, cnd_ge, cnd_gt, cnd_le, swL_z, swL_c, rE_e, rOr_s, rOr_n, rlk_z, rlk_c, aR_c, aI_c, aII_c, aIII_c, aRI_c, aRII_c, aRIII_c, vJn, vJs, vlc, aRR_c, aRRI_c, aRRII_c, aRRIII_c, aRIIII_c, aRL_c, aRLL_c, aLL_c, aRRRI_c, aIL_c, aIIII_c, aRRIIII_c, aIRII_c, aIR_c, aLI_c, aRIR_c, aRIIR_c, rpHas, hC, hC.o3, hC.f3, hC.t4, hC.l4, hC.a4]
  grind
noncomputable def gcdF : Nat → Int → Int → Int
  | 0, a, _ => a
  | k + 1, a, b => if b = 0 then a else gcdF k b (w64 (a.tmod b))
theorem gcdF_nat : ∀ (m k : Nat) (x y : Nat), y < 2 ^ m → y < 9223372036854775808 → 2 * m + 1 ≤ k → gcdF k x y = (Nat.gcd x y : Nat)
  | 0, k, x, y, hy, _, hk => by
    obtain ⟨k, rfl⟩ : ∃ j, k = j + 1 := ⟨k - 1, by omega⟩
    have : y = 0 := by simpa using hy
    subst this
    simp [gcdF]
  | m + 1, k, x, y, hy, hb, hk => by
    obtain ⟨k, rfl⟩ : ∃ j, k = j + 2 := ⟨k - 2, by omega⟩
    by_cases h0 : y = 0
    · subst h0; simp [gcdF]
    · have e1 : w64 ((x : Int).tmod y) = ((x % y : Nat) : Int) := by
        rw [← Int.ofNat_tmod]
        have := Nat.mod_lt x (Nat.pos_of_ne_zero h0)
        exact w64_id (by omega) (by omega)
      show (if (y : Int) = 0 then _ else gcdF (k + 1) y (w64 ((x : Int).tmod y))) = _
      rw [if_neg (by omega), e1]
      have hr := Nat.mod_lt x (Nat.pos_of_ne_zero h0)
      have eg : Nat.gcd x y = Nat.gcd y (x % y) := by rw [Nat.gcd_comm x y, Nat.gcd_rec y x, Nat.gcd_comm]
      rw [eg]
      generalize x % y = r at hr
      by_cases hr0 : r = 0
      · subst hr0; simp [gcdF]
      · have e2 : w64 ((y : Int).tmod r) = ((y % r : Nat) : Int) := by
          rw [← Int.ofNat_tmod]
          have := Nat.mod_lt y (Nat.pos_of_ne_zero hr0)
          exact w64_id (by omega) (by omega)
        show (if (r : Int) = 0 then _ else gcdF k r (w64 ((y : Int).tmod r))) = _
        rw [if_neg (by omega), e2]
        have eg2 : Nat.gcd y r = Nat.gcd r (y % r) := by rw [Nat.gcd_comm y r, Nat.gcd_rec r y, Nat.gcd_comm]
        rw [eg2]
        refine gcdF_nat m k r (y % r) ?_ ?_ (by omega)
        · have hp : 2 ^ (m + 1) = 2 * 2 ^ m := by rw [Nat.pow_succ, Nat.mul_comm]
          have h3 := Nat.mod_lt y (Nat.pos_of_ne_zero hr0)
          have h4 : y % r + r ≤ y := by
            have := Nat.div_add_mod y r
            have h5 : 1 ≤ y / r := (Nat.one_le_div_iff (Nat.pos_of_ne_zero hr0)).mpr (by omega)
            have h6 : r * 1 ≤ r * (y / r) := Nat.mul_le_mul_left r h5
            omega
          omega
        · have := Nat.mod_lt y (Nat.pos_of_ne_zero hr0)
          omega
def rpCommon : Sp := fun as t σ Q => aLL as fun a b => Q (some (vL (gcdF 200 a b))) t σ
theorem r_common {l : Launch} {g : GE} {d : Nat} {t : Tau} {σ : Mem} {Q : Post} {as : List TV} (h : rpCommon as t σ Q) : WPc l g 20 (d + 1) 0 0 as t σ Q := by
  obtain ⟨a, b, rfl, h⟩ := aLL_e h
  have lp : ∀ (r i : Nat) (x y : Int), i + r = 200 → gcdF r x y = gcdF 200 a b → Wp l g 20 (d + 1) 0 0 9 [(4, vL x), (6, vL y), (8, vI i)] [] t σ Q := by
    intro r
    induction r with
    | zero =>
      intro i x y hi he
      obtain rfl : i = 200 := by omega
      refine wa (by decide) rE_nil tk_20 30 (fun N hN => ?_)
      simp [bl_20, hN _, x_iconst, x_ldc2_w, x_aconst_null, x_iload, x_lload, x_aload, x_istore, x_lstore, x_astore, x_iinc, x_iadd, x_isub, x_imul, x_idiv, x_irem, x_iand, x_ior, x_ixor, x_ishl, x_ishr, x_iushr, x_ineg, x_ladd, x_lsub, x_lmul, x_ldiv, x_lrem, x_lcmp, x_i2l, x_i2b, x_i2s, x_i2c, x_dup, x_pop, x_dup_x1, x_dup2, x_getfield, x_putfield, x_iaload, x_baload, x_saload, x_caload, x_daload, x_faload, x_laload, x_aaload, x_iastore, x_bastore, x_sastore, x_castore, x_lastore, x_aastore, x_arraylength, x_getstatic, x_goto, x_goto_w, x_ifCond, x_if_icmp, x_ifnull, x_ifnonnull, x_lookupswitch, x_invokevirtual, x_invokestatic, x_invokedynamic, x_ireturn, x_freturn, x_dreturn, x_lreturn, x_areturn, x_return_, pI_c, pL_c, pR_c, pV_i, pV_r, gI_c, gL_c, gR_c, pN_z, pN_s, lget_c, lins_z, lins_c, ldel_z, ldel_c, ldel2_z, ldel2_c, lset_i, lset_l, lset_r, lkeep_z, lkeep_c, largs_z, largs_c, cat_i, cat_l, cat_r, lkp_c, cnd_eq, cnd_ne, cnd_lt, cnd_ge, cnd_gt, cnd_le, swL_z, swL_c, rE_e, rOr_s, rOr_n, rlk_z, rlk_c, aR_c, aI_c, aII_c, aIII_c, aRI_c, aRII_c, aRIII_c, vJn, vJs, vlc, aRR_c, aRRI_c, aRRII_c, aRRIII_c, aRIIII_c, aRL_c, aRLL_c, aLL_c, aRRRI_c, aIL_c, aIIII_c, aRRIIII_c, aIRII_c, aIR_c, aLI_c, aRIR_c, aRIIR_c]
      rw [show x = gcdF 200 a b from he]
      exact h
    | succ r ih =>
      intro i x y hi he
      have e2 := w32_succ (k := i) (by omega); have i1 : ((i : Nat) : Int) < 200 := (by omega); have i1n : i < 200 := (by omega); have i1x : ¬ (200 : Int) ≤ (i : Nat) := (by omega)
      have he' : (if y = 0 then x else gcdF r y (w64 (x.tmod y))) = gcdF 200 a b := he
      refine wa (by decide) rE_nil tk_20 30 (fun N hN => ?_)
      simp [bl_20, hN _, x_iconst, x_ldc2_w, x_aconst_null, x_iload, x_lload, x_aload, x_istore, x_lstore, x_astore, x_iinc, x_iadd, x_isub, x_imul, x_idiv, x_irem, x_iand, x_ior, x_ixor, x_ishl, x_ishr, x_iushr, x_ineg, x_ladd, x_lsub, x_lmul, x_ldiv, x_lrem, x_lcmp, x_i2l, x_i2b, x_i2s, x_i2c, x_dup, x_pop, x_dup_x1, x_dup2, x_getfield, x_putfield, x_iaload, x_baload, x_saload, x_caload, x_daload, x_faload, x_laload, x_aaload, x_iastore, x_bastore, x_sastore, x_castore, x_lastore, x_aastore, x_arraylength, x_getstatic, x_goto, x_goto_w, x_ifCond, x_if_icmp, x_ifnull, x_ifnonnull, x_lookupswitch, x_invokevirtual, x_invokestatic, x_invokedynamic, x_ireturn, x_freturn, x_dreturn, x_lreturn, x_areturn, x_return_, pI_c, pL_c, pR_c, pV_i, pV_r, gI_c, gL_c, gR_c, pN_z, pN_s, lget_c, lins_z, lins_c, ldel_z, ldel_c, ldel2_z, ldel2_c, lset_i, lset_l, lset_r, lkeep_z, lkeep_c, largs_z, largs_c, cat_i, cat_l, cat_r, lkp_c, cnd_eq, cnd_ne, cnd_lt, cnd_ge, cnd_gt, cnd_le, swL_z, swL_c, rE_e, rOr_s, rOr_n, rlk_z, rlk_c, aR_c, aI_c, aII_c, aIII_c, aRI_c, aRII_c, aRIII_c, vJn, vJs, vlc, aRR_c, aRRI_c, aRRII_c, aRRIII_c, aRIIII_c, aRL_c, aRLL_c, aLL_c, aRRRI_c, aIL_c, aIIII_c, aRRIIII_c, aIRII_c, aIR_c, aLI_c, aRIR_c, aRIIR_c, e2, i1, i1n, i1x, icmp]
      refine ⟨fun z => ?_, fun z => ⟨?_, ?_⟩⟩
      · have : y = 0 := by revert z; split <;> (try split) <;> intro z <;> omega
        rw [if_pos this] at he'
        rw [he']; exact h
      · rintro rfl; simp at z
      · have : ¬ y = 0 := by rintro rfl; simp at z
        rw [if_neg this] at he'
        exact ih (i + 1) _ _ (by omega) he'
  have K := lp 200 0 a b (by omega) rfl
  refine wg (by decide) rE_nil tk_20 py_20 ml_20 30 (by simp [catT]) (fun N hN => ?_)
  simp [bl_20, hN _, x_iconst, x_ldc2_w, x_aconst_null, x_iload, x_lload, x_aload, x_istore, x_lstore, x_astore, x_iinc, x_iadd, x_isub, x_imul, x_idiv, x_irem, x_iand, x_ior, x_ixor, x_ishl, x_ishr, x_iushr, x_ineg, x_ladd, x_lsub, x_lmul, x_ldiv, x_lrem, x_lcmp, x_i2l, x_i2b, x_i2s, x_i2c, x_dup, x_pop, x_dup_x1, x_dup2, x_getfield, x_putfield, x_iaload, x_baload, x_saload, x_caload, x_daload, x_faload, x_laload, x_aaload, x_iastore, x_bastore, x_sastore, x_castore, x_lastore, x_aastore, x_arraylength, x_getstatic, x_goto, x_goto_w, x_ifCond, x_if_icmp, x_ifnull, x_ifnonnull, x_lookupswitch, x_invokevirtual, x_invokestatic, x_invokedynamic, x_ireturn, x_freturn, x_dreturn, x_lreturn, x_areturn, x_return_, pI_c, pL_c, pR_c, pV_i, pV_r, gI_c, gL_c, gR_c, pN_z, pN_s, lget_c, lins_z, lins_c, ldel_z, ldel_c, ldel2_z, ldel2_c, lset_i, lset_l, lset_r, lkeep_z, lkeep_c, largs_z, largs_c, cat_i, cat_l, cat_r, lkp_c, cnd_eq, cnd_ne, cnd_lt, cnd_ge, cnd_gt, cnd_le, swL_z, swL_c, rE_e, rOr_s, rOr_n, rlk_z, rlk_c, aR_c, aI_c, aII_c, aIII_c, aRI_c, aRII_c, aRIII_c, vJn, vJs, vlc, aRR_c, aRRI_c, aRRII_c, aRRIII_c, aRIIII_c, aRL_c, aRLL_c, aLL_c, aRRRI_c, aIL_c, aIIII_c, aRRIIII_c, aIRII_c, aIR_c, aLI_c, aRIR_c, aRIIR_c]
  exact K
abbrev rgR : Reg := [(17, rpClears), (18, rpAdds), (20, rpCommon)]
theorem rgR_ok {l : Launch} {g : GE} {d : Nat} : ∀ e as t σ Q, rE l g (d + 1) rgR e as t σ Q → WPc l g e (d + 1) 0 0 as t σ Q := rE_cons (fun _ _ _ _ h => r_clears h) (rE_cons (fun _ _ _ _ h => r_adds h) (rE_cons (fun _ _ _ _ h => r_common h) rE_nil))
def rpFrac : Sp := fun as t σ Q => aRLL as fun a u w => a = 3 ∧ TC t ∧ (0 ≤ σ 3 1 ∧ σ 3 1 < 7) ∧ ∃ x y : Nat, u = x ∧ w = y ∧ 0 < y ∧ y ≤ 1000000000000000 ∧ x ≤ 1000000000000000 ∧ Q none t (up (up (up (up σ 4 (σ 3 1) ((x / Nat.gcd x y : Nat) : Int)) 3 1 (σ 3 1 + 1)) 4 (σ 3 1 + 1) ((y / Nat.gcd x y : Nat) : Int)) 3 1 (σ 3 1 + 1 + 1))
theorem r_frac {l : Launch} {g : GE} {d : Nat} {t : Tau} {σ : Mem} {Q : Post} {as : List TV} (h : rpFrac as t σ Q) : WPc l g 19 (d + 2) 0 0 as t σ Q := by
  obtain ⟨a, u, w, rfl, rfl, hC, ⟨h0, h1⟩, x, y, rfl, rfl, hy, hy1, hx1, h⟩ := aRLL_e h
  have eg : gcdF 200 x y = (Nat.gcd x y : Nat) := gcdF_nat 60 200 x y (by omega) (by omega) (by omega)
  have hg : 0 < Nat.gcd x y := Nat.gcd_pos_of_pos_right x hy
  have hi : icmp (Nat.gcd x y : Nat) 0 ≠ 0 := by unfold icmp; split <;> (try split) <;> omega
  have hz : ((Nat.gcd x y : Nat) : Int) ≠ 0 := by omega
  have a1 : σ 3 1 < 8 := by omega
  have a2 : 0 ≤ σ 3 1 + 1 := by omega
  have a3 : σ 3 1 + 1 < 8 := by omega
  refine wg (by decide) rgR_ok tk_19 py_19 ml_19 30 (by simp [catT]) (fun N hN => ?_)
  have d1 : w64 ((x : Int) / (Nat.gcd x y : Nat)) = ((x / Nat.gcd x y : Nat) : Int) := by
    have h9 := Nat.div_le_self x (Nat.gcd x y)
    rw [← Int.natCast_ediv]
    generalize x / Nat.gcd x y = q at h9 ⊢
    exact w64_id (by omega) (by omega)
  have d2 : w64 ((y : Int) / (Nat.gcd x y : Nat)) = ((y / Nat.gcd x y : Nat) : Int) := by
    have h9 := Nat.div_le_self y (Nat.gcd x y)
    rw [← Int.natCast_ediv]
    generalize y / Nat.gcd x y = q at h9 ⊢
    exact w64_id (by omega) (by omega)
  simp [bl_19, hN _, x_iconst, x_ldc2_w, x_aconst_null, x_iload, x_lload, x_aload, x_istore, x_lstore, x_astore, x_iinc, x_iadd, x_isub, x_imul, x_idiv, x_irem, x_iand, x_ior, x_ixor, x_ishl, x_ishr, x_iushr, x_ineg, x_ladd, x_lsub, x_lmul, x_ldiv, x_lrem, x_lcmp, x_i2l, x_i2b, x_i2s, x_i2c, x_dup, x_pop, x_dup_x1, x_dup2, x_getfield, x_putfield, x_iaload, x_baload, x_saload, x_caload, x_daload, x_faload, x_laload, x_aaload, x_iastore, x_bastore, x_sastore, x_castore, x_lastore, x_aastore, x_arraylength, x_getstatic, x_goto, x_goto_w, x_ifCond, x_if_icmp, x_ifnull, x_ifnonnull, x_lookupswitch, x_invokevirtual, x_invokestatic, x_invokedynamic, x_ireturn, x_freturn, x_dreturn, x_lreturn, x_areturn, x_return_, pI_c, pL_c, pR_c, pV_i, pV_r, gI_c, gL_c, gR_c, pN_z, pN_s, lget_c, lins_z, lins_c, ldel_z, ldel_c, ldel2_z, ldel2_c, lset_i, lset_l, lset_r, lkeep_z, lkeep_c, largs_z, largs_c, cat_i, cat_l, cat_r, lkp_c, cnd_eq, cnd_ne, cnd_lt, cnd_ge, cnd_gt, cnd_le, swL_z, swL_c, rE_e, rOr_s, rOr_n, rlk_z, rlk_c, aR_c, aI_c, aII_c, aIII_c, aRI_c, aRII_c, aRIII_c, vJn, vJs, vlc, aRR_c, aRRI_c, aRRII_c, aRRIII_c, aRIIII_c, aRL_c, aRLL_c, aLL_c, aRRRI_c, aIL_c, aIIII_c, aRRIIII_c, aIRII_c, aIR_c, aLI_c, aRIR_c, aRIIR_c, rpClears, rpAdds, rpCommon, hC, hC.o3, eg, h0, a1, a2, a3, up_ap, d1, d2]
  exact ⟨fun z => (hi z).elim, fun z => ⟨by omega, by simpa using h⟩⟩
/-! what the ROW holds -/
def rwIs (σ : Mem) (L : List Int) : Prop := σ 3 1 = L.length ∧ L.length ≤ 8 ∧ ∀ k : Nat, k < L.length → σ 4 k = L.getD k 0
theorem rwIs.nil {σ : Mem} : rwIs (up σ 3 1 0) [] := ⟨by simp [up], by simp, fun k hk => by simp at hk⟩
theorem rwIs.add {σ : Mem} {L : List Int} {v : Int} (h : rwIs σ L) (hl : L.length < 8) : rwIs (up (up σ 4 (σ 3 1) v) 3 1 (σ 3 1 + 1)) (L ++ [v]) := by
  obtain ⟨h1, h2, h3⟩ := h
  refine ⟨by simp [up]; omega, by simp; omega, fun k hk => ?_⟩
  rw [up_ne (by omega)]
  simp only [up]
  by_cases hkl : k = L.length
  · subst hkl; simp [h1]
  · have h4 : k < L.length := by simp at hk; omega
    have h5 := h3 k h4
    rw [if_neg (by omega), h5]
    simp [List.getElem?_append_left h4]
theorem rwIs.cg {σ σ' : Mem} {L : List Int} (h : rwIs σ L) (h3 : σ' 3 = σ 3) (h4 : σ' 4 = σ 4) : rwIs σ' L := by
  unfold rwIs; rw [h3, h4]; exact h
theorem rw_1 {σ : Mem} {a : Int} : rwIs (up (up (up σ 3 1 0) 4 0 a) 3 1 1) [a] := by
  have := (rwIs.nil (σ := σ)).add (v := a) (by simp)
  simpa [up_ap] using this
theorem rw_2 {σ : Mem} {a b : Int} : rwIs (up (up (up (up (up σ 3 1 0) 4 0 a) 3 1 1) 4 1 b) 3 1 2) [a, b] := by
  have := (rw_1 (σ := σ) (a := a)).add (v := b) (by simp)
  simpa [up_ap] using this
theorem rw_3 {σ : Mem} {a b c : Int} : rwIs (up (up (up (up (up (up (up σ 3 1 0) 4 0 a) 3 1 1) 4 1 b) 3 1 2) 4 2 c) 3 1 3) [a, b, c] := by
  have := (rw_2 (σ := σ) (a := a) (b := b)).add (v := c) (by simp)
  simpa [up_ap] using this
/-! THE TEXT -/
def TxOk (σ : Mem) : Prop := (0 ≤ σ 1 1 ∧ σ 1 1 ≤ 80) ∧ ∀ k : Int, 0 ≤ k → k < 80 → 0 ≤ σ 2 k ∧ σ 2 k < 256
def xpAdd : Sp := fun as t σ Q => aRI as fun a c => a = 1 ∧ TC t ∧ (0 ≤ σ 1 1 ∧ σ 1 1 < 80) ∧ Q none t (up (up σ 2 (σ 1 1) (ich c)) 1 1 (σ 1 1 + 1))
theorem x_add {l : Launch} {g : GE} {d : Nat} {t : Tau} {σ : Mem} {Q : Post} {as : List TV} (h : xpAdd as t σ Q) : WPc l g 81 (d + 1) 0 0 as t σ Q := by
  obtain ⟨a, v, rfl, rfl, hC, ⟨h0, h1⟩, h⟩ := aRI_e h
  have e1 : w32 (σ 1 1 + 1) = σ 1 1 + 1 := w32_id (by omega) (by omega)
  refine wg (by decide) rE_nil tk_81 py_81 ml_81 30 (by simp [catT]) (fun N hN => ?_)
  simp [bl_81, hN _, x_iconst, x_ldc2_w, x_aconst_null, x_iload, x_lload, x_aload, x_istore, x_lstore, x_astore, x_iinc, x_iadd, x_isub, x_imul, x_idiv, x_irem, x_iand, x_ior, x_ixor, x_ishl, x_ishr, x_iushr, x_ineg, x_ladd, x_lsub, x_lmul, x_ldiv, x_lrem, x_lcmp, x_i2l, x_i2b, x_i2s, x_i2c, x_dup, x_pop, x_dup_x1, x_dup2, x_getfield, x_putfield, x_iaload, x_baload, x_saload, x_caload, x_daload, x_faload, x_laload, x_aaload, x_iastore, x_bastore, x_sastore, x_castore, x_lastore, x_aastore, x_arraylength, x_getstatic, x_goto, x_goto_w, x_ifCond, x_if_icmp, x_ifnull, x_ifnonnull, x_lookupswitch, x_invokevirtual, x_invokestatic, x_invokedynamic, x_ireturn, x_freturn, x_dreturn, x_lreturn, x_areturn, x_return_, pI_c, pL_c, pR_c, pV_i, pV_r, gI_c, gL_c, gR_c, pN_z, pN_s, lget_c, lins_z, lins_c, ldel_z, ldel_c, ldel2_z, ldel2_c, lset_i, lset_l, lset_r, lkeep_z, lkeep_c, largs_z, largs_c, cat_i, cat_l, cat_r, lkp_c, cnd_eq, cnd_ne, cnd_lt, cnd_ge, cnd_gt, cnd_le, swL_z, swL_c, rE_e, rOr_s, rOr_n, rlk_z, rlk_c, aR_c, aI_c, aII_c, aIII_c, aRI_c, aRII_c, aRIII_c, vJn, vJs, vlc, aRR_c, aRRI_c, aRRII_c, aRRIII_c, aRIIII_c, aRL_c, aRLL_c, aLL_c, aRRRI_c, aIL_c, aIIII_c, aRRIIII_c, aIRII_c, aIR_c, aLI_c, aRIR_c, aRIIR_c, hC.o1, hC.f1, hC.t2, hC.l2, hC.a2, up_ap, h0, h1, e1]
  exact ⟨fun z => by omega, fun z => by omega, h⟩
def xpAt : Sp := fun as t σ Q => aRI as fun a p => a = 1 ∧ TC t ∧ TxOk σ ∧ (0 ≤ p ∧ p < 80) ∧ Q (some (vI (σ 2 p))) t σ
theorem x_at {l : Launch} {g : GE} {d : Nat} {t : Tau} {σ : Mem} {Q : Post} {as : List TV} (h : xpAt as t σ Q) : WPc l g 82 (d + 1) 0 0 as t σ Q := by
  obtain ⟨a, p, rfl, rfl, hC, hT, ⟨h0, h1⟩, h⟩ := aRI_e h
  have e1 := hT.2 p h0 h1
  refine wg (by decide) rE_nil tk_82 py_82 ml_82 30 (by simp [catT]) (fun N hN => ?_)
  simp [bl_82, hN _, x_iconst, x_ldc2_w, x_aconst_null, x_iload, x_lload, x_aload, x_istore, x_lstore, x_astore, x_iinc, x_iadd, x_isub, x_imul, x_idiv, x_irem, x_iand, x_ior, x_ixor, x_ishl, x_ishr, x_iushr, x_ineg, x_ladd, x_lsub, x_lmul, x_ldiv, x_lrem, x_lcmp, x_i2l, x_i2b, x_i2s, x_i2c, x_dup, x_pop, x_dup_x1, x_dup2, x_getfield, x_putfield, x_iaload, x_baload, x_saload, x_caload, x_daload, x_faload, x_laload, x_aaload, x_iastore, x_bastore, x_sastore, x_castore, x_lastore, x_aastore, x_arraylength, x_getstatic, x_goto, x_goto_w, x_ifCond, x_if_icmp, x_ifnull, x_ifnonnull, x_lookupswitch, x_invokevirtual, x_invokestatic, x_invokedynamic, x_ireturn, x_freturn, x_dreturn, x_lreturn, x_areturn, x_return_, pI_c, pL_c, pR_c, pV_i, pV_r, gI_c, gL_c, gR_c, pN_z, pN_s, lget_c, lins_z, lins_c, ldel_z, ldel_c, ldel2_z, ldel2_c, lset_i, lset_l, lset_r, lkeep_z, lkeep_c, largs_z, largs_c, cat_i, cat_l, cat_r, lkp_c, cnd_eq, cnd_ne, cnd_lt, cnd_ge, cnd_gt, cnd_le, swL_z, swL_c, rE_e, rOr_s, rOr_n, rlk_z, rlk_c, aR_c, aI_c, aII_c, aIII_c, aRI_c, aRII_c, aRIII_c, vJn, vJs, vlc, aRR_c, aRRI_c, aRRII_c, aRRIII_c, aRIIII_c, aRL_c, aRLL_c, aLL_c, aRRRI_c, aIL_c, aIIII_c, aRRIIII_c, aIRII_c, aIR_c, aLI_c, aRIR_c, aRIIR_c, hC.o1, hC.f1, hC.t2, hC.l2, hC.a2, h0, h1]
  exact ⟨fun z => by omega, fun z => by omega, by omega, h⟩
def xpEmpties : Sp := fun as t σ Q => aR as fun a => a = 1 ∧ TC t ∧ Q (some (vI (σ 1 1))) t (up σ 1 1 0)
theorem x_empties {l : Launch} {g : GE} {d : Nat} {t : Tau} {σ : Mem} {Q : Post} {as : List TV} (h : xpEmpties as t σ Q) : WPc l g 83 (d + 1) 0 0 as t σ Q := by
  obtain ⟨a, rfl, rfl, hC, h⟩ := aR_e h
  refine wg (by decide) rE_nil tk_83 py_83 ml_83 30 (by simp [catT]) (fun N hN => ?_)
  simp [bl_83, hN _, x_iconst, x_ldc2_w, x_aconst_null, x_iload, x_lload, x_aload, x_istore, x_lstore, x_astore, x_iinc, x_iadd, x_isub, x_imul, x_idiv, x_irem, x_iand, x_ior, x_ixor, x_ishl, x_ishr, x_iushr, x_ineg, x_ladd, x_lsub, x_lmul, x_ldiv, x_lrem, x_lcmp, x_i2l, x_i2b, x_i2s, x_i2c, x_dup, x_pop, x_dup_x1, x_dup2, x_getfield, x_putfield, x_iaload, x_baload, x_saload, x_caload, x_daload, x_faload, x_laload, x_aaload, x_iastore, x_bastore, x_sastore, x_castore, x_lastore, x_aastore, x_arraylength, x_getstatic, x_goto, x_goto_w, x_ifCond, x_if_icmp, x_ifnull, x_ifnonnull, x_lookupswitch, x_invokevirtual, x_invokestatic, x_invokedynamic, x_ireturn, x_freturn, x_dreturn, x_lreturn, x_areturn, x_return_, pI_c, pL_c, pR_c, pV_i, pV_r, gI_c, gL_c, gR_c, pN_z, pN_s, lget_c, lins_z, lins_c, ldel_z, ldel_c, ldel2_z, ldel2_c, lset_i, lset_l, lset_r, lkeep_z, lkeep_c, largs_z, largs_c, cat_i, cat_l, cat_r, lkp_c, cnd_eq, cnd_ne, cnd_lt, cnd_ge, cnd_gt, cnd_le, swL_z, swL_c, rE_e, rOr_s, rOr_n, rlk_z, rlk_c, aR_c, aI_c, aII_c, aIII_c, aRI_c, aRII_c, aRIII_c, vJn, vJs, vlc, aRR_c, aRRI_c, aRRII_c, aRRIII_c, aRIIII_c, aRL_c, aRLL_c, aLL_c, aRRRI_c, aIL_c, aIIII_c, aRRIIII_c, aIRII_c, aIR_c, aLI_c, aRIR_c, aRIIR_c, hC.o1]
  exact h
/-! notes -/
def npAdds : Sp := fun as t σ Q => aRIII as fun a x y z => NotT t a ∧ (0 ≤ σ a 3 ∧ σ a 3 ≤ 12) ∧ Q (some (vI (if σ a 3 < 12 then 1 else 0))) t (if σ a 3 < 12 then up (up (up (up σ (a + 1) (σ a 3) x) (a + 2) (σ a 3) y) (a + 3) (σ a 3) z) a 3 (σ a 3 + 1) else σ)
theorem n_adds {l : Launch} {g : GE} {d : Nat} {t : Tau} {σ : Mem} {Q : Post} {as : List TV} (h : npAdds as t σ Q) : WPc l g 6 (d + 1) 0 0 as t σ Q := by
  obtain ⟨a, x, y, z, rfl, ⟨o, ⟨f1, f2, f3⟩, ⟨t1, t2, t3⟩, l1, l2, l3⟩, ⟨h0, h1⟩, h⟩ := aRIII_e h
  have e1 : w32 (σ a 3 + 1) = σ a 3 + 1 := w32_id (by omega) (by omega)
  refine wg (by decide) rE_nil tk_6 py_6 ml_6 30 (by simp [catT]) (fun N hN => ?_)
  simp [bl_6, hN _, x_iconst, x_ldc2_w, x_aconst_null, x_iload, x_lload, x_aload, x_istore, x_lstore, x_astore, x_iinc, x_iadd, x_isub, x_imul, x_idiv, x_irem, x_iand, x_ior, x_ixor, x_ishl, x_ishr, x_iushr, x_ineg, x_ladd, x_lsub, x_lmul, x_ldiv, x_lrem, x_lcmp, x_i2l, x_i2b, x_i2s, x_i2c, x_dup, x_pop, x_dup_x1, x_dup2, x_getfield, x_putfield, x_iaload, x_baload, x_saload, x_caload, x_daload, x_faload, x_laload, x_aaload, x_iastore, x_bastore, x_sastore, x_castore, x_lastore, x_aastore, x_arraylength, x_getstatic, x_goto, x_goto_w, x_ifCond, x_if_icmp, x_ifnull, x_ifnonnull, x_lookupswitch, x_invokevirtual, x_invokestatic, x_invokedynamic, x_ireturn, x_freturn, x_dreturn, x_lreturn, x_areturn, x_return_, pI_c, pL_c, pR_c, pV_i, pV_r, gI_c, gL_c, gR_c, pN_z, pN_s, lget_c, lins_z, lins_c, ldel_z, ldel_c, ldel2_z, ldel2_c, lset_i, lset_l, lset_r, lkeep_z, lkeep_c, largs_z, largs_c, cat_i, cat_l, cat_r, lkp_c, cnd_eq, cnd_ne, cnd_lt, cnd_ge, cnd_gt, cnd_le, swL_z, swL_c, rE_e, rOr_s, rOr_n, rlk_z, rlk_c, aR_c, aI_c, aII_c, aIII_c, aRI_c, aRII_c, aRIII_c, vJn, vJs, vlc, aRR_c, aRRI_c, aRRII_c, aRRIII_c, aRIIII_c, aRL_c, aRLL_c, aLL_c, aRRRI_c, aIL_c, aIIII_c, aRRIIII_c, aIRII_c, aIR_c, aLI_c, aRIR_c, aRIIR_c, o, f1, f2, f3, t1, t2, t3, l1, l2, l3, up_ap, na1, na2, na3, h0, e1]
  refine ⟨fun z => by omega, fun z => ?_, fun z => ?_⟩
  · rw [if_pos z, if_pos z] at h; simp [z]; exact h
  · rw [if_neg (by omega), if_neg (by omega)] at h; exact h
def npEmpties : Sp := fun as t σ Q => aR as fun a => NotT t a ∧ Q (some (vI (σ a 3))) t (up σ a 3 0)
theorem n_empties {l : Launch} {g : GE} {d : Nat} {t : Tau} {σ : Mem} {Q : Post} {as : List TV} (h : npEmpties as t σ Q) : WPc l g 7 (d + 1) 0 0 as t σ Q := by
  obtain ⟨a, rfl, hT, h⟩ := aR_e h
  refine wg (by decide) rE_nil tk_7 py_7 ml_7 30 (by simp [catT]) (fun N hN => ?_)
  simp [bl_7, hN _, x_iconst, x_ldc2_w, x_aconst_null, x_iload, x_lload, x_aload, x_istore, x_lstore, x_astore, x_iinc, x_iadd, x_isub, x_imul, x_idiv, x_irem, x_iand, x_ior, x_ixor, x_ishl, x_ishr, x_iushr, x_ineg, x_ladd, x_lsub, x_lmul, x_ldiv, x_lrem, x_lcmp, x_i2l, x_i2b, x_i2s, x_i2c, x_dup, x_pop, x_dup_x1, x_dup2, x_getfield, x_putfield, x_iaload, x_baload, x_saload, x_caload, x_daload, x_faload, x_laload, x_aaload, x_iastore, x_bastore, x_sastore, x_castore, x_lastore, x_aastore, x_arraylength, x_getstatic, x_goto, x_goto_w, x_ifCond, x_if_icmp, x_ifnull, x_ifnonnull, x_lookupswitch, x_invokevirtual, x_invokestatic, x_invokedynamic, x_ireturn, x_freturn, x_dreturn, x_lreturn, x_areturn, x_return_, pI_c, pL_c, pR_c, pV_i, pV_r, gI_c, gL_c, gR_c, pN_z, pN_s, lget_c, lins_z, lins_c, ldel_z, ldel_c, ldel2_z, ldel2_c, lset_i, lset_l, lset_r, lkeep_z, lkeep_c, largs_z, largs_c, cat_i, cat_l, cat_r, lkp_c, cnd_eq, cnd_ne, cnd_lt, cnd_ge, cnd_gt, cnd_le, swL_z, swL_c, rE_e, rOr_s, rOr_n, rlk_z, rlk_c, aR_c, aI_c, aII_c, aIII_c, aRI_c, aRII_c, aRIII_c, vJn, vJs, vlc, aRR_c, aRRI_c, aRRII_c, aRRIII_c, aRIIII_c, aRL_c, aRLL_c, aLL_c, aRRRI_c, aIL_c, aIIII_c, aRRIIII_c, aIRII_c, aIR_c, aLI_c, aRIR_c, aRIIR_c, hT.1]
  exact h
def npOf (k : Int) : Sp := fun as t σ Q => aRI as fun a i => NotT t a ∧ (0 ≤ i ∧ i < 12) ∧ Q (some (vI (σ (a + k) i))) t σ
theorem n_first {l : Launch} {g : GE} {d : Nat} {t : Tau} {σ : Mem} {Q : Post} {as : List TV} (h : npOf 1 as t σ Q) : WPc l g 8 (d + 1) 0 0 as t σ Q := by
  obtain ⟨a, i, rfl, ⟨o, ⟨f1, f2, f3⟩, ⟨t1, t2, t3⟩, l1, l2, l3⟩, ⟨h0, h1⟩, h⟩ := aRI_e h
  refine wg (by decide) rE_nil tk_8 py_8 ml_8 30 (by simp [catT]) (fun N hN => ?_)
  simp [bl_8, hN _, x_iconst, x_ldc2_w, x_aconst_null, x_iload, x_lload, x_aload, x_istore, x_lstore, x_astore, x_iinc, x_iadd, x_isub, x_imul, x_idiv, x_irem, x_iand, x_ior, x_ixor, x_ishl, x_ishr, x_iushr, x_ineg, x_ladd, x_lsub, x_lmul, x_ldiv, x_lrem, x_lcmp, x_i2l, x_i2b, x_i2s, x_i2c, x_dup, x_pop, x_dup_x1, x_dup2, x_getfield, x_putfield, x_iaload, x_baload, x_saload, x_caload, x_daload, x_faload, x_laload, x_aaload, x_iastore, x_bastore, x_sastore, x_castore, x_lastore, x_aastore, x_arraylength, x_getstatic, x_goto, x_goto_w, x_ifCond, x_if_icmp, x_ifnull, x_ifnonnull, x_lookupswitch, x_invokevirtual, x_invokestatic, x_invokedynamic, x_ireturn, x_freturn, x_dreturn, x_lreturn, x_areturn, x_return_, pI_c, pL_c, pR_c, pV_i, pV_r, gI_c, gL_c, gR_c, pN_z, pN_s, lget_c, lins_z, lins_c, ldel_z, ldel_c, ldel2_z, ldel2_c, lset_i, lset_l, lset_r, lkeep_z, lkeep_c, largs_z, largs_c, cat_i, cat_l, cat_r, lkp_c, cnd_eq, cnd_ne, cnd_lt, cnd_ge, cnd_gt, cnd_le, swL_z, swL_c, rE_e, rOr_s, rOr_n, rlk_z, rlk_c, aR_c, aI_c, aII_c, aIII_c, aRI_c, aRII_c, aRIII_c, vJn, vJs, vlc, aRR_c, aRRI_c, aRRII_c, aRRIII_c, aRIIII_c, aRL_c, aRLL_c, aLL_c, aRRRI_c, aIL_c, aIIII_c, aRRIIII_c, aIRII_c, aIR_c, aLI_c, aRIR_c, aRIIR_c, o, f1, t1, l1, h0, h1]
  exact ⟨fun z => by omega, fun z => by omega, h⟩
theorem n_second {l : Launch} {g : GE} {d : Nat} {t : Tau} {σ : Mem} {Q : Post} {as : List TV} (h : npOf 2 as t σ Q) : WPc l g 9 (d + 1) 0 0 as t σ Q := by
  obtain ⟨a, i, rfl, ⟨o, ⟨f1, f2, f3⟩, ⟨t1, t2, t3⟩, l1, l2, l3⟩, ⟨h0, h1⟩, h⟩ := aRI_e h
  refine wg (by decide) rE_nil tk_9 py_9 ml_9 30 (by simp [catT]) (fun N hN => ?_)
  simp [bl_9, hN _, x_iconst, x_ldc2_w, x_aconst_null, x_iload, x_lload, x_aload, x_istore, x_lstore, x_astore, x_iinc, x_iadd, x_isub, x_imul, x_idiv, x_irem, x_iand, x_ior, x_ixor, x_ishl, x_ishr, x_iushr, x_ineg, x_ladd, x_lsub, x_lmul, x_ldiv, x_lrem, x_lcmp, x_i2l, x_i2b, x_i2s, x_i2c, x_dup, x_pop, x_dup_x1, x_dup2, x_getfield, x_putfield, x_iaload, x_baload, x_saload, x_caload, x_daload, x_faload, x_laload, x_aaload, x_iastore, x_bastore, x_sastore, x_castore, x_lastore, x_aastore, x_arraylength, x_getstatic, x_goto, x_goto_w, x_ifCond, x_if_icmp, x_ifnull, x_ifnonnull, x_lookupswitch, x_invokevirtual, x_invokestatic, x_invokedynamic, x_ireturn, x_freturn, x_dreturn, x_lreturn, x_areturn, x_return_, pI_c, pL_c, pR_c, pV_i, pV_r, gI_c, gL_c, gR_c, pN_z, pN_s, lget_c, lins_z, lins_c, ldel_z, ldel_c, ldel2_z, ldel2_c, lset_i, lset_l, lset_r, lkeep_z, lkeep_c, largs_z, largs_c, cat_i, cat_l, cat_r, lkp_c, cnd_eq, cnd_ne, cnd_lt, cnd_ge, cnd_gt, cnd_le, swL_z, swL_c, rE_e, rOr_s, rOr_n, rlk_z, rlk_c, aR_c, aI_c, aII_c, aIII_c, aRI_c, aRII_c, aRIII_c, vJn, vJs, vlc, aRR_c, aRRI_c, aRRII_c, aRRIII_c, aRIIII_c, aRL_c, aRLL_c, aLL_c, aRRRI_c, aIL_c, aIIII_c, aRRIIII_c, aIRII_c, aIR_c, aLI_c, aRIR_c, aRIIR_c, o, f2, t2, l2, h0, h1]
  exact ⟨fun z => by omega, fun z => by omega, h⟩
theorem n_third {l : Launch} {g : GE} {d : Nat} {t : Tau} {σ : Mem} {Q : Post} {as : List TV} (h : npOf 3 as t σ Q) : WPc l g 10 (d + 1) 0 0 as t σ Q := by
  obtain ⟨a, i, rfl, ⟨o, ⟨f1, f2, f3⟩, ⟨t1, t2, t3⟩, l1, l2, l3⟩, ⟨h0, h1⟩, h⟩ := aRI_e h
  refine wg (by decide) rE_nil tk_10 py_10 ml_10 30 (by simp [catT]) (fun N hN => ?_)
  simp [bl_10, hN _, x_iconst, x_ldc2_w, x_aconst_null, x_iload, x_lload, x_aload, x_istore, x_lstore, x_astore, x_iinc, x_iadd, x_isub, x_imul, x_idiv, x_irem, x_iand, x_ior, x_ixor, x_ishl, x_ishr, x_iushr, x_ineg, x_ladd, x_lsub, x_lmul, x_ldiv, x_lrem, x_lcmp, x_i2l, x_i2b, x_i2s, x_i2c, x_dup, x_pop, x_dup_x1, x_dup2, x_getfield, x_putfield, x_iaload, x_baload, x_saload, x_caload, x_daload, x_faload, x_laload, x_aaload, x_iastore, x_bastore, x_sastore, x_castore, x_lastore, x_aastore, x_arraylength, x_getstatic, x_goto, x_goto_w, x_ifCond, x_if_icmp, x_ifnull, x_ifnonnull, x_lookupswitch, x_invokevirtual, x_invokestatic, x_invokedynamic, x_ireturn, x_freturn, x_dreturn, x_lreturn, x_areturn, x_return_, pI_c, pL_c, pR_c, pV_i, pV_r, gI_c, gL_c, gR_c, pN_z, pN_s, lget_c, lins_z, lins_c, ldel_z, ldel_c, ldel2_z, ldel2_c, lset_i, lset_l, lset_r, lkeep_z, lkeep_c, largs_z, largs_c, cat_i, cat_l, cat_r, lkp_c, cnd_eq, cnd_ne, cnd_lt, cnd_ge, cnd_gt, cnd_le, swL_z, swL_c, rE_e, rOr_s, rOr_n, rlk_z, rlk_c, aR_c, aI_c, aII_c, aIII_c, aRI_c, aRII_c, aRIII_c, vJn, vJs, vlc, aRR_c, aRRI_c, aRRII_c, aRRIII_c, aRIIII_c, aRL_c, aRLL_c, aLL_c, aRRRI_c, aIL_c, aIIII_c, aRRIIII_c, aIRII_c, aIR_c, aLI_c, aRIR_c, aRIIR_c, o, f3, t3, l3, h0, h1]
  exact ⟨fun z => by omega, fun z => by omega, h⟩
