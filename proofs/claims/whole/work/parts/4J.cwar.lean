/-! StruckColours: the text of a war -/
def lnA (c : Int) : Nat := if c = 110 then 2 else if c = 115 then 4 else 3
theorem lnA_b (c : Int) : 2 ≤ lnA c ∧ lnA c ≤ 4 := by unfold lnA; split <;> (try split) <;> omega
def stA (k : Int) (p : Nat) (c : Int) : Bool := if p = 0 then decide (k = 102 ∨ k = 110 ∨ k = 115 ∨ k = 121) else if p = 2 ∧ k ≠ 102 then decide (97 ≤ c ∧ c ≤ 100) else decide ((48 ≤ c ∧ c ≤ 57) ∧ (p ≠ 3 ∨ c ≠ 48))
def wrF (T : Int → Int) : Nat → Nat → Nat → Int × Nat
  | 0, _, b => (-1, b)
  | r + 1, p, b => if stA (T (if p - b = lnA (T b) then p else b : Nat)) (p - (if p - b = lnA (T b) then p else b)) (T p) then wrF T r (p + 1) (if p - b = lnA (T b) then p else b) else ((p : Int), 0)
def fltW (T : Int → Int) (len : Nat) : Int := if (wrF T (min len 60) 0 0).1 ≠ -1 then (wrF T (min len 60) 0 0).1 else if 0 < min len 60 ∧ min len 60 - (wrF T (min len 60) 0 0).2 ≠ lnA (T (wrF T (min len 60) 0 0).2) then (min len 60 : Nat) else if 60 < len then 60 else -1
def actOk (T : Int → Int) (p : Nat) : Prop := ∀ j, j < lnA (T p) → stA (T p) j (T (p + j : Nat)) = true
def okA (T : Int → Int) : Nat → Nat → Nat → Prop
  | 0, p, E => p = E
  | f + 1, p, E => p = E ∨ (actOk T p ∧ p + lnA (T p) ≤ E ∧ okA T f (p + lnA (T p)) E)
theorem wr_i {T : Int → Int} {r p b : Nat} (h : wrF T r p p = (-1, b)) : ∀ i, i ≤ lnA (T p) → i ≤ r → (∀ j, j < i → stA (T p) j (T (p + j : Nat)) = true) ∧ wrF T (r - i) (p + i) p = (-1, b)
  | 0, _, _ => ⟨fun j hj => by omega, h⟩
  | i + 1, h1, h2 => by
    obtain ⟨ih1, ih2⟩ := wr_i h i (by omega) (by omega)
    obtain ⟨q, hq⟩ : ∃ q, r - i = q + 1 := ⟨r - i - 1, by omega⟩
    rw [hq] at ih2
    have es : wrF T (q + 1) (p + i) p = if stA (T (if p + i - p = lnA (T p) then p + i else p : Nat)) (p + i - (if p + i - p = lnA (T p) then p + i else p)) (T (p + i : Nat)) then wrF T q (p + i + 1) (if p + i - p = lnA (T p) then p + i else p) else (((p + i : Nat) : Int), 0) := rfl
    rw [es, if_neg (show ¬ p + i - p = lnA (T p) by omega), show p + i - p = i by omega] at ih2
    by_cases hs : stA (T p) i (T (p + i : Nat)) = true
    · rw [if_pos hs] at ih2
      refine ⟨fun j hj => ?_, ?_⟩
      · by_cases hj' : j = i
        · subst hj'; exact hs
        · exact ih1 j (by omega)
      · rw [show r - (i + 1) = q by omega]; exact ih2
    · rw [if_neg hs] at ih2
      have := congrArg Prod.fst ih2
      simp only at this
      omega
theorem okA_more {T : Int → Int} {E : Nat} : ∀ {f g p : Nat}, f ≤ g → okA T f p E → okA T g p E
  | 0, 0, _, _, h => h
  | 0, g + 1, _, _, h => Or.inl h
  | f + 1, g + 1, p, hfg, h => by
    rcases h with h | ⟨h1, h2, h3⟩
    · exact Or.inl h
    · exact Or.inr ⟨h1, h2, okA_more (by omega) h3⟩
  | f + 1, 0, _, hfg, _ => by omega
theorem wr_ok {T : Int → Int} : ∀ (r p b : Nat), wrF T r p p = (-1, b) → (r = 0 ∨ p + r - b = lnA (T b)) → okA T r p (p + r) := by
  intro r
  induction r using Nat.strongRecOn with
  | ind r ih =>
    intro p b h hc
    have hL := lnA_b (T p)
    by_cases h0 : r = 0
    · subst h0; exact rfl
    · by_cases hr : r < lnA (T p)
      · obtain ⟨-, h2⟩ := wr_i h r (by omega) (Nat.le_refl _)
        rw [Nat.sub_self] at h2
        have hb : p = b := congrArg Prod.snd h2
        subst hb
        omega
      · obtain ⟨h1, h2⟩ := wr_i h (lnA (T p)) (Nat.le_refl _) (by omega)
        obtain ⟨r', rfl⟩ : ∃ r', r = r' + 1 := ⟨r - 1, by omega⟩
        refine Or.inr ⟨h1, by omega, ?_⟩
        by_cases he : r' + 1 = lnA (T p)
        · rw [show p + (r' + 1) = p + lnA (T p) by omega]
          exact okA_more (Nat.zero_le _) (show okA T 0 _ _ from rfl)
        · obtain ⟨q, hq⟩ : ∃ q, r' + 1 - lnA (T p) = q + 1 := ⟨r' + 1 - lnA (T p) - 1, by omega⟩
          rw [hq] at h2
          have ha := lnA_b (T (p + lnA (T p) : Nat))
          have h3 : wrF T (q + 1) (p + lnA (T p)) (p + lnA (T p)) = (-1, b) := by
            rw [← h2]
            show (if stA (T (if p + lnA (T p) - (p + lnA (T p)) = lnA (T (p + lnA (T p) : Nat)) then p + lnA (T p) else p + lnA (T p) : Nat)) (p + lnA (T p) - (if p + lnA (T p) - (p + lnA (T p)) = lnA (T (p + lnA (T p) : Nat)) then p + lnA (T p) else p + lnA (T p))) _ then wrF T q _ (if p + lnA (T p) - (p + lnA (T p)) = lnA (T (p + lnA (T p) : Nat)) then p + lnA (T p) else p + lnA (T p)) else _) = (if stA (T (if p + lnA (T p) - p = lnA (T p) then p + lnA (T p) else p : Nat)) (p + lnA (T p) - (if p + lnA (T p) - p = lnA (T p) then p + lnA (T p) else p)) _ then wrF T q _ (if p + lnA (T p) - p = lnA (T p) then p + lnA (T p) else p) else _)
            rw [if_neg (show ¬ p + lnA (T p) - (p + lnA (T p)) = lnA (T (p + lnA (T p) : Nat)) by omega), if_pos (show p + lnA (T p) - p = lnA (T p) by omega)]
          have hk := ih (q + 1) (by omega) (p + lnA (T p)) b h3 (Or.inr (by rcases hc with hc | hc <;> omega))
          rw [show p + lnA (T p) + (q + 1) = p + (r' + 1) by omega] at hk
          exact okA_more (by omega) hk
theorem fltW_ok {T : Int → Int} {len : Nat} (h : fltW T len = -1) : len ≤ 60 ∧ okA T len 0 len := by
  unfold fltW at h
  split at h
  · rename_i hc; exact (hc h).elim
  · rename_i hc
    have hc : (wrF T (min len 60) 0 0).1 = -1 := Classical.byContradiction hc
    split at h
    · omega
    · rename_i hd
      split at h
      · omega
      · have hl : min len 60 = len := by omega
        rw [hl] at hc hd
        refine ⟨by omega, ?_⟩
        have := wr_ok (T := T) len 0 (wrF T len 0 0).2 (by rw [← hc]) (by
          by_cases h0 : len = 0
          · exact Or.inl h0
          · refine Or.inr ?_
            rw [Nat.zero_add]
            exact Classical.byContradiction fun z => hd ⟨by omega, z⟩)
        rwa [Nat.zero_add] at this
/-! its methods -/
def fpLenAct : Sp := fun as t σ Q => aI as fun c => Q (some (vI (lnA c))) t σ
theorem f_lenAct {l : Launch} {g : GE} {d : Nat} {t : Tau} {σ : Mem} {Q : Post} {as : List TV} (h0 : fpLenAct as t σ Q) : WPc l g 140 (d + 1) 0 0 as t σ Q := by
  obtain ⟨c, rfl, h⟩ := aI_e h0
  clear h0
  unfold lnA at h
  refine wg (by decide) rE_nil tk_140 py_140 ml_140 30 (by simp [catT]) (fun N hN => ?_)
  simp [bl_140, hN _, x_iconst, x_ldc2_w, x_aconst_null, x_iload, x_lload, x_aload, x_istore, x_lstore, x_astore, x_iinc, x_iadd, x_isub, x_imul, x_idiv, x_irem, x_iand, x_ior, x_ixor, x_ishl, x_ishr, x_iushr, x_ineg, x_ladd, x_lsub, x_lmul, x_ldiv, x_lrem, x_lcmp, x_i2l, x_i2b, x_i2s, x_i2c, x_dup, x_pop, x_dup_x1, x_dup2, x_getfield, x_putfield, x_iaload, x_baload, x_saload, x_caload, x_daload, x_faload, x_laload, x_aaload, x_iastore, x_bastore, x_sastore, x_castore, x_lastore, x_aastore, x_arraylength, x_getstatic, x_goto, x_goto_w, x_ifCond, x_if_icmp, x_ifnull, x_ifnonnull, x_lookupswitch, x_invokevirtual, x_invokestatic, x_invokedynamic, x_ireturn, x_freturn, x_dreturn, x_lreturn, x_areturn, x_return_, pI_c, pL_c, pR_c, pV_i, pV_r, gI_c, gL_c, gR_c, pN_z, pN_s, lget_c, lins_z, lins_c, ldel_z, ldel_c, ldel2_z, ldel2_c, lset_i, lset_l, lset_r, lkeep_z, lkeep_c, largs_z, largs_c, cat_i, cat_l, cat_r, lkp_c, cnd_eq, cnd_ne, cnd_lt, cnd_ge, cnd_gt, cnd_le, swL_z, swL_c, rE_e, rOr_s, rOr_n, rlk_z, rlk_c, aR_c, aI_c, aII_c, aIII_c, aRI_c, aRII_c, aRIII_c, vJn, vJs, vlc, aRR_c, aRRI_c, aRRII_c, aRRIII_c, aRIIII_c, aRL_c, aRLL_c, aLL_c, aRRRI_c, aIL_c, aIIII_c, aRRIIII_c, aIRII_c, aIR_c, aLI_c, aRIR_c, aRIIR_c]
  grind
def fpStAct : Sp := fun as t σ Q => aIII as fun k p c => (0 ≤ p ∧ p < 100) ∧ Q (some (vI (if stA k p.toNat c then 1 else 0))) t σ
theorem rgDs_ok {l : Launch} {g : GE} {d : Nat} : ∀ e as t σ Q, rE l g (d + 1) [(142, fpDigit), (143, fpSdSign)] e as t σ Q → WPc l g e (d + 1) 0 0 as t σ Q := rE_cons (fun _ _ _ _ h => f_digit h) (rE_cons (fun _ _ _ _ h => f_sdSign h) rE_nil)
theorem f_stAct {l : Launch} {g : GE} {d : Nat} {t : Tau} {σ : Mem} {Q : Post} {as : List TV} (h0 : fpStAct as t σ Q) : WPc l g 139 (d + 2) 0 0 as t σ Q := by
  obtain ⟨k, p', c, rfl, hp, h⟩ := aIII_e h0
  clear h0
  obtain ⟨p, rfl⟩ : ∃ n : Nat, p' = n := ⟨p'.toNat, by omega⟩
  simp only [Int.toNat_natCast] at h
  unfold stA at h
  refine wg (by decide) rgDs_ok tk_139 py_139 ml_139 30 (by simp [catT]) (fun N hN => ?_)
  simp [bl_139, hN _, x_iconst, x_ldc2_w, x_aconst_null, x_iload, x_lload, x_aload, x_istore, x_lstore, x_astore, x_iinc, x_iadd, x_isub, x_imul, x_idiv, x_irem, x_iand, x_ior, x_ixor, x_ishl, x_ishr, x_iushr, x_ineg, x_ladd, x_lsub, x_lmul, x_ldiv, x_lrem, x_lcmp, x_i2l, x_i2b, x_i2s, x_i2c, x_dup, x_pop, x_dup_x1, x_dup2, x_getfield, x_putfield, x_iaload, x_baload, x_saload, x_caload, x_daload, x_faload, x_laload, x_aaload, x_iastore, x_bastore, x_sastore, x_castore, x_lastore, x_aastore, x_arraylength, x_getstatic, x_goto, x_goto_w, x_ifCond, x_if_icmp, x_ifnull, x_ifnonnull, x_lookupswitch, x_invokevirtual, x_invokestatic, x_invokedynamic, x_ireturn, x_freturn, x_dreturn, x_lreturn, x_areturn, x_return_, pI_c, pL_c, pR_c, pV_i, pV_r, gI_c, gL_c, gR_c, pN_z, pN_s, lget_c, lins_z, lins_c, ldel_z, ldel_c, ldel2_z, ldel2_c, lset_i, lset_l, lset_r, lkeep_z, lkeep_c, largs_z, largs_c, cat_i, cat_l, cat_r, lkp_c, cnd_eq, cnd_ne, cnd_lt, cnd_ge, cnd_gt, cnd_le, swL_z, swL_c, rE_e, rOr_s, rOr_n, rlk_z, rlk_c, aR_c, aI_c, aII_c, aIII_c, aRI_c, aRII_c, aRIII_c, vJn, vJs, vlc, aRR_c, aRRI_c, aRRII_c, aRRIII_c, aRIIII_c, aRL_c, aRLL_c, aLL_c, aRRRI_c, aIL_c, aIIII_c, aRRIIII_c, aIRII_c, aIR_c, aLI_c, aRIR_c, aRIIR_c, fpDigit, fpSdSign, sdB, dgB]
  by_cases p0 : p = 0
  · subst p0; simp at h ⊢; grind
  · have p0' : ¬ (p : Int) = 0 := by omega
    simp [p0] at h ⊢
    by_cases p2 : p = 2
    · subst p2; simp at h ⊢; grind
    · have p2' : ¬ (p : Int) = 2 := by omega
      simp [p2, p2'] at h ⊢
      by_cases p3 : p = 3
      · subst p3; simp at h ⊢; grind
      · have p3' : ¬ (p : Int) = 3 := by omega
        simp [p3, p3'] at h ⊢; grind
abbrev rgWa : Reg := (140, fpLenAct) :: (139, fpStAct) :: rgC
theorem rgWa_ok {l : Launch} {g : GE} {d : Nat} : ∀ e as t σ Q, rE l g (d + 6) rgWa e as t σ Q → WPc l g e (d + 6) 0 0 as t σ Q := rE_cons (fun _ _ _ _ h => f_lenAct h) (rE_cons (fun _ _ _ _ h => f_stAct h) rgC_ok)
theorem fw1 {T : Int → Int} {len p : Nat} {c : Nat} (h : wrF T (min len 60) 0 0 = ((p : Int), c)) : fltW T len = p := by
  unfold fltW; rw [h]; exact if_pos (by show (p : Int) ≠ -1; omega)
theorem fw2 {T : Int → Int} {len b : Nat} (h : wrF T (min len 60) 0 0 = (-1, b)) (h1 : 0 < min len 60 ∧ min len 60 - b ≠ lnA (T b)) : fltW T len = (min len 60 : Nat) := by
  unfold fltW; rw [h]
  rw [if_neg (fun z => z rfl)]
  exact if_pos h1
theorem fw3 {T : Int → Int} {len b : Nat} (h : wrF T (min len 60) 0 0 = (-1, b)) (h1 : ¬ (0 < min len 60 ∧ min len 60 - b ≠ lnA (T b))) : fltW T len = if 60 < len then 60 else -1 := by
  unfold fltW; rw [h]
  rw [if_neg (fun z => z rfl)]
  exact if_neg h1
def fpFaultW : Sp := fun as t σ Q => aRI as fun a len => a = 0 ∧ TC t ∧ TxOk σ ∧ (0 ≤ len ∧ len ≤ 80) ∧ Q (some (vI (fltW (σ 2) len.toNat))) t σ
set_option maxHeartbeats 1000000 in
theorem f_faultW {l : Launch} {g : GE} {d : Nat} {t : Tau} {σ : Mem} {Q : Post} {as : List TV} (h0 : fpFaultW as t σ Q) : WPc l g 138 (d + 7) 0 0 as t σ Q := by
  obtain ⟨a, len', rfl, rfl, hC, hT, hp, h⟩ := aRI_e h0
  clear h0
  obtain ⟨len, rfl⟩ : ∃ n : Nat, len' = n := ⟨len'.toNat, by omega⟩
  simp only [Int.toNat_natCast] at h
  have fw1 := fun p c => fw1 (T := σ 2) (len := len) (p := p) (c := c)
  have fw2 := fun b => fw2 (T := σ 2) (len := len) (b := b)
  have fw3 := fun b => fw3 (T := σ 2) (len := len) (b := b)
  generalize hE : min len 60 = E at fw1 fw2 fw3
  have hE60 : E ≤ 60 ∧ E ≤ len := by omega
  have hEi : min (len : Int) 60 = (E : Int) := by omega
  have K : ∀ (r p b : Nat), p + r = E → b ≤ p → (b = p → p = 0 ∨ True) → wrF (σ 2) E 0 0 = wrF (σ 2) r p b → Wp l g 138 (d + 7) 0 0 12 [(0, vR 0), (1, vI len), (2, vI E), (3, vI b), (4, vI p)] [] t σ Q := by
    intro r
    induction r with
    | zero =>
      intro p b hp' hb _ he
      obtain rfl : p = E := by omega
      have he : wrF (σ 2) p 0 0 = (-1, b) := he
      have e1 : w32 ((p : Int) - b) = ((p - b : Nat) : Int) := by rw [w32_id (by omega) (by omega)]; omega
      have b80 : (b : Int) < 80 := by omega
      have b80n : b < 80 := by omega
      have fin : ¬ (0 < p ∧ p - b ≠ lnA (σ 2 b)) → (((len : Int) ≤ 60 → Q (some (vI (-1))) t σ) ∧ (60 < (len : Int) → Q (some (vI 60)) t σ)) := fun hc => by
        rw [fw3 _ he hc] at h
        refine ⟨fun y => ?_, fun y => ?_⟩
        · rw [if_neg (by omega)] at h; exact h
        · rw [if_pos (by omega)] at h; exact h
      refine wa (by decide) rgWa_ok tk_138 30 (fun N hN => ?_)
      simp [bl_138, hN _, x_iconst, x_ldc2_w, x_aconst_null, x_iload, x_lload, x_aload, x_istore, x_lstore, x_astore, x_iinc, x_iadd, x_isub, x_imul, x_idiv, x_irem, x_iand, x_ior, x_ixor, x_ishl, x_ishr, x_iushr, x_ineg, x_ladd, x_lsub, x_lmul, x_ldiv, x_lrem, x_lcmp, x_i2l, x_i2b, x_i2s, x_i2c, x_dup, x_pop, x_dup_x1, x_dup2, x_getfield, x_putfield, x_iaload, x_baload, x_saload, x_caload, x_daload, x_faload, x_laload, x_aaload, x_iastore, x_bastore, x_sastore, x_castore, x_lastore, x_aastore, x_arraylength, x_getstatic, x_goto, x_goto_w, x_ifCond, x_if_icmp, x_ifnull, x_ifnonnull, x_lookupswitch, x_invokevirtual, x_invokestatic, x_invokedynamic, x_ireturn, x_freturn, x_dreturn, x_lreturn, x_areturn, x_return_, pI_c, pL_c, pR_c, pV_i, pV_r, gI_c, gL_c, gR_c, pN_z, pN_s, lget_c, lins_z, lins_c, ldel_z, ldel_c, ldel2_z, ldel2_c, lset_i, lset_l, lset_r, lkeep_z, lkeep_c, largs_z, largs_c, cat_i, cat_l, cat_r, lkp_c, cnd_eq, cnd_ne, cnd_lt, cnd_ge, cnd_gt, cnd_le, swL_z, swL_c, rE_e, rOr_s, rOr_n, rlk_z, rlk_c, aR_c, aI_c, aII_c, aIII_c, aRI_c, aRII_c, aRIII_c, vJn, vJs, vlc, aRR_c, aRRI_c, aRRII_c, aRRIII_c, aRIIII_c, aRL_c, aRLL_c, aLL_c, aRRRI_c, aIL_c, aIIII_c, aRRIIII_c, aIRII_c, aIR_c, aLI_c, aRIR_c, aRIIR_c, hC.o0, hC.f0_0, hC.f0_1, hC.f0_2, hC.f0_3, hC.f0_4, hC.f0_5, hC.f0_6, hC.f0_7, hC.f0_8, hC.f0_9, hC.f0_10, hC.f0_11, hC.o1, hC.f1, hC.t2, hC.l2, hC.o3, hC.f3, hC.t4, hC.l4, hC.s5, hC.s12, hC.s19, hC.s112, hC.s119, hC.o26, hC.f26, hC.t27, hC.l27, hC.s28, hC.o126, hC.f126_0, hC.f126_1, hC.t127, hC.l127, hC.t128, hC.l128, hC.s129, hC.n157, hC.n161, hC.o165, hC.f165, hC.t166, hC.l166, hC.r167, hC.r171, hC.q5, hC.q12, hC.q19, hC.q112, hC.q119, hC.a2, hC.a4, hC.a27, hC.a127, hC.a128, hC, xpAt, hT, fpLenAct, b80, b80n, e1]
      refine ⟨fun z => fin (by omega), fun z => ⟨fun y => fin (by omega), fun y => ?_⟩⟩
      rw [fw2 _ he (by omega)] at h; exact h
    | succ r ih =>
      intro p b hp' hb _ he
      have e2 := w32_succ (k := p) (by omega); have i1 : ((p : Nat) : Int) < (E : Nat) := (by omega); have i1n : p < E := (by omega); have i1x : ¬ E ≤ p := (by omega)
      have es : wrF (σ 2) (r + 1) p b = if stA (σ 2 (if p - b = lnA (σ 2 b) then p else b : Nat)) (p - (if p - b = lnA (σ 2 b) then p else b)) (σ 2 p) then wrF (σ 2) r (p + 1) (if p - b = lnA (σ 2 b) then p else b) else ((p : Int), 0) := rfl
      rw [es] at he
      have e1 : w32 ((p : Int) - b) = ((p - b : Nat) : Int) := by rw [w32_id (by omega) (by omega)]; omega
      have p80 : (p : Int) < 80 := by omega
      have p80n : p < 80 := by omega
      have b80 : (b : Int) < 80 := by omega
      have b80n : b < 80 := by omega
      have pb : ((p - b : Nat) : Int) < 100 := by omega
      have pbn : p - b < 100 := by omega
      refine wa (by decide) rgWa_ok tk_138 30 (fun N hN => ?_)
      simp [bl_138, hN _, x_iconst, x_ldc2_w, x_aconst_null, x_iload, x_lload, x_aload, x_istore, x_lstore, x_astore, x_iinc, x_iadd, x_isub, x_imul, x_idiv, x_irem, x_iand, x_ior, x_ixor, x_ishl, x_ishr, x_iushr, x_ineg, x_ladd, x_lsub, x_lmul, x_ldiv, x_lrem, x_lcmp, x_i2l, x_i2b, x_i2s, x_i2c, x_dup, x_pop, x_dup_x1, x_dup2, x_getfield, x_putfield, x_iaload, x_baload, x_saload, x_caload, x_daload, x_faload, x_laload, x_aaload, x_iastore, x_bastore, x_sastore, x_castore, x_lastore, x_aastore, x_arraylength, x_getstatic, x_goto, x_goto_w, x_ifCond, x_if_icmp, x_ifnull, x_ifnonnull, x_lookupswitch, x_invokevirtual, x_invokestatic, x_invokedynamic, x_ireturn, x_freturn, x_dreturn, x_lreturn, x_areturn, x_return_, pI_c, pL_c, pR_c, pV_i, pV_r, gI_c, gL_c, gR_c, pN_z, pN_s, lget_c, lins_z, lins_c, ldel_z, ldel_c, ldel2_z, ldel2_c, lset_i, lset_l, lset_r, lkeep_z, lkeep_c, largs_z, largs_c, cat_i, cat_l, cat_r, lkp_c, cnd_eq, cnd_ne, cnd_lt, cnd_ge, cnd_gt, cnd_le, swL_z, swL_c, rE_e, rOr_s, rOr_n, rlk_z, rlk_c, aR_c, aI_c, aII_c, aIII_c, aRI_c, aRII_c, aRIII_c, vJn, vJs, vlc, aRR_c, aRRI_c, aRRII_c, aRRIII_c, aRIIII_c, aRL_c, aRLL_c, aLL_c, aRRRI_c, aIL_c, aIIII_c, aRRIIII_c, aIRII_c, aIR_c, aLI_c, aRIR_c, aRIIR_c, hC.o0, hC.f0_0, hC.f0_1, hC.f0_2, hC.f0_3, hC.f0_4, hC.f0_5, hC.f0_6, hC.f0_7, hC.f0_8, hC.f0_9, hC.f0_10, hC.f0_11, hC.o1, hC.f1, hC.t2, hC.l2, hC.o3, hC.f3, hC.t4, hC.l4, hC.s5, hC.s12, hC.s19, hC.s112, hC.s119, hC.o26, hC.f26, hC.t27, hC.l27, hC.s28, hC.o126, hC.f126_0, hC.f126_1, hC.t127, hC.l127, hC.t128, hC.l128, hC.s129, hC.n157, hC.n161, hC.o165, hC.f165, hC.t166, hC.l166, hC.r167, hC.r171, hC.q5, hC.q12, hC.q19, hC.q112, hC.q119, hC.a2, hC.a4, hC.a27, hC.a127, hC.a128, hC, e2, i1, i1n, i1x, xpAt, hT, fpLenAct, fpStAct, p80, p80n, b80, b80n, e1, pb, pbn]
      by_cases hl : p - b = lnA (σ 2 b)
      · simp only [hl, if_true] at he
        simp [hl]
        cases hc : stA (σ 2 p) (p - p) (σ 2 p)
        · rw [hc] at he
          simp at he
          rw [fw1 _ _ he] at h
          simp at hc
          simp [hc, w32_0]
          exact h
        · rw [hc] at he
          have K := ih (p + 1) p (by omega) (by omega) (fun _ => Or.inr trivial) (by simpa using he)
          simp at hc
          simp [hc, w32_0]
          simpa using K
      · have hl' : ¬ ((p - b : Nat) : Int) = (lnA (σ 2 b) : Int) := by omega
        simp only [hl, if_false] at he
        simp [hl, hl']
        cases hc : stA (σ 2 b) (p - b) (σ 2 p)
        · rw [hc] at he
          simp at he
          rw [fw1 _ _ he] at h
          exact ⟨fun z => (by cases z), fun _ => h⟩
        · rw [hc] at he
          have K := ih (p + 1) b (by omega) (by omega) (fun _ => Or.inr trivial) (by simpa using he)
          exact ⟨fun _ => by simpa using K, fun z => by cases z⟩
  have K := K E 0 0 (by omega) (by omega) (fun _ => Or.inr trivial) rfl
  refine wg (by decide) rgWa_ok tk_138 py_138 ml_138 30 (by simp [catT]) (fun N hN => ?_)
  simp [bl_138, hN _, x_iconst, x_ldc2_w, x_aconst_null, x_iload, x_lload, x_aload, x_istore, x_lstore, x_astore, x_iinc, x_iadd, x_isub, x_imul, x_idiv, x_irem, x_iand, x_ior, x_ixor, x_ishl, x_ishr, x_iushr, x_ineg, x_ladd, x_lsub, x_lmul, x_ldiv, x_lrem, x_lcmp, x_i2l, x_i2b, x_i2s, x_i2c, x_dup, x_pop, x_dup_x1, x_dup2, x_getfield, x_putfield, x_iaload, x_baload, x_saload, x_caload, x_daload, x_faload, x_laload, x_aaload, x_iastore, x_bastore, x_sastore, x_castore, x_lastore, x_aastore, x_arraylength, x_getstatic, x_goto, x_goto_w, x_ifCond, x_if_icmp, x_ifnull, x_ifnonnull, x_lookupswitch, x_invokevirtual, x_invokestatic, x_invokedynamic, x_ireturn, x_freturn, x_dreturn, x_lreturn, x_areturn, x_return_, pI_c, pL_c, pR_c, pV_i, pV_r, gI_c, gL_c, gR_c, pN_z, pN_s, lget_c, lins_z, lins_c, ldel_z, ldel_c, ldel2_z, ldel2_c, lset_i, lset_l, lset_r, lkeep_z, lkeep_c, largs_z, largs_c, cat_i, cat_l, cat_r, lkp_c, cnd_eq, cnd_ne, cnd_lt, cnd_ge, cnd_gt, cnd_le, swL_z, swL_c, rE_e, rOr_s, rOr_n, rlk_z, rlk_c, aR_c, aI_c, aII_c, aIII_c, aRI_c, aRII_c, aRIII_c, vJn, vJs, vlc, aRR_c, aRRI_c, aRRII_c, aRRIII_c, aRIIII_c, aRL_c, aRLL_c, aLL_c, aRRRI_c, aIL_c, aIIII_c, aRRIIII_c, aIRII_c, aIR_c, aLI_c, aRIR_c, aRIIR_c, spMin, hEi]
  exact K
