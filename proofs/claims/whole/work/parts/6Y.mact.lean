/-! the reference: an act is read -/
def PwF (σ σ' : Mem) (k : Int) : Prop := (∀ o, o ≠ 175 → o ≠ 187 → σ' o = σ o) ∧ (∀ j, j ≠ 12 → j ≠ 13 → σ' 175 j = σ 175 j) ∧ ∀ j, j < k → σ' 187 j = σ 187 j
theorem PwF.rf {σ : Mem} {k : Int} : PwF σ σ k := ⟨fun _ _ _ => rfl, fun _ _ _ => rfl, fun _ _ => rfl⟩
theorem PwF.tr {σ σ' σ'' : Mem} {k k' : Int} (h : PwF σ σ' k) (h' : PwF σ' σ'' k') (hk : k ≤ k') : PwF σ σ'' k := ⟨fun o a b => (h'.1 o a b).trans (h.1 o a b), fun j a b => (h'.2.1 j a b).trans (h.2.1 j a b), fun j a => (h'.2.2 j (by omega)).trans (h.2.2 j a)⟩
theorem PwF.at {σ σ' : Mem} {x k : Int} (h : PwF σ σ' k) : PwF σ (up σ' 175 12 x) k := ⟨fun o a b => by rw [up_ne a]; exact h.1 o a b, fun j a b => by rw [up_ap, if_neg (fun z => a z.2)]; exact h.2.1 j a b, fun j a => by rw [up_ne (by omega)]; exact h.2.2 j a⟩
theorem PwF.wr {σ σ' : Mem} {x k : Int} (h : PwF σ σ' k) : PwF σ (up σ' 175 13 x) k := ⟨fun o a b => by rw [up_ne a]; exact h.1 o a b, fun j a b => by rw [up_ap, if_neg (fun z => b z.2)]; exact h.2.1 j a b, fun j a => by rw [up_ne (by omega)]; exact h.2.2 j a⟩
theorem PwF.st {σ σ' : Mem} {x k i : Int} (h : PwF σ σ' k) (hi : k ≤ i) : PwF σ (up σ' 187 i x) k := ⟨fun o a b => by rw [up_ne b]; exact h.1 o a b, fun j a b => by rw [up_ne (by omega)]; exact h.2.1 j a b, fun j a => by rw [up_ap, if_neg (by omega)]; exact h.2.2 j a⟩
theorem PwF.c {t : Tau} {σ σ' : Mem} {T : Int → Int} {N len : Nat} {k : Int} (h : PwF σ σ' k) (hc : PaX t σ T N len) : PaX t σ' T N len := by
  obtain ⟨c1, c2, c3, c4, c5, c6, c7⟩ := hc
  have e9 := h.2.1 9 (by omega) (by omega)
  have e10 := h.2.1 10 (by omega) (by omega)
  have e11 := h.2.1 11 (by omega) (by omega)
  have e178 := h.1 178 (by omega) (by omega)
  refine ⟨c1, by rw [e9]; exact c2, by rw [e10]; exact c3, c4, by rw [e178]; exact c5, c6, fun p hp => ?_⟩
  rw [← c7 p hp]; unfold hrS; rw [e9, e10, e11, c2, e178]
def stP (T : Int → Int) (N p j : Nat) : Prop := p + j ≤ N ∧ ∀ i, i < j → stA (T p) i (T (p + i : Nat)) = true
def RAS (σ σ' : Mem) (k : Int) (T : Int → Int) (N p j : Nat) : Prop := PwF σ σ' k ∧ σ' 175 13 = -1 ∧ σ' 175 12 = (p + j : Nat) ∧ stP T N p j
def RAB (σ σ' : Mem) (k : Int) (T : Int → Int) (N p j : Nat) : Prop := PwF σ σ' k ∧ σ' 175 13 = (p + j : Nat) ∧ σ' 175 12 = (p + j : Nat) ∧ stP T N p j ∧ j < lnA (T p) ∧ ¬ (p + j < N ∧ stA (T p) j (T (p + j : Nat)) = true)
theorem RAS.st {σ σ' : Mem} {k i x : Int} {T : Int → Int} {N p j : Nat} (h : RAS σ σ' k T N p j) (hi : k ≤ i) : RAS σ (up σ' 187 i x) k T N p j := ⟨h.1.st hi, by rw [up_ne (by omega)]; exact h.2.1, by rw [up_ne (by omega)]; exact h.2.2.1, h.2.2.2⟩
theorem RAB.st {σ σ' : Mem} {k i x : Int} {T : Int → Int} {N p j : Nat} (h : RAB σ σ' k T N p j) (hi : k ≤ i) : RAB σ (up σ' 187 i x) k T N p j := ⟨h.1.st hi, by rw [up_ne (by omega)]; exact h.2.1, by rw [up_ne (by omega)]; exact h.2.2.1, h.2.2.2⟩
theorem ra_bad {σ σ' : Mem} {k b m : Int} {T : Int → Int} {N p j : Nat} (h : RAB σ σ' k T N p j) : oneM σ' b m = σ' ∧ oneA σ' b m = 0 := by
  have n1 : ¬ σ' 175 13 = -1 := by rw [h.2.1]; omega
  unfold oneM oneA
  rw [if_neg n1, if_neg (fun z => n1 z.1)]
  exact ⟨rfl, rfl⟩
theorem ra_one {t : Tau} {σ σ' : Mem} {k b m : Int} {T : Int → Int} {N len p j : Nat} (hX : PaX t σ T N len) (h : RAS σ σ' k T N p j) (hj : j < lnA (T p)) (hb : 0 ≤ b) (hst : ∀ c, stA (T p) j c = decide (b ≤ c ∧ c < b + m)) : (RAS σ (oneM σ' b m) k T N p (j + 1) ∧ oneA σ' b m = T (p + j : Nat) - b ∧ p + j < N) ∨ RAB σ (oneM σ' b m) k T N p j := by
  obtain ⟨f, hw, hp, hs⟩ := h
  obtain ⟨-, -, hh⟩ := (f.c hX).ps hp hs.1
  by_cases c : p + j < N ∧ (b ≤ T (p + j : Nat) ∧ T (p + j : Nat) < b + m)
  · obtain ⟨c1, c2⟩ := c
    rw [if_pos c1] at hh
    have e1 : oneM σ' b m = up σ' 175 12 (σ' 175 12 + 1) := by unfold oneM; rw [if_pos hw, if_pos (by rw [hh]; exact c2)]
    have e2 : oneA σ' b m = T (p + j : Nat) - b := by unfold oneA; rw [if_pos ⟨hw, by rw [hh]; exact c2⟩, hh]
    refine Or.inl ⟨?_, e2, c1⟩
    rw [e1]
    refine ⟨f.at, by simp [up_ap, hw], by rw [up_ap, if_pos ⟨rfl, rfl⟩, hp]; omega, by omega, fun i hi => ?_⟩
    by_cases hz : i = j
    · subst hz; rw [hst]; exact decide_eq_true c2
    · exact hs.2 i (by omega)
  · have hna : ¬ (b ≤ hrS σ' (σ' 175 12) ∧ hrS σ' (σ' 175 12) < b + m) := by
      rw [hh]
      split
      · rename_i c1; exact fun z => c ⟨c1, z⟩
      · omega
    have e1 : oneM σ' b m = up σ' 175 13 (σ' 175 12) := by unfold oneM; rw [if_pos hw, if_neg hna]
    refine Or.inr ?_
    rw [e1]
    refine ⟨f.wr, by rw [up_ap, if_pos ⟨rfl, rfl⟩, hp], by rw [up_ap, if_neg (by omega), hp], hs, hj, fun z => ?_⟩
    rw [hst] at z
    exact c ⟨z.1, of_decide_eq_true z.2⟩
def AcIs (σ : Mem) (n : Nat) (T : Int → Int) (p : Nat) : Prop := σ 187 (4 * n : Nat) = T p ∧ σ 187 (4 * n + 1 : Nat) = T (p + 1 : Nat) - 48 ∧ (T p = 102 → σ 187 (4 * n + 2 : Nat) = T (p + 2 : Nat) - 48) ∧ (T p = 115 ∨ T p = 121 → σ 187 (4 * n + 2 : Nat) = T (p + 2 : Nat) - 97) ∧ (T p = 115 → σ 187 (4 * n + 3 : Nat) = T (p + 3 : Nat) - 48)
def mpRA : Sp := fun as t σ Q => aRI as fun a k4 => a = 175 ∧ ∃ T N len p n, k4 = (4 * n : Nat) ∧ n < 80 ∧ PaX t σ T N len ∧ σ 175 12 = (p : Nat) ∧ p ≤ N ∧ σ 175 13 = -1 ∧ ∀ σ', PwF σ σ' (4 * n : Nat) → ((RAS σ σ' (4 * n : Nat) T N p (lnA (T p)) ∧ AcIs σ' n T p) ∨ ∃ j, RAB σ σ' (4 * n : Nat) T N p j) → Q none t σ'
abbrev rgRa : Reg := (186, mpOne) :: rgPb
theorem rgRa_ok {l : Launch} {g : GE} {d : Nat} : ∀ e as t σ Q, rE l g (d + 5) rgRa e as t σ Q → WPc l g e (d + 5) 0 0 as t σ Q := rE_cons (fun _ _ _ _ h => m_oneOf (d := d + 2) h) (rgPb_ok (d := d + 3))
def RAX (σ σ' : Mem) (k : Int) (T : Int → Int) (N p j : Nat) : Prop := RAS σ σ' k T N p j ∨ ∃ j', RAB σ σ' k T N p j'
theorem RAX.f {σ σ' : Mem} {k : Int} {T : Int → Int} {N p j : Nat} (h : RAX σ σ' k T N p j) : PwF σ σ' k := by
  rcases h with h | ⟨j', h⟩ <;> exact h.1
theorem RAX.ps {t : Tau} {σ σ' : Mem} {k : Int} {T : Int → Int} {N len p j : Nat} (hX : PaX t σ T N len) (h : RAX σ σ' k T N p j) : PsOk t σ' ∧ PsB σ' := by
  rcases h with h | ⟨j', h⟩
  · obtain ⟨q1, q2, -⟩ := (h.1.c hX).ps h.2.2.1 h.2.2.2.1; exact ⟨q1, q2⟩
  · obtain ⟨q1, q2, -⟩ := (h.1.c hX).ps h.2.2.1 h.2.2.2.1.1; exact ⟨q1, q2⟩
theorem oneM_o {σ : Mem} {b m o : Int} (ho : o ≠ 175) : oneM σ b m o = σ o := by
  unfold oneM
  split
  · split <;> rw [up_ne ho]
  · rfl
theorem ra_next {t : Tau} {σ σ' : Mem} {k b m i e : Int} {T : Int → Int} {N len p j : Nat} (hX : PaX t σ T N len) (h : RAX σ σ' k T N p j) (hj : j < lnA (T p)) (hb : 0 ≤ b) (hst : ∀ c, stA (T p) j c = decide (b ≤ c ∧ c < b + m)) (hi : k ≤ i) : RAX σ (up (oneM σ' b m) 187 i (oneA σ' b m + e)) k T N p (j + 1) ∧ (RAS σ (up (oneM σ' b m) 187 i (oneA σ' b m + e)) k T N p (j + 1) → RAS σ σ' k T N p j ∧ oneA σ' b m = T (p + j : Nat) - b) ∧ (∀ x, x ≠ i → up (oneM σ' b m) 187 i (oneA σ' b m + e) 187 x = σ' 187 x) := by
  have h3 : ∀ x, x ≠ i → up (oneM σ' b m) 187 i (oneA σ' b m + e) 187 x = σ' 187 x := fun x hx => by rw [up_ap, if_neg (fun z => hx z.2), oneM_o (by omega)]
  rcases h with h | ⟨j', h⟩
  · rcases ra_one hX h hj hb hst with ⟨z1, z2, -⟩ | z
    · exact ⟨Or.inl (z1.st hi), fun _ => ⟨h, z2⟩, h3⟩
    · refine ⟨Or.inr ⟨j, z.st hi⟩, fun y => ?_, h3⟩
      have y1 := y.2.1
      have y2 := (z.st (x := oneA σ' b m + e) hi).2.1
      omega
  · obtain ⟨e1, e2⟩ := ra_bad (b := b) (m := m) h
    refine ⟨Or.inr ⟨j', by rw [e1]; exact h.st hi⟩, fun y => ?_, h3⟩
    have y1 := y.2.1
    rw [e1] at y1
    have y2 := (h.st (x := oneA σ' b m + e) hi).2.1
    omega
theorem RAX.fin {σ σ' : Mem} {n : Nat} {k : Int} {T : Int → Int} {N p j : Nat} (h : RAX σ σ' k T N p j) (hj : lnA (T p) = j) (ha : RAS σ σ' k T N p j → AcIs σ' n T p) : (RAS σ σ' k T N p (lnA (T p)) ∧ AcIs σ' n T p) ∨ ∃ j, RAB σ σ' k T N p j := by
  rcases h with h | h
  · exact Or.inl ⟨by rw [hj]; exact h, ha h⟩
  · exact Or.inr h
set_option maxHeartbeats 2000000 in
theorem m_readAct {l : Launch} {g : GE} {d : Nat} {t : Tau} {σ : Mem} {Q : Post} {as : List TV} (h0 : mpRA as t σ Q) : WPc l g 221 (d + 6) 0 0 as t σ Q := by
  obtain ⟨a, k4, rfl, rfl, T, N', len, p, n, rfl, hn, hX, hp, hpN, hw, h⟩ := aRI_e h0
  clear h0
  have hM := hX.1
  have oM := hM.o
  have l80 := hX.2.2.2.1
  have nl := hX.2.2.2.2.2.1
  obtain ⟨hP, hB, hh⟩ := hX.ps hp hpN
  by_cases c0 : p < N' ∧ (T p = 102 ∨ T p = 110 ∨ T p = 115 ∨ T p = 121)
  · obtain ⟨c1, c2⟩ := c0
    rw [if_pos c1, hp] at hh
    have w1 : w32 ((p : Int) + 1) = (p : Int) + 1 := w32_id (by omega) (by omega)
    obtain ⟨k4, hk4⟩ : ∃ k4 : Int, k4 = (4 * n : Nat) := ⟨_, rfl⟩
    rw [← hk4]
    have k0 : 0 ≤ k4 ∧ k4 < 320 := by omega
    have wa : w32 (k4 + 1) = k4 + 1 ∧ w32 (k4 + 2) = k4 + 2 ∧ w32 (k4 + 3) = k4 + 3 := ⟨w32_id (by omega) (by omega), w32_id (by omega) (by omega), w32_id (by omega) (by omega)⟩
    have ba : (0 ≤ k4 + 1 ∧ k4 + 1 < 320) ∧ (0 ≤ k4 + 2 ∧ k4 + 2 < 320) ∧ (0 ≤ k4 + 3 ∧ k4 + 3 < 320) := by omega
    generalize hσ1 : up (up σ 175 12 ((p : Int) + 1)) 187 k4 (T p) = σ1
    have S1 : RAS σ σ1 k4 T N' p 1 := by
      rw [← hσ1]
      refine RAS.st ⟨PwF.rf.at, by simp [up_ap, hw], by simp [up_ap], by omega, fun i hi => ?_⟩ (by omega)
      obtain rfl : i = 0 := by omega
      unfold stA; rw [if_pos rfl]; exact decide_eq_true c2
    have v10 : σ1 187 k4 = T p := by rw [← hσ1]; simp [up_ap]
    have X1 : RAX σ σ1 k4 T N' p 1 := Or.inl S1
    obtain ⟨hP1, hB1⟩ := X1.ps hX
    have hL := lnA_b (T p)
    obtain ⟨X2, A2, V2⟩ := ra_next (b := 48) (m := 10) (i := k4 + 1) (e := 0) hX X1 (by omega) (by omega) (fun c => by unfold stA; rw [if_neg (by omega), if_neg (by omega)]; exact decide_eq_decide.mpr ⟨fun z => by omega, fun z => by omega⟩) (by omega)
    rw [Int.add_zero] at X2 A2 V2
    have V2i : up (oneM σ1 48 10) 187 (k4 + 1) (oneA σ1 48 10) 187 (k4 + 1) = oneA σ1 48 10 := by simp [up_ap]
    generalize hσ2 : up (oneM σ1 48 10) 187 (k4 + 1) (oneA σ1 48 10) = σ2 at X2 A2 V2 V2i
    obtain ⟨hP2, hB2⟩ := X2.ps hX
    have c4i : ((4 * n + 1 : Nat) : Int) = k4 + 1 ∧ ((4 * n + 2 : Nat) : Int) = k4 + 2 ∧ ((4 * n + 3 : Nat) : Int) = k4 + 3 := by omega
    rw [← hk4] at h
    refine wg (by decide) rgRa_ok ts_221 py_221 ml_221 30 (by simp [catT]) (fun N hN => ?_)
    rcases c2 with c2 | c2 | c2 | c2
    · -- a fight
      have hln : lnA (T p) = 3 := by rw [c2]; rfl
      obtain ⟨X3, A3, V3⟩ := ra_next (b := 48) (m := 10) (i := k4 + 2) (e := 0) hX X2 (by omega) (by omega) (fun c => by unfold stA; rw [if_neg (by omega), if_neg (by omega)]; exact decide_eq_decide.mpr ⟨fun z => by omega, fun z => by omega⟩) (by omega)
      rw [Int.add_zero] at X3 A3 V3
      have V3i : up (oneM σ2 48 10) 187 (k4 + 2) (oneA σ2 48 10) 187 (k4 + 2) = oneA σ2 48 10 := by simp [up_ap]
      generalize hσ3 : up (oneM σ2 48 10) 187 (k4 + 2) (oneA σ2 48 10) = σ3 at X3 A3 V3 V3i
      have K := h σ3 X3.f (RAX.fin X3 hln (fun y => by
        obtain ⟨y2, y3⟩ := A3 y
        obtain ⟨y4, y5⟩ := A2 y2
        refine ⟨?_, ?_, fun _ => ?_, fun z => by omega, fun z => by omega⟩
        · rw [← hk4, V3 _ (by omega), V2 _ (by omega)]; exact v10
        · rw [c4i.1, V3 _ (by omega), V2i]; exact y5
        · rw [c4i.2.1, V3i]; exact y3))
      rw [c2] at hh hσ1
      simp [bs_221, hN _, x_iconst, x_ldc2_w, x_aconst_null, x_iload, x_lload, x_aload, x_istore, x_lstore, x_astore, x_iinc, x_iadd, x_isub, x_imul, x_idiv, x_irem, x_iand, x_ior, x_ixor, x_ishl, x_ishr, x_iushr, x_ineg, x_ladd, x_lsub, x_lmul, x_ldiv, x_lrem, x_lcmp, x_i2l, x_i2b, x_i2s, x_i2c, x_dup, x_pop, x_dup_x1, x_dup2, x_getfield, x_putfield, x_iaload, x_baload, x_saload, x_caload, x_daload, x_faload, x_laload, x_aaload, x_iastore, x_bastore, x_sastore, x_castore, x_lastore, x_aastore, x_arraylength, x_getstatic, x_goto, x_goto_w, x_ifCond, x_if_icmp, x_ifnull, x_ifnonnull, x_lookupswitch, x_invokevirtual, x_invokestatic, x_invokedynamic, x_ireturn, x_freturn, x_dreturn, x_lreturn, x_areturn, x_return_, pI_c, pL_c, pR_c, pV_i, pV_r, gI_c, gL_c, gR_c, pN_z, pN_s, lget_c, lins_z, lins_c, ldel_z, ldel_c, ldel2_z, ldel2_c, lset_i, lset_l, lset_r, lkeep_z, lkeep_c, largs_z, largs_c, cat_i, cat_l, cat_r, lkp_c, cnd_eq, cnd_ne, cnd_lt, cnd_ge, cnd_gt, cnd_le, swL_z, swL_c, rE_e, rOr_s, rOr_n, rlk_z, rlk_c, aR_c, aI_c, aII_c, aIII_c, aRI_c, aRII_c, aRIII_c, vJn, vJs, vlc, aRR_c, aRRI_c, aRRII_c, aRRIII_c, aRIIII_c, aRL_c, aRLL_c, aLL_c, aRRRI_c, aIL_c, aIIII_c, aRRIIII_c, aIRII_c, aIR_c, aLI_c, aRIR_c, aRIIR_c, oM, mpHere, hP, hp, hh, hM.f24, hM.t187, hM.l187, w1, k0, wa, ba, hσ1, mpOne, hP1, hB1, up_ap]
      simp [sg_221_38_1, hN _, x_iconst, x_ldc2_w, x_aconst_null, x_iload, x_lload, x_aload, x_istore, x_lstore, x_astore, x_iinc, x_iadd, x_isub, x_imul, x_idiv, x_irem, x_iand, x_ior, x_ixor, x_ishl, x_ishr, x_iushr, x_ineg, x_ladd, x_lsub, x_lmul, x_ldiv, x_lrem, x_lcmp, x_i2l, x_i2b, x_i2s, x_i2c, x_dup, x_pop, x_dup_x1, x_dup2, x_getfield, x_putfield, x_iaload, x_baload, x_saload, x_caload, x_daload, x_faload, x_laload, x_aaload, x_iastore, x_bastore, x_sastore, x_castore, x_lastore, x_aastore, x_arraylength, x_getstatic, x_goto, x_goto_w, x_ifCond, x_if_icmp, x_ifnull, x_ifnonnull, x_lookupswitch, x_invokevirtual, x_invokestatic, x_invokedynamic, x_ireturn, x_freturn, x_dreturn, x_lreturn, x_areturn, x_return_, pI_c, pL_c, pR_c, pV_i, pV_r, gI_c, gL_c, gR_c, pN_z, pN_s, lget_c, lins_z, lins_c, ldel_z, ldel_c, ldel2_z, ldel2_c, lset_i, lset_l, lset_r, lkeep_z, lkeep_c, largs_z, largs_c, cat_i, cat_l, cat_r, lkp_c, cnd_eq, cnd_ne, cnd_lt, cnd_ge, cnd_gt, cnd_le, swL_z, swL_c, rE_e, rOr_s, rOr_n, rlk_z, rlk_c, aR_c, aI_c, aII_c, aIII_c, aRI_c, aRII_c, aRIII_c, vJn, vJs, vlc, aRR_c, aRRI_c, aRRII_c, aRRIII_c, aRIIII_c, aRL_c, aRLL_c, aLL_c, aRRRI_c, aIL_c, aIIII_c, aRRIIII_c, aIRII_c, aIR_c, aLI_c, aRIR_c, aRIIR_c, oM, hM.f24, hM.t187, hM.l187, wa, ba, hσ2, mpOne, hP2, hB2]
      simp [sg_221_38_2, bs_221, hN _, x_iconst, x_ldc2_w, x_aconst_null, x_iload, x_lload, x_aload, x_istore, x_lstore, x_astore, x_iinc, x_iadd, x_isub, x_imul, x_idiv, x_irem, x_iand, x_ior, x_ixor, x_ishl, x_ishr, x_iushr, x_ineg, x_ladd, x_lsub, x_lmul, x_ldiv, x_lrem, x_lcmp, x_i2l, x_i2b, x_i2s, x_i2c, x_dup, x_pop, x_dup_x1, x_dup2, x_getfield, x_putfield, x_iaload, x_baload, x_saload, x_caload, x_daload, x_faload, x_laload, x_aaload, x_iastore, x_bastore, x_sastore, x_castore, x_lastore, x_aastore, x_arraylength, x_getstatic, x_goto, x_goto_w, x_ifCond, x_if_icmp, x_ifnull, x_ifnonnull, x_lookupswitch, x_invokevirtual, x_invokestatic, x_invokedynamic, x_ireturn, x_freturn, x_dreturn, x_lreturn, x_areturn, x_return_, pI_c, pL_c, pR_c, pV_i, pV_r, gI_c, gL_c, gR_c, pN_z, pN_s, lget_c, lins_z, lins_c, ldel_z, ldel_c, ldel2_z, ldel2_c, lset_i, lset_l, lset_r, lkeep_z, lkeep_c, largs_z, largs_c, cat_i, cat_l, cat_r, lkp_c, cnd_eq, cnd_ne, cnd_lt, cnd_ge, cnd_gt, cnd_le, swL_z, swL_c, rE_e, rOr_s, rOr_n, rlk_z, rlk_c, aR_c, aI_c, aII_c, aIII_c, aRI_c, aRII_c, aRIII_c, vJn, vJs, vlc, aRR_c, aRRI_c, aRRII_c, aRRIII_c, aRIIII_c, aRL_c, aRLL_c, aLL_c, aRRRI_c, aIL_c, aIIII_c, aRRIIII_c, aIRII_c, aIR_c, aLI_c, aRIR_c, aRIIR_c, oM, hM.t187, hM.l187, ba, hσ3]
      exact K
    · -- days
      have hln : lnA (T p) = 2 := by rw [c2]; rfl
      have K := h σ2 X2.f (RAX.fin X2 hln (fun y => by
        obtain ⟨y4, y5⟩ := A2 y
        refine ⟨?_, ?_, fun z => by omega, fun z => by omega, fun z => by omega⟩
        · rw [← hk4, V2 _ (by omega)]; exact v10
        · rw [c4i.1, V2i]; exact y5))
      rw [c2] at hh hσ1
      simp [bs_221, hN _, x_iconst, x_ldc2_w, x_aconst_null, x_iload, x_lload, x_aload, x_istore, x_lstore, x_astore, x_iinc, x_iadd, x_isub, x_imul, x_idiv, x_irem, x_iand, x_ior, x_ixor, x_ishl, x_ishr, x_iushr, x_ineg, x_ladd, x_lsub, x_lmul, x_ldiv, x_lrem, x_lcmp, x_i2l, x_i2b, x_i2s, x_i2c, x_dup, x_pop, x_dup_x1, x_dup2, x_getfield, x_putfield, x_iaload, x_baload, x_saload, x_caload, x_daload, x_faload, x_laload, x_aaload, x_iastore, x_bastore, x_sastore, x_castore, x_lastore, x_aastore, x_arraylength, x_getstatic, x_goto, x_goto_w, x_ifCond, x_if_icmp, x_ifnull, x_ifnonnull, x_lookupswitch, x_invokevirtual, x_invokestatic, x_invokedynamic, x_ireturn, x_freturn, x_dreturn, x_lreturn, x_areturn, x_return_, pI_c, pL_c, pR_c, pV_i, pV_r, gI_c, gL_c, gR_c, pN_z, pN_s, lget_c, lins_z, lins_c, ldel_z, ldel_c, ldel2_z, ldel2_c, lset_i, lset_l, lset_r, lkeep_z, lkeep_c, largs_z, largs_c, cat_i, cat_l, cat_r, lkp_c, cnd_eq, cnd_ne, cnd_lt, cnd_ge, cnd_gt, cnd_le, swL_z, swL_c, rE_e, rOr_s, rOr_n, rlk_z, rlk_c, aR_c, aI_c, aII_c, aIII_c, aRI_c, aRII_c, aRIII_c, vJn, vJs, vlc, aRR_c, aRRI_c, aRRII_c, aRRIII_c, aRIIII_c, aRL_c, aRLL_c, aLL_c, aRRRI_c, aIL_c, aIIII_c, aRRIIII_c, aIRII_c, aIR_c, aLI_c, aRIR_c, aRIIR_c, oM, mpHere, hP, hp, hh, hM.f24, hM.t187, hM.l187, w1, k0, wa, ba, hσ1, mpOne, hP1, hB1, up_ap]
      simp [sg_221_38_1, bs_221, hN _, x_iconst, x_ldc2_w, x_aconst_null, x_iload, x_lload, x_aload, x_istore, x_lstore, x_astore, x_iinc, x_iadd, x_isub, x_imul, x_idiv, x_irem, x_iand, x_ior, x_ixor, x_ishl, x_ishr, x_iushr, x_ineg, x_ladd, x_lsub, x_lmul, x_ldiv, x_lrem, x_lcmp, x_i2l, x_i2b, x_i2s, x_i2c, x_dup, x_pop, x_dup_x1, x_dup2, x_getfield, x_putfield, x_iaload, x_baload, x_saload, x_caload, x_daload, x_faload, x_laload, x_aaload, x_iastore, x_bastore, x_sastore, x_castore, x_lastore, x_aastore, x_arraylength, x_getstatic, x_goto, x_goto_w, x_ifCond, x_if_icmp, x_ifnull, x_ifnonnull, x_lookupswitch, x_invokevirtual, x_invokestatic, x_invokedynamic, x_ireturn, x_freturn, x_dreturn, x_lreturn, x_areturn, x_return_, pI_c, pL_c, pR_c, pV_i, pV_r, gI_c, gL_c, gR_c, pN_z, pN_s, lget_c, lins_z, lins_c, ldel_z, ldel_c, ldel2_z, ldel2_c, lset_i, lset_l, lset_r, lkeep_z, lkeep_c, largs_z, largs_c, cat_i, cat_l, cat_r, lkp_c, cnd_eq, cnd_ne, cnd_lt, cnd_ge, cnd_gt, cnd_le, swL_z, swL_c, rE_e, rOr_s, rOr_n, rlk_z, rlk_c, aR_c, aI_c, aII_c, aIII_c, aRI_c, aRII_c, aRIII_c, vJn, vJs, vlc, aRR_c, aRRI_c, aRRII_c, aRRIII_c, aRIIII_c, aRL_c, aRLL_c, aLL_c, aRRRI_c, aIL_c, aIIII_c, aRRIIII_c, aIRII_c, aIR_c, aLI_c, aRIR_c, aRIIR_c, oM, hM.f24, hM.t187, hM.l187, wa, ba, hσ2]
      exact K
    · -- parts that are sewn in
      have hln : lnA (T p) = 4 := by rw [c2]; rfl
      obtain ⟨X3, A3, V3⟩ := ra_next (b := 97) (m := 4) (i := k4 + 2) (e := 0) hX X2 (by omega) (by omega) (fun c => by unfold stA; rw [if_neg (by omega), if_pos ⟨rfl, by omega⟩]; exact decide_eq_decide.mpr ⟨fun z => by omega, fun z => by omega⟩) (by omega)
      rw [Int.add_zero] at X3 A3 V3
      have V3i : up (oneM σ2 97 4) 187 (k4 + 2) (oneA σ2 97 4) 187 (k4 + 2) = oneA σ2 97 4 := by simp [up_ap]
      generalize hσ3 : up (oneM σ2 97 4) 187 (k4 + 2) (oneA σ2 97 4) = σ3 at X3 A3 V3 V3i
      obtain ⟨hP3, hB3⟩ := X3.ps hX
      obtain ⟨X4, A4, V4⟩ := ra_next (b := 49) (m := 9) (i := k4 + 3) (e := 1) hX X3 (by omega) (by omega) (fun c => by unfold stA; rw [if_neg (by omega), if_neg (by omega)]; exact decide_eq_decide.mpr ⟨fun z => by omega, fun z => by omega⟩) (by omega)
      have V4i : up (oneM σ3 49 9) 187 (k4 + 3) (oneA σ3 49 9 + 1) 187 (k4 + 3) = oneA σ3 49 9 + 1 := by simp [up_ap]
      have w49 : w32 (oneA σ3 49 9 + 1) = oneA σ3 49 9 + 1 := by
        refine w32_id ?_ ?_ <;> unfold oneA <;> split <;> omega
      generalize hσ4 : up (oneM σ3 49 9) 187 (k4 + 3) (oneA σ3 49 9 + 1) = σ4 at X4 A4 V4 V4i
      have K := h σ4 X4.f (RAX.fin X4 hln (fun y => by
        obtain ⟨y0, y1⟩ := A4 y
        obtain ⟨y2, y3⟩ := A3 y0
        obtain ⟨y4, y5⟩ := A2 y2
        refine ⟨?_, ?_, fun z => by omega, fun _ => ?_, fun _ => ?_⟩
        · rw [← hk4, V4 _ (by omega), V3 _ (by omega), V2 _ (by omega)]; exact v10
        · rw [c4i.1, V4 _ (by omega), V3 _ (by omega), V2i]; exact y5
        · rw [c4i.2.1, V4 _ (by omega), V3i]; exact y3
        · have y1' : oneA σ3 49 9 = T (p + 3 : Nat) - 49 := y1
          rw [c4i.2.2, V4i, y1']; omega))
      rw [c2] at hh hσ1
      simp [bs_221, hN _, x_iconst, x_ldc2_w, x_aconst_null, x_iload, x_lload, x_aload, x_istore, x_lstore, x_astore, x_iinc, x_iadd, x_isub, x_imul, x_idiv, x_irem, x_iand, x_ior, x_ixor, x_ishl, x_ishr, x_iushr, x_ineg, x_ladd, x_lsub, x_lmul, x_ldiv, x_lrem, x_lcmp, x_i2l, x_i2b, x_i2s, x_i2c, x_dup, x_pop, x_dup_x1, x_dup2, x_getfield, x_putfield, x_iaload, x_baload, x_saload, x_caload, x_daload, x_faload, x_laload, x_aaload, x_iastore, x_bastore, x_sastore, x_castore, x_lastore, x_aastore, x_arraylength, x_getstatic, x_goto, x_goto_w, x_ifCond, x_if_icmp, x_ifnull, x_ifnonnull, x_lookupswitch, x_invokevirtual, x_invokestatic, x_invokedynamic, x_ireturn, x_freturn, x_dreturn, x_lreturn, x_areturn, x_return_, pI_c, pL_c, pR_c, pV_i, pV_r, gI_c, gL_c, gR_c, pN_z, pN_s, lget_c, lins_z, lins_c, ldel_z, ldel_c, ldel2_z, ldel2_c, lset_i, lset_l, lset_r, lkeep_z, lkeep_c, largs_z, largs_c, cat_i, cat_l, cat_r, lkp_c, cnd_eq, cnd_ne, cnd_lt, cnd_ge, cnd_gt, cnd_le, swL_z, swL_c, rE_e, rOr_s, rOr_n, rlk_z, rlk_c, aR_c, aI_c, aII_c, aIII_c, aRI_c, aRII_c, aRIII_c, vJn, vJs, vlc, aRR_c, aRRI_c, aRRII_c, aRRIII_c, aRIIII_c, aRL_c, aRLL_c, aLL_c, aRRRI_c, aIL_c, aIIII_c, aRRIIII_c, aIRII_c, aIR_c, aLI_c, aRIR_c, aRIIR_c, oM, mpHere, hP, hp, hh, hM.f24, hM.t187, hM.l187, w1, k0, wa, ba, hσ1, mpOne, hP1, hB1, up_ap]
      simp [sg_221_38_1, bs_221, hN _, x_iconst, x_ldc2_w, x_aconst_null, x_iload, x_lload, x_aload, x_istore, x_lstore, x_astore, x_iinc, x_iadd, x_isub, x_imul, x_idiv, x_irem, x_iand, x_ior, x_ixor, x_ishl, x_ishr, x_iushr, x_ineg, x_ladd, x_lsub, x_lmul, x_ldiv, x_lrem, x_lcmp, x_i2l, x_i2b, x_i2s, x_i2c, x_dup, x_pop, x_dup_x1, x_dup2, x_getfield, x_putfield, x_iaload, x_baload, x_saload, x_caload, x_daload, x_faload, x_laload, x_aaload, x_iastore, x_bastore, x_sastore, x_castore, x_lastore, x_aastore, x_arraylength, x_getstatic, x_goto, x_goto_w, x_ifCond, x_if_icmp, x_ifnull, x_ifnonnull, x_lookupswitch, x_invokevirtual, x_invokestatic, x_invokedynamic, x_ireturn, x_freturn, x_dreturn, x_lreturn, x_areturn, x_return_, pI_c, pL_c, pR_c, pV_i, pV_r, gI_c, gL_c, gR_c, pN_z, pN_s, lget_c, lins_z, lins_c, ldel_z, ldel_c, ldel2_z, ldel2_c, lset_i, lset_l, lset_r, lkeep_z, lkeep_c, largs_z, largs_c, cat_i, cat_l, cat_r, lkp_c, cnd_eq, cnd_ne, cnd_lt, cnd_ge, cnd_gt, cnd_le, swL_z, swL_c, rE_e, rOr_s, rOr_n, rlk_z, rlk_c, aR_c, aI_c, aII_c, aIII_c, aRI_c, aRII_c, aRIII_c, vJn, vJs, vlc, aRR_c, aRRI_c, aRRII_c, aRRIII_c, aRIIII_c, aRL_c, aRLL_c, aLL_c, aRRRI_c, aIL_c, aIIII_c, aRRIIII_c, aIRII_c, aIR_c, aLI_c, aRIR_c, aRIIR_c, oM, hM.f24, hM.t187, hM.l187, wa, ba, hσ2, mpOne, hP2, hB2]
      simp [sg_221_0_1, sg_221_38_4, sg_221_38_3, sg_221_38_2, sg_221_38_1, sg_221_93_2, sg_221_93_1, sg_221_105_2, sg_221_105_1, sg_221_120_1, bs_221, hN _, x_iconst, x_ldc2_w, x_aconst_null, x_iload, x_lload, x_aload, x_istore, x_lstore, x_astore, x_iinc, x_iadd, x_isub, x_imul, x_idiv, x_irem, x_iand, x_ior, x_ixor, x_ishl, x_ishr, x_iushr, x_ineg, x_ladd, x_lsub, x_lmul, x_ldiv, x_lrem, x_lcmp, x_i2l, x_i2b, x_i2s, x_i2c, x_dup, x_pop, x_dup_x1, x_dup2, x_getfield, x_putfield, x_iaload, x_baload, x_saload, x_caload, x_daload, x_faload, x_laload, x_aaload, x_iastore, x_bastore, x_sastore, x_castore, x_lastore, x_aastore, x_arraylength, x_getstatic, x_goto, x_goto_w, x_ifCond, x_if_icmp, x_ifnull, x_ifnonnull, x_lookupswitch, x_invokevirtual, x_invokestatic, x_invokedynamic, x_ireturn, x_freturn, x_dreturn, x_lreturn, x_areturn, x_return_, pI_c, pL_c, pR_c, pV_i, pV_r, gI_c, gL_c, gR_c, pN_z, pN_s, lget_c, lins_z, lins_c, ldel_z, ldel_c, ldel2_z, ldel2_c, lset_i, lset_l, lset_r, lkeep_z, lkeep_c, largs_z, largs_c, cat_i, cat_l, cat_r, lkp_c, cnd_eq, cnd_ne, cnd_lt, cnd_ge, cnd_gt, cnd_le, swL_z, swL_c, rE_e, rOr_s, rOr_n, rlk_z, rlk_c, aR_c, aI_c, aII_c, aIII_c, aRI_c, aRII_c, aRIII_c, vJn, vJs, vlc, aRR_c, aRRI_c, aRRII_c, aRRIII_c, aRIIII_c, aRL_c, aRLL_c, aLL_c, aRRRI_c, aIL_c, aIIII_c, aRRIIII_c, aIRII_c, aIR_c, aLI_c, aRIR_c, aRIIR_c, oM, hM.f24, hM.t187, hM.l187, wa, ba, hσ3, mpOne, hP3, hB3, w49, hσ4]
      exact K
    · -- a flag that is struck
      have hln : lnA (T p) = 3 := by rw [c2]; rfl
      obtain ⟨X3, A3, V3⟩ := ra_next (b := 97) (m := 4) (i := k4 + 2) (e := 0) hX X2 (by omega) (by omega) (fun c => by unfold stA; rw [if_neg (by omega), if_pos ⟨rfl, by omega⟩]; exact decide_eq_decide.mpr ⟨fun z => by omega, fun z => by omega⟩) (by omega)
      rw [Int.add_zero] at X3 A3 V3
      have V3i : up (oneM σ2 97 4) 187 (k4 + 2) (oneA σ2 97 4) 187 (k4 + 2) = oneA σ2 97 4 := by simp [up_ap]
      generalize hσ3 : up (oneM σ2 97 4) 187 (k4 + 2) (oneA σ2 97 4) = σ3 at X3 A3 V3 V3i
      have K := h σ3 X3.f (RAX.fin X3 hln (fun y => by
        obtain ⟨y2, y3⟩ := A3 y
        obtain ⟨y4, y5⟩ := A2 y2
        refine ⟨?_, ?_, fun z => by omega, fun _ => ?_, fun z => by omega⟩
        · rw [← hk4, V3 _ (by omega), V2 _ (by omega)]; exact v10
        · rw [c4i.1, V3 _ (by omega), V2i]; exact y5
        · rw [c4i.2.1, V3i]; exact y3))
      rw [c2] at hh hσ1
      simp [bs_221, hN _, x_iconst, x_ldc2_w, x_aconst_null, x_iload, x_lload, x_aload, x_istore, x_lstore, x_astore, x_iinc, x_iadd, x_isub, x_imul, x_idiv, x_irem, x_iand, x_ior, x_ixor, x_ishl, x_ishr, x_iushr, x_ineg, x_ladd, x_lsub, x_lmul, x_ldiv, x_lrem, x_lcmp, x_i2l, x_i2b, x_i2s, x_i2c, x_dup, x_pop, x_dup_x1, x_dup2, x_getfield, x_putfield, x_iaload, x_baload, x_saload, x_caload, x_daload, x_faload, x_laload, x_aaload, x_iastore, x_bastore, x_sastore, x_castore, x_lastore, x_aastore, x_arraylength, x_getstatic, x_goto, x_goto_w, x_ifCond, x_if_icmp, x_ifnull, x_ifnonnull, x_lookupswitch, x_invokevirtual, x_invokestatic, x_invokedynamic, x_ireturn, x_freturn, x_dreturn, x_lreturn, x_areturn, x_return_, pI_c, pL_c, pR_c, pV_i, pV_r, gI_c, gL_c, gR_c, pN_z, pN_s, lget_c, lins_z, lins_c, ldel_z, ldel_c, ldel2_z, ldel2_c, lset_i, lset_l, lset_r, lkeep_z, lkeep_c, largs_z, largs_c, cat_i, cat_l, cat_r, lkp_c, cnd_eq, cnd_ne, cnd_lt, cnd_ge, cnd_gt, cnd_le, swL_z, swL_c, rE_e, rOr_s, rOr_n, rlk_z, rlk_c, aR_c, aI_c, aII_c, aIII_c, aRI_c, aRII_c, aRIII_c, vJn, vJs, vlc, aRR_c, aRRI_c, aRRII_c, aRRIII_c, aRIIII_c, aRL_c, aRLL_c, aLL_c, aRRRI_c, aIL_c, aIIII_c, aRRIIII_c, aIRII_c, aIR_c, aLI_c, aRIR_c, aRIIR_c, oM, mpHere, hP, hp, hh, hM.f24, hM.t187, hM.l187, w1, k0, wa, ba, hσ1, mpOne, hP1, hB1, up_ap]
      simp [sg_221_38_1, bs_221, hN _, x_iconst, x_ldc2_w, x_aconst_null, x_iload, x_lload, x_aload, x_istore, x_lstore, x_astore, x_iinc, x_iadd, x_isub, x_imul, x_idiv, x_irem, x_iand, x_ior, x_ixor, x_ishl, x_ishr, x_iushr, x_ineg, x_ladd, x_lsub, x_lmul, x_ldiv, x_lrem, x_lcmp, x_i2l, x_i2b, x_i2s, x_i2c, x_dup, x_pop, x_dup_x1, x_dup2, x_getfield, x_putfield, x_iaload, x_baload, x_saload, x_caload, x_daload, x_faload, x_laload, x_aaload, x_iastore, x_bastore, x_sastore, x_castore, x_lastore, x_aastore, x_arraylength, x_getstatic, x_goto, x_goto_w, x_ifCond, x_if_icmp, x_ifnull, x_ifnonnull, x_lookupswitch, x_invokevirtual, x_invokestatic, x_invokedynamic, x_ireturn, x_freturn, x_dreturn, x_lreturn, x_areturn, x_return_, pI_c, pL_c, pR_c, pV_i, pV_r, gI_c, gL_c, gR_c, pN_z, pN_s, lget_c, lins_z, lins_c, ldel_z, ldel_c, ldel2_z, ldel2_c, lset_i, lset_l, lset_r, lkeep_z, lkeep_c, largs_z, largs_c, cat_i, cat_l, cat_r, lkp_c, cnd_eq, cnd_ne, cnd_lt, cnd_ge, cnd_gt, cnd_le, swL_z, swL_c, rE_e, rOr_s, rOr_n, rlk_z, rlk_c, aR_c, aI_c, aII_c, aIII_c, aRI_c, aRII_c, aRIII_c, vJn, vJs, vlc, aRR_c, aRRI_c, aRRII_c, aRRIII_c, aRIIII_c, aRL_c, aRLL_c, aLL_c, aRRRI_c, aIL_c, aIIII_c, aRRIIII_c, aIRII_c, aIR_c, aLI_c, aRIR_c, aRIIR_c, oM, hM.f24, hM.t187, hM.l187, wa, ba, hσ2, mpOne, hP2, hB2]
      simp [sg_221_0_1, sg_221_38_4, sg_221_38_3, sg_221_38_2, sg_221_38_1, sg_221_93_2, sg_221_93_1, sg_221_105_2, sg_221_105_1, sg_221_120_1, bs_221, hN _, x_iconst, x_ldc2_w, x_aconst_null, x_iload, x_lload, x_aload, x_istore, x_lstore, x_astore, x_iinc, x_iadd, x_isub, x_imul, x_idiv, x_irem, x_iand, x_ior, x_ixor, x_ishl, x_ishr, x_iushr, x_ineg, x_ladd, x_lsub, x_lmul, x_ldiv, x_lrem, x_lcmp, x_i2l, x_i2b, x_i2s, x_i2c, x_dup, x_pop, x_dup_x1, x_dup2, x_getfield, x_putfield, x_iaload, x_baload, x_saload, x_caload, x_daload, x_faload, x_laload, x_aaload, x_iastore, x_bastore, x_sastore, x_castore, x_lastore, x_aastore, x_arraylength, x_getstatic, x_goto, x_goto_w, x_ifCond, x_if_icmp, x_ifnull, x_ifnonnull, x_lookupswitch, x_invokevirtual, x_invokestatic, x_invokedynamic, x_ireturn, x_freturn, x_dreturn, x_lreturn, x_areturn, x_return_, pI_c, pL_c, pR_c, pV_i, pV_r, gI_c, gL_c, gR_c, pN_z, pN_s, lget_c, lins_z, lins_c, ldel_z, ldel_c, ldel2_z, ldel2_c, lset_i, lset_l, lset_r, lkeep_z, lkeep_c, largs_z, largs_c, cat_i, cat_l, cat_r, lkp_c, cnd_eq, cnd_ne, cnd_lt, cnd_ge, cnd_gt, cnd_le, swL_z, swL_c, rE_e, rOr_s, rOr_n, rlk_z, rlk_c, aR_c, aI_c, aII_c, aIII_c, aRI_c, aRII_c, aRIII_c, vJn, vJs, vlc, aRR_c, aRRI_c, aRRII_c, aRRIII_c, aRIIII_c, aRL_c, aRLL_c, aLL_c, aRRRI_c, aIL_c, aIIII_c, aRRIIII_c, aIRII_c, aIR_c, aLI_c, aRIR_c, aRIIR_c, oM, hM.f24, hM.t187, hM.l187, wa, ba, hσ3]
      exact K
  · have hL := lnA_b (T p)
    have K := h (up σ 175 13 p) PwF.rf.wr (Or.inr ⟨0, PwF.rf.wr, by simp [up_ap], by simp [up_ap, hp], ⟨by omega, fun i hi => by omega⟩, by omega, fun z => c0 ⟨by omega, by have := z.2; unfold stA at this; simpa using this⟩⟩)
    have hne : hrS σ (σ 175 12) ≠ 102 ∧ hrS σ (σ 175 12) ≠ 110 ∧ hrS σ (σ 175 12) ≠ 115 ∧ hrS σ (σ 175 12) ≠ 121 := by
      rw [hh]
      split
      · rename_i c; omega
      · omega
    rw [hp] at hne
    refine wg (by decide) rgRa_ok ts_221 py_221 ml_221 30 (by simp [catT]) (fun N hN => ?_)
    simp [bs_221, sg_221_0_1, hN _, x_iconst, x_ldc2_w, x_aconst_null, x_iload, x_lload, x_aload, x_istore, x_lstore, x_astore, x_iinc, x_iadd, x_isub, x_imul, x_idiv, x_irem, x_iand, x_ior, x_ixor, x_ishl, x_ishr, x_iushr, x_ineg, x_ladd, x_lsub, x_lmul, x_ldiv, x_lrem, x_lcmp, x_i2l, x_i2b, x_i2s, x_i2c, x_dup, x_pop, x_dup_x1, x_dup2, x_getfield, x_putfield, x_iaload, x_baload, x_saload, x_caload, x_daload, x_faload, x_laload, x_aaload, x_iastore, x_bastore, x_sastore, x_castore, x_lastore, x_aastore, x_arraylength, x_getstatic, x_goto, x_goto_w, x_ifCond, x_if_icmp, x_ifnull, x_ifnonnull, x_lookupswitch, x_invokevirtual, x_invokestatic, x_invokedynamic, x_ireturn, x_freturn, x_dreturn, x_lreturn, x_areturn, x_return_, pI_c, pL_c, pR_c, pV_i, pV_r, gI_c, gL_c, gR_c, pN_z, pN_s, lget_c, lins_z, lins_c, ldel_z, ldel_c, ldel2_z, ldel2_c, lset_i, lset_l, lset_r, lkeep_z, lkeep_c, largs_z, largs_c, cat_i, cat_l, cat_r, lkp_c, cnd_eq, cnd_ne, cnd_lt, cnd_ge, cnd_gt, cnd_le, swL_z, swL_c, rE_e, rOr_s, rOr_n, rlk_z, rlk_c, aR_c, aI_c, aII_c, aIII_c, aRI_c, aRII_c, aRIII_c, vJn, vJs, vlc, aRR_c, aRRI_c, aRRII_c, aRRIII_c, aRIIII_c, aRL_c, aRLL_c, aLL_c, aRRRI_c, aIL_c, aIIII_c, aRRIIII_c, aIRII_c, aIR_c, aLI_c, aRIR_c, aRIIR_c, oM, hM, mpHere, mpFault, hP, hp, hw, hne]
    exact K
