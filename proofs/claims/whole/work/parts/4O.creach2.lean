/-! the search itself -/
abbrev OL : Type := Option (List Int)
def pJ (f : Nat → OL) (c : OL) : Nat → Nat → OL
  | 0, _ => c
  | q + 1, j => match f j with
    | some L => some L
    | none => pJ f c q (j + 1)
def pI2 (f : Nat → Nat → OL) : Nat → Nat → OL
  | 0, _ => none
  | q + 1, i => pJ (f i) (pI2 f q (i + 1)) q (i + 1)
noncomputable def srS (S : (Int → Int) → OL) (s : Int) (k : Int) (F : (Int → Int) → Int) (n r : Nat) (V : Int → Int) (i j : Nat) : OL := if useB s i j (r + 1) = true ∧ 0 ≤ winA F n V i j then (match S (fgtV F n k V i j) with
    | some L => some ((i : Int) :: (j : Int) :: L)
    | none => none) else none
noncomputable def srch (s f k : Int) (F : (Int → Int) → Int) (n : Nat) : Nat → (Int → Int) → OL
  | 0, V => if rchB s f n V then some [] else none
  | r + 1, V => if farB s f k n V (r + 1) then none else pI2 (srS (srch s f k F n r) s k F n r V) n 0
def SrF (σ σ' : Mem) (k : Nat) : Prop := (∀ o, (o < lvA (k + 1) ∨ 156 < o) → o ≠ 128 → o ≠ 170 → o ≠ 174 → σ' o = σ o) ∧ ∀ j, j < 2 * (k : Int) → σ' 128 j = σ 128 j
def StIs (σ : Mem) (k : Nat) (L : List Int) : Prop := ∀ i : Nat, i < L.length → σ 128 (2 * (k : Int) + i) = L.getD i 0
def srP (O : OL) (k : Nat) (t : Tau) (Q : Post) (σ : Mem) : Prop := match O with
  | none => Q (some (vI 0)) t σ
  | some L => StIs σ k L → Q (some (vI 1)) t σ
theorem SrF.rf {σ : Mem} {k : Nat} : SrF σ σ k := ⟨fun _ _ _ _ _ => rfl, fun _ _ => rfl⟩
theorem SrF.tr {σ σ' σ'' : Mem} {k : Nat} (h : SrF σ σ' k) (h' : SrF σ' σ'' k) : SrF σ σ'' k := ⟨fun o a b c e => (h'.1 o a b c e).trans (h.1 o a b c e), fun j hj => (h'.2 j hj).trans (h.2 j hj)⟩
theorem SrF.dn {σ σ' : Mem} {k : Nat} (h : SrF σ σ' (k + 1)) : SrF σ σ' k := ⟨fun o a b c e => h.1 o (by unfold lvA at a ⊢; omega) b c e, fun j hj => h.2 j (by omega)⟩
/-- what the search finds there -/
def SrOk (t : Tau) (σ : Mem) (F : (Int → Int) → Int) (k : Nat) : Prop := TC t ∧ LvOk σ ∧ SeaOk t σ (lvA k) ∧ AimOk (nS σ (lvA k)) (σ 126 4) (σ 126 5) ∧ (1 ≤ σ 126 3 ∧ σ 126 3 ≤ 6) ∧ (σ 126 2 = 167 ∨ σ 126 2 = 171) ∧ RuleIs t σ (σ 126 2) F
theorem SrF.ok {t : Tau} {σ σ' : Mem} {F : (Int → Int) → Int} {k : Nat} (h : SrF σ σ' k) (hk : k ≤ 3) (s : SrOk t σ F k) : SrOk t σ' F k ∧ nS σ' (lvA k) = nS σ (lvA k) ∧ mS σ' (lvA k) = mS σ (lvA k) ∧ vwS σ' (lvA k) = vwS σ (lvA k) ∧ σ' 126 = σ 126 := by
  obtain ⟨s1, s2, s3, s4, s5, s6, s7⟩ := s
  have e126 : σ' 126 = σ 126 := h.1 126 (by unfold lvA; omega) (by omega) (by omega) (by omega)
  have hh : ∀ o, lvA k ≤ o → o ≤ lvA k + 6 → σ' o = σ o := fun o a b => h.1 o (by unfold lvA at a b ⊢; omega) (by unfold lvA at a; omega) (by unfold lvA at b; omega) (by unfold lvA at b; omega)
  obtain ⟨q1, q2, q3⟩ := sea_cg hh
  refine ⟨⟨s1, fun k a b => by rw [h.1 127 (by unfold lvA; omega) (by omega) (by omega) (by omega)]; exact s2 k a b, seaok_cg hh s3, by rw [q1, e126]; exact s4, by rw [e126]; exact s5, by rw [e126]; exact s6, ?_⟩, q1, q2, q3, e126⟩
  rw [e126]
  exact s7.cg (h.1 _ (by rcases s6 with e | e <;> rw [e] <;> omega) (by rcases s6 with e | e <;> rw [e] <;> omega) (by rcases s6 with e | e <;> rw [e] <;> omega) (by rcases s6 with e | e <;> rw [e] <;> omega)) (h.1 _ (by rcases s6 with e | e <;> rw [e] <;> omega) (by rcases s6 with e | e <;> rw [e] <;> omega) (by rcases s6 with e | e <;> rw [e] <;> omega) (by rcases s6 with e | e <;> rw [e] <;> omega))
noncomputable abbrev srV (σ : Mem) (F : (Int → Int) → Int) (k r : Nat) : OL := srch (σ 126 4) (σ 126 5) (σ 126 3) F (nS σ (lvA k)) r (vwS σ (lvA k))
def hpReach (r : Nat) : Sp := fun as t σ Q => aRII as fun a k m => a = 126 ∧ (0 ≤ k ∧ m = k + r ∧ m ≤ 3) ∧ ∃ F, SrOk t σ F k.toNat ∧ ∀ σ', SrF σ σ' k.toNat → srP (srV σ F k.toNat r) k.toNat t Q σ'
abbrev rgRe : Reg := [(72, hpLevel), (75, hpReached), (76, hpFar), (77, hpUse), (78, hpGoes), (62, apWinner)]
theorem rgRe_ok {l : Launch} {g : GE} {d : Nat} : ∀ e as t σ Q, rE l g (d + 7) rgRe e as t σ Q → WPc l g e (d + 7) 0 0 as t σ Q := rE_cons (fun _ _ _ _ h => h_level h) <| rE_cons (fun _ _ _ _ h => h_reached h) <| rE_cons (fun _ _ _ _ h => h_far h) <| rE_cons (fun _ _ _ _ h => h_use h) <| rE_cons (fun _ _ _ _ h => h_goes h) <| rE_cons (fun _ _ _ _ h => a_winner h) rE_nil
theorem h_reach0 {l : Launch} {g : GE} {d : Nat} {t : Tau} {σ : Mem} {Q : Post} {as : List TV} (h0 : hpReach 0 as t σ Q) : WPc l g 74 (d + 8) 0 0 as t σ Q := by
  obtain ⟨a, k', m, rfl, rfl, ⟨k0, rfl, k3⟩, F, ⟨hC, hL, hs, hA, hkk, hr, hR⟩, h⟩ := aRII_e h0
  clear h0
  obtain ⟨k, rfl⟩ : ∃ n : Nat, k' = n := ⟨k'.toNat, by omega⟩
  simp only [Int.toNat_natCast] at hs hA h
  have h := h σ SrF.rf
  have k4 : (k : Int) < 4 := by omega
  have k4n : k < 4 := by omega
  have a1 : (129 : Int) + 7 * (k : Int) = lvA k := rfl
  have n1 : ¬ lvA k = -1 := by unfold lvA; omega
  unfold srP srV srch at h
  refine wg (by decide) rgRe_ok ts_74 py_74 ml_74 30 (by simp [catT]) (fun N hN => ?_)
  simp [bs_74, hN _, x_iconst, x_ldc2_w, x_aconst_null, x_iload, x_lload, x_aload, x_istore, x_lstore, x_astore, x_iinc, x_iadd, x_isub, x_imul, x_idiv, x_irem, x_iand, x_ior, x_ixor, x_ishl, x_ishr, x_iushr, x_ineg, x_ladd, x_lsub, x_lmul, x_ldiv, x_lrem, x_lcmp, x_i2l, x_i2b, x_i2s, x_i2c, x_dup, x_pop, x_dup_x1, x_dup2, x_getfield, x_putfield, x_iaload, x_baload, x_saload, x_caload, x_daload, x_faload, x_laload, x_aaload, x_iastore, x_bastore, x_sastore, x_castore, x_lastore, x_aastore, x_arraylength, x_getstatic, x_goto, x_goto_w, x_ifCond, x_if_icmp, x_ifnull, x_ifnonnull, x_lookupswitch, x_invokevirtual, x_invokestatic, x_invokedynamic, x_ireturn, x_freturn, x_dreturn, x_lreturn, x_areturn, x_return_, pI_c, pL_c, pR_c, pV_i, pV_r, gI_c, gL_c, gR_c, pN_z, pN_s, lget_c, lins_z, lins_c, ldel_z, ldel_c, ldel2_z, ldel2_c, lset_i, lset_l, lset_r, lkeep_z, lkeep_c, largs_z, largs_c, cat_i, cat_l, cat_r, lkp_c, cnd_eq, cnd_ne, cnd_lt, cnd_ge, cnd_gt, cnd_le, swL_z, swL_c, rE_e, rOr_s, rOr_n, rlk_z, rlk_c, aR_c, aI_c, aII_c, aIII_c, aRI_c, aRII_c, aRIII_c, vJn, vJs, vlc, aRR_c, aRRI_c, aRRII_c, aRRIII_c, aRIIII_c, aRL_c, aRLL_c, aLL_c, aRRRI_c, aIL_c, aIIII_c, aRRIIII_c, aIRII_c, aIR_c, aLI_c, aRIR_c, aRIIR_c, hC.o0, hC.f0_0, hC.f0_1, hC.f0_2, hC.f0_3, hC.f0_4, hC.f0_5, hC.f0_6, hC.f0_7, hC.f0_8, hC.f0_9, hC.f0_10, hC.f0_11, hC.o1, hC.f1, hC.t2, hC.l2, hC.o3, hC.f3, hC.t4, hC.l4, hC.s5, hC.s12, hC.s19, hC.s112, hC.s119, hC.o26, hC.f26, hC.t27, hC.l27, hC.s28, hC.o126, hC.f126_0, hC.f126_1, hC.t127, hC.l127, hC.t128, hC.l128, hC.s129, hC.n157, hC.n161, hC.o165, hC.f165, hC.t166, hC.l166, hC.r167, hC.r171, hC.q5, hC.q12, hC.q19, hC.q112, hC.q119, hC.a2, hC.a4, hC.a27, hC.a127, hC.a128, hC, hpLevel, hL, k4, k4n, a1, n1, hpReached, hs, hA]
  cases hc : rchB (σ 126 4) (σ 126 5) (nS σ (lvA k)) (vwS σ (lvA k))
  · rw [hc] at h
    simpa using h
  · rw [hc] at h
    have h : StIs σ k [] → Q (some (vI 1)) t σ := by simpa using h
    simpa using h (fun i hi => by simp at hi)
