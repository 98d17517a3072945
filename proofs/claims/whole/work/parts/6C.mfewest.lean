/-! the reference: fewest, goesOver, peace -/
theorem m_canBe {l : Launch} {g : GE} {d : Nat} : ∀ (r : Nat) (as : List TV) (t : Tau) (σ : Mem) (Q : Post), mpCb r as t σ Q → WPc l g 241 (d + 93 + r) 0 0 as t σ Q
  | 0, _, _, _, _, h => m_canBe0 h
  | r + 1, _, _, _, _, h => m_canBeS (m_canBe r) h
def mpCbA : Sp := fun as t σ Q => aRIIII as fun a k m s f => k = 0 ∧ (0 ≤ m ∧ m ≤ 3) ∧ mpCb m.toNat [vR a, vI k, vI m, vI s, vI f] t σ Q
theorem m_canBeA {l : Launch} {g : GE} {d : Nat} {t : Tau} {σ : Mem} {Q : Post} {as : List TV} (h0 : mpCbA as t σ Q) : WPc l g 241 (d + 96) 0 0 as t σ Q := by
  obtain ⟨a, k, m, s, f, rfl, rfl, hm, h⟩ := aRIIII_e h0
  have := m_canBe (l := l) (g := g) (d := d + 3 - m.toNat) m.toNat _ t σ Q h
  rwa [show d + 3 - m.toNat + 93 + m.toNat = d + 96 by omega] at this
noncomputable def fewM (s f k : Int) (F : (Int → Int) → Int) (n : Nat) (V : Int → Int) : Nat → Nat → Option (Nat × List Int)
  | 0, _ => none
  | q + 1, m => match cbe s f k F n m V with
    | some L => some (m, L)
    | none => fewM s f k F n V q (m + 1)
theorem cbe_len {s f k : Int} {F : (Int → Int) → Int} {n : Nat} : ∀ (r : Nat) (V : Int → Int) (L : List Int), cbe s f k F n r V = some L → L.length = 2 * r
  | 0, V, L, h => by
    unfold cbe at h
    split at h
    · cases h; rfl
    · cases h
  | r + 1, V, L, h => by
    unfold cbe at h
    refine pI2_some (P := fun L => L.length = 2 * (r + 1)) (fun i j L hL => ?_) n 0 L h
    unfold cbS at hL
    split at hL
    · split at hL
      · rename_i L' hL'
        cases hL
        have := cbe_len r _ L' hL'
        simp; omega
      · cases hL
    · cases hL
def rwP (O : Option (Nat × List Int)) (σ σ' : Mem) : Prop := match O with
  | none => σ' 175 7 = σ 175 7 ∧ σ' 179 = σ 179
  | some (_, L) => rmIs σ' L
def mpFew : Sp := fun as t σ Q => aRII as fun a s f => a = 175 ∧ (s = -1 ∨ (0 ≤ s ∧ s < 6)) ∧ ∃ F, MR t σ F ∧ MK t σ ∧ (1 ≤ σ 175 2 ∧ σ 175 2 ≤ 6) ∧ ∀ σ', QFM σ σ' → σ' 175 8 = σ 175 8 → rwP (fewM s f (σ 175 2) F (nM σ) (vA σ 176) 4 0) σ σ' → Q (some (vI (ftP (fewM s f (σ 175 2) F (nM σ) (vA σ 176) 4 0)).1)) t σ'
abbrev rgFe : Reg := (241, mpCbA) :: rgMw
theorem rgFe_ok {l : Launch} {g : GE} {d : Nat} : ∀ e as t σ Q, rE l g (d + 96) rgFe e as t σ Q → WPc l g e (d + 96) 0 0 as t σ Q := rE_cons (fun _ _ _ _ h => m_canBeA h) (rgMw_ok (d := d + 4))
set_option maxHeartbeats 1000000 in
theorem m_fewest {l : Launch} {g : GE} {d : Nat} {t : Tau} {σ : Mem} {Q : Post} {as : List TV} (h0 : mpFew as t σ Q) : WPc l g 242 (d + 97) 0 0 as t σ Q := by
  obtain ⟨a, s, f, rfl, rfl, hs, F, hR, ⟨hM, hW⟩, hT, h⟩ := aRII_e h0
  clear h0
  generalize hn : nM σ = n at h hW
  generalize hV : vA σ 176 = V at h hW
  have E : ∀ (m : Nat) (L : List Int) (σ' : Mem), m ≤ 3 → L.length = 2 * m → fewM s f (σ 175 2) F n V 4 0 = some (m, L) → QFM σ σ' → σ' 175 8 = σ 175 8 → LnIs σ' 0 L → rmIs σ' (L.take 0) → Wp l g 242 (d + 97) 0 0 41 [(0, vR 175), (3, vI m), (4, vI (0 : Nat))] [] t σ' Q := by
    intro m L σ' hm hl he q1 q8 hL hr
    rw [he] at h
    have w1 : w32 (2 * (m : Int)) = 2 * m := w32_id (by omega) (by omega)
    have K : ∀ σ', QFM σ σ' → σ' 175 8 = σ 175 8 → LnIs σ' 0 L → rmIs σ' (L.take 0) → Wp l g 242 (d + 97) 0 0 41 [(0, vR 175), (3, vI m), (4, vI (0 : Nat))] [] t σ' Q := by
      refine lpU (P := fun i => ∀ σ', QFM σ σ' → σ' 175 8 = σ 175 8 → LnIs σ' 0 L → rmIs σ' (L.take i) → Wp l g 242 (d + 97) 0 0 41 [(0, vR 175), (3, vI m), (4, vI i)] [] t σ' Q) (n := L.length) ?_ (fun i hi K σ' q1 q8 hL hr => ?_)
      · intro σ' q1 q8 hL hr
        rw [List.take_length] at hr
        refine wa (by decide) rgFe_ok tk_242 30 (fun N hN => ?_)
        simp [bl_242, hN _, x_iconst, x_ldc2_w, x_aconst_null, x_iload, x_lload, x_aload, x_istore, x_lstore, x_astore, x_iinc, x_iadd, x_isub, x_imul, x_idiv, x_irem, x_iand, x_ior, x_ixor, x_ishl, x_ishr, x_iushr, x_ineg, x_ladd, x_lsub, x_lmul, x_ldiv, x_lrem, x_lcmp, x_i2l, x_i2b, x_i2s, x_i2c, x_dup, x_pop, x_dup_x1, x_dup2, x_getfield, x_putfield, x_iaload, x_baload, x_saload, x_caload, x_daload, x_faload, x_laload, x_aaload, x_iastore, x_bastore, x_sastore, x_castore, x_lastore, x_aastore, x_arraylength, x_getstatic, x_goto, x_goto_w, x_ifCond, x_if_icmp, x_ifnull, x_ifnonnull, x_lookupswitch, x_invokevirtual, x_invokestatic, x_invokedynamic, x_ireturn, x_freturn, x_dreturn, x_lreturn, x_areturn, x_return_, pI_c, pL_c, pR_c, pV_i, pV_r, gI_c, gL_c, gR_c, pN_z, pN_s, lget_c, lins_z, lins_c, ldel_z, ldel_c, ldel2_z, ldel2_c, lset_i, lset_l, lset_r, lkeep_z, lkeep_c, largs_z, largs_c, cat_i, cat_l, cat_r, lkp_c, cnd_eq, cnd_ne, cnd_lt, cnd_ge, cnd_gt, cnd_le, swL_z, swL_c, rE_e, rOr_s, rOr_n, rlk_z, rlk_c, aR_c, aI_c, aII_c, aIII_c, aRI_c, aRII_c, aRIII_c, vJn, vJs, vlc, aRR_c, aRRI_c, aRRII_c, aRRIII_c, aRIIII_c, aRL_c, aRLL_c, aLL_c, aRRRI_c, aIL_c, aIIII_c, aRRIIII_c, aIRII_c, aIR_c, aLI_c, aRIR_c, aRIIR_c, w1, hl]
        exact h σ' q1 q8 hr
      · have i1 : ¬ 2 * (m : Int) ≤ i := by omega
        have e2 := w32_succ (k := i) (by omega)
        have hl2 : (L.take i).length = i := by simp; omega
        have a1 : σ' 175 7 = i := by rw [hr.1, hl2]
        have i6 : (i : Int) < 6 := by omega
        have i6n : i < 6 := by omega
        have x1 := hL i hi
        rw [show 2 * ((0 : Nat) : Int) + (i : Int) = i by omega] at x1
        have ht : L.take (i + 1) = L.take i ++ [L.getD i 0] := by rw [List.take_add_one]; simp [List.getElem?_eq_getElem hi]
        have K := K (up (up σ' 179 (σ' 175 7) (L.getD i 0)) 175 7 (σ' 175 7 + 1)) ((q1.up s179).up sf7) (by simp [up_ap, q8]) (fun x hx => by rw [up_ne (by omega), up_ne (by omega)]; exact hL x hx) (by rw [ht]; exact hr.add (by omega))
        rw [a1] at K
        refine wa (by decide) rgFe_ok tk_242 30 (fun N hN => ?_)
        simp [bl_242, hN _, x_iconst, x_ldc2_w, x_aconst_null, x_iload, x_lload, x_aload, x_istore, x_lstore, x_astore, x_iinc, x_iadd, x_isub, x_imul, x_idiv, x_irem, x_iand, x_ior, x_ixor, x_ishl, x_ishr, x_iushr, x_ineg, x_ladd, x_lsub, x_lmul, x_ldiv, x_lrem, x_lcmp, x_i2l, x_i2b, x_i2s, x_i2c, x_dup, x_pop, x_dup_x1, x_dup2, x_getfield, x_putfield, x_iaload, x_baload, x_saload, x_caload, x_daload, x_faload, x_laload, x_aaload, x_iastore, x_bastore, x_sastore, x_castore, x_lastore, x_aastore, x_arraylength, x_getstatic, x_goto, x_goto_w, x_ifCond, x_if_icmp, x_ifnull, x_ifnonnull, x_lookupswitch, x_invokevirtual, x_invokestatic, x_invokedynamic, x_ireturn, x_freturn, x_dreturn, x_lreturn, x_areturn, x_return_, pI_c, pL_c, pR_c, pV_i, pV_r, gI_c, gL_c, gR_c, pN_z, pN_s, lget_c, lins_z, lins_c, ldel_z, ldel_c, ldel2_z, ldel2_c, lset_i, lset_l, lset_r, lkeep_z, lkeep_c, largs_z, largs_c, cat_i, cat_l, cat_r, lkp_c, cnd_eq, cnd_ne, cnd_lt, cnd_ge, cnd_gt, cnd_le, swL_z, swL_c, rE_e, rOr_s, rOr_n, rlk_z, rlk_c, aR_c, aI_c, aII_c, aIII_c, aRI_c, aRII_c, aRIII_c, vJn, vJs, vlc, aRR_c, aRRI_c, aRRII_c, aRRIII_c, aRIIII_c, aRL_c, aRLL_c, aLL_c, aRRRI_c, aIL_c, aIIII_c, aRRIIII_c, aIRII_c, aIR_c, aLI_c, aRIR_c, aRIIR_c, hM.1.o, hM.1, hM.1.f26, hM.1.t189, hM.1.l189, w1, e2, mpTell, i6, i6n, x1, a1]
        refine ⟨fun z => by omega, fun _ => ⟨by omega, ?_⟩⟩
        simpa using K
    exact K σ' q1 q8 hL hr
  have O : ∀ (q m : Nat) (σ' : Mem), m + q = 4 → CbF σ σ' 0 ∨ True → QFM σ σ' → σ' 175 7 = σ 175 7 → σ' 179 = σ 179 → σ' 175 8 = σ 175 8 → sgA (σ' 188) 0 = V → fewM s f (σ 175 2) F n V 4 0 = fewM s f (σ 175 2) F n V q m → Wp l g 242 (d + 97) 0 0 14 [(0, vR 175), (1, vI s), (2, vI f), (3, vI m)] [] t σ' Q := by
    intro q
    induction q with
    | zero =>
      intro m σ' hm _ q1 q7 q9 q8 hv he
      obtain rfl : m = 4 := by omega
      have he : fewM s f (σ 175 2) F n V 4 0 = none := he
      rw [he] at h
      refine wa (by decide) rgFe_ok tk_242 30 (fun N hN => ?_)
      simp [bl_242, hN _, x_iconst, x_ldc2_w, x_aconst_null, x_iload, x_lload, x_aload, x_istore, x_lstore, x_astore, x_iinc, x_iadd, x_isub, x_imul, x_idiv, x_irem, x_iand, x_ior, x_ixor, x_ishl, x_ishr, x_iushr, x_ineg, x_ladd, x_lsub, x_lmul, x_ldiv, x_lrem, x_lcmp, x_i2l, x_i2b, x_i2s, x_i2c, x_dup, x_pop, x_dup_x1, x_dup2, x_getfield, x_putfield, x_iaload, x_baload, x_saload, x_caload, x_daload, x_faload, x_laload, x_aaload, x_iastore, x_bastore, x_sastore, x_castore, x_lastore, x_aastore, x_arraylength, x_getstatic, x_goto, x_goto_w, x_ifCond, x_if_icmp, x_ifnull, x_ifnonnull, x_lookupswitch, x_invokevirtual, x_invokestatic, x_invokedynamic, x_ireturn, x_freturn, x_dreturn, x_lreturn, x_areturn, x_return_, pI_c, pL_c, pR_c, pV_i, pV_r, gI_c, gL_c, gR_c, pN_z, pN_s, lget_c, lins_z, lins_c, ldel_z, ldel_c, ldel2_z, ldel2_c, lset_i, lset_l, lset_r, lkeep_z, lkeep_c, largs_z, largs_c, cat_i, cat_l, cat_r, lkp_c, cnd_eq, cnd_ne, cnd_lt, cnd_ge, cnd_gt, cnd_le, swL_z, swL_c, rE_e, rOr_s, rOr_n, rlk_z, rlk_c, aR_c, aI_c, aII_c, aIII_c, aRI_c, aRII_c, aRIII_c, vJn, vJs, vlc, aRR_c, aRRI_c, aRRII_c, aRRIII_c, aRIIII_c, aRL_c, aRLL_c, aLL_c, aRRRI_c, aIL_c, aIIII_c, aRRIIII_c, aIRII_c, aIR_c, aLI_c, aRIR_c, aRIIR_c]
      exact h σ' q1 q8 ⟨q7, q9⟩
    | succ q ih =>
      intro m σ' hm _ q1 q7 q9 q8 hv he
      have e2 := w32_succ (k := m) (by omega)
      have m3 : ¬ (3 : Int) < m := by omega
      have m3n : ¬ 3 < m := by omega
      have m3a : (m : Int) ≤ 3 := by omega
      have m3b : m ≤ 3 := by omega
      have n1 : nM σ' = n := by rw [q1.n, hn]
      have e5 : σ' 175 2 = σ 175 2 := q1.2 2 (by unfold scrF; omega)
      have hfe : fewM s f (σ 175 2) F n V (q + 1) m = (match cbe s f (σ 175 2) F n m V with | some L => some (m, L) | none => fewM s f (σ 175 2) F n V q (m + 1)) := rfl
      rw [hfe] at he
      have cl := cbe_len (s := s) (f := f) (k := σ 175 2) (F := F) (n := n) m V
      refine wa (by decide) rgFe_ok ts_242 30 (fun N hN => ?_)
      simp [bs_242, hN _, x_iconst, x_ldc2_w, x_aconst_null, x_iload, x_lload, x_aload, x_istore, x_lstore, x_astore, x_iinc, x_iadd, x_isub, x_imul, x_idiv, x_irem, x_iand, x_ior, x_ixor, x_ishl, x_ishr, x_iushr, x_ineg, x_ladd, x_lsub, x_lmul, x_ldiv, x_lrem, x_lcmp, x_i2l, x_i2b, x_i2s, x_i2c, x_dup, x_pop, x_dup_x1, x_dup2, x_getfield, x_putfield, x_iaload, x_baload, x_saload, x_caload, x_daload, x_faload, x_laload, x_aaload, x_iastore, x_bastore, x_sastore, x_castore, x_lastore, x_aastore, x_arraylength, x_getstatic, x_goto, x_goto_w, x_ifCond, x_if_icmp, x_ifnull, x_ifnonnull, x_lookupswitch, x_invokevirtual, x_invokestatic, x_invokedynamic, x_ireturn, x_freturn, x_dreturn, x_lreturn, x_areturn, x_return_, pI_c, pL_c, pR_c, pV_i, pV_r, gI_c, gL_c, gR_c, pN_z, pN_s, lget_c, lins_z, lins_c, ldel_z, ldel_c, ldel2_z, ldel2_c, lset_i, lset_l, lset_r, lkeep_z, lkeep_c, largs_z, largs_c, cat_i, cat_l, cat_r, lkp_c, cnd_eq, cnd_ne, cnd_lt, cnd_ge, cnd_gt, cnd_le, swL_z, swL_c, rE_e, rOr_s, rOr_n, rlk_z, rlk_c, aR_c, aI_c, aII_c, aIII_c, aRI_c, aRII_c, aRIII_c, vJn, vJs, vlc, aRR_c, aRRI_c, aRRII_c, aRRIII_c, aRIIII_c, aRL_c, aRLL_c, aLL_c, aRRRI_c, aIL_c, aIIII_c, aRRIIII_c, aIRII_c, aIR_c, aLI_c, aRIR_c, aRIIR_c, hM.1.o, m3, m3n, m3a, m3b, mpCbA, mpCb, hs, n1, hv, e5]
      refine ⟨F, hR.cg q1.rs, q1.md hM, by rw [q1.m]; exact hW, hT, fun σ2 h2 => ?_⟩
      have p1 := q1.tr h2.q
      have p7 : σ2 175 7 = σ 175 7 := by rw [h2.2.1 7 (by omega) (by omega)]; exact q7
      have p8 : σ2 175 8 = σ 175 8 := by rw [h2.2.1 8 (by omega) (by omega)]; exact q8
      have p9 : σ2 179 = σ 179 := by rw [h2.1 179 (by omega) (by omega) (by omega) (by omega) (by omega)]; exact q9
      have pv : sgA (σ2 188) 0 = V := (h2.sg).trans hv
      cases hO : cbe s f (σ 175 2) F n m V with
      | none =>
        rw [hO] at he
        have K := ih (m + 1) σ2 (by omega) (Or.inr trivial) p1 p7 p9 p8 pv he
        show vcl _ _ _ _ _ _ _ _ _ _ _
        simp [sg_242_0_1, sg_242_14_1, sg_242_41_1, bs_242, hN _, x_iconst, x_ldc2_w, x_aconst_null, x_iload, x_lload, x_aload, x_istore, x_lstore, x_astore, x_iinc, x_iadd, x_isub, x_imul, x_idiv, x_irem, x_iand, x_ior, x_ixor, x_ishl, x_ishr, x_iushr, x_ineg, x_ladd, x_lsub, x_lmul, x_ldiv, x_lrem, x_lcmp, x_i2l, x_i2b, x_i2s, x_i2c, x_dup, x_pop, x_dup_x1, x_dup2, x_getfield, x_putfield, x_iaload, x_baload, x_saload, x_caload, x_daload, x_faload, x_laload, x_aaload, x_iastore, x_bastore, x_sastore, x_castore, x_lastore, x_aastore, x_arraylength, x_getstatic, x_goto, x_goto_w, x_ifCond, x_if_icmp, x_ifnull, x_ifnonnull, x_lookupswitch, x_invokevirtual, x_invokestatic, x_invokedynamic, x_ireturn, x_freturn, x_dreturn, x_lreturn, x_areturn, x_return_, pI_c, pL_c, pR_c, pV_i, pV_r, gI_c, gL_c, gR_c, pN_z, pN_s, lget_c, lins_z, lins_c, ldel_z, ldel_c, ldel2_z, ldel2_c, lset_i, lset_l, lset_r, lkeep_z, lkeep_c, largs_z, largs_c, cat_i, cat_l, cat_r, lkp_c, cnd_eq, cnd_ne, cnd_lt, cnd_ge, cnd_gt, cnd_le, swL_z, swL_c, rE_e, rOr_s, rOr_n, rlk_z, rlk_c, aR_c, aI_c, aII_c, aIII_c, aRI_c, aRII_c, aRIII_c, vJn, vJs, vlc, aRR_c, aRRI_c, aRRII_c, aRRIII_c, aRIIII_c, aRL_c, aRLL_c, aLL_c, aRRRI_c, aIL_c, aIIII_c, aRRIIII_c, aIRII_c, aIR_c, aLI_c, aRIR_c, aRIIR_c, e2]
        simpa using K
      | some L =>
        rw [hO] at he
        intro hL
        have K := E m L (up σ2 175 7 0) m3b (cl L hO) he (p1.up sf7) (by simp [up_ap, p8]) (fun x hx => by rw [up_ne (by omega)]; exact hL x hx) rmIs.nil
        show vcl _ _ _ _ _ _ _ _ _ _ _
        simp [sg_242_0_1, sg_242_14_1, sg_242_41_1, bs_242, hN _, x_iconst, x_ldc2_w, x_aconst_null, x_iload, x_lload, x_aload, x_istore, x_lstore, x_astore, x_iinc, x_iadd, x_isub, x_imul, x_idiv, x_irem, x_iand, x_ior, x_ixor, x_ishl, x_ishr, x_iushr, x_ineg, x_ladd, x_lsub, x_lmul, x_ldiv, x_lrem, x_lcmp, x_i2l, x_i2b, x_i2s, x_i2c, x_dup, x_pop, x_dup_x1, x_dup2, x_getfield, x_putfield, x_iaload, x_baload, x_saload, x_caload, x_daload, x_faload, x_laload, x_aaload, x_iastore, x_bastore, x_sastore, x_castore, x_lastore, x_aastore, x_arraylength, x_getstatic, x_goto, x_goto_w, x_ifCond, x_if_icmp, x_ifnull, x_ifnonnull, x_lookupswitch, x_invokevirtual, x_invokestatic, x_invokedynamic, x_ireturn, x_freturn, x_dreturn, x_lreturn, x_areturn, x_return_, pI_c, pL_c, pR_c, pV_i, pV_r, gI_c, gL_c, gR_c, pN_z, pN_s, lget_c, lins_z, lins_c, ldel_z, ldel_c, ldel2_z, ldel2_c, lset_i, lset_l, lset_r, lkeep_z, lkeep_c, largs_z, largs_c, cat_i, cat_l, cat_r, lkp_c, cnd_eq, cnd_ne, cnd_lt, cnd_ge, cnd_gt, cnd_le, swL_z, swL_c, rE_e, rOr_s, rOr_n, rlk_z, rlk_c, aR_c, aI_c, aII_c, aIII_c, aRI_c, aRII_c, aRIII_c, vJn, vJs, vlc, aRR_c, aRRI_c, aRRII_c, aRRIII_c, aRIIII_c, aRL_c, aRLL_c, aLL_c, aRRRI_c, aIL_c, aIIII_c, aRRIIII_c, aIRII_c, aIR_c, aLI_c, aRIR_c, aRIIR_c, hM.1.o]
        exact K
  refine wg (by decide) rgFe_ok ts_242 py_242 ml_242 30 (by simp [catT]) (fun N hN => ?_)
  simp [bs_242, hN _, x_iconst, x_ldc2_w, x_aconst_null, x_iload, x_lload, x_aload, x_istore, x_lstore, x_astore, x_iinc, x_iadd, x_isub, x_imul, x_idiv, x_irem, x_iand, x_ior, x_ixor, x_ishl, x_ishr, x_iushr, x_ineg, x_ladd, x_lsub, x_lmul, x_ldiv, x_lrem, x_lcmp, x_i2l, x_i2b, x_i2s, x_i2c, x_dup, x_pop, x_dup_x1, x_dup2, x_getfield, x_putfield, x_iaload, x_baload, x_saload, x_caload, x_daload, x_faload, x_laload, x_aaload, x_iastore, x_bastore, x_sastore, x_castore, x_lastore, x_aastore, x_arraylength, x_getstatic, x_goto, x_goto_w, x_ifCond, x_if_icmp, x_ifnull, x_ifnonnull, x_lookupswitch, x_invokevirtual, x_invokestatic, x_invokedynamic, x_ireturn, x_freturn, x_dreturn, x_lreturn, x_areturn, x_return_, pI_c, pL_c, pR_c, pV_i, pV_r, gI_c, gL_c, gR_c, pN_z, pN_s, lget_c, lins_z, lins_c, ldel_z, ldel_c, ldel2_z, ldel2_c, lset_i, lset_l, lset_r, lkeep_z, lkeep_c, largs_z, largs_c, cat_i, cat_l, cat_r, lkp_c, cnd_eq, cnd_ne, cnd_lt, cnd_ge, cnd_gt, cnd_le, swL_z, swL_c, rE_e, rOr_s, rOr_n, rlk_z, rlk_c, aR_c, aI_c, aII_c, aIII_c, aRI_c, aRII_c, aRIII_c, vJn, vJs, vlc, aRR_c, aRRI_c, aRRII_c, aRRIII_c, aRIIII_c, aRL_c, aRLL_c, aLL_c, aRRRI_c, aIL_c, aIIII_c, aRRIIII_c, aIRII_c, aIR_c, aLI_c, aRIR_c, aRIIR_c, hM.1.o, hM.1.f0, hM.1.f25, mpLay, RowT.now hM.1, hM.1.t188, hM.1.l188]
  intro σ1 y1 y2
  have q1 : QFM σ σ1 := ⟨fun o _ b => y1 o (fun z => b (by rw [z]; unfold scrM; omega)), fun j _ => by rw [y1 175 (by omega)]⟩
  have v1 : sgA (σ1 188) 0 = V := by
    rw [← hV]
    refine sgA_of (fun x x0 x1 => ?_)
    rw [y2, if_pos ⟨by omega, by omega⟩]
    congr 1; omega
  have K := O 4 0 σ1 (by omega) (Or.inr trivial) q1 (by rw [y1 175 (by omega)]) (y1 179 (by omega)) (by rw [y1 175 (by omega)]) v1 rfl
  simp [sg_242_0_1, hN _, x_iconst, x_ldc2_w, x_aconst_null, x_iload, x_lload, x_aload, x_istore, x_lstore, x_astore, x_iinc, x_iadd, x_isub, x_imul, x_idiv, x_irem, x_iand, x_ior, x_ixor, x_ishl, x_ishr, x_iushr, x_ineg, x_ladd, x_lsub, x_lmul, x_ldiv, x_lrem, x_lcmp, x_i2l, x_i2b, x_i2s, x_i2c, x_dup, x_pop, x_dup_x1, x_dup2, x_getfield, x_putfield, x_iaload, x_baload, x_saload, x_caload, x_daload, x_faload, x_laload, x_aaload, x_iastore, x_bastore, x_sastore, x_castore, x_lastore, x_aastore, x_arraylength, x_getstatic, x_goto, x_goto_w, x_ifCond, x_if_icmp, x_ifnull, x_ifnonnull, x_lookupswitch, x_invokevirtual, x_invokestatic, x_invokedynamic, x_ireturn, x_freturn, x_dreturn, x_lreturn, x_areturn, x_return_, pI_c, pL_c, pR_c, pV_i, pV_r, gI_c, gL_c, gR_c, pN_z, pN_s, lget_c, lins_z, lins_c, ldel_z, ldel_c, ldel2_z, ldel2_c, lset_i, lset_l, lset_r, lkeep_z, lkeep_c, largs_z, largs_c, cat_i, cat_l, cat_r, lkp_c, cnd_eq, cnd_ne, cnd_lt, cnd_ge, cnd_gt, cnd_le, swL_z, swL_c, rE_e, rOr_s, rOr_n, rlk_z, rlk_c, aR_c, aI_c, aII_c, aIII_c, aRI_c, aRII_c, aRIII_c, vJn, vJs, vlc, aRR_c, aRRI_c, aRRII_c, aRRIII_c, aRIIII_c, aRL_c, aRLL_c, aLL_c, aRRRI_c, aIL_c, aIIII_c, aRRIIII_c, aIRII_c, aIR_c, aLI_c, aRIR_c, aRIIR_c]
  exact K
abbrev rgPe : Reg := (242, mpFew) :: rgMw
theorem rgPe_ok {l : Launch} {g : GE} {d : Nat} : ∀ e as t σ Q, rE l g (d + 97) rgPe e as t σ Q → WPc l g e (d + 97) 0 0 as t σ Q := rE_cons (fun _ _ _ _ h => m_fewest h) (rgMw_ok (d := d + 5))
noncomputable def overMQ (F : (Int → Int) → Int) (n : Nat) (k : Int) (V : Int → Int) (s f : Int) : QA := if (0 ≤ s ∧ s < n) ∧ (0 ≤ f ∧ f < 4) then ftP (fewM s f k F n V 4 0) else (-1, none)
theorem few_fin {t : Tau} {σ σ' : Mem} {Q : Post} {O : Option (Nat × List Int)} (h : ansM (ftP O) t σ Q) (q : QFM (up σ 175 8 0) σ') (q8 : σ' 175 8 = up σ 175 8 0 175 8) (hr : rwP O (up σ 175 8 0) σ') : Q (some (vI (ftP O).1)) t σ' := by
  have q0 : QFM σ σ' := (QFM.rf.up sf8).tr q
  have q8' : σ' 175 8 = 0 := by rw [q8]; simp [up_ap]
  cases O with
  | none => exact h σ' ⟨q0, q8', by rw [hr.1]; simp [up_ap], by rw [hr.2]; exact up_ne (by omega)⟩
  | some p => exact h σ' ⟨q0, q8', hr⟩
theorem mr_up {t : Tau} {σ : Mem} {F : (Int → Int) → Int} {x : Int} (h : MR t σ F) : MR t (up σ 175 8 x) F := h.cg ⟨by simp [up_ap], by simp [up_ap], up_ne (by omega), up_ne (by omega)⟩
theorem mo_goesOver {l : Launch} {g : GE} {d : Nat} {t : Tau} {σ : Mem} {Q : Post} {s f : Int} {F : (Int → Int) → Int} (hk : MK t σ) (hR : MR t σ F) (hT : 1 ≤ σ 175 2 ∧ σ 175 2 ≤ 6) (h : ansM (overMQ F (nM σ) (σ 175 2) (vA σ 176) s f) t σ Q) : WPc l g 243 (d + 98) 0 0 [vR 175, vI s, vI f] t σ Q := by
  have hk8 : MK t (up σ 175 8 0) := by rw [mk_up (by omega) (by omega) (by omega)]; exact hk
  have hM8 := hk8.1
  have hM := hk.1
  have n6 := hM.2.2
  unfold overMQ at h
  by_cases hs : (0 ≤ s ∧ s < nM σ) ∧ (0 ≤ f ∧ f < 4)
  · rw [if_pos hs] at h
    obtain ⟨⟨s0, s1⟩, f0, f1⟩ := hs
    have s6 : s < 6 := by omega
    have e2 : up σ 175 8 0 175 2 = σ 175 2 := by simp [up_ap]
    refine wg (by decide) rgPe_ok ts_243 py_243 ml_243 30 (by simp [catT]) (fun N hN => ?_)
    simp [bs_243, hN _, x_iconst, x_ldc2_w, x_aconst_null, x_iload, x_lload, x_aload, x_istore, x_lstore, x_astore, x_iinc, x_iadd, x_isub, x_imul, x_idiv, x_irem, x_iand, x_ior, x_ixor, x_ishl, x_ishr, x_iushr, x_ineg, x_ladd, x_lsub, x_lmul, x_ldiv, x_lrem, x_lcmp, x_i2l, x_i2b, x_i2s, x_i2c, x_dup, x_pop, x_dup_x1, x_dup2, x_getfield, x_putfield, x_iaload, x_baload, x_saload, x_caload, x_daload, x_faload, x_laload, x_aaload, x_iastore, x_bastore, x_sastore, x_castore, x_lastore, x_aastore, x_arraylength, x_getstatic, x_goto, x_goto_w, x_ifCond, x_if_icmp, x_ifnull, x_ifnonnull, x_lookupswitch, x_invokevirtual, x_invokestatic, x_invokedynamic, x_ireturn, x_freturn, x_dreturn, x_lreturn, x_areturn, x_return_, pI_c, pL_c, pR_c, pV_i, pV_r, gI_c, gL_c, gR_c, pN_z, pN_s, lget_c, lins_z, lins_c, ldel_z, ldel_c, ldel2_z, ldel2_c, lset_i, lset_l, lset_r, lkeep_z, lkeep_c, largs_z, largs_c, cat_i, cat_l, cat_r, lkp_c, cnd_eq, cnd_ne, cnd_lt, cnd_ge, cnd_gt, cnd_le, swL_z, swL_c, rE_e, rOr_s, rOr_n, rlk_z, rlk_c, aR_c, aI_c, aII_c, aIII_c, aRI_c, aRII_c, aRIII_c, vJn, vJs, vlc, aRR_c, aRRI_c, aRRII_c, aRRIII_c, aRIIII_c, aRL_c, aRLL_c, aLL_c, aRRRI_c, aIL_c, aIIII_c, aRRIIII_c, aIRII_c, aIR_c, aLI_c, aRIR_c, aRIIR_c, hM.1.o, mpShip, mpSide, hM8, nM_up, s0, s1, f0, f1, mpFew, hk8, e2, hT, vA_up, s6]
    refine ⟨fun z => by omega, fun z => by omega, F, mr_up hR, fun σ' q q8 hr => ?_⟩
    have K := few_fin h q q8 hr
    simp [sg_243_0_1, bs_243, hN _, x_iconst, x_ldc2_w, x_aconst_null, x_iload, x_lload, x_aload, x_istore, x_lstore, x_astore, x_iinc, x_iadd, x_isub, x_imul, x_idiv, x_irem, x_iand, x_ior, x_ixor, x_ishl, x_ishr, x_iushr, x_ineg, x_ladd, x_lsub, x_lmul, x_ldiv, x_lrem, x_lcmp, x_i2l, x_i2b, x_i2s, x_i2c, x_dup, x_pop, x_dup_x1, x_dup2, x_getfield, x_putfield, x_iaload, x_baload, x_saload, x_caload, x_daload, x_faload, x_laload, x_aaload, x_iastore, x_bastore, x_sastore, x_castore, x_lastore, x_aastore, x_arraylength, x_getstatic, x_goto, x_goto_w, x_ifCond, x_if_icmp, x_ifnull, x_ifnonnull, x_lookupswitch, x_invokevirtual, x_invokestatic, x_invokedynamic, x_ireturn, x_freturn, x_dreturn, x_lreturn, x_areturn, x_return_, pI_c, pL_c, pR_c, pV_i, pV_r, gI_c, gL_c, gR_c, pN_z, pN_s, lget_c, lins_z, lins_c, ldel_z, ldel_c, ldel2_z, ldel2_c, lset_i, lset_l, lset_r, lkeep_z, lkeep_c, largs_z, largs_c, cat_i, cat_l, cat_r, lkp_c, cnd_eq, cnd_ne, cnd_lt, cnd_ge, cnd_gt, cnd_le, swL_z, swL_c, rE_e, rOr_s, rOr_n, rlk_z, rlk_c, aR_c, aI_c, aII_c, aIII_c, aRI_c, aRII_c, aRIII_c, vJn, vJs, vlc, aRR_c, aRRI_c, aRRII_c, aRRIII_c, aRIIII_c, aRL_c, aRLL_c, aLL_c, aRRRI_c, aIL_c, aIIII_c, aRRIIII_c, aIRII_c, aIR_c, aLI_c, aRIR_c, aRIIR_c]
    exact K
  · rw [if_neg hs] at h
    have h := h _ QTM.rf
    refine wg (by decide) rgPe_ok tk_243 py_243 ml_243 30 (by simp [catT]) (fun N hN => ?_)
    simp [bl_243, hN _, x_iconst, x_ldc2_w, x_aconst_null, x_iload, x_lload, x_aload, x_istore, x_lstore, x_astore, x_iinc, x_iadd, x_isub, x_imul, x_idiv, x_irem, x_iand, x_ior, x_ixor, x_ishl, x_ishr, x_iushr, x_ineg, x_ladd, x_lsub, x_lmul, x_ldiv, x_lrem, x_lcmp, x_i2l, x_i2b, x_i2s, x_i2c, x_dup, x_pop, x_dup_x1, x_dup2, x_getfield, x_putfield, x_iaload, x_baload, x_saload, x_caload, x_daload, x_faload, x_laload, x_aaload, x_iastore, x_bastore, x_sastore, x_castore, x_lastore, x_aastore, x_arraylength, x_getstatic, x_goto, x_goto_w, x_ifCond, x_if_icmp, x_ifnull, x_ifnonnull, x_lookupswitch, x_invokevirtual, x_invokestatic, x_invokedynamic, x_ireturn, x_freturn, x_dreturn, x_lreturn, x_areturn, x_return_, pI_c, pL_c, pR_c, pV_i, pV_r, gI_c, gL_c, gR_c, pN_z, pN_s, lget_c, lins_z, lins_c, ldel_z, ldel_c, ldel2_z, ldel2_c, lset_i, lset_l, lset_r, lkeep_z, lkeep_c, largs_z, largs_c, cat_i, cat_l, cat_r, lkp_c, cnd_eq, cnd_ne, cnd_lt, cnd_ge, cnd_gt, cnd_le, swL_z, swL_c, rE_e, rOr_s, rOr_n, rlk_z, rlk_c, aR_c, aI_c, aII_c, aIII_c, aRI_c, aRII_c, aRIII_c, vJn, vJs, vlc, aRR_c, aRRI_c, aRRII_c, aRRIII_c, aRIIII_c, aRL_c, aRLL_c, aLL_c, aRRRI_c, aIL_c, aIIII_c, aRRIIII_c, aIRII_c, aIR_c, aLI_c, aRIR_c, aRIIR_c, hM.1.o, mpShip, mpSide, hM8, nM_up]
    grind
theorem mo_peace {l : Launch} {g : GE} {d : Nat} {t : Tau} {σ : Mem} {Q : Post} {F : (Int → Int) → Int} (hk : MK t σ) (hR : MR t σ F) (hT : 1 ≤ σ 175 2 ∧ σ 175 2 ≤ 6) (h : ansM (ftP (fewM (-1) 0 (σ 175 2) F (nM σ) (vA σ 176) 4 0)) t σ Q) : WPc l g 244 (d + 98) 0 0 [vR 175] t σ Q := by
  have hk8 : MK t (up σ 175 8 0) := by rw [mk_up (by omega) (by omega) (by omega)]; exact hk
  have hM := hk.1
  have e2 : up σ 175 8 0 175 2 = σ 175 2 := by simp [up_ap]
  refine wg (by decide) rgPe_ok ts_244 py_244 ml_244 30 (by simp [catT]) (fun N hN => ?_)
  simp [bs_244, hN _, x_iconst, x_ldc2_w, x_aconst_null, x_iload, x_lload, x_aload, x_istore, x_lstore, x_astore, x_iinc, x_iadd, x_isub, x_imul, x_idiv, x_irem, x_iand, x_ior, x_ixor, x_ishl, x_ishr, x_iushr, x_ineg, x_ladd, x_lsub, x_lmul, x_ldiv, x_lrem, x_lcmp, x_i2l, x_i2b, x_i2s, x_i2c, x_dup, x_pop, x_dup_x1, x_dup2, x_getfield, x_putfield, x_iaload, x_baload, x_saload, x_caload, x_daload, x_faload, x_laload, x_aaload, x_iastore, x_bastore, x_sastore, x_castore, x_lastore, x_aastore, x_arraylength, x_getstatic, x_goto, x_goto_w, x_ifCond, x_if_icmp, x_ifnull, x_ifnonnull, x_lookupswitch, x_invokevirtual, x_invokestatic, x_invokedynamic, x_ireturn, x_freturn, x_dreturn, x_lreturn, x_areturn, x_return_, pI_c, pL_c, pR_c, pV_i, pV_r, gI_c, gL_c, gR_c, pN_z, pN_s, lget_c, lins_z, lins_c, ldel_z, ldel_c, ldel2_z, ldel2_c, lset_i, lset_l, lset_r, lkeep_z, lkeep_c, largs_z, largs_c, cat_i, cat_l, cat_r, lkp_c, cnd_eq, cnd_ne, cnd_lt, cnd_ge, cnd_gt, cnd_le, swL_z, swL_c, rE_e, rOr_s, rOr_n, rlk_z, rlk_c, aR_c, aI_c, aII_c, aIII_c, aRI_c, aRII_c, aRIII_c, vJn, vJs, vlc, aRR_c, aRRI_c, aRRII_c, aRRIII_c, aRIIII_c, aRL_c, aRLL_c, aLL_c, aRRRI_c, aIL_c, aIIII_c, aRRIIII_c, aIRII_c, aIR_c, aLI_c, aRIR_c, aRIIR_c, hM.1.o, nM_up, mpFew, hk8, e2, hT, vA_up]
  refine ⟨F, mr_up hR, fun σ' q q8 hr => ?_⟩
  have K := few_fin h q q8 hr
  simp [sg_244_0_1, hN _, x_iconst, x_ldc2_w, x_aconst_null, x_iload, x_lload, x_aload, x_istore, x_lstore, x_astore, x_iinc, x_iadd, x_isub, x_imul, x_idiv, x_irem, x_iand, x_ior, x_ixor, x_ishl, x_ishr, x_iushr, x_ineg, x_ladd, x_lsub, x_lmul, x_ldiv, x_lrem, x_lcmp, x_i2l, x_i2b, x_i2s, x_i2c, x_dup, x_pop, x_dup_x1, x_dup2, x_getfield, x_putfield, x_iaload, x_baload, x_saload, x_caload, x_daload, x_faload, x_laload, x_aaload, x_iastore, x_bastore, x_sastore, x_castore, x_lastore, x_aastore, x_arraylength, x_getstatic, x_goto, x_goto_w, x_ifCond, x_if_icmp, x_ifnull, x_ifnonnull, x_lookupswitch, x_invokevirtual, x_invokestatic, x_invokedynamic, x_ireturn, x_freturn, x_dreturn, x_lreturn, x_areturn, x_return_, pI_c, pL_c, pR_c, pV_i, pV_r, gI_c, gL_c, gR_c, pN_z, pN_s, lget_c, lins_z, lins_c, ldel_z, ldel_c, ldel2_z, ldel2_c, lset_i, lset_l, lset_r, lkeep_z, lkeep_c, largs_z, largs_c, cat_i, cat_l, cat_r, lkp_c, cnd_eq, cnd_ne, cnd_lt, cnd_ge, cnd_gt, cnd_le, swL_z, swL_c, rE_e, rOr_s, rOr_n, rlk_z, rlk_c, aR_c, aI_c, aII_c, aIII_c, aRI_c, aRII_c, aRIII_c, vJn, vJs, vlc, aRR_c, aRRI_c, aRRII_c, aRRIII_c, aRIIII_c, aRL_c, aRLL_c, aLL_c, aRRRI_c, aIL_c, aIIII_c, aRRIIII_c, aIRII_c, aIR_c, aLI_c, aRIR_c, aRIIR_c]
  exact K
