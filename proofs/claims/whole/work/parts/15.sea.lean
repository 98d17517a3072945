/-! StruckColours$Sea: what is read -/
def SeaT (t : Tau) (a : Int) : Prop := isO t a 5 ∧ finOf t a 3 = a + 1 ∧ finOf t a 4 = a + 2 ∧ finOf t a 5 = a + 3 ∧ finOf t a 6 = a + 4 ∧ finOf t a 7 = a + 5 ∧ finOf t a 8 = a + 6 ∧
  isT t (a + 1) 0 ∧ isT t (a + 2) 0 ∧ isT t (a + 3) 0 ∧ isT t (a + 4) 0 ∧ isT t (a + 5) 0 ∧ isT t (a + 6) 0 ∧ lenOf t (a + 1) = 6 ∧ lenOf t (a + 2) = 6 ∧ lenOf t (a + 3) = 6 ∧ lenOf t (a + 4) = 6 ∧ lenOf t (a + 5) = 6 ∧ lenOf t (a + 6) = 24
abbrev hsB (σ : Mem) (a s : Int) : Prop := 0 ≤ s ∧ s < σ a 0 ∧ s < 6
def spHas : Sp := fun as t σ Q => aRI as fun a s => SeaT t a ∧ Q (some (vI (if hsB σ a s then 1 else 0))) t σ
theorem c_has {l : Launch} {g : GE} {d : Nat} {t : Tau} {σ : Mem} {Q : Post} {as : List TV} (h : spHas as t σ Q) : WPc l g 41 (d + 1) 0 0 as t σ Q := by
  obtain ⟨a, s, rfl, hs, h⟩ := aRI_e h
  obtain ⟨o, f1, f2, f3, f4, f5, f6, t1, t2, t3, t4, t5, t6, l1, l2, l3, l4, l5, l6⟩ := hs
  refine wp_go (by decide) rE_nil tk_41 py_41 ml_41 30 (by simp [catT]) ?_
  simp [bl_41, vcl_c, ex1, pI, pR, pL, pV, gI, gR, gL', pN, lget, lset, lins, ldel, ldel2, lkeep, largs, catT, vcN_s, vcJ_n, vcJ_s, lkp, cnd, swL, rE, rOr, rlk, aR, aI, aII, aIII, aRI, aRII, aRIII, o]
  grind
def spSide : Sp := fun as t σ Q => aI as fun s => Q (some (vI (if 0 ≤ s ∧ s < 4 then 1 else 0))) t σ
theorem c_isSide {l : Launch} {g : GE} {d : Nat} {t : Tau} {σ : Mem} {Q : Post} {as : List TV} (h : spSide as t σ Q) : WPc l g 144 (d + 1) 0 0 as t σ Q := by
  obtain ⟨s, rfl, h⟩ := aI_e h
  refine wp_go (by decide) rE_nil tk_144 py_144 ml_144 30 (by simp [catT]) ?_
  simp [bl_144, vcl_c, ex1, pI, pR, pL, pV, gI, gR, gL', pN, lget, lset, lins, ldel, ldel2, lkeep, largs, catT, vcN_s, vcJ_n, vcJ_s, lkp, cnd, swL, rE, rOr, rlk, aR, aI, aII, aIII, aRI, aRII, aRIII]
  grind
abbrev reg1 : Reg := [(41, spHas), (144, spSide)]
theorem reg1_ok {l : Launch} {g : GE} {d : Nat} : ∀ e as t σ Q, rE l g (d + 1) reg1 e as t σ Q → WPc l g e (d + 1) 0 0 as t σ Q :=
  rE_cons (fun _ _ _ _ h => c_has h) (rE_cons (fun _ _ _ _ h => c_isSide h) rE_nil)
def spIsPair : Sp := fun as t σ Q => aRII as fun a s r => SeaT t a ∧ Q (some (vI (if hsB σ a s ∧ hsB σ a r ∧ s ≠ r then 1 else 0))) t σ
theorem c_isPair {l : Launch} {g : GE} {d : Nat} {t : Tau} {σ : Mem} {Q : Post} {as : List TV} (h : spIsPair as t σ Q) : WPc l g 42 (d + 2) 0 0 as t σ Q := by
  obtain ⟨a, s, r, rfl, hs, h⟩ := aRII_e h
  have hs' := hs
  obtain ⟨o, f1, f2, f3, f4, f5, f6, t1, t2, t3, t4, t5, t6, l1, l2, l3, l4, l5, l6⟩ := hs
  refine wp_go (by decide) reg1_ok tk_42 py_42 ml_42 30 (by simp [catT]) ?_
  simp [bl_42, vcl_c, ex1, pI, pR, pL, pV, gI, gR, gL', pN, lget, lset, lins, ldel, ldel2, lkeep, largs, catT, vcN_s, vcJ_n, vcJ_s, lkp, cnd, swL, rE, rOr, rlk, aR, aI, aII, aIII, aRI, aRII, aRIII, spHas, o, hs']
  grind
/-- a field of a ship, or w -/
def spOf (k : Int) (w : Int) : Sp := fun as t σ Q => aRI as fun a s => SeaT t a ∧ Q (some (vI (if hsB σ a s then σ (a + k) s else w))) t σ
theorem c_mightOf {l : Launch} {g : GE} {d : Nat} {t : Tau} {σ : Mem} {Q : Post} {as : List TV} (h : spOf 1 0 as t σ Q) : WPc l g 43 (d + 2) 0 0 as t σ Q := by
  obtain ⟨a, s, rfl, hs, h⟩ := aRI_e h
  have hs' := hs
  obtain ⟨o, f1, f2, f3, f4, f5, f6, t1, t2, t3, t4, t5, t6, l1, l2, l3, l4, l5, l6⟩ := hs
  refine wp_go (by decide) reg1_ok tk_43 py_43 ml_43 30 (by simp [catT]) ?_
  simp [bl_43, vcl_c, ex1, pI, pR, pL, pV, gI, gR, gL', pN, lget, lset, lins, ldel, ldel2, lkeep, largs, catT, vcN_s, vcJ_n, vcJ_s, lkp, cnd, swL, rE, rOr, rlk, aR, aI, aII, aIII, aRI, aRII, aRIII, spHas, o, hs', f1, t1, l1]
  grind
theorem c_strengthOf {l : Launch} {g : GE} {d : Nat} {t : Tau} {σ : Mem} {Q : Post} {as : List TV} (h : spOf 2 0 as t σ Q) : WPc l g 44 (d + 2) 0 0 as t σ Q := by
  obtain ⟨a, s, rfl, hs, h⟩ := aRI_e h
  have hs' := hs
  obtain ⟨o, f1, f2, f3, f4, f5, f6, t1, t2, t3, t4, t5, t6, l1, l2, l3, l4, l5, l6⟩ := hs
  refine wp_go (by decide) reg1_ok tk_44 py_44 ml_44 30 (by simp [catT]) ?_
  simp [bl_44, vcl_c, ex1, pI, pR, pL, pV, gI, gR, gL', pN, lget, lset, lins, ldel, ldel2, lkeep, largs, catT, vcN_s, vcJ_n, vcJ_s, lkp, cnd, swL, rE, rOr, rlk, aR, aI, aII, aIII, aRI, aRII, aRIII, spHas, o, hs', f2, t2, l2]
  grind
theorem c_sideOf {l : Launch} {g : GE} {d : Nat} {t : Tau} {σ : Mem} {Q : Post} {as : List TV} (h : spOf 3 (-1) as t σ Q) : WPc l g 45 (d + 2) 0 0 as t σ Q := by
  obtain ⟨a, s, rfl, hs, h⟩ := aRI_e h
  have hs' := hs
  obtain ⟨o, f1, f2, f3, f4, f5, f6, t1, t2, t3, t4, t5, t6, l1, l2, l3, l4, l5, l6⟩ := hs
  refine wp_go (by decide) reg1_ok tk_45 py_45 ml_45 30 (by simp [catT]) ?_
  simp [bl_45, vcl_c, ex1, pI, pR, pL, pV, gI, gR, gL', pN, lget, lset, lins, ldel, ldel2, lkeep, largs, catT, vcN_s, vcJ_n, vcJ_s, lkp, cnd, swL, rE, rOr, rlk, aR, aI, aII, aIII, aRI, aRII, aRIII, spHas, o, hs', f3, t3, l3]
  grind
theorem c_wonOf {l : Launch} {g : GE} {d : Nat} {t : Tau} {σ : Mem} {Q : Post} {as : List TV} (h : spOf 4 0 as t σ Q) : WPc l g 46 (d + 2) 0 0 as t σ Q := by
  obtain ⟨a, s, rfl, hs, h⟩ := aRI_e h
  have hs' := hs
  obtain ⟨o, f1, f2, f3, f4, f5, f6, t1, t2, t3, t4, t5, t6, l1, l2, l3, l4, l5, l6⟩ := hs
  refine wp_go (by decide) reg1_ok tk_46 py_46 ml_46 30 (by simp [catT]) ?_
  simp [bl_46, vcl_c, ex1, pI, pR, pL, pV, gI, gR, gL', pN, lget, lset, lins, ldel, ldel2, lkeep, largs, catT, vcN_s, vcJ_n, vcJ_s, lkp, cnd, swL, rE, rOr, rlk, aR, aI, aII, aIII, aRI, aRII, aRIII, spHas, o, hs', f4, t4, l4]
  grind
theorem c_lostOf {l : Launch} {g : GE} {d : Nat} {t : Tau} {σ : Mem} {Q : Post} {as : List TV} (h : spOf 5 0 as t σ Q) : WPc l g 47 (d + 2) 0 0 as t σ Q := by
  obtain ⟨a, s, rfl, hs, h⟩ := aRI_e h
  have hs' := hs
  obtain ⟨o, f1, f2, f3, f4, f5, f6, t1, t2, t3, t4, t5, t6, l1, l2, l3, l4, l5, l6⟩ := hs
  refine wp_go (by decide) reg1_ok tk_47 py_47 ml_47 30 (by simp [catT]) ?_
  simp [bl_47, vcl_c, ex1, pI, pR, pL, pV, gI, gR, gL', pN, lget, lset, lins, ldel, ldel2, lkeep, largs, catT, vcN_s, vcJ_n, vcJ_s, lkp, cnd, swL, rE, rOr, rlk, aR, aI, aII, aIII, aRI, aRII, aRIII, spHas, o, hs', f5, t5, l5]
  grind
def spParts : Sp := fun as t σ Q => aRII as fun a s f => SeaT t a ∧ Q (some (vI (if hsB σ a s ∧ 0 ≤ f ∧ f < 4 then σ (a + 6) (4 * s + f) else 0))) t σ
theorem c_parts {l : Launch} {g : GE} {d : Nat} {t : Tau} {σ : Mem} {Q : Post} {as : List TV} (h : spParts as t σ Q) : WPc l g 48 (d + 2) 0 0 as t σ Q := by
  obtain ⟨a, s, f, rfl, hs, h⟩ := aRII_e h
  have hs' := hs
  obtain ⟨o, f1, f2, f3, f4, f5, f6, t1, t2, t3, t4, t5, t6, l1, l2, l3, l4, l5, l6⟩ := hs
  refine wp_go (by decide) reg1_ok tk_48 py_48 ml_48 30 (by simp [catT]) ?_
  simp [bl_48, vcl_c, ex1, pI, pR, pL, pV, gI, gR, gL', pN, lget, lset, lins, ldel, ldel2, lkeep, largs, catT, vcN_s, vcJ_n, vcJ_s, lkp, cnd, swL, rE, rOr, rlk, aR, aI, aII, aIII, aRI, aRII, aRIII, spHas, spSide, o, hs', f6, t6, l6]
  refine ⟨fun z => ?_, fun z1 z2 z3 => ⟨fun y => ?_, fun y1 y2 => ?_⟩⟩
  · rwa [if_neg (by omega)] at h
  · rwa [if_neg (by omega)] at h
  · have e : w32 (w32 (s * 4) + f) = 4 * s + f := by unfold w32; omega
    rw [e]
    refine ⟨by omega, ?_⟩
    rwa [if_pos (by omega)] at h
abbrev reg2 : Reg := [(41, spHas), (144, spSide), (42, spIsPair), (43, spOf 1 0), (44, spOf 2 0), (45, spOf 3 (-1)), (46, spOf 4 0), (47, spOf 5 0), (48, spParts)]
theorem reg2_ok {l : Launch} {g : GE} {d : Nat} : ∀ e as t σ Q, rE l g (d + 2) reg2 e as t σ Q → WPc l g e (d + 2) 0 0 as t σ Q :=
  rE_cons (fun _ _ _ _ h => c_has h) (rE_cons (fun _ _ _ _ h => c_isSide h) (rE_cons (fun _ _ _ _ h => c_isPair h) (rE_cons (fun _ _ _ _ h => c_mightOf h) (rE_cons (fun _ _ _ _ h => c_strengthOf h) (rE_cons (fun _ _ _ _ h => c_sideOf h) (rE_cons (fun _ _ _ _ h => c_wonOf h) (rE_cons (fun _ _ _ _ h => c_lostOf h) (rE_cons (fun _ _ _ _ h => c_parts h) rE_nil))))))))
/-! JDK: max, min, abs -/
def spMax : Sp := fun as t σ Q => aII as fun a b => Q (some (vI (max a b))) t σ
theorem c_max {l : Launch} {g : GE} {d : Nat} {t : Tau} {σ : Mem} {Q : Post} {as : List TV} (h : spMax as t σ Q) : WPc l g 288 (d + 1) 0 0 as t σ Q := by
  obtain ⟨a, b, rfl, h⟩ := aII_e h
  refine wp_goF (by decide) rE_nil tk_288 py_288 ml_288 30 (by simp [catT]) ?_
  simp [bl_288, vcl_c, ex1, pI, pR, pL, pV, gI, gR, gL', pN, lget, lset, lins, ldel, ldel2, lkeep, largs, catT, vcN_s, vcJ_n, vcJ_s, lkp, cnd, swL, rE, rOr, rlk, aR, aI, aII, aIII, aRI, aRII, aRIII]
  grind
def spMin : Sp := fun as t σ Q => aII as fun a b => Q (some (vI (min a b))) t σ
theorem c_min {l : Launch} {g : GE} {d : Nat} {t : Tau} {σ : Mem} {Q : Post} {as : List TV} (h : spMin as t σ Q) : WPc l g 289 (d + 1) 0 0 as t σ Q := by
  obtain ⟨a, b, rfl, h⟩ := aII_e h
  refine wp_goF (by decide) rE_nil tk_289 py_289 ml_289 30 (by simp [catT]) ?_
  simp [bl_289, vcl_c, ex1, pI, pR, pL, pV, gI, gR, gL', pN, lget, lset, lins, ldel, ldel2, lkeep, largs, catT, vcN_s, vcJ_n, vcJ_s, lkp, cnd, swL, rE, rOr, rlk, aR, aI, aII, aIII, aRI, aRII, aRIII]
  grind
def spAbs : Sp := fun as t σ Q => aI as fun a => Q (some (vI (if a < 0 then w32 (-a) else a))) t σ
theorem c_abs {l : Launch} {g : GE} {d : Nat} {t : Tau} {σ : Mem} {Q : Post} {as : List TV} (h : spAbs as t σ Q) : WPc l g 287 (d + 1) 0 0 as t σ Q := by
  obtain ⟨a, rfl, h⟩ := aI_e h
  refine wp_goF (by decide) rE_nil tk_287 py_287 ml_287 30 (by simp [catT]) ?_
  simp [bl_287, vcl_c, ex1, pI, pR, pL, pV, gI, gR, gL', pN, lget, lset, lins, ldel, ldel2, lkeep, largs, catT, vcN_s, vcJ_n, vcJ_s, lkp, cnd, swL, rE, rOr, rlk, aR, aI, aII, aIII, aRI, aRII, aRIII]
  grind
def spCompare : Sp := fun as t σ Q => aII as fun a b => Q (some (vI (if a < b then -1 else if a = b then 0 else 1))) t σ
theorem c_compare {l : Launch} {g : GE} {d : Nat} {t : Tau} {σ : Mem} {Q : Post} {as : List TV} (h : spCompare as t σ Q) : WPc l g 284 (d + 1) 0 0 as t σ Q := by
  obtain ⟨a, b, rfl, h⟩ := aII_e h
  refine wp_go (by decide) rE_nil tk_284 py_284 ml_284 30 (by simp [catT]) ?_
  simp [bl_284, vcl_c, ex1, pI, pR, pL, pV, gI, gR, gL', pN, lget, lset, lins, ldel, ldel2, lkeep, largs, catT, vcN_s, vcJ_n, vcJ_s, lkp, cnd, swL, rE, rOr, rlk, aR, aI, aII, aIII, aRI, aRII, aRIII]
  grind
abbrev regJ : Reg := [(288, spMax), (289, spMin), (287, spAbs), (284, spCompare)]
theorem regJ_ok {l : Launch} {g : GE} {d : Nat} {r : Reg} (hr : ∀ e as t σ Q, rE l g (d + 1) r e as t σ Q → WPc l g e (d + 1) 0 0 as t σ Q) : ∀ e as t σ Q, rE l g (d + 1) (regJ ++ r) e as t σ Q → WPc l g e (d + 1) 0 0 as t σ Q :=
  rE_cons (fun _ _ _ _ h => c_max h) (rE_cons (fun _ _ _ _ h => c_min h) (rE_cons (fun _ _ _ _ h => c_abs h) (rE_cons (fun _ _ _ _ h => c_compare h) hr)))
