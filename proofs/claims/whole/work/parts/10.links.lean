/-! links of fields and methods, by their places in the tables -/
def cnL : List String := ["StruckColours$Laws", "StruckColours$Notes", "StruckColours$Past", "StruckColours$Row", "StruckColours$Rule", "StruckColours$Sea", "StruckColours$Search", "StruckColours$Text", "StruckColours", "StruckColoursModel", "java/lang/Integer", "java/lang/Math", "StruckColoursLaw"]
def cn (i : Nat) : String := cnL.getD i ""
theorem in_t1 {w : Cond} {i : Nat} (h : tables_1_1[i]? = some w) : w ∈ tables_1 := List.mem_append_left _ (List.mem_of_getElem? h)
theorem in_t2 {w : Cond} {i : Nat} (h : tables_1_2[i]? = some w) : w ∈ tables_1 := List.mem_append_right _ (List.mem_append_left _ (List.mem_of_getElem? h))
theorem in_t3 {w : Cond} {i : Nat} (h : tables_1_3[i]? = some w) : w ∈ tables_1 := List.mem_append_right _ (List.mem_append_right _ (List.mem_append_left _ (List.mem_of_getElem? h)))
theorem in_t4 {w : Cond} {i : Nat} (h : tables_1_4[i]? = some w) : w ∈ tables_1 := List.mem_append_right _ (List.mem_append_right _ (List.mem_append_right _ (List.mem_append_left _ (List.mem_of_getElem? h))))
theorem in_t5 {w : Cond} {i : Nat} (h : tables_1_5[i]? = some w) : w ∈ tables_1 := List.mem_append_right _ (List.mem_append_right _ (List.mem_append_right _ (List.mem_append_right _ (List.mem_append_left _ (List.mem_of_getElem? h)))))
theorem in_t6 {w : Cond} {i : Nat} (h : tables_1_6[i]? = some w) : w ∈ tables_1 := List.mem_append_right _ (List.mem_append_right _ (List.mem_append_right _ (List.mem_append_right _ (List.mem_append_right _ (List.mem_append_left _ (List.mem_of_getElem? h))))))
theorem in_t7 {w : Cond} {i : Nat} (h : tables_1_7[i]? = some w) : w ∈ tables_1 := List.mem_append_right _ (List.mem_append_right _ (List.mem_append_right _ (List.mem_append_right _ (List.mem_append_right _ (List.mem_append_right _ (List.mem_of_getElem? h))))))
theorem in_lw {w : Cond} (h : w ∈ tables_1) : w ∈ lw_tbl := List.mem_append_right _ h
theorem in_sel {w : Cond} {i : Nat} (h : (k2_sels lw_privs)[i]? = some w) : w ∈ lw_tbl := List.mem_append_left _ (List.mem_of_getElem? h)
theorem mALL {w : Cond} (h : w ∈ tables_1) (hg : goodWord w = true) : inALL [w] = true := by
  unfold inALL
  simp only [List.all_cons, List.all_nil, Bool.and_true, Bool.and_eq_true, decide_eq_true_eq]
  exact ⟨in_lw h, hg⟩
theorem mSEL {w : Cond} (h : w ∈ lw_tbl) (hg : goodWord w = true) : inALL [w] = true := by
  unfold inALL
  simp only [List.all_cons, List.all_nil, Bool.and_true, Bool.and_eq_true, decide_eq_true_eq]
  exact ⟨h, hg⟩
theorem mALL2 {w w' : Cond} (h : inALL [w] = true) (h' : inALL [w'] = true) : inALL [w, w'] = true := by
  unfold inALL at h h' ⊢
  simp only [List.all_cons, List.all_nil, Bool.and_true] at h h' ⊢
  rw [h, h']
  rfl
theorem fLink_of {own : String} {idx ci k : Nat} {q : vw_C} (hq : vwCl[ci]? = some q) (h : Cond.fieldLink own idx (q.2.1 k).1 (q.2.1 k).2.1 (q.2.1 k).2.2.1 ∈ tables_1) : fLink own idx ci k = true := by
  unfold fLink
  rw [hq]
  simp only [Bool.and_eq_true, decide_eq_true_eq]
  exact ⟨in_lw h, rfl⟩
theorem fLinkN_of {own : String} {idx ci k : Nat} {q : vw_C} (hq : vwCl[ci]? = some q) (h : Cond.fieldLinkNest own idx (q.2.1 k).1 (q.2.1 k).2.1 (q.2.1 k).2.2.1 "StruckColours" ∈ tables_1) : fLinkN own idx ci k = true := by
  unfold fLinkN
  rw [hq]
  simp only [decide_eq_true_eq]
  exact h
def fOK (q : Nat × Nat × Nat × Nat) : Prop := fLink (cn q.1) q.2.1 q.2.2.1 q.2.2.2 = true ∨ fLinkN (cn q.1) q.2.1 q.2.2.1 q.2.2.2 = true
def ceB (e' n : Nat) : Prop := ((mN e').cls ≠ "java/lang/invoke/MethodHandle") ∧ ((mN e').cls ≠ "java/lang/invoke/VarHandle") ∧ ((parseMethodDescriptor (mN e').desc).map (fun d => d.parameters.length) = some n) ∧ mL e' ≤ 45 ∧ inALL [Cond.code (mN e') (mC e') (mL e') (mR e')] = true ∧ inALL [Cond.initialized (mN e').cls] = true
def ceV (e' : Nat) : Prop := inALL [Cond.instanceMethod (mN e')] = true ∧ inALL [Cond.selects (mN e').cls (mN e') (mN e')] = true
def ceS (e' : Nat) : Prop := inALL [Cond.static (mN e')] = true
def ceI (e' : Nat) : Prop := inALL [Cond.instanceMethod (mN e')] = true ∧ (mN e').name = "<init>" ∧ mR e' = none
theorem callOk_of {kind : Nat} {own : String} {idx e' n : Nat} (hb : ceB e' n) (hk : (kind = 0 ∨ kind = 1) ∧ ceV e' ∨ (kind = 2 ∨ kind = 3) ∧ ceS e' ∨ (kind = 4 ∨ kind = 5) ∧ ceI e') (hl : (kind % 2 = 0 ∧ inALL [Cond.methodLink own idx (mN e')] = true) ∨ (kind % 2 = 1 ∧ Cond.methodLinkNest own idx (mN e') "StruckColours" ∈ tables_1)) : callOk kind own idx e' n = true := by
  obtain ⟨h1, h2, h3, h4, h5, h6⟩ := hb
  unfold callOk
  simp only [Bool.and_eq_true, decide_eq_true_eq, ne_eq]
  refine ⟨⟨⟨⟨⟨⟨h1, h2⟩, h3⟩, h4⟩, mALL2 h5 h6⟩, ?_⟩, ?_⟩
  · rcases hk with ⟨hk, v⟩ | ⟨hk, v⟩ | ⟨hk, v⟩
    · rw [if_pos hk]; exact mALL2 v.1 v.2
    · rw [if_neg (by omega), if_pos hk]; exact v
    · rw [if_neg (by omega), if_neg (by omega)]
      simp only [Bool.and_eq_true, decide_eq_true_eq]
      exact ⟨⟨v.1, v.2.1⟩, v.2.2⟩
  · rcases hl with ⟨hk, v⟩ | ⟨hk, v⟩
    · rw [if_pos hk]; exact v
    · rw [if_neg (by omega)]; exact decide_eq_true v
/-- a call: the caller's class, the index, the method, its parameters, the kind -/
def cOK (q : Nat × Nat × Nat × Nat × Nat) : Prop := callOk q.2.2.2.2 (cn q.1) q.2.1 q.2.2.1 q.2.2.2.1 = true
set_option maxRecDepth 40000 in
theorem fl_0_9 : fOK (0, 9, 0, 0) := Or.inl (fLink_of rfl (in_t1 (i := 171) rfl))
set_option maxRecDepth 40000 in
theorem fl_0_17 : fOK (0, 17, 0, 1) := Or.inl (fLink_of rfl (in_t1 (i := 172) rfl))
set_option maxRecDepth 40000 in
theorem fl_0_21 : fOK (0, 21, 1, 3) := Or.inr (fLinkN_of rfl (in_t1 (i := 154) rfl))
set_option maxRecDepth 40000 in
theorem fl_1_9 : fOK (1, 9, 1, 0) := Or.inl (fLink_of rfl (in_t1 (i := 150) rfl))
set_option maxRecDepth 40000 in
theorem fl_1_15 : fOK (1, 15, 1, 1) := Or.inl (fLink_of rfl (in_t1 (i := 151) rfl))
set_option maxRecDepth 40000 in
theorem fl_1_18 : fOK (1, 18, 1, 2) := Or.inl (fLink_of rfl (in_t1 (i := 152) rfl))
set_option maxRecDepth 40000 in
theorem fl_1_21 : fOK (1, 21, 1, 3) := Or.inl (fLink_of rfl (in_t1 (i := 153) rfl))
set_option maxRecDepth 40000 in
theorem fl_2_11 : fOK (2, 11, 2, 0) := Or.inl (fLink_of rfl (in_t1 (i := 106) rfl))
set_option maxRecDepth 40000 in
theorem fl_2_18 : fOK (2, 18, 2, 2) := Or.inl (fLink_of rfl (in_t1 (i := 108) rfl))
set_option maxRecDepth 40000 in
theorem fl_2_22 : fOK (2, 22, 2, 1) := Or.inl (fLink_of rfl (in_t1 (i := 107) rfl))
set_option maxRecDepth 40000 in
theorem fl_3_7 : fOK (3, 7, 3, 0) := Or.inl (fLink_of rfl (in_t1 (i := 48) rfl))
set_option maxRecDepth 40000 in
theorem fl_3_13 : fOK (3, 13, 3, 1) := Or.inl (fLink_of rfl (in_t1 (i := 49) rfl))
set_option maxRecDepth 40000 in
theorem fl_4_9 : fOK (4, 9, 4, 0) := Or.inl (fLink_of rfl (in_t1 (i := 186) rfl))
set_option maxRecDepth 40000 in
theorem fl_4_15 : fOK (4, 15, 4, 1) := Or.inl (fLink_of rfl (in_t1 (i := 187) rfl))
set_option maxRecDepth 40000 in
theorem fl_4_19 : fOK (4, 19, 4, 2) := Or.inl (fLink_of rfl (in_t1 (i := 188) rfl))
set_option maxRecDepth 40000 in
theorem fl_4_22 : fOK (4, 22, 4, 3) := Or.inl (fLink_of rfl (in_t1 (i := 189) rfl))
set_option maxRecDepth 40000 in
theorem fl_4_26 : fOK (4, 26, 4, 4) := Or.inl (fLink_of rfl (in_t1 (i := 190) rfl))
set_option maxRecDepth 40000 in
theorem fl_4_29 : fOK (4, 29, 4, 5) := Or.inl (fLink_of rfl (in_t1 (i := 191) rfl))
set_option maxRecDepth 40000 in
theorem fl_4_32 : fOK (4, 32, 4, 6) := Or.inl (fLink_of rfl (in_t1 (i := 192) rfl))
set_option maxRecDepth 40000 in
theorem fl_4_35 : fOK (4, 35, 4, 7) := Or.inl (fLink_of rfl (in_t1 (i := 193) rfl))
set_option maxRecDepth 40000 in
theorem fl_4_38 : fOK (4, 38, 4, 8) := Or.inl (fLink_of rfl (in_t1 (i := 194) rfl))
set_option maxRecDepth 40000 in
theorem fl_4_116 : fOK (4, 116, 5, 1) := Or.inr (fLinkN_of rfl (in_t1 (i := 67) rfl))
set_option maxRecDepth 40000 in
theorem fl_5_9 : fOK (5, 9, 5, 3) := Or.inl (fLink_of rfl (in_t1 (i := 71) rfl))
set_option maxRecDepth 40000 in
theorem fl_5_15 : fOK (5, 15, 5, 4) := Or.inl (fLink_of rfl (in_t1 (i := 72) rfl))
set_option maxRecDepth 40000 in
theorem fl_5_18 : fOK (5, 18, 5, 5) := Or.inl (fLink_of rfl (in_t1 (i := 73) rfl))
set_option maxRecDepth 40000 in
theorem fl_5_21 : fOK (5, 21, 5, 6) := Or.inl (fLink_of rfl (in_t1 (i := 74) rfl))
set_option maxRecDepth 40000 in
theorem fl_5_24 : fOK (5, 24, 5, 7) := Or.inl (fLink_of rfl (in_t1 (i := 75) rfl))
set_option maxRecDepth 40000 in
theorem fl_5_27 : fOK (5, 27, 5, 8) := Or.inl (fLink_of rfl (in_t1 (i := 76) rfl))
set_option maxRecDepth 40000 in
theorem fl_5_30 : fOK (5, 30, 5, 0) := Or.inl (fLink_of rfl (in_t1 (i := 63) rfl))
set_option maxRecDepth 40000 in
theorem fl_5_34 : fOK (5, 34, 5, 1) := Or.inl (fLink_of rfl (in_t1 (i := 66) rfl))
set_option maxRecDepth 40000 in
theorem fl_5_37 : fOK (5, 37, 5, 2) := Or.inl (fLink_of rfl (in_t1 (i := 69) rfl))
set_option maxRecDepth 40000 in
theorem fl_6_11 : fOK (6, 11, 6, 0) := Or.inl (fLink_of rfl (in_t1 (i := 125) rfl))
set_option maxRecDepth 40000 in
theorem fl_6_17 : fOK (6, 17, 6, 1) := Or.inl (fLink_of rfl (in_t1 (i := 126) rfl))
set_option maxRecDepth 40000 in
theorem fl_6_22 : fOK (6, 22, 6, 2) := Or.inl (fLink_of rfl (in_t1 (i := 127) rfl))
set_option maxRecDepth 40000 in
theorem fl_6_26 : fOK (6, 26, 6, 3) := Or.inl (fLink_of rfl (in_t1 (i := 128) rfl))
set_option maxRecDepth 40000 in
theorem fl_6_30 : fOK (6, 30, 6, 4) := Or.inl (fLink_of rfl (in_t1 (i := 129) rfl))
set_option maxRecDepth 40000 in
theorem fl_6_33 : fOK (6, 33, 6, 5) := Or.inl (fLink_of rfl (in_t1 (i := 130) rfl))
set_option maxRecDepth 40000 in
theorem fl_6_56 : fOK (6, 56, 5, 0) := Or.inr (fLinkN_of rfl (in_t1 (i := 64) rfl))
set_option maxRecDepth 40000 in
theorem fl_7_9 : fOK (7, 9, 7, 0) := Or.inl (fLink_of rfl (in_t1 (i := 32) rfl))
set_option maxRecDepth 40000 in
theorem fl_7_15 : fOK (7, 15, 7, 1) := Or.inl (fLink_of rfl (in_t1 (i := 34) rfl))
set_option maxRecDepth 40000 in
theorem fl_8_10 : fOK (8, 10, 8, 0) := Or.inl (fLink_of rfl (in_t2 (i := 20) rfl))
set_option maxRecDepth 40000 in
theorem fl_8_19 : fOK (8, 19, 8, 1) := Or.inl (fLink_of rfl (in_t2 (i := 21) rfl))
set_option maxRecDepth 40000 in
theorem fl_8_26 : fOK (8, 26, 8, 2) := Or.inl (fLink_of rfl (in_t2 (i := 22) rfl))
set_option maxRecDepth 40000 in
theorem fl_8_30 : fOK (8, 30, 8, 3) := Or.inl (fLink_of rfl (in_t2 (i := 23) rfl))
set_option maxRecDepth 40000 in
theorem fl_8_33 : fOK (8, 33, 8, 4) := Or.inl (fLink_of rfl (in_t2 (i := 24) rfl))
set_option maxRecDepth 40000 in
theorem fl_8_39 : fOK (8, 39, 8, 5) := Or.inl (fLink_of rfl (in_t2 (i := 25) rfl))
set_option maxRecDepth 40000 in
theorem fl_8_43 : fOK (8, 43, 8, 6) := Or.inl (fLink_of rfl (in_t2 (i := 26) rfl))
set_option maxRecDepth 40000 in
theorem fl_8_46 : fOK (8, 46, 8, 7) := Or.inl (fLink_of rfl (in_t2 (i := 27) rfl))
set_option maxRecDepth 40000 in
theorem fl_8_52 : fOK (8, 52, 8, 8) := Or.inl (fLink_of rfl (in_t2 (i := 28) rfl))
set_option maxRecDepth 40000 in
theorem fl_8_59 : fOK (8, 59, 8, 9) := Or.inl (fLink_of rfl (in_t2 (i := 29) rfl))
set_option maxRecDepth 40000 in
theorem fl_8_63 : fOK (8, 63, 8, 10) := Or.inl (fLink_of rfl (in_t2 (i := 30) rfl))
set_option maxRecDepth 40000 in
theorem fl_8_69 : fOK (8, 69, 8, 11) := Or.inl (fLink_of rfl (in_t2 (i := 31) rfl))
set_option maxRecDepth 40000 in
theorem fl_8_76 : fOK (8, 76, 8, 12) := Or.inl (fLink_of rfl (in_t2 (i := 32) rfl))
set_option maxRecDepth 40000 in
theorem fl_8_80 : fOK (8, 80, 8, 13) := Or.inl (fLink_of rfl (in_t2 (i := 33) rfl))
set_option maxRecDepth 40000 in
theorem fl_8_83 : fOK (8, 83, 8, 14) := Or.inl (fLink_of rfl (in_t2 (i := 34) rfl))
set_option maxRecDepth 40000 in
theorem fl_8_95 : fOK (8, 95, 7, 1) := Or.inr (fLinkN_of rfl (in_t1 (i := 35) rfl))
set_option maxRecDepth 40000 in
theorem fl_8_121 : fOK (8, 121, 8, 15) := Or.inl (fLink_of rfl (in_t2 (i := 35) rfl))
set_option maxRecDepth 40000 in
theorem fl_8_173 : fOK (8, 173, 5, 0) := Or.inr (fLinkN_of rfl (in_t1 (i := 65) rfl))
set_option maxRecDepth 40000 in
theorem fl_8_224 : fOK (8, 224, 5, 2) := Or.inr (fLinkN_of rfl (in_t1 (i := 70) rfl))
set_option maxRecDepth 40000 in
theorem fl_8_231 : fOK (8, 231, 2, 2) := Or.inr (fLinkN_of rfl (in_t1 (i := 109) rfl))
set_option maxRecDepth 40000 in
theorem fl_8_289 : fOK (8, 289, 1, 3) := Or.inr (fLinkN_of rfl (in_t1 (i := 155) rfl))
set_option maxRecDepth 40000 in
theorem fl_8_301 : fOK (8, 301, 0, 1) := Or.inr (fLinkN_of rfl (in_t1 (i := 173) rfl))
set_option maxRecDepth 40000 in
theorem fl_8_321 : fOK (8, 321, 8, 16) := Or.inl (fLink_of rfl (in_t2 (i := 36) rfl))
set_option maxRecDepth 40000 in
theorem fl_8_334 : fOK (8, 334, 5, 1) := Or.inr (fLinkN_of rfl (in_t1 (i := 68) rfl))
set_option maxRecDepth 40000 in
theorem fl_8_340 : fOK (8, 340, 3, 1) := Or.inr (fLinkN_of rfl (in_t1 (i := 50) rfl))
set_option maxRecDepth 40000 in
theorem fl_8_363 : fOK (8, 363, 7, 0) := Or.inr (fLinkN_of rfl (in_t1 (i := 33) rfl))
set_option maxRecDepth 40000 in
theorem fl_9_9 : fOK (9, 9, 9, 0) := Or.inl (fLink_of rfl (in_t5 (i := 53) rfl))
set_option maxRecDepth 40000 in
theorem fl_9_13 : fOK (9, 13, 9, 2) := Or.inl (fLink_of rfl (in_t5 (i := 55) rfl))
set_option maxRecDepth 40000 in
theorem fl_9_17 : fOK (9, 17, 9, 3) := Or.inl (fLink_of rfl (in_t5 (i := 56) rfl))
set_option maxRecDepth 40000 in
theorem fl_9_20 : fOK (9, 20, 9, 4) := Or.inl (fLink_of rfl (in_t5 (i := 57) rfl))
set_option maxRecDepth 40000 in
theorem fl_9_24 : fOK (9, 24, 9, 6) := Or.inl (fLink_of rfl (in_t5 (i := 59) rfl))
set_option maxRecDepth 40000 in
theorem fl_9_28 : fOK (9, 28, 9, 14) := Or.inl (fLink_of rfl (in_t5 (i := 67) rfl))
set_option maxRecDepth 40000 in
theorem fl_9_31 : fOK (9, 31, 9, 15) := Or.inl (fLink_of rfl (in_t5 (i := 68) rfl))
set_option maxRecDepth 40000 in
theorem fl_9_34 : fOK (9, 34, 9, 16) := Or.inl (fLink_of rfl (in_t5 (i := 69) rfl))
set_option maxRecDepth 40000 in
theorem fl_9_37 : fOK (9, 37, 9, 19) := Or.inl (fLink_of rfl (in_t5 (i := 72) rfl))
set_option maxRecDepth 40000 in
theorem fl_9_40 : fOK (9, 40, 9, 20) := Or.inl (fLink_of rfl (in_t5 (i := 73) rfl))
set_option maxRecDepth 40000 in
theorem fl_9_43 : fOK (9, 43, 9, 22) := Or.inl (fLink_of rfl (in_t5 (i := 75) rfl))
set_option maxRecDepth 40000 in
theorem fl_9_46 : fOK (9, 46, 9, 23) := Or.inl (fLink_of rfl (in_t5 (i := 76) rfl))
set_option maxRecDepth 40000 in
theorem fl_9_49 : fOK (9, 49, 9, 24) := Or.inl (fLink_of rfl (in_t5 (i := 77) rfl))
set_option maxRecDepth 40000 in
theorem fl_9_52 : fOK (9, 52, 9, 25) := Or.inl (fLink_of rfl (in_t5 (i := 78) rfl))
set_option maxRecDepth 40000 in
theorem fl_9_55 : fOK (9, 55, 9, 26) := Or.inl (fLink_of rfl (in_t5 (i := 79) rfl))
set_option maxRecDepth 40000 in
theorem fl_9_58 : fOK (9, 58, 9, 27) := Or.inl (fLink_of rfl (in_t5 (i := 80) rfl))
set_option maxRecDepth 40000 in
theorem fl_9_61 : fOK (9, 61, 9, 28) := Or.inl (fLink_of rfl (in_t5 (i := 81) rfl))
set_option maxRecDepth 40000 in
theorem fl_9_64 : fOK (9, 64, 9, 29) := Or.inl (fLink_of rfl (in_t5 (i := 82) rfl))
set_option maxRecDepth 40000 in
theorem fl_9_67 : fOK (9, 67, 9, 31) := Or.inl (fLink_of rfl (in_t5 (i := 84) rfl))
set_option maxRecDepth 40000 in
theorem fl_9_70 : fOK (9, 70, 9, 32) := Or.inl (fLink_of rfl (in_t5 (i := 85) rfl))
set_option maxRecDepth 40000 in
theorem fl_9_73 : fOK (9, 73, 9, 35) := Or.inl (fLink_of rfl (in_t5 (i := 88) rfl))
set_option maxRecDepth 40000 in
theorem fl_9_77 : fOK (9, 77, 9, 38) := Or.inl (fLink_of rfl (in_t5 (i := 91) rfl))
set_option maxRecDepth 40000 in
theorem fl_9_80 : fOK (9, 80, 9, 39) := Or.inl (fLink_of rfl (in_t5 (i := 92) rfl))
set_option maxRecDepth 40000 in
theorem fl_9_83 : fOK (9, 83, 9, 40) := Or.inl (fLink_of rfl (in_t5 (i := 93) rfl))
set_option maxRecDepth 40000 in
theorem fl_9_86 : fOK (9, 86, 9, 8) := Or.inl (fLink_of rfl (in_t5 (i := 61) rfl))
set_option maxRecDepth 40000 in
theorem fl_9_89 : fOK (9, 89, 9, 7) := Or.inl (fLink_of rfl (in_t5 (i := 60) rfl))
set_option maxRecDepth 40000 in
theorem fl_9_92 : fOK (9, 92, 9, 1) := Or.inl (fLink_of rfl (in_t5 (i := 54) rfl))
set_option maxRecDepth 40000 in
theorem fl_9_107 : fOK (9, 107, 9, 5) := Or.inl (fLink_of rfl (in_t5 (i := 58) rfl))
set_option maxRecDepth 40000 in
theorem fl_9_110 : fOK (9, 110, 9, 9) := Or.inl (fLink_of rfl (in_t5 (i := 62) rfl))
set_option maxRecDepth 40000 in
theorem fl_9_113 : fOK (9, 113, 9, 10) := Or.inl (fLink_of rfl (in_t5 (i := 63) rfl))
set_option maxRecDepth 40000 in
theorem fl_9_116 : fOK (9, 116, 9, 11) := Or.inl (fLink_of rfl (in_t5 (i := 64) rfl))
set_option maxRecDepth 40000 in
theorem fl_9_119 : fOK (9, 119, 9, 12) := Or.inl (fLink_of rfl (in_t5 (i := 65) rfl))
set_option maxRecDepth 40000 in
theorem fl_9_122 : fOK (9, 122, 9, 13) := Or.inl (fLink_of rfl (in_t5 (i := 66) rfl))
set_option maxRecDepth 40000 in
theorem fl_9_155 : fOK (9, 155, 9, 21) := Or.inl (fLink_of rfl (in_t5 (i := 74) rfl))
set_option maxRecDepth 40000 in
theorem fl_9_158 : fOK (9, 158, 9, 37) := Or.inl (fLink_of rfl (in_t5 (i := 90) rfl))
set_option maxRecDepth 40000 in
theorem fl_9_184 : fOK (9, 184, 9, 18) := Or.inl (fLink_of rfl (in_t5 (i := 71) rfl))
set_option maxRecDepth 40000 in
theorem fl_9_191 : fOK (9, 191, 9, 17) := Or.inl (fLink_of rfl (in_t5 (i := 70) rfl))
set_option maxRecDepth 40000 in
theorem fl_9_330 : fOK (9, 330, 9, 30) := Or.inl (fLink_of rfl (in_t5 (i := 83) rfl))
set_option maxRecDepth 40000 in
theorem fl_9_339 : fOK (9, 339, 9, 34) := Or.inl (fLink_of rfl (in_t5 (i := 87) rfl))
set_option maxRecDepth 40000 in
theorem fl_9_342 : fOK (9, 342, 9, 33) := Or.inl (fLink_of rfl (in_t5 (i := 86) rfl))
set_option maxRecDepth 40000 in
theorem fl_9_376 : fOK (9, 376, 9, 36) := Or.inl (fLink_of rfl (in_t5 (i := 89) rfl))
def fT_0 : List (Nat × Nat × Nat × Nat) := [(0, 9, 0, 0), (0, 17, 0, 1), (0, 21, 1, 3), (1, 9, 1, 0), (1, 15, 1, 1), (1, 18, 1, 2), (1, 21, 1, 3), (2, 11, 2, 0), (2, 18, 2, 2), (2, 22, 2, 1), (3, 7, 3, 0), (3, 13, 3, 1), (4, 9, 4, 0), (4, 15, 4, 1), (4, 19, 4, 2), (4, 22, 4, 3), (4, 26, 4, 4), (4, 29, 4, 5), (4, 32, 4, 6), (4, 35, 4, 7)]
theorem fT_0_ok : ∀ q ∈ fT_0, fOK q := List.forall_mem_cons.mpr ⟨fl_0_9, List.forall_mem_cons.mpr ⟨fl_0_17, List.forall_mem_cons.mpr ⟨fl_0_21, List.forall_mem_cons.mpr ⟨fl_1_9, List.forall_mem_cons.mpr ⟨fl_1_15, List.forall_mem_cons.mpr ⟨fl_1_18, List.forall_mem_cons.mpr ⟨fl_1_21, List.forall_mem_cons.mpr ⟨fl_2_11, List.forall_mem_cons.mpr ⟨fl_2_18, List.forall_mem_cons.mpr ⟨fl_2_22, List.forall_mem_cons.mpr ⟨fl_3_7, List.forall_mem_cons.mpr ⟨fl_3_13, List.forall_mem_cons.mpr ⟨fl_4_9, List.forall_mem_cons.mpr ⟨fl_4_15, List.forall_mem_cons.mpr ⟨fl_4_19, List.forall_mem_cons.mpr ⟨fl_4_22, List.forall_mem_cons.mpr ⟨fl_4_26, List.forall_mem_cons.mpr ⟨fl_4_29, List.forall_mem_cons.mpr ⟨fl_4_32, List.forall_mem_cons.mpr ⟨fl_4_35, fun _ h => absurd h List.not_mem_nil⟩⟩⟩⟩⟩⟩⟩⟩⟩⟩⟩⟩⟩⟩⟩⟩⟩⟩⟩⟩
def fT_1 : List (Nat × Nat × Nat × Nat) := [(4, 38, 4, 8), (4, 116, 5, 1), (5, 9, 5, 3), (5, 15, 5, 4), (5, 18, 5, 5), (5, 21, 5, 6), (5, 24, 5, 7), (5, 27, 5, 8), (5, 30, 5, 0), (5, 34, 5, 1), (5, 37, 5, 2), (6, 11, 6, 0), (6, 17, 6, 1), (6, 22, 6, 2), (6, 26, 6, 3), (6, 30, 6, 4), (6, 33, 6, 5), (6, 56, 5, 0), (7, 9, 7, 0), (7, 15, 7, 1)]
theorem fT_1_ok : ∀ q ∈ fT_1, fOK q := List.forall_mem_cons.mpr ⟨fl_4_38, List.forall_mem_cons.mpr ⟨fl_4_116, List.forall_mem_cons.mpr ⟨fl_5_9, List.forall_mem_cons.mpr ⟨fl_5_15, List.forall_mem_cons.mpr ⟨fl_5_18, List.forall_mem_cons.mpr ⟨fl_5_21, List.forall_mem_cons.mpr ⟨fl_5_24, List.forall_mem_cons.mpr ⟨fl_5_27, List.forall_mem_cons.mpr ⟨fl_5_30, List.forall_mem_cons.mpr ⟨fl_5_34, List.forall_mem_cons.mpr ⟨fl_5_37, List.forall_mem_cons.mpr ⟨fl_6_11, List.forall_mem_cons.mpr ⟨fl_6_17, List.forall_mem_cons.mpr ⟨fl_6_22, List.forall_mem_cons.mpr ⟨fl_6_26, List.forall_mem_cons.mpr ⟨fl_6_30, List.forall_mem_cons.mpr ⟨fl_6_33, List.forall_mem_cons.mpr ⟨fl_6_56, List.forall_mem_cons.mpr ⟨fl_7_9, List.forall_mem_cons.mpr ⟨fl_7_15, fun _ h => absurd h List.not_mem_nil⟩⟩⟩⟩⟩⟩⟩⟩⟩⟩⟩⟩⟩⟩⟩⟩⟩⟩⟩⟩
def fT_2 : List (Nat × Nat × Nat × Nat) := [(8, 10, 8, 0), (8, 19, 8, 1), (8, 26, 8, 2), (8, 30, 8, 3), (8, 33, 8, 4), (8, 39, 8, 5), (8, 43, 8, 6), (8, 46, 8, 7), (8, 52, 8, 8), (8, 59, 8, 9), (8, 63, 8, 10), (8, 69, 8, 11), (8, 76, 8, 12), (8, 80, 8, 13), (8, 83, 8, 14), (8, 95, 7, 1), (8, 121, 8, 15), (8, 173, 5, 0), (8, 224, 5, 2), (8, 231, 2, 2)]
theorem fT_2_ok : ∀ q ∈ fT_2, fOK q := List.forall_mem_cons.mpr ⟨fl_8_10, List.forall_mem_cons.mpr ⟨fl_8_19, List.forall_mem_cons.mpr ⟨fl_8_26, List.forall_mem_cons.mpr ⟨fl_8_30, List.forall_mem_cons.mpr ⟨fl_8_33, List.forall_mem_cons.mpr ⟨fl_8_39, List.forall_mem_cons.mpr ⟨fl_8_43, List.forall_mem_cons.mpr ⟨fl_8_46, List.forall_mem_cons.mpr ⟨fl_8_52, List.forall_mem_cons.mpr ⟨fl_8_59, List.forall_mem_cons.mpr ⟨fl_8_63, List.forall_mem_cons.mpr ⟨fl_8_69, List.forall_mem_cons.mpr ⟨fl_8_76, List.forall_mem_cons.mpr ⟨fl_8_80, List.forall_mem_cons.mpr ⟨fl_8_83, List.forall_mem_cons.mpr ⟨fl_8_95, List.forall_mem_cons.mpr ⟨fl_8_121, List.forall_mem_cons.mpr ⟨fl_8_173, List.forall_mem_cons.mpr ⟨fl_8_224, List.forall_mem_cons.mpr ⟨fl_8_231, fun _ h => absurd h List.not_mem_nil⟩⟩⟩⟩⟩⟩⟩⟩⟩⟩⟩⟩⟩⟩⟩⟩⟩⟩⟩⟩
def fT_3 : List (Nat × Nat × Nat × Nat) := [(8, 289, 1, 3), (8, 301, 0, 1), (8, 321, 8, 16), (8, 334, 5, 1), (8, 340, 3, 1), (8, 363, 7, 0), (9, 9, 9, 0), (9, 13, 9, 2), (9, 17, 9, 3), (9, 20, 9, 4), (9, 24, 9, 6), (9, 28, 9, 14), (9, 31, 9, 15), (9, 34, 9, 16), (9, 37, 9, 19), (9, 40, 9, 20), (9, 43, 9, 22), (9, 46, 9, 23), (9, 49, 9, 24), (9, 52, 9, 25)]
theorem fT_3_ok : ∀ q ∈ fT_3, fOK q := List.forall_mem_cons.mpr ⟨fl_8_289, List.forall_mem_cons.mpr ⟨fl_8_301, List.forall_mem_cons.mpr ⟨fl_8_321, List.forall_mem_cons.mpr ⟨fl_8_334, List.forall_mem_cons.mpr ⟨fl_8_340, List.forall_mem_cons.mpr ⟨fl_8_363, List.forall_mem_cons.mpr ⟨fl_9_9, List.forall_mem_cons.mpr ⟨fl_9_13, List.forall_mem_cons.mpr ⟨fl_9_17, List.forall_mem_cons.mpr ⟨fl_9_20, List.forall_mem_cons.mpr ⟨fl_9_24, List.forall_mem_cons.mpr ⟨fl_9_28, List.forall_mem_cons.mpr ⟨fl_9_31, List.forall_mem_cons.mpr ⟨fl_9_34, List.forall_mem_cons.mpr ⟨fl_9_37, List.forall_mem_cons.mpr ⟨fl_9_40, List.forall_mem_cons.mpr ⟨fl_9_43, List.forall_mem_cons.mpr ⟨fl_9_46, List.forall_mem_cons.mpr ⟨fl_9_49, List.forall_mem_cons.mpr ⟨fl_9_52, fun _ h => absurd h List.not_mem_nil⟩⟩⟩⟩⟩⟩⟩⟩⟩⟩⟩⟩⟩⟩⟩⟩⟩⟩⟩⟩
def fT_4 : List (Nat × Nat × Nat × Nat) := [(9, 55, 9, 26), (9, 58, 9, 27), (9, 61, 9, 28), (9, 64, 9, 29), (9, 67, 9, 31), (9, 70, 9, 32), (9, 73, 9, 35), (9, 77, 9, 38), (9, 80, 9, 39), (9, 83, 9, 40), (9, 86, 9, 8), (9, 89, 9, 7), (9, 92, 9, 1), (9, 107, 9, 5), (9, 110, 9, 9), (9, 113, 9, 10), (9, 116, 9, 11), (9, 119, 9, 12), (9, 122, 9, 13), (9, 155, 9, 21)]
theorem fT_4_ok : ∀ q ∈ fT_4, fOK q := List.forall_mem_cons.mpr ⟨fl_9_55, List.forall_mem_cons.mpr ⟨fl_9_58, List.forall_mem_cons.mpr ⟨fl_9_61, List.forall_mem_cons.mpr ⟨fl_9_64, List.forall_mem_cons.mpr ⟨fl_9_67, List.forall_mem_cons.mpr ⟨fl_9_70, List.forall_mem_cons.mpr ⟨fl_9_73, List.forall_mem_cons.mpr ⟨fl_9_77, List.forall_mem_cons.mpr ⟨fl_9_80, List.forall_mem_cons.mpr ⟨fl_9_83, List.forall_mem_cons.mpr ⟨fl_9_86, List.forall_mem_cons.mpr ⟨fl_9_89, List.forall_mem_cons.mpr ⟨fl_9_92, List.forall_mem_cons.mpr ⟨fl_9_107, List.forall_mem_cons.mpr ⟨fl_9_110, List.forall_mem_cons.mpr ⟨fl_9_113, List.forall_mem_cons.mpr ⟨fl_9_116, List.forall_mem_cons.mpr ⟨fl_9_119, List.forall_mem_cons.mpr ⟨fl_9_122, List.forall_mem_cons.mpr ⟨fl_9_155, fun _ h => absurd h List.not_mem_nil⟩⟩⟩⟩⟩⟩⟩⟩⟩⟩⟩⟩⟩⟩⟩⟩⟩⟩⟩⟩
def fT_5 : List (Nat × Nat × Nat × Nat) := [(9, 158, 9, 37), (9, 184, 9, 18), (9, 191, 9, 17), (9, 330, 9, 30), (9, 339, 9, 34), (9, 342, 9, 33), (9, 376, 9, 36)]
theorem fT_5_ok : ∀ q ∈ fT_5, fOK q := List.forall_mem_cons.mpr ⟨fl_9_158, List.forall_mem_cons.mpr ⟨fl_9_184, List.forall_mem_cons.mpr ⟨fl_9_191, List.forall_mem_cons.mpr ⟨fl_9_330, List.forall_mem_cons.mpr ⟨fl_9_339, List.forall_mem_cons.mpr ⟨fl_9_342, List.forall_mem_cons.mpr ⟨fl_9_376, fun _ h => absurd h List.not_mem_nil⟩⟩⟩⟩⟩⟩⟩
def fT : List (Nat × Nat × Nat × Nat) := fT_0 ++ (fT_1 ++ (fT_2 ++ (fT_3 ++ (fT_4 ++ (fT_5)))))
theorem fT_ok : ∀ q ∈ fT, fOK q := List.forall_mem_append.mpr ⟨fT_0_ok, List.forall_mem_append.mpr ⟨fT_1_ok, List.forall_mem_append.mpr ⟨fT_2_ok, List.forall_mem_append.mpr ⟨fT_3_ok, List.forall_mem_append.mpr ⟨fT_4_ok, fT_5_ok⟩⟩⟩⟩⟩
set_option maxRecDepth 40000 in
theorem cb_0 : ceB 0 0 := ⟨by decide +kernel, by decide +kernel, by decide +kernel, by decide +kernel, mALL (in_t1 (i := 169) rfl) rfl, mALL (in_t1 (i := 8) rfl) rfl⟩
set_option maxRecDepth 40000 in
theorem ci_0 : ceI 0 := ⟨mALL (in_t1 (i := 168) rfl) rfl, by decide +kernel, by decide +kernel⟩
set_option maxRecDepth 40000 in
theorem cb_1 : ceB 1 1 := ⟨by decide +kernel, by decide +kernel, by decide +kernel, by decide +kernel, mALL (in_t4 (i := 90) rfl) rfl, mALL (in_t1 (i := 8) rfl) rfl⟩
set_option maxRecDepth 40000 in
theorem cv_1 : ceV 1 := ⟨mALL (in_t4 (i := 89) rfl) rfl, mSEL (in_sel (i := 72) rfl) rfl⟩
set_option maxRecDepth 40000 in
theorem cb_2 : ceB 2 2 := ⟨by decide +kernel, by decide +kernel, by decide +kernel, by decide +kernel, mALL (in_t4 (i := 93) rfl) rfl, mALL (in_t1 (i := 8) rfl) rfl⟩
set_option maxRecDepth 40000 in
theorem cs_2 : ceS 2 := mALL (in_t4 (i := 92) rfl) rfl
set_option maxRecDepth 40000 in
theorem cb_3 : ceB 3 2 := ⟨by decide +kernel, by decide +kernel, by decide +kernel, by decide +kernel, mALL (in_t4 (i := 110) rfl) rfl, mALL (in_t1 (i := 8) rfl) rfl⟩
set_option maxRecDepth 40000 in
theorem cv_3 : ceV 3 := ⟨mALL (in_t4 (i := 109) rfl) rfl, mSEL (in_sel (i := 74) rfl) rfl⟩
set_option maxRecDepth 40000 in
theorem cb_4 : ceB 4 3 := ⟨by decide +kernel, by decide +kernel, by decide +kernel, by decide +kernel, mALL (in_t4 (i := 98) rfl) rfl, mALL (in_t1 (i := 8) rfl) rfl⟩
set_option maxRecDepth 40000 in
theorem cs_4 : ceS 4 := mALL (in_t4 (i := 97) rfl) rfl
set_option maxRecDepth 40000 in
theorem cb_5 : ceB 5 0 := ⟨by decide +kernel, by decide +kernel, by decide +kernel, by decide +kernel, mALL (in_t1 (i := 148) rfl) rfl, mALL (in_t1 (i := 7) rfl) rfl⟩
set_option maxRecDepth 40000 in
theorem ci_5 : ceI 5 := ⟨mALL (in_t1 (i := 147) rfl) rfl, by decide +kernel, by decide +kernel⟩
set_option maxRecDepth 40000 in
theorem cb_6 : ceB 6 3 := ⟨by decide +kernel, by decide +kernel, by decide +kernel, by decide +kernel, mALL (in_t4 (i := 32) rfl) rfl, mALL (in_t1 (i := 7) rfl) rfl⟩
set_option maxRecDepth 40000 in
theorem cv_6 : ceV 6 := ⟨mALL (in_t4 (i := 31) rfl) rfl, mSEL (in_sel (i := 64) rfl) rfl⟩
set_option maxRecDepth 40000 in
theorem cb_7 : ceB 7 0 := ⟨by decide +kernel, by decide +kernel, by decide +kernel, by decide +kernel, mALL (in_t4 (i := 40) rfl) rfl, mALL (in_t1 (i := 7) rfl) rfl⟩
set_option maxRecDepth 40000 in
theorem cv_7 : ceV 7 := ⟨mALL (in_t4 (i := 39) rfl) rfl, mSEL (in_sel (i := 65) rfl) rfl⟩
set_option maxRecDepth 40000 in
theorem cb_8 : ceB 8 1 := ⟨by decide +kernel, by decide +kernel, by decide +kernel, by decide +kernel, mALL (in_t4 (i := 56) rfl) rfl, mALL (in_t1 (i := 7) rfl) rfl⟩
set_option maxRecDepth 40000 in
theorem cv_8 : ceV 8 := ⟨mALL (in_t4 (i := 55) rfl) rfl, mSEL (in_sel (i := 68) rfl) rfl⟩
set_option maxRecDepth 40000 in
theorem cb_9 : ceB 9 1 := ⟨by decide +kernel, by decide +kernel, by decide +kernel, by decide +kernel, mALL (in_t4 (i := 60) rfl) rfl, mALL (in_t1 (i := 7) rfl) rfl⟩
set_option maxRecDepth 40000 in
theorem cv_9 : ceV 9 := ⟨mALL (in_t4 (i := 59) rfl) rfl, mSEL (in_sel (i := 69) rfl) rfl⟩
set_option maxRecDepth 40000 in
theorem cb_10 : ceB 10 1 := ⟨by decide +kernel, by decide +kernel, by decide +kernel, by decide +kernel, mALL (in_t4 (i := 102) rfl) rfl, mALL (in_t1 (i := 7) rfl) rfl⟩
set_option maxRecDepth 40000 in
theorem cv_10 : ceV 10 := ⟨mALL (in_t4 (i := 101) rfl) rfl, mSEL (in_sel (i := 73) rfl) rfl⟩
set_option maxRecDepth 40000 in
theorem cb_11 : ceB 11 0 := ⟨by decide +kernel, by decide +kernel, by decide +kernel, by decide +kernel, mALL (in_t1 (i := 101) rfl) rfl, mALL (in_t1 (i := 5) rfl) rfl⟩
set_option maxRecDepth 40000 in
theorem ci_11 : ceI 11 := ⟨mALL (in_t1 (i := 100) rfl) rfl, by decide +kernel, by decide +kernel⟩
set_option maxRecDepth 40000 in
theorem cb_12 : ceB 12 0 := ⟨by decide +kernel, by decide +kernel, by decide +kernel, by decide +kernel, mALL (in_t2 (i := 127) rfl) rfl, mALL (in_t1 (i := 5) rfl) rfl⟩
set_option maxRecDepth 40000 in
theorem cv_12 : ceV 12 := ⟨mALL (in_t2 (i := 126) rfl) rfl, mSEL (in_sel (i := 16) rfl) rfl⟩
set_option maxRecDepth 40000 in
theorem cb_13 : ceB 13 1 := ⟨by decide +kernel, by decide +kernel, by decide +kernel, by decide +kernel, mALL (in_t3 (i := 13) rfl) rfl, mALL (in_t1 (i := 5) rfl) rfl⟩
set_option maxRecDepth 40000 in
theorem cv_13 : ceV 13 := ⟨mALL (in_t3 (i := 12) rfl) rfl, mSEL (in_sel (i := 37) rfl) rfl⟩
set_option maxRecDepth 40000 in
theorem cb_14 : ceB 14 1 := ⟨by decide +kernel, by decide +kernel, by decide +kernel, by decide +kernel, mALL (in_t3 (i := 9) rfl) rfl, mALL (in_t1 (i := 5) rfl) rfl⟩
set_option maxRecDepth 40000 in
theorem cv_14 : ceV 14 := ⟨mALL (in_t3 (i := 8) rfl) rfl, mSEL (in_sel (i := 36) rfl) rfl⟩
set_option maxRecDepth 40000 in
theorem cb_15 : ceB 15 1 := ⟨by decide +kernel, by decide +kernel, by decide +kernel, by decide +kernel, mALL (in_t3 (i := 88) rfl) rfl, mALL (in_t1 (i := 5) rfl) rfl⟩
set_option maxRecDepth 40000 in
theorem cv_15 : ceV 15 := ⟨mALL (in_t3 (i := 87) rfl) rfl, mSEL (in_sel (i := 48) rfl) rfl⟩
set_option maxRecDepth 40000 in
theorem cb_16 : ceB 16 0 := ⟨by decide +kernel, by decide +kernel, by decide +kernel, by decide +kernel, mALL (in_t1 (i := 46) rfl) rfl, mALL (in_t1 (i := 3) rfl) rfl⟩
set_option maxRecDepth 40000 in
theorem ci_16 : ceI 16 := ⟨mALL (in_t1 (i := 45) rfl) rfl, by decide +kernel, by decide +kernel⟩
set_option maxRecDepth 40000 in
theorem cb_17 : ceB 17 0 := ⟨by decide +kernel, by decide +kernel, by decide +kernel, by decide +kernel, mALL (in_t3 (i := 34) rfl) rfl, mALL (in_t1 (i := 3) rfl) rfl⟩
set_option maxRecDepth 40000 in
theorem cv_17 : ceV 17 := ⟨mALL (in_t3 (i := 33) rfl) rfl, mSEL (in_sel (i := 40) rfl) rfl⟩
set_option maxRecDepth 40000 in
theorem cb_18 : ceB 18 1 := ⟨by decide +kernel, by decide +kernel, by decide +kernel, by decide +kernel, mALL (in_t3 (i := 46) rfl) rfl, mALL (in_t1 (i := 3) rfl) rfl⟩
set_option maxRecDepth 40000 in
theorem cv_18 : ceV 18 := ⟨mALL (in_t3 (i := 45) rfl) rfl, mSEL (in_sel (i := 43) rfl) rfl⟩
set_option maxRecDepth 40000 in
theorem cb_19 : ceB 19 2 := ⟨by decide +kernel, by decide +kernel, by decide +kernel, by decide +kernel, mALL (in_t3 (i := 103) rfl) rfl, mALL (in_t1 (i := 3) rfl) rfl⟩
set_option maxRecDepth 40000 in
theorem cv_19 : ceV 19 := ⟨mALL (in_t3 (i := 102) rfl) rfl, mSEL (in_sel (i := 49) rfl) rfl⟩
set_option maxRecDepth 40000 in
theorem cb_20 : ceB 20 2 := ⟨by decide +kernel, by decide +kernel, by decide +kernel, by decide +kernel, mALL (in_t3 (i := 106) rfl) rfl, mALL (in_t1 (i := 3) rfl) rfl⟩
set_option maxRecDepth 40000 in
theorem cs_20 : ceS 20 := mALL (in_t3 (i := 105) rfl) rfl
set_option maxRecDepth 40000 in
theorem cb_21 : ceB 21 1 := ⟨by decide +kernel, by decide +kernel, by decide +kernel, by decide +kernel, mALL (in_t5 (i := 40) rfl) rfl, mALL (in_t1 (i := 3) rfl) rfl⟩
set_option maxRecDepth 40000 in
theorem cv_21 : ceV 21 := ⟨mALL (in_t5 (i := 39) rfl) rfl, mSEL (in_sel (i := 85) rfl) rfl⟩
set_option maxRecDepth 40000 in
theorem cb_22 : ceB 22 1 := ⟨by decide +kernel, by decide +kernel, by decide +kernel, by decide +kernel, mALL (in_t5 (i := 45) rfl) rfl, mALL (in_t1 (i := 3) rfl) rfl⟩
set_option maxRecDepth 40000 in
theorem cv_22 : ceV 22 := ⟨mALL (in_t5 (i := 44) rfl) rfl, mSEL (in_sel (i := 86) rfl) rfl⟩
set_option maxRecDepth 40000 in
theorem cb_23 : ceB 23 0 := ⟨by decide +kernel, by decide +kernel, by decide +kernel, by decide +kernel, mALL (in_t1 (i := 184) rfl) rfl, mALL (in_t1 (i := 9) rfl) rfl⟩
set_option maxRecDepth 40000 in
theorem ci_23 : ceI 23 := ⟨mALL (in_t1 (i := 183) rfl) rfl, by decide +kernel, by decide +kernel⟩
set_option maxRecDepth 40000 in
theorem cb_24 : ceB 24 2 := ⟨by decide +kernel, by decide +kernel, by decide +kernel, by decide +kernel, mALL (in_t1 (i := 219) rfl) rfl, mALL (in_t1 (i := 9) rfl) rfl⟩
set_option maxRecDepth 40000 in
theorem cv_24 : ceV 24 := ⟨mALL (in_t1 (i := 218) rfl) rfl, mSEL (in_sel (i := 0) rfl) rfl⟩
set_option maxRecDepth 40000 in
theorem cb_25 : ceB 25 1 := ⟨by decide +kernel, by decide +kernel, by decide +kernel, by decide +kernel, mALL (in_t1 (i := 226) rfl) rfl, mALL (in_t1 (i := 9) rfl) rfl⟩
set_option maxRecDepth 40000 in
theorem cv_25 : ceV 25 := ⟨mALL (in_t1 (i := 225) rfl) rfl, mSEL (in_sel (i := 1) rfl) rfl⟩
set_option maxRecDepth 40000 in
theorem cb_26 : ceB 26 1 := ⟨by decide +kernel, by decide +kernel, by decide +kernel, by decide +kernel, mALL (in_t2 (i := 4) rfl) rfl, mALL (in_t1 (i := 9) rfl) rfl⟩
set_option maxRecDepth 40000 in
theorem cv_26 : ceV 26 := ⟨mALL (in_t2 (i := 3) rfl) rfl, mSEL (in_sel (i := 4) rfl) rfl⟩
set_option maxRecDepth 40000 in
theorem cb_27 : ceB 27 1 := ⟨by decide +kernel, by decide +kernel, by decide +kernel, by decide +kernel, mALL (in_t2 (i := 8) rfl) rfl, mALL (in_t1 (i := 9) rfl) rfl⟩
set_option maxRecDepth 40000 in
theorem cv_27 : ceV 27 := ⟨mALL (in_t2 (i := 7) rfl) rfl, mSEL (in_sel (i := 5) rfl) rfl⟩
set_option maxRecDepth 40000 in
theorem cb_28 : ceB 28 0 := ⟨by decide +kernel, by decide +kernel, by decide +kernel, by decide +kernel, mALL (in_t2 (i := 12) rfl) rfl, mALL (in_t1 (i := 9) rfl) rfl⟩
set_option maxRecDepth 40000 in
theorem cv_28 : ceV 28 := ⟨mALL (in_t2 (i := 11) rfl) rfl, mSEL (in_sel (i := 6) rfl) rfl⟩
set_option maxRecDepth 40000 in
theorem cb_29 : ceB 29 1 := ⟨by decide +kernel, by decide +kernel, by decide +kernel, by decide +kernel, mALL (in_t1 (i := 236) rfl) rfl, mALL (in_t1 (i := 9) rfl) rfl⟩
set_option maxRecDepth 40000 in
theorem cs_29 : ceS 29 := mALL (in_t1 (i := 235) rfl) rfl
set_option maxRecDepth 40000 in
theorem cb_30 : ceB 30 1 := ⟨by decide +kernel, by decide +kernel, by decide +kernel, by decide +kernel, mALL (in_t2 (i := 19) rfl) rfl, mALL (in_t1 (i := 9) rfl) rfl⟩
set_option maxRecDepth 40000 in
theorem cs_30 : ceS 30 := mALL (in_t2 (i := 18) rfl) rfl
set_option maxRecDepth 40000 in
theorem cb_31 : ceB 31 1 := ⟨by decide +kernel, by decide +kernel, by decide +kernel, by decide +kernel, mALL (in_t1 (i := 233) rfl) rfl, mALL (in_t1 (i := 9) rfl) rfl⟩
set_option maxRecDepth 40000 in
theorem cv_31 : ceV 31 := ⟨mALL (in_t1 (i := 232) rfl) rfl, mSEL (in_sel (i := 2) rfl) rfl⟩
set_option maxRecDepth 40000 in
theorem cb_32 : ceB 32 1 := ⟨by decide +kernel, by decide +kernel, by decide +kernel, by decide +kernel, mALL (in_t2 (i := 0) rfl) rfl, mALL (in_t1 (i := 9) rfl) rfl⟩
set_option maxRecDepth 40000 in
theorem cv_32 : ceV 32 := ⟨mALL (in_t1 (i := 239) rfl) rfl, mSEL (in_sel (i := 3) rfl) rfl⟩
set_option maxRecDepth 40000 in
theorem cb_33 : ceB 33 1 := ⟨by decide +kernel, by decide +kernel, by decide +kernel, by decide +kernel, mALL (in_t2 (i := 16) rfl) rfl, mALL (in_t1 (i := 9) rfl) rfl⟩
set_option maxRecDepth 40000 in
theorem cv_33 : ceV 33 := ⟨mALL (in_t2 (i := 15) rfl) rfl, mSEL (in_sel (i := 7) rfl) rfl⟩
set_option maxRecDepth 40000 in
theorem cb_34 : ceB 34 3 := ⟨by decide +kernel, by decide +kernel, by decide +kernel, by decide +kernel, mALL (in_t2 (i := 147) rfl) rfl, mALL (in_t1 (i := 9) rfl) rfl⟩
set_option maxRecDepth 40000 in
theorem cv_34 : ceV 34 := ⟨mALL (in_t2 (i := 146) rfl) rfl, mSEL (in_sel (i := 19) rfl) rfl⟩
set_option maxRecDepth 40000 in
theorem cb_35 : ceB 35 2 := ⟨by decide +kernel, by decide +kernel, by decide +kernel, by decide +kernel, mALL (in_t2 (i := 151) rfl) rfl, mALL (in_t1 (i := 9) rfl) rfl⟩
set_option maxRecDepth 40000 in
theorem cv_35 : ceV 35 := ⟨mALL (in_t2 (i := 150) rfl) rfl, mSEL (in_sel (i := 20) rfl) rfl⟩
set_option maxRecDepth 40000 in
theorem cb_36 : ceB 36 2 := ⟨by decide +kernel, by decide +kernel, by decide +kernel, by decide +kernel, mALL (in_t2 (i := 178) rfl) rfl, mALL (in_t1 (i := 9) rfl) rfl⟩
set_option maxRecDepth 40000 in
theorem cv_36 : ceV 36 := ⟨mALL (in_t2 (i := 177) rfl) rfl, mSEL (in_sel (i := 26) rfl) rfl⟩
set_option maxRecDepth 40000 in
theorem cb_37 : ceB 37 3 := ⟨by decide +kernel, by decide +kernel, by decide +kernel, by decide +kernel, mALL (in_t2 (i := 181) rfl) rfl, mALL (in_t1 (i := 9) rfl) rfl⟩
set_option maxRecDepth 40000 in
theorem cs_37 : ceS 37 := mALL (in_t2 (i := 180) rfl) rfl
set_option maxRecDepth 40000 in
theorem cb_38 : ceB 38 4 := ⟨by decide +kernel, by decide +kernel, by decide +kernel, by decide +kernel, mALL (in_t2 (i := 154) rfl) rfl, mALL (in_t1 (i := 9) rfl) rfl⟩
set_option maxRecDepth 40000 in
theorem cs_38 : ceS 38 := mALL (in_t2 (i := 153) rfl) rfl
set_option maxRecDepth 40000 in
theorem cb_39 : ceB 39 0 := ⟨by decide +kernel, by decide +kernel, by decide +kernel, by decide +kernel, mALL (in_t1 (i := 61) rfl) rfl, mALL (in_t1 (i := 4) rfl) rfl⟩
set_option maxRecDepth 40000 in
theorem ci_39 : ceI 39 := ⟨mALL (in_t1 (i := 60) rfl) rfl, by decide +kernel, by decide +kernel⟩
set_option maxRecDepth 40000 in
theorem cb_40 : ceB 40 1 := ⟨by decide +kernel, by decide +kernel, by decide +kernel, by decide +kernel, mALL (in_t2 (i := 218) rfl) rfl, mALL (in_t1 (i := 4) rfl) rfl⟩
set_option maxRecDepth 40000 in
theorem cv_40 : ceV 40 := ⟨mALL (in_t2 (i := 217) rfl) rfl, mSEL (in_sel (i := 30) rfl) rfl⟩
set_option maxRecDepth 40000 in
theorem cb_41 : ceB 41 1 := ⟨by decide +kernel, by decide +kernel, by decide +kernel, by decide +kernel, mALL (in_t2 (i := 123) rfl) rfl, mALL (in_t1 (i := 4) rfl) rfl⟩
set_option maxRecDepth 40000 in
theorem cv_41 : ceV 41 := ⟨mALL (in_t2 (i := 122) rfl) rfl, mSEL (in_sel (i := 15) rfl) rfl⟩
set_option maxRecDepth 40000 in
theorem cb_42 : ceB 42 2 := ⟨by decide +kernel, by decide +kernel, by decide +kernel, by decide +kernel, mALL (in_t2 (i := 143) rfl) rfl, mALL (in_t1 (i := 4) rfl) rfl⟩
set_option maxRecDepth 40000 in
theorem cv_42 : ceV 42 := ⟨mALL (in_t2 (i := 142) rfl) rfl, mSEL (in_sel (i := 18) rfl) rfl⟩
set_option maxRecDepth 40000 in
theorem cb_43 : ceB 43 1 := ⟨by decide +kernel, by decide +kernel, by decide +kernel, by decide +kernel, mALL (in_t5 (i := 29) rfl) rfl, mALL (in_t1 (i := 4) rfl) rfl⟩
set_option maxRecDepth 40000 in
theorem cv_43 : ceV 43 := ⟨mALL (in_t5 (i := 28) rfl) rfl, mSEL (in_sel (i := 84) rfl) rfl⟩
set_option maxRecDepth 40000 in
theorem cb_44 : ceB 44 1 := ⟨by decide +kernel, by decide +kernel, by decide +kernel, by decide +kernel, mALL (in_t2 (i := 158) rfl) rfl, mALL (in_t1 (i := 4) rfl) rfl⟩
set_option maxRecDepth 40000 in
theorem cv_44 : ceV 44 := ⟨mALL (in_t2 (i := 157) rfl) rfl, mSEL (in_sel (i := 21) rfl) rfl⟩
set_option maxRecDepth 40000 in
theorem cb_45 : ceB 45 1 := ⟨by decide +kernel, by decide +kernel, by decide +kernel, by decide +kernel, mALL (in_t2 (i := 162) rfl) rfl, mALL (in_t1 (i := 4) rfl) rfl⟩
set_option maxRecDepth 40000 in
theorem cv_45 : ceV 45 := ⟨mALL (in_t2 (i := 161) rfl) rfl, mSEL (in_sel (i := 22) rfl) rfl⟩
set_option maxRecDepth 40000 in
theorem cb_46 : ceB 46 1 := ⟨by decide +kernel, by decide +kernel, by decide +kernel, by decide +kernel, mALL (in_t2 (i := 170) rfl) rfl, mALL (in_t1 (i := 4) rfl) rfl⟩
set_option maxRecDepth 40000 in
theorem cv_46 : ceV 46 := ⟨mALL (in_t2 (i := 169) rfl) rfl, mSEL (in_sel (i := 24) rfl) rfl⟩
set_option maxRecDepth 40000 in
theorem cb_47 : ceB 47 1 := ⟨by decide +kernel, by decide +kernel, by decide +kernel, by decide +kernel, mALL (in_t2 (i := 174) rfl) rfl, mALL (in_t1 (i := 4) rfl) rfl⟩
set_option maxRecDepth 40000 in
theorem cv_47 : ceV 47 := ⟨mALL (in_t2 (i := 173) rfl) rfl, mSEL (in_sel (i := 25) rfl) rfl⟩
set_option maxRecDepth 40000 in
theorem cb_48 : ceB 48 2 := ⟨by decide +kernel, by decide +kernel, by decide +kernel, by decide +kernel, mALL (in_t2 (i := 166) rfl) rfl, mALL (in_t1 (i := 4) rfl) rfl⟩
set_option maxRecDepth 40000 in
theorem cv_48 : ceV 48 := ⟨mALL (in_t2 (i := 165) rfl) rfl, mSEL (in_sel (i := 23) rfl) rfl⟩
set_option maxRecDepth 40000 in
theorem cb_49 : ceB 49 1 := ⟨by decide +kernel, by decide +kernel, by decide +kernel, by decide +kernel, mALL (in_t3 (i := 121) rfl) rfl, mALL (in_t1 (i := 4) rfl) rfl⟩
set_option maxRecDepth 40000 in
theorem cv_49 : ceV 49 := ⟨mALL (in_t3 (i := 120) rfl) rfl, mSEL (in_sel (i := 50) rfl) rfl⟩
set_option maxRecDepth 40000 in
theorem cb_50 : ceB 50 0 := ⟨by decide +kernel, by decide +kernel, by decide +kernel, by decide +kernel, mALL (in_t2 (i := 205) rfl) rfl, mALL (in_t1 (i := 4) rfl) rfl⟩
set_option maxRecDepth 40000 in
theorem cv_50 : ceV 50 := ⟨mALL (in_t2 (i := 204) rfl) rfl, mSEL (in_sel (i := 28) rfl) rfl⟩
set_option maxRecDepth 40000 in
theorem cb_51 : ceB 51 1 := ⟨by decide +kernel, by decide +kernel, by decide +kernel, by decide +kernel, mALL (in_t2 (i := 209) rfl) rfl, mALL (in_t1 (i := 4) rfl) rfl⟩
set_option maxRecDepth 40000 in
theorem cv_51 : ceV 51 := ⟨mALL (in_t2 (i := 208) rfl) rfl, mSEL (in_sel (i := 29) rfl) rfl⟩
set_option maxRecDepth 40000 in
theorem cb_52 : ceB 52 1 := ⟨by decide +kernel, by decide +kernel, by decide +kernel, by decide +kernel, mALL (in_t3 (i := 38) rfl) rfl, mALL (in_t1 (i := 4) rfl) rfl⟩
set_option maxRecDepth 40000 in
theorem cv_52 : ceV 52 := ⟨mALL (in_t3 (i := 37) rfl) rfl, mSEL (in_sel (i := 41) rfl) rfl⟩
set_option maxRecDepth 40000 in
theorem cb_53 : ceB 53 2 := ⟨by decide +kernel, by decide +kernel, by decide +kernel, by decide +kernel, mALL (in_t3 (i := 42) rfl) rfl, mALL (in_t1 (i := 4) rfl) rfl⟩
set_option maxRecDepth 40000 in
theorem cv_53 : ceV 53 := ⟨mALL (in_t3 (i := 41) rfl) rfl, mSEL (in_sel (i := 42) rfl) rfl⟩
set_option maxRecDepth 40000 in
theorem cb_54 : ceB 54 0 := ⟨by decide +kernel, by decide +kernel, by decide +kernel, by decide +kernel, mALL (in_t4 (i := 161) rfl) rfl, mALL (in_t1 (i := 4) rfl) rfl⟩
set_option maxRecDepth 40000 in
theorem cv_54 : ceV 54 := ⟨mALL (in_t4 (i := 160) rfl) rfl, mSEL (in_sel (i := 78) rfl) rfl⟩
set_option maxRecDepth 40000 in
theorem cb_55 : ceB 55 0 := ⟨by decide +kernel, by decide +kernel, by decide +kernel, by decide +kernel, mALL (in_t4 (i := 182) rfl) rfl, mALL (in_t1 (i := 4) rfl) rfl⟩
set_option maxRecDepth 40000 in
theorem cv_55 : ceV 55 := ⟨mALL (in_t4 (i := 181) rfl) rfl, mSEL (in_sel (i := 80) rfl) rfl⟩
set_option maxRecDepth 40000 in
theorem cb_56 : ceB 56 2 := ⟨by decide +kernel, by decide +kernel, by decide +kernel, by decide +kernel, mALL (in_t3 (i := 129) rfl) rfl, mALL (in_t1 (i := 4) rfl) rfl⟩
set_option maxRecDepth 40000 in
theorem cv_56 : ceV 56 := ⟨mALL (in_t3 (i := 128) rfl) rfl, mSEL (in_sel (i := 51) rfl) rfl⟩
set_option maxRecDepth 40000 in
theorem cb_57 : ceB 57 2 := ⟨by decide +kernel, by decide +kernel, by decide +kernel, by decide +kernel, mALL (in_t2 (i := 112) rfl) rfl, mALL (in_t1 (i := 4) rfl) rfl⟩
set_option maxRecDepth 40000 in
theorem cv_57 : ceV 57 := ⟨mALL (in_t2 (i := 111) rfl) rfl, mSEL (in_sel (i := 13) rfl) rfl⟩
set_option maxRecDepth 40000 in
theorem cb_58 : ceB 58 2 := ⟨by decide +kernel, by decide +kernel, by decide +kernel, by decide +kernel, mALL (in_t2 (i := 119) rfl) rfl, mALL (in_t1 (i := 4) rfl) rfl⟩
set_option maxRecDepth 40000 in
theorem cv_58 : ceV 58 := ⟨mALL (in_t2 (i := 118) rfl) rfl, mSEL (in_sel (i := 14) rfl) rfl⟩
set_option maxRecDepth 40000 in
theorem cb_59 : ceB 59 2 := ⟨by decide +kernel, by decide +kernel, by decide +kernel, by decide +kernel, mALL (in_t2 (i := 199) rfl) rfl, mALL (in_t1 (i := 4) rfl) rfl⟩
set_option maxRecDepth 40000 in
theorem cv_59 : ceV 59 := ⟨mALL (in_t2 (i := 198) rfl) rfl, mSEL (in_sel (i := 27) rfl) rfl⟩
set_option maxRecDepth 40000 in
theorem cb_60 : ceB 60 4 := ⟨by decide +kernel, by decide +kernel, by decide +kernel, by decide +kernel, mALL (in_t3 (i := 1) rfl) rfl, mALL (in_t1 (i := 4) rfl) rfl⟩
set_option maxRecDepth 40000 in
theorem cv_60 : ceV 60 := ⟨mALL (in_t3 (i := 0) rfl) rfl, mSEL (in_sel (i := 34) rfl) rfl⟩
set_option maxRecDepth 40000 in
theorem cb_61 : ceB 61 1 := ⟨by decide +kernel, by decide +kernel, by decide +kernel, by decide +kernel, mALL (in_t3 (i := 5) rfl) rfl, mALL (in_t1 (i := 4) rfl) rfl⟩
set_option maxRecDepth 40000 in
theorem cv_61 : ceV 61 := ⟨mALL (in_t3 (i := 4) rfl) rfl, mSEL (in_sel (i := 35) rfl) rfl⟩
set_option maxRecDepth 40000 in
theorem cb_62 : ceB 62 3 := ⟨by decide +kernel, by decide +kernel, by decide +kernel, by decide +kernel, mALL (in_t2 (i := 229) rfl) rfl, mALL (in_t1 (i := 4) rfl) rfl⟩
set_option maxRecDepth 40000 in
theorem cv_62 : ceV 62 := ⟨mALL (in_t2 (i := 228) rfl) rfl, mSEL (in_sel (i := 32) rfl) rfl⟩
set_option maxRecDepth 40000 in
theorem cb_63 : ceB 63 4 := ⟨by decide +kernel, by decide +kernel, by decide +kernel, by decide +kernel, mALL (in_t2 (i := 225) rfl) rfl, mALL (in_t1 (i := 4) rfl) rfl⟩
set_option maxRecDepth 40000 in
theorem cv_63 : ceV 63 := ⟨mALL (in_t2 (i := 224) rfl) rfl, mSEL (in_sel (i := 31) rfl) rfl⟩
set_option maxRecDepth 40000 in
theorem cb_64 : ceB 64 3 := ⟨by decide +kernel, by decide +kernel, by decide +kernel, by decide +kernel, mALL (in_t2 (i := 236) rfl) rfl, mALL (in_t1 (i := 4) rfl) rfl⟩
set_option maxRecDepth 40000 in
theorem cv_64 : ceV 64 := ⟨mALL (in_t2 (i := 235) rfl) rfl, mSEL (in_sel (i := 33) rfl) rfl⟩
set_option maxRecDepth 40000 in
theorem cb_65 : ceB 65 1 := ⟨by decide +kernel, by decide +kernel, by decide +kernel, by decide +kernel, mALL (in_t3 (i := 25) rfl) rfl, mALL (in_t1 (i := 4) rfl) rfl⟩
set_option maxRecDepth 40000 in
theorem cv_65 : ceV 65 := ⟨mALL (in_t3 (i := 24) rfl) rfl, mSEL (in_sel (i := 38) rfl) rfl⟩
set_option maxRecDepth 40000 in
theorem cb_66 : ceB 66 1 := ⟨by decide +kernel, by decide +kernel, by decide +kernel, by decide +kernel, mALL (in_t3 (i := 30) rfl) rfl, mALL (in_t1 (i := 4) rfl) rfl⟩
set_option maxRecDepth 40000 in
theorem cv_66 : ceV 66 := ⟨mALL (in_t3 (i := 29) rfl) rfl, mSEL (in_sel (i := 39) rfl) rfl⟩
set_option maxRecDepth 40000 in
theorem cb_67 : ceB 67 3 := ⟨by decide +kernel, by decide +kernel, by decide +kernel, by decide +kernel, mALL (in_t3 (i := 54) rfl) rfl, mALL (in_t1 (i := 4) rfl) rfl⟩
set_option maxRecDepth 40000 in
theorem cv_67 : ceV 67 := ⟨mALL (in_t3 (i := 53) rfl) rfl, mSEL (in_sel (i := 44) rfl) rfl⟩
set_option maxRecDepth 40000 in
theorem cb_68 : ceB 68 2 := ⟨by decide +kernel, by decide +kernel, by decide +kernel, by decide +kernel, mALL (in_t3 (i := 62) rfl) rfl, mALL (in_t1 (i := 4) rfl) rfl⟩
set_option maxRecDepth 40000 in
theorem cv_68 : ceV 68 := ⟨mALL (in_t3 (i := 61) rfl) rfl, mSEL (in_sel (i := 45) rfl) rfl⟩
set_option maxRecDepth 40000 in
theorem cb_69 : ceB 69 0 := ⟨by decide +kernel, by decide +kernel, by decide +kernel, by decide +kernel, mALL (in_t1 (i := 121) rfl) rfl, mALL (in_t1 (i := 6) rfl) rfl⟩
set_option maxRecDepth 40000 in
theorem ci_69 : ceI 69 := ⟨mALL (in_t1 (i := 120) rfl) rfl, by decide +kernel, by decide +kernel⟩
set_option maxRecDepth 40000 in
theorem cb_70 : ceB 70 4 := ⟨by decide +kernel, by decide +kernel, by decide +kernel, by decide +kernel, mALL (in_t3 (i := 173) rfl) rfl, mALL (in_t1 (i := 6) rfl) rfl⟩
set_option maxRecDepth 40000 in
theorem cv_70 : ceV 70 := ⟨mALL (in_t3 (i := 172) rfl) rfl, mSEL (in_sel (i := 53) rfl) rfl⟩
set_option maxRecDepth 40000 in
theorem cb_71 : ceB 71 1 := ⟨by decide +kernel, by decide +kernel, by decide +kernel, by decide +kernel, mALL (in_t3 (i := 219) rfl) rfl, mALL (in_t1 (i := 6) rfl) rfl⟩
set_option maxRecDepth 40000 in
theorem cv_71 : ceV 71 := ⟨mALL (in_t3 (i := 218) rfl) rfl, mSEL (in_sel (i := 62) rfl) rfl⟩
set_option maxRecDepth 40000 in
theorem cb_72 : ceB 72 1 := ⟨by decide +kernel, by decide +kernel, by decide +kernel, by decide +kernel, mALL (in_t3 (i := 181) rfl) rfl, mALL (in_t1 (i := 6) rfl) rfl⟩
set_option maxRecDepth 40000 in
theorem cv_72 : ceV 72 := ⟨mALL (in_t3 (i := 180) rfl) rfl, mSEL (in_sel (i := 55) rfl) rfl⟩
set_option maxRecDepth 40000 in
theorem cb_73 : ceB 73 1 := ⟨by decide +kernel, by decide +kernel, by decide +kernel, by decide +kernel, mALL (in_t3 (i := 177) rfl) rfl, mALL (in_t1 (i := 6) rfl) rfl⟩
set_option maxRecDepth 40000 in
theorem cv_73 : ceV 73 := ⟨mALL (in_t3 (i := 176) rfl) rfl, mSEL (in_sel (i := 54) rfl) rfl⟩
set_option maxRecDepth 40000 in
theorem cb_74 : ceB 74 2 := ⟨by decide +kernel, by decide +kernel, by decide +kernel, by decide +kernel, mALL (in_t3 (i := 186) rfl) rfl, mALL (in_t1 (i := 6) rfl) rfl⟩
set_option maxRecDepth 40000 in
theorem cv_74 : ceV 74 := ⟨mALL (in_t3 (i := 185) rfl) rfl, mSEL (in_sel (i := 56) rfl) rfl⟩
set_option maxRecDepth 40000 in
theorem cb_75 : ceB 75 1 := ⟨by decide +kernel, by decide +kernel, by decide +kernel, by decide +kernel, mALL (in_t3 (i := 190) rfl) rfl, mALL (in_t1 (i := 6) rfl) rfl⟩
set_option maxRecDepth 40000 in
theorem cv_75 : ceV 75 := ⟨mALL (in_t3 (i := 189) rfl) rfl, mSEL (in_sel (i := 57) rfl) rfl⟩
set_option maxRecDepth 40000 in
theorem cb_76 : ceB 76 2 := ⟨by decide +kernel, by decide +kernel, by decide +kernel, by decide +kernel, mALL (in_t3 (i := 199) rfl) rfl, mALL (in_t1 (i := 6) rfl) rfl⟩
set_option maxRecDepth 40000 in
theorem cv_76 : ceV 76 := ⟨mALL (in_t3 (i := 198) rfl) rfl, mSEL (in_sel (i := 58) rfl) rfl⟩
set_option maxRecDepth 40000 in
theorem cb_77 : ceB 77 3 := ⟨by decide +kernel, by decide +kernel, by decide +kernel, by decide +kernel, mALL (in_t3 (i := 204) rfl) rfl, mALL (in_t1 (i := 6) rfl) rfl⟩
set_option maxRecDepth 40000 in
theorem cv_77 : ceV 77 := ⟨mALL (in_t3 (i := 203) rfl) rfl, mSEL (in_sel (i := 59) rfl) rfl⟩
set_option maxRecDepth 40000 in
theorem cb_78 : ceB 78 3 := ⟨by decide +kernel, by decide +kernel, by decide +kernel, by decide +kernel, mALL (in_t3 (i := 209) rfl) rfl, mALL (in_t1 (i := 6) rfl) rfl⟩
set_option maxRecDepth 40000 in
theorem cv_78 : ceV 78 := ⟨mALL (in_t3 (i := 208) rfl) rfl, mSEL (in_sel (i := 60) rfl) rfl⟩
set_option maxRecDepth 40000 in
theorem cb_79 : ceB 79 1 := ⟨by decide +kernel, by decide +kernel, by decide +kernel, by decide +kernel, mALL (in_t3 (i := 193) rfl) rfl, mALL (in_t1 (i := 6) rfl) rfl⟩
set_option maxRecDepth 40000 in
theorem cs_79 : ceS 79 := mALL (in_t3 (i := 192) rfl) rfl
set_option maxRecDepth 40000 in
theorem cb_80 : ceB 80 0 := ⟨by decide +kernel, by decide +kernel, by decide +kernel, by decide +kernel, mALL (in_t1 (i := 30) rfl) rfl, mALL (in_t1 (i := 2) rfl) rfl⟩
set_option maxRecDepth 40000 in
theorem ci_80 : ceI 80 := ⟨mALL (in_t1 (i := 29) rfl) rfl, by decide +kernel, by decide +kernel⟩
set_option maxRecDepth 40000 in
theorem cb_81 : ceB 81 1 := ⟨by decide +kernel, by decide +kernel, by decide +kernel, by decide +kernel, mALL (in_t2 (i := 79) rfl) rfl, mALL (in_t1 (i := 2) rfl) rfl⟩
set_option maxRecDepth 40000 in
theorem cv_81 : ceV 81 := ⟨mALL (in_t2 (i := 78) rfl) rfl, mSEL (in_sel (i := 8) rfl) rfl⟩
set_option maxRecDepth 40000 in
theorem cb_82 : ceB 82 1 := ⟨by decide +kernel, by decide +kernel, by decide +kernel, by decide +kernel, mALL (in_t2 (i := 104) rfl) rfl, mALL (in_t1 (i := 2) rfl) rfl⟩
set_option maxRecDepth 40000 in
theorem cv_82 : ceV 82 := ⟨mALL (in_t2 (i := 103) rfl) rfl, mSEL (in_sel (i := 12) rfl) rfl⟩
set_option maxRecDepth 40000 in
theorem cb_83 : ceB 83 0 := ⟨by decide +kernel, by decide +kernel, by decide +kernel, by decide +kernel, mALL (in_t2 (i := 91) rfl) rfl, mALL (in_t1 (i := 2) rfl) rfl⟩
set_option maxRecDepth 40000 in
theorem cv_83 : ceV 83 := ⟨mALL (in_t2 (i := 90) rfl) rfl, mSEL (in_sel (i := 9) rfl) rfl⟩
set_option maxRecDepth 40000 in
theorem cb_84 : ceB 84 0 := ⟨by decide +kernel, by decide +kernel, by decide +kernel, by decide +kernel, mALL (in_t1 (i := 22) rfl) rfl, mALL (in_t1 (i := 1) rfl) rfl⟩
set_option maxRecDepth 40000 in
theorem ci_84 : ceI 84 := ⟨mALL (in_t1 (i := 21) rfl) rfl, by decide +kernel, by decide +kernel⟩
set_option maxRecDepth 40000 in
theorem cb_85 : ceB 85 1 := ⟨by decide +kernel, by decide +kernel, by decide +kernel, by decide +kernel, mALL (in_t2 (i := 75) rfl) rfl, mALL (in_t1 (i := 1) rfl) rfl⟩
set_option maxRecDepth 40000 in
theorem cv_85 : ceV 85 := ⟨mALL (in_t2 (i := 73) rfl) rfl, mALL (in_t2 (i := 74) rfl) rfl⟩
set_option maxRecDepth 40000 in
theorem cb_86 : ceB 86 1 := ⟨by decide +kernel, by decide +kernel, by decide +kernel, by decide +kernel, mALL (in_t2 (i := 83) rfl) rfl, mALL (in_t1 (i := 1) rfl) rfl⟩
set_option maxRecDepth 40000 in
theorem cv_86 : ceV 86 := ⟨mALL (in_t2 (i := 81) rfl) rfl, mALL (in_t2 (i := 82) rfl) rfl⟩
set_option maxRecDepth 40000 in
theorem cb_87 : ceB 87 0 := ⟨by decide +kernel, by decide +kernel, by decide +kernel, by decide +kernel, mALL (in_t2 (i := 87) rfl) rfl, mALL (in_t1 (i := 1) rfl) rfl⟩
set_option maxRecDepth 40000 in
theorem cv_87 : ceV 87 := ⟨mALL (in_t2 (i := 85) rfl) rfl, mALL (in_t2 (i := 86) rfl) rfl⟩
set_option maxRecDepth 40000 in
theorem cb_88 : ceB 88 0 := ⟨by decide +kernel, by decide +kernel, by decide +kernel, by decide +kernel, mALL (in_t2 (i := 131) rfl) rfl, mALL (in_t1 (i := 1) rfl) rfl⟩
set_option maxRecDepth 40000 in
theorem cv_88 : ceV 88 := ⟨mALL (in_t2 (i := 129) rfl) rfl, mALL (in_t2 (i := 130) rfl) rfl⟩
set_option maxRecDepth 40000 in
theorem cb_89 : ceB 89 2 := ⟨by decide +kernel, by decide +kernel, by decide +kernel, by decide +kernel, mALL (in_t4 (i := 199) rfl) rfl, mALL (in_t1 (i := 1) rfl) rfl⟩
set_option maxRecDepth 40000 in
theorem cv_89 : ceV 89 := ⟨mALL (in_t4 (i := 197) rfl) rfl, mALL (in_t4 (i := 198) rfl) rfl⟩
set_option maxRecDepth 40000 in
theorem cb_90 : ceB 90 2 := ⟨by decide +kernel, by decide +kernel, by decide +kernel, by decide +kernel, mALL (in_t2 (i := 139) rfl) rfl, mALL (in_t1 (i := 1) rfl) rfl⟩
set_option maxRecDepth 40000 in
theorem cv_90 : ceV 90 := ⟨mALL (in_t2 (i := 137) rfl) rfl, mALL (in_t2 (i := 138) rfl) rfl⟩
set_option maxRecDepth 40000 in
theorem cb_91 : ceB 91 1 := ⟨by decide +kernel, by decide +kernel, by decide +kernel, by decide +kernel, mALL (in_t2 (i := 188) rfl) rfl, mALL (in_t1 (i := 1) rfl) rfl⟩
set_option maxRecDepth 40000 in
theorem cv_91 : ceV 91 := ⟨mALL (in_t2 (i := 186) rfl) rfl, mALL (in_t2 (i := 187) rfl) rfl⟩
set_option maxRecDepth 40000 in
theorem cb_92 : ceB 92 4 := ⟨by decide +kernel, by decide +kernel, by decide +kernel, by decide +kernel, mALL (in_t2 (i := 192) rfl) rfl, mALL (in_t1 (i := 1) rfl) rfl⟩
set_option maxRecDepth 40000 in
theorem cv_92 : ceV 92 := ⟨mALL (in_t2 (i := 190) rfl) rfl, mALL (in_t2 (i := 191) rfl) rfl⟩
set_option maxRecDepth 40000 in
theorem cb_93 : ceB 93 2 := ⟨by decide +kernel, by decide +kernel, by decide +kernel, by decide +kernel, mALL (in_t2 (i := 214) rfl) rfl, mALL (in_t1 (i := 1) rfl) rfl⟩
set_option maxRecDepth 40000 in
theorem cv_93 : ceV 93 := ⟨mALL (in_t2 (i := 212) rfl) rfl, mALL (in_t2 (i := 213) rfl) rfl⟩
set_option maxRecDepth 40000 in
theorem cb_94 : ceB 94 1 := ⟨by decide +kernel, by decide +kernel, by decide +kernel, by decide +kernel, mALL (in_t3 (i := 21) rfl) rfl, mALL (in_t1 (i := 1) rfl) rfl⟩
set_option maxRecDepth 40000 in
theorem cv_94 : ceV 94 := ⟨mALL (in_t3 (i := 19) rfl) rfl, mALL (in_t3 (i := 20) rfl) rfl⟩
set_option maxRecDepth 40000 in
theorem cb_95 : ceB 95 3 := ⟨by decide +kernel, by decide +kernel, by decide +kernel, by decide +kernel, mALL (in_t3 (i := 50) rfl) rfl, mALL (in_t1 (i := 1) rfl) rfl⟩
set_option maxRecDepth 40000 in
theorem cv_95 : ceV 95 := ⟨mALL (in_t3 (i := 48) rfl) rfl, mALL (in_t3 (i := 49) rfl) rfl⟩
set_option maxRecDepth 40000 in
theorem cb_96 : ceB 96 2 := ⟨by decide +kernel, by decide +kernel, by decide +kernel, by decide +kernel, mALL (in_t3 (i := 58) rfl) rfl, mALL (in_t1 (i := 1) rfl) rfl⟩
set_option maxRecDepth 40000 in
theorem cv_96 : ceV 96 := ⟨mALL (in_t3 (i := 56) rfl) rfl, mALL (in_t3 (i := 57) rfl) rfl⟩
set_option maxRecDepth 40000 in
theorem cb_97 : ceB 97 0 := ⟨by decide +kernel, by decide +kernel, by decide +kernel, by decide +kernel, mALL (in_t3 (i := 66) rfl) rfl, mALL (in_t1 (i := 1) rfl) rfl⟩
set_option maxRecDepth 40000 in
theorem cv_97 : ceV 97 := ⟨mALL (in_t3 (i := 64) rfl) rfl, mALL (in_t3 (i := 65) rfl) rfl⟩
set_option maxRecDepth 40000 in
theorem cb_98 : ceB 98 0 := ⟨by decide +kernel, by decide +kernel, by decide +kernel, by decide +kernel, mALL (in_t3 (i := 84) rfl) rfl, mALL (in_t1 (i := 1) rfl) rfl⟩
set_option maxRecDepth 40000 in
theorem cv_98 : ceV 98 := ⟨mALL (in_t3 (i := 82) rfl) rfl, mALL (in_t3 (i := 83) rfl) rfl⟩
set_option maxRecDepth 40000 in
theorem cb_99 : ceB 99 1 := ⟨by decide +kernel, by decide +kernel, by decide +kernel, by decide +kernel, mALL (in_t3 (i := 92) rfl) rfl, mALL (in_t1 (i := 1) rfl) rfl⟩
set_option maxRecDepth 40000 in
theorem cv_99 : ceV 99 := ⟨mALL (in_t3 (i := 90) rfl) rfl, mALL (in_t3 (i := 91) rfl) rfl⟩
set_option maxRecDepth 40000 in
theorem cb_100 : ceB 100 1 := ⟨by decide +kernel, by decide +kernel, by decide +kernel, by decide +kernel, mALL (in_t3 (i := 99) rfl) rfl, mALL (in_t1 (i := 1) rfl) rfl⟩
set_option maxRecDepth 40000 in
theorem cv_100 : ceV 100 := ⟨mALL (in_t3 (i := 97) rfl) rfl, mALL (in_t3 (i := 98) rfl) rfl⟩
set_option maxRecDepth 40000 in
theorem cb_101 : ceB 101 2 := ⟨by decide +kernel, by decide +kernel, by decide +kernel, by decide +kernel, mALL (in_t3 (i := 111) rfl) rfl, mALL (in_t1 (i := 1) rfl) rfl⟩
set_option maxRecDepth 40000 in
theorem cv_101 : ceV 101 := ⟨mALL (in_t3 (i := 109) rfl) rfl, mALL (in_t3 (i := 110) rfl) rfl⟩
set_option maxRecDepth 40000 in
theorem cb_102 : ceB 102 1 := ⟨by decide +kernel, by decide +kernel, by decide +kernel, by decide +kernel, mALL (in_t3 (i := 117) rfl) rfl, mALL (in_t1 (i := 1) rfl) rfl⟩
set_option maxRecDepth 40000 in
theorem cv_102 : ceV 102 := ⟨mALL (in_t3 (i := 115) rfl) rfl, mALL (in_t3 (i := 116) rfl) rfl⟩
set_option maxRecDepth 40000 in
theorem cb_103 : ceB 103 0 := ⟨by decide +kernel, by decide +kernel, by decide +kernel, by decide +kernel, mALL (in_t3 (i := 125) rfl) rfl, mALL (in_t1 (i := 1) rfl) rfl⟩
set_option maxRecDepth 40000 in
theorem cv_103 : ceV 103 := ⟨mALL (in_t3 (i := 123) rfl) rfl, mALL (in_t3 (i := 124) rfl) rfl⟩
set_option maxRecDepth 40000 in
theorem cb_104 : ceB 104 0 := ⟨by decide +kernel, by decide +kernel, by decide +kernel, by decide +kernel, mALL (in_t3 (i := 136) rfl) rfl, mALL (in_t1 (i := 1) rfl) rfl⟩
set_option maxRecDepth 40000 in
theorem cv_104 : ceV 104 := ⟨mALL (in_t3 (i := 134) rfl) rfl, mALL (in_t3 (i := 135) rfl) rfl⟩
set_option maxRecDepth 40000 in
theorem cb_105 : ceB 105 1 := ⟨by decide +kernel, by decide +kernel, by decide +kernel, by decide +kernel, mALL (in_t3 (i := 140) rfl) rfl, mALL (in_t1 (i := 1) rfl) rfl⟩
set_option maxRecDepth 40000 in
theorem cv_105 : ceV 105 := ⟨mALL (in_t3 (i := 138) rfl) rfl, mALL (in_t3 (i := 139) rfl) rfl⟩
set_option maxRecDepth 40000 in
theorem cb_106 : ceB 106 1 := ⟨by decide +kernel, by decide +kernel, by decide +kernel, by decide +kernel, mALL (in_t3 (i := 144) rfl) rfl, mALL (in_t1 (i := 1) rfl) rfl⟩
set_option maxRecDepth 40000 in
theorem cv_106 : ceV 106 := ⟨mALL (in_t3 (i := 142) rfl) rfl, mALL (in_t3 (i := 143) rfl) rfl⟩
set_option maxRecDepth 40000 in
theorem cb_107 : ceB 107 3 := ⟨by decide +kernel, by decide +kernel, by decide +kernel, by decide +kernel, mALL (in_t3 (i := 149) rfl) rfl, mALL (in_t1 (i := 1) rfl) rfl⟩
set_option maxRecDepth 40000 in
theorem cv_107 : ceV 107 := ⟨mALL (in_t3 (i := 147) rfl) rfl, mALL (in_t3 (i := 148) rfl) rfl⟩
set_option maxRecDepth 40000 in
theorem cb_108 : ceB 108 1 := ⟨by decide +kernel, by decide +kernel, by decide +kernel, by decide +kernel, mALL (in_t3 (i := 153) rfl) rfl, mALL (in_t1 (i := 1) rfl) rfl⟩
set_option maxRecDepth 40000 in
theorem cv_108 : ceV 108 := ⟨mALL (in_t3 (i := 151) rfl) rfl, mALL (in_t3 (i := 152) rfl) rfl⟩
set_option maxRecDepth 40000 in
theorem cb_109 : ceB 109 2 := ⟨by decide +kernel, by decide +kernel, by decide +kernel, by decide +kernel, mALL (in_t3 (i := 161) rfl) rfl, mALL (in_t1 (i := 1) rfl) rfl⟩
set_option maxRecDepth 40000 in
theorem cv_109 : ceV 109 := ⟨mALL (in_t3 (i := 159) rfl) rfl, mALL (in_t3 (i := 160) rfl) rfl⟩
set_option maxRecDepth 40000 in
theorem cb_110 : ceB 110 2 := ⟨by decide +kernel, by decide +kernel, by decide +kernel, by decide +kernel, mALL (in_t3 (i := 165) rfl) rfl, mALL (in_t1 (i := 1) rfl) rfl⟩
set_option maxRecDepth 40000 in
theorem cv_110 : ceV 110 := ⟨mALL (in_t3 (i := 163) rfl) rfl, mALL (in_t3 (i := 164) rfl) rfl⟩
set_option maxRecDepth 40000 in
theorem cb_111 : ceB 111 2 := ⟨by decide +kernel, by decide +kernel, by decide +kernel, by decide +kernel, mALL (in_t3 (i := 169) rfl) rfl, mALL (in_t1 (i := 1) rfl) rfl⟩
set_option maxRecDepth 40000 in
theorem cv_111 : ceV 111 := ⟨mALL (in_t3 (i := 167) rfl) rfl, mALL (in_t3 (i := 168) rfl) rfl⟩
set_option maxRecDepth 40000 in
theorem cb_112 : ceB 112 0 := ⟨by decide +kernel, by decide +kernel, by decide +kernel, by decide +kernel, mALL (in_t3 (i := 223) rfl) rfl, mALL (in_t1 (i := 1) rfl) rfl⟩
set_option maxRecDepth 40000 in
theorem cv_112 : ceV 112 := ⟨mALL (in_t3 (i := 221) rfl) rfl, mALL (in_t3 (i := 222) rfl) rfl⟩
set_option maxRecDepth 40000 in
theorem cb_113 : ceB 113 1 := ⟨by decide +kernel, by decide +kernel, by decide +kernel, by decide +kernel, mALL (in_t3 (i := 227) rfl) rfl, mALL (in_t1 (i := 1) rfl) rfl⟩
set_option maxRecDepth 40000 in
theorem cv_113 : ceV 113 := ⟨mALL (in_t3 (i := 225) rfl) rfl, mALL (in_t3 (i := 226) rfl) rfl⟩
set_option maxRecDepth 40000 in
theorem cb_114 : ceB 114 1 := ⟨by decide +kernel, by decide +kernel, by decide +kernel, by decide +kernel, mALL (in_t3 (i := 235) rfl) rfl, mALL (in_t1 (i := 1) rfl) rfl⟩
set_option maxRecDepth 40000 in
theorem cv_114 : ceV 114 := ⟨mALL (in_t3 (i := 233) rfl) rfl, mALL (in_t3 (i := 234) rfl) rfl⟩
set_option maxRecDepth 40000 in
theorem cb_115 : ceB 115 0 := ⟨by decide +kernel, by decide +kernel, by decide +kernel, by decide +kernel, mALL (in_t4 (i := 6) rfl) rfl, mALL (in_t1 (i := 1) rfl) rfl⟩
set_option maxRecDepth 40000 in
theorem cv_115 : ceV 115 := ⟨mALL (in_t4 (i := 4) rfl) rfl, mALL (in_t4 (i := 5) rfl) rfl⟩
set_option maxRecDepth 40000 in
theorem cb_116 : ceB 116 1 := ⟨by decide +kernel, by decide +kernel, by decide +kernel, by decide +kernel, mALL (in_t4 (i := 12) rfl) rfl, mALL (in_t1 (i := 1) rfl) rfl⟩
set_option maxRecDepth 40000 in
theorem cv_116 : ceV 116 := ⟨mALL (in_t4 (i := 10) rfl) rfl, mALL (in_t4 (i := 11) rfl) rfl⟩
set_option maxRecDepth 40000 in
theorem cb_117 : ceB 117 2 := ⟨by decide +kernel, by decide +kernel, by decide +kernel, by decide +kernel, mALL (in_t4 (i := 21) rfl) rfl, mALL (in_t1 (i := 1) rfl) rfl⟩
set_option maxRecDepth 40000 in
theorem cv_117 : ceV 117 := ⟨mALL (in_t4 (i := 19) rfl) rfl, mALL (in_t4 (i := 20) rfl) rfl⟩
set_option maxRecDepth 40000 in
theorem cb_118 : ceB 118 2 := ⟨by decide +kernel, by decide +kernel, by decide +kernel, by decide +kernel, mALL (in_t4 (i := 25) rfl) rfl, mALL (in_t1 (i := 1) rfl) rfl⟩
set_option maxRecDepth 40000 in
theorem cv_118 : ceV 118 := ⟨mALL (in_t4 (i := 23) rfl) rfl, mALL (in_t4 (i := 24) rfl) rfl⟩
set_option maxRecDepth 40000 in
theorem cb_119 : ceB 119 0 := ⟨by decide +kernel, by decide +kernel, by decide +kernel, by decide +kernel, mALL (in_t4 (i := 36) rfl) rfl, mALL (in_t1 (i := 1) rfl) rfl⟩
set_option maxRecDepth 40000 in
theorem cv_119 : ceV 119 := ⟨mALL (in_t4 (i := 34) rfl) rfl, mALL (in_t4 (i := 35) rfl) rfl⟩
set_option maxRecDepth 40000 in
theorem cb_120 : ceB 120 0 := ⟨by decide +kernel, by decide +kernel, by decide +kernel, by decide +kernel, mALL (in_t4 (i := 44) rfl) rfl, mALL (in_t1 (i := 1) rfl) rfl⟩
set_option maxRecDepth 40000 in
theorem cv_120 : ceV 120 := ⟨mALL (in_t4 (i := 42) rfl) rfl, mALL (in_t4 (i := 43) rfl) rfl⟩
set_option maxRecDepth 40000 in
theorem cb_121 : ceB 121 0 := ⟨by decide +kernel, by decide +kernel, by decide +kernel, by decide +kernel, mALL (in_t4 (i := 70) rfl) rfl, mALL (in_t1 (i := 1) rfl) rfl⟩
set_option maxRecDepth 40000 in
theorem cv_121 : ceV 121 := ⟨mALL (in_t4 (i := 68) rfl) rfl, mALL (in_t4 (i := 69) rfl) rfl⟩
set_option maxRecDepth 40000 in
theorem cb_122 : ceB 122 3 := ⟨by decide +kernel, by decide +kernel, by decide +kernel, by decide +kernel, mALL (in_t4 (i := 78) rfl) rfl, mALL (in_t1 (i := 1) rfl) rfl⟩
set_option maxRecDepth 40000 in
theorem cv_122 : ceV 122 := ⟨mALL (in_t4 (i := 76) rfl) rfl, mALL (in_t4 (i := 77) rfl) rfl⟩
set_option maxRecDepth 40000 in
theorem cb_123 : ceB 123 0 := ⟨by decide +kernel, by decide +kernel, by decide +kernel, by decide +kernel, mALL (in_t4 (i := 82) rfl) rfl, mALL (in_t1 (i := 1) rfl) rfl⟩
set_option maxRecDepth 40000 in
theorem cv_123 : ceV 123 := ⟨mALL (in_t4 (i := 80) rfl) rfl, mALL (in_t4 (i := 81) rfl) rfl⟩
set_option maxRecDepth 40000 in
theorem cb_124 : ceB 124 0 := ⟨by decide +kernel, by decide +kernel, by decide +kernel, by decide +kernel, mALL (in_t4 (i := 86) rfl) rfl, mALL (in_t1 (i := 1) rfl) rfl⟩
set_option maxRecDepth 40000 in
theorem cv_124 : ceV 124 := ⟨mALL (in_t4 (i := 84) rfl) rfl, mALL (in_t4 (i := 85) rfl) rfl⟩
set_option maxRecDepth 40000 in
theorem cb_125 : ceB 125 0 := ⟨by decide +kernel, by decide +kernel, by decide +kernel, by decide +kernel, mALL (in_t4 (i := 106) rfl) rfl, mALL (in_t1 (i := 1) rfl) rfl⟩
set_option maxRecDepth 40000 in
theorem cv_125 : ceV 125 := ⟨mALL (in_t4 (i := 104) rfl) rfl, mALL (in_t4 (i := 105) rfl) rfl⟩
set_option maxRecDepth 40000 in
theorem cb_126 : ceB 126 2 := ⟨by decide +kernel, by decide +kernel, by decide +kernel, by decide +kernel, mALL (in_t4 (i := 114) rfl) rfl, mALL (in_t1 (i := 1) rfl) rfl⟩
set_option maxRecDepth 40000 in
theorem cv_126 : ceV 126 := ⟨mALL (in_t4 (i := 112) rfl) rfl, mALL (in_t4 (i := 113) rfl) rfl⟩
set_option maxRecDepth 40000 in
theorem cb_127 : ceB 127 3 := ⟨by decide +kernel, by decide +kernel, by decide +kernel, by decide +kernel, mALL (in_t4 (i := 123) rfl) rfl, mALL (in_t1 (i := 1) rfl) rfl⟩
set_option maxRecDepth 40000 in
theorem cv_127 : ceV 127 := ⟨mALL (in_t4 (i := 121) rfl) rfl, mALL (in_t4 (i := 122) rfl) rfl⟩
set_option maxRecDepth 40000 in
theorem cb_128 : ceB 128 1 := ⟨by decide +kernel, by decide +kernel, by decide +kernel, by decide +kernel, mALL (in_t4 (i := 130) rfl) rfl, mALL (in_t1 (i := 1) rfl) rfl⟩
set_option maxRecDepth 40000 in
theorem cv_128 : ceV 128 := ⟨mALL (in_t4 (i := 128) rfl) rfl, mALL (in_t4 (i := 129) rfl) rfl⟩
set_option maxRecDepth 40000 in
theorem cb_129 : ceB 129 0 := ⟨by decide +kernel, by decide +kernel, by decide +kernel, by decide +kernel, mALL (in_t4 (i := 140) rfl) rfl, mALL (in_t1 (i := 1) rfl) rfl⟩
set_option maxRecDepth 40000 in
theorem cv_129 : ceV 129 := ⟨mALL (in_t4 (i := 138) rfl) rfl, mALL (in_t4 (i := 139) rfl) rfl⟩
set_option maxRecDepth 40000 in
theorem cb_130 : ceB 130 2 := ⟨by decide +kernel, by decide +kernel, by decide +kernel, by decide +kernel, mALL (in_t4 (i := 148) rfl) rfl, mALL (in_t1 (i := 1) rfl) rfl⟩
set_option maxRecDepth 40000 in
theorem cv_130 : ceV 130 := ⟨mALL (in_t4 (i := 146) rfl) rfl, mALL (in_t4 (i := 147) rfl) rfl⟩
set_option maxRecDepth 40000 in
theorem cb_131 : ceB 131 1 := ⟨by decide +kernel, by decide +kernel, by decide +kernel, by decide +kernel, mALL (in_t4 (i := 166) rfl) rfl, mALL (in_t1 (i := 1) rfl) rfl⟩
set_option maxRecDepth 40000 in
theorem cv_131 : ceV 131 := ⟨mALL (in_t4 (i := 164) rfl) rfl, mALL (in_t4 (i := 165) rfl) rfl⟩
set_option maxRecDepth 40000 in
theorem cb_132 : ceB 132 1 := ⟨by decide +kernel, by decide +kernel, by decide +kernel, by decide +kernel, mALL (in_t4 (i := 174) rfl) rfl, mALL (in_t1 (i := 1) rfl) rfl⟩
set_option maxRecDepth 40000 in
theorem cv_132 : ceV 132 := ⟨mALL (in_t4 (i := 172) rfl) rfl, mALL (in_t4 (i := 173) rfl) rfl⟩
set_option maxRecDepth 40000 in
theorem cb_133 : ceB 133 1 := ⟨by decide +kernel, by decide +kernel, by decide +kernel, by decide +kernel, mALL (in_t4 (i := 178) rfl) rfl, mALL (in_t1 (i := 1) rfl) rfl⟩
set_option maxRecDepth 40000 in
theorem cv_133 : ceV 133 := ⟨mALL (in_t4 (i := 176) rfl) rfl, mALL (in_t4 (i := 177) rfl) rfl⟩
set_option maxRecDepth 40000 in
theorem cb_134 : ceB 134 1 := ⟨by decide +kernel, by decide +kernel, by decide +kernel, by decide +kernel, mALL (in_t5 (i := 36) rfl) rfl, mALL (in_t1 (i := 1) rfl) rfl⟩
set_option maxRecDepth 40000 in
theorem cv_134 : ceV 134 := ⟨mALL (in_t5 (i := 34) rfl) rfl, mALL (in_t5 (i := 35) rfl) rfl⟩
set_option maxRecDepth 40000 in
theorem cb_135 : ceB 135 1 := ⟨by decide +kernel, by decide +kernel, by decide +kernel, by decide +kernel, mALL (in_t2 (i := 95) rfl) rfl, mALL (in_t1 (i := 1) rfl) rfl⟩
set_option maxRecDepth 40000 in
theorem cv_135 : ceV 135 := ⟨mALL (in_t2 (i := 94) rfl) rfl, mSEL (in_sel (i := 10) rfl) rfl⟩
set_option maxRecDepth 40000 in
theorem cb_136 : ceB 136 1 := ⟨by decide +kernel, by decide +kernel, by decide +kernel, by decide +kernel, mALL (in_t2 (i := 100) rfl) rfl, mALL (in_t1 (i := 1) rfl) rfl⟩
set_option maxRecDepth 40000 in
theorem cv_136 : ceV 136 := ⟨mALL (in_t2 (i := 99) rfl) rfl, mSEL (in_sel (i := 11) rfl) rfl⟩
set_option maxRecDepth 40000 in
theorem cb_137 : ceB 137 0 := ⟨by decide +kernel, by decide +kernel, by decide +kernel, by decide +kernel, mALL (in_t2 (i := 135) rfl) rfl, mALL (in_t1 (i := 1) rfl) rfl⟩
set_option maxRecDepth 40000 in
theorem cv_137 : ceV 137 := ⟨mALL (in_t2 (i := 134) rfl) rfl, mSEL (in_sel (i := 17) rfl) rfl⟩
set_option maxRecDepth 40000 in
theorem cb_138 : ceB 138 1 := ⟨by decide +kernel, by decide +kernel, by decide +kernel, by decide +kernel, mALL (in_t3 (i := 70) rfl) rfl, mALL (in_t1 (i := 1) rfl) rfl⟩
set_option maxRecDepth 40000 in
theorem cv_138 : ceV 138 := ⟨mALL (in_t3 (i := 69) rfl) rfl, mSEL (in_sel (i := 46) rfl) rfl⟩
set_option maxRecDepth 40000 in
theorem cb_139 : ceB 139 3 := ⟨by decide +kernel, by decide +kernel, by decide +kernel, by decide +kernel, mALL (in_t3 (i := 76) rfl) rfl, mALL (in_t1 (i := 1) rfl) rfl⟩
set_option maxRecDepth 40000 in
theorem cs_139 : ceS 139 := mALL (in_t3 (i := 75) rfl) rfl
set_option maxRecDepth 40000 in
theorem cb_140 : ceB 140 1 := ⟨by decide +kernel, by decide +kernel, by decide +kernel, by decide +kernel, mALL (in_t3 (i := 73) rfl) rfl, mALL (in_t1 (i := 1) rfl) rfl⟩
set_option maxRecDepth 40000 in
theorem cs_140 : ceS 140 := mALL (in_t3 (i := 72) rfl) rfl
set_option maxRecDepth 40000 in
theorem cb_141 : ceB 141 1 := ⟨by decide +kernel, by decide +kernel, by decide +kernel, by decide +kernel, mALL (in_t3 (i := 80) rfl) rfl, mALL (in_t1 (i := 1) rfl) rfl⟩
set_option maxRecDepth 40000 in
theorem cv_141 : ceV 141 := ⟨mALL (in_t3 (i := 79) rfl) rfl, mSEL (in_sel (i := 47) rfl) rfl⟩
set_option maxRecDepth 40000 in
theorem cb_142 : ceB 142 1 := ⟨by decide +kernel, by decide +kernel, by decide +kernel, by decide +kernel, mALL (in_t1 (i := 229) rfl) rfl, mALL (in_t1 (i := 1) rfl) rfl⟩
set_option maxRecDepth 40000 in
theorem cs_142 : ceS 142 := mALL (in_t1 (i := 228) rfl) rfl
set_option maxRecDepth 40000 in
theorem cb_143 : ceB 143 1 := ⟨by decide +kernel, by decide +kernel, by decide +kernel, by decide +kernel, mALL (in_t2 (i := 107) rfl) rfl, mALL (in_t1 (i := 1) rfl) rfl⟩
set_option maxRecDepth 40000 in
theorem cs_143 : ceS 143 := mALL (in_t2 (i := 106) rfl) rfl
set_option maxRecDepth 40000 in
theorem cb_144 : ceB 144 1 := ⟨by decide +kernel, by decide +kernel, by decide +kernel, by decide +kernel, mALL (in_t2 (i := 115) rfl) rfl, mALL (in_t1 (i := 1) rfl) rfl⟩
set_option maxRecDepth 40000 in
theorem cs_144 : ceS 144 := mALL (in_t2 (i := 114) rfl) rfl
set_option maxRecDepth 40000 in
theorem cb_145 : ceB 145 2 := ⟨by decide +kernel, by decide +kernel, by decide +kernel, by decide +kernel, mALL (in_t2 (i := 195) rfl) rfl, mALL (in_t1 (i := 1) rfl) rfl⟩
set_option maxRecDepth 40000 in
theorem cs_145 : ceS 145 := mALL (in_t2 (i := 194) rfl) rfl
set_option maxRecDepth 40000 in
theorem cb_146 : ceB 146 1 := ⟨by decide +kernel, by decide +kernel, by decide +kernel, by decide +kernel, mALL (in_t4 (i := 170) rfl) rfl, mALL (in_t1 (i := 1) rfl) rfl⟩
set_option maxRecDepth 40000 in
theorem cv_146 : ceV 146 := ⟨mALL (in_t4 (i := 169) rfl) rfl, mSEL (in_sel (i := 79) rfl) rfl⟩
set_option maxRecDepth 40000 in
theorem cb_147 : ceB 147 3 := ⟨by decide +kernel, by decide +kernel, by decide +kernel, by decide +kernel, mALL (in_t3 (i := 157) rfl) rfl, mALL (in_t1 (i := 1) rfl) rfl⟩
set_option maxRecDepth 40000 in
theorem cv_147 : ceV 147 := ⟨mALL (in_t3 (i := 156) rfl) rfl, mSEL (in_sel (i := 52) rfl) rfl⟩
set_option maxRecDepth 40000 in
theorem cb_148 : ceB 148 1 := ⟨by decide +kernel, by decide +kernel, by decide +kernel, by decide +kernel, mALL (in_t3 (i := 215) rfl) rfl, mALL (in_t1 (i := 1) rfl) rfl⟩
set_option maxRecDepth 40000 in
theorem cv_148 : ceV 148 := ⟨mALL (in_t3 (i := 214) rfl) rfl, mSEL (in_sel (i := 61) rfl) rfl⟩
set_option maxRecDepth 40000 in
theorem cb_149 : ceB 149 0 := ⟨by decide +kernel, by decide +kernel, by decide +kernel, by decide +kernel, mALL (in_t3 (i := 231) rfl) rfl, mALL (in_t1 (i := 1) rfl) rfl⟩
set_option maxRecDepth 40000 in
theorem cv_149 : ceV 149 := ⟨mALL (in_t3 (i := 230) rfl) rfl, mSEL (in_sel (i := 63) rfl) rfl⟩
set_option maxRecDepth 40000 in
theorem cb_150 : ceB 150 1 := ⟨by decide +kernel, by decide +kernel, by decide +kernel, by decide +kernel, mALL (in_t4 (i := 144) rfl) rfl, mALL (in_t1 (i := 1) rfl) rfl⟩
set_option maxRecDepth 40000 in
theorem cv_150 : ceV 150 := ⟨mALL (in_t4 (i := 143) rfl) rfl, mSEL (in_sel (i := 75) rfl) rfl⟩
set_option maxRecDepth 40000 in
theorem cb_151 : ceB 151 0 := ⟨by decide +kernel, by decide +kernel, by decide +kernel, by decide +kernel, mALL (in_t4 (i := 152) rfl) rfl, mALL (in_t1 (i := 1) rfl) rfl⟩
set_option maxRecDepth 40000 in
theorem cv_151 : ceV 151 := ⟨mALL (in_t4 (i := 151) rfl) rfl, mSEL (in_sel (i := 76) rfl) rfl⟩
set_option maxRecDepth 40000 in
theorem cb_152 : ceB 152 1 := ⟨by decide +kernel, by decide +kernel, by decide +kernel, by decide +kernel, mALL (in_t4 (i := 156) rfl) rfl, mALL (in_t1 (i := 1) rfl) rfl⟩
set_option maxRecDepth 40000 in
theorem cv_152 : ceV 152 := ⟨mALL (in_t4 (i := 155) rfl) rfl, mSEL (in_sel (i := 77) rfl) rfl⟩
set_option maxRecDepth 40000 in
theorem cb_153 : ceB 153 0 := ⟨by decide +kernel, by decide +kernel, by decide +kernel, by decide +kernel, mALL (in_t4 (i := 187) rfl) rfl, mALL (in_t1 (i := 1) rfl) rfl⟩
set_option maxRecDepth 40000 in
theorem cv_153 : ceV 153 := ⟨mALL (in_t4 (i := 186) rfl) rfl, mSEL (in_sel (i := 81) rfl) rfl⟩
set_option maxRecDepth 40000 in
theorem cb_154 : ceB 154 0 := ⟨by decide +kernel, by decide +kernel, by decide +kernel, by decide +kernel, mALL (in_t4 (i := 191) rfl) rfl, mALL (in_t1 (i := 1) rfl) rfl⟩
set_option maxRecDepth 40000 in
theorem cv_154 : ceV 154 := ⟨mALL (in_t4 (i := 190) rfl) rfl, mSEL (in_sel (i := 82) rfl) rfl⟩
set_option maxRecDepth 40000 in
theorem cb_155 : ceB 155 1 := ⟨by decide +kernel, by decide +kernel, by decide +kernel, by decide +kernel, mALL (in_t4 (i := 74) rfl) rfl, mALL (in_t1 (i := 1) rfl) rfl⟩
set_option maxRecDepth 40000 in
theorem cv_155 : ceV 155 := ⟨mALL (in_t4 (i := 73) rfl) rfl, mSEL (in_sel (i := 71) rfl) rfl⟩
set_option maxRecDepth 40000 in
theorem cb_156 : ceB 156 1 := ⟨by decide +kernel, by decide +kernel, by decide +kernel, by decide +kernel, mALL (in_t4 (i := 28) rfl) rfl, mALL (in_t1 (i := 1) rfl) rfl⟩
set_option maxRecDepth 40000 in
theorem cs_156 : ceS 156 := mALL (in_t4 (i := 27) rfl) rfl
set_option maxRecDepth 40000 in
theorem cb_157 : ceB 157 0 := ⟨by decide +kernel, by decide +kernel, by decide +kernel, by decide +kernel, mALL (in_t4 (i := 48) rfl) rfl, mALL (in_t1 (i := 1) rfl) rfl⟩
set_option maxRecDepth 40000 in
theorem cv_157 : ceV 157 := ⟨mALL (in_t4 (i := 47) rfl) rfl, mSEL (in_sel (i := 66) rfl) rfl⟩
set_option maxRecDepth 40000 in
theorem cb_158 : ceB 158 1 := ⟨by decide +kernel, by decide +kernel, by decide +kernel, by decide +kernel, mALL (in_t4 (i := 52) rfl) rfl, mALL (in_t1 (i := 1) rfl) rfl⟩
set_option maxRecDepth 40000 in
theorem cv_158 : ceV 158 := ⟨mALL (in_t4 (i := 51) rfl) rfl, mSEL (in_sel (i := 67) rfl) rfl⟩
set_option maxRecDepth 40000 in
theorem cb_159 : ceB 159 3 := ⟨by decide +kernel, by decide +kernel, by decide +kernel, by decide +kernel, mALL (in_t4 (i := 64) rfl) rfl, mALL (in_t1 (i := 1) rfl) rfl⟩
set_option maxRecDepth 40000 in
theorem cv_159 : ceV 159 := ⟨mALL (in_t4 (i := 63) rfl) rfl, mSEL (in_sel (i := 70) rfl) rfl⟩
set_option maxRecDepth 40000 in
theorem cb_160 : ceB 160 2 := ⟨by decide +kernel, by decide +kernel, by decide +kernel, by decide +kernel, mALL (in_t4 (i := 117) rfl) rfl, mALL (in_t1 (i := 1) rfl) rfl⟩
set_option maxRecDepth 40000 in
theorem cs_160 : ceS 160 := mALL (in_t4 (i := 116) rfl) rfl
set_option maxRecDepth 40000 in
theorem cb_161 : ceB 161 3 := ⟨by decide +kernel, by decide +kernel, by decide +kernel, by decide +kernel, mALL (in_t4 (i := 133) rfl) rfl, mALL (in_t1 (i := 1) rfl) rfl⟩
set_option maxRecDepth 40000 in
theorem cs_161 : ceS 161 := mALL (in_t4 (i := 132) rfl) rfl
set_option maxRecDepth 40000 in
theorem cb_162 : ceB 162 3 := ⟨by decide +kernel, by decide +kernel, by decide +kernel, by decide +kernel, mALL (in_t4 (i := 136) rfl) rfl, mALL (in_t1 (i := 1) rfl) rfl⟩
set_option maxRecDepth 40000 in
theorem cs_162 : ceS 162 := mALL (in_t4 (i := 135) rfl) rfl
set_option maxRecDepth 40000 in
theorem cb_163 : ceB 163 1 := ⟨by decide +kernel, by decide +kernel, by decide +kernel, by decide +kernel, mALL (in_t4 (i := 15) rfl) rfl, mALL (in_t1 (i := 1) rfl) rfl⟩
set_option maxRecDepth 40000 in
theorem cs_163 : ceS 163 := mALL (in_t4 (i := 14) rfl) rfl
set_option maxRecDepth 40000 in
theorem cb_164 : ceB 164 2 := ⟨by decide +kernel, by decide +kernel, by decide +kernel, by decide +kernel, mALL (in_t4 (i := 126) rfl) rfl, mALL (in_t1 (i := 1) rfl) rfl⟩
set_option maxRecDepth 40000 in
theorem cs_164 : ceS 164 := mALL (in_t4 (i := 125) rfl) rfl
set_option maxRecDepth 40000 in
theorem cb_165 : ceB 165 0 := ⟨by decide +kernel, by decide +kernel, by decide +kernel, by decide +kernel, mALL (in_t5 (i := 51) rfl) rfl, mALL (in_t1 (i := 11) rfl) rfl⟩
set_option maxRecDepth 40000 in
theorem ci_165 : ceI 165 := ⟨mALL (in_t5 (i := 50) rfl) rfl, by decide +kernel, by decide +kernel⟩
set_option maxRecDepth 40000 in
theorem cb_166 : ceB 166 0 := ⟨by decide +kernel, by decide +kernel, by decide +kernel, by decide +kernel, mALL (in_t5 (i := 180) rfl) rfl, mALL (in_t1 (i := 11) rfl) rfl⟩
set_option maxRecDepth 40000 in
theorem cv_166 : ceV 166 := ⟨mALL (in_t5 (i := 178) rfl) rfl, mALL (in_t5 (i := 179) rfl) rfl⟩
set_option maxRecDepth 40000 in
theorem cb_167 : ceB 167 3 := ⟨by decide +kernel, by decide +kernel, by decide +kernel, by decide +kernel, mALL (in_t5 (i := 191) rfl) rfl, mALL (in_t1 (i := 11) rfl) rfl⟩
set_option maxRecDepth 40000 in
theorem cs_167 : ceS 167 := mALL (in_t5 (i := 190) rfl) rfl
set_option maxRecDepth 40000 in
theorem cb_168 : ceB 168 2 := ⟨by decide +kernel, by decide +kernel, by decide +kernel, by decide +kernel, mALL (in_t7 (i := 20) rfl) rfl, mALL (in_t1 (i := 11) rfl) rfl⟩
set_option maxRecDepth 40000 in
theorem cs_168 : ceS 168 := mALL (in_t7 (i := 19) rfl) rfl
set_option maxRecDepth 40000 in
theorem cb_169 : ceB 169 0 := ⟨by decide +kernel, by decide +kernel, by decide +kernel, by decide +kernel, mALL (in_t6 (i := 34) rfl) rfl, mALL (in_t1 (i := 11) rfl) rfl⟩
set_option maxRecDepth 40000 in
theorem cv_169 : ceV 169 := ⟨mALL (in_t6 (i := 33) rfl) rfl, mSEL (in_sel (i := 103) rfl) rfl⟩
set_option maxRecDepth 40000 in
theorem cb_170 : ceB 170 1 := ⟨by decide +kernel, by decide +kernel, by decide +kernel, by decide +kernel, mALL (in_t6 (i := 115) rfl) rfl, mALL (in_t1 (i := 11) rfl) rfl⟩
set_option maxRecDepth 40000 in
theorem cv_170 : ceV 170 := ⟨mALL (in_t6 (i := 114) rfl) rfl, mSEL (in_sel (i := 114) rfl) rfl⟩
set_option maxRecDepth 40000 in
theorem cb_171 : ceB 171 1 := ⟨by decide +kernel, by decide +kernel, by decide +kernel, by decide +kernel, mALL (in_t6 (i := 30) rfl) rfl, mALL (in_t1 (i := 11) rfl) rfl⟩
set_option maxRecDepth 40000 in
theorem cv_171 : ceV 171 := ⟨mALL (in_t6 (i := 29) rfl) rfl, mSEL (in_sel (i := 102) rfl) rfl⟩
set_option maxRecDepth 40000 in
theorem cb_172 : ceB 172 2 := ⟨by decide +kernel, by decide +kernel, by decide +kernel, by decide +kernel, mALL (in_t6 (i := 45) rfl) rfl, mALL (in_t1 (i := 11) rfl) rfl⟩
set_option maxRecDepth 40000 in
theorem cv_172 : ceV 172 := ⟨mALL (in_t6 (i := 44) rfl) rfl, mSEL (in_sel (i := 104) rfl) rfl⟩
set_option maxRecDepth 40000 in
theorem cb_173 : ceB 173 1 := ⟨by decide +kernel, by decide +kernel, by decide +kernel, by decide +kernel, mALL (in_t6 (i := 126) rfl) rfl, mALL (in_t1 (i := 11) rfl) rfl⟩
set_option maxRecDepth 40000 in
theorem cs_173 : ceS 173 := mALL (in_t6 (i := 125) rfl) rfl
set_option maxRecDepth 40000 in
theorem cb_174 : ceB 174 0 := ⟨by decide +kernel, by decide +kernel, by decide +kernel, by decide +kernel, mALL (in_t7 (i := 17) rfl) rfl, mALL (in_t1 (i := 11) rfl) rfl⟩
set_option maxRecDepth 40000 in
theorem cv_174 : ceV 174 := ⟨mALL (in_t7 (i := 16) rfl) rfl, mSEL (in_sel (i := 126) rfl) rfl⟩
set_option maxRecDepth 40000 in
theorem cb_175 : ceB 175 3 := ⟨by decide +kernel, by decide +kernel, by decide +kernel, by decide +kernel, mALL (in_t6 (i := 37) rfl) rfl, mALL (in_t1 (i := 11) rfl) rfl⟩
set_option maxRecDepth 40000 in
theorem cs_175 : ceS 175 := mALL (in_t6 (i := 36) rfl) rfl
set_option maxRecDepth 40000 in
theorem cb_176 : ceB 176 2 := ⟨by decide +kernel, by decide +kernel, by decide +kernel, by decide +kernel, mALL (in_t6 (i := 52) rfl) rfl, mALL (in_t1 (i := 11) rfl) rfl⟩
set_option maxRecDepth 40000 in
theorem cs_176 : ceS 176 := mALL (in_t6 (i := 51) rfl) rfl
set_option maxRecDepth 40000 in
theorem cb_177 : ceB 177 1 := ⟨by decide +kernel, by decide +kernel, by decide +kernel, by decide +kernel, mALL (in_t5 (i := 184) rfl) rfl, mALL (in_t1 (i := 11) rfl) rfl⟩
set_option maxRecDepth 40000 in
theorem cv_177 : ceV 177 := ⟨mALL (in_t5 (i := 182) rfl) rfl, mALL (in_t5 (i := 183) rfl) rfl⟩
set_option maxRecDepth 40000 in
theorem cb_178 : ceB 178 1 := ⟨by decide +kernel, by decide +kernel, by decide +kernel, by decide +kernel, mALL (in_t5 (i := 188) rfl) rfl, mALL (in_t1 (i := 11) rfl) rfl⟩
set_option maxRecDepth 40000 in
theorem cv_178 : ceV 178 := ⟨mALL (in_t5 (i := 186) rfl) rfl, mALL (in_t5 (i := 187) rfl) rfl⟩
set_option maxRecDepth 40000 in
theorem cb_179 : ceB 179 3 := ⟨by decide +kernel, by decide +kernel, by decide +kernel, by decide +kernel, mALL (in_t5 (i := 203) rfl) rfl, mALL (in_t1 (i := 11) rfl) rfl⟩
set_option maxRecDepth 40000 in
theorem cv_179 : ceV 179 := ⟨mALL (in_t5 (i := 202) rfl) rfl, mSEL (in_sel (i := 88) rfl) rfl⟩
set_option maxRecDepth 40000 in
theorem cb_180 : ceB 180 1 := ⟨by decide +kernel, by decide +kernel, by decide +kernel, by decide +kernel, mALL (in_t5 (i := 199) rfl) rfl, mALL (in_t1 (i := 11) rfl) rfl⟩
set_option maxRecDepth 40000 in
theorem cv_180 : ceV 180 := ⟨mALL (in_t5 (i := 198) rfl) rfl, mSEL (in_sel (i := 87) rfl) rfl⟩
set_option maxRecDepth 40000 in
theorem cb_181 : ceB 181 0 := ⟨by decide +kernel, by decide +kernel, by decide +kernel, by decide +kernel, mALL (in_t5 (i := 219) rfl) rfl, mALL (in_t1 (i := 11) rfl) rfl⟩
set_option maxRecDepth 40000 in
theorem cv_181 : ceV 181 := ⟨mALL (in_t5 (i := 218) rfl) rfl, mSEL (in_sel (i := 92) rfl) rfl⟩
set_option maxRecDepth 40000 in
theorem cb_182 : ceB 182 0 := ⟨by decide +kernel, by decide +kernel, by decide +kernel, by decide +kernel, mALL (in_t5 (i := 207) rfl) rfl, mALL (in_t1 (i := 11) rfl) rfl⟩
set_option maxRecDepth 40000 in
theorem cv_182 : ceV 182 := ⟨mALL (in_t5 (i := 206) rfl) rfl, mSEL (in_sel (i := 89) rfl) rfl⟩
set_option maxRecDepth 40000 in
theorem cb_183 : ceB 183 1 := ⟨by decide +kernel, by decide +kernel, by decide +kernel, by decide +kernel, mALL (in_t5 (i := 211) rfl) rfl, mALL (in_t1 (i := 11) rfl) rfl⟩
set_option maxRecDepth 40000 in
theorem cv_183 : ceV 183 := ⟨mALL (in_t5 (i := 210) rfl) rfl, mSEL (in_sel (i := 90) rfl) rfl⟩
set_option maxRecDepth 40000 in
theorem cb_184 : ceB 184 1 := ⟨by decide +kernel, by decide +kernel, by decide +kernel, by decide +kernel, mALL (in_t5 (i := 223) rfl) rfl, mALL (in_t1 (i := 11) rfl) rfl⟩
set_option maxRecDepth 40000 in
theorem cv_184 : ceV 184 := ⟨mALL (in_t5 (i := 222) rfl) rfl, mSEL (in_sel (i := 93) rfl) rfl⟩
set_option maxRecDepth 40000 in
theorem cb_185 : ceB 185 1 := ⟨by decide +kernel, by decide +kernel, by decide +kernel, by decide +kernel, mALL (in_t6 (i := 15) rfl) rfl, mALL (in_t1 (i := 11) rfl) rfl⟩
set_option maxRecDepth 40000 in
theorem cv_185 : ceV 185 := ⟨mALL (in_t6 (i := 14) rfl) rfl, mSEL (in_sel (i := 100) rfl) rfl⟩
set_option maxRecDepth 40000 in
theorem cb_186 : ceB 186 2 := ⟨by decide +kernel, by decide +kernel, by decide +kernel, by decide +kernel, mALL (in_t5 (i := 215) rfl) rfl, mALL (in_t1 (i := 11) rfl) rfl⟩
set_option maxRecDepth 40000 in
theorem cv_186 : ceV 186 := ⟨mALL (in_t5 (i := 214) rfl) rfl, mSEL (in_sel (i := 91) rfl) rfl⟩
set_option maxRecDepth 40000 in
theorem cb_187 : ceB 187 1 := ⟨by decide +kernel, by decide +kernel, by decide +kernel, by decide +kernel, mALL (in_t6 (i := 19) rfl) rfl, mALL (in_t1 (i := 11) rfl) rfl⟩
set_option maxRecDepth 40000 in
theorem cv_187 : ceV 187 := ⟨mALL (in_t6 (i := 18) rfl) rfl, mSEL (in_sel (i := 101) rfl) rfl⟩
set_option maxRecDepth 40000 in
theorem cb_188 : ceB 188 0 := ⟨by decide +kernel, by decide +kernel, by decide +kernel, by decide +kernel, mALL (in_t5 (i := 227) rfl) rfl, mALL (in_t1 (i := 11) rfl) rfl⟩
set_option maxRecDepth 40000 in
theorem cv_188 : ceV 188 := ⟨mALL (in_t5 (i := 226) rfl) rfl, mSEL (in_sel (i := 94) rfl) rfl⟩
set_option maxRecDepth 40000 in
theorem cb_189 : ceB 189 0 := ⟨by decide +kernel, by decide +kernel, by decide +kernel, by decide +kernel, mALL (in_t5 (i := 195) rfl) rfl, mALL (in_t1 (i := 11) rfl) rfl⟩
set_option maxRecDepth 40000 in
theorem cv_189 : ceV 189 := ⟨mALL (in_t5 (i := 193) rfl) rfl, mALL (in_t5 (i := 194) rfl) rfl⟩
set_option maxRecDepth 40000 in
theorem cb_190 : ceB 190 1 := ⟨by decide +kernel, by decide +kernel, by decide +kernel, by decide +kernel, mALL (in_t5 (i := 239) rfl) rfl, mALL (in_t1 (i := 11) rfl) rfl⟩
set_option maxRecDepth 40000 in
theorem cv_190 : ceV 190 := ⟨mALL (in_t5 (i := 238) rfl) rfl, mSEL (in_sel (i := 96) rfl) rfl⟩
set_option maxRecDepth 40000 in
theorem cb_191 : ceB 191 1 := ⟨by decide +kernel, by decide +kernel, by decide +kernel, by decide +kernel, mALL (in_t6 (i := 3) rfl) rfl, mALL (in_t1 (i := 11) rfl) rfl⟩
set_option maxRecDepth 40000 in
theorem cv_191 : ceV 191 := ⟨mALL (in_t6 (i := 2) rfl) rfl, mSEL (in_sel (i := 97) rfl) rfl⟩
set_option maxRecDepth 40000 in
theorem cb_192 : ceB 192 1 := ⟨by decide +kernel, by decide +kernel, by decide +kernel, by decide +kernel, mALL (in_t6 (i := 7) rfl) rfl, mALL (in_t1 (i := 11) rfl) rfl⟩
set_option maxRecDepth 40000 in
theorem cv_192 : ceV 192 := ⟨mALL (in_t6 (i := 6) rfl) rfl, mSEL (in_sel (i := 98) rfl) rfl⟩
set_option maxRecDepth 40000 in
theorem cb_193 : ceB 193 1 := ⟨by decide +kernel, by decide +kernel, by decide +kernel, by decide +kernel, mALL (in_t6 (i := 22) rfl) rfl, mALL (in_t1 (i := 11) rfl) rfl⟩
set_option maxRecDepth 40000 in
theorem cs_193 : ceS 193 := mALL (in_t6 (i := 21) rfl) rfl
set_option maxRecDepth 40000 in
theorem cb_194 : ceB 194 1 := ⟨by decide +kernel, by decide +kernel, by decide +kernel, by decide +kernel, mALL (in_t6 (i := 11) rfl) rfl, mALL (in_t1 (i := 11) rfl) rfl⟩
set_option maxRecDepth 40000 in
theorem cv_194 : ceV 194 := ⟨mALL (in_t6 (i := 10) rfl) rfl, mSEL (in_sel (i := 99) rfl) rfl⟩
set_option maxRecDepth 40000 in
theorem cb_195 : ceB 195 0 := ⟨by decide +kernel, by decide +kernel, by decide +kernel, by decide +kernel, mALL (in_t5 (i := 235) rfl) rfl, mALL (in_t1 (i := 11) rfl) rfl⟩
set_option maxRecDepth 40000 in
theorem cv_195 : ceV 195 := ⟨mALL (in_t5 (i := 234) rfl) rfl, mSEL (in_sel (i := 95) rfl) rfl⟩
set_option maxRecDepth 40000 in
theorem cb_196 : ceB 196 0 := ⟨by decide +kernel, by decide +kernel, by decide +kernel, by decide +kernel, mALL (in_t5 (i := 231) rfl) rfl, mALL (in_t1 (i := 11) rfl) rfl⟩
set_option maxRecDepth 40000 in
theorem cv_196 : ceV 196 := ⟨mALL (in_t5 (i := 229) rfl) rfl, mALL (in_t5 (i := 230) rfl) rfl⟩
set_option maxRecDepth 40000 in
theorem cb_197 : ceB 197 3 := ⟨by decide +kernel, by decide +kernel, by decide +kernel, by decide +kernel, mALL (in_t6 (i := 49) rfl) rfl, mALL (in_t1 (i := 11) rfl) rfl⟩
set_option maxRecDepth 40000 in
theorem cv_197 : ceV 197 := ⟨mALL (in_t6 (i := 48) rfl) rfl, mSEL (in_sel (i := 105) rfl) rfl⟩
set_option maxRecDepth 40000 in
theorem cb_198 : ceB 198 2 := ⟨by decide +kernel, by decide +kernel, by decide +kernel, by decide +kernel, mALL (in_t6 (i := 26) rfl) rfl, mALL (in_t1 (i := 11) rfl) rfl⟩
set_option maxRecDepth 40000 in
theorem cv_198 : ceV 198 := ⟨mALL (in_t6 (i := 24) rfl) rfl, mALL (in_t6 (i := 25) rfl) rfl⟩
set_option maxRecDepth 40000 in
theorem cb_199 : ceB 199 2 := ⟨by decide +kernel, by decide +kernel, by decide +kernel, by decide +kernel, mALL (in_t6 (i := 41) rfl) rfl, mALL (in_t1 (i := 11) rfl) rfl⟩
set_option maxRecDepth 40000 in
theorem cv_199 : ceV 199 := ⟨mALL (in_t6 (i := 39) rfl) rfl, mALL (in_t6 (i := 40) rfl) rfl⟩
set_option maxRecDepth 40000 in
theorem cb_200 : ceB 200 1 := ⟨by decide +kernel, by decide +kernel, by decide +kernel, by decide +kernel, mALL (in_t6 (i := 58) rfl) rfl, mALL (in_t1 (i := 11) rfl) rfl⟩
set_option maxRecDepth 40000 in
theorem cv_200 : ceV 200 := ⟨mALL (in_t6 (i := 56) rfl) rfl, mALL (in_t6 (i := 57) rfl) rfl⟩
set_option maxRecDepth 40000 in
theorem cb_201 : ceB 201 2 := ⟨by decide +kernel, by decide +kernel, by decide +kernel, by decide +kernel, mALL (in_t6 (i := 66) rfl) rfl, mALL (in_t1 (i := 11) rfl) rfl⟩
set_option maxRecDepth 40000 in
theorem cv_201 : ceV 201 := ⟨mALL (in_t6 (i := 65) rfl) rfl, mSEL (in_sel (i := 106) rfl) rfl⟩
set_option maxRecDepth 40000 in
theorem cb_202 : ceB 202 4 := ⟨by decide +kernel, by decide +kernel, by decide +kernel, by decide +kernel, mALL (in_t6 (i := 62) rfl) rfl, mALL (in_t1 (i := 11) rfl) rfl⟩
set_option maxRecDepth 40000 in
theorem cv_202 : ceV 202 := ⟨mALL (in_t6 (i := 60) rfl) rfl, mALL (in_t6 (i := 61) rfl) rfl⟩
set_option maxRecDepth 40000 in
theorem cb_203 : ceB 203 3 := ⟨by decide +kernel, by decide +kernel, by decide +kernel, by decide +kernel, mALL (in_t6 (i := 84) rfl) rfl, mALL (in_t1 (i := 11) rfl) rfl⟩
set_option maxRecDepth 40000 in
theorem cs_203 : ceS 203 := mALL (in_t6 (i := 83) rfl) rfl
set_option maxRecDepth 40000 in
theorem cb_204 : ceB 204 1 := ⟨by decide +kernel, by decide +kernel, by decide +kernel, by decide +kernel, mALL (in_t6 (i := 81) rfl) rfl, mALL (in_t1 (i := 11) rfl) rfl⟩
set_option maxRecDepth 40000 in
theorem cv_204 : ceV 204 := ⟨mALL (in_t6 (i := 80) rfl) rfl, mSEL (in_sel (i := 108) rfl) rfl⟩
set_option maxRecDepth 40000 in
theorem cb_205 : ceB 205 2 := ⟨by decide +kernel, by decide +kernel, by decide +kernel, by decide +kernel, mALL (in_t6 (i := 91) rfl) rfl, mALL (in_t1 (i := 11) rfl) rfl⟩
set_option maxRecDepth 40000 in
theorem cs_205 : ceS 205 := mALL (in_t6 (i := 90) rfl) rfl
set_option maxRecDepth 40000 in
theorem cb_206 : ceB 206 3 := ⟨by decide +kernel, by decide +kernel, by decide +kernel, by decide +kernel, mALL (in_t6 (i := 74) rfl) rfl, mALL (in_t1 (i := 11) rfl) rfl⟩
set_option maxRecDepth 40000 in
theorem cv_206 : ceV 206 := ⟨mALL (in_t6 (i := 73) rfl) rfl, mSEL (in_sel (i := 107) rfl) rfl⟩
set_option maxRecDepth 40000 in
theorem cb_207 : ceB 207 3 := ⟨by decide +kernel, by decide +kernel, by decide +kernel, by decide +kernel, mALL (in_t6 (i := 88) rfl) rfl, mALL (in_t1 (i := 11) rfl) rfl⟩
set_option maxRecDepth 40000 in
theorem cv_207 : ceV 207 := ⟨mALL (in_t6 (i := 87) rfl) rfl, mSEL (in_sel (i := 109) rfl) rfl⟩
set_option maxRecDepth 40000 in
theorem cb_208 : ceB 208 2 := ⟨by decide +kernel, by decide +kernel, by decide +kernel, by decide +kernel, mALL (in_t6 (i := 70) rfl) rfl, mALL (in_t1 (i := 11) rfl) rfl⟩
set_option maxRecDepth 40000 in
theorem cv_208 : ceV 208 := ⟨mALL (in_t6 (i := 68) rfl) rfl, mALL (in_t6 (i := 69) rfl) rfl⟩
set_option maxRecDepth 40000 in
theorem cb_209 : ceB 209 2 := ⟨by decide +kernel, by decide +kernel, by decide +kernel, by decide +kernel, mALL (in_t6 (i := 107) rfl) rfl, mALL (in_t1 (i := 11) rfl) rfl⟩
set_option maxRecDepth 40000 in
theorem cv_209 : ceV 209 := ⟨mALL (in_t6 (i := 106) rfl) rfl, mSEL (in_sel (i := 112) rfl) rfl⟩
set_option maxRecDepth 40000 in
theorem cb_210 : ceB 210 1 := ⟨by decide +kernel, by decide +kernel, by decide +kernel, by decide +kernel, mALL (in_t6 (i := 103) rfl) rfl, mALL (in_t1 (i := 11) rfl) rfl⟩
set_option maxRecDepth 40000 in
theorem cv_210 : ceV 210 := ⟨mALL (in_t6 (i := 102) rfl) rfl, mSEL (in_sel (i := 111) rfl) rfl⟩
set_option maxRecDepth 40000 in
theorem cb_211 : ceB 211 2 := ⟨by decide +kernel, by decide +kernel, by decide +kernel, by decide +kernel, mALL (in_t6 (i := 99) rfl) rfl, mALL (in_t1 (i := 11) rfl) rfl⟩
set_option maxRecDepth 40000 in
theorem cv_211 : ceV 211 := ⟨mALL (in_t6 (i := 98) rfl) rfl, mSEL (in_sel (i := 110) rfl) rfl⟩
set_option maxRecDepth 40000 in
theorem cb_212 : ceB 212 2 := ⟨by decide +kernel, by decide +kernel, by decide +kernel, by decide +kernel, mALL (in_t6 (i := 111) rfl) rfl, mALL (in_t1 (i := 11) rfl) rfl⟩
set_option maxRecDepth 40000 in
theorem cv_212 : ceV 212 := ⟨mALL (in_t6 (i := 110) rfl) rfl, mSEL (in_sel (i := 113) rfl) rfl⟩
set_option maxRecDepth 40000 in
theorem cb_213 : ceB 213 1 := ⟨by decide +kernel, by decide +kernel, by decide +kernel, by decide +kernel, mALL (in_t6 (i := 95) rfl) rfl, mALL (in_t1 (i := 11) rfl) rfl⟩
set_option maxRecDepth 40000 in
theorem cv_213 : ceV 213 := ⟨mALL (in_t6 (i := 93) rfl) rfl, mALL (in_t6 (i := 94) rfl) rfl⟩
set_option maxRecDepth 40000 in
theorem cb_214 : ceB 214 4 := ⟨by decide +kernel, by decide +kernel, by decide +kernel, by decide +kernel, mALL (in_t6 (i := 123) rfl) rfl, mALL (in_t1 (i := 11) rfl) rfl⟩
set_option maxRecDepth 40000 in
theorem cv_214 : ceV 214 := ⟨mALL (in_t6 (i := 122) rfl) rfl, mSEL (in_sel (i := 115) rfl) rfl⟩
set_option maxRecDepth 40000 in
theorem cb_215 : ceB 215 4 := ⟨by decide +kernel, by decide +kernel, by decide +kernel, by decide +kernel, mALL (in_t6 (i := 129) rfl) rfl, mALL (in_t1 (i := 11) rfl) rfl⟩
set_option maxRecDepth 40000 in
theorem cs_215 : ceS 215 := mALL (in_t6 (i := 128) rfl) rfl
set_option maxRecDepth 40000 in
theorem cb_216 : ceB 216 3 := ⟨by decide +kernel, by decide +kernel, by decide +kernel, by decide +kernel, mALL (in_t6 (i := 119) rfl) rfl, mALL (in_t1 (i := 11) rfl) rfl⟩
set_option maxRecDepth 40000 in
theorem cv_216 : ceV 216 := ⟨mALL (in_t6 (i := 117) rfl) rfl, mALL (in_t6 (i := 118) rfl) rfl⟩
set_option maxRecDepth 40000 in
theorem cb_217 : ceB 217 2 := ⟨by decide +kernel, by decide +kernel, by decide +kernel, by decide +kernel, mALL (in_t6 (i := 137) rfl) rfl, mALL (in_t1 (i := 11) rfl) rfl⟩
set_option maxRecDepth 40000 in
theorem cv_217 : ceV 217 := ⟨mALL (in_t6 (i := 136) rfl) rfl, mSEL (in_sel (i := 116) rfl) rfl⟩
set_option maxRecDepth 40000 in
theorem cb_218 : ceB 218 2 := ⟨by decide +kernel, by decide +kernel, by decide +kernel, by decide +kernel, mALL (in_t6 (i := 141) rfl) rfl, mALL (in_t1 (i := 11) rfl) rfl⟩
set_option maxRecDepth 40000 in
theorem cv_218 : ceV 218 := ⟨mALL (in_t6 (i := 140) rfl) rfl, mSEL (in_sel (i := 117) rfl) rfl⟩
set_option maxRecDepth 40000 in
theorem cb_219 : ceB 219 2 := ⟨by decide +kernel, by decide +kernel, by decide +kernel, by decide +kernel, mALL (in_t6 (i := 133) rfl) rfl, mALL (in_t1 (i := 11) rfl) rfl⟩
set_option maxRecDepth 40000 in
theorem cv_219 : ceV 219 := ⟨mALL (in_t6 (i := 131) rfl) rfl, mALL (in_t6 (i := 132) rfl) rfl⟩
set_option maxRecDepth 40000 in
theorem cb_220 : ceB 220 0 := ⟨by decide +kernel, by decide +kernel, by decide +kernel, by decide +kernel, mALL (in_t6 (i := 145) rfl) rfl, mALL (in_t1 (i := 11) rfl) rfl⟩
set_option maxRecDepth 40000 in
theorem cv_220 : ceV 220 := ⟨mALL (in_t6 (i := 143) rfl) rfl, mALL (in_t6 (i := 144) rfl) rfl⟩
set_option maxRecDepth 40000 in
theorem cb_221 : ceB 221 1 := ⟨by decide +kernel, by decide +kernel, by decide +kernel, by decide +kernel, mALL (in_t6 (i := 149) rfl) rfl, mALL (in_t1 (i := 11) rfl) rfl⟩
set_option maxRecDepth 40000 in
theorem cv_221 : ceV 221 := ⟨mALL (in_t6 (i := 148) rfl) rfl, mSEL (in_sel (i := 118) rfl) rfl⟩
set_option maxRecDepth 40000 in
theorem cb_222 : ceB 222 1 := ⟨by decide +kernel, by decide +kernel, by decide +kernel, by decide +kernel, mALL (in_t6 (i := 153) rfl) rfl, mALL (in_t1 (i := 11) rfl) rfl⟩
set_option maxRecDepth 40000 in
theorem cv_222 : ceV 222 := ⟨mALL (in_t6 (i := 152) rfl) rfl, mSEL (in_sel (i := 119) rfl) rfl⟩
set_option maxRecDepth 40000 in
theorem cb_223 : ceB 223 0 := ⟨by decide +kernel, by decide +kernel, by decide +kernel, by decide +kernel, mALL (in_t6 (i := 157) rfl) rfl, mALL (in_t1 (i := 11) rfl) rfl⟩
set_option maxRecDepth 40000 in
theorem cv_223 : ceV 223 := ⟨mALL (in_t6 (i := 155) rfl) rfl, mALL (in_t6 (i := 156) rfl) rfl⟩
set_option maxRecDepth 40000 in
theorem cb_224 : ceB 224 1 := ⟨by decide +kernel, by decide +kernel, by decide +kernel, by decide +kernel, mALL (in_t6 (i := 161) rfl) rfl, mALL (in_t1 (i := 11) rfl) rfl⟩
set_option maxRecDepth 40000 in
theorem cv_224 : ceV 224 := ⟨mALL (in_t6 (i := 159) rfl) rfl, mALL (in_t6 (i := 160) rfl) rfl⟩
set_option maxRecDepth 40000 in
theorem cb_225 : ceB 225 2 := ⟨by decide +kernel, by decide +kernel, by decide +kernel, by decide +kernel, mALL (in_t6 (i := 172) rfl) rfl, mALL (in_t1 (i := 11) rfl) rfl⟩
set_option maxRecDepth 40000 in
theorem cs_225 : ceS 225 := mALL (in_t6 (i := 171) rfl) rfl
set_option maxRecDepth 40000 in
theorem cb_226 : ceB 226 2 := ⟨by decide +kernel, by decide +kernel, by decide +kernel, by decide +kernel, mALL (in_t6 (i := 169) rfl) rfl, mALL (in_t1 (i := 11) rfl) rfl⟩
set_option maxRecDepth 40000 in
theorem cv_226 : ceV 226 := ⟨mALL (in_t6 (i := 168) rfl) rfl, mSEL (in_sel (i := 120) rfl) rfl⟩
set_option maxRecDepth 40000 in
theorem cb_227 : ceB 227 1 := ⟨by decide +kernel, by decide +kernel, by decide +kernel, by decide +kernel, mALL (in_t6 (i := 165) rfl) rfl, mALL (in_t1 (i := 11) rfl) rfl⟩
set_option maxRecDepth 40000 in
theorem cv_227 : ceV 227 := ⟨mALL (in_t6 (i := 163) rfl) rfl, mALL (in_t6 (i := 164) rfl) rfl⟩
set_option maxRecDepth 40000 in
theorem cb_228 : ceB 228 2 := ⟨by decide +kernel, by decide +kernel, by decide +kernel, by decide +kernel, mALL (in_t6 (i := 176) rfl) rfl, mALL (in_t1 (i := 11) rfl) rfl⟩
set_option maxRecDepth 40000 in
theorem cv_228 : ceV 228 := ⟨mALL (in_t6 (i := 174) rfl) rfl, mALL (in_t6 (i := 175) rfl) rfl⟩
set_option maxRecDepth 40000 in
theorem cb_229 : ceB 229 2 := ⟨by decide +kernel, by decide +kernel, by decide +kernel, by decide +kernel, mALL (in_t6 (i := 183) rfl) rfl, mALL (in_t1 (i := 11) rfl) rfl⟩
set_option maxRecDepth 40000 in
theorem cs_229 : ceS 229 := mALL (in_t6 (i := 182) rfl) rfl
set_option maxRecDepth 40000 in
theorem cb_230 : ceB 230 1 := ⟨by decide +kernel, by decide +kernel, by decide +kernel, by decide +kernel, mALL (in_t6 (i := 180) rfl) rfl, mALL (in_t1 (i := 11) rfl) rfl⟩
set_option maxRecDepth 40000 in
theorem cv_230 : ceV 230 := ⟨mALL (in_t6 (i := 178) rfl) rfl, mALL (in_t6 (i := 179) rfl) rfl⟩
set_option maxRecDepth 40000 in
theorem cb_231 : ceB 231 0 := ⟨by decide +kernel, by decide +kernel, by decide +kernel, by decide +kernel, mALL (in_t6 (i := 187) rfl) rfl, mALL (in_t1 (i := 11) rfl) rfl⟩
set_option maxRecDepth 40000 in
theorem cv_231 : ceV 231 := ⟨mALL (in_t6 (i := 185) rfl) rfl, mALL (in_t6 (i := 186) rfl) rfl⟩
set_option maxRecDepth 40000 in
theorem cb_232 : ceB 232 0 := ⟨by decide +kernel, by decide +kernel, by decide +kernel, by decide +kernel, mALL (in_t6 (i := 193) rfl) rfl, mALL (in_t1 (i := 11) rfl) rfl⟩
set_option maxRecDepth 40000 in
theorem cv_232 : ceV 232 := ⟨mALL (in_t6 (i := 191) rfl) rfl, mALL (in_t6 (i := 192) rfl) rfl⟩
set_option maxRecDepth 40000 in
theorem cb_233 : ceB 233 1 := ⟨by decide +kernel, by decide +kernel, by decide +kernel, by decide +kernel, mALL (in_t6 (i := 197) rfl) rfl, mALL (in_t1 (i := 11) rfl) rfl⟩
set_option maxRecDepth 40000 in
theorem cv_233 : ceV 233 := ⟨mALL (in_t6 (i := 195) rfl) rfl, mALL (in_t6 (i := 196) rfl) rfl⟩
set_option maxRecDepth 40000 in
theorem cb_234 : ceB 234 1 := ⟨by decide +kernel, by decide +kernel, by decide +kernel, by decide +kernel, mALL (in_t6 (i := 201) rfl) rfl, mALL (in_t1 (i := 11) rfl) rfl⟩
set_option maxRecDepth 40000 in
theorem cv_234 : ceV 234 := ⟨mALL (in_t6 (i := 199) rfl) rfl, mALL (in_t6 (i := 200) rfl) rfl⟩
set_option maxRecDepth 40000 in
theorem cb_235 : ceB 235 3 := ⟨by decide +kernel, by decide +kernel, by decide +kernel, by decide +kernel, mALL (in_t6 (i := 205) rfl) rfl, mALL (in_t1 (i := 11) rfl) rfl⟩
set_option maxRecDepth 40000 in
theorem cv_235 : ceV 235 := ⟨mALL (in_t6 (i := 203) rfl) rfl, mALL (in_t6 (i := 204) rfl) rfl⟩
set_option maxRecDepth 40000 in
theorem cb_236 : ceB 236 1 := ⟨by decide +kernel, by decide +kernel, by decide +kernel, by decide +kernel, mALL (in_t6 (i := 209) rfl) rfl, mALL (in_t1 (i := 11) rfl) rfl⟩
set_option maxRecDepth 40000 in
theorem cv_236 : ceV 236 := ⟨mALL (in_t6 (i := 207) rfl) rfl, mALL (in_t6 (i := 208) rfl) rfl⟩
set_option maxRecDepth 40000 in
theorem cb_237 : ceB 237 2 := ⟨by decide +kernel, by decide +kernel, by decide +kernel, by decide +kernel, mALL (in_t6 (i := 213) rfl) rfl, mALL (in_t1 (i := 11) rfl) rfl⟩
set_option maxRecDepth 40000 in
theorem cv_237 : ceV 237 := ⟨mALL (in_t6 (i := 211) rfl) rfl, mALL (in_t6 (i := 212) rfl) rfl⟩
set_option maxRecDepth 40000 in
theorem cb_238 : ceB 238 2 := ⟨by decide +kernel, by decide +kernel, by decide +kernel, by decide +kernel, mALL (in_t6 (i := 217) rfl) rfl, mALL (in_t1 (i := 11) rfl) rfl⟩
set_option maxRecDepth 40000 in
theorem cv_238 : ceV 238 := ⟨mALL (in_t6 (i := 215) rfl) rfl, mALL (in_t6 (i := 216) rfl) rfl⟩
set_option maxRecDepth 40000 in
theorem cb_239 : ceB 239 1 := ⟨by decide +kernel, by decide +kernel, by decide +kernel, by decide +kernel, mALL (in_t6 (i := 233) rfl) rfl, mALL (in_t1 (i := 11) rfl) rfl⟩
set_option maxRecDepth 40000 in
theorem cv_239 : ceV 239 := ⟨mALL (in_t6 (i := 232) rfl) rfl, mSEL (in_sel (i := 123) rfl) rfl⟩
set_option maxRecDepth 40000 in
theorem cb_240 : ceB 240 2 := ⟨by decide +kernel, by decide +kernel, by decide +kernel, by decide +kernel, mALL (in_t6 (i := 237) rfl) rfl, mALL (in_t1 (i := 11) rfl) rfl⟩
set_option maxRecDepth 40000 in
theorem cv_240 : ceV 240 := ⟨mALL (in_t6 (i := 236) rfl) rfl, mSEL (in_sel (i := 124) rfl) rfl⟩
set_option maxRecDepth 40000 in
theorem cb_241 : ceB 241 4 := ⟨by decide +kernel, by decide +kernel, by decide +kernel, by decide +kernel, mALL (in_t6 (i := 229) rfl) rfl, mALL (in_t1 (i := 11) rfl) rfl⟩
set_option maxRecDepth 40000 in
theorem cv_241 : ceV 241 := ⟨mALL (in_t6 (i := 228) rfl) rfl, mSEL (in_sel (i := 122) rfl) rfl⟩
set_option maxRecDepth 40000 in
theorem cb_242 : ceB 242 2 := ⟨by decide +kernel, by decide +kernel, by decide +kernel, by decide +kernel, mALL (in_t6 (i := 225) rfl) rfl, mALL (in_t1 (i := 11) rfl) rfl⟩
set_option maxRecDepth 40000 in
theorem cv_242 : ceV 242 := ⟨mALL (in_t6 (i := 224) rfl) rfl, mSEL (in_sel (i := 121) rfl) rfl⟩
set_option maxRecDepth 40000 in
theorem cb_243 : ceB 243 2 := ⟨by decide +kernel, by decide +kernel, by decide +kernel, by decide +kernel, mALL (in_t6 (i := 221) rfl) rfl, mALL (in_t1 (i := 11) rfl) rfl⟩
set_option maxRecDepth 40000 in
theorem cv_243 : ceV 243 := ⟨mALL (in_t6 (i := 219) rfl) rfl, mALL (in_t6 (i := 220) rfl) rfl⟩
set_option maxRecDepth 40000 in
theorem cb_244 : ceB 244 0 := ⟨by decide +kernel, by decide +kernel, by decide +kernel, by decide +kernel, mALL (in_t7 (i := 1) rfl) rfl, mALL (in_t1 (i := 11) rfl) rfl⟩
set_option maxRecDepth 40000 in
theorem cv_244 : ceV 244 := ⟨mALL (in_t6 (i := 239) rfl) rfl, mALL (in_t7 (i := 0) rfl) rfl⟩
set_option maxRecDepth 40000 in
theorem cb_245 : ceB 245 1 := ⟨by decide +kernel, by decide +kernel, by decide +kernel, by decide +kernel, mALL (in_t7 (i := 9) rfl) rfl, mALL (in_t1 (i := 11) rfl) rfl⟩
set_option maxRecDepth 40000 in
theorem cv_245 : ceV 245 := ⟨mALL (in_t7 (i := 8) rfl) rfl, mSEL (in_sel (i := 125) rfl) rfl⟩
set_option maxRecDepth 40000 in
theorem cb_246 : ceB 246 1 := ⟨by decide +kernel, by decide +kernel, by decide +kernel, by decide +kernel, mALL (in_t7 (i := 5) rfl) rfl, mALL (in_t1 (i := 11) rfl) rfl⟩
set_option maxRecDepth 40000 in
theorem cv_246 : ceV 246 := ⟨mALL (in_t7 (i := 3) rfl) rfl, mALL (in_t7 (i := 4) rfl) rfl⟩
set_option maxRecDepth 40000 in
theorem cb_247 : ceB 247 1 := ⟨by decide +kernel, by decide +kernel, by decide +kernel, by decide +kernel, mALL (in_t7 (i := 13) rfl) rfl, mALL (in_t1 (i := 11) rfl) rfl⟩
set_option maxRecDepth 40000 in
theorem cv_247 : ceV 247 := ⟨mALL (in_t7 (i := 11) rfl) rfl, mALL (in_t7 (i := 12) rfl) rfl⟩
set_option maxRecDepth 40000 in
theorem cb_248 : ceB 248 1 := ⟨by decide +kernel, by decide +kernel, by decide +kernel, by decide +kernel, mALL (in_t7 (i := 29) rfl) rfl, mALL (in_t1 (i := 11) rfl) rfl⟩
set_option maxRecDepth 40000 in
theorem cv_248 : ceV 248 := ⟨mALL (in_t7 (i := 28) rfl) rfl, mSEL (in_sel (i := 127) rfl) rfl⟩
set_option maxRecDepth 40000 in
theorem cb_249 : ceB 249 0 := ⟨by decide +kernel, by decide +kernel, by decide +kernel, by decide +kernel, mALL (in_t7 (i := 25) rfl) rfl, mALL (in_t1 (i := 11) rfl) rfl⟩
set_option maxRecDepth 40000 in
theorem cv_249 : ceV 249 := ⟨mALL (in_t7 (i := 23) rfl) rfl, mALL (in_t7 (i := 24) rfl) rfl⟩
set_option maxRecDepth 40000 in
theorem cb_250 : ceB 250 1 := ⟨by decide +kernel, by decide +kernel, by decide +kernel, by decide +kernel, mALL (in_t7 (i := 36) rfl) rfl, mALL (in_t1 (i := 11) rfl) rfl⟩
set_option maxRecDepth 40000 in
theorem cs_250 : ceS 250 := mALL (in_t7 (i := 35) rfl) rfl
set_option maxRecDepth 40000 in
theorem cb_251 : ceB 251 1 := ⟨by decide +kernel, by decide +kernel, by decide +kernel, by decide +kernel, mALL (in_t7 (i := 33) rfl) rfl, mALL (in_t1 (i := 11) rfl) rfl⟩
set_option maxRecDepth 40000 in
theorem cv_251 : ceV 251 := ⟨mALL (in_t7 (i := 31) rfl) rfl, mALL (in_t7 (i := 32) rfl) rfl⟩
set_option maxRecDepth 40000 in
theorem cb_252 : ceB 252 2 := ⟨by decide +kernel, by decide +kernel, by decide +kernel, by decide +kernel, mALL (in_t7 (i := 40) rfl) rfl, mALL (in_t1 (i := 11) rfl) rfl⟩
set_option maxRecDepth 40000 in
theorem cv_252 : ceV 252 := ⟨mALL (in_t7 (i := 38) rfl) rfl, mALL (in_t7 (i := 39) rfl) rfl⟩
set_option maxRecDepth 40000 in
theorem cb_253 : ceB 253 2 := ⟨by decide +kernel, by decide +kernel, by decide +kernel, by decide +kernel, mALL (in_t7 (i := 44) rfl) rfl, mALL (in_t1 (i := 11) rfl) rfl⟩
set_option maxRecDepth 40000 in
theorem cv_253 : ceV 253 := ⟨mALL (in_t7 (i := 42) rfl) rfl, mALL (in_t7 (i := 43) rfl) rfl⟩
set_option maxRecDepth 40000 in
theorem cb_254 : ceB 254 0 := ⟨by decide +kernel, by decide +kernel, by decide +kernel, by decide +kernel, mALL (in_t7 (i := 48) rfl) rfl, mALL (in_t1 (i := 11) rfl) rfl⟩
set_option maxRecDepth 40000 in
theorem cv_254 : ceV 254 := ⟨mALL (in_t7 (i := 46) rfl) rfl, mALL (in_t7 (i := 47) rfl) rfl⟩
set_option maxRecDepth 40000 in
theorem cb_255 : ceB 255 3 := ⟨by decide +kernel, by decide +kernel, by decide +kernel, by decide +kernel, mALL (in_t7 (i := 60) rfl) rfl, mALL (in_t1 (i := 11) rfl) rfl⟩
set_option maxRecDepth 40000 in
theorem cv_255 : ceV 255 := ⟨mALL (in_t7 (i := 59) rfl) rfl, mSEL (in_sel (i := 129) rfl) rfl⟩
set_option maxRecDepth 40000 in
theorem cb_256 : ceB 256 0 := ⟨by decide +kernel, by decide +kernel, by decide +kernel, by decide +kernel, mALL (in_t7 (i := 56) rfl) rfl, mALL (in_t1 (i := 11) rfl) rfl⟩
set_option maxRecDepth 40000 in
theorem cv_256 : ceV 256 := ⟨mALL (in_t7 (i := 55) rfl) rfl, mSEL (in_sel (i := 128) rfl) rfl⟩
set_option maxRecDepth 40000 in
theorem cb_257 : ceB 257 0 := ⟨by decide +kernel, by decide +kernel, by decide +kernel, by decide +kernel, mALL (in_t7 (i := 52) rfl) rfl, mALL (in_t1 (i := 11) rfl) rfl⟩
set_option maxRecDepth 40000 in
theorem cv_257 : ceV 257 := ⟨mALL (in_t7 (i := 50) rfl) rfl, mALL (in_t7 (i := 51) rfl) rfl⟩
set_option maxRecDepth 40000 in
theorem cb_258 : ceB 258 0 := ⟨by decide +kernel, by decide +kernel, by decide +kernel, by decide +kernel, mALL (in_t7 (i := 64) rfl) rfl, mALL (in_t1 (i := 11) rfl) rfl⟩
set_option maxRecDepth 40000 in
theorem cv_258 : ceV 258 := ⟨mALL (in_t7 (i := 62) rfl) rfl, mALL (in_t7 (i := 63) rfl) rfl⟩
set_option maxRecDepth 40000 in
theorem cb_259 : ceB 259 3 := ⟨by decide +kernel, by decide +kernel, by decide +kernel, by decide +kernel, mALL (in_t7 (i := 68) rfl) rfl, mALL (in_t1 (i := 11) rfl) rfl⟩
set_option maxRecDepth 40000 in
theorem cv_259 : ceV 259 := ⟨mALL (in_t7 (i := 66) rfl) rfl, mALL (in_t7 (i := 67) rfl) rfl⟩
set_option maxRecDepth 40000 in
theorem cb_260 : ceB 260 0 := ⟨by decide +kernel, by decide +kernel, by decide +kernel, by decide +kernel, mALL (in_t7 (i := 72) rfl) rfl, mALL (in_t1 (i := 11) rfl) rfl⟩
set_option maxRecDepth 40000 in
theorem cv_260 : ceV 260 := ⟨mALL (in_t7 (i := 70) rfl) rfl, mALL (in_t7 (i := 71) rfl) rfl⟩
set_option maxRecDepth 40000 in
theorem cb_261 : ceB 261 4 := ⟨by decide +kernel, by decide +kernel, by decide +kernel, by decide +kernel, mALL (in_t7 (i := 83) rfl) rfl, mALL (in_t1 (i := 11) rfl) rfl⟩
set_option maxRecDepth 40000 in
theorem cs_261 : ceS 261 := mALL (in_t7 (i := 82) rfl) rfl
set_option maxRecDepth 40000 in
theorem cb_262 : ceB 262 2 := ⟨by decide +kernel, by decide +kernel, by decide +kernel, by decide +kernel, mALL (in_t7 (i := 80) rfl) rfl, mALL (in_t1 (i := 11) rfl) rfl⟩
set_option maxRecDepth 40000 in
theorem cv_262 : ceV 262 := ⟨mALL (in_t7 (i := 79) rfl) rfl, mSEL (in_sel (i := 130) rfl) rfl⟩
set_option maxRecDepth 40000 in
theorem cb_263 : ceB 263 0 := ⟨by decide +kernel, by decide +kernel, by decide +kernel, by decide +kernel, mALL (in_t7 (i := 76) rfl) rfl, mALL (in_t1 (i := 11) rfl) rfl⟩
set_option maxRecDepth 40000 in
theorem cv_263 : ceV 263 := ⟨mALL (in_t7 (i := 74) rfl) rfl, mALL (in_t7 (i := 75) rfl) rfl⟩
set_option maxRecDepth 40000 in
theorem cb_264 : ceB 264 2 := ⟨by decide +kernel, by decide +kernel, by decide +kernel, by decide +kernel, mALL (in_t7 (i := 91) rfl) rfl, mALL (in_t1 (i := 11) rfl) rfl⟩
set_option maxRecDepth 40000 in
theorem cv_264 : ceV 264 := ⟨mALL (in_t7 (i := 90) rfl) rfl, mSEL (in_sel (i := 131) rfl) rfl⟩
set_option maxRecDepth 40000 in
theorem cb_265 : ceB 265 0 := ⟨by decide +kernel, by decide +kernel, by decide +kernel, by decide +kernel, mALL (in_t7 (i := 87) rfl) rfl, mALL (in_t1 (i := 11) rfl) rfl⟩
set_option maxRecDepth 40000 in
theorem cv_265 : ceV 265 := ⟨mALL (in_t7 (i := 85) rfl) rfl, mALL (in_t7 (i := 86) rfl) rfl⟩
set_option maxRecDepth 40000 in
theorem cb_266 : ceB 266 2 := ⟨by decide +kernel, by decide +kernel, by decide +kernel, by decide +kernel, mALL (in_t7 (i := 103) rfl) rfl, mALL (in_t1 (i := 11) rfl) rfl⟩
set_option maxRecDepth 40000 in
theorem cv_266 : ceV 266 := ⟨mALL (in_t7 (i := 102) rfl) rfl, mSEL (in_sel (i := 133) rfl) rfl⟩
set_option maxRecDepth 40000 in
theorem cb_267 : ceB 267 2 := ⟨by decide +kernel, by decide +kernel, by decide +kernel, by decide +kernel, mALL (in_t7 (i := 99) rfl) rfl, mALL (in_t1 (i := 11) rfl) rfl⟩
set_option maxRecDepth 40000 in
theorem cv_267 : ceV 267 := ⟨mALL (in_t7 (i := 98) rfl) rfl, mSEL (in_sel (i := 132) rfl) rfl⟩
set_option maxRecDepth 40000 in
theorem cb_268 : ceB 268 2 := ⟨by decide +kernel, by decide +kernel, by decide +kernel, by decide +kernel, mALL (in_t7 (i := 95) rfl) rfl, mALL (in_t1 (i := 11) rfl) rfl⟩
set_option maxRecDepth 40000 in
theorem cv_268 : ceV 268 := ⟨mALL (in_t7 (i := 93) rfl) rfl, mALL (in_t7 (i := 94) rfl) rfl⟩
set_option maxRecDepth 40000 in
theorem cb_269 : ceB 269 2 := ⟨by decide +kernel, by decide +kernel, by decide +kernel, by decide +kernel, mALL (in_t7 (i := 110) rfl) rfl, mALL (in_t1 (i := 11) rfl) rfl⟩
set_option maxRecDepth 40000 in
theorem cs_269 : ceS 269 := mALL (in_t7 (i := 109) rfl) rfl
set_option maxRecDepth 40000 in
theorem cb_270 : ceB 270 3 := ⟨by decide +kernel, by decide +kernel, by decide +kernel, by decide +kernel, mALL (in_t7 (i := 107) rfl) rfl, mALL (in_t1 (i := 11) rfl) rfl⟩
set_option maxRecDepth 40000 in
theorem cv_270 : ceV 270 := ⟨mALL (in_t7 (i := 105) rfl) rfl, mALL (in_t7 (i := 106) rfl) rfl⟩
set_option maxRecDepth 40000 in
theorem cb_271 : ceB 271 3 := ⟨by decide +kernel, by decide +kernel, by decide +kernel, by decide +kernel, mALL (in_t7 (i := 121) rfl) rfl, mALL (in_t1 (i := 11) rfl) rfl⟩
set_option maxRecDepth 40000 in
theorem cs_271 : ceS 271 := mALL (in_t7 (i := 120) rfl) rfl
set_option maxRecDepth 40000 in
theorem cb_272 : ceB 272 3 := ⟨by decide +kernel, by decide +kernel, by decide +kernel, by decide +kernel, mALL (in_t7 (i := 118) rfl) rfl, mALL (in_t1 (i := 11) rfl) rfl⟩
set_option maxRecDepth 40000 in
theorem cs_272 : ceS 272 := mALL (in_t7 (i := 117) rfl) rfl
set_option maxRecDepth 40000 in
theorem cb_273 : ceB 273 1 := ⟨by decide +kernel, by decide +kernel, by decide +kernel, by decide +kernel, mALL (in_t7 (i := 115) rfl) rfl, mALL (in_t1 (i := 11) rfl) rfl⟩
set_option maxRecDepth 40000 in
theorem cv_273 : ceV 273 := ⟨mALL (in_t7 (i := 113) rfl) rfl, mALL (in_t7 (i := 114) rfl) rfl⟩
set_option maxRecDepth 40000 in
theorem cb_274 : ceB 274 0 := ⟨by decide +kernel, by decide +kernel, by decide +kernel, by decide +kernel, mALL (in_t7 (i := 129) rfl) rfl, mALL (in_t1 (i := 11) rfl) rfl⟩
set_option maxRecDepth 40000 in
theorem cv_274 : ceV 274 := ⟨mALL (in_t7 (i := 128) rfl) rfl, mSEL (in_sel (i := 134) rfl) rfl⟩
set_option maxRecDepth 40000 in
theorem cb_275 : ceB 275 0 := ⟨by decide +kernel, by decide +kernel, by decide +kernel, by decide +kernel, mALL (in_t7 (i := 125) rfl) rfl, mALL (in_t1 (i := 11) rfl) rfl⟩
set_option maxRecDepth 40000 in
theorem cv_275 : ceV 275 := ⟨mALL (in_t7 (i := 123) rfl) rfl, mALL (in_t7 (i := 124) rfl) rfl⟩
set_option maxRecDepth 40000 in
theorem cb_276 : ceB 276 1 := ⟨by decide +kernel, by decide +kernel, by decide +kernel, by decide +kernel, mALL (in_t7 (i := 137) rfl) rfl, mALL (in_t1 (i := 11) rfl) rfl⟩
set_option maxRecDepth 40000 in
theorem cv_276 : ceV 276 := ⟨mALL (in_t7 (i := 136) rfl) rfl, mSEL (in_sel (i := 135) rfl) rfl⟩
set_option maxRecDepth 40000 in
theorem cb_277 : ceB 277 2 := ⟨by decide +kernel, by decide +kernel, by decide +kernel, by decide +kernel, mALL (in_t7 (i := 133) rfl) rfl, mALL (in_t1 (i := 11) rfl) rfl⟩
set_option maxRecDepth 40000 in
theorem cv_277 : ceV 277 := ⟨mALL (in_t7 (i := 131) rfl) rfl, mALL (in_t7 (i := 132) rfl) rfl⟩
set_option maxRecDepth 40000 in
theorem cb_278 : ceB 278 1 := ⟨by decide +kernel, by decide +kernel, by decide +kernel, by decide +kernel, mALL (in_t7 (i := 142) rfl) rfl, mALL (in_t1 (i := 11) rfl) rfl⟩
set_option maxRecDepth 40000 in
theorem cv_278 : ceV 278 := ⟨mALL (in_t7 (i := 140) rfl) rfl, mALL (in_t7 (i := 141) rfl) rfl⟩
set_option maxRecDepth 40000 in
theorem cb_279 : ceB 279 1 := ⟨by decide +kernel, by decide +kernel, by decide +kernel, by decide +kernel, mALL (in_t7 (i := 146) rfl) rfl, mALL (in_t1 (i := 11) rfl) rfl⟩
set_option maxRecDepth 40000 in
theorem cv_279 : ceV 279 := ⟨mALL (in_t7 (i := 144) rfl) rfl, mALL (in_t7 (i := 145) rfl) rfl⟩
set_option maxRecDepth 40000 in
theorem cb_280 : ceB 280 0 := ⟨by decide +kernel, by decide +kernel, by decide +kernel, by decide +kernel, mALL (in_t7 (i := 154) rfl) rfl, mALL (in_t1 (i := 11) rfl) rfl⟩
set_option maxRecDepth 40000 in
theorem cv_280 : ceV 280 := ⟨mALL (in_t7 (i := 153) rfl) rfl, mSEL (in_sel (i := 136) rfl) rfl⟩
set_option maxRecDepth 40000 in
theorem cb_281 : ceB 281 0 := ⟨by decide +kernel, by decide +kernel, by decide +kernel, by decide +kernel, mALL (in_t7 (i := 158) rfl) rfl, mALL (in_t1 (i := 11) rfl) rfl⟩
set_option maxRecDepth 40000 in
theorem cv_281 : ceV 281 := ⟨mALL (in_t7 (i := 157) rfl) rfl, mSEL (in_sel (i := 137) rfl) rfl⟩
set_option maxRecDepth 40000 in
theorem cb_282 : ceB 282 1 := ⟨by decide +kernel, by decide +kernel, by decide +kernel, by decide +kernel, mALL (in_t7 (i := 150) rfl) rfl, mALL (in_t1 (i := 11) rfl) rfl⟩
set_option maxRecDepth 40000 in
theorem cv_282 : ceV 282 := ⟨mALL (in_t7 (i := 148) rfl) rfl, mALL (in_t7 (i := 149) rfl) rfl⟩
set_option maxRecDepth 40000 in
theorem cb_283 : ceB 283 1 := ⟨by decide +kernel, by decide +kernel, by decide +kernel, by decide +kernel, mALL (in_t7 (i := 162) rfl) rfl, mALL (in_t1 (i := 11) rfl) rfl⟩
set_option maxRecDepth 40000 in
theorem cv_283 : ceV 283 := ⟨mALL (in_t7 (i := 160) rfl) rfl, mALL (in_t7 (i := 161) rfl) rfl⟩
set_option maxRecDepth 40000 in
theorem cb_284 : ceB 284 2 := ⟨by decide +kernel, by decide +kernel, by decide +kernel, by decide +kernel, mALL (in_t6 (i := 77) rfl) rfl, mALL (in_t1 (i := 17) rfl) rfl⟩
set_option maxRecDepth 40000 in
theorem cs_284 : ceS 284 := mALL (in_t6 (i := 76) rfl) rfl
set_option maxRecDepth 40000 in
theorem cb_285 : ceB 285 1 := ⟨by decide +kernel, by decide +kernel, by decide +kernel, by decide +kernel, mALL (in_t3 (i := 238) rfl) rfl, mALL (in_t1 (i := 17) rfl) rfl⟩
set_option maxRecDepth 40000 in
theorem cs_285 : ceS 285 := mALL (in_t3 (i := 237) rfl) rfl
set_option maxRecDepth 40000 in
theorem cb_286 : ceB 286 2 := ⟨by decide +kernel, by decide +kernel, by decide +kernel, by decide +kernel, mALL (in_t3 (i := 16) rfl) rfl, mALL (in_t1 (i := 10) rfl) rfl⟩
set_option maxRecDepth 40000 in
theorem cs_286 : ceS 286 := mALL (in_t3 (i := 15) rfl) rfl
set_option maxRecDepth 40000 in
theorem cb_287 : ceB 287 1 := ⟨by decide +kernel, by decide +kernel, by decide +kernel, by decide +kernel, mALL (in_t3 (i := 132) rfl) rfl, mALL (in_t1 (i := 10) rfl) rfl⟩
set_option maxRecDepth 40000 in
theorem cs_287 : ceS 287 := mALL (in_t3 (i := 131) rfl) rfl
set_option maxRecDepth 40000 in
theorem cb_288 : ceB 288 2 := ⟨by decide +kernel, by decide +kernel, by decide +kernel, by decide +kernel, mALL (in_t2 (i := 184) rfl) rfl, mALL (in_t1 (i := 10) rfl) rfl⟩
set_option maxRecDepth 40000 in
theorem cs_288 : ceS 288 := mALL (in_t2 (i := 183) rfl) rfl
set_option maxRecDepth 40000 in
theorem cb_289 : ceB 289 2 := ⟨by decide +kernel, by decide +kernel, by decide +kernel, by decide +kernel, mALL (in_t1 (i := 222) rfl) rfl, mALL (in_t1 (i := 10) rfl) rfl⟩
set_option maxRecDepth 40000 in
theorem cs_289 : ceS 289 := mALL (in_t1 (i := 221) rfl) rfl
-- no code word of ('StruckColoursLaw', 'ship', '(LStruckColours;II[J)I')
-- no code word of ('StruckColoursLaw', 'row', '(LStruckColours;I[J)I')
set_option maxRecDepth 40000 in
theorem ca_0_13 : cOK (0, 13, 2, 2, 2) := callOk_of cb_2 (Or.inr (Or.inl ⟨Or.inl rfl, cs_2⟩)) (Or.inl ⟨rfl, mALL (in_t4 (i := 91) rfl) rfl⟩)
set_option maxRecDepth 40000 in
theorem ca_0_26 : cOK (0, 26, 8, 1, 1) := callOk_of cb_8 (Or.inl ⟨Or.inr rfl, cv_8⟩) (Or.inr ⟨rfl, in_t4 (i := 94) rfl⟩)
set_option maxRecDepth 40000 in
theorem ca_0_30 : cOK (0, 30, 9, 1, 1) := callOk_of cb_9 (Or.inl ⟨Or.inr rfl, cv_9⟩) (Or.inr ⟨rfl, in_t4 (i := 95) rfl⟩)
set_option maxRecDepth 40000 in
theorem ca_0_33 : cOK (0, 33, 4, 3, 2) := callOk_of cb_4 (Or.inr (Or.inl ⟨Or.inl rfl, cs_4⟩)) (Or.inl ⟨rfl, mALL (in_t4 (i := 96) rfl) rfl⟩)
set_option maxRecDepth 40000 in
theorem ca_0_37 : cOK (0, 37, 10, 1, 1) := callOk_of cb_10 (Or.inl ⟨Or.inr rfl, cv_10⟩) (Or.inr ⟨rfl, in_t4 (i := 99) rfl⟩)
set_option maxRecDepth 40000 in
theorem ca_2_17 : cOK (2, 17, 39, 0, 5) := callOk_of cb_39 (Or.inr (Or.inr ⟨Or.inr rfl, ci_39⟩)) (Or.inr ⟨rfl, in_t1 (i := 105) rfl⟩)
set_option maxRecDepth 40000 in
theorem ca_2_25 : cOK (2, 25, 286, 2, 2) := callOk_of cb_286 (Or.inr (Or.inl ⟨Or.inl rfl, cs_286⟩)) (Or.inl ⟨rfl, mALL (in_t3 (i := 14) rfl) rfl⟩)
set_option maxRecDepth 40000 in
theorem ca_2_31 : cOK (2, 31, 13, 1, 0) := callOk_of cb_13 (Or.inl ⟨Or.inl rfl, cv_13⟩) (Or.inl ⟨rfl, mALL (in_t3 (i := 10) rfl) rfl⟩)
set_option maxRecDepth 40000 in
theorem ca_2_35 : cOK (2, 35, 40, 1, 1) := callOk_of cb_40 (Or.inl ⟨Or.inr rfl, cv_40⟩) (Or.inr ⟨rfl, in_t3 (i := 17) rfl⟩)
set_option maxRecDepth 40000 in
theorem ca_3_17 : cOK (3, 17, 20, 2, 2) := callOk_of cb_20 (Or.inr (Or.inl ⟨Or.inl rfl, cs_20⟩)) (Or.inl ⟨rfl, mALL (in_t3 (i := 104) rfl) rfl⟩)
set_option maxRecDepth 40000 in
theorem ca_3_21 : cOK (3, 21, 18, 1, 0) := callOk_of cb_18 (Or.inl ⟨Or.inl rfl, cv_18⟩) (Or.inl ⟨rfl, mALL (in_t3 (i := 107) rfl) rfl⟩)
set_option maxRecDepth 40000 in
theorem ca_3_25 : cOK (3, 25, 21, 1, 0) := callOk_of cb_21 (Or.inl ⟨Or.inl rfl, cv_21⟩) (Or.inl ⟨rfl, mALL (in_t5 (i := 46) rfl) rfl⟩)
set_option maxRecDepth 40000 in
theorem ca_4_42 : cOK (4, 42, 289, 2, 2) := callOk_of cb_289 (Or.inr (Or.inl ⟨Or.inl rfl, cs_289⟩)) (Or.inl ⟨rfl, mALL (in_t1 (i := 220) rfl) rfl⟩)
set_option maxRecDepth 40000 in
theorem ca_4_48 : cOK (4, 48, 25, 1, 0) := callOk_of cb_25 (Or.inl ⟨Or.inl rfl, cv_25⟩) (Or.inl ⟨rfl, mALL (in_t1 (i := 223) rfl) rfl⟩)
set_option maxRecDepth 40000 in
theorem ca_4_52 : cOK (4, 52, 26, 1, 0) := callOk_of cb_26 (Or.inl ⟨Or.inl rfl, cv_26⟩) (Or.inl ⟨rfl, mALL (in_t2 (i := 1) rfl) rfl⟩)
set_option maxRecDepth 40000 in
theorem ca_4_55 : cOK (4, 55, 33, 1, 0) := callOk_of cb_33 (Or.inl ⟨Or.inl rfl, cv_33⟩) (Or.inl ⟨rfl, mALL (in_t2 (i := 13) rfl) rfl⟩)
set_option maxRecDepth 40000 in
theorem ca_4_59 : cOK (4, 59, 142, 1, 3) := callOk_of cb_142 (Or.inr (Or.inl ⟨Or.inr rfl, cs_142⟩)) (Or.inr ⟨rfl, in_t1 (i := 227) rfl⟩)
set_option maxRecDepth 40000 in
theorem ca_4_62 : cOK (4, 62, 31, 1, 0) := callOk_of cb_31 (Or.inl ⟨Or.inl rfl, cv_31⟩) (Or.inl ⟨rfl, mALL (in_t1 (i := 230) rfl) rfl⟩)
set_option maxRecDepth 40000 in
theorem ca_4_65 : cOK (4, 65, 29, 1, 2) := callOk_of cb_29 (Or.inr (Or.inl ⟨Or.inl rfl, cs_29⟩)) (Or.inl ⟨rfl, mALL (in_t1 (i := 234) rfl) rfl⟩)
set_option maxRecDepth 40000 in
theorem ca_4_68 : cOK (4, 68, 32, 1, 0) := callOk_of cb_32 (Or.inl ⟨Or.inl rfl, cv_32⟩) (Or.inl ⟨rfl, mALL (in_t1 (i := 237) rfl) rfl⟩)
set_option maxRecDepth 40000 in
theorem ca_4_72 : cOK (4, 72, 27, 1, 0) := callOk_of cb_27 (Or.inl ⟨Or.inl rfl, cv_27⟩) (Or.inl ⟨rfl, mALL (in_t2 (i := 5) rfl) rfl⟩)
set_option maxRecDepth 40000 in
theorem ca_4_76 : cOK (4, 76, 28, 0, 0) := callOk_of cb_28 (Or.inl ⟨Or.inl rfl, cv_28⟩) (Or.inl ⟨rfl, mALL (in_t2 (i := 9) rfl) rfl⟩)
set_option maxRecDepth 40000 in
theorem ca_4_80 : cOK (4, 80, 30, 1, 2) := callOk_of cb_30 (Or.inr (Or.inl ⟨Or.inl rfl, cs_30⟩)) (Or.inl ⟨rfl, mALL (in_t2 (i := 17) rfl) rfl⟩)
set_option maxRecDepth 40000 in
theorem ca_4_84 : cOK (4, 84, 35, 2, 0) := callOk_of cb_35 (Or.inl ⟨Or.inl rfl, cv_35⟩) (Or.inl ⟨rfl, mALL (in_t2 (i := 148) rfl) rfl⟩)
set_option maxRecDepth 40000 in
theorem ca_4_87 : cOK (4, 87, 38, 4, 2) := callOk_of cb_38 (Or.inr (Or.inl ⟨Or.inl rfl, cs_38⟩)) (Or.inl ⟨rfl, mALL (in_t2 (i := 152) rfl) rfl⟩)
set_option maxRecDepth 40000 in
theorem ca_4_91 : cOK (4, 91, 36, 2, 0) := callOk_of cb_36 (Or.inl ⟨Or.inl rfl, cv_36⟩) (Or.inl ⟨rfl, mALL (in_t2 (i := 175) rfl) rfl⟩)
set_option maxRecDepth 40000 in
theorem ca_4_94 : cOK (4, 94, 37, 3, 2) := callOk_of cb_37 (Or.inr (Or.inl ⟨Or.inl rfl, cs_37⟩)) (Or.inl ⟨rfl, mALL (in_t2 (i := 179) rfl) rfl⟩)
set_option maxRecDepth 40000 in
theorem ca_4_98 : cOK (4, 98, 44, 1, 1) := callOk_of cb_44 (Or.inl ⟨Or.inr rfl, cv_44⟩) (Or.inr ⟨rfl, in_t2 (i := 155) rfl⟩)
set_option maxRecDepth 40000 in
theorem ca_4_104 : cOK (4, 104, 45, 1, 1) := callOk_of cb_45 (Or.inl ⟨Or.inr rfl, cv_45⟩) (Or.inr ⟨rfl, in_t2 (i := 159) rfl⟩)
set_option maxRecDepth 40000 in
theorem ca_4_107 : cOK (4, 107, 48, 2, 1) := callOk_of cb_48 (Or.inl ⟨Or.inr rfl, cv_48⟩) (Or.inr ⟨rfl, in_t2 (i := 163) rfl⟩)
set_option maxRecDepth 40000 in
theorem ca_4_110 : cOK (4, 110, 46, 1, 1) := callOk_of cb_46 (Or.inl ⟨Or.inr rfl, cv_46⟩) (Or.inr ⟨rfl, in_t2 (i := 167) rfl⟩)
set_option maxRecDepth 40000 in
theorem ca_4_113 : cOK (4, 113, 47, 1, 1) := callOk_of cb_47 (Or.inl ⟨Or.inr rfl, cv_47⟩) (Or.inr ⟨rfl, in_t2 (i := 171) rfl⟩)
set_option maxRecDepth 40000 in
theorem ca_5_46 : cOK (5, 46, 41, 1, 0) := callOk_of cb_41 (Or.inl ⟨Or.inl rfl, cv_41⟩) (Or.inl ⟨rfl, mALL (in_t2 (i := 120) rfl) rfl⟩)
set_option maxRecDepth 40000 in
theorem ca_5_50 : cOK (5, 50, 144, 1, 3) := callOk_of cb_144 (Or.inr (Or.inl ⟨Or.inr rfl, cs_144⟩)) (Or.inr ⟨rfl, in_t2 (i := 113) rfl⟩)
set_option maxRecDepth 40000 in
theorem ca_5_53 : cOK (5, 53, 45, 1, 0) := callOk_of cb_45 (Or.inl ⟨Or.inl rfl, cv_45⟩) (Or.inl ⟨rfl, mALL (in_t2 (i := 231) rfl) rfl⟩)
set_option maxRecDepth 40000 in
theorem ca_5_57 : cOK (5, 57, 48, 2, 0) := callOk_of cb_48 (Or.inl ⟨Or.inl rfl, cv_48⟩) (Or.inl ⟨rfl, mALL (in_t2 (i := 237) rfl) rfl⟩)
set_option maxRecDepth 40000 in
theorem ca_5_61 : cOK (5, 61, 51, 1, 0) := callOk_of cb_51 (Or.inl ⟨Or.inl rfl, cv_51⟩) (Or.inl ⟨rfl, mALL (in_t2 (i := 206) rfl) rfl⟩)
set_option maxRecDepth 40000 in
theorem ca_5_64 : cOK (5, 64, 44, 1, 0) := callOk_of cb_44 (Or.inl ⟨Or.inl rfl, cv_44⟩) (Or.inl ⟨rfl, mALL (in_t2 (i := 210) rfl) rfl⟩)
set_option maxRecDepth 40000 in
theorem ca_5_67 : cOK (5, 67, 53, 2, 0) := callOk_of cb_53 (Or.inl ⟨Or.inl rfl, cv_53⟩) (Or.inl ⟨rfl, mALL (in_t3 (i := 39) rfl) rfl⟩)
set_option maxRecDepth 40000 in
theorem ca_5_70 : cOK (5, 70, 46, 1, 0) := callOk_of cb_46 (Or.inl ⟨Or.inl rfl, cv_46⟩) (Or.inl ⟨rfl, mALL (in_t4 (i := 162) rfl) rfl⟩)
set_option maxRecDepth 40000 in
theorem ca_5_73 : cOK (5, 73, 47, 1, 0) := callOk_of cb_47 (Or.inl ⟨Or.inl rfl, cv_47⟩) (Or.inl ⟨rfl, mALL (in_t4 (i := 183) rfl) rfl⟩)
set_option maxRecDepth 40000 in
theorem ca_5_76 : cOK (5, 76, 287, 1, 2) := callOk_of cb_287 (Or.inr (Or.inl ⟨Or.inl rfl, cs_287⟩)) (Or.inl ⟨rfl, mALL (in_t3 (i := 130) rfl) rfl⟩)
set_option maxRecDepth 40000 in
theorem ca_5_81 : cOK (5, 81, 58, 2, 0) := callOk_of cb_58 (Or.inl ⟨Or.inl rfl, cv_58⟩) (Or.inl ⟨rfl, mALL (in_t2 (i := 116) rfl) rfl⟩)
set_option maxRecDepth 40000 in
theorem ca_5_85 : cOK (5, 85, 289, 2, 2) := callOk_of cb_289 (Or.inr (Or.inl ⟨Or.inl rfl, cs_289⟩)) (Or.inl ⟨rfl, mALL (in_t2 (i := 200) rfl) rfl⟩)
set_option maxRecDepth 40000 in
theorem ca_5_88 : cOK (5, 88, 288, 2, 2) := callOk_of cb_288 (Or.inr (Or.inl ⟨Or.inl rfl, cs_288⟩)) (Or.inl ⟨rfl, mALL (in_t2 (i := 201) rfl) rfl⟩)
set_option maxRecDepth 40000 in
theorem ca_5_91 : cOK (5, 91, 42, 2, 0) := callOk_of cb_42 (Or.inl ⟨Or.inl rfl, cv_42⟩) (Or.inl ⟨rfl, mALL (in_t2 (i := 230) rfl) rfl⟩)
set_option maxRecDepth 40000 in
theorem ca_5_95 : cOK (5, 95, 34, 3, 1) := callOk_of cb_34 (Or.inl ⟨Or.inr rfl, cv_34⟩) (Or.inr ⟨rfl, in_t2 (i := 232) rfl⟩)
set_option maxRecDepth 40000 in
theorem ca_5_101 : cOK (5, 101, 62, 3, 0) := callOk_of cb_62 (Or.inl ⟨Or.inl rfl, cv_62⟩) (Or.inl ⟨rfl, mALL (in_t2 (i := 226) rfl) rfl⟩)
set_option maxRecDepth 40000 in
theorem ca_5_105 : cOK (5, 105, 64, 3, 0) := callOk_of cb_64 (Or.inl ⟨Or.inl rfl, cv_64⟩) (Or.inl ⟨rfl, mALL (in_t2 (i := 233) rfl) rfl⟩)
set_option maxRecDepth 40000 in
theorem ca_5_109 : cOK (5, 109, 60, 4, 0) := callOk_of cb_60 (Or.inl ⟨Or.inl rfl, cv_60⟩) (Or.inl ⟨rfl, mALL (in_t2 (i := 238) rfl) rfl⟩)
set_option maxRecDepth 40000 in
theorem ca_5_113 : cOK (5, 113, 61, 1, 0) := callOk_of cb_61 (Or.inl ⟨Or.inl rfl, cv_61⟩) (Or.inl ⟨rfl, mALL (in_t3 (i := 2) rfl) rfl⟩)
set_option maxRecDepth 40000 in
theorem ca_5_117 : cOK (5, 117, 59, 2, 0) := callOk_of cb_59 (Or.inl ⟨Or.inl rfl, cv_59⟩) (Or.inl ⟨rfl, mALL (in_t3 (i := 26) rfl) rfl⟩)
set_option maxRecDepth 40000 in
theorem ca_5_120 : cOK (5, 120, 66, 1, 0) := callOk_of cb_66 (Or.inl ⟨Or.inl rfl, cv_66⟩) (Or.inl ⟨rfl, mALL (in_t3 (i := 27) rfl) rfl⟩)
set_option maxRecDepth 40000 in
theorem ca_6_21 : cOK (6, 21, 39, 0, 5) := callOk_of cb_39 (Or.inr (Or.inr ⟨Or.inr rfl, ci_39⟩)) (Or.inr ⟨rfl, in_t1 (i := 124) rfl⟩)
set_option maxRecDepth 40000 in
theorem ca_6_36 : cOK (6, 36, 72, 1, 0) := callOk_of cb_72 (Or.inl ⟨Or.inl rfl, cv_72⟩) (Or.inl ⟨rfl, mALL (in_t3 (i := 178) rfl) rfl⟩)
set_option maxRecDepth 40000 in
theorem ca_6_40 : cOK (6, 40, 40, 1, 1) := callOk_of cb_40 (Or.inl ⟨Or.inr rfl, cv_40⟩) (Or.inr ⟨rfl, in_t3 (i := 182) rfl⟩)
set_option maxRecDepth 40000 in
theorem ca_6_44 : cOK (6, 44, 74, 2, 0) := callOk_of cb_74 (Or.inl ⟨Or.inl rfl, cv_74⟩) (Or.inl ⟨rfl, mALL (in_t3 (i := 183) rfl) rfl⟩)
set_option maxRecDepth 40000 in
theorem ca_6_48 : cOK (6, 48, 75, 1, 0) := callOk_of cb_75 (Or.inl ⟨Or.inl rfl, cv_75⟩) (Or.inl ⟨rfl, mALL (in_t3 (i := 187) rfl) rfl⟩)
set_option maxRecDepth 40000 in
theorem ca_6_52 : cOK (6, 52, 76, 2, 0) := callOk_of cb_76 (Or.inl ⟨Or.inl rfl, cv_76⟩) (Or.inl ⟨rfl, mALL (in_t3 (i := 196) rfl) rfl⟩)
set_option maxRecDepth 40000 in
theorem ca_6_59 : cOK (6, 59, 77, 3, 0) := callOk_of cb_77 (Or.inl ⟨Or.inl rfl, cv_77⟩) (Or.inl ⟨rfl, mALL (in_t3 (i := 201) rfl) rfl⟩)
set_option maxRecDepth 40000 in
theorem ca_6_63 : cOK (6, 63, 62, 3, 1) := callOk_of cb_62 (Or.inl ⟨Or.inr rfl, cv_62⟩) (Or.inr ⟨rfl, in_t3 (i := 205) rfl⟩)
set_option maxRecDepth 40000 in
theorem ca_6_67 : cOK (6, 67, 78, 3, 0) := callOk_of cb_78 (Or.inl ⟨Or.inl rfl, cv_78⟩) (Or.inl ⟨rfl, mALL (in_t3 (i := 206) rfl) rfl⟩)
set_option maxRecDepth 40000 in
theorem ca_6_70 : cOK (6, 70, 79, 1, 2) := callOk_of cb_79 (Or.inr (Or.inl ⟨Or.inl rfl, cs_79⟩)) (Or.inl ⟨rfl, mALL (in_t3 (i := 191) rfl) rfl⟩)
set_option maxRecDepth 40000 in
theorem ca_6_74 : cOK (6, 74, 45, 1, 1) := callOk_of cb_45 (Or.inl ⟨Or.inr rfl, cv_45⟩) (Or.inr ⟨rfl, in_t3 (i := 194) rfl⟩)
set_option maxRecDepth 40000 in
theorem ca_6_78 : cOK (6, 78, 48, 2, 1) := callOk_of cb_48 (Or.inl ⟨Or.inr rfl, cv_48⟩) (Or.inr ⟨rfl, in_t3 (i := 200) rfl⟩)
set_option maxRecDepth 40000 in
theorem ca_6_82 : cOK (6, 82, 64, 3, 1) := callOk_of cb_64 (Or.inl ⟨Or.inr rfl, cv_64⟩) (Or.inr ⟨rfl, in_t3 (i := 210) rfl⟩)
set_option maxRecDepth 40000 in
theorem ca_6_86 : cOK (6, 86, 289, 2, 2) := callOk_of cb_289 (Or.inr (Or.inl ⟨Or.inl rfl, cs_289⟩)) (Or.inl ⟨rfl, mALL (in_t3 (i := 211) rfl) rfl⟩)
set_option maxRecDepth 40000 in
theorem ca_6_91 : cOK (6, 91, 288, 2, 2) := callOk_of cb_288 (Or.inr (Or.inl ⟨Or.inl rfl, cs_288⟩)) (Or.inl ⟨rfl, mALL (in_t3 (i := 195) rfl) rfl⟩)
set_option maxRecDepth 40000 in
theorem ca_8_9 : cOK (8, 9, 80, 0, 5) := callOk_of cb_80 (Or.inr (Or.inr ⟨Or.inr rfl, ci_80⟩)) (Or.inr ⟨rfl, in_t1 (i := 28) rfl⟩)
set_option maxRecDepth 40000 in
theorem ca_8_18 : cOK (8, 18, 16, 0, 5) := callOk_of cb_16 (Or.inr (Or.inr ⟨Or.inr rfl, ci_16⟩)) (Or.inr ⟨rfl, in_t1 (i := 44) rfl⟩)
set_option maxRecDepth 40000 in
theorem ca_8_25 : cOK (8, 25, 39, 0, 5) := callOk_of cb_39 (Or.inr (Or.inr ⟨Or.inr rfl, ci_39⟩)) (Or.inr ⟨rfl, in_t1 (i := 59) rfl⟩)
set_option maxRecDepth 40000 in
theorem ca_8_38 : cOK (8, 38, 11, 0, 5) := callOk_of cb_11 (Or.inr (Or.inr ⟨Or.inr rfl, ci_11⟩)) (Or.inr ⟨rfl, in_t1 (i := 99) rfl⟩)
set_option maxRecDepth 40000 in
theorem ca_8_51 : cOK (8, 51, 69, 0, 5) := callOk_of cb_69 (Or.inr (Or.inr ⟨Or.inr rfl, ci_69⟩)) (Or.inr ⟨rfl, in_t1 (i := 119) rfl⟩)
set_option maxRecDepth 40000 in
theorem ca_8_58 : cOK (8, 58, 5, 0, 5) := callOk_of cb_5 (Or.inr (Or.inr ⟨Or.inr rfl, ci_5⟩)) (Or.inr ⟨rfl, in_t1 (i := 146) rfl⟩)
set_option maxRecDepth 40000 in
theorem ca_8_68 : cOK (8, 68, 0, 0, 5) := callOk_of cb_0 (Or.inr (Or.inr ⟨Or.inr rfl, ci_0⟩)) (Or.inr ⟨rfl, in_t1 (i := 167) rfl⟩)
set_option maxRecDepth 40000 in
theorem ca_8_75 : cOK (8, 75, 23, 0, 5) := callOk_of cb_23 (Or.inr (Or.inr ⟨Or.inr rfl, ci_23⟩)) (Or.inr ⟨rfl, in_t1 (i := 182) rfl⟩)
set_option maxRecDepth 40000 in
theorem ca_8_91 : cOK (8, 91, 24, 2, 1) := callOk_of cb_24 (Or.inl ⟨Or.inr rfl, cv_24⟩) (Or.inr ⟨rfl, in_t1 (i := 216) rfl⟩)
set_option maxRecDepth 40000 in
theorem ca_8_98 : cOK (8, 98, 81, 1, 1) := callOk_of cb_81 (Or.inl ⟨Or.inr rfl, cv_81⟩) (Or.inr ⟨rfl, in_t2 (i := 76) rfl⟩)
set_option maxRecDepth 40000 in
theorem ca_8_102 : cOK (8, 102, 83, 0, 1) := callOk_of cb_83 (Or.inl ⟨Or.inr rfl, cv_83⟩) (Or.inr ⟨rfl, in_t2 (i := 88) rfl⟩)
set_option maxRecDepth 40000 in
theorem ca_8_106 : cOK (8, 106, 135, 1, 0) := callOk_of cb_135 (Or.inl ⟨Or.inl rfl, cv_135⟩) (Or.inl ⟨rfl, mALL (in_t2 (i := 92) rfl) rfl⟩)
set_option maxRecDepth 40000 in
theorem ca_8_110 : cOK (8, 110, 82, 1, 1) := callOk_of cb_82 (Or.inl ⟨Or.inr rfl, cv_82⟩) (Or.inr ⟨rfl, in_t2 (i := 101) rfl⟩)
set_option maxRecDepth 40000 in
theorem ca_8_114 : cOK (8, 114, 57, 2, 1) := callOk_of cb_57 (Or.inl ⟨Or.inr rfl, cv_57⟩) (Or.inr ⟨rfl, in_t2 (i := 109) rfl⟩)
set_option maxRecDepth 40000 in
theorem ca_8_118 : cOK (8, 118, 12, 0, 1) := callOk_of cb_12 (Or.inl ⟨Or.inr rfl, cv_12⟩) (Or.inr ⟨rfl, in_t2 (i := 124) rfl⟩)
set_option maxRecDepth 40000 in
theorem ca_8_124 : cOK (8, 124, 137, 0, 0) := callOk_of cb_137 (Or.inl ⟨Or.inl rfl, cv_137⟩) (Or.inl ⟨rfl, mALL (in_t2 (i := 132) rfl) rfl⟩)
set_option maxRecDepth 40000 in
theorem ca_8_127 : cOK (8, 127, 41, 1, 1) := callOk_of cb_41 (Or.inl ⟨Or.inr rfl, cv_41⟩) (Or.inr ⟨rfl, in_t3 (i := 112) rfl⟩)
set_option maxRecDepth 40000 in
theorem ca_8_138 : cOK (8, 138, 43, 1, 1) := callOk_of cb_43 (Or.inl ⟨Or.inr rfl, cv_43⟩) (Or.inr ⟨rfl, in_t5 (i := 26) rfl⟩)
set_option maxRecDepth 40000 in
theorem ca_8_141 : cOK (8, 141, 44, 1, 1) := callOk_of cb_44 (Or.inl ⟨Or.inr rfl, cv_44⟩) (Or.inr ⟨rfl, in_t3 (i := 95) rfl⟩)
set_option maxRecDepth 40000 in
theorem ca_8_144 : cOK (8, 144, 45, 1, 1) := callOk_of cb_45 (Or.inl ⟨Or.inr rfl, cv_45⟩) (Or.inr ⟨rfl, in_t3 (i := 94) rfl⟩)
set_option maxRecDepth 40000 in
theorem ca_8_147 : cOK (8, 147, 46, 1, 1) := callOk_of cb_46 (Or.inl ⟨Or.inr rfl, cv_46⟩) (Or.inr ⟨rfl, in_t4 (i := 65) rfl⟩)
set_option maxRecDepth 40000 in
theorem ca_8_150 : cOK (8, 150, 47, 1, 1) := callOk_of cb_47 (Or.inl ⟨Or.inr rfl, cv_47⟩) (Or.inr ⟨rfl, in_t4 (i := 66) rfl⟩)
set_option maxRecDepth 40000 in
theorem ca_8_153 : cOK (8, 153, 48, 2, 1) := callOk_of cb_48 (Or.inl ⟨Or.inr rfl, cv_48⟩) (Or.inr ⟨rfl, in_t3 (i := 113) rfl⟩)
set_option maxRecDepth 40000 in
theorem ca_8_157 : cOK (8, 157, 42, 2, 1) := callOk_of cb_42 (Or.inl ⟨Or.inr rfl, cv_42⟩) (Or.inr ⟨rfl, in_t2 (i := 140) rfl⟩)
set_option maxRecDepth 40000 in
theorem ca_8_161 : cOK (8, 161, 34, 3, 1) := callOk_of cb_34 (Or.inl ⟨Or.inr rfl, cv_34⟩) (Or.inr ⟨rfl, in_t2 (i := 144) rfl⟩)
set_option maxRecDepth 40000 in
theorem ca_8_165 : cOK (8, 165, 289, 2, 2) := callOk_of cb_289 (Or.inr (Or.inl ⟨Or.inl rfl, cs_289⟩)) (Or.inl ⟨rfl, mALL (in_t2 (i := 96) rfl) rfl⟩)
set_option maxRecDepth 40000 in
theorem ca_8_170 : cOK (8, 170, 288, 2, 2) := callOk_of cb_288 (Or.inr (Or.inl ⟨Or.inl rfl, cs_288⟩)) (Or.inl ⟨rfl, mALL (in_t2 (i := 182) rfl) rfl⟩)
set_option maxRecDepth 40000 in
theorem ca_8_176 : cOK (8, 176, 145, 2, 2) := callOk_of cb_145 (Or.inr (Or.inl ⟨Or.inl rfl, cs_145⟩)) (Or.inl ⟨rfl, mALL (in_t2 (i := 193) rfl) rfl⟩)
set_option maxRecDepth 40000 in
theorem ca_8_179 : cOK (8, 179, 59, 2, 1) := callOk_of cb_59 (Or.inl ⟨Or.inr rfl, cv_59⟩) (Or.inr ⟨rfl, in_t2 (i := 196) rfl⟩)
set_option maxRecDepth 40000 in
theorem ca_8_182 : cOK (8, 182, 50, 0, 1) := callOk_of cb_50 (Or.inl ⟨Or.inr rfl, cv_50⟩) (Or.inr ⟨rfl, in_t2 (i := 202) rfl⟩)
set_option maxRecDepth 40000 in
theorem ca_8_185 : cOK (8, 185, 40, 1, 1) := callOk_of cb_40 (Or.inl ⟨Or.inr rfl, cv_40⟩) (Or.inr ⟨rfl, in_t2 (i := 215) rfl⟩)
set_option maxRecDepth 40000 in
theorem ca_8_189 : cOK (8, 189, 63, 4, 1) := callOk_of cb_63 (Or.inl ⟨Or.inr rfl, cv_63⟩) (Or.inr ⟨rfl, in_t2 (i := 222) rfl⟩)
set_option maxRecDepth 40000 in
theorem ca_8_193 : cOK (8, 193, 14, 1, 1) := callOk_of cb_14 (Or.inl ⟨Or.inr rfl, cv_14⟩) (Or.inr ⟨rfl, in_t3 (i := 6) rfl⟩)
set_option maxRecDepth 40000 in
theorem ca_8_196 : cOK (8, 196, 65, 1, 1) := callOk_of cb_65 (Or.inl ⟨Or.inr rfl, cv_65⟩) (Or.inr ⟨rfl, in_t3 (i := 22) rfl⟩)
set_option maxRecDepth 40000 in
theorem ca_8_200 : cOK (8, 200, 17, 0, 1) := callOk_of cb_17 (Or.inl ⟨Or.inr rfl, cv_17⟩) (Or.inr ⟨rfl, in_t3 (i := 31) rfl⟩)
set_option maxRecDepth 40000 in
theorem ca_8_201 : cOK (8, 201, 52, 1, 1) := callOk_of cb_52 (Or.inl ⟨Or.inr rfl, cv_52⟩) (Or.inr ⟨rfl, in_t3 (i := 35) rfl⟩)
set_option maxRecDepth 40000 in
theorem ca_8_204 : cOK (8, 204, 18, 1, 1) := callOk_of cb_18 (Or.inl ⟨Or.inr rfl, cv_18⟩) (Or.inr ⟨rfl, in_t3 (i := 43) rfl⟩)
set_option maxRecDepth 40000 in
theorem ca_8_207 : cOK (8, 207, 67, 3, 1) := callOk_of cb_67 (Or.inl ⟨Or.inr rfl, cv_67⟩) (Or.inr ⟨rfl, in_t3 (i := 51) rfl⟩)
set_option maxRecDepth 40000 in
theorem ca_8_211 : cOK (8, 211, 68, 2, 1) := callOk_of cb_68 (Or.inl ⟨Or.inr rfl, cv_68⟩) (Or.inr ⟨rfl, in_t3 (i := 59) rfl⟩)
set_option maxRecDepth 40000 in
theorem ca_8_214 : cOK (8, 214, 138, 1, 0) := callOk_of cb_138 (Or.inl ⟨Or.inl rfl, cv_138⟩) (Or.inl ⟨rfl, mALL (in_t3 (i := 67) rfl) rfl⟩)
set_option maxRecDepth 40000 in
theorem ca_8_217 : cOK (8, 217, 141, 1, 0) := callOk_of cb_141 (Or.inl ⟨Or.inl rfl, cv_141⟩) (Or.inl ⟨rfl, mALL (in_t3 (i := 77) rfl) rfl⟩)
set_option maxRecDepth 40000 in
theorem ca_8_220 : cOK (8, 220, 140, 1, 2) := callOk_of cb_140 (Or.inr (Or.inl ⟨Or.inl rfl, cs_140⟩)) (Or.inl ⟨rfl, mALL (in_t3 (i := 71) rfl) rfl⟩)
set_option maxRecDepth 40000 in
theorem ca_8_227 : cOK (8, 227, 15, 1, 1) := callOk_of cb_15 (Or.inl ⟨Or.inr rfl, cv_15⟩) (Or.inr ⟨rfl, in_t3 (i := 85) rfl⟩)
set_option maxRecDepth 40000 in
theorem ca_8_232 : cOK (8, 232, 144, 1, 2) := callOk_of cb_144 (Or.inr (Or.inl ⟨Or.inl rfl, cs_144⟩)) (Or.inl ⟨rfl, mALL (in_t3 (i := 93) rfl) rfl⟩)
set_option maxRecDepth 40000 in
theorem ca_8_235 : cOK (8, 235, 19, 2, 1) := callOk_of cb_19 (Or.inl ⟨Or.inr rfl, cv_19⟩) (Or.inr ⟨rfl, in_t3 (i := 100) rfl⟩)
set_option maxRecDepth 40000 in
theorem ca_8_239 : cOK (8, 239, 49, 1, 1) := callOk_of cb_49 (Or.inl ⟨Or.inr rfl, cv_49⟩) (Or.inr ⟨rfl, in_t3 (i := 118) rfl⟩)
set_option maxRecDepth 40000 in
theorem ca_8_242 : cOK (8, 242, 56, 2, 1) := callOk_of cb_56 (Or.inl ⟨Or.inr rfl, cv_56⟩) (Or.inr ⟨rfl, in_t3 (i := 126) rfl⟩)
set_option maxRecDepth 40000 in
theorem ca_8_245 : cOK (8, 245, 62, 3, 1) := callOk_of cb_62 (Or.inl ⟨Or.inr rfl, cv_62⟩) (Or.inr ⟨rfl, in_t3 (i := 145) rfl⟩)
set_option maxRecDepth 40000 in
theorem ca_8_249 : cOK (8, 249, 147, 3, 0) := callOk_of cb_147 (Or.inl ⟨Or.inl rfl, cv_147⟩) (Or.inl ⟨rfl, mALL (in_t3 (i := 154) rfl) rfl⟩)
set_option maxRecDepth 40000 in
theorem ca_8_253 : cOK (8, 253, 70, 4, 1) := callOk_of cb_70 (Or.inl ⟨Or.inr rfl, cv_70⟩) (Or.inr ⟨rfl, in_t3 (i := 170) rfl⟩)
set_option maxRecDepth 40000 in
theorem ca_8_257 : cOK (8, 257, 73, 1, 1) := callOk_of cb_73 (Or.inl ⟨Or.inr rfl, cv_73⟩) (Or.inr ⟨rfl, in_t3 (i := 174) rfl⟩)
set_option maxRecDepth 40000 in
theorem ca_8_261 : cOK (8, 261, 148, 1, 0) := callOk_of cb_148 (Or.inl ⟨Or.inl rfl, cv_148⟩) (Or.inl ⟨rfl, mALL (in_t3 (i := 212) rfl) rfl⟩)
set_option maxRecDepth 40000 in
theorem ca_8_264 : cOK (8, 264, 149, 0, 0) := callOk_of cb_149 (Or.inl ⟨Or.inl rfl, cv_149⟩) (Or.inl ⟨rfl, mALL (in_t3 (i := 228) rfl) rfl⟩)
set_option maxRecDepth 40000 in
theorem ca_8_267 : cOK (8, 267, 285, 1, 2) := callOk_of cb_285 (Or.inr (Or.inl ⟨Or.inl rfl, cs_285⟩)) (Or.inl ⟨rfl, mALL (in_t3 (i := 236) rfl) rfl⟩)
set_option maxRecDepth 40000 in
theorem ca_8_272 : cOK (8, 272, 53, 2, 1) := callOk_of cb_53 (Or.inl ⟨Or.inr rfl, cv_53⟩) (Or.inr ⟨rfl, in_t4 (i := 2) rfl⟩)
set_option maxRecDepth 40000 in
theorem ca_8_275 : cOK (8, 275, 51, 1, 1) := callOk_of cb_51 (Or.inl ⟨Or.inr rfl, cv_51⟩) (Or.inr ⟨rfl, in_t4 (i := 7) rfl⟩)
set_option maxRecDepth 40000 in
theorem ca_8_278 : cOK (8, 278, 287, 1, 2) := callOk_of cb_287 (Or.inr (Or.inl ⟨Or.inl rfl, cs_287⟩)) (Or.inl ⟨rfl, mALL (in_t4 (i := 8) rfl) rfl⟩)
set_option maxRecDepth 40000 in
theorem ca_8_281 : cOK (8, 281, 163, 1, 2) := callOk_of cb_163 (Or.inr (Or.inl ⟨Or.inl rfl, cs_163⟩)) (Or.inl ⟨rfl, mALL (in_t4 (i := 13) rfl) rfl⟩)
set_option maxRecDepth 40000 in
theorem ca_8_284 : cOK (8, 284, 156, 1, 2) := callOk_of cb_156 (Or.inr (Or.inl ⟨Or.inl rfl, cs_156⟩)) (Or.inl ⟨rfl, mALL (in_t4 (i := 26) rfl) rfl⟩)
set_option maxRecDepth 40000 in
theorem ca_8_287 : cOK (8, 287, 6, 3, 1) := callOk_of cb_6 (Or.inl ⟨Or.inr rfl, cv_6⟩) (Or.inr ⟨rfl, in_t4 (i := 29) rfl⟩)
set_option maxRecDepth 40000 in
theorem ca_8_290 : cOK (8, 290, 7, 0, 1) := callOk_of cb_7 (Or.inl ⟨Or.inr rfl, cv_7⟩) (Or.inr ⟨rfl, in_t4 (i := 37) rfl⟩)
set_option maxRecDepth 40000 in
theorem ca_8_291 : cOK (8, 291, 157, 0, 0) := callOk_of cb_157 (Or.inl ⟨Or.inl rfl, cv_157⟩) (Or.inl ⟨rfl, mALL (in_t4 (i := 45) rfl) rfl⟩)
set_option maxRecDepth 40000 in
theorem ca_8_294 : cOK (8, 294, 155, 1, 0) := callOk_of cb_155 (Or.inl ⟨Or.inl rfl, cv_155⟩) (Or.inl ⟨rfl, mALL (in_t4 (i := 71) rfl) rfl⟩)
set_option maxRecDepth 40000 in
theorem ca_8_297 : cOK (8, 297, 1, 1, 1) := callOk_of cb_1 (Or.inl ⟨Or.inr rfl, cv_1⟩) (Or.inr ⟨rfl, in_t4 (i := 87) rfl⟩)
set_option maxRecDepth 40000 in
theorem ca_8_304 : cOK (8, 304, 3, 2, 1) := callOk_of cb_3 (Or.inl ⟨Or.inr rfl, cv_3⟩) (Or.inr ⟨rfl, in_t4 (i := 107) rfl⟩)
set_option maxRecDepth 40000 in
theorem ca_8_307 : cOK (8, 307, 160, 2, 2) := callOk_of cb_160 (Or.inr (Or.inl ⟨Or.inl rfl, cs_160⟩)) (Or.inl ⟨rfl, mALL (in_t4 (i := 115) rfl) rfl⟩)
set_option maxRecDepth 40000 in
theorem ca_8_310 : cOK (8, 310, 164, 2, 2) := callOk_of cb_164 (Or.inr (Or.inl ⟨Or.inl rfl, cs_164⟩)) (Or.inl ⟨rfl, mALL (in_t4 (i := 124) rfl) rfl⟩)
set_option maxRecDepth 40000 in
theorem ca_8_314 : cOK (8, 314, 161, 3, 2) := callOk_of cb_161 (Or.inr (Or.inl ⟨Or.inl rfl, cs_161⟩)) (Or.inl ⟨rfl, mALL (in_t4 (i := 131) rfl) rfl⟩)
set_option maxRecDepth 40000 in
theorem ca_8_317 : cOK (8, 317, 150, 1, 0) := callOk_of cb_150 (Or.inl ⟨Or.inl rfl, cv_150⟩) (Or.inl ⟨rfl, mALL (in_t4 (i := 141) rfl) rfl⟩)
set_option maxRecDepth 40000 in
theorem ca_8_324 : cOK (8, 324, 151, 0, 0) := callOk_of cb_151 (Or.inl ⟨Or.inl rfl, cv_151⟩) (Or.inl ⟨rfl, mALL (in_t4 (i := 149) rfl) rfl⟩)
set_option maxRecDepth 40000 in
theorem ca_8_327 : cOK (8, 327, 54, 0, 1) := callOk_of cb_54 (Or.inl ⟨Or.inr rfl, cv_54⟩) (Or.inr ⟨rfl, in_t4 (i := 158) rfl⟩)
set_option maxRecDepth 40000 in
theorem ca_8_330 : cOK (8, 330, 146, 1, 0) := callOk_of cb_146 (Or.inl ⟨Or.inl rfl, cv_146⟩) (Or.inl ⟨rfl, mALL (in_t4 (i := 167) rfl) rfl⟩)
set_option maxRecDepth 40000 in
theorem ca_8_337 : cOK (8, 337, 55, 0, 1) := callOk_of cb_55 (Or.inl ⟨Or.inr rfl, cv_55⟩) (Or.inr ⟨rfl, in_t4 (i := 179) rfl⟩)
set_option maxRecDepth 40000 in
theorem ca_8_341 : cOK (8, 341, 153, 0, 0) := callOk_of cb_153 (Or.inl ⟨Or.inl rfl, cv_153⟩) (Or.inl ⟨rfl, mALL (in_t4 (i := 184) rfl) rfl⟩)
set_option maxRecDepth 40000 in
theorem ca_8_344 : cOK (8, 344, 154, 0, 0) := callOk_of cb_154 (Or.inl ⟨Or.inl rfl, cv_154⟩) (Or.inl ⟨rfl, mALL (in_t4 (i := 188) rfl) rfl⟩)
set_option maxRecDepth 40000 in
theorem ca_8_347 : cOK (8, 347, 21, 1, 1) := callOk_of cb_21 (Or.inl ⟨Or.inr rfl, cv_21⟩) (Or.inr ⟨rfl, in_t5 (i := 37) rfl⟩)
set_option maxRecDepth 40000 in
theorem ca_8_350 : cOK (8, 350, 22, 1, 1) := callOk_of cb_22 (Or.inl ⟨Or.inr rfl, cv_22⟩) (Or.inr ⟨rfl, in_t5 (i := 42) rfl⟩)
set_option maxRecDepth 40000 in
theorem ca_8_353 : cOK (8, 353, 136, 1, 0) := callOk_of cb_136 (Or.inl ⟨Or.inl rfl, cv_136⟩) (Or.inl ⟨rfl, mALL (in_t2 (i := 97) rfl) rfl⟩)
set_option maxRecDepth 40000 in
theorem ca_8_356 : cOK (8, 356, 143, 1, 2) := callOk_of cb_143 (Or.inr (Or.inl ⟨Or.inl rfl, cs_143⟩)) (Or.inl ⟨rfl, mALL (in_t2 (i := 105) rfl) rfl⟩)
set_option maxRecDepth 40000 in
theorem ca_8_360 : cOK (8, 360, 142, 1, 2) := callOk_of cb_142 (Or.inr (Or.inl ⟨Or.inl rfl, cs_142⟩)) (Or.inl ⟨rfl, mALL (in_t2 (i := 108) rfl) rfl⟩)
set_option maxRecDepth 40000 in
theorem ca_8_366 : cOK (8, 366, 139, 3, 2) := callOk_of cb_139 (Or.inr (Or.inl ⟨Or.inl rfl, cs_139⟩)) (Or.inl ⟨rfl, mALL (in_t3 (i := 74) rfl) rfl⟩)
set_option maxRecDepth 40000 in
theorem ca_8_370 : cOK (8, 370, 71, 1, 1) := callOk_of cb_71 (Or.inl ⟨Or.inr rfl, cv_71⟩) (Or.inr ⟨rfl, in_t3 (i := 216) rfl⟩)
set_option maxRecDepth 40000 in
theorem ca_8_373 : cOK (8, 373, 152, 1, 0) := callOk_of cb_152 (Or.inl ⟨Or.inl rfl, cv_152⟩) (Or.inl ⟨rfl, mALL (in_t4 (i := 153) rfl) rfl⟩)
set_option maxRecDepth 40000 in
theorem ca_8_377 : cOK (8, 377, 158, 1, 0) := callOk_of cb_158 (Or.inl ⟨Or.inl rfl, cv_158⟩) (Or.inl ⟨rfl, mALL (in_t4 (i := 49) rfl) rfl⟩)
set_option maxRecDepth 40000 in
theorem ca_8_380 : cOK (8, 380, 8, 1, 1) := callOk_of cb_8 (Or.inl ⟨Or.inr rfl, cv_8⟩) (Or.inr ⟨rfl, in_t4 (i := 53) rfl⟩)
set_option maxRecDepth 40000 in
theorem ca_8_383 : cOK (8, 383, 9, 1, 1) := callOk_of cb_9 (Or.inl ⟨Or.inr rfl, cv_9⟩) (Or.inr ⟨rfl, in_t4 (i := 57) rfl⟩)
set_option maxRecDepth 40000 in
theorem ca_8_386 : cOK (8, 386, 159, 3, 0) := callOk_of cb_159 (Or.inl ⟨Or.inl rfl, cv_159⟩) (Or.inl ⟨rfl, mALL (in_t4 (i := 61) rfl) rfl⟩)
set_option maxRecDepth 40000 in
theorem ca_8_393 : cOK (8, 393, 162, 3, 2) := callOk_of cb_162 (Or.inr (Or.inl ⟨Or.inl rfl, cs_162⟩)) (Or.inl ⟨rfl, mALL (in_t4 (i := 134) rfl) rfl⟩)
set_option maxRecDepth 40000 in
theorem ca_9_95 : cOK (9, 95, 167, 3, 2) := callOk_of cb_167 (Or.inr (Or.inl ⟨Or.inl rfl, cs_167⟩)) (Or.inl ⟨rfl, mALL (in_t5 (i := 189) rfl) rfl⟩)
set_option maxRecDepth 40000 in
theorem ca_9_99 : cOK (9, 99, 171, 1, 0) := callOk_of cb_171 (Or.inl ⟨Or.inl rfl, cv_171⟩) (Or.inl ⟨rfl, mALL (in_t6 (i := 27) rfl) rfl⟩)
set_option maxRecDepth 40000 in
theorem ca_9_103 : cOK (9, 103, 175, 3, 2) := callOk_of cb_175 (Or.inr (Or.inl ⟨Or.inl rfl, cs_175⟩)) (Or.inl ⟨rfl, mALL (in_t6 (i := 35) rfl) rfl⟩)
set_option maxRecDepth 40000 in
theorem ca_9_125 : cOK (9, 125, 179, 3, 0) := callOk_of cb_179 (Or.inl ⟨Or.inl rfl, cv_179⟩) (Or.inl ⟨rfl, mALL (in_t5 (i := 200) rfl) rfl⟩)
set_option maxRecDepth 40000 in
theorem ca_9_129 : cOK (9, 129, 182, 0, 0) := callOk_of cb_182 (Or.inl ⟨Or.inl rfl, cv_182⟩) (Or.inl ⟨rfl, mALL (in_t5 (i := 204) rfl) rfl⟩)
set_option maxRecDepth 40000 in
theorem ca_9_133 : cOK (9, 133, 181, 0, 0) := callOk_of cb_181 (Or.inl ⟨Or.inl rfl, cv_181⟩) (Or.inl ⟨rfl, mALL (in_t5 (i := 216) rfl) rfl⟩)
set_option maxRecDepth 40000 in
theorem ca_9_137 : cOK (9, 137, 184, 1, 0) := callOk_of cb_184 (Or.inl ⟨Or.inl rfl, cv_184⟩) (Or.inl ⟨rfl, mALL (in_t5 (i := 220) rfl) rfl⟩)
set_option maxRecDepth 40000 in
theorem ca_9_141 : cOK (9, 141, 183, 1, 0) := callOk_of cb_183 (Or.inl ⟨Or.inl rfl, cv_183⟩) (Or.inl ⟨rfl, mALL (in_t5 (i := 208) rfl) rfl⟩)
set_option maxRecDepth 40000 in
theorem ca_9_145 : cOK (9, 145, 186, 2, 0) := callOk_of cb_186 (Or.inl ⟨Or.inl rfl, cv_186⟩) (Or.inl ⟨rfl, mALL (in_t5 (i := 212) rfl) rfl⟩)
set_option maxRecDepth 40000 in
theorem ca_9_149 : cOK (9, 149, 180, 1, 0) := callOk_of cb_180 (Or.inl ⟨Or.inl rfl, cv_180⟩) (Or.inl ⟨rfl, mALL (in_t5 (i := 196) rfl) rfl⟩)
set_option maxRecDepth 40000 in
theorem ca_9_152 : cOK (9, 152, 188, 0, 0) := callOk_of cb_188 (Or.inl ⟨Or.inl rfl, cv_188⟩) (Or.inl ⟨rfl, mALL (in_t5 (i := 224) rfl) rfl⟩)
set_option maxRecDepth 40000 in
theorem ca_9_161 : cOK (9, 161, 191, 1, 0) := callOk_of cb_191 (Or.inl ⟨Or.inl rfl, cv_191⟩) (Or.inl ⟨rfl, mALL (in_t6 (i := 0) rfl) rfl⟩)
set_option maxRecDepth 40000 in
theorem ca_9_165 : cOK (9, 165, 192, 1, 0) := callOk_of cb_192 (Or.inl ⟨Or.inl rfl, cv_192⟩) (Or.inl ⟨rfl, mALL (in_t6 (i := 4) rfl) rfl⟩)
set_option maxRecDepth 40000 in
theorem ca_9_168 : cOK (9, 168, 194, 1, 0) := callOk_of cb_194 (Or.inl ⟨Or.inl rfl, cv_194⟩) (Or.inl ⟨rfl, mALL (in_t6 (i := 8) rfl) rfl⟩)
set_option maxRecDepth 40000 in
theorem ca_9_171 : cOK (9, 171, 190, 1, 0) := callOk_of cb_190 (Or.inl ⟨Or.inl rfl, cv_190⟩) (Or.inl ⟨rfl, mALL (in_t5 (i := 236) rfl) rfl⟩)
set_option maxRecDepth 40000 in
theorem ca_9_174 : cOK (9, 174, 185, 1, 0) := callOk_of cb_185 (Or.inl ⟨Or.inl rfl, cv_185⟩) (Or.inl ⟨rfl, mALL (in_t6 (i := 12) rfl) rfl⟩)
set_option maxRecDepth 40000 in
theorem ca_9_178 : cOK (9, 178, 187, 1, 0) := callOk_of cb_187 (Or.inl ⟨Or.inl rfl, cv_187⟩) (Or.inl ⟨rfl, mALL (in_t6 (i := 16) rfl) rfl⟩)
set_option maxRecDepth 40000 in
theorem ca_9_181 : cOK (9, 181, 193, 1, 2) := callOk_of cb_193 (Or.inr (Or.inl ⟨Or.inl rfl, cs_193⟩)) (Or.inl ⟨rfl, mALL (in_t6 (i := 20) rfl) rfl⟩)
set_option maxRecDepth 40000 in
theorem ca_9_188 : cOK (9, 188, 195, 0, 0) := callOk_of cb_195 (Or.inl ⟨Or.inl rfl, cv_195⟩) (Or.inl ⟨rfl, mALL (in_t5 (i := 232) rfl) rfl⟩)
set_option maxRecDepth 40000 in
theorem ca_9_194 : cOK (9, 194, 176, 2, 2) := callOk_of cb_176 (Or.inr (Or.inl ⟨Or.inl rfl, cs_176⟩)) (Or.inl ⟨rfl, mALL (in_t6 (i := 50) rfl) rfl⟩)
set_option maxRecDepth 40000 in
theorem ca_9_198 : cOK (9, 198, 169, 0, 0) := callOk_of cb_169 (Or.inl ⟨Or.inl rfl, cv_169⟩) (Or.inl ⟨rfl, mALL (in_t6 (i := 31) rfl) rfl⟩)
set_option maxRecDepth 40000 in
theorem ca_9_201 : cOK (9, 201, 172, 2, 0) := callOk_of cb_172 (Or.inl ⟨Or.inl rfl, cv_172⟩) (Or.inl ⟨rfl, mALL (in_t6 (i := 42) rfl) rfl⟩)
set_option maxRecDepth 40000 in
theorem ca_9_205 : cOK (9, 205, 197, 3, 0) := callOk_of cb_197 (Or.inl ⟨Or.inl rfl, cv_197⟩) (Or.inl ⟨rfl, mALL (in_t6 (i := 46) rfl) rfl⟩)
set_option maxRecDepth 40000 in
theorem ca_9_208 : cOK (9, 208, 289, 2, 2) := callOk_of cb_289 (Or.inr (Or.inl ⟨Or.inl rfl, cs_289⟩)) (Or.inl ⟨rfl, mALL (in_t6 (i := 53) rfl) rfl⟩)
set_option maxRecDepth 40000 in
theorem ca_9_214 : cOK (9, 214, 288, 2, 2) := callOk_of cb_288 (Or.inr (Or.inl ⟨Or.inl rfl, cs_288⟩)) (Or.inl ⟨rfl, mALL (in_t6 (i := 54) rfl) rfl⟩)
set_option maxRecDepth 40000 in
theorem ca_9_217 : cOK (9, 217, 201, 2, 0) := callOk_of cb_201 (Or.inl ⟨Or.inl rfl, cv_201⟩) (Or.inl ⟨rfl, mALL (in_t6 (i := 63) rfl) rfl⟩)
set_option maxRecDepth 40000 in
theorem ca_9_220 : cOK (9, 220, 203, 3, 2) := callOk_of cb_203 (Or.inr (Or.inl ⟨Or.inl rfl, cs_203⟩)) (Or.inl ⟨rfl, mALL (in_t6 (i := 82) rfl) rfl⟩)
set_option maxRecDepth 40000 in
theorem ca_9_224 : cOK (9, 224, 284, 2, 2) := callOk_of cb_284 (Or.inr (Or.inl ⟨Or.inl rfl, cs_284⟩)) (Or.inl ⟨rfl, mALL (in_t6 (i := 75) rfl) rfl⟩)
set_option maxRecDepth 40000 in
theorem ca_9_229 : cOK (9, 229, 206, 3, 0) := callOk_of cb_206 (Or.inl ⟨Or.inl rfl, cv_206⟩) (Or.inl ⟨rfl, mALL (in_t6 (i := 71) rfl) rfl⟩)
set_option maxRecDepth 40000 in
theorem ca_9_232 : cOK (9, 232, 205, 2, 2) := callOk_of cb_205 (Or.inr (Or.inl ⟨Or.inl rfl, cs_205⟩)) (Or.inl ⟨rfl, mALL (in_t6 (i := 89) rfl) rfl⟩)
set_option maxRecDepth 40000 in
theorem ca_9_236 : cOK (9, 236, 204, 1, 0) := callOk_of cb_204 (Or.inl ⟨Or.inl rfl, cv_204⟩) (Or.inl ⟨rfl, mALL (in_t6 (i := 78) rfl) rfl⟩)
set_option maxRecDepth 40000 in
theorem ca_9_240 : cOK (9, 240, 207, 3, 0) := callOk_of cb_207 (Or.inl ⟨Or.inl rfl, cv_207⟩) (Or.inl ⟨rfl, mALL (in_t6 (i := 85) rfl) rfl⟩)
set_option maxRecDepth 40000 in
theorem ca_9_243 : cOK (9, 243, 209, 2, 0) := callOk_of cb_209 (Or.inl ⟨Or.inl rfl, cv_209⟩) (Or.inl ⟨rfl, mALL (in_t6 (i := 104) rfl) rfl⟩)
set_option maxRecDepth 40000 in
theorem ca_9_246 : cOK (9, 246, 210, 1, 0) := callOk_of cb_210 (Or.inl ⟨Or.inl rfl, cv_210⟩) (Or.inl ⟨rfl, mALL (in_t6 (i := 100) rfl) rfl⟩)
set_option maxRecDepth 40000 in
theorem ca_9_249 : cOK (9, 249, 211, 2, 0) := callOk_of cb_211 (Or.inl ⟨Or.inl rfl, cv_211⟩) (Or.inl ⟨rfl, mALL (in_t6 (i := 96) rfl) rfl⟩)
set_option maxRecDepth 40000 in
theorem ca_9_252 : cOK (9, 252, 212, 2, 0) := callOk_of cb_212 (Or.inl ⟨Or.inl rfl, cv_212⟩) (Or.inl ⟨rfl, mALL (in_t6 (i := 108) rfl) rfl⟩)
set_option maxRecDepth 40000 in
theorem ca_9_255 : cOK (9, 255, 170, 1, 0) := callOk_of cb_170 (Or.inl ⟨Or.inl rfl, cv_170⟩) (Or.inl ⟨rfl, mALL (in_t6 (i := 112) rfl) rfl⟩)
set_option maxRecDepth 40000 in
theorem ca_9_259 : cOK (9, 259, 173, 1, 2) := callOk_of cb_173 (Or.inr (Or.inl ⟨Or.inl rfl, cs_173⟩)) (Or.inl ⟨rfl, mALL (in_t6 (i := 124) rfl) rfl⟩)
set_option maxRecDepth 40000 in
theorem ca_9_262 : cOK (9, 262, 214, 4, 0) := callOk_of cb_214 (Or.inl ⟨Or.inl rfl, cv_214⟩) (Or.inl ⟨rfl, mALL (in_t6 (i := 120) rfl) rfl⟩)
set_option maxRecDepth 40000 in
theorem ca_9_266 : cOK (9, 266, 215, 4, 2) := callOk_of cb_215 (Or.inr (Or.inl ⟨Or.inl rfl, cs_215⟩)) (Or.inl ⟨rfl, mALL (in_t6 (i := 127) rfl) rfl⟩)
set_option maxRecDepth 40000 in
theorem ca_9_270 : cOK (9, 270, 217, 2, 0) := callOk_of cb_217 (Or.inl ⟨Or.inl rfl, cv_217⟩) (Or.inl ⟨rfl, mALL (in_t6 (i := 134) rfl) rfl⟩)
set_option maxRecDepth 40000 in
theorem ca_9_273 : cOK (9, 273, 218, 2, 0) := callOk_of cb_218 (Or.inl ⟨Or.inl rfl, cv_218⟩) (Or.inl ⟨rfl, mALL (in_t6 (i := 138) rfl) rfl⟩)
set_option maxRecDepth 40000 in
theorem ca_9_277 : cOK (9, 277, 221, 1, 0) := callOk_of cb_221 (Or.inl ⟨Or.inl rfl, cv_221⟩) (Or.inl ⟨rfl, mALL (in_t6 (i := 146) rfl) rfl⟩)
set_option maxRecDepth 40000 in
theorem ca_9_280 : cOK (9, 280, 222, 1, 0) := callOk_of cb_222 (Or.inl ⟨Or.inl rfl, cv_222⟩) (Or.inl ⟨rfl, mALL (in_t6 (i := 150) rfl) rfl⟩)
set_option maxRecDepth 40000 in
theorem ca_9_283 : cOK (9, 283, 225, 2, 2) := callOk_of cb_225 (Or.inr (Or.inl ⟨Or.inl rfl, cs_225⟩)) (Or.inl ⟨rfl, mALL (in_t6 (i := 170) rfl) rfl⟩)
set_option maxRecDepth 40000 in
theorem ca_9_287 : cOK (9, 287, 226, 2, 0) := callOk_of cb_226 (Or.inl ⟨Or.inl rfl, cv_226⟩) (Or.inl ⟨rfl, mALL (in_t6 (i := 166) rfl) rfl⟩)
set_option maxRecDepth 40000 in
theorem ca_9_291 : cOK (9, 291, 229, 2, 2) := callOk_of cb_229 (Or.inr (Or.inl ⟨Or.inl rfl, cs_229⟩)) (Or.inl ⟨rfl, mALL (in_t6 (i := 181) rfl) rfl⟩)
set_option maxRecDepth 40000 in
theorem ca_9_295 : cOK (9, 295, 287, 1, 2) := callOk_of cb_287 (Or.inr (Or.inl ⟨Or.inl rfl, cs_287⟩)) (Or.inl ⟨rfl, mALL (in_t6 (i := 189) rfl) rfl⟩)
set_option maxRecDepth 40000 in
theorem ca_9_298 : cOK (9, 298, 239, 1, 0) := callOk_of cb_239 (Or.inl ⟨Or.inl rfl, cv_239⟩) (Or.inl ⟨rfl, mALL (in_t6 (i := 230) rfl) rfl⟩)
set_option maxRecDepth 40000 in
theorem ca_9_301 : cOK (9, 301, 240, 2, 0) := callOk_of cb_240 (Or.inl ⟨Or.inl rfl, cv_240⟩) (Or.inl ⟨rfl, mALL (in_t6 (i := 234) rfl) rfl⟩)
set_option maxRecDepth 40000 in
theorem ca_9_304 : cOK (9, 304, 241, 4, 0) := callOk_of cb_241 (Or.inl ⟨Or.inl rfl, cv_241⟩) (Or.inl ⟨rfl, mALL (in_t6 (i := 226) rfl) rfl⟩)
set_option maxRecDepth 40000 in
theorem ca_9_308 : cOK (9, 308, 242, 2, 0) := callOk_of cb_242 (Or.inl ⟨Or.inl rfl, cv_242⟩) (Or.inl ⟨rfl, mALL (in_t6 (i := 222) rfl) rfl⟩)
set_option maxRecDepth 40000 in
theorem ca_9_311 : cOK (9, 311, 245, 1, 0) := callOk_of cb_245 (Or.inl ⟨Or.inl rfl, cv_245⟩) (Or.inl ⟨rfl, mALL (in_t7 (i := 6) rfl) rfl⟩)
set_option maxRecDepth 40000 in
theorem ca_9_314 : cOK (9, 314, 174, 0, 0) := callOk_of cb_174 (Or.inl ⟨Or.inl rfl, cv_174⟩) (Or.inl ⟨rfl, mALL (in_t7 (i := 14) rfl) rfl⟩)
set_option maxRecDepth 40000 in
theorem ca_9_317 : cOK (9, 317, 168, 2, 2) := callOk_of cb_168 (Or.inr (Or.inl ⟨Or.inl rfl, cs_168⟩)) (Or.inl ⟨rfl, mALL (in_t7 (i := 18) rfl) rfl⟩)
set_option maxRecDepth 40000 in
theorem ca_9_320 : cOK (9, 320, 285, 1, 2) := callOk_of cb_285 (Or.inr (Or.inl ⟨Or.inl rfl, cs_285⟩)) (Or.inl ⟨rfl, mALL (in_t7 (i := 21) rfl) rfl⟩)
set_option maxRecDepth 40000 in
theorem ca_9_323 : cOK (9, 323, 248, 1, 0) := callOk_of cb_248 (Or.inl ⟨Or.inl rfl, cv_248⟩) (Or.inl ⟨rfl, mALL (in_t7 (i := 26) rfl) rfl⟩)
set_option maxRecDepth 40000 in
theorem ca_9_326 : cOK (9, 326, 250, 1, 2) := callOk_of cb_250 (Or.inr (Or.inl ⟨Or.inl rfl, cs_250⟩)) (Or.inl ⟨rfl, mALL (in_t7 (i := 34) rfl) rfl⟩)
set_option maxRecDepth 40000 in
theorem ca_9_333 : cOK (9, 333, 255, 3, 0) := callOk_of cb_255 (Or.inl ⟨Or.inl rfl, cv_255⟩) (Or.inl ⟨rfl, mALL (in_t7 (i := 57) rfl) rfl⟩)
set_option maxRecDepth 40000 in
theorem ca_9_336 : cOK (9, 336, 256, 0, 0) := callOk_of cb_256 (Or.inl ⟨Or.inl rfl, cv_256⟩) (Or.inl ⟨rfl, mALL (in_t7 (i := 53) rfl) rfl⟩)
set_option maxRecDepth 40000 in
theorem ca_9_345 : cOK (9, 345, 261, 4, 2) := callOk_of cb_261 (Or.inr (Or.inl ⟨Or.inl rfl, cs_261⟩)) (Or.inl ⟨rfl, mALL (in_t7 (i := 81) rfl) rfl⟩)
set_option maxRecDepth 40000 in
theorem ca_9_348 : cOK (9, 348, 262, 2, 0) := callOk_of cb_262 (Or.inl ⟨Or.inl rfl, cv_262⟩) (Or.inl ⟨rfl, mALL (in_t7 (i := 77) rfl) rfl⟩)
set_option maxRecDepth 40000 in
theorem ca_9_351 : cOK (9, 351, 264, 2, 0) := callOk_of cb_264 (Or.inl ⟨Or.inl rfl, cv_264⟩) (Or.inl ⟨rfl, mALL (in_t7 (i := 88) rfl) rfl⟩)
set_option maxRecDepth 40000 in
theorem ca_9_354 : cOK (9, 354, 266, 2, 0) := callOk_of cb_266 (Or.inl ⟨Or.inl rfl, cv_266⟩) (Or.inl ⟨rfl, mALL (in_t7 (i := 100) rfl) rfl⟩)
set_option maxRecDepth 40000 in
theorem ca_9_357 : cOK (9, 357, 267, 2, 0) := callOk_of cb_267 (Or.inl ⟨Or.inl rfl, cv_267⟩) (Or.inl ⟨rfl, mALL (in_t7 (i := 96) rfl) rfl⟩)
set_option maxRecDepth 40000 in
theorem ca_9_360 : cOK (9, 360, 269, 2, 2) := callOk_of cb_269 (Or.inr (Or.inl ⟨Or.inl rfl, cs_269⟩)) (Or.inl ⟨rfl, mALL (in_t7 (i := 108) rfl) rfl⟩)
set_option maxRecDepth 40000 in
theorem ca_9_366 : cOK (9, 366, 271, 3, 2) := callOk_of cb_271 (Or.inr (Or.inl ⟨Or.inl rfl, cs_271⟩)) (Or.inl ⟨rfl, mALL (in_t7 (i := 119) rfl) rfl⟩)
set_option maxRecDepth 40000 in
theorem ca_9_370 : cOK (9, 370, 272, 3, 2) := callOk_of cb_272 (Or.inr (Or.inl ⟨Or.inl rfl, cs_272⟩)) (Or.inl ⟨rfl, mALL (in_t7 (i := 116) rfl) rfl⟩)
set_option maxRecDepth 40000 in
theorem ca_9_373 : cOK (9, 373, 274, 0, 0) := callOk_of cb_274 (Or.inl ⟨Or.inl rfl, cv_274⟩) (Or.inl ⟨rfl, mALL (in_t7 (i := 126) rfl) rfl⟩)
set_option maxRecDepth 40000 in
theorem ca_9_380 : cOK (9, 380, 276, 1, 0) := callOk_of cb_276 (Or.inl ⟨Or.inl rfl, cv_276⟩) (Or.inl ⟨rfl, mALL (in_t7 (i := 134) rfl) rfl⟩)
set_option maxRecDepth 40000 in
theorem ca_9_383 : cOK (9, 383, 280, 0, 0) := callOk_of cb_280 (Or.inl ⟨Or.inl rfl, cv_280⟩) (Or.inl ⟨rfl, mALL (in_t7 (i := 151) rfl) rfl⟩)
set_option maxRecDepth 40000 in
theorem ca_9_386 : cOK (9, 386, 281, 0, 0) := callOk_of cb_281 (Or.inl ⟨Or.inl rfl, cv_281⟩) (Or.inl ⟨rfl, mALL (in_t7 (i := 155) rfl) rfl⟩)
set_option maxRecDepth 40000 in
theorem ca_12_7 : cOK (12, 7, 89, 2, 0) := callOk_of cb_89 (Or.inl ⟨Or.inl rfl, cv_89⟩) (Or.inl ⟨rfl, mALL (in_t4 (i := 196) rfl) rfl⟩)
set_option maxRecDepth 40000 in
theorem ca_12_15 : cOK (12, 15, 134, 1, 0) := callOk_of cb_134 (Or.inl ⟨Or.inl rfl, cv_134⟩) (Or.inl ⟨rfl, mALL (in_t5 (i := 33) rfl) rfl⟩)
set_option maxRecDepth 40000 in
theorem ca_12_19 : cOK (12, 19, 84, 0, 4) := callOk_of cb_84 (Or.inr (Or.inr ⟨Or.inl rfl, ci_84⟩)) (Or.inl ⟨rfl, mALL (in_t1 (i := 20) rfl) rfl⟩)
set_option maxRecDepth 40000 in
theorem ca_12_22 : cOK (12, 22, 165, 0, 4) := callOk_of cb_165 (Or.inr (Or.inr ⟨Or.inl rfl, ci_165⟩)) (Or.inl ⟨rfl, mALL (in_t5 (i := 49) rfl) rfl⟩)
set_option maxRecDepth 40000 in
theorem ca_12_23 : cOK (12, 23, 85, 1, 0) := callOk_of cb_85 (Or.inl ⟨Or.inl rfl, cv_85⟩) (Or.inl ⟨rfl, mALL (in_t2 (i := 72) rfl) rfl⟩)
set_option maxRecDepth 40000 in
theorem ca_12_27 : cOK (12, 27, 177, 1, 0) := callOk_of cb_177 (Or.inl ⟨Or.inl rfl, cv_177⟩) (Or.inl ⟨rfl, mALL (in_t5 (i := 181) rfl) rfl⟩)
set_option maxRecDepth 40000 in
theorem ca_12_28 : cOK (12, 28, 86, 1, 0) := callOk_of cb_86 (Or.inl ⟨Or.inl rfl, cv_86⟩) (Or.inl ⟨rfl, mALL (in_t2 (i := 80) rfl) rfl⟩)
set_option maxRecDepth 40000 in
theorem ca_12_32 : cOK (12, 32, 178, 1, 0) := callOk_of cb_178 (Or.inl ⟨Or.inl rfl, cv_178⟩) (Or.inl ⟨rfl, mALL (in_t5 (i := 185) rfl) rfl⟩)
set_option maxRecDepth 40000 in
theorem ca_12_33 : cOK (12, 33, 87, 0, 0) := callOk_of cb_87 (Or.inl ⟨Or.inl rfl, cv_87⟩) (Or.inl ⟨rfl, mALL (in_t2 (i := 84) rfl) rfl⟩)
set_option maxRecDepth 40000 in
theorem ca_12_37 : cOK (12, 37, 189, 0, 0) := callOk_of cb_189 (Or.inl ⟨Or.inl rfl, cv_189⟩) (Or.inl ⟨rfl, mALL (in_t5 (i := 192) rfl) rfl⟩)
set_option maxRecDepth 40000 in
theorem ca_12_38 : cOK (12, 38, 88, 0, 0) := callOk_of cb_88 (Or.inl ⟨Or.inl rfl, cv_88⟩) (Or.inl ⟨rfl, mALL (in_t2 (i := 128) rfl) rfl⟩)
set_option maxRecDepth 40000 in
theorem ca_12_41 : cOK (12, 41, 196, 0, 0) := callOk_of cb_196 (Or.inl ⟨Or.inl rfl, cv_196⟩) (Or.inl ⟨rfl, mALL (in_t5 (i := 228) rfl) rfl⟩)
set_option maxRecDepth 40000 in
theorem ca_12_47 : cOK (12, 47, 198, 2, 0) := callOk_of cb_198 (Or.inl ⟨Or.inl rfl, cv_198⟩) (Or.inl ⟨rfl, mALL (in_t6 (i := 23) rfl) rfl⟩)
set_option maxRecDepth 40000 in
theorem ca_12_48 : cOK (12, 48, 166, 0, 0) := callOk_of cb_166 (Or.inl ⟨Or.inl rfl, cv_166⟩) (Or.inl ⟨rfl, mALL (in_t5 (i := 177) rfl) rfl⟩)
set_option maxRecDepth 40000 in
theorem ca_12_51 : cOK (12, 51, 90, 2, 0) := callOk_of cb_90 (Or.inl ⟨Or.inl rfl, cv_90⟩) (Or.inl ⟨rfl, mALL (in_t2 (i := 136) rfl) rfl⟩)
set_option maxRecDepth 40000 in
theorem ca_12_54 : cOK (12, 54, 199, 2, 0) := callOk_of cb_199 (Or.inl ⟨Or.inl rfl, cv_199⟩) (Or.inl ⟨rfl, mALL (in_t6 (i := 38) rfl) rfl⟩)
set_option maxRecDepth 40000 in
theorem ca_12_55 : cOK (12, 55, 91, 1, 0) := callOk_of cb_91 (Or.inl ⟨Or.inl rfl, cv_91⟩) (Or.inl ⟨rfl, mALL (in_t2 (i := 185) rfl) rfl⟩)
set_option maxRecDepth 40000 in
theorem ca_12_58 : cOK (12, 58, 200, 1, 0) := callOk_of cb_200 (Or.inl ⟨Or.inl rfl, cv_200⟩) (Or.inl ⟨rfl, mALL (in_t6 (i := 55) rfl) rfl⟩)
set_option maxRecDepth 40000 in
theorem ca_12_59 : cOK (12, 59, 92, 4, 0) := callOk_of cb_92 (Or.inl ⟨Or.inl rfl, cv_92⟩) (Or.inl ⟨rfl, mALL (in_t2 (i := 189) rfl) rfl⟩)
set_option maxRecDepth 40000 in
theorem ca_12_63 : cOK (12, 63, 202, 4, 0) := callOk_of cb_202 (Or.inl ⟨Or.inl rfl, cv_202⟩) (Or.inl ⟨rfl, mALL (in_t6 (i := 59) rfl) rfl⟩)
set_option maxRecDepth 40000 in
theorem ca_12_64 : cOK (12, 64, 93, 2, 0) := callOk_of cb_93 (Or.inl ⟨Or.inl rfl, cv_93⟩) (Or.inl ⟨rfl, mALL (in_t2 (i := 211) rfl) rfl⟩)
set_option maxRecDepth 40000 in
theorem ca_12_67 : cOK (12, 67, 208, 2, 0) := callOk_of cb_208 (Or.inl ⟨Or.inl rfl, cv_208⟩) (Or.inl ⟨rfl, mALL (in_t6 (i := 67) rfl) rfl⟩)
set_option maxRecDepth 40000 in
theorem ca_12_68 : cOK (12, 68, 94, 1, 0) := callOk_of cb_94 (Or.inl ⟨Or.inl rfl, cv_94⟩) (Or.inl ⟨rfl, mALL (in_t3 (i := 18) rfl) rfl⟩)
set_option maxRecDepth 40000 in
theorem ca_12_71 : cOK (12, 71, 213, 1, 0) := callOk_of cb_213 (Or.inl ⟨Or.inl rfl, cv_213⟩) (Or.inl ⟨rfl, mALL (in_t6 (i := 92) rfl) rfl⟩)
set_option maxRecDepth 40000 in
theorem ca_12_72 : cOK (12, 72, 95, 3, 0) := callOk_of cb_95 (Or.inl ⟨Or.inl rfl, cv_95⟩) (Or.inl ⟨rfl, mALL (in_t3 (i := 47) rfl) rfl⟩)
set_option maxRecDepth 40000 in
theorem ca_12_76 : cOK (12, 76, 216, 3, 0) := callOk_of cb_216 (Or.inl ⟨Or.inl rfl, cv_216⟩) (Or.inl ⟨rfl, mALL (in_t6 (i := 116) rfl) rfl⟩)
set_option maxRecDepth 40000 in
theorem ca_12_77 : cOK (12, 77, 96, 2, 0) := callOk_of cb_96 (Or.inl ⟨Or.inl rfl, cv_96⟩) (Or.inl ⟨rfl, mALL (in_t3 (i := 55) rfl) rfl⟩)
set_option maxRecDepth 40000 in
theorem ca_12_80 : cOK (12, 80, 219, 2, 0) := callOk_of cb_219 (Or.inl ⟨Or.inl rfl, cv_219⟩) (Or.inl ⟨rfl, mALL (in_t6 (i := 130) rfl) rfl⟩)
set_option maxRecDepth 40000 in
theorem ca_12_81 : cOK (12, 81, 97, 0, 0) := callOk_of cb_97 (Or.inl ⟨Or.inl rfl, cv_97⟩) (Or.inl ⟨rfl, mALL (in_t3 (i := 63) rfl) rfl⟩)
set_option maxRecDepth 40000 in
theorem ca_12_84 : cOK (12, 84, 220, 0, 0) := callOk_of cb_220 (Or.inl ⟨Or.inl rfl, cv_220⟩) (Or.inl ⟨rfl, mALL (in_t6 (i := 142) rfl) rfl⟩)
set_option maxRecDepth 40000 in
theorem ca_12_85 : cOK (12, 85, 98, 0, 0) := callOk_of cb_98 (Or.inl ⟨Or.inl rfl, cv_98⟩) (Or.inl ⟨rfl, mALL (in_t3 (i := 81) rfl) rfl⟩)
set_option maxRecDepth 40000 in
theorem ca_12_88 : cOK (12, 88, 223, 0, 0) := callOk_of cb_223 (Or.inl ⟨Or.inl rfl, cv_223⟩) (Or.inl ⟨rfl, mALL (in_t6 (i := 154) rfl) rfl⟩)
set_option maxRecDepth 40000 in
theorem ca_12_89 : cOK (12, 89, 99, 1, 0) := callOk_of cb_99 (Or.inl ⟨Or.inl rfl, cv_99⟩) (Or.inl ⟨rfl, mALL (in_t3 (i := 89) rfl) rfl⟩)
set_option maxRecDepth 40000 in
theorem ca_12_92 : cOK (12, 92, 224, 1, 0) := callOk_of cb_224 (Or.inl ⟨Or.inl rfl, cv_224⟩) (Or.inl ⟨rfl, mALL (in_t6 (i := 158) rfl) rfl⟩)
set_option maxRecDepth 40000 in
theorem ca_12_93 : cOK (12, 93, 100, 1, 0) := callOk_of cb_100 (Or.inl ⟨Or.inl rfl, cv_100⟩) (Or.inl ⟨rfl, mALL (in_t3 (i := 96) rfl) rfl⟩)
set_option maxRecDepth 40000 in
theorem ca_12_96 : cOK (12, 96, 227, 1, 0) := callOk_of cb_227 (Or.inl ⟨Or.inl rfl, cv_227⟩) (Or.inl ⟨rfl, mALL (in_t6 (i := 162) rfl) rfl⟩)
set_option maxRecDepth 40000 in
theorem ca_12_97 : cOK (12, 97, 101, 2, 0) := callOk_of cb_101 (Or.inl ⟨Or.inl rfl, cv_101⟩) (Or.inl ⟨rfl, mALL (in_t3 (i := 108) rfl) rfl⟩)
set_option maxRecDepth 40000 in
theorem ca_12_100 : cOK (12, 100, 228, 2, 0) := callOk_of cb_228 (Or.inl ⟨Or.inl rfl, cv_228⟩) (Or.inl ⟨rfl, mALL (in_t6 (i := 173) rfl) rfl⟩)
set_option maxRecDepth 40000 in
theorem ca_12_101 : cOK (12, 101, 102, 1, 0) := callOk_of cb_102 (Or.inl ⟨Or.inl rfl, cv_102⟩) (Or.inl ⟨rfl, mALL (in_t3 (i := 114) rfl) rfl⟩)
set_option maxRecDepth 40000 in
theorem ca_12_104 : cOK (12, 104, 230, 1, 0) := callOk_of cb_230 (Or.inl ⟨Or.inl rfl, cv_230⟩) (Or.inl ⟨rfl, mALL (in_t6 (i := 177) rfl) rfl⟩)
set_option maxRecDepth 40000 in
theorem ca_12_105 : cOK (12, 105, 103, 0, 0) := callOk_of cb_103 (Or.inl ⟨Or.inl rfl, cv_103⟩) (Or.inl ⟨rfl, mALL (in_t3 (i := 122) rfl) rfl⟩)
set_option maxRecDepth 40000 in
theorem ca_12_108 : cOK (12, 108, 231, 0, 0) := callOk_of cb_231 (Or.inl ⟨Or.inl rfl, cv_231⟩) (Or.inl ⟨rfl, mALL (in_t6 (i := 184) rfl) rfl⟩)
set_option maxRecDepth 40000 in
theorem ca_12_109 : cOK (12, 109, 104, 0, 0) := callOk_of cb_104 (Or.inl ⟨Or.inl rfl, cv_104⟩) (Or.inl ⟨rfl, mALL (in_t3 (i := 133) rfl) rfl⟩)
set_option maxRecDepth 40000 in
theorem ca_12_112 : cOK (12, 112, 232, 0, 0) := callOk_of cb_232 (Or.inl ⟨Or.inl rfl, cv_232⟩) (Or.inl ⟨rfl, mALL (in_t6 (i := 190) rfl) rfl⟩)
set_option maxRecDepth 40000 in
theorem ca_12_113 : cOK (12, 113, 105, 1, 0) := callOk_of cb_105 (Or.inl ⟨Or.inl rfl, cv_105⟩) (Or.inl ⟨rfl, mALL (in_t3 (i := 137) rfl) rfl⟩)
set_option maxRecDepth 40000 in
theorem ca_12_116 : cOK (12, 116, 233, 1, 0) := callOk_of cb_233 (Or.inl ⟨Or.inl rfl, cv_233⟩) (Or.inl ⟨rfl, mALL (in_t6 (i := 194) rfl) rfl⟩)
set_option maxRecDepth 40000 in
theorem ca_12_117 : cOK (12, 117, 106, 1, 0) := callOk_of cb_106 (Or.inl ⟨Or.inl rfl, cv_106⟩) (Or.inl ⟨rfl, mALL (in_t3 (i := 141) rfl) rfl⟩)
set_option maxRecDepth 40000 in
theorem ca_12_120 : cOK (12, 120, 234, 1, 0) := callOk_of cb_234 (Or.inl ⟨Or.inl rfl, cv_234⟩) (Or.inl ⟨rfl, mALL (in_t6 (i := 198) rfl) rfl⟩)
set_option maxRecDepth 40000 in
theorem ca_12_121 : cOK (12, 121, 107, 3, 0) := callOk_of cb_107 (Or.inl ⟨Or.inl rfl, cv_107⟩) (Or.inl ⟨rfl, mALL (in_t3 (i := 146) rfl) rfl⟩)
set_option maxRecDepth 40000 in
theorem ca_12_124 : cOK (12, 124, 235, 3, 0) := callOk_of cb_235 (Or.inl ⟨Or.inl rfl, cv_235⟩) (Or.inl ⟨rfl, mALL (in_t6 (i := 202) rfl) rfl⟩)
set_option maxRecDepth 40000 in
theorem ca_12_125 : cOK (12, 125, 108, 1, 0) := callOk_of cb_108 (Or.inl ⟨Or.inl rfl, cv_108⟩) (Or.inl ⟨rfl, mALL (in_t3 (i := 150) rfl) rfl⟩)
set_option maxRecDepth 40000 in
theorem ca_12_128 : cOK (12, 128, 236, 1, 0) := callOk_of cb_236 (Or.inl ⟨Or.inl rfl, cv_236⟩) (Or.inl ⟨rfl, mALL (in_t6 (i := 206) rfl) rfl⟩)
set_option maxRecDepth 40000 in
theorem ca_12_129 : cOK (12, 129, 109, 2, 0) := callOk_of cb_109 (Or.inl ⟨Or.inl rfl, cv_109⟩) (Or.inl ⟨rfl, mALL (in_t3 (i := 158) rfl) rfl⟩)
set_option maxRecDepth 40000 in
theorem ca_12_132 : cOK (12, 132, 237, 2, 0) := callOk_of cb_237 (Or.inl ⟨Or.inl rfl, cv_237⟩) (Or.inl ⟨rfl, mALL (in_t6 (i := 210) rfl) rfl⟩)
set_option maxRecDepth 40000 in
theorem ca_12_133 : cOK (12, 133, 110, 2, 0) := callOk_of cb_110 (Or.inl ⟨Or.inl rfl, cv_110⟩) (Or.inl ⟨rfl, mALL (in_t3 (i := 162) rfl) rfl⟩)
set_option maxRecDepth 40000 in
theorem ca_12_136 : cOK (12, 136, 238, 2, 0) := callOk_of cb_238 (Or.inl ⟨Or.inl rfl, cv_238⟩) (Or.inl ⟨rfl, mALL (in_t6 (i := 214) rfl) rfl⟩)
set_option maxRecDepth 40000 in
theorem ca_12_137 : cOK (12, 137, 111, 2, 0) := callOk_of cb_111 (Or.inl ⟨Or.inl rfl, cv_111⟩) (Or.inl ⟨rfl, mALL (in_t3 (i := 166) rfl) rfl⟩)
set_option maxRecDepth 40000 in
theorem ca_12_140 : cOK (12, 140, 243, 2, 0) := callOk_of cb_243 (Or.inl ⟨Or.inl rfl, cv_243⟩) (Or.inl ⟨rfl, mALL (in_t6 (i := 218) rfl) rfl⟩)
set_option maxRecDepth 40000 in
theorem ca_12_141 : cOK (12, 141, 112, 0, 0) := callOk_of cb_112 (Or.inl ⟨Or.inl rfl, cv_112⟩) (Or.inl ⟨rfl, mALL (in_t3 (i := 220) rfl) rfl⟩)
set_option maxRecDepth 40000 in
theorem ca_12_144 : cOK (12, 144, 244, 0, 0) := callOk_of cb_244 (Or.inl ⟨Or.inl rfl, cv_244⟩) (Or.inl ⟨rfl, mALL (in_t6 (i := 238) rfl) rfl⟩)
set_option maxRecDepth 40000 in
theorem ca_12_145 : cOK (12, 145, 113, 1, 0) := callOk_of cb_113 (Or.inl ⟨Or.inl rfl, cv_113⟩) (Or.inl ⟨rfl, mALL (in_t3 (i := 224) rfl) rfl⟩)
set_option maxRecDepth 40000 in
theorem ca_12_148 : cOK (12, 148, 246, 1, 0) := callOk_of cb_246 (Or.inl ⟨Or.inl rfl, cv_246⟩) (Or.inl ⟨rfl, mALL (in_t7 (i := 2) rfl) rfl⟩)
set_option maxRecDepth 40000 in
theorem ca_12_149 : cOK (12, 149, 114, 1, 0) := callOk_of cb_114 (Or.inl ⟨Or.inl rfl, cv_114⟩) (Or.inl ⟨rfl, mALL (in_t3 (i := 232) rfl) rfl⟩)
set_option maxRecDepth 40000 in
theorem ca_12_152 : cOK (12, 152, 247, 1, 0) := callOk_of cb_247 (Or.inl ⟨Or.inl rfl, cv_247⟩) (Or.inl ⟨rfl, mALL (in_t7 (i := 10) rfl) rfl⟩)
set_option maxRecDepth 40000 in
theorem ca_12_153 : cOK (12, 153, 115, 0, 0) := callOk_of cb_115 (Or.inl ⟨Or.inl rfl, cv_115⟩) (Or.inl ⟨rfl, mALL (in_t4 (i := 3) rfl) rfl⟩)
set_option maxRecDepth 40000 in
theorem ca_12_156 : cOK (12, 156, 249, 0, 0) := callOk_of cb_249 (Or.inl ⟨Or.inl rfl, cv_249⟩) (Or.inl ⟨rfl, mALL (in_t7 (i := 22) rfl) rfl⟩)
set_option maxRecDepth 40000 in
theorem ca_12_157 : cOK (12, 157, 116, 1, 0) := callOk_of cb_116 (Or.inl ⟨Or.inl rfl, cv_116⟩) (Or.inl ⟨rfl, mALL (in_t4 (i := 9) rfl) rfl⟩)
set_option maxRecDepth 40000 in
theorem ca_12_160 : cOK (12, 160, 251, 1, 0) := callOk_of cb_251 (Or.inl ⟨Or.inl rfl, cv_251⟩) (Or.inl ⟨rfl, mALL (in_t7 (i := 30) rfl) rfl⟩)
set_option maxRecDepth 40000 in
theorem ca_12_161 : cOK (12, 161, 117, 2, 0) := callOk_of cb_117 (Or.inl ⟨Or.inl rfl, cv_117⟩) (Or.inl ⟨rfl, mALL (in_t4 (i := 18) rfl) rfl⟩)
set_option maxRecDepth 40000 in
theorem ca_12_164 : cOK (12, 164, 252, 2, 0) := callOk_of cb_252 (Or.inl ⟨Or.inl rfl, cv_252⟩) (Or.inl ⟨rfl, mALL (in_t7 (i := 37) rfl) rfl⟩)
set_option maxRecDepth 40000 in
theorem ca_12_165 : cOK (12, 165, 118, 2, 0) := callOk_of cb_118 (Or.inl ⟨Or.inl rfl, cv_118⟩) (Or.inl ⟨rfl, mALL (in_t4 (i := 22) rfl) rfl⟩)
set_option maxRecDepth 40000 in
theorem ca_12_168 : cOK (12, 168, 253, 2, 0) := callOk_of cb_253 (Or.inl ⟨Or.inl rfl, cv_253⟩) (Or.inl ⟨rfl, mALL (in_t7 (i := 41) rfl) rfl⟩)
set_option maxRecDepth 40000 in
theorem ca_12_169 : cOK (12, 169, 119, 0, 0) := callOk_of cb_119 (Or.inl ⟨Or.inl rfl, cv_119⟩) (Or.inl ⟨rfl, mALL (in_t4 (i := 33) rfl) rfl⟩)
set_option maxRecDepth 40000 in
theorem ca_12_172 : cOK (12, 172, 254, 0, 0) := callOk_of cb_254 (Or.inl ⟨Or.inl rfl, cv_254⟩) (Or.inl ⟨rfl, mALL (in_t7 (i := 45) rfl) rfl⟩)
set_option maxRecDepth 40000 in
theorem ca_12_173 : cOK (12, 173, 120, 0, 0) := callOk_of cb_120 (Or.inl ⟨Or.inl rfl, cv_120⟩) (Or.inl ⟨rfl, mALL (in_t4 (i := 41) rfl) rfl⟩)
set_option maxRecDepth 40000 in
theorem ca_12_176 : cOK (12, 176, 257, 0, 0) := callOk_of cb_257 (Or.inl ⟨Or.inl rfl, cv_257⟩) (Or.inl ⟨rfl, mALL (in_t7 (i := 49) rfl) rfl⟩)
set_option maxRecDepth 40000 in
theorem ca_12_177 : cOK (12, 177, 121, 0, 0) := callOk_of cb_121 (Or.inl ⟨Or.inl rfl, cv_121⟩) (Or.inl ⟨rfl, mALL (in_t4 (i := 67) rfl) rfl⟩)
set_option maxRecDepth 40000 in
theorem ca_12_180 : cOK (12, 180, 258, 0, 0) := callOk_of cb_258 (Or.inl ⟨Or.inl rfl, cv_258⟩) (Or.inl ⟨rfl, mALL (in_t7 (i := 61) rfl) rfl⟩)
set_option maxRecDepth 40000 in
theorem ca_12_181 : cOK (12, 181, 122, 3, 0) := callOk_of cb_122 (Or.inl ⟨Or.inl rfl, cv_122⟩) (Or.inl ⟨rfl, mALL (in_t4 (i := 75) rfl) rfl⟩)
set_option maxRecDepth 40000 in
theorem ca_12_184 : cOK (12, 184, 259, 3, 0) := callOk_of cb_259 (Or.inl ⟨Or.inl rfl, cv_259⟩) (Or.inl ⟨rfl, mALL (in_t7 (i := 65) rfl) rfl⟩)
set_option maxRecDepth 40000 in
theorem ca_12_185 : cOK (12, 185, 123, 0, 0) := callOk_of cb_123 (Or.inl ⟨Or.inl rfl, cv_123⟩) (Or.inl ⟨rfl, mALL (in_t4 (i := 79) rfl) rfl⟩)
set_option maxRecDepth 40000 in
theorem ca_12_188 : cOK (12, 188, 260, 0, 0) := callOk_of cb_260 (Or.inl ⟨Or.inl rfl, cv_260⟩) (Or.inl ⟨rfl, mALL (in_t7 (i := 69) rfl) rfl⟩)
set_option maxRecDepth 40000 in
theorem ca_12_189 : cOK (12, 189, 124, 0, 0) := callOk_of cb_124 (Or.inl ⟨Or.inl rfl, cv_124⟩) (Or.inl ⟨rfl, mALL (in_t4 (i := 83) rfl) rfl⟩)
set_option maxRecDepth 40000 in
theorem ca_12_192 : cOK (12, 192, 263, 0, 0) := callOk_of cb_263 (Or.inl ⟨Or.inl rfl, cv_263⟩) (Or.inl ⟨rfl, mALL (in_t7 (i := 73) rfl) rfl⟩)
set_option maxRecDepth 40000 in
theorem ca_12_193 : cOK (12, 193, 125, 0, 0) := callOk_of cb_125 (Or.inl ⟨Or.inl rfl, cv_125⟩) (Or.inl ⟨rfl, mALL (in_t4 (i := 103) rfl) rfl⟩)
set_option maxRecDepth 40000 in
theorem ca_12_196 : cOK (12, 196, 265, 0, 0) := callOk_of cb_265 (Or.inl ⟨Or.inl rfl, cv_265⟩) (Or.inl ⟨rfl, mALL (in_t7 (i := 84) rfl) rfl⟩)
set_option maxRecDepth 40000 in
theorem ca_12_197 : cOK (12, 197, 126, 2, 0) := callOk_of cb_126 (Or.inl ⟨Or.inl rfl, cv_126⟩) (Or.inl ⟨rfl, mALL (in_t4 (i := 111) rfl) rfl⟩)
set_option maxRecDepth 40000 in
theorem ca_12_200 : cOK (12, 200, 268, 2, 0) := callOk_of cb_268 (Or.inl ⟨Or.inl rfl, cv_268⟩) (Or.inl ⟨rfl, mALL (in_t7 (i := 92) rfl) rfl⟩)
set_option maxRecDepth 40000 in
theorem ca_12_201 : cOK (12, 201, 127, 3, 0) := callOk_of cb_127 (Or.inl ⟨Or.inl rfl, cv_127⟩) (Or.inl ⟨rfl, mALL (in_t4 (i := 120) rfl) rfl⟩)
set_option maxRecDepth 40000 in
theorem ca_12_204 : cOK (12, 204, 270, 3, 0) := callOk_of cb_270 (Or.inl ⟨Or.inl rfl, cv_270⟩) (Or.inl ⟨rfl, mALL (in_t7 (i := 104) rfl) rfl⟩)
set_option maxRecDepth 40000 in
theorem ca_12_205 : cOK (12, 205, 128, 1, 0) := callOk_of cb_128 (Or.inl ⟨Or.inl rfl, cv_128⟩) (Or.inl ⟨rfl, mALL (in_t4 (i := 127) rfl) rfl⟩)
set_option maxRecDepth 40000 in
theorem ca_12_208 : cOK (12, 208, 273, 1, 0) := callOk_of cb_273 (Or.inl ⟨Or.inl rfl, cv_273⟩) (Or.inl ⟨rfl, mALL (in_t7 (i := 112) rfl) rfl⟩)
set_option maxRecDepth 40000 in
theorem ca_12_209 : cOK (12, 209, 129, 0, 0) := callOk_of cb_129 (Or.inl ⟨Or.inl rfl, cv_129⟩) (Or.inl ⟨rfl, mALL (in_t4 (i := 137) rfl) rfl⟩)
set_option maxRecDepth 40000 in
theorem ca_12_212 : cOK (12, 212, 275, 0, 0) := callOk_of cb_275 (Or.inl ⟨Or.inl rfl, cv_275⟩) (Or.inl ⟨rfl, mALL (in_t7 (i := 122) rfl) rfl⟩)
set_option maxRecDepth 40000 in
theorem ca_12_213 : cOK (12, 213, 130, 2, 0) := callOk_of cb_130 (Or.inl ⟨Or.inl rfl, cv_130⟩) (Or.inl ⟨rfl, mALL (in_t4 (i := 145) rfl) rfl⟩)
set_option maxRecDepth 40000 in
theorem ca_12_216 : cOK (12, 216, 277, 2, 0) := callOk_of cb_277 (Or.inl ⟨Or.inl rfl, cv_277⟩) (Or.inl ⟨rfl, mALL (in_t7 (i := 130) rfl) rfl⟩)
set_option maxRecDepth 40000 in
theorem ca_12_217 : cOK (12, 217, 131, 1, 0) := callOk_of cb_131 (Or.inl ⟨Or.inl rfl, cv_131⟩) (Or.inl ⟨rfl, mALL (in_t4 (i := 163) rfl) rfl⟩)
set_option maxRecDepth 40000 in
theorem ca_12_220 : cOK (12, 220, 278, 1, 0) := callOk_of cb_278 (Or.inl ⟨Or.inl rfl, cv_278⟩) (Or.inl ⟨rfl, mALL (in_t7 (i := 139) rfl) rfl⟩)
set_option maxRecDepth 40000 in
theorem ca_12_221 : cOK (12, 221, 132, 1, 0) := callOk_of cb_132 (Or.inl ⟨Or.inl rfl, cv_132⟩) (Or.inl ⟨rfl, mALL (in_t4 (i := 171) rfl) rfl⟩)
set_option maxRecDepth 40000 in
theorem ca_12_224 : cOK (12, 224, 279, 1, 0) := callOk_of cb_279 (Or.inl ⟨Or.inl rfl, cv_279⟩) (Or.inl ⟨rfl, mALL (in_t7 (i := 143) rfl) rfl⟩)
set_option maxRecDepth 40000 in
theorem ca_12_225 : cOK (12, 225, 133, 1, 0) := callOk_of cb_133 (Or.inl ⟨Or.inl rfl, cv_133⟩) (Or.inl ⟨rfl, mALL (in_t4 (i := 175) rfl) rfl⟩)
set_option maxRecDepth 40000 in
theorem ca_12_228 : cOK (12, 228, 282, 1, 0) := callOk_of cb_282 (Or.inl ⟨Or.inl rfl, cv_282⟩) (Or.inl ⟨rfl, mALL (in_t7 (i := 147) rfl) rfl⟩)
set_option maxRecDepth 40000 in
theorem ca_12_232 : cOK (12, 232, 283, 1, 0) := callOk_of cb_283 (Or.inl ⟨Or.inl rfl, cv_283⟩) (Or.inl ⟨rfl, mALL (in_t7 (i := 159) rfl) rfl⟩)
def cT_0 : List (Nat × Nat × Nat × Nat × Nat) := [(0, 13, 2, 2, 2), (0, 26, 8, 1, 1), (0, 30, 9, 1, 1), (0, 33, 4, 3, 2), (0, 37, 10, 1, 1), (2, 17, 39, 0, 5), (2, 25, 286, 2, 2), (2, 31, 13, 1, 0), (2, 35, 40, 1, 1), (3, 17, 20, 2, 2), (3, 21, 18, 1, 0), (3, 25, 21, 1, 0), (4, 42, 289, 2, 2), (4, 48, 25, 1, 0), (4, 52, 26, 1, 0), (4, 55, 33, 1, 0), (4, 59, 142, 1, 3), (4, 62, 31, 1, 0), (4, 65, 29, 1, 2), (4, 68, 32, 1, 0)]
theorem cT_0_ok : ∀ q ∈ cT_0, cOK q := List.forall_mem_cons.mpr ⟨ca_0_13, List.forall_mem_cons.mpr ⟨ca_0_26, List.forall_mem_cons.mpr ⟨ca_0_30, List.forall_mem_cons.mpr ⟨ca_0_33, List.forall_mem_cons.mpr ⟨ca_0_37, List.forall_mem_cons.mpr ⟨ca_2_17, List.forall_mem_cons.mpr ⟨ca_2_25, List.forall_mem_cons.mpr ⟨ca_2_31, List.forall_mem_cons.mpr ⟨ca_2_35, List.forall_mem_cons.mpr ⟨ca_3_17, List.forall_mem_cons.mpr ⟨ca_3_21, List.forall_mem_cons.mpr ⟨ca_3_25, List.forall_mem_cons.mpr ⟨ca_4_42, List.forall_mem_cons.mpr ⟨ca_4_48, List.forall_mem_cons.mpr ⟨ca_4_52, List.forall_mem_cons.mpr ⟨ca_4_55, List.forall_mem_cons.mpr ⟨ca_4_59, List.forall_mem_cons.mpr ⟨ca_4_62, List.forall_mem_cons.mpr ⟨ca_4_65, List.forall_mem_cons.mpr ⟨ca_4_68, fun _ h => absurd h List.not_mem_nil⟩⟩⟩⟩⟩⟩⟩⟩⟩⟩⟩⟩⟩⟩⟩⟩⟩⟩⟩⟩
def cT_1 : List (Nat × Nat × Nat × Nat × Nat) := [(4, 72, 27, 1, 0), (4, 76, 28, 0, 0), (4, 80, 30, 1, 2), (4, 84, 35, 2, 0), (4, 87, 38, 4, 2), (4, 91, 36, 2, 0), (4, 94, 37, 3, 2), (4, 98, 44, 1, 1), (4, 104, 45, 1, 1), (4, 107, 48, 2, 1), (4, 110, 46, 1, 1), (4, 113, 47, 1, 1), (5, 46, 41, 1, 0), (5, 50, 144, 1, 3), (5, 53, 45, 1, 0), (5, 57, 48, 2, 0), (5, 61, 51, 1, 0), (5, 64, 44, 1, 0), (5, 67, 53, 2, 0), (5, 70, 46, 1, 0)]
theorem cT_1_ok : ∀ q ∈ cT_1, cOK q := List.forall_mem_cons.mpr ⟨ca_4_72, List.forall_mem_cons.mpr ⟨ca_4_76, List.forall_mem_cons.mpr ⟨ca_4_80, List.forall_mem_cons.mpr ⟨ca_4_84, List.forall_mem_cons.mpr ⟨ca_4_87, List.forall_mem_cons.mpr ⟨ca_4_91, List.forall_mem_cons.mpr ⟨ca_4_94, List.forall_mem_cons.mpr ⟨ca_4_98, List.forall_mem_cons.mpr ⟨ca_4_104, List.forall_mem_cons.mpr ⟨ca_4_107, List.forall_mem_cons.mpr ⟨ca_4_110, List.forall_mem_cons.mpr ⟨ca_4_113, List.forall_mem_cons.mpr ⟨ca_5_46, List.forall_mem_cons.mpr ⟨ca_5_50, List.forall_mem_cons.mpr ⟨ca_5_53, List.forall_mem_cons.mpr ⟨ca_5_57, List.forall_mem_cons.mpr ⟨ca_5_61, List.forall_mem_cons.mpr ⟨ca_5_64, List.forall_mem_cons.mpr ⟨ca_5_67, List.forall_mem_cons.mpr ⟨ca_5_70, fun _ h => absurd h List.not_mem_nil⟩⟩⟩⟩⟩⟩⟩⟩⟩⟩⟩⟩⟩⟩⟩⟩⟩⟩⟩⟩
def cT_2 : List (Nat × Nat × Nat × Nat × Nat) := [(5, 73, 47, 1, 0), (5, 76, 287, 1, 2), (5, 81, 58, 2, 0), (5, 85, 289, 2, 2), (5, 88, 288, 2, 2), (5, 91, 42, 2, 0), (5, 95, 34, 3, 1), (5, 101, 62, 3, 0), (5, 105, 64, 3, 0), (5, 109, 60, 4, 0), (5, 113, 61, 1, 0), (5, 117, 59, 2, 0), (5, 120, 66, 1, 0), (6, 21, 39, 0, 5), (6, 36, 72, 1, 0), (6, 40, 40, 1, 1), (6, 44, 74, 2, 0), (6, 48, 75, 1, 0), (6, 52, 76, 2, 0), (6, 59, 77, 3, 0)]
theorem cT_2_ok : ∀ q ∈ cT_2, cOK q := List.forall_mem_cons.mpr ⟨ca_5_73, List.forall_mem_cons.mpr ⟨ca_5_76, List.forall_mem_cons.mpr ⟨ca_5_81, List.forall_mem_cons.mpr ⟨ca_5_85, List.forall_mem_cons.mpr ⟨ca_5_88, List.forall_mem_cons.mpr ⟨ca_5_91, List.forall_mem_cons.mpr ⟨ca_5_95, List.forall_mem_cons.mpr ⟨ca_5_101, List.forall_mem_cons.mpr ⟨ca_5_105, List.forall_mem_cons.mpr ⟨ca_5_109, List.forall_mem_cons.mpr ⟨ca_5_113, List.forall_mem_cons.mpr ⟨ca_5_117, List.forall_mem_cons.mpr ⟨ca_5_120, List.forall_mem_cons.mpr ⟨ca_6_21, List.forall_mem_cons.mpr ⟨ca_6_36, List.forall_mem_cons.mpr ⟨ca_6_40, List.forall_mem_cons.mpr ⟨ca_6_44, List.forall_mem_cons.mpr ⟨ca_6_48, List.forall_mem_cons.mpr ⟨ca_6_52, List.forall_mem_cons.mpr ⟨ca_6_59, fun _ h => absurd h List.not_mem_nil⟩⟩⟩⟩⟩⟩⟩⟩⟩⟩⟩⟩⟩⟩⟩⟩⟩⟩⟩⟩
def cT_3 : List (Nat × Nat × Nat × Nat × Nat) := [(6, 63, 62, 3, 1), (6, 67, 78, 3, 0), (6, 70, 79, 1, 2), (6, 74, 45, 1, 1), (6, 78, 48, 2, 1), (6, 82, 64, 3, 1), (6, 86, 289, 2, 2), (6, 91, 288, 2, 2), (8, 9, 80, 0, 5), (8, 18, 16, 0, 5), (8, 25, 39, 0, 5), (8, 38, 11, 0, 5), (8, 51, 69, 0, 5), (8, 58, 5, 0, 5), (8, 68, 0, 0, 5), (8, 75, 23, 0, 5), (8, 91, 24, 2, 1), (8, 98, 81, 1, 1), (8, 102, 83, 0, 1), (8, 106, 135, 1, 0)]
theorem cT_3_ok : ∀ q ∈ cT_3, cOK q := List.forall_mem_cons.mpr ⟨ca_6_63, List.forall_mem_cons.mpr ⟨ca_6_67, List.forall_mem_cons.mpr ⟨ca_6_70, List.forall_mem_cons.mpr ⟨ca_6_74, List.forall_mem_cons.mpr ⟨ca_6_78, List.forall_mem_cons.mpr ⟨ca_6_82, List.forall_mem_cons.mpr ⟨ca_6_86, List.forall_mem_cons.mpr ⟨ca_6_91, List.forall_mem_cons.mpr ⟨ca_8_9, List.forall_mem_cons.mpr ⟨ca_8_18, List.forall_mem_cons.mpr ⟨ca_8_25, List.forall_mem_cons.mpr ⟨ca_8_38, List.forall_mem_cons.mpr ⟨ca_8_51, List.forall_mem_cons.mpr ⟨ca_8_58, List.forall_mem_cons.mpr ⟨ca_8_68, List.forall_mem_cons.mpr ⟨ca_8_75, List.forall_mem_cons.mpr ⟨ca_8_91, List.forall_mem_cons.mpr ⟨ca_8_98, List.forall_mem_cons.mpr ⟨ca_8_102, List.forall_mem_cons.mpr ⟨ca_8_106, fun _ h => absurd h List.not_mem_nil⟩⟩⟩⟩⟩⟩⟩⟩⟩⟩⟩⟩⟩⟩⟩⟩⟩⟩⟩⟩
def cT_4 : List (Nat × Nat × Nat × Nat × Nat) := [(8, 110, 82, 1, 1), (8, 114, 57, 2, 1), (8, 118, 12, 0, 1), (8, 124, 137, 0, 0), (8, 127, 41, 1, 1), (8, 138, 43, 1, 1), (8, 141, 44, 1, 1), (8, 144, 45, 1, 1), (8, 147, 46, 1, 1), (8, 150, 47, 1, 1), (8, 153, 48, 2, 1), (8, 157, 42, 2, 1), (8, 161, 34, 3, 1), (8, 165, 289, 2, 2), (8, 170, 288, 2, 2), (8, 176, 145, 2, 2), (8, 179, 59, 2, 1), (8, 182, 50, 0, 1), (8, 185, 40, 1, 1), (8, 189, 63, 4, 1)]
theorem cT_4_ok : ∀ q ∈ cT_4, cOK q := List.forall_mem_cons.mpr ⟨ca_8_110, List.forall_mem_cons.mpr ⟨ca_8_114, List.forall_mem_cons.mpr ⟨ca_8_118, List.forall_mem_cons.mpr ⟨ca_8_124, List.forall_mem_cons.mpr ⟨ca_8_127, List.forall_mem_cons.mpr ⟨ca_8_138, List.forall_mem_cons.mpr ⟨ca_8_141, List.forall_mem_cons.mpr ⟨ca_8_144, List.forall_mem_cons.mpr ⟨ca_8_147, List.forall_mem_cons.mpr ⟨ca_8_150, List.forall_mem_cons.mpr ⟨ca_8_153, List.forall_mem_cons.mpr ⟨ca_8_157, List.forall_mem_cons.mpr ⟨ca_8_161, List.forall_mem_cons.mpr ⟨ca_8_165, List.forall_mem_cons.mpr ⟨ca_8_170, List.forall_mem_cons.mpr ⟨ca_8_176, List.forall_mem_cons.mpr ⟨ca_8_179, List.forall_mem_cons.mpr ⟨ca_8_182, List.forall_mem_cons.mpr ⟨ca_8_185, List.forall_mem_cons.mpr ⟨ca_8_189, fun _ h => absurd h List.not_mem_nil⟩⟩⟩⟩⟩⟩⟩⟩⟩⟩⟩⟩⟩⟩⟩⟩⟩⟩⟩⟩
def cT_5 : List (Nat × Nat × Nat × Nat × Nat) := [(8, 193, 14, 1, 1), (8, 196, 65, 1, 1), (8, 200, 17, 0, 1), (8, 201, 52, 1, 1), (8, 204, 18, 1, 1), (8, 207, 67, 3, 1), (8, 211, 68, 2, 1), (8, 214, 138, 1, 0), (8, 217, 141, 1, 0), (8, 220, 140, 1, 2), (8, 227, 15, 1, 1), (8, 232, 144, 1, 2), (8, 235, 19, 2, 1), (8, 239, 49, 1, 1), (8, 242, 56, 2, 1), (8, 245, 62, 3, 1), (8, 249, 147, 3, 0), (8, 253, 70, 4, 1), (8, 257, 73, 1, 1), (8, 261, 148, 1, 0)]
theorem cT_5_ok : ∀ q ∈ cT_5, cOK q := List.forall_mem_cons.mpr ⟨ca_8_193, List.forall_mem_cons.mpr ⟨ca_8_196, List.forall_mem_cons.mpr ⟨ca_8_200, List.forall_mem_cons.mpr ⟨ca_8_201, List.forall_mem_cons.mpr ⟨ca_8_204, List.forall_mem_cons.mpr ⟨ca_8_207, List.forall_mem_cons.mpr ⟨ca_8_211, List.forall_mem_cons.mpr ⟨ca_8_214, List.forall_mem_cons.mpr ⟨ca_8_217, List.forall_mem_cons.mpr ⟨ca_8_220, List.forall_mem_cons.mpr ⟨ca_8_227, List.forall_mem_cons.mpr ⟨ca_8_232, List.forall_mem_cons.mpr ⟨ca_8_235, List.forall_mem_cons.mpr ⟨ca_8_239, List.forall_mem_cons.mpr ⟨ca_8_242, List.forall_mem_cons.mpr ⟨ca_8_245, List.forall_mem_cons.mpr ⟨ca_8_249, List.forall_mem_cons.mpr ⟨ca_8_253, List.forall_mem_cons.mpr ⟨ca_8_257, List.forall_mem_cons.mpr ⟨ca_8_261, fun _ h => absurd h List.not_mem_nil⟩⟩⟩⟩⟩⟩⟩⟩⟩⟩⟩⟩⟩⟩⟩⟩⟩⟩⟩⟩
def cT_6 : List (Nat × Nat × Nat × Nat × Nat) := [(8, 264, 149, 0, 0), (8, 267, 285, 1, 2), (8, 272, 53, 2, 1), (8, 275, 51, 1, 1), (8, 278, 287, 1, 2), (8, 281, 163, 1, 2), (8, 284, 156, 1, 2), (8, 287, 6, 3, 1), (8, 290, 7, 0, 1), (8, 291, 157, 0, 0), (8, 294, 155, 1, 0), (8, 297, 1, 1, 1), (8, 304, 3, 2, 1), (8, 307, 160, 2, 2), (8, 310, 164, 2, 2), (8, 314, 161, 3, 2), (8, 317, 150, 1, 0), (8, 324, 151, 0, 0), (8, 327, 54, 0, 1), (8, 330, 146, 1, 0)]
theorem cT_6_ok : ∀ q ∈ cT_6, cOK q := List.forall_mem_cons.mpr ⟨ca_8_264, List.forall_mem_cons.mpr ⟨ca_8_267, List.forall_mem_cons.mpr ⟨ca_8_272, List.forall_mem_cons.mpr ⟨ca_8_275, List.forall_mem_cons.mpr ⟨ca_8_278, List.forall_mem_cons.mpr ⟨ca_8_281, List.forall_mem_cons.mpr ⟨ca_8_284, List.forall_mem_cons.mpr ⟨ca_8_287, List.forall_mem_cons.mpr ⟨ca_8_290, List.forall_mem_cons.mpr ⟨ca_8_291, List.forall_mem_cons.mpr ⟨ca_8_294, List.forall_mem_cons.mpr ⟨ca_8_297, List.forall_mem_cons.mpr ⟨ca_8_304, List.forall_mem_cons.mpr ⟨ca_8_307, List.forall_mem_cons.mpr ⟨ca_8_310, List.forall_mem_cons.mpr ⟨ca_8_314, List.forall_mem_cons.mpr ⟨ca_8_317, List.forall_mem_cons.mpr ⟨ca_8_324, List.forall_mem_cons.mpr ⟨ca_8_327, List.forall_mem_cons.mpr ⟨ca_8_330, fun _ h => absurd h List.not_mem_nil⟩⟩⟩⟩⟩⟩⟩⟩⟩⟩⟩⟩⟩⟩⟩⟩⟩⟩⟩⟩
def cT_7 : List (Nat × Nat × Nat × Nat × Nat) := [(8, 337, 55, 0, 1), (8, 341, 153, 0, 0), (8, 344, 154, 0, 0), (8, 347, 21, 1, 1), (8, 350, 22, 1, 1), (8, 353, 136, 1, 0), (8, 356, 143, 1, 2), (8, 360, 142, 1, 2), (8, 366, 139, 3, 2), (8, 370, 71, 1, 1), (8, 373, 152, 1, 0), (8, 377, 158, 1, 0), (8, 380, 8, 1, 1), (8, 383, 9, 1, 1), (8, 386, 159, 3, 0), (8, 393, 162, 3, 2), (9, 95, 167, 3, 2), (9, 99, 171, 1, 0), (9, 103, 175, 3, 2), (9, 125, 179, 3, 0)]
theorem cT_7_ok : ∀ q ∈ cT_7, cOK q := List.forall_mem_cons.mpr ⟨ca_8_337, List.forall_mem_cons.mpr ⟨ca_8_341, List.forall_mem_cons.mpr ⟨ca_8_344, List.forall_mem_cons.mpr ⟨ca_8_347, List.forall_mem_cons.mpr ⟨ca_8_350, List.forall_mem_cons.mpr ⟨ca_8_353, List.forall_mem_cons.mpr ⟨ca_8_356, List.forall_mem_cons.mpr ⟨ca_8_360, List.forall_mem_cons.mpr ⟨ca_8_366, List.forall_mem_cons.mpr ⟨ca_8_370, List.forall_mem_cons.mpr ⟨ca_8_373, List.forall_mem_cons.mpr ⟨ca_8_377, List.forall_mem_cons.mpr ⟨ca_8_380, List.forall_mem_cons.mpr ⟨ca_8_383, List.forall_mem_cons.mpr ⟨ca_8_386, List.forall_mem_cons.mpr ⟨ca_8_393, List.forall_mem_cons.mpr ⟨ca_9_95, List.forall_mem_cons.mpr ⟨ca_9_99, List.forall_mem_cons.mpr ⟨ca_9_103, List.forall_mem_cons.mpr ⟨ca_9_125, fun _ h => absurd h List.not_mem_nil⟩⟩⟩⟩⟩⟩⟩⟩⟩⟩⟩⟩⟩⟩⟩⟩⟩⟩⟩⟩
def cT_8 : List (Nat × Nat × Nat × Nat × Nat) := [(9, 129, 182, 0, 0), (9, 133, 181, 0, 0), (9, 137, 184, 1, 0), (9, 141, 183, 1, 0), (9, 145, 186, 2, 0), (9, 149, 180, 1, 0), (9, 152, 188, 0, 0), (9, 161, 191, 1, 0), (9, 165, 192, 1, 0), (9, 168, 194, 1, 0), (9, 171, 190, 1, 0), (9, 174, 185, 1, 0), (9, 178, 187, 1, 0), (9, 181, 193, 1, 2), (9, 188, 195, 0, 0), (9, 194, 176, 2, 2), (9, 198, 169, 0, 0), (9, 201, 172, 2, 0), (9, 205, 197, 3, 0), (9, 208, 289, 2, 2)]
theorem cT_8_ok : ∀ q ∈ cT_8, cOK q := List.forall_mem_cons.mpr ⟨ca_9_129, List.forall_mem_cons.mpr ⟨ca_9_133, List.forall_mem_cons.mpr ⟨ca_9_137, List.forall_mem_cons.mpr ⟨ca_9_141, List.forall_mem_cons.mpr ⟨ca_9_145, List.forall_mem_cons.mpr ⟨ca_9_149, List.forall_mem_cons.mpr ⟨ca_9_152, List.forall_mem_cons.mpr ⟨ca_9_161, List.forall_mem_cons.mpr ⟨ca_9_165, List.forall_mem_cons.mpr ⟨ca_9_168, List.forall_mem_cons.mpr ⟨ca_9_171, List.forall_mem_cons.mpr ⟨ca_9_174, List.forall_mem_cons.mpr ⟨ca_9_178, List.forall_mem_cons.mpr ⟨ca_9_181, List.forall_mem_cons.mpr ⟨ca_9_188, List.forall_mem_cons.mpr ⟨ca_9_194, List.forall_mem_cons.mpr ⟨ca_9_198, List.forall_mem_cons.mpr ⟨ca_9_201, List.forall_mem_cons.mpr ⟨ca_9_205, List.forall_mem_cons.mpr ⟨ca_9_208, fun _ h => absurd h List.not_mem_nil⟩⟩⟩⟩⟩⟩⟩⟩⟩⟩⟩⟩⟩⟩⟩⟩⟩⟩⟩⟩
def cT_9 : List (Nat × Nat × Nat × Nat × Nat) := [(9, 214, 288, 2, 2), (9, 217, 201, 2, 0), (9, 220, 203, 3, 2), (9, 224, 284, 2, 2), (9, 229, 206, 3, 0), (9, 232, 205, 2, 2), (9, 236, 204, 1, 0), (9, 240, 207, 3, 0), (9, 243, 209, 2, 0), (9, 246, 210, 1, 0), (9, 249, 211, 2, 0), (9, 252, 212, 2, 0), (9, 255, 170, 1, 0), (9, 259, 173, 1, 2), (9, 262, 214, 4, 0), (9, 266, 215, 4, 2), (9, 270, 217, 2, 0), (9, 273, 218, 2, 0), (9, 277, 221, 1, 0), (9, 280, 222, 1, 0)]
theorem cT_9_ok : ∀ q ∈ cT_9, cOK q := List.forall_mem_cons.mpr ⟨ca_9_214, List.forall_mem_cons.mpr ⟨ca_9_217, List.forall_mem_cons.mpr ⟨ca_9_220, List.forall_mem_cons.mpr ⟨ca_9_224, List.forall_mem_cons.mpr ⟨ca_9_229, List.forall_mem_cons.mpr ⟨ca_9_232, List.forall_mem_cons.mpr ⟨ca_9_236, List.forall_mem_cons.mpr ⟨ca_9_240, List.forall_mem_cons.mpr ⟨ca_9_243, List.forall_mem_cons.mpr ⟨ca_9_246, List.forall_mem_cons.mpr ⟨ca_9_249, List.forall_mem_cons.mpr ⟨ca_9_252, List.forall_mem_cons.mpr ⟨ca_9_255, List.forall_mem_cons.mpr ⟨ca_9_259, List.forall_mem_cons.mpr ⟨ca_9_262, List.forall_mem_cons.mpr ⟨ca_9_266, List.forall_mem_cons.mpr ⟨ca_9_270, List.forall_mem_cons.mpr ⟨ca_9_273, List.forall_mem_cons.mpr ⟨ca_9_277, List.forall_mem_cons.mpr ⟨ca_9_280, fun _ h => absurd h List.not_mem_nil⟩⟩⟩⟩⟩⟩⟩⟩⟩⟩⟩⟩⟩⟩⟩⟩⟩⟩⟩⟩
def cT_10 : List (Nat × Nat × Nat × Nat × Nat) := [(9, 283, 225, 2, 2), (9, 287, 226, 2, 0), (9, 291, 229, 2, 2), (9, 295, 287, 1, 2), (9, 298, 239, 1, 0), (9, 301, 240, 2, 0), (9, 304, 241, 4, 0), (9, 308, 242, 2, 0), (9, 311, 245, 1, 0), (9, 314, 174, 0, 0), (9, 317, 168, 2, 2), (9, 320, 285, 1, 2), (9, 323, 248, 1, 0), (9, 326, 250, 1, 2), (9, 333, 255, 3, 0), (9, 336, 256, 0, 0), (9, 345, 261, 4, 2), (9, 348, 262, 2, 0), (9, 351, 264, 2, 0), (9, 354, 266, 2, 0)]
theorem cT_10_ok : ∀ q ∈ cT_10, cOK q := List.forall_mem_cons.mpr ⟨ca_9_283, List.forall_mem_cons.mpr ⟨ca_9_287, List.forall_mem_cons.mpr ⟨ca_9_291, List.forall_mem_cons.mpr ⟨ca_9_295, List.forall_mem_cons.mpr ⟨ca_9_298, List.forall_mem_cons.mpr ⟨ca_9_301, List.forall_mem_cons.mpr ⟨ca_9_304, List.forall_mem_cons.mpr ⟨ca_9_308, List.forall_mem_cons.mpr ⟨ca_9_311, List.forall_mem_cons.mpr ⟨ca_9_314, List.forall_mem_cons.mpr ⟨ca_9_317, List.forall_mem_cons.mpr ⟨ca_9_320, List.forall_mem_cons.mpr ⟨ca_9_323, List.forall_mem_cons.mpr ⟨ca_9_326, List.forall_mem_cons.mpr ⟨ca_9_333, List.forall_mem_cons.mpr ⟨ca_9_336, List.forall_mem_cons.mpr ⟨ca_9_345, List.forall_mem_cons.mpr ⟨ca_9_348, List.forall_mem_cons.mpr ⟨ca_9_351, List.forall_mem_cons.mpr ⟨ca_9_354, fun _ h => absurd h List.not_mem_nil⟩⟩⟩⟩⟩⟩⟩⟩⟩⟩⟩⟩⟩⟩⟩⟩⟩⟩⟩⟩
def cT_11 : List (Nat × Nat × Nat × Nat × Nat) := [(9, 357, 267, 2, 0), (9, 360, 269, 2, 2), (9, 366, 271, 3, 2), (9, 370, 272, 3, 2), (9, 373, 274, 0, 0), (9, 380, 276, 1, 0), (9, 383, 280, 0, 0), (9, 386, 281, 0, 0), (12, 7, 89, 2, 0), (12, 15, 134, 1, 0), (12, 19, 84, 0, 4), (12, 22, 165, 0, 4), (12, 23, 85, 1, 0), (12, 27, 177, 1, 0), (12, 28, 86, 1, 0), (12, 32, 178, 1, 0), (12, 33, 87, 0, 0), (12, 37, 189, 0, 0), (12, 38, 88, 0, 0), (12, 41, 196, 0, 0)]
theorem cT_11_ok : ∀ q ∈ cT_11, cOK q := List.forall_mem_cons.mpr ⟨ca_9_357, List.forall_mem_cons.mpr ⟨ca_9_360, List.forall_mem_cons.mpr ⟨ca_9_366, List.forall_mem_cons.mpr ⟨ca_9_370, List.forall_mem_cons.mpr ⟨ca_9_373, List.forall_mem_cons.mpr ⟨ca_9_380, List.forall_mem_cons.mpr ⟨ca_9_383, List.forall_mem_cons.mpr ⟨ca_9_386, List.forall_mem_cons.mpr ⟨ca_12_7, List.forall_mem_cons.mpr ⟨ca_12_15, List.forall_mem_cons.mpr ⟨ca_12_19, List.forall_mem_cons.mpr ⟨ca_12_22, List.forall_mem_cons.mpr ⟨ca_12_23, List.forall_mem_cons.mpr ⟨ca_12_27, List.forall_mem_cons.mpr ⟨ca_12_28, List.forall_mem_cons.mpr ⟨ca_12_32, List.forall_mem_cons.mpr ⟨ca_12_33, List.forall_mem_cons.mpr ⟨ca_12_37, List.forall_mem_cons.mpr ⟨ca_12_38, List.forall_mem_cons.mpr ⟨ca_12_41, fun _ h => absurd h List.not_mem_nil⟩⟩⟩⟩⟩⟩⟩⟩⟩⟩⟩⟩⟩⟩⟩⟩⟩⟩⟩⟩
def cT_12 : List (Nat × Nat × Nat × Nat × Nat) := [(12, 47, 198, 2, 0), (12, 48, 166, 0, 0), (12, 51, 90, 2, 0), (12, 54, 199, 2, 0), (12, 55, 91, 1, 0), (12, 58, 200, 1, 0), (12, 59, 92, 4, 0), (12, 63, 202, 4, 0), (12, 64, 93, 2, 0), (12, 67, 208, 2, 0), (12, 68, 94, 1, 0), (12, 71, 213, 1, 0), (12, 72, 95, 3, 0), (12, 76, 216, 3, 0), (12, 77, 96, 2, 0), (12, 80, 219, 2, 0), (12, 81, 97, 0, 0), (12, 84, 220, 0, 0), (12, 85, 98, 0, 0), (12, 88, 223, 0, 0)]
theorem cT_12_ok : ∀ q ∈ cT_12, cOK q := List.forall_mem_cons.mpr ⟨ca_12_47, List.forall_mem_cons.mpr ⟨ca_12_48, List.forall_mem_cons.mpr ⟨ca_12_51, List.forall_mem_cons.mpr ⟨ca_12_54, List.forall_mem_cons.mpr ⟨ca_12_55, List.forall_mem_cons.mpr ⟨ca_12_58, List.forall_mem_cons.mpr ⟨ca_12_59, List.forall_mem_cons.mpr ⟨ca_12_63, List.forall_mem_cons.mpr ⟨ca_12_64, List.forall_mem_cons.mpr ⟨ca_12_67, List.forall_mem_cons.mpr ⟨ca_12_68, List.forall_mem_cons.mpr ⟨ca_12_71, List.forall_mem_cons.mpr ⟨ca_12_72, List.forall_mem_cons.mpr ⟨ca_12_76, List.forall_mem_cons.mpr ⟨ca_12_77, List.forall_mem_cons.mpr ⟨ca_12_80, List.forall_mem_cons.mpr ⟨ca_12_81, List.forall_mem_cons.mpr ⟨ca_12_84, List.forall_mem_cons.mpr ⟨ca_12_85, List.forall_mem_cons.mpr ⟨ca_12_88, fun _ h => absurd h List.not_mem_nil⟩⟩⟩⟩⟩⟩⟩⟩⟩⟩⟩⟩⟩⟩⟩⟩⟩⟩⟩⟩
def cT_13 : List (Nat × Nat × Nat × Nat × Nat) := [(12, 89, 99, 1, 0), (12, 92, 224, 1, 0), (12, 93, 100, 1, 0), (12, 96, 227, 1, 0), (12, 97, 101, 2, 0), (12, 100, 228, 2, 0), (12, 101, 102, 1, 0), (12, 104, 230, 1, 0), (12, 105, 103, 0, 0), (12, 108, 231, 0, 0), (12, 109, 104, 0, 0), (12, 112, 232, 0, 0), (12, 113, 105, 1, 0), (12, 116, 233, 1, 0), (12, 117, 106, 1, 0), (12, 120, 234, 1, 0), (12, 121, 107, 3, 0), (12, 124, 235, 3, 0), (12, 125, 108, 1, 0), (12, 128, 236, 1, 0)]
theorem cT_13_ok : ∀ q ∈ cT_13, cOK q := List.forall_mem_cons.mpr ⟨ca_12_89, List.forall_mem_cons.mpr ⟨ca_12_92, List.forall_mem_cons.mpr ⟨ca_12_93, List.forall_mem_cons.mpr ⟨ca_12_96, List.forall_mem_cons.mpr ⟨ca_12_97, List.forall_mem_cons.mpr ⟨ca_12_100, List.forall_mem_cons.mpr ⟨ca_12_101, List.forall_mem_cons.mpr ⟨ca_12_104, List.forall_mem_cons.mpr ⟨ca_12_105, List.forall_mem_cons.mpr ⟨ca_12_108, List.forall_mem_cons.mpr ⟨ca_12_109, List.forall_mem_cons.mpr ⟨ca_12_112, List.forall_mem_cons.mpr ⟨ca_12_113, List.forall_mem_cons.mpr ⟨ca_12_116, List.forall_mem_cons.mpr ⟨ca_12_117, List.forall_mem_cons.mpr ⟨ca_12_120, List.forall_mem_cons.mpr ⟨ca_12_121, List.forall_mem_cons.mpr ⟨ca_12_124, List.forall_mem_cons.mpr ⟨ca_12_125, List.forall_mem_cons.mpr ⟨ca_12_128, fun _ h => absurd h List.not_mem_nil⟩⟩⟩⟩⟩⟩⟩⟩⟩⟩⟩⟩⟩⟩⟩⟩⟩⟩⟩⟩
def cT_14 : List (Nat × Nat × Nat × Nat × Nat) := [(12, 129, 109, 2, 0), (12, 132, 237, 2, 0), (12, 133, 110, 2, 0), (12, 136, 238, 2, 0), (12, 137, 111, 2, 0), (12, 140, 243, 2, 0), (12, 141, 112, 0, 0), (12, 144, 244, 0, 0), (12, 145, 113, 1, 0), (12, 148, 246, 1, 0), (12, 149, 114, 1, 0), (12, 152, 247, 1, 0), (12, 153, 115, 0, 0), (12, 156, 249, 0, 0), (12, 157, 116, 1, 0), (12, 160, 251, 1, 0), (12, 161, 117, 2, 0), (12, 164, 252, 2, 0), (12, 165, 118, 2, 0), (12, 168, 253, 2, 0)]
theorem cT_14_ok : ∀ q ∈ cT_14, cOK q := List.forall_mem_cons.mpr ⟨ca_12_129, List.forall_mem_cons.mpr ⟨ca_12_132, List.forall_mem_cons.mpr ⟨ca_12_133, List.forall_mem_cons.mpr ⟨ca_12_136, List.forall_mem_cons.mpr ⟨ca_12_137, List.forall_mem_cons.mpr ⟨ca_12_140, List.forall_mem_cons.mpr ⟨ca_12_141, List.forall_mem_cons.mpr ⟨ca_12_144, List.forall_mem_cons.mpr ⟨ca_12_145, List.forall_mem_cons.mpr ⟨ca_12_148, List.forall_mem_cons.mpr ⟨ca_12_149, List.forall_mem_cons.mpr ⟨ca_12_152, List.forall_mem_cons.mpr ⟨ca_12_153, List.forall_mem_cons.mpr ⟨ca_12_156, List.forall_mem_cons.mpr ⟨ca_12_157, List.forall_mem_cons.mpr ⟨ca_12_160, List.forall_mem_cons.mpr ⟨ca_12_161, List.forall_mem_cons.mpr ⟨ca_12_164, List.forall_mem_cons.mpr ⟨ca_12_165, List.forall_mem_cons.mpr ⟨ca_12_168, fun _ h => absurd h List.not_mem_nil⟩⟩⟩⟩⟩⟩⟩⟩⟩⟩⟩⟩⟩⟩⟩⟩⟩⟩⟩⟩
def cT_15 : List (Nat × Nat × Nat × Nat × Nat) := [(12, 169, 119, 0, 0), (12, 172, 254, 0, 0), (12, 173, 120, 0, 0), (12, 176, 257, 0, 0), (12, 177, 121, 0, 0), (12, 180, 258, 0, 0), (12, 181, 122, 3, 0), (12, 184, 259, 3, 0), (12, 185, 123, 0, 0), (12, 188, 260, 0, 0), (12, 189, 124, 0, 0), (12, 192, 263, 0, 0), (12, 193, 125, 0, 0), (12, 196, 265, 0, 0), (12, 197, 126, 2, 0), (12, 200, 268, 2, 0), (12, 201, 127, 3, 0), (12, 204, 270, 3, 0), (12, 205, 128, 1, 0), (12, 208, 273, 1, 0)]
theorem cT_15_ok : ∀ q ∈ cT_15, cOK q := List.forall_mem_cons.mpr ⟨ca_12_169, List.forall_mem_cons.mpr ⟨ca_12_172, List.forall_mem_cons.mpr ⟨ca_12_173, List.forall_mem_cons.mpr ⟨ca_12_176, List.forall_mem_cons.mpr ⟨ca_12_177, List.forall_mem_cons.mpr ⟨ca_12_180, List.forall_mem_cons.mpr ⟨ca_12_181, List.forall_mem_cons.mpr ⟨ca_12_184, List.forall_mem_cons.mpr ⟨ca_12_185, List.forall_mem_cons.mpr ⟨ca_12_188, List.forall_mem_cons.mpr ⟨ca_12_189, List.forall_mem_cons.mpr ⟨ca_12_192, List.forall_mem_cons.mpr ⟨ca_12_193, List.forall_mem_cons.mpr ⟨ca_12_196, List.forall_mem_cons.mpr ⟨ca_12_197, List.forall_mem_cons.mpr ⟨ca_12_200, List.forall_mem_cons.mpr ⟨ca_12_201, List.forall_mem_cons.mpr ⟨ca_12_204, List.forall_mem_cons.mpr ⟨ca_12_205, List.forall_mem_cons.mpr ⟨ca_12_208, fun _ h => absurd h List.not_mem_nil⟩⟩⟩⟩⟩⟩⟩⟩⟩⟩⟩⟩⟩⟩⟩⟩⟩⟩⟩⟩
def cT_16 : List (Nat × Nat × Nat × Nat × Nat) := [(12, 209, 129, 0, 0), (12, 212, 275, 0, 0), (12, 213, 130, 2, 0), (12, 216, 277, 2, 0), (12, 217, 131, 1, 0), (12, 220, 278, 1, 0), (12, 221, 132, 1, 0), (12, 224, 279, 1, 0), (12, 225, 133, 1, 0), (12, 228, 282, 1, 0), (12, 232, 283, 1, 0)]
theorem cT_16_ok : ∀ q ∈ cT_16, cOK q := List.forall_mem_cons.mpr ⟨ca_12_209, List.forall_mem_cons.mpr ⟨ca_12_212, List.forall_mem_cons.mpr ⟨ca_12_213, List.forall_mem_cons.mpr ⟨ca_12_216, List.forall_mem_cons.mpr ⟨ca_12_217, List.forall_mem_cons.mpr ⟨ca_12_220, List.forall_mem_cons.mpr ⟨ca_12_221, List.forall_mem_cons.mpr ⟨ca_12_224, List.forall_mem_cons.mpr ⟨ca_12_225, List.forall_mem_cons.mpr ⟨ca_12_228, List.forall_mem_cons.mpr ⟨ca_12_232, fun _ h => absurd h List.not_mem_nil⟩⟩⟩⟩⟩⟩⟩⟩⟩⟩⟩
def cT : List (Nat × Nat × Nat × Nat × Nat) := cT_0 ++ (cT_1 ++ (cT_2 ++ (cT_3 ++ (cT_4 ++ (cT_5 ++ (cT_6 ++ (cT_7 ++ (cT_8 ++ (cT_9 ++ (cT_10 ++ (cT_11 ++ (cT_12 ++ (cT_13 ++ (cT_14 ++ (cT_15 ++ (cT_16))))))))))))))))
theorem cT_ok : ∀ q ∈ cT, cOK q := List.forall_mem_append.mpr ⟨cT_0_ok, List.forall_mem_append.mpr ⟨cT_1_ok, List.forall_mem_append.mpr ⟨cT_2_ok, List.forall_mem_append.mpr ⟨cT_3_ok, List.forall_mem_append.mpr ⟨cT_4_ok, List.forall_mem_append.mpr ⟨cT_5_ok, List.forall_mem_append.mpr ⟨cT_6_ok, List.forall_mem_append.mpr ⟨cT_7_ok, List.forall_mem_append.mpr ⟨cT_8_ok, List.forall_mem_append.mpr ⟨cT_9_ok, List.forall_mem_append.mpr ⟨cT_10_ok, List.forall_mem_append.mpr ⟨cT_11_ok, List.forall_mem_append.mpr ⟨cT_12_ok, List.forall_mem_append.mpr ⟨cT_13_ok, List.forall_mem_append.mpr ⟨cT_14_ok, List.forall_mem_append.mpr ⟨cT_15_ok, cT_16_ok⟩⟩⟩⟩⟩⟩⟩⟩⟩⟩⟩⟩⟩⟩⟩⟩
def sOK (q : Nat × Nat × Nat) : Prop := sLink (cn q.1) q.2.1 q.2.2 = true
set_option maxRecDepth 40000 in
theorem sl_8_87 : sOK (8, 87, 2) := by unfold sOK; decide +kernel
set_option maxRecDepth 40000 in
theorem sl_8_389 : sOK (8, 389, 4) := by unfold sOK; decide +kernel
set_option maxRecDepth 40000 in
theorem sl_8_396 : sOK (8, 396, 3) := by unfold sOK; decide +kernel
def sT_0 : List (Nat × Nat × Nat) := [(8, 87, 2), (8, 389, 4), (8, 396, 3)]
theorem sT_0_ok : ∀ q ∈ sT_0, sOK q := List.forall_mem_cons.mpr ⟨sl_8_87, List.forall_mem_cons.mpr ⟨sl_8_389, List.forall_mem_cons.mpr ⟨sl_8_396, fun _ h => absurd h List.not_mem_nil⟩⟩⟩
def sT : List (Nat × Nat × Nat) := sT_0
theorem sT_ok : ∀ q ∈ sT, sOK q := sT_0_ok
def pOK (q : Nat × Nat) : Prop := cLink (cn q.1) q.2 = true
set_option maxRecDepth 40000 in
theorem pl_5_40 : pOK (5, 40) := by unfold pOK; decide +kernel
def pT_0 : List (Nat × Nat) := [(5, 40)]
theorem pT_0_ok : ∀ q ∈ pT_0, pOK q := List.forall_mem_cons.mpr ⟨pl_5_40, fun _ h => absurd h List.not_mem_nil⟩
def pT : List (Nat × Nat) := pT_0
theorem pT_ok : ∀ q ∈ pT, pOK q := pT_0_ok
def kOK (q : Nat × Nat × Int) : Prop := inALL [Cond.constant (cn q.1) q.2.1 (Int32.ofInt q.2.2)] = true
set_option maxRecDepth 40000 in
theorem kl_8_376 : kOK (8, 376, 1103515245) := by unfold kOK; decide +kernel
set_option maxRecDepth 40000 in
theorem kl_9_294 : kOK (9, 294, 1000000) := by unfold kOK; decide +kernel
set_option maxRecDepth 40000 in
theorem kl_9_379 : kOK (9, 379, 1103515245) := by unfold kOK; decide +kernel
set_option maxRecDepth 40000 in
theorem kl_10_265 : kOK (10, 265, 1431655765) := by unfold kOK; decide +kernel
set_option maxRecDepth 40000 in
theorem kl_10_266 : kOK (10, 266, 858993459) := by unfold kOK; decide +kernel
set_option maxRecDepth 40000 in
theorem kl_10_267 : kOK (10, 267, 252645135) := by unfold kOK; decide +kernel
def kT_0 : List (Nat × Nat × Int) := [(8, 376, 1103515245), (9, 294, 1000000), (9, 379, 1103515245), (10, 265, 1431655765), (10, 266, 858993459), (10, 267, 252645135)]
theorem kT_0_ok : ∀ q ∈ kT_0, kOK q := List.forall_mem_cons.mpr ⟨kl_8_376, List.forall_mem_cons.mpr ⟨kl_9_294, List.forall_mem_cons.mpr ⟨kl_9_379, List.forall_mem_cons.mpr ⟨kl_10_265, List.forall_mem_cons.mpr ⟨kl_10_266, List.forall_mem_cons.mpr ⟨kl_10_267, fun _ h => absurd h List.not_mem_nil⟩⟩⟩⟩⟩⟩
def kT : List (Nat × Nat × Int) := kT_0
theorem kT_ok : ∀ q ∈ kT, kOK q := kT_0_ok
/-- a field's kind, by a table -/
def kdT : List (Nat × Nat × Nat) := [(0, 0, 3), (0, 1, 0), (1, 0, 3), (1, 1, 3), (1, 2, 3), (1, 3, 0), (2, 0, 3), (2, 1, 0), (2, 2, 0), (3, 0, 3), (3, 1, 0), (4, 0, 3), (4, 1, 3), (4, 2, 3), (4, 3, 0), (4, 4, 0), (4, 5, 0), (4, 6, 0), (4, 7, 0), (4, 8, 1), (5, 0, 0), (5, 1, 0), (5, 2, 0), (5, 3, 3), (5, 4, 3), (5, 5, 3), (5, 6, 3), (5, 7, 3), (5, 8, 3), (6, 0, 3), (6, 1, 3), (6, 2, 2), (6, 3, 0), (6, 4, 0), (6, 5, 0), (7, 0, 3), (7, 1, 0), (8, 0, 3), (8, 1, 3), (8, 2, 3), (8, 3, 3), (8, 4, 3), (8, 5, 3), (8, 6, 3), (8, 7, 3), (8, 8, 3), (8, 9, 3), (8, 10, 3), (8, 11, 3), (8, 12, 2), (8, 13, 2), (8, 14, 0), (8, 15, 0), (8, 16, 0), (9, 0, 3), (9, 1, 0), (9, 2, 0), (9, 3, 3), (9, 4, 3), (9, 5, 0), (9, 6, 3), (9, 7, 0), (9, 8, 0), (9, 9, 2), (9, 10, 0), (9, 11, 0), (9, 12, 0), (9, 13, 0), (9, 14, 3), (9, 15, 2), (9, 16, 2), (9, 17, 0), (9, 18, 1), (9, 19, 3), (9, 20, 3), (9, 21, 0), (9, 22, 3), (9, 23, 3), (9, 24, 3), (9, 25, 3), (9, 26, 3), (9, 27, 3), (9, 28, 3), (9, 29, 3), (9, 30, 0), (9, 31, 3), (9, 32, 3), (9, 33, 0), (9, 34, 0), (9, 35, 3), (9, 36, 0), (9, 37, 0), (9, 38, 3), (9, 39, 3), (9, 40, 3)]
set_option maxRecDepth 40000 in
theorem kdT_ok : ∀ q ∈ kdT, kdOk q.1 q.2.1 q.2.2 = true := by decide +kernel
def mKL : List Nat := [0, 0, 0, 0, 0, 1, 1, 1, 1, 1, 1, 2, 2, 2, 2, 2, 3, 3, 3, 3, 3, 3, 3, 4, 4, 4, 4, 4, 4, 4, 4, 4, 4, 4, 4, 4, 4, 4, 4, 5, 5, 5, 5, 5, 5, 5, 5, 5, 5, 5, 5, 5, 5, 5, 5, 5, 5, 5, 5, 5, 5, 5, 5, 5, 5, 5, 5, 5, 5, 6, 6, 6, 6, 6, 6, 6, 6, 6, 6, 6, 7, 7, 7, 7, 8, 8, 8, 8, 8, 8, 8, 8, 8, 8, 8, 8, 8, 8, 8, 8, 8, 8, 8, 8, 8, 8, 8, 8, 8, 8, 8, 8, 8, 8, 8, 8, 8, 8, 8, 8, 8, 8, 8, 8, 8, 8, 8, 8, 8, 8, 8, 8, 8, 8, 8, 8, 8, 8, 8, 8, 8, 8, 8, 8, 8, 8, 8, 8, 8, 8, 8, 8, 8, 8, 8, 8, 8, 8, 8, 8, 8, 8, 8, 8, 8, 9, 9, 9, 9, 9, 9, 9, 9, 9, 9, 9, 9, 9, 9, 9, 9, 9, 9, 9, 9, 9, 9, 9, 9, 9, 9, 9, 9, 9, 9, 9, 9, 9, 9, 9, 9, 9, 9, 9, 9, 9, 9, 9, 9, 9, 9, 9, 9, 9, 9, 9, 9, 9, 9, 9, 9, 9, 9, 9, 9, 9, 9, 9, 9, 9, 9, 9, 9, 9, 9, 9, 9, 9, 9, 9, 9, 9, 9, 9, 9, 9, 9, 9, 9, 9, 9, 9, 9, 9, 9, 9, 9, 9, 9, 9, 9, 9, 9, 9, 9, 9, 9, 9, 9, 9, 9, 9, 9, 9, 9, 9, 9, 9, 9, 9, 9, 9, 9, 9, 10, 10, 11, 11, 11, 11, 12, 12, 12]
def mK (e : Nat) : Nat := mKL.getD e 99
