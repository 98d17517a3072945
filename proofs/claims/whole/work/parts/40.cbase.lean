/-! StruckColours: what its calls share -/
def scr (o : Int) : Prop := o = 3 ∨ o = 4 ∨ (12 ≤ o ∧ o ≤ 25) ∨ (126 ≤ o ∧ o ≤ 156 ∧ o ≠ 127) ∨ o = 165 ∨ o = 166 ∨ o = 170 ∨ o = 174
theorem scr3 : scr 3 := Or.inl rfl
theorem scr4 : scr 4 := Or.inr (Or.inl rfl)
/-- nothing but what a question uses has changed -/
def QFr (σ σ' : Mem) : Prop := ∀ o, ¬ scr o → σ' o = σ o
theorem QFr.rf {σ : Mem} : QFr σ σ := fun _ _ => rfl
theorem QFr.tr {σ σ' σ'' : Mem} (h : QFr σ σ') (h' : QFr σ' σ'') : QFr σ σ'' := fun o ho => (h' o ho).trans (h o ho)
theorem QFr.up {σ σ' : Mem} {x j v : Int} (h : QFr σ σ') (hx : scr x) : QFr σ (up σ' x j v) := fun o ho => by
  have hn : o ≠ x := fun z => ho (by rw [z]; exact hx)
  rw [up_ne hn]; exact h o ho
theorem QFr.at {σ σ' : Mem} (h : QFr σ σ') {o : Int} (ho : ¬ scr o) : σ' o = σ o := h o ho
theorem QFr.sea {t : Tau} {σ σ' : Mem} (h : QFr σ σ') (k : SeaOk t σ 5) : SeaOk t σ' 5 ∧ nS σ' 5 = nS σ 5 ∧ mS σ' 5 = mS σ 5 ∧ vwS σ' 5 = vwS σ 5 :=
  have hh : ∀ o, 5 ≤ o → o ≤ 5 + 6 → σ' o = σ o := fun o h1 h2 => h o (by unfold scr; omega)
  ⟨seaok_cg hh k, sea_cg hh⟩
/-- what a question leaves in the ROW: r, or what was there -/
def QTo (σ σ' : Mem) (r : Option (List Int)) : Prop := QFr σ σ' ∧ match r with
  | none => σ' 3 = σ 3 ∧ σ' 4 = σ 4
  | some L => rwIs σ' L
theorem QTo.no {σ σ' : Mem} (h : QFr σ σ') (h3 : σ' 3 = σ 3) (h4 : σ' 4 = σ 4) : QTo σ σ' none := ⟨h, h3, h4⟩
theorem QTo.rf {σ : Mem} : QTo σ σ none := ⟨QFr.rf, rfl, rfl⟩
theorem QTo.q1 {σ σ' : Mem} (h : QFr σ σ') {a : Int} : QTo σ (up (up (up σ' 3 1 0) 4 0 a) 3 1 1) (some [a]) := ⟨((h.up scr3).up scr4).up scr3, rw_1⟩
theorem QTo.q2 {σ σ' : Mem} (h : QFr σ σ') {a b : Int} : QTo σ (up (up (up (up (up σ' 3 1 0) 4 0 a) 3 1 1) 4 1 b) 3 1 2) (some [a, b]) := ⟨((((h.up scr3).up scr4).up scr3).up scr4).up scr3, rw_2⟩
theorem QTo.q3 {σ σ' : Mem} (h : QFr σ σ') {a b c : Int} : QTo σ (up (up (up (up (up (up (up σ' 3 1 0) 4 0 a) 3 1 1) 4 1 b) 3 1 2) 4 2 c) 3 1 3) (some [a, b, c]) := ⟨((((((h.up scr3).up scr4).up scr3).up scr4).up scr3).up scr4).up scr3, rw_3⟩
abbrev QA : Type := Int × Option (List Int)
/-- the answer of a question -/
def ansC (q : QA) (t : Tau) (σ : Mem) (Q : Post) : Prop := ∀ σ', QTo σ σ' q.2 → Q (some (vI q.1)) t σ'
abbrev rgC : Reg := [(41, apHas), (144, spSide), (45, apOf 6 (-1)), (44, apOf 0 0), (48, apParts), (17, rpClears), (18, rpAdds), (42, apPair), (52, apPoa), (50, apSoa), (49, apStrange), (40, apBecomes), (65, apDawns), (63, apBattle), (62, apWinner), (288, spMax), (289, spMin), (287, spAbs), (43, apMight), (46, apOf 36 0), (47, apOf 42 0), (56, apDiff), (51, apSos), (53, apPos), (54, apSum 36), (55, apSum 42), (19, rpFrac), (67, apSewsIn), (68, apStrikesAll), (59, apStrengthens), (81, xpAdd), (82, xpAt), (83, xpEmpties), (6, npAdds), (7, npEmpties), (8, npOf 1), (9, npOf 2), (21, rpHas), (22, rpAt), (34, upMeas)]
theorem rgC_ok {l : Launch} {g : GE} {d : Nat} : ∀ e as t σ Q, rE l g (d + 6) rgC e as t σ Q → WPc l g e (d + 6) 0 0 as t σ Q :=
  rE_cons (fun _ _ _ _ h => a_has h) <| rE_cons (fun _ _ _ _ h => c_isSide h) <| rE_cons (fun _ _ _ _ h => a_sideOf h) <| rE_cons (fun _ _ _ _ h => a_strengthOf h) <| rE_cons (fun _ _ _ _ h => a_parts h) <| rE_cons (fun _ _ _ _ h => r_clears h) <| rE_cons (fun _ _ _ _ h => r_adds h) <| rE_cons (fun _ _ _ _ h => a_isPair h) <| rE_cons (fun _ _ _ _ h => a_partsOfAll h) <| rE_cons (fun _ _ _ _ h => a_strengthOfAll h) <| rE_cons (fun _ _ _ _ h => a_strangeParts h) <| rE_cons (fun _ _ _ _ h => a_becomes h) <| rE_cons (fun _ _ _ _ h => a_dawns h) <| rE_cons (fun _ _ _ _ h => a_battle h) <| rE_cons (fun _ _ _ _ h => a_winner h) <| rE_cons (fun _ _ _ _ h => c_max h) <| rE_cons (fun _ _ _ _ h => c_min h) <| rE_cons (fun _ _ _ _ h => c_abs h) <| rE_cons (fun _ _ _ _ h => a_mightOf h) <| rE_cons (fun _ _ _ _ h => a_wonOf h) <| rE_cons (fun _ _ _ _ h => a_lostOf h) <| rE_cons (fun _ _ _ _ h => a_difference h) <| rE_cons (fun _ _ _ _ h => a_strengthOfSome h) <| rE_cons (fun _ _ _ _ h => a_partsOfSome h) <| rE_cons (fun _ _ _ _ h => a_wonOfAll h) <| rE_cons (fun _ _ _ _ h => a_lostOfAll h) <| rE_cons (fun _ _ _ _ h => r_frac h) <| rE_cons (fun _ _ _ _ h => a_sewsIn h) <| rE_cons (fun _ _ _ _ h => a_strikesAll h) <| rE_cons (fun _ _ _ _ h => a_strengthens h) <| rE_cons (fun _ _ _ _ h => x_add h) <| rE_cons (fun _ _ _ _ h => x_at h) <| rE_cons (fun _ _ _ _ h => x_empties h) <| rE_cons (fun _ _ _ _ h => n_adds h) <| rE_cons (fun _ _ _ _ h => n_empties h) <| rE_cons (fun _ _ _ _ h => n_first h) <| rE_cons (fun _ _ _ _ h => n_second h) <| rE_cons (fun _ _ _ _ h => r_has h) <| rE_cons (fun _ _ _ _ h => r_at h) <| rE_cons (fun _ _ _ _ h => u_measures h) rE_nil
