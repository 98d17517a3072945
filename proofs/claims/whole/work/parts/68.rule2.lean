/-! how a thing, a product, a sum, a comparison are read, step by step -/
def mapR (f : Ex → Ex) (R : RT) : RT := match R with
  | .inl w => .inl w
  | .inr (e, q') => .inr (f e, q')
theorem hr_q {x : Nat → Int} {N q : Nat} {c : Int} (h : hr x N q = c) (hc : 0 ≤ c) : ∃ r, q = r + 1 ∧ x (N - (r + 1)) = c := by
  cases q with
  | zero => unfold hr at h; simp at h; omega
  | succ r => exact ⟨r, rfl, h⟩
theorem rn_o {x : Nat → Int} {N q : Nat} {s s' : Sr} (h : srT s (x (N - (q + 1))) = some s') : rn x N (q + 1) s = rn x N q s' := by
  show (match srT s (x (N - (q + 1))) with | none => _ | some s' => rn x N q s') = _
  rw [h]
theorem rn_n {x : Nat → Int} {N q : Nat} {s : Sr} (h : srT s (x (N - (q + 1))) = none) : rn x N (q + 1) s = bD (N - (q + 1)) := by
  show (match srT s (x (N - (q + 1))) with | none => _ | some s' => rn x N q s') = _
  rw [h]
theorem th_neg {x : Nat → Int} {N dp q : Nat} {R : RT} (hc : hr x N q = 45) (h : ThOk x N dp (q - 1) R) : ThOk x N dp q (mapR xM R) := by
  obtain ⟨r, rfl, hx⟩ := hr_q hc (by omega)
  obtain ⟨h1, h2⟩ := h
  simp only [Nat.add_sub_cancel] at h1 h2
  refine ⟨?_, fun ls l hl => ?_⟩
  · cases R with
    | inl w => trivial
    | inr p => show p.2 ≤ r + 1; have : p.2 ≤ r := h1; omega
  · rw [rn_o (s' := oP ls ⟨l.cm, l.su, l.mu, l.ng + 1⟩) (by show stO ls l _ = _; rw [hx]; simp [stO, ltB]), h2 ls _ hl]
    cases R with
    | inl w => rfl
    | inr p => exact rn_1 (l := ⟨l.cm, l.su, l.mu, l.ng + 1⟩) (l' := l) (e := p.1) (e' := xM p.1) rfl rfl rfl p.2
theorem th_bad {x : Nat → Int} {N dp q : Nat} (h1 : ¬ (48 ≤ hr x N q ∧ hr x N q ≤ 57)) (h2 : ltB (hr x N q) ≠ 1) (h3 : hr x N q ≠ 45) (h4 : ¬ (hr x N q = 40 ∧ dp < 4)) : ThOk x N dp q (.inl (N - q)) := by
  refine ⟨trivial, fun ls l hl => ?_⟩
  cases q with
  | zero => rfl
  | succ r =>
    rw [hr_s] at h1 h2 h3 h4
    exact rn_n (by show stO ls l _ = _; unfold stO; rw [if_neg h1, if_neg h2, if_neg h3, if_neg (by rw [hl]; exact h4)])
theorem th_ltr {x : Nat → Int} {N dp q : Nat} (hc : ltB (hr x N q) = 1) : ThOk x N dp q (.inr (xL (hr x N q), q - 1)) := by
  have hl := ltB_c hc
  obtain ⟨r, rfl, hx⟩ := hr_q (x := x) (N := N) (q := q) rfl (by omega)
  rw [← hx] at hc hl ⊢
  refine ⟨by show r + 1 - 1 ≤ r + 1; omega, fun ls l _ => rn_o ?_⟩
  show stO ls l _ = _
  unfold stO
  rw [if_neg (by omega), if_pos hc]
def parR (x : Nat → Int) (N : Nat) (R : RT) : RT := match R with
  | .inl w => .inl w
  | .inr (e, q') => if hr x N q' = 41 then .inr (e, q' - 1) else .inl (N - q')
theorem th_par {x : Nat → Int} {N dp q : Nat} {R : RT} (hc : hr x N q = 40) (hd : dp < 4) (h : HeOk x N (dp + 1) (q - 1) R) : ThOk x N dp q (parR x N R) := by
  obtain ⟨r, rfl, hx⟩ := hr_q hc (by omega)
  obtain ⟨h1, h2⟩ := h
  simp only [Nat.add_sub_cancel] at h1 h2
  refine ⟨?_, fun ls l hl => ?_⟩
  · cases R with
    | inl w => trivial
    | inr p =>
      have h1 : p.2 ≤ r := h1
      show RTl (r + 1) (if hr x N p.2 = 41 then .inr (p.1, p.2 - 1) else .inl (N - p.2))
      split
      · show p.2 - 1 ≤ r + 1; omega
      · trivial
  · rw [rn_o (s' := oP (l :: ls) lv0) (by show stO ls l _ = _; rw [hx]; unfold stO; simp [ltB, hl, hd]), h2 (l :: ls) (by simp [hl])]
    cases R with
    | inl w => rfl
    | inr p =>
      show (if hr x N p.2 = 41 then rn x N (p.2 - 1) (cL ls l p.1 0) else bD (N - p.2)) = goR x N _ (if hr x N p.2 = 41 then .inr (p.1, p.2 - 1) else .inl (N - p.2))
      split <;> rfl
/-- up to r digits more -/
def nq (x : Nat → Int) (N : Nat) : Nat → Nat → Int → Int × Nat
  | 0, q, v => (v, q)
  | r + 1, q, v => if 48 ≤ hr x N q ∧ hr x N q ≤ 57 then nq x N r (q - 1) (10 * v + (hr x N q - 48)) else (v, q)
theorem nq_l {x : Nat → Int} {N : Nat} : ∀ r q v, (nq x N r q v).2 ≤ q
  | 0, _, _ => Nat.le_refl _
  | r + 1, q, v => by
    unfold nq
    split
    · have := nq_l (x := x) (N := N) r (q - 1) (10 * v + (hr x N q - 48)); omega
    · exact Nat.le_refl _
theorem nq_rn {x : Nat → Int} {N : Nat} {ls : List Lv} {l : Lv} : ∀ r q v, r ≤ 2 → rn x N q (cL ls l (xN v) (3 - r)) = rn x N (nq x N r q v).2 (cL ls l (xN (nq x N r q v).1) 0)
  | 0, q, v, _ => rn_k q (Or.inr (by omega))
  | r + 1, q, v, hr2 => by
    unfold nq
    by_cases hd : 48 ≤ hr x N q ∧ hr x N q ≤ 57
    · rw [if_pos hd]
      obtain ⟨q', rfl, hx⟩ := hr_q (x := x) (N := N) (q := q) rfl (by omega)
      have ih := nq_rn (x := x) (N := N) (ls := ls) (l := l) r q' (10 * v + (hr x N (q' + 1) - 48)) (by omega)
      simp only [Nat.add_sub_cancel]
      rw [← ih]
      refine rn_o ?_
      show stC ls l _ _ _ = _
      rw [hr_s] at hd ⊢
      unfold stC
      rw [if_pos hd, if_pos (by omega)]
      show some (cL ls l (xN (v * 10 + _)) _) = _
      rw [Int.mul_comm v 10, show 3 - (r + 1) + 1 = 3 - r by omega]
    · rw [if_neg hd]
      exact rn_k q (Or.inl hd)
theorem th_num {x : Nat → Int} {N dp q : Nat} (hd : 48 ≤ hr x N q ∧ hr x N q ≤ 57) : ThOk x N dp q (.inr (xN (nq x N 2 (q - 1) (hr x N q - 48)).1, (nq x N 2 (q - 1) (hr x N q - 48)).2)) := by
  obtain ⟨r, rfl, hx⟩ := hr_q (x := x) (N := N) (q := q) rfl (by omega)
  simp only [Nat.add_sub_cancel]
  refine ⟨?_, fun ls l _ => ?_⟩
  · show (nq x N 2 r _).2 ≤ r + 1
    have := nq_l (x := x) (N := N) 2 r (hr x N (r + 1) - 48)
    omega
  · have := nq_rn (x := x) (N := N) (ls := ls) (l := l) 2 r (hr x N (r + 1) - 48) (by omega)
    refine (rn_o ?_).trans this
    show stO ls l _ = _
    rw [hr_s] at hd ⊢
    unfold stO
    rw [if_pos hd]
/-! products -/
def PdI (x : Nat → Int) (N dp q0 : Nat) (v : Ex) (q : Nat) : Prop := q ≤ q0 ∧ ∀ ls a b, ls.length = dp → rn x N q0 (oP ls ⟨a, b, none, 0⟩) = rn x N q (cL ls ⟨a, b, none, 0⟩ v 0)
theorem pd_0 {x : Nat → Int} {N dp q0 q : Nat} {v : Ex} (h : ThOk x N dp q0 (.inr (v, q))) : PdI x N dp q0 v q := ⟨h.1, fun ls a b hl => h.2 ls _ hl⟩
theorem pd_0b {x : Nat → Int} {N dp q0 w : Nat} (h : ThOk x N dp q0 (.inl w)) : PdOk x N dp q0 (.inl w) := ⟨trivial, trivial, fun ls a b hl => h.2 ls _ hl⟩
theorem pd_e {x : Nat → Int} {N dp q0 q : Nat} {v : Ex} (h : PdI x N dp q0 v q) (h1 : hr x N q ≠ 42) (h2 : hr x N q ≠ 47) : PdOk x N dp q0 (.inr (v, q)) := ⟨h.1, by show hr x N q ∉ _; simp [h1, h2], h.2⟩
theorem pd_go {x : Nat → Int} {N dp q0 q : Nat} {v : Ex} (h : PdI x N dp q0 v q) (hc : hr x N q = 42 ∨ hr x N q = 47) : q = (q - 1) + 1 ∧ ∀ ls a b, ls.length = dp → rn x N q0 (oP ls ⟨a, b, none, 0⟩) = rn x N (q - 1) (oP ls ⟨a, b, some (v, hr x N q), 0⟩) := by
  obtain ⟨r, rfl, hx⟩ := hr_q (x := x) (N := N) (q := q) rfl (by omega)
  refine ⟨by omega, fun ls a b hl => ?_⟩
  rw [h.2 ls a b hl]
  refine rn_o ?_
  show stC ls _ v 0 _ = _
  rw [hx]
  unfold stC
  rw [if_neg (by omega), if_neg (by omega), if_pos hc]
  rfl
theorem pd_s {x : Nat → Int} {N dp q0 q q' : Nat} {v o : Ex} (h : PdI x N dp q0 v q) (hc : hr x N q = 42 ∨ hr x N q = 47) (ht : ThOk x N dp (q - 1) (.inr (o, q'))) : PdI x N dp q0 (xB (hr x N q) v o) q' ∧ q' < q := by
  obtain ⟨e, g⟩ := pd_go h hc
  have l1 : q' ≤ q - 1 := ht.1
  refine ⟨⟨by have := h.1; omega, fun ls a b hl => ?_⟩, by omega⟩
  rw [g ls a b hl, ht.2 ls _ hl]
  exact rn_1 (l := ⟨a, b, some (v, hr x N q), 0⟩) (l' := ⟨a, b, none, 0⟩) (e := o) (e' := xB (hr x N q) v o) rfl rfl rfl q'
theorem pd_sb {x : Nat → Int} {N dp q0 q w : Nat} {v : Ex} (h : PdI x N dp q0 v q) (hc : hr x N q = 42 ∨ hr x N q = 47) (ht : ThOk x N dp (q - 1) (.inl w)) : PdOk x N dp q0 (.inl w) := by
  obtain ⟨e, g⟩ := pd_go h hc
  exact ⟨trivial, trivial, fun ls a b hl => by rw [g ls a b hl, ht.2 ls _ hl]; rfl⟩
/-! sums -/
def SmI (x : Nat → Int) (N dp q0 : Nat) (v : Ex) (q : Nat) : Prop := q ≤ q0 ∧ (hr x N q ≠ 42 ∧ hr x N q ≠ 47) ∧ ∀ ls a, ls.length = dp → rn x N q0 (oP ls ⟨a, none, none, 0⟩) = rn x N q (cL ls ⟨a, none, none, 0⟩ v 0)
theorem sm_0 {x : Nat → Int} {N dp q0 q : Nat} {v : Ex} (h : PdOk x N dp q0 (.inr (v, q))) : SmI x N dp q0 v q := ⟨h.1, by have : hr x N q ∉ [42, 47] := h.2.1; simpa using this, fun ls a hl => h.2.2 ls _ _ hl⟩
theorem sm_0b {x : Nat → Int} {N dp q0 w : Nat} (h : PdOk x N dp q0 (.inl w)) : SmOk x N dp q0 (.inl w) := ⟨trivial, trivial, fun ls a hl => h.2.2 ls _ _ hl⟩
theorem sm_e {x : Nat → Int} {N dp q0 q : Nat} {v : Ex} (h : SmI x N dp q0 v q) (h1 : hr x N q ≠ 43) (h2 : hr x N q ≠ 45) : SmOk x N dp q0 (.inr (v, q)) := ⟨h.1, by show hr x N q ∉ _; simp [h1, h2, h.2.1.1, h.2.1.2], h.2.2⟩
theorem sm_go {x : Nat → Int} {N dp q0 q : Nat} {v : Ex} (h : SmI x N dp q0 v q) (hc : hr x N q = 43 ∨ hr x N q = 45) : q = (q - 1) + 1 ∧ ∀ ls a, ls.length = dp → rn x N q0 (oP ls ⟨a, none, none, 0⟩) = rn x N (q - 1) (oP ls ⟨a, some (v, hr x N q), none, 0⟩) := by
  obtain ⟨r, rfl, hx⟩ := hr_q (x := x) (N := N) (q := q) rfl (by omega)
  refine ⟨by omega, fun ls a hl => ?_⟩
  rw [h.2.2 ls a hl]
  refine rn_o ?_
  show stC ls _ v 0 _ = _
  rw [hx]
  unfold stC
  rw [if_neg (by omega), if_neg (by omega), if_neg (by omega), if_pos hc]
  rfl
theorem sm_s {x : Nat → Int} {N dp q0 q q' : Nat} {v o : Ex} (h : SmI x N dp q0 v q) (hc : hr x N q = 43 ∨ hr x N q = 45) (ht : PdOk x N dp (q - 1) (.inr (o, q'))) : SmI x N dp q0 (xB (hr x N q) v o) q' ∧ q' < q := by
  obtain ⟨e, g⟩ := sm_go h hc
  have l1 : q' ≤ q - 1 := ht.1
  have l2 : hr x N q' ≠ 42 ∧ hr x N q' ≠ 47 := by have : hr x N q' ∉ [42, 47] := ht.2.1; simpa using this
  refine ⟨⟨by have := h.1; omega, l2, fun ls a hl => ?_⟩, by omega⟩
  rw [g ls a hl, ht.2.2 ls _ _ hl]
  exact rn_2 (l := ⟨a, some (v, hr x N q), none, 0⟩) (l' := ⟨a, none, none, 0⟩) (e := o) (e' := xB (hr x N q) v o) rfl rfl q' l2.1 l2.2
theorem sm_sb {x : Nat → Int} {N dp q0 q w : Nat} {v : Ex} (h : SmI x N dp q0 v q) (hc : hr x N q = 43 ∨ hr x N q = 45) (ht : PdOk x N dp (q - 1) (.inl w)) : SmOk x N dp q0 (.inl w) := by
  obtain ⟨e, g⟩ := sm_go h hc
  exact ⟨trivial, trivial, fun ls a hl => by rw [g ls a hl, ht.2.2 ls _ _ hl]; rfl⟩
/-! comparisons -/
theorem he_b {x : Nat → Int} {N dp q0 w : Nat} (h : SmOk x N dp q0 (.inl w)) : HeOk x N dp q0 (.inl w) := ⟨trivial, fun ls hl => h.2.2 ls _ hl⟩
/-- nothing can stand behind it but a bracket -/
theorem rn_aft {x : Nat → Int} {N q : Nat} {ls : List Lv} {a : OE} {e : Ex} (h : hr x N q ∉ [42, 47, 43, 45]) (h2 : (hr x N q ≠ 60 ∧ hr x N q ≠ 61 ∧ hr x N q ≠ 62) ∨ a.isSome = true) : rn x N q (cL ls ⟨a, none, none, 0⟩ e 0) = aft x N ls (apO a e) q := by
  cases q with
  | zero =>
    cases ls with
    | nil => rfl
    | cons l' ls' => rfl
  | succ q =>
    rw [hr_s] at h h2
    have hN : srT (cL ls ⟨a, none, none, 0⟩ e 0) (x (N - (q + 1))) = if x (N - (q + 1)) = 41 then (match ls with | [] => none | l' :: ls' => some (cL ls' l' (apO a e) 0)) else none := by
      show stC ls _ e 0 _ = _
      generalize x (N - (q + 1)) = c at h h2
      simp at h
      unfold stC
      by_cases hd : 48 ≤ c ∧ c ≤ 57
      · rw [if_pos hd, if_neg (by omega), if_neg (by omega)]
      · rw [if_neg hd]
        by_cases h4 : c = 41
        · rw [if_pos h4, if_pos h4]; rfl
        · rw [if_neg h4, if_neg h4, if_neg (by omega), if_neg (by omega)]
          rcases h2 with h2 | h2
          · rw [if_neg (by omega)]
          · rw [if_pos (show (Lv.cm (a, none, none, 0)).isSome = true from h2)]; split <;> rfl
    by_cases h4 : x (N - (q + 1)) = 41
    · rw [if_pos h4] at hN
      cases ls with
      | nil => exact rn_n hN
      | cons l' ls' =>
        rw [rn_o hN]
        show _ = if hr x N (q + 1) = 41 then _ else _
        rw [hr_s, if_pos h4]
        rfl
    · rw [if_neg h4] at hN
      rw [rn_n hN]
      cases ls with
      | nil => rfl
      | cons l' ls' =>
        show _ = if hr x N (q + 1) = 41 then _ else _
        rw [hr_s, if_neg h4]
theorem he_1 {x : Nat → Int} {N dp q0 q : Nat} {v : Ex} (h : SmOk x N dp q0 (.inr (v, q))) (hc : hr x N q ≠ 60 ∧ hr x N q ≠ 61 ∧ hr x N q ≠ 62) : HeOk x N dp q0 (.inr (v, q)) :=
  ⟨h.1, fun ls hl => (h.2.2 ls none hl).trans (rn_aft h.2.1 (Or.inl hc))⟩
theorem he_go {x : Nat → Int} {N dp q0 q : Nat} {v : Ex} (h : SmOk x N dp q0 (.inr (v, q))) (hc : hr x N q = 60 ∨ hr x N q = 61 ∨ hr x N q = 62) : q = (q - 1) + 1 ∧ ∀ ls, ls.length = dp → rn x N q0 (oP ls lv0) = rn x N (q - 1) (oP ls ⟨some (v, hr x N q), none, none, 0⟩) := by
  obtain ⟨r, rfl, hx⟩ := hr_q (x := x) (N := N) (q := q) rfl (by omega)
  refine ⟨by omega, fun ls hl => ?_⟩
  have h2 := h.2.2 ls none hl
  refine h2.trans (rn_o ?_)
  show stC ls _ v 0 _ = _
  rw [hx]
  unfold stC
  rw [if_neg (by omega), if_neg (by omega), if_neg (by omega), if_neg (by omega), if_pos hc]
  rfl
theorem he_2 {x : Nat → Int} {N dp q0 q q' : Nat} {v o : Ex} (h : SmOk x N dp q0 (.inr (v, q))) (hc : hr x N q = 60 ∨ hr x N q = 61 ∨ hr x N q = 62) (h2 : SmOk x N dp (q - 1) (.inr (o, q'))) : HeOk x N dp q0 (.inr (xB (hr x N q) v o, q')) := by
  obtain ⟨e, g⟩ := he_go h hc
  have l1 : q' ≤ q - 1 := h2.1
  have l2 : q ≤ q0 := h.1
  exact ⟨by show q' ≤ q0; omega, fun ls hl => by rw [g ls hl, h2.2.2 ls _ hl]; exact rn_aft h2.2.1 (Or.inr rfl)⟩
theorem he_2b {x : Nat → Int} {N dp q0 q w : Nat} {v : Ex} (h : SmOk x N dp q0 (.inr (v, q))) (hc : hr x N q = 60 ∨ hr x N q = 61 ∨ hr x N q = 62) (h2 : SmOk x N dp (q - 1) (.inl w)) : HeOk x N dp q0 (.inl w) := by
  obtain ⟨e, g⟩ := he_go h hc
  exact ⟨trivial, fun ls hl => by rw [g ls hl, h2.2.2 ls _ hl]; rfl⟩
