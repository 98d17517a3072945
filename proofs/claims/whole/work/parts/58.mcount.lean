/-! the reference: whole, count -/
theorem fewS_n {V : Int → Int} {i : Int} : ∀ n : Nat, n ≤ 4 → fewS V i n = -1 → ∀ s : Int, 0 ≤ s → s < n → s ≠ V (6 + i) → partV V i s ≤ 0
  | 0, _, _, s, s0, s1, _ => by omega
  | n + 1, hn, h, s, s0, s1, hs => by
    have hd : fewS V i (n + 1) = if (n : Int) ≠ V (6 + i) ∧ 0 < partV V i n ∧ (fewS V i n = -1 ∨ partV V i n < partV V i (fewS V i n)) then (n : Int) else fewS V i n := rfl
    rw [hd] at h
    by_cases hc : (n : Int) ≠ V (6 + i) ∧ 0 < partV V i n ∧ (fewS V i n = -1 ∨ partV V i n < partV V i (fewS V i n))
    · rw [if_pos hc] at h; omega
    · rw [if_neg hc] at h
      by_cases hn' : s = n
      · subst hn'
        by_cases hp : 0 < partV V i n
        · exact (hc ⟨hs, hp, Or.inl h⟩).elim
        · omega
      · exact fewS_n n (by omega) h s s0 (by omega) hs
theorem fewS_y {V : Int → Int} {i : Int} : ∀ n : Nat, fewS V i n ≠ -1 → fewS V i n ≠ V (6 + i) ∧ 0 < partV V i (fewS V i n)
  | 0, h => (h rfl).elim
  | n + 1, h => by
    have hd : fewS V i (n + 1) = if (n : Int) ≠ V (6 + i) ∧ 0 < partV V i n ∧ (fewS V i n = -1 ∨ partV V i n < partV V i (fewS V i n)) then (n : Int) else fewS V i n := rfl
    rw [hd] at h ⊢
    by_cases hc : (n : Int) ≠ V (6 + i) ∧ 0 < partV V i n ∧ (fewS V i n = -1 ∨ partV V i n < partV V i (fewS V i n))
    · rw [if_pos hc]; exact ⟨hc.1, hc.2.1⟩
    · rw [if_neg hc] at h ⊢; exact fewS_y n h
theorem own_12 {n : Nat} {M V : Int → Int} (h : WFV n M V) {i : Int} (h0 : 0 ≤ i) (h1 : i < n) : (ownV V i = 12 ↔ fewS V i 4 = -1) ∧ (ownV V i = 12 ↔ ∃ s, 0 ≤ s ∧ s < 4 ∧ partV V i s = 12) := by
  obtain ⟨_, a, ⟨p0, p1, p2, p3, p4⟩, st, _⟩ := h.2.1 i h0 h1
  have hp : ∀ s, 0 ≤ s → s < 4 → 0 ≤ partV V i s := fun s s0 s1 => (h.pt h0 h1 s0 s1).1
  refine ⟨⟨fun z => ?_, fun z => ?_⟩, ⟨fun z => ⟨_, a.1, a.2, z⟩, fun ⟨s, s0, s1, z⟩ => ?_⟩⟩
  · apply Decidable.byContradiction
    intro hc
    obtain ⟨y1, y2⟩ := fewS_y 4 hc
    rcases fewS_b V i 4 with y | ⟨y3, y4⟩
    · exact hc y
    · generalize fewS V i 4 = f at y1 y2 y3 y4
      have z' : partV V i (V (6 + i)) = 12 := z
      generalize V (6 + i) = w at y1 z' a
      have a0 := a.1
      have a1 := a.2
      rcases (show f = 0 ∨ f = 1 ∨ f = 2 ∨ f = 3 by omega) with rfl | rfl | rfl | rfl <;> rcases (show w = 0 ∨ w = 1 ∨ w = 2 ∨ w = 3 by omega) with rfl | rfl | rfl | rfl <;> omega
  · have y := fewS_n 4 (by omega) z
    show partV V i (V (6 + i)) = 12
    generalize V (6 + i) = w at a y
    have a0 := a.1
    have a1 := a.2
    have y0 := y 0 (by omega) (by omega)
    have y1 := y 1 (by omega) (by omega)
    have y2 := y 2 (by omega) (by omega)
    have y3 := y 3 (by omega) (by omega)
    rcases (show w = 0 ∨ w = 1 ∨ w = 2 ∨ w = 3 by omega) with rfl | rfl | rfl | rfl <;> omega
  · have y := st s s0 s1
    have y' := (h.pt h0 h1 a.1 a.2).2
    have y'' : partV V i (V (6 + i)) ≤ 12 := y'
    show partV V i (V (6 + i)) = 12
    have st' : partV V i s ≤ partV V i (V (6 + i)) := y
    omega
theorem mend_own {n : Nat} {M V : Int → Int} (h : WFV n M V) {i : Int} (h0 : 0 ≤ i) (h1 : i < n) : (∀ j, 0 ≤ j → j < 6 → mendV V i (6 + j) = V (6 + j)) ∧ (∀ j : Int, 0 ≤ j → j < n → ownV (mendV V i) j = ownV V j + if j = i ∧ ownV V i ≠ 12 then 1 else 0) := by
  obtain ⟨q, -⟩ := own_12 h h0 h1
  have n6 := h.1
  unfold mendV
  by_cases hf : fewS V i 4 = -1
  · rw [if_pos hf]
    refine ⟨fun _ _ _ => rfl, fun j _ _ => ?_⟩
    rw [if_neg (fun z => z.2 (q.2 hf))]; omega
  · rw [if_neg hf]
    have hq : ¬ ownV V i = 12 := fun z => hf (q.1 z)
    obtain ⟨y1, y2⟩ := fewS_y 4 hf
    have hb := fewS_b V i 4
    have y3 : 0 ≤ fewS V i 4 := by omega
    have y4 : fewS V i 4 < 4 := by omega
    generalize fewS V i 4 = f at y1 y2 y3 y4 hf
    have a := sd_in h h0 h1
    have e6 : ∀ j, 0 ≤ j → j < 6 → sewP V i f (V (6 + i)) 1 (6 + j) = V (6 + j) := fun j j0 j1 => by
      unfold sewP
      rw [upv_n (by omega), upv_n (by omega)]
    refine ⟨e6, fun j j0 j1 => ?_⟩
    show sewP V i f (V (6 + i)) 1 (12 + 4 * j + sewP V i f (V (6 + i)) 1 (6 + j)) = V (12 + 4 * j + V (6 + j)) + _
    rw [e6 j j0 (by omega)]
    have b := sd_in h j0 j1
    by_cases hj : j = i
    · subst hj
      rw [if_pos ⟨rfl, hq⟩]
      unfold sewP
      rw [upv_s, upv_n (by omega)]
    · rw [if_neg (fun z => hj z.1)]
      unfold sewP
      rw [upv_n (by omega), upv_n (by omega)]; omega
theorem dayI_own {n : Nat} {M V : Int → Int} (h : WFV n M V) : ∀ k : Nat, k ≤ n → (∀ j, 0 ≤ j → j < 6 → dayI M V k (6 + j) = V (6 + j)) ∧ ∀ j : Int, 0 ≤ j → j < n → ownV (dayI M V k) j = ownV V j + if j < k ∧ ownV V j ≠ 12 then 1 else 0
  | 0, _ => ⟨fun _ _ _ => rfl, fun j j0 _ => by rw [if_neg (by omega)]; show ownV V j = ownV V j + 0; omega⟩
  | k + 1, hk => by
    obtain ⟨ih1, ih2⟩ := dayI_own h k (by omega)
    have hw := wf_dayI h k (by omega)
    have n6 := h.1
    obtain ⟨s, -⟩ := hw.2.1 k (by omega) (by omega)
    have hw2 := hw.st (i := k) (by omega) (by omega) (x := min (M k) (dayI M V k k + 1)) (by omega) (by omega)
    obtain ⟨m1, m2⟩ := mend_own hw2 (i := k) (by omega) (by omega)
    have e : ∀ j, 6 ≤ j → upv (dayI M V k) k (min (M k) (dayI M V k k + 1)) j = dayI M V k j := fun j hj => upv_n (by omega)
    refine ⟨fun j j0 j1 => ?_, fun j j0 j1 => ?_⟩
    · show day1 M (dayI M V k) k (6 + j) = _
      unfold day1
      rw [m1 j j0 j1, e _ (by omega), ih1 j j0 j1]
    · show ownV (day1 M (dayI M V k) k) j = _
      unfold day1
      rw [m2 j j0 j1]
      have eo : ∀ j : Int, 0 ≤ j → j < n → ownV (upv (dayI M V k) k (min (M k) (dayI M V k k + 1))) j = ownV (dayI M V k) j := fun j j0 j1 => by
        have b := sd_in hw j0 j1
        show upv _ _ _ (12 + 4 * j + upv _ _ _ (6 + j)) = dayI M V k (12 + 4 * j + dayI M V k (6 + j))
        rw [e (6 + j) (by omega), e _ (by omega)]
      rw [eo j j0 j1, eo k (by omega) (by omega), ih2 j j0 j1, ih2 k (by omega) (by omega)]
      have z : ¬ ((k : Int) < k ∧ ownV V k ≠ 12) := by omega
      rw [if_neg z]
      by_cases hj : j = k
      · subst hj
        by_cases ho : ownV V k = 12
        · rw [if_neg (by omega), if_neg (by omega), if_neg (fun z => z.2 ho)]; omega
        · rw [if_neg (by omega), if_pos ⟨rfl, by omega⟩, if_pos ⟨by omega, ho⟩]; omega
      · have e9 : ¬ (j = (k : Int) ∧ ownV V k + 0 ≠ 12) := fun z => hj z.1
        rw [if_neg e9]
        by_cases hc : j < k ∧ ownV V j ≠ 12
        · rw [if_pos hc, if_pos ⟨by omega, hc.2⟩]; omega
        · rw [if_neg hc, if_neg (fun z => hc ⟨by omega, z.2⟩)]; omega
theorem day_own {n : Nat} {M V : Int → Int} (h : WFV n M V) {i : Int} (h0 : 0 ≤ i) (h1 : i < n) : dayV n M V (6 + i) = V (6 + i) ∧ ownV (dayV n M V) i = ownV V i + if ownV V i ≠ 12 then 1 else 0 := by
  obtain ⟨e1, e2⟩ := dayI_own h n (Nat.le_refl n)
  have n6 := h.1
  have a := sd_in h h0 h1
  have e3 : dayV n M V (6 + i) = V (6 + i) := by
    unfold dayV
    rw [upv_n (by omega)]; exact e1 i h0 (by omega)
  refine ⟨e3, ?_⟩
  have e4 := e2 i h0 h1
  have e5 : ownV (dayV n M V) i = ownV (dayI M V n) i := by
    show dayV n M V (12 + 4 * i + dayV n M V (6 + i)) = dayI M V n (12 + 4 * i + dayI M V n (6 + i))
    rw [e3, e1 i h0 (by omega)]
    unfold dayV
    rw [upv_n (by omega)]
  rw [e5, e4]
  by_cases hc : ownV V i = 12
  · rw [if_neg (fun z => z.2 hc), if_neg (fun z => z hc)]
  · rw [if_pos ⟨h1, hc⟩, if_pos hc]
