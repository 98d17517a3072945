/-! the search of the class leaves out what can't be -/
theorem bestV_in (V : Int → Int) (i : Int) : 0 ≤ bestV V i ∧ bestV V i < 4 := by
  unfold bestV best2 best1
  split
  · omega
  split
  · omega
  split <;> omega
theorem goV_stay {V : Int → Int} {i : Int} (h : ∀ s, 0 ≤ s → s < 4 → partV V i s ≤ ownV V i) : goV V i = V := by
  unfold goV
  rw [if_pos (h _ (bestV_in V i).1 (bestV_in V i).2)]
/-- what a won fight changes of flags and sides -/
theorem strike_p {n : Nat} {M V : Int → Int} {k w b : Int} (hW : WFV n M V) (hw : 0 ≤ w ∧ w < n) (hb : 0 ≤ b ∧ b < n) (hne : V (6 + w) ≠ V (6 + b)) : (∀ j s : Int, 0 ≤ j → j < n → 0 ≤ s → s < 4 → partV (strikeV k V w b) j s = if j = w ∧ s = V (6 + w) then partV V w s - min k (ownV V w) else if j = w ∧ s = V (6 + b) then partV V w s + min k (ownV V w) else partV V j s) ∧ (∀ j : Int, 0 ≤ j → j < n → j ≠ w → strikeV k V w b (6 + j) = V (6 + j)) := by
  have n6 := hW.1
  have sw := sd_in hW hw.1 hw.2
  have sb := sd_in hW hb.1 hb.2
  rw [strikeV_eq hw.1 (by omega) hb.1 (by omega) sw.1 sb.1 sw.2 sb.2]
  generalize hV5 : upv (upv (upv (sewP V w (V (6 + w)) (V (6 + b)) (min k (ownV V w))) (36 + w) (min (V (36 + w) + 1) 99)) b (max (V b - 1) 0)) (42 + b) (min (V (42 + b) + 1) 99) = V5
  have p5 : ∀ j s : Int, 0 ≤ j → j < n → 0 ≤ s → s < 4 → partV V5 j s = if j = w ∧ s = V (6 + w) then partV V w s - min k (ownV V w) else if j = w ∧ s = V (6 + b) then partV V w s + min k (ownV V w) else partV V j s := by
    intro j s j0 j1 s0 s1
    have e : partV V5 j s = partV (sewP V w (V (6 + w)) (V (6 + b)) (min k (ownV V w))) j s := by
      rw [← hV5]
      show upv _ _ _ (12 + 4 * j + s) = _
      rw [upv_n (by omega), upv_n (by omega), upv_n (by omega)]
    rw [e, sewP_at sw sb ⟨s0, s1⟩ hne]
    by_cases c1 : j = w ∧ s = V (6 + w)
    · rw [if_pos c1, if_pos c1, c1.2]
    · rw [if_neg c1, if_neg c1]
      by_cases c2 : j = w ∧ s = V (6 + b)
      · rw [if_pos c2, if_pos c2, c2.2]
      · rw [if_neg c2, if_neg c2]
  have s5 : ∀ j : Int, 0 ≤ j → j < n → V5 (6 + j) = V (6 + j) := by
    intro j j0 j1
    rw [← hV5, upv_n (by omega), upv_n (by omega), upv_n (by omega), sewP_n (by omega) (by omega)]
  have hbw : b ≠ w := fun z => hne (by rw [z])
  have pg : ∀ j s : Int, 0 ≤ j → j < n → 0 ≤ s → s < 4 → partV (goV (goV V5 w) b) j s = partV V5 j s := fun j s _ _ _ _ => by
    show goV (goV V5 w) b (12 + 4 * j + s) = V5 (12 + 4 * j + s)
    rw [goV_n (by omega) (by omega), goV_n (by omega) (by omega)]
  refine ⟨fun j s j0 j1 s0 s1 => by rw [pg j s j0 j1 s0 s1]; exact p5 j s j0 j1 s0 s1, fun j j0 j1 hj => ?_⟩
  by_cases hz : j = b
  · subst hz
    have e6 : goV V5 w (6 + j) = V (6 + j) := by rw [goV_n (by omega) (by omega), s5 j j0 j1]
    have hst : goV (goV V5 w) j = goV V5 w := goV_stay (fun s z0 z1 => by
      have q1 : partV (goV V5 w) j s = partV V j s := by
        show goV V5 w (12 + 4 * j + s) = _
        rw [goV_n (by omega) (by omega)]
        have := p5 j s j0 j1 z0 z1
        rw [if_neg (fun z => hj z.1), if_neg (fun z => hj z.1)] at this
        exact this
      have q2 : ownV (goV V5 w) j = ownV V j := by
        show partV (goV V5 w) j (goV V5 w (6 + j)) = partV V j (V (6 + j))
        rw [e6]
        show goV V5 w (12 + 4 * j + V (6 + j)) = _
        rw [goV_n (by omega) (by omega)]
        have := p5 j (V (6 + j)) j0 j1 sb.1 sb.2
        rw [if_neg (fun z => hj z.1), if_neg (fun z => hj z.1)] at this
        exact this
      rw [q1, q2]
      exact (hW.2.1 j j0 j1).2.2.2.1 s z0 z1)
    rw [hst, e6]
  · rw [goV_n (by omega) (by omega), goV_n (by omega) (by omega)]; exact s5 j j0 j1
/-- the same of a fight -/
theorem fgt_p {F : (Int → Int) → Int} {n : Nat} {M V : Int → Int} {k i j : Int} (hW : WFV n M V) (hk : 1 ≤ k ∧ k ≤ 6) (hw : 0 ≤ winA F n V i j) : ∃ w : Int, (w = i ∨ w = j) ∧ (0 ≤ w ∧ w < n) ∧ (∀ q : Int, 0 ≤ q → q < n → q ≠ w → fgtV F n k V i j (6 + q) = V (6 + q) ∧ ∀ s, 0 ≤ s → s < 4 → partV (fgtV F n k V i j) q s = partV V q s) ∧ ∀ f, 0 ≤ f → f < 4 → partV (fgtV F n k V i j) w f + (ownV V w - partV V w f) ≤ ownV (fgtV F n k V i j) w + 2 * k := by
  have hc := winA_c hw
  obtain ⟨hp, h6, hc⟩ := hc
  obtain ⟨hi, hj, hij⟩ := hp
  have hW' := wf_fgtV (F := F) (i := i) (j := j) hW hk
  have fe := fgt_w (F := F) (n := n) (k := k) (V := V) (i := i) (j := j) hw
  have go : ∀ w b : Int, (0 ≤ w ∧ w < n) → (0 ≤ b ∧ b < n) → V (6 + w) ≠ V (6 + b) → fgtV F n k V i j = strikeV k V w b → (∀ q : Int, 0 ≤ q → q < n → q ≠ w → fgtV F n k V i j (6 + q) = V (6 + q) ∧ ∀ s, 0 ≤ s → s < 4 → partV (fgtV F n k V i j) q s = partV V q s) ∧ ∀ f, 0 ≤ f → f < 4 → partV (fgtV F n k V i j) w f + (ownV V w - partV V w f) ≤ ownV (fgtV F n k V i j) w + 2 * k := by
    intro w b w0 b0 hne he
    obtain ⟨P, S⟩ := strike_p (k := k) hW w0 b0 hne
    rw [← he] at P S
    have own0 := own_in hW w0.1 w0.2
    have sw := sd_in hW w0.1 w0.2
    have sb := sd_in hW b0.1 b0.2
    refine ⟨fun q q0 q1 hq => ⟨S q q0 q1 hq, fun s s0 s1 => by rw [P q s q0 q1 s0 s1, if_neg (fun z => hq z.1), if_neg (fun z => hq z.1)]⟩, fun f f0 f1 => ?_⟩
    have h1 := P w (V (6 + w)) w0.1 w0.2 sw.1 sw.2
    rw [if_pos ⟨rfl, rfl⟩] at h1
    have h2 := P w f w0.1 w0.2 f0 f1
    have h3 := (hW'.2.1 w w0.1 w0.2).2.2.2.1 (V (6 + w)) sw.1 sw.2
    rw [h1] at h3
    have h4 : partV (fgtV F n k V i j) w f ≤ partV V w f + min k (ownV V w) := by
      rw [h2]
      split
      · omega
      split
      · omega
      · omega
    have h5 : partV V w (V (6 + w)) = ownV V w := rfl
    omega
  rcases hc with hc | hc
  · rw [hc, if_pos rfl] at fe
    obtain ⟨a, b⟩ := go i j hi hj h6 fe
    exact ⟨i, Or.inl rfl, hi, a, b⟩
  · rw [hc, if_neg (fun z => hij z.symm)] at fe
    obtain ⟨a, b⟩ := go j i hj hi (fun z => h6 z.symm) fe
    exact ⟨j, Or.inr rfl, hj, a, b⟩
