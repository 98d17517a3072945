/-! rows stay as they must be -/
theorem sewP_at {V : Int → Int} {i f u k j s : Int} (hf : 0 ≤ f ∧ f < 4) (hu : 0 ≤ u ∧ u < 4) (hs : 0 ≤ s ∧ s < 4) (hne : f ≠ u) : partV (sewP V i f u k) j s = if j = i ∧ s = f then partV V i f - k else if j = i ∧ s = u then partV V i u + k else partV V j s := by
  unfold sewP partV upv
  by_cases hj : j = i
  · subst hj
    by_cases h1 : s = f
    · subst h1
      have e1 : ¬ (12 + 4 * j + s = 12 + 4 * j + u) := by omega
      simp [e1]
    · by_cases h2 : s = u
      · subst h2
        have e1 : ¬ (12 + 4 * j + s = 12 + 4 * j + f) := by omega
        simp [e1, h1]
      · have e1 : ¬ (12 + 4 * j + s = 12 + 4 * j + f) := by omega
        have e2 : ¬ (12 + 4 * j + s = 12 + 4 * j + u) := by omega
        simp [e1, e2, h1, h2]
  · have e1 : ¬ (12 + 4 * j + s = 12 + 4 * i + f) := by omega
    have e2 : ¬ (12 + 4 * j + s = 12 + 4 * i + u) := by omega
    simp [e1, e2, hj]
theorem WFV.sh {n : Nat} {M V : Int → Int} (h : WFV n M V) {i : Int} (h0 : 0 ≤ i) (h1 : i < n) : ShOK V i := by
  obtain ⟨-, q1, q2, -⟩ := h
  obtain ⟨-, a, ⟨p0, p1, p2, p3, ps⟩, -, -, -⟩ := q1 i h0 h1
  refine ⟨a, fun f f0 f4 => ?_, q2⟩
  rcases (show f = 0 ∨ f = 1 ∨ f = 2 ∨ f = 3 by omega) with rfl | rfl | rfl | rfl <;> constructor <;> omega
/-- a change of strength alone -/
theorem WFV.st {n : Nat} {M V : Int → Int} (h : WFV n M V) {i x : Int} (h0 : 0 ≤ i) (h1 : i < n) (x0 : 0 ≤ x) (x1 : x ≤ M i) : WFV n M (upv V i x) := by
  obtain ⟨q0, q1, q2, q3, q4⟩ := h
  refine ⟨q0, fun j j0 j1 => ?_, ?_, ?_, fun j hj => ?_⟩
  · obtain ⟨⟨s0, s1, s2, s3⟩, a, ⟨p0, p1, p2, p3, ps⟩, st, w, lo⟩ := q1 j j0 j1
    have e6 : upv V i x (6 + j) = V (6 + j) := upv_n (by omega)
    have ep : ∀ s, 0 ≤ s → s < 4 → partV (upv V i x) j s = partV V j s := fun s z0 z1 => upv_n (by omega)
    refine ⟨?_, by rw [e6]; exact a, ?_, fun s z0 z1 => ?_, by rw [upv_n (by omega)]; exact w, by rw [upv_n (by omega)]; exact lo⟩
    · by_cases hj : j = i
      · subst hj; rw [upv_s]; omega
      · rw [upv_n hj]; omega
    · rw [ep 0 (by omega) (by omega), ep 1 (by omega) (by omega), ep 2 (by omega) (by omega), ep 3 (by omega) (by omega)]; exact ⟨p0, p1, p2, p3, ps⟩
    · show partV _ j s ≤ partV (upv V i x) j (upv V i x (6 + j))
      rw [e6, ep s z0 z1, ep _ a.1 a.2]; exact st s z0 z1
  · rw [upv_n (by omega)]; exact q2
  · rw [upv_n (by omega)]; exact q3
  · rw [upv_n (by omega)]; exact q4 j hj
/-- one PART that mends -/
theorem WFV.mend {n : Nat} {M V : Int → Int} (h : WFV n M V) {i : Int} (h0 : 0 ≤ i) (h1 : i < n) : WFV n M (mendV V i) := by
  unfold mendV
  by_cases hz : fewS V i 4 = -1
  · rw [if_pos hz]; exact h
  · rw [if_neg hz]
    have hb := fewS_b V i 4
    have hf : 0 ≤ fewS V i 4 ∧ fewS V i 4 < 4 := by omega
    have hp : fewS V i 4 ≠ V (6 + i) ∧ 0 < partV V i (fewS V i 4) := by
      have key : ∀ m : Nat, fewS V i m ≠ -1 → fewS V i m ≠ V (6 + i) ∧ 0 < partV V i (fewS V i m) := by
        intro m
        induction m with
        | zero => intro z; exact absurd rfl z
        | succ m ih =>
          unfold fewS
          split
          · rename_i hc
            exact fun _ => ⟨hc.1, hc.2.1⟩
          · exact ih
      exact key 4 hz
    obtain ⟨q0, q1, q2, q3, q4⟩ := h
    obtain ⟨-, ai, ⟨p0, p1, p2, p3, ps⟩, sti, -, -⟩ := q1 i h0 h1
    generalize hfe : fewS V i 4 = f at hf hp
    clear hz hb
    refine ⟨q0, fun j j0 j1 => ?_, ?_, ?_, fun j hj => ?_⟩
    · obtain ⟨s0, a, pj, st, w, lo⟩ := q1 j j0 j1
      have e6 : sewP V i f (V (6 + i)) 1 (6 + j) = V (6 + j) := sewP_n (by omega) (by omega)
      have ep : ∀ s, 0 ≤ s → s < 4 → partV (sewP V i f (V (6 + i)) 1) j s = _ := fun s z0 z1 => sewP_at hf ai ⟨z0, z1⟩ hp.1
      refine ⟨by rw [sewP_n (by omega) (by omega)]; exact s0, by rw [e6]; exact a, ?_, fun s z0 z1 => ?_, by rw [sewP_n (by omega) (by omega)]; exact w, by rw [sewP_n (by omega) (by omega)]; exact lo⟩
      · rw [ep 0 (by omega) (by omega), ep 1 (by omega) (by omega), ep 2 (by omega) (by omega), ep 3 (by omega) (by omega)]
        by_cases hj : j = i
        · subst hj
          generalize hve : V (6 + j) = v at *
          rcases (show f = 0 ∨ f = 1 ∨ f = 2 ∨ f = 3 by omega) with rfl | rfl | rfl | rfl <;> rcases (show v = 0 ∨ v = 1 ∨ v = 2 ∨ v = 3 by omega) with rfl | rfl | rfl | rfl <;> simp at hp ⊢ <;> omega
        · simp [hj]; exact pj
      · show partV _ j s ≤ partV (sewP V i f (V (6 + i)) 1) j (sewP V i f (V (6 + i)) 1 (6 + j))
        rw [e6, ep s z0 z1, ep _ a.1 a.2]
        have := st s z0 z1
        by_cases hj : j = i
        · subst hj
          have t1 := sti s z0 z1
          have t2 := sti f hf.1 hf.2
          simp only [partV, ownV] at t1 t2 hp ⊢
          grind
        · simp [hj]; exact this
    · rw [sewP_n (by omega) (by omega)]; exact q2
    · rw [sewP_n (by omega) (by omega)]; exact q3
    · rw [sewP_n (by omega) (by omega)]; exact q4 j hj
