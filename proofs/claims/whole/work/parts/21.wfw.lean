/-! rows stay as they must be: fights, what is sewn in, what yields -/
def WFW (n : Nat) (M : Int → Int) (V : Int → Int) (P : Int → Prop) : Prop := n ≤ 6 ∧ (∀ i : Int, 0 ≤ i → i < n → (0 ≤ V i ∧ V i ≤ M i ∧ 1 ≤ M i ∧ M i ≤ 9) ∧ (0 ≤ V (6 + i) ∧ V (6 + i) < 4) ∧ (0 ≤ partV V i 0 ∧ 0 ≤ partV V i 1 ∧ 0 ≤ partV V i 2 ∧ 0 ≤ partV V i 3 ∧ partV V i 0 + partV V i 1 + partV V i 2 + partV V i 3 = 12) ∧ (P i → ∀ s, 0 ≤ s → s < 4 → partV V i s ≤ ownV V i) ∧ (0 ≤ V (36 + i) ∧ V (36 + i) ≤ 99) ∧ (0 ≤ V (42 + i) ∧ V (42 + i) ≤ 99)) ∧ (0 ≤ V 49 ∧ V 49 ≤ 9999) ∧ b32 (V 48) ∧ ∀ j, (j < 0 ∨ 50 ≤ j) → V j = 0
theorem WFV.w {n : Nat} {M V : Int → Int} (h : WFV n M V) : WFW n M V (fun _ => True) := by
  obtain ⟨q0, q1, q2⟩ := h
  exact ⟨q0, fun i i0 i1 => by obtain ⟨a, b, c, d, e⟩ := q1 i i0 i1; exact ⟨a, b, c, fun _ => d, e⟩, q2⟩
theorem WFW.v {n : Nat} {M V : Int → Int} {P : Int → Prop} (h : WFW n M V P) (hP : ∀ i : Int, 0 ≤ i → i < n → P i) : WFV n M V := by
  obtain ⟨q0, q1, q2⟩ := h
  exact ⟨q0, fun i i0 i1 => by obtain ⟨a, b, c, d, e⟩ := q1 i i0 i1; exact ⟨a, b, c, d (hP i i0 i1), e⟩, q2⟩
theorem WFW.mono {n : Nat} {M V : Int → Int} {P P' : Int → Prop} (h : WFW n M V P) (hP : ∀ i, P' i → P i) : WFW n M V P' := by
  obtain ⟨q0, q1, q2⟩ := h
  exact ⟨q0, fun i i0 i1 => by obtain ⟨a, b, c, d, e⟩ := q1 i i0 i1; exact ⟨a, b, c, fun z => d (hP i z), e⟩, q2⟩
/-- a change of strength, of won or lost -/
theorem WFW.upd {n : Nat} {M V : Int → Int} {P : Int → Prop} (h : WFW n M V P) {i x k : Int} (h0 : 0 ≤ i) (h1 : i < n) (hk : (k = i ∧ 0 ≤ x ∧ x ≤ M i) ∨ ((k = 36 + i ∨ k = 42 + i) ∧ 0 ≤ x ∧ x ≤ 99)) : WFW n M (upv V k x) P := by
  obtain ⟨q0, q1, q2, q3, q4⟩ := h
  refine ⟨q0, fun j j0 j1 => ?_, ?_, ?_, fun j hj => ?_⟩
  · obtain ⟨⟨s0, s1, s2, s3⟩, a, ⟨p0, p1, p2, p3, ps⟩, st, w, lo⟩ := q1 j j0 j1
    have e6 : upv V k x (6 + j) = V (6 + j) := upv_n (by omega)
    have ep : ∀ s, 0 ≤ s → s < 4 → partV (upv V k x) j s = partV V j s := fun s z0 z1 => upv_n (by omega)
    refine ⟨?_, by rw [e6]; exact a, ?_, fun hP s z0 z1 => ?_, ?_, ?_⟩
    · by_cases hj : j = k
      · subst hj
        have : j = i := by omega
        subst this
        rw [upv_s]; omega
      · rw [upv_n hj]; omega
    · rw [ep 0 (by omega) (by omega), ep 1 (by omega) (by omega), ep 2 (by omega) (by omega), ep 3 (by omega) (by omega)]; exact ⟨p0, p1, p2, p3, ps⟩
    · show partV _ j s ≤ partV (upv V k x) j (upv V k x (6 + j))
      rw [e6, ep s z0 z1, ep _ a.1 a.2]; exact st hP s z0 z1
    · by_cases hj : 36 + j = k
      · rw [hj, upv_s]; omega
      · rw [upv_n hj]; omega
    · by_cases hj : 42 + j = k
      · rw [hj, upv_s]; omega
      · rw [upv_n hj]; omega
  · rw [upv_n (by omega)]; exact q2
  · rw [upv_n (by omega)]; exact q3
  · rw [upv_n (by omega)]; exact q4 j hj
theorem WFW.sew {n : Nat} {M V : Int → Int} {P : Int → Prop} (h : WFW n M V P) {i f u k : Int} (h0 : 0 ≤ i) (h1 : i < n) (hf : 0 ≤ f ∧ f < 4) (hu : 0 ≤ u ∧ u < 4) (hne : f ≠ u) (hk : 0 ≤ k ∧ k ≤ partV V i f) : WFW n M (sewP V i f u k) (fun j => P j ∧ j ≠ i) := by
  obtain ⟨q0, q1, q2, q3, q4⟩ := h
  obtain ⟨-, ai, ⟨p0, p1, p2, p3, ps⟩, -, -, -⟩ := q1 i h0 h1
  refine ⟨q0, fun j j0 j1 => ?_, ?_, ?_, fun j hj => ?_⟩
  · obtain ⟨s0, a, pj, st, w, lo⟩ := q1 j j0 j1
    have e6 : sewP V i f u k (6 + j) = V (6 + j) := sewP_n (by omega) (by omega)
    have ep : ∀ s, 0 ≤ s → s < 4 → partV (sewP V i f u k) j s = _ := fun s z0 z1 => sewP_at hf hu ⟨z0, z1⟩ hne
    refine ⟨by rw [sewP_n (by omega) (by omega)]; exact s0, by rw [e6]; exact a, ?_, fun hP s z0 z1 => ?_, by rw [sewP_n (by omega) (by omega)]; exact w, by rw [sewP_n (by omega) (by omega)]; exact lo⟩
    · rw [ep 0 (by omega) (by omega), ep 1 (by omega) (by omega), ep 2 (by omega) (by omega), ep 3 (by omega) (by omega)]
      by_cases hj : j = i
      · subst hj
        rcases (show f = 0 ∨ f = 1 ∨ f = 2 ∨ f = 3 by omega) with rfl | rfl | rfl | rfl <;> rcases (show u = 0 ∨ u = 1 ∨ u = 2 ∨ u = 3 by omega) with rfl | rfl | rfl | rfl <;> simp at hne ⊢ <;> omega
      · simp [hj]; exact pj
    · show partV _ j s ≤ partV (sewP V i f u k) j (sewP V i f u k (6 + j))
      rw [e6, ep s z0 z1, ep _ a.1 a.2]
      have := st hP.1 s z0 z1
      simp [hP.2]; exact this
  · rw [sewP_n (by omega) (by omega)]; exact q2
  · rw [sewP_n (by omega) (by omega)]; exact q3
  · rw [sewP_n (by omega) (by omega)]; exact q4 j hj
theorem best_max (V : Int → Int) (i : Int) {s : Int} (h0 : 0 ≤ s) (h4 : s < 4) : partV V i s ≤ partV V i (bestV V i) := by
  have h1 : partV V i 0 ≤ partV V i (best1 V i) ∧ partV V i 1 ≤ partV V i (best1 V i) := by
    unfold best1; split <;> constructor <;> omega
  have h2 : partV V i (best1 V i) ≤ partV V i (best2 V i) ∧ partV V i 2 ≤ partV V i (best2 V i) := by
    unfold best2; split <;> constructor <;> omega
  have h3 : partV V i (best2 V i) ≤ partV V i (bestV V i) ∧ partV V i 3 ≤ partV V i (bestV V i) := by
    unfold bestV; split <;> constructor <;> omega
  rcases (show s = 0 ∨ s = 1 ∨ s = 2 ∨ s = 3 by omega) with rfl | rfl | rfl | rfl <;> omega
theorem WFW.go {n : Nat} {M V : Int → Int} {P : Int → Prop} (h : WFW n M V P) {i : Int} (h0 : 0 ≤ i) (h1 : i < n) : WFW n M (goV V i) (fun j => P j ∨ j = i) := by
  have hb := (best_b V i).2.2
  unfold goV
  split
  · rename_i hc
    obtain ⟨q0, q1, q2⟩ := h
    refine ⟨q0, fun j j0 j1 => ?_, q2⟩
    obtain ⟨a, b, c, d, e⟩ := q1 j j0 j1
    refine ⟨a, b, c, fun z s z0 z1 => ?_, e⟩
    rcases z with z | z
    · exact d z s z0 z1
    · subst z
      have := best_max V j z0 z1
      omega
  · obtain ⟨q0, q1, q2, q3, q4⟩ := h
    generalize hB : bestV V i = B at hb
    refine ⟨q0, fun j j0 j1 => ?_, by rw [upv_s]; omega, ?_, fun j hj => ?_⟩
    · obtain ⟨s0, a, pj, st, w, lo⟩ := q1 j j0 j1
      have e0 : ∀ k, k ≠ 6 + i → k ≠ 49 → upv (upv V (6 + i) B) 49 (min 9999 (V 49 + 1)) k = V k := fun k k1 k2 => by rw [upv_n k2, upv_n k1]
      have ep : ∀ s, 0 ≤ s → s < 4 → partV (upv (upv V (6 + i) B) 49 (min 9999 (V 49 + 1))) j s = partV V j s := fun s z0 z1 => e0 _ (by omega) (by omega)
      have e6 : upv (upv V (6 + i) B) 49 (min 9999 (V 49 + 1)) (6 + j) = if j = i then B else V (6 + j) := by
        by_cases hj : j = i
        · rw [if_pos hj, hj, upv_n (by omega), upv_s]
        · rw [if_neg hj]; exact e0 _ (by omega) (by omega)
      refine ⟨by rw [e0 _ (by omega) (by omega)]; exact s0, ?_, ?_, fun z s z0 z1 => ?_, by rw [e0 _ (by omega) (by omega)]; exact w, by rw [e0 _ (by omega) (by omega)]; exact lo⟩
      · rw [e6]; split <;> omega
      · rw [ep 0 (by omega) (by omega), ep 1 (by omega) (by omega), ep 2 (by omega) (by omega), ep 3 (by omega) (by omega)]; exact pj
      · show partV _ j s ≤ partV (upv (upv V (6 + i) B) 49 (min 9999 (V 49 + 1))) j (upv (upv V (6 + i) B) 49 (min 9999 (V 49 + 1)) (6 + j))
        rw [e6, ep s z0 z1]
        by_cases hj : j = i
        · subst hj
          rw [if_pos rfl, ep B hb.1 hb.2, ← hB]
          exact best_max V j z0 z1
        · rw [if_neg hj, ep _ a.1 a.2]
          exact st (z.resolve_right hj) s z0 z1
    · rw [upv_n (by omega), upv_n (by omega)]; exact q3
    · rw [upv_n (by omega), upv_n (by omega)]; exact q4 j hj
theorem WFV.sewV {n : Nat} {M V : Int → Int} (h : WFV n M V) {i u k : Int} (h0 : 0 ≤ i) (h1 : i < n) (hu : 0 ≤ u ∧ u < 4) (hne : V (6 + i) ≠ u) (hk : 0 ≤ k ∧ k ≤ ownV V i) : WFV n M (sewV V i u k) := by
  have ha := (h.2.1 i h0 h1).2.1
  have h2 := (h.w.sew h0 h1 ha hu hne hk).go h0 h1
  refine h2.v fun j _ _ => ?_
  by_cases hj : j = i
  · exact Or.inr hj
  · exact Or.inl ⟨trivial, hj⟩
theorem WFV.strike {n : Nat} {M V : Int → Int} (h : WFV n M V) {w l k : Int} (v0 : 0 ≤ w) (v1 : w < n) (u0 : 0 ≤ l) (u1 : l < n) (hk : 0 ≤ k) (hne : V (6 + w) ≠ V (6 + l)) : WFV n M (strikeV k V w l) := by
  have n6 := h.1
  obtain ⟨-, aw, pw, -, ww, -⟩ := h.2.1 w v0 v1
  obtain ⟨sl, al, -, -, -, ll⟩ := h.2.1 l u0 u1
  have ho := (h.sh v0 v1).2.1 _ aw.1 aw.2
  rw [strikeV_eq v0 (by omega) u0 (by omega) aw.1 al.1 aw.2 al.2]
  have h1 := h.w.sew v0 v1 aw al hne (k := min k (ownV V w)) (by simp only [ownV] at *; omega)
  have h2 := h1.upd v0 v1 (x := min (V (36 + w) + 1) 99) (k := 36 + w) (Or.inr ⟨Or.inl rfl, by omega⟩)
  have h3 := h2.upd u0 u1 (x := max (V l - 1) 0) (k := l) (Or.inl ⟨rfl, by omega⟩)
  have h4 := h3.upd u0 u1 (x := min (V (42 + l) + 1) 99) (k := 42 + l) (Or.inr ⟨Or.inr rfl, by omega⟩)
  have h5 := (h4.go v0 v1).go u0 u1
  refine h5.v fun j _ _ => ?_
  by_cases hj : j = w
  · exact Or.inl (Or.inr hj)
  · exact Or.inl (Or.inl ⟨trivial, hj⟩)
theorem WFV.day1 {n : Nat} {M V : Int → Int} (h : WFV n M V) {i : Int} (h0 : 0 ≤ i) (h1 : i < n) : WFV n M (day1 M V i) := by
  obtain ⟨s, -⟩ := h.2.1 i h0 h1
  exact (h.st h0 h1 (x := min (M i) (V i + 1)) (by omega) (by omega)).mend h0 h1
theorem wf_dayI {n : Nat} {M V : Int → Int} (h : WFV n M V) : ∀ k : Nat, k ≤ n → WFV n M (dayI M V k)
  | 0, _ => h
  | k + 1, hk => (wf_dayI h k (by omega)).day1 (by omega) (by omega)
theorem wf_48 {n : Nat} {M V : Int → Int} (h : WFV n M V) {x : Int} (hx : b32 x) : WFV n M (upv V 48 x) := by
  obtain ⟨q0, q1, q2, q3, q4⟩ := h
  have e : ∀ j, j ≠ 48 → upv V 48 x j = V j := fun j hj => upv_n hj
  refine ⟨q0, fun j j0 j1 => ?_, by rw [e 49 (by omega)]; exact q2, by rw [upv_s]; exact hx, fun j hj => by rw [e j (by omega)]; exact q4 j hj⟩
  obtain ⟨s0, a, pj, st, w, lo⟩ := q1 j j0 j1
  have ep : ∀ s, 0 ≤ s → s < 4 → partV (upv V 48 x) j s = partV V j s := fun s z0 z1 => e _ (by omega)
  have e6 : upv V 48 x (6 + j) = V (6 + j) := e _ (by omega)
  refine ⟨by rw [e j (by omega)]; exact s0, by rw [e6]; exact a, ?_, fun s z0 z1 => ?_, by rw [e _ (by omega)]; exact w, by rw [e _ (by omega)]; exact lo⟩
  · rw [ep 0 (by omega) (by omega), ep 1 (by omega) (by omega), ep 2 (by omega) (by omega), ep 3 (by omega) (by omega)]; exact pj
  · show partV _ j s ≤ partV (upv V 48 x) j (upv V 48 x (6 + j))
    rw [e6, ep s z0 z1, ep _ a.1 a.2]; exact st s z0 z1
theorem wf_day {n : Nat} {M V : Int → Int} (h : WFV n M V) : WFV n M (dayV n M V) := wf_48 (wf_dayI h n (Nat.le_refl n)) (w32_b _)
theorem wf_days {n : Nat} {M V : Int → Int} (h : WFV n M V) : ∀ k : Nat, WFV n M (daysV n M V k)
  | 0 => h
  | k + 1 => wf_day (wf_days h k)
