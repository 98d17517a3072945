/-! the text of a war, act by act -/
def psn (T : Int → Int) : Nat → Nat
  | 0 => 0
  | k + 1 => psn T k + lnA (T (psn T k))
theorem psn_2 {T : Int → Int} : ∀ k, 2 * k ≤ psn T k
  | 0 => Nat.le_refl _
  | k + 1 => by have := psn_2 (T := T) k; have := lnA_b (T (psn T k)); show _ ≤ psn T k + lnA (T (psn T k)); omega
theorem psn_m {T : Int → Int} {k : Nat} : ∀ m, k < m → psn T k < psn T m
  | 0, h => by omega
  | m + 1, h => by
    have := lnA_b (T (psn T m))
    show _ < psn T m + lnA (T (psn T m))
    by_cases hz : k = m
    · subst hz; omega
    · have := psn_m (T := T) (k := k) m (by omega); omega
theorem wr_s {T : Int → Int} {r p b : Nat} : wrF T (r + 1) p b = if stA (T (if p - b = lnA (T b) then p else b : Nat)) (p - (if p - b = lnA (T b) then p else b)) (T p) then wrF T r (p + 1) (if p - b = lnA (T b) then p else b) else ((p : Int), 0) := rfl
theorem wr_go {T : Int → Int} {p b0 : Nat} (hb : b0 = p ∨ p - b0 = lnA (T b0)) : ∀ j, 1 ≤ j → j ≤ lnA (T p) → (∀ i, i < j → stA (T p) i (T (p + i : Nat)) = true) → ∀ r, wrF T (j + r) p b0 = wrF T r (p + j) p
  | 0, h, _, _, _ => by omega
  | 1, _, h2, h3, r => by
    have hL := lnA_b (T p)
    have e : (if p - b0 = lnA (T b0) then p else b0) = p := by
      rcases hb with hb | hb
      · subst hb; split <;> rfl
      · rw [if_pos hb]
    have h30 : stA (T p) 0 (T p) = true := h3 0 (by omega)
    rw [Nat.add_comm 1 r, wr_s, e, Nat.sub_self, if_pos h30]
  | j + 2, _, h2, h3, r => by
    have ih := wr_go hb (j + 1) (by omega) (by omega) (fun i hi => h3 i (by omega)) (r + 1)
    rw [show j + 2 + r = j + 1 + (r + 1) by omega, ih, wr_s, if_neg (show ¬ p + (j + 1) - p = lnA (T p) by omega), show p + (j + 1) - p = j + 1 by omega, if_pos (h3 (j + 1) (by omega))]
    rfl
theorem wr_bad {T : Int → Int} {p b0 j : Nat} (hb : b0 = p ∨ p - b0 = lnA (T b0)) (hj : j < lnA (T p)) (h3 : ∀ i, i < j → stA (T p) i (T (p + i : Nat)) = true) (h4 : stA (T p) j (T (p + j : Nat)) = false) (r : Nat) : wrF T (j + (r + 1)) p b0 = (((p + j : Nat) : Int), 0) := by
  cases j with
  | zero =>
    have e : (if p - b0 = lnA (T b0) then p else b0) = p := by
      rcases hb with hb | hb
      · subst hb; split <;> rfl
      · rw [if_pos hb]
    rw [Nat.zero_add, wr_s, e, Nat.sub_self, if_neg (by simpa using h4)]
    rfl
  | succ j =>
    rw [wr_go hb (j + 1) (by omega) (by omega) h3 (r + 1), wr_s, if_neg (show ¬ p + (j + 1) - p = lnA (T p) by omega), show p + (j + 1) - p = j + 1 by omega, if_neg (by rw [h4]; simp)]
def WrI (T : Int → Int) (p : Nat) : Prop := ∃ b0 : Nat, ((p = 0 ∧ b0 = 0) ∨ p - b0 = lnA (T b0)) ∧ ∀ r, wrF T (p + r) 0 0 = wrF T r p b0
theorem WrI.z {T : Int → Int} : WrI T 0 := ⟨0, Or.inl ⟨rfl, rfl⟩, fun r => by rw [Nat.zero_add]⟩
theorem WrI.s {T : Int → Int} {p : Nat} (h : WrI T p) (ha : actOk T p) : WrI T (p + lnA (T p)) := by
  obtain ⟨b0, h1, h2⟩ := h
  have hL := lnA_b (T p)
  refine ⟨p, Or.inr (by omega), fun r => ?_⟩
  rw [Nat.add_assoc, h2, wr_go (by rcases h1 with h1 | h1; exact Or.inl (by omega); exact Or.inr h1) (lnA (T p)) (by omega) (Nat.le_refl _) ha r]
theorem fltW_bad {T : Int → Int} {len p j : Nat} (h : WrI T p) (hp : p < len) (hj : j < lnA (T p)) (h3 : stP T (min len 60) p j) (h4 : ¬ (p + j < min len 60 ∧ stA (T p) j (T (p + j : Nat)) = true)) : fltW T len = (p + j : Nat) := by
  obtain ⟨b0, h1, h2⟩ := h
  have hb : b0 = p ∨ p - b0 = lnA (T b0) := by rcases h1 with h1 | h1; exact Or.inl (by omega); exact Or.inr h1
  have hL := lnA_b (T p)
  have hLb := lnA_b (T b0)
  unfold fltW
  by_cases c1 : p + j < min len 60
  · have hs : stA (T p) j (T (p + j : Nat)) = false := by
      cases hc : stA (T p) j (T (p + j : Nat)) with
      | false => rfl
      | true => exact absurd ⟨c1, hc⟩ h4
    have e : wrF T (min len 60) 0 0 = (((p + j : Nat) : Int), 0) := by
      rw [show min len 60 = p + (j + ((min len 60 - p - j - 1) + 1)) by omega, h2]
      exact wr_bad hb hj h3.2 hs _
    rw [e]
    rw [if_pos (by show ((p + j : Nat) : Int) ≠ -1; omega)]
  · have hN : p + j = min len 60 := by have := h3.1; omega
    by_cases hz : j = 0
    · subst hz
      have e : wrF T (min len 60) 0 0 = (-1, b0) := by
        have := h2 0
        rw [show min len 60 = p + 0 by omega, this]; rfl
      rw [e, if_neg (by show ¬ (-1 : Int) ≠ -1; omega), if_neg (by show ¬ (0 < min len 60 ∧ min len 60 - b0 ≠ lnA (T b0)); omega), if_pos (by omega)]
      omega
    · have e : wrF T (min len 60) 0 0 = (-1, p) := by
        have := h2 (j + 0)
        rw [show min len 60 = p + (j + 0) by omega, this, wr_go hb j (by omega) (by omega) h3.2 0]; rfl
      rw [e, if_neg (by show ¬ (-1 : Int) ≠ -1; omega), if_pos (by show 0 < min len 60 ∧ min len 60 - p ≠ lnA (T p); omega)]
      omega
theorem fltW_fin {T : Int → Int} {len : Nat} (h : WrI T len) (hl : len ≤ 60) : fltW T len = -1 := by
  obtain ⟨b0, h1, h2⟩ := h
  have e : wrF T (min len 60) 0 0 = (-1, b0) := by
    have := h2 0
    rw [show min len 60 = len + 0 by omega, this]; rfl
  unfold fltW
  rw [e, if_neg (by show ¬ (-1 : Int) ≠ -1; omega), if_neg (by show ¬ (0 < min len 60 ∧ min len 60 - b0 ≠ lnA (T b0)); omega), if_neg (by omega)]
