/-! the reference: the text of ships -/
theorem fF_hit {p : Nat → Bool} {d : Int} : ∀ {r a k : Nat}, k < r → (∀ j, j < k → p (a + j) = false) → p (a + k) = true → fF p a d r = ((a + k : Nat) : Int)
  | 0, a, k, hk, _, _ => by omega
  | r + 1, a, 0, _, _, h => by
    unfold fF
    rw [if_pos (by simpa using h)]
    simp
  | r + 1, a, k + 1, hk, h1, h2 => by
    unfold fF
    have h0 := h1 0 (by omega)
    rw [if_neg (by simp at h0; simp [h0]), fF_hit (k := k) (by omega) (fun j hj => by have := h1 (j + 1) (by omega); rwa [show a + 1 + j = a + (j + 1) by omega]) (by rwa [show a + 1 + k = a + (k + 1) by omega])]
    congr 1; omega
theorem fF_no {p : Nat → Bool} {d : Int} : ∀ {r a : Nat}, (∀ j, j < r → p (a + j) = false) → fF p a d r = d
  | 0, _, _ => rfl
  | r + 1, a, h => by
    unfold fF
    have h0 := h 0 (by omega)
    rw [if_neg (by simp at h0; simp [h0])]
    exact fF_no (fun j hj => by have := h (j + 1) (by omega); rwa [show a + 1 + j = a + (j + 1) by omega])
theorem flt_hit {n : Nat} {T : Int → Int} {len p : Nat} (hp : p < min len 17) (h1 : ∀ j, j < p → stS n T j = true) (h2 : stS n T p = false) : fltS n T len = p := by
  have : fF (fun p => !stS n T p) 0 (-1) (min len 17) = ((0 + p : Nat) : Int) := fF_hit hp (fun j hj => by simp [h1 j hj]) (by simp [h2])
  unfold fltS
  rw [this]
  rw [if_pos (by omega)]
  congr 1; omega
theorem flt_end {n : Nat} {T : Int → Int} {len : Nat} (h1 : ∀ j, j < min len 17 → stS n T j = true) : fltS n T len = if 0 < min len 17 ∧ min len 17 % 3 ≠ 2 then ((min len 17 : Nat) : Int) else if 17 < len then 17 else -1 := by
  have : fF (fun p => !stS n T p) 0 (-1) (min len 17) = -1 := fF_no (fun j hj => by simp [h1 j hj])
  unfold fltS
  rw [this, if_neg (by omega)]
/-- what reading ships leaves as it was -/
def PxF (σ σ' : Mem) : Prop := (∀ o, o ≠ 175 → o ≠ 180 → σ' o = σ o) ∧ ∀ j, j ≠ 12 → j ≠ 13 → σ' 175 j = σ 175 j
theorem PxF.rf {σ : Mem} : PxF σ σ := ⟨fun _ _ _ => rfl, fun _ _ _ => rfl⟩
theorem PxF.tr {σ σ' σ'' : Mem} (h : PxF σ σ') (h' : PxF σ' σ'') : PxF σ σ'' := ⟨fun o a b => (h'.1 o a b).trans (h.1 o a b), fun j a b => (h'.2 j a b).trans (h.2 j a b)⟩
theorem PxF.at {σ : Mem} {x : Int} : PxF σ (up σ 175 12 x) := ⟨fun o a _ => up_ne a, fun j a _ => by rw [up_ap, if_neg (fun z => a z.2)]⟩
theorem PxF.wr {σ : Mem} {x : Int} : PxF σ (up σ 175 13 x) := ⟨fun o a _ => up_ne a, fun j _ b => by rw [up_ap, if_neg (fun z => b z.2)]⟩
theorem PxF.co {σ : Mem} {j x : Int} : PxF σ (up σ 180 j x) := ⟨fun o _ b => up_ne b, fun j _ _ => by rw [up_ne (by omega)]⟩
def PaX (t : Tau) (σ : Mem) (T : Int → Int) (N len : Nat) : Prop := TM t ∧ σ 175 9 = 178 ∧ σ 175 10 = len ∧ len ≤ 80 ∧ (∀ k, -128 ≤ σ 178 k ∧ σ 178 k ≤ 127) ∧ N ≤ len ∧ ∀ p : Nat, p ≤ N → hrS σ p = if p < N then T p else -1
theorem PxF.c {t : Tau} {σ σ' : Mem} {T : Int → Int} {N len : Nat} (h : PxF σ σ') (hc : PaX t σ T N len) : PaX t σ' T N len := by
  obtain ⟨c1, c2, c3, c4, c5, c6, c7⟩ := hc
  have e9 := h.2 9 (by omega) (by omega)
  have e10 := h.2 10 (by omega) (by omega)
  have e11 := h.2 11 (by omega) (by omega)
  have e178 := h.1 178 (by omega) (by omega)
  refine ⟨c1, by rw [e9]; exact c2, by rw [e10]; exact c3, c4, by rw [e178]; exact c5, c6, fun p hp => ?_⟩
  rw [← c7 p hp]; unfold hrS; rw [e9, e10, e11, c2, e178]
theorem PaX.ps {t : Tau} {σ : Mem} {T : Int → Int} {N len p : Nat} (h : PaX t σ T N len) (hp : σ 175 12 = p) (h1 : p ≤ N) : PsOk t σ ∧ PsB σ ∧ hrS σ (σ 175 12) = if p < N then T p else -1 := by
  obtain ⟨c1, c2, c3, c4, c5, c6, c7⟩ := h
  refine ⟨⟨c1, by rw [hp, c3]; omega, by rw [c2]; exact c1.t178, by rw [c2, c3, c1.l178]; omega⟩, ⟨by rw [c2]; omega, fun k => by rw [c2]; exact c5 k⟩, by rw [hp]; exact c7 p h1⟩
