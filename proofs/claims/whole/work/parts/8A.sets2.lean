/-! more calls that set something, coupled -/
section SETT
variable {l : Launch} {g : GE} {d c : Nat} {t : Tau} {σ : Mem} {S : AS}
theorem j_seen {w v : Int} (h : CR S t σ) (hM : MRl c S t σ) (hP : PI c S) : JJ l g (d + 103) 118 253 [vI w, vI v] c t σ := by
  obtain ⟨x1, x2, x3⟩ := h.2.2.2.2.2.2.2.2.1
  have y1 := hM.2.2.2.2.2.2.2.1.1
  obtain ⟨q1, q2⟩ := hP.2.2.1
  by_cases hv : (0 ≤ v ∧ v ≤ mostS w) ∧ ((aG S).1 : Int) < 12
  · refine JJ.mk (a := ((aG S).1 : Int) + 1) (KC := fun s s' => s' = up (up (up (up s 158 (aG S).1 w) 159 (aG S).1 v) 160 (aG S).1 0) 157 3 (((aG S).1 : Int) + 1)) (KM := fun s s' => s' = up (up (up (up s 175 8 0) 191 (aG S).1 w) 192 (aG S).1 v) 175 30 (((aG S).1 : Int) + 1)) (fun Q z => o_seen h.1 (by rw [x1]; omega) (by rw [x1, if_pos hv]; exact z _ rfl)) (fun σ1 e Q z => ?_) (fun σ1 σ2 e1 e2 => ?_)
    · have m1 : MRl c S t σ1 := hM.lo (fun o a => by subst e; rw [up_ne (by omega), up_ne (by omega), up_ne (by omega), up_ne (by omega)])
      have y2 := m1.2.2.2.2.2.2.2.1.1
      exact mo_seen m1.tm (by rw [y2]; omega) (by rw [y2, if_pos hv]; exact z _ rfl)
    · have m1 : MRl c S t σ1 := hM.lo (fun o a => by subst e1; rw [up_ne (by omega), up_ne (by omega), up_ne (by omega), up_ne (by omega)])
      have f1 : ∀ o, (o < 157 ∨ 160 < o) → σ1 o = σ o := fun o ho => by rw [e1, up_ne (by omega), up_ne (by omega), up_ne (by omega), up_ne (by omega)]
      have f2 : ∀ o, o ≠ 175 → o ≠ 191 → o ≠ 192 → σ2 o = σ1 o := fun o a b c => by rw [e2, up_ne a, up_ne c, up_ne b, up_ne a]
      have j2 : ∀ j, j ≠ 8 → j ≠ 30 → σ2 175 j = σ1 175 j := fun j a b => by rw [e2]; simp [up_ap, a, b]
      obtain ⟨p1, p2, p4, p5, p6⟩ := hP.up
      refine ⟨sS S (aT S) (aX S) ((aG S).1 + 1, upv (aG S).2.1 (aG S).1 w, upv (aG S).2.2 (aG S).1 v) (aD S), ?_, ?_, ?_⟩
      · refine CR.fr (σ := σ1) ?_ (fun o _ b => f2 o (by omega) (by omega) (by omega))
        refine h.set (fun o a b => f1 o (by omega)) (fun o a b => f1 o (by omega)) (by rw [f1 0 (by omega)]) (by rw [f1 0 (by omega)]) (by rw [f1 0 (by omega)]) (by rw [f1 0 (by omega)]; exact h.2.2.1) (by rw [f1 1 (by omega), f1 2 (by omega)]; exact h.2.2.2.1) ⟨by rw [e1]; simp [up_ap], ?_, ?_⟩ (by rw [f1 161 (by omega), f1 162 (by omega), f1 163 (by omega), f1 164 (by omega)]; exact h.2.2.2.2.2.2.2.2.2.1)
        · funext k; rw [e1, ← x2]; simp [up_ap, upv]
        · funext k; rw [e1, ← x3]; simp [up_ap, upv]
      · obtain ⟨-, z2, z3⟩ := m1.2.2.2.2.2.2.2.1
        refine m1.set (by omega) (fun o a _ _ b c _ _ => f2 o (by omega) b c) (fun j _ _ a b _ _ => j2 j a b) (by rw [j2 2 (by omega) (by omega)]; exact m1.2.1) (m1.m3 (j2 5 (by omega) (by omega)) (f2 178 (by omega) (by omega) (by omega))) ⟨by rw [e2]; simp [up_ap], ?_, ?_⟩ (m1.m9 (j2 34 (by omega) (by omega)) (j2 33 (by omega) (by omega)) (f2 193 (by omega) (by omega) (by omega)) (f2 194 (by omega) (by omega) (by omega)))
        · funext k; rw [e2, ← z2]; simp [up_ap, upv]
        · funext k; rw [e2, ← z3]; simp [up_ap, upv]
      · refine ⟨p1, p2, ⟨by show (aG S).1 + 1 ≤ 12; omega, fun k k0 k1 => ?_⟩, p5, p6⟩
        have k2 : k < ((aG S).1 : Int) + 1 := by
          have : k < (((aG S).1 + 1 : Nat) : Int) := k1
          omega
        show 0 ≤ upv (aG S).2.2 (aG S).1 v k ∧ upv (aG S).2.2 (aG S).1 v k ≤ mostS (upv (aG S).2.1 (aG S).1 w k)
        by_cases hk : k = (aG S).1
        · rw [hk, upv_s, upv_s]; exact hv.1
        · rw [upv_n hk, upv_n hk]; exact q2 k k0 (by omega)
  · exact JJ.n (a := -1) h hM hP (fun Q z => o_seen h.1 (by rw [x1]; omega) (by rw [x1, if_neg hv]; exact z)) (fun Q z => mo_seen hM.tm (by rw [y1]; omega) (by rw [y1, if_neg hv]; exact z))
theorem j_forget (h : CR S t σ) (hM : MRl c S t σ) (hP : PI c S) : JJ l g (d + 103) 119 254 [] c t σ := by
  obtain ⟨x1, x2, x3⟩ := h.2.2.2.2.2.2.2.2.1
  refine JJ.mk (a := ((aG S).1 : Int)) (KC := fun s s' => s' = up s 157 3 0) (KM := fun s s' => s' = up (up s 175 8 0) 175 30 0) (fun Q z => o_forget h.1 (by rw [x1]; exact z _ rfl)) (fun σ1 e Q z => ?_) (fun σ1 σ2 e1 e2 => ?_)
  · have m1 : MRl c S t σ1 := hM.lo (fun o a => by subst e; rw [up_ne (by omega)])
    exact mo_forget m1.tm (by rw [m1.2.2.2.2.2.2.2.1.1]; exact z _ rfl)
  · have m1 : MRl c S t σ1 := hM.lo (fun o a => by subst e1; rw [up_ne (by omega)])
    have f1 : ∀ o, o ≠ 157 → σ1 o = σ o := fun o ho => by rw [e1, up_ne ho]
    have f2 : ∀ o, o ≠ 175 → σ2 o = σ1 o := fun o a => by rw [e2, up_ne a, up_ne a]
    have j2 : ∀ j, j ≠ 8 → j ≠ 30 → σ2 175 j = σ1 175 j := fun j a b => by rw [e2]; simp [up_ap, a, b]
    obtain ⟨p1, p2, p4, p5, p6⟩ := hP.up
    refine ⟨sS S (aT S) (aX S) (0, (aG S).2.1, (aG S).2.2) (aD S), ?_, ?_, ?_⟩
    · refine CR.fr (σ := σ1) ?_ (fun o _ b => f2 o (by omega))
      exact h.set (fun o a b => f1 o (by omega)) (fun o a b => f1 o (by omega)) (by rw [f1 0 (by omega)]) (by rw [f1 0 (by omega)]) (by rw [f1 0 (by omega)]) (by rw [f1 0 (by omega)]; exact h.2.2.1) (by rw [f1 1 (by omega), f1 2 (by omega)]; exact h.2.2.2.1) ⟨by rw [e1]; simp [up_ap], by rw [f1 158 (by omega)]; exact x2, by rw [f1 159 (by omega)]; exact x3⟩ (by rw [f1 161 (by omega), f1 162 (by omega), f1 163 (by omega), f1 164 (by omega)]; exact h.2.2.2.2.2.2.2.2.2.1)
    · obtain ⟨-, z2, z3⟩ := m1.2.2.2.2.2.2.2.1
      exact m1.set (by omega) (fun o a _ _ _ _ _ _ => f2 o (by omega)) (fun j _ _ a b _ _ => j2 j a b) (by rw [j2 2 (by omega) (by omega)]; exact m1.2.1) (m1.m3 (j2 5 (by omega) (by omega)) (f2 178 (by omega))) ⟨by rw [e2]; simp [up_ap], by rw [f2 191 (by omega)]; exact z2, by rw [f2 192 (by omega)]; exact z3⟩ (m1.m9 (j2 34 (by omega) (by omega)) (j2 33 (by omega) (by omega)) (f2 193 (by omega)) (f2 194 (by omega)))
    · exact ⟨p1, p2, ⟨by show 0 ≤ 12; omega, fun k k0 k1 => absurd k1 (by show ¬ k < ((0 : Nat) : Int); omega)⟩, p5, p6⟩
theorem j_deny (h : CR S t σ) (hM : MRl c S t σ) (hP : PI c S) : JJ l g (d + 103) 123 260 [] c t σ := by
  obtain ⟨x1, x2, x3, x4⟩ := h.2.2.2.2.2.2.2.2.2.1
  refine JJ.mk (a := ((aD S).1 : Int)) (KC := fun s s' => s' = up s 161 3 0) (KM := fun s s' => s' = up (up s 175 8 0) 175 34 0) (fun Q z => o_deny h.1 (by rw [x1]; exact z _ rfl)) (fun σ1 e Q z => ?_) (fun σ1 σ2 e1 e2 => ?_)
  · have m1 : MRl c S t σ1 := hM.lo (fun o a => by subst e; rw [up_ne (by omega)])
    exact mo_deny m1.tm (by rw [m1.2.2.2.2.2.2.2.2.1]; exact z _ rfl)
  · have m1 : MRl c S t σ1 := hM.lo (fun o a => by subst e1; rw [up_ne (by omega)])
    have f1 : ∀ o, o ≠ 161 → σ1 o = σ o := fun o ho => by rw [e1, up_ne ho]
    have f2 : ∀ o, o ≠ 175 → σ2 o = σ1 o := fun o a => by rw [e2, up_ne a, up_ne a]
    have j2 : ∀ j, j ≠ 8 → j ≠ 34 → σ2 175 j = σ1 175 j := fun j a b => by rw [e2]; simp [up_ap, a, b]
    obtain ⟨p1, p2, p4, p5, p6⟩ := hP.up
    refine ⟨sS S (aT S) (aX S) (aG S) (0, (aD S).2.1, (aD S).2.2.1, (aD S).2.2.2), ?_, ?_, ?_⟩
    · refine CR.fr (σ := σ1) ?_ (fun o _ b => f2 o (by omega))
      exact h.set (fun o a b => f1 o (by omega)) (fun o a b => f1 o (by omega)) (by rw [f1 0 (by omega)]) (by rw [f1 0 (by omega)]) (by rw [f1 0 (by omega)]) (by rw [f1 0 (by omega)]; exact h.2.2.1) (by rw [f1 1 (by omega), f1 2 (by omega)]; exact h.2.2.2.1) (by rw [f1 157 (by omega), f1 158 (by omega), f1 159 (by omega)]; exact h.2.2.2.2.2.2.2.2.1) ⟨by rw [e1]; simp [up_ap], by rw [f1 162 (by omega)]; exact x2, by rw [f1 163 (by omega)]; exact x3, by rw [f1 164 (by omega)]; exact x4⟩
    · obtain ⟨-, z2, z3, b, z4, z5, -⟩ := m1.2.2.2.2.2.2.2.2
      exact m1.set (by omega) (fun o a _ _ _ _ _ _ => f2 o (by omega)) (fun j _ _ a _ _ b => j2 j a b) (by rw [j2 2 (by omega) (by omega)]; exact m1.2.1) (m1.m3 (j2 5 (by omega) (by omega)) (f2 178 (by omega))) (m1.m8 (j2 30 (by omega) (by omega)) (f2 191 (by omega)) (f2 192 (by omega))) ⟨by rw [e2]; simp [up_ap], by rw [f2 193 (by omega)]; exact z2, by rw [f2 194 (by omega)]; exact z3, b, z4, by rw [j2 33 (by omega) (by omega)]; exact z5, fun k hk => absurd hk (Nat.not_lt_zero k)⟩
    · exact ⟨p1, p2, p4, ⟨by show 0 ≤ 12; omega, fun k k0 k1 => absurd k1 (by show ¬ k < ((0 : Nat) : Int); omega)⟩, p6⟩
theorem j_told {o e i : Int} (h : CR S t σ) (hM : MRl c S t σ) (hP : PI c S) : JJ l g (d + 103) 122 259 [vI o, vI e, vI i] c t σ := by
  obtain ⟨x1, x2, x3, x4⟩ := h.2.2.2.2.2.2.2.2.2.1
  have y1 := hM.2.2.2.2.2.2.2.2.1
  obtain ⟨q1, q2⟩ := hP.2.2.2.1
  by_cases hv : ((0 ≤ o ∧ o ≤ 12) ∧ (0 ≤ e ∧ e ≤ 12 - o) ∧ (0 ≤ i ∧ i ≤ 1)) ∧ ((aD S).1 : Int) < 12
  · have hi : i = 0 ∨ i = 1 := by omega
    refine JJ.mk (a := ((aD S).1 : Int) + 1) (KC := fun s s' => s' = up (up (up (up s 162 (aD S).1 o) 163 (aD S).1 e) 164 (aD S).1 i) 161 3 (((aD S).1 : Int) + 1)) (KM := fun s s' => s' = up (up (up (up (up s 175 8 0) 193 (aD S).1 o) 194 (aD S).1 e) 175 33 (tlB (s 175 33) (aD S).1 i)) 175 34 (((aD S).1 : Int) + 1)) (fun Q z => o_told h.1 (by rw [x1]; omega) (by rw [x1, if_pos hv]; exact z _ rfl)) (fun σ1 e' Q z => ?_) (fun σ1 σ2 e1 e2 => ?_)
    · have m1 : MRl c S t σ1 := hM.lo (fun o a => by subst e'; rw [up_ne (by omega), up_ne (by omega), up_ne (by omega), up_ne (by omega)])
      have y2 := m1.2.2.2.2.2.2.2.2.1
      exact mo_told m1.tm (by rw [y2]; omega) (by rw [y2, if_pos hv]; exact z _ rfl)
    · have m1 : MRl c S t σ1 := hM.lo (fun o a => by subst e1; rw [up_ne (by omega), up_ne (by omega), up_ne (by omega), up_ne (by omega)])
      have f1 : ∀ o, (o < 161 ∨ 164 < o) → σ1 o = σ o := fun o ho => by rw [e1, up_ne (by omega), up_ne (by omega), up_ne (by omega), up_ne (by omega)]
      have f2 : ∀ o, o ≠ 175 → o ≠ 193 → o ≠ 194 → σ2 o = σ1 o := fun o a b c => by rw [e2, up_ne a, up_ne a, up_ne c, up_ne b, up_ne a]
      have j2 : ∀ j, j ≠ 8 → j ≠ 33 → j ≠ 34 → σ2 175 j = σ1 175 j := fun j a b c => by rw [e2]; simp [up_ap, a, b, c]
      obtain ⟨p1, p2, p4, p5, p6⟩ := hP.up
      refine ⟨sS S (aT S) (aX S) (aG S) ((aD S).1 + 1, upv (aD S).2.1 (aD S).1 o, upv (aD S).2.2.1 (aD S).1 e, upv (aD S).2.2.2 (aD S).1 i), ?_, ?_, ?_⟩
      · refine CR.fr (σ := σ1) ?_ (fun o _ b => f2 o (by omega) (by omega) (by omega))
        refine h.set (fun o a b => f1 o (by omega)) (fun o a b => f1 o (by omega)) (by rw [f1 0 (by omega)]) (by rw [f1 0 (by omega)]) (by rw [f1 0 (by omega)]) (by rw [f1 0 (by omega)]; exact h.2.2.1) (by rw [f1 1 (by omega), f1 2 (by omega)]; exact h.2.2.2.1) (by rw [f1 157 (by omega), f1 158 (by omega), f1 159 (by omega)]; exact h.2.2.2.2.2.2.2.2.1) ⟨by rw [e1]; simp [up_ap], ?_, ?_, ?_⟩
        · funext k; rw [e1, ← x2]; simp [up_ap, upv]
        · funext k; rw [e1, ← x3]; simp [up_ap, upv]
        · funext k; rw [e1, ← x4]; simp [up_ap, upv]
      · obtain ⟨-, z2, z3, b, z4, z5, z6⟩ := m1.2.2.2.2.2.2.2.2
        refine m1.set (by omega) (fun o a _ _ _ _ b c => f2 o (by omega) b c) (fun j _ _ a _ b c => j2 j a b c) (by rw [j2 2 (by omega) (by omega) (by omega)]; exact m1.2.1) (m1.m3 (j2 5 (by omega) (by omega) (by omega)) (f2 178 (by omega) (by omega) (by omega))) (m1.m8 (j2 30 (by omega) (by omega) (by omega)) (f2 191 (by omega) (by omega) (by omega)) (f2 192 (by omega) (by omega) (by omega))) ⟨by rw [e2]; simp [up_ap], ?_, ?_, tlN b (aD S).1 i, tlN_l z4 (by omega), ?_, ?_⟩
        · funext k; rw [e2, ← z2]; simp [up_ap, upv]
        · funext k; rw [e2, ← z3]; simp [up_ap, upv]
        · rw [← tlB_b z4 (by omega) hi, ← z5, e2]; simp [up_ap]
        · intro k hk
          have hk1 : k < (aD S).1 + 1 := hk
          show upv (aD S).2.2.2 (aD S).1 i k = _
          rw [tlN_t (by omega)]
          by_cases hkk : k = (aD S).1
          · subst hkk
            rw [upv_s, if_pos rfl]
            rcases hi with rfl | rfl <;> simp
          · rw [upv_n (by omega), if_neg hkk]
            exact z6 k (by omega)
      · refine ⟨p1, p2, p4, ⟨by show (aD S).1 + 1 ≤ 12; omega, fun k k0 k1 => ?_⟩, p6⟩
        have k2 : k < ((aD S).1 : Int) + 1 := by
          have : k < (((aD S).1 + 1 : Nat) : Int) := k1
          omega
        show (0 ≤ upv (aD S).2.1 (aD S).1 o k ∧ upv (aD S).2.1 (aD S).1 o k ≤ 12) ∧ (0 ≤ upv (aD S).2.2.1 (aD S).1 e k ∧ upv (aD S).2.2.1 (aD S).1 e k ≤ 12) ∧ (upv (aD S).2.2.2 (aD S).1 i k = 0 ∨ upv (aD S).2.2.2 (aD S).1 i k = 1)
        by_cases hk : k = (aD S).1
        · rw [hk, upv_s, upv_s, upv_s]
          exact ⟨hv.1.1, by omega, hi⟩
        · rw [upv_n hk, upv_n hk, upv_n hk]; exact q2 k k0 (by omega)
  · exact JJ.n (a := -1) h hM hP (fun Q z => o_told h.1 (by rw [x1]; omega) (by rw [x1, if_neg hv]; exact z)) (fun Q z => mo_told hM.tm (by rw [y1]; omega) (by rw [y1, if_neg hv]; exact z))
end SETT
