/-! calls that set something, coupled -/
section SETS
variable {l : Launch} {g : GE} {d c c' : Nat} {t : Tau} {σ σ' : Mem} {S : AS}
abbrev sS (S : AS) (T : Int) (X : Nat × (Int → Int)) (G : Nat × (Int → Int) × (Int → Int)) (D : Nat × (Int → Int) × (Int → Int) × (Int → Int)) : AS := (aN S, aM S, aV S, T, X, aO S, aE S, aP S, aK S, G, D)
theorem CR.set {T : Int} {X : Nat × (Int → Int)} {G : Nat × (Int → Int) × (Int → Int)} {D : Nat × (Int → Int) × (Int → Int) × (Int → Int)} (h : CR S t σ) (hf : ∀ o, 3 ≤ o → o < 157 → σ' o = σ o) (hg : ∀ o, 165 ≤ o → o < 175 → σ' o = σ o) (k12 : σ' 0 12 = σ 0 12) (k13 : σ' 0 13 = σ 0 13) (k15 : σ' 0 15 = σ 0 15) (hT : σ' 0 14 = T) (hX : σ' 1 1 = (X.1 : Int) ∧ σ' 2 = X.2) (hG : σ' 157 3 = (G.1 : Int) ∧ σ' 158 = G.2.1 ∧ σ' 159 = G.2.2) (hD : σ' 161 3 = (D.1 : Int) ∧ σ' 162 = D.2.1 ∧ σ' 163 = D.2.2.1 ∧ σ' 164 = D.2.2.2) : CR (sS S T X G D) t σ' := by
  have c2 := h.c2 (σ' := σ') (fun o a b => hf o (by omega) (by omega))
  refine ⟨h.1, c2, hT, hX, h.2.2.2.2.1.cg (hf 3 (by omega) (by omega)) (hf 4 (by omega) (by omega)), h.c6 k12 k13 (fun o ho => hg o ?_ ?_), h.c7 (fun o a b => hf o (by omega) (by omega)) c2.2.1 c2.2.2.1, h.c8 k15 (fun o a b => hf o (by omega) (by omega)), hG, hD, h.c11 (hf 127 (by omega) (by omega))⟩
  · rcases h.2.2.2.2.2.1.1 with e | e <;> omega
  · rcases h.2.2.2.2.2.1.1 with e | e <;> omega
theorem MRl.set {T : Int} {X : Nat × (Int → Int)} {G : Nat × (Int → Int) × (Int → Int)} {D : Nat × (Int → Int) × (Int → Int) × (Int → Int)} (h : MRl c S t σ) (hc : c ≤ c') (hf : ∀ o, 175 < o → o < 199 → o ≠ 178 → o ≠ 191 → o ≠ 192 → o ≠ 193 → o ≠ 194 → σ' o = σ o) (hj : ∀ j, j ≠ 2 → j ≠ 5 → j ≠ 8 → j ≠ 30 → j ≠ 33 → j ≠ 34 → σ' 175 j = σ 175 j) (hT : σ' 175 2 = T) (hX : (σ' 175 5 = (X.1 : Int) ∧ txB σ' = X.2) ∧ TxM σ') (hG : σ' 175 30 = (G.1 : Int) ∧ σ' 191 = G.2.1 ∧ σ' 192 = G.2.2) (hD : σ' 175 34 = (D.1 : Int) ∧ σ' 193 = D.2.1 ∧ σ' 194 = D.2.2.1 ∧ ∃ b : Nat, b < 4096 ∧ σ' 175 33 = (b : Int) ∧ ∀ k : Nat, k < D.1 → D.2.2.2 k = if b.testBit k then 1 else 0) : MRl c' (sS S T X G D) t σ' := by
  have f : ∀ o, (o = 176 ∨ o = 177 ∨ o = 179 ∨ o = 181 ∨ o = 182 ∨ o = 184 ∨ o = 196 ∨ o = 197 ∨ o = 198) → σ' o = σ o := fun o ho => hf o (by omega) (by omega) (by omega) (by omega) (by omega) (by omega) (by omega)
  have j : ∀ k : Int, (k = 1 ∨ k = 7 ∨ k = 15 ∨ k = 16 ∨ k = 17 ∨ k = 21 ∨ k = 37) → σ' 175 k = σ 175 k := fun k hk => hj k (by omega) (by omega) (by omega) (by omega) (by omega) (by omega)
  exact ⟨h.m1 (j 1 (by omega)) (f 176 (by omega)) (f 177 (by omega)), hT, hX, h.m4 (j 7 (by omega)) (f 179 (by omega)), h.m5 (j 15 (by omega)) (j 16 (by omega)) (j 17 (by omega)) (f 181 (by omega)) (f 182 (by omega)), h.m6 (j 21 (by omega)) (f 184 (by omega)), h.m7 hc (j 37 (by omega)) (f 196 (by omega)) (f 197 (by omega)) (f 198 (by omega)), hG, hD⟩
theorem j_take {v : Int} (h : CR S t σ) (hM : MRl c S t σ) (hP : PI c S) : JJ l g (d + 103) 91 200 [vI v] c t σ := by
  by_cases hv : 1 ≤ v ∧ v ≤ 6
  · have m1 : MRl c S t (up σ 0 14 v) := hM.lo (fun o a => up_ne (by omega))
    refine JJ.mk (a := aT S) (KC := fun s s' => s' = up s 0 14 v) (KM := fun s s' => s' = up (up s 175 8 0) 175 2 v) (fun Q z => o_take h.1 (by rw [if_pos hv, h.2.2.1]; exact z _ rfl)) (fun σ1 e Q z => ?_) (fun σ1 σ2 e1 e2 => ?_)
    · subst e
      exact mo_take m1.tm (by rw [if_pos hv, m1.2.1]; exact z _ rfl)
    · subst e1; subst e2
      refine ⟨sS S v (aX S) (aG S) (aD S), ?_, ?_, ?_⟩
      · refine CR.fr (σ := up σ 0 14 v) ?_ (fun o _ b => by rw [up_ne (by omega), up_ne (by omega)])
        exact h.set (fun o a b => up_ne (by omega)) (fun o a b => up_ne (by omega)) (by simp [up_ap]) (by simp [up_ap]) (by simp [up_ap]) (by simp [up_ap]) (by rw [up_ne (by omega), up_ne (by omega)]; exact h.2.2.2.1) (by rw [up_ne (by omega), up_ne (by omega), up_ne (by omega)]; exact h.2.2.2.2.2.2.2.2.1) (by rw [up_ne (by omega), up_ne (by omega), up_ne (by omega), up_ne (by omega)]; exact h.2.2.2.2.2.2.2.2.2.1)
      · exact m1.set (by omega) (fun o a _ _ _ _ _ _ => by rw [up_ne (by omega), up_ne (by omega)]) (fun j h2 _ h8 _ _ _ => by simp [up_ap, h2, h8]) (by simp [up_ap]) (m1.m3 (by simp [up_ap]) (by rw [up_ne (by omega), up_ne (by omega)])) (m1.m8 (by simp [up_ap]) (by rw [up_ne (by omega), up_ne (by omega)]) (by rw [up_ne (by omega), up_ne (by omega)])) (m1.m9 (by simp [up_ap]) (by simp [up_ap]) (by rw [up_ne (by omega), up_ne (by omega)]) (by rw [up_ne (by omega), up_ne (by omega)]))
      · have q := hP.up
        exact ⟨hv, q.2⟩
  · exact JJ.n (a := -1) h hM hP (fun Q z => o_take h.1 (by rw [if_neg hv]; exact z)) (fun Q z => mo_take hM.tm (by rw [if_neg hv]; exact z))
theorem j_end {n : Int} (h : CR S t σ) (hM : MRl c S t σ) (hP : PI c S) : JJ l g (d + 103) 86 178 [vI n] c t σ := by
  have x1 := h.2.2.2.1.1
  have y1 := hM.2.2.1.1.1
  by_cases hv : 0 ≤ n ∧ n ≤ ((aX S).1 : Int)
  · have m1 : MRl c S t (up σ 1 1 n) := hM.lo (fun o a => up_ne (by omega))
    have hn : n = (n.toNat : Int) := (Int.toNat_of_nonneg hv.1).symm
    refine JJ.mk (a := 1) (KC := fun s s' => s' = up s 1 1 n) (KM := fun s s' => s' = up (up s 175 8 0) 175 5 n) (fun Q z => o_end h.1 (by rw [x1, if_pos hv]; exact z _ rfl)) (fun σ1 e Q z => ?_) (fun σ1 σ2 e1 e2 => ?_)
    · subst e
      exact mo_end m1.tm (by rw [m1.2.2.1.1.1, if_pos hv]; exact z _ rfl)
    · subst e1; subst e2
      obtain ⟨p1, ⟨p2, p3⟩, p4, p5, p6, B, b1, b2, b3, b4⟩ := hP.up
      refine ⟨sS S (aT S) (n.toNat, (aX S).2) (aG S) (aD S), ?_, ?_, ?_⟩
      · refine CR.fr (σ := up σ 1 1 n) ?_ (fun o _ b => by rw [up_ne (by omega), up_ne (by omega)])
        exact h.set (fun o a b => up_ne (by omega)) (fun o a b => up_ne (by omega)) (by rw [up_ne (by omega)]) (by rw [up_ne (by omega)]) (by rw [up_ne (by omega)]) (by rw [up_ne (by omega)]; exact h.2.2.1) ⟨by rw [← hn]; simp [up_ap], by rw [up_ne (by omega)]; exact h.2.2.2.1.2⟩ (by rw [up_ne (by omega), up_ne (by omega), up_ne (by omega)]; exact h.2.2.2.2.2.2.2.2.1) (by rw [up_ne (by omega), up_ne (by omega), up_ne (by omega), up_ne (by omega)]; exact h.2.2.2.2.2.2.2.2.2.1)
      · have q := m1.2.2.1
        refine m1.set (by omega) (fun o a _ _ _ _ _ _ => by rw [up_ne (by omega), up_ne (by omega)]) (fun j _ h5 h8 _ _ _ => by simp [up_ap, h5, h8]) (by simp [up_ap]; exact m1.2.1) ⟨⟨by rw [← hn]; simp [up_ap], ?_⟩, ?_⟩ (m1.m8 (by simp [up_ap]) (by rw [up_ne (by omega), up_ne (by omega)]) (by rw [up_ne (by omega), up_ne (by omega)])) (m1.m9 (by simp [up_ap]) (by simp [up_ap]) (by rw [up_ne (by omega), up_ne (by omega)]) (by rw [up_ne (by omega), up_ne (by omega)]))
        · rw [← q.1.2]
          unfold txB
          rw [up_ne (by omega), up_ne (by omega)]
        · refine ⟨by simp [up_ap]; omega, ?_⟩
          rw [up_ne (by omega), up_ne (by omega)]
          exact q.2.2
      · refine ⟨p1, ⟨by show n.toNat ≤ 80; omega, p3⟩, p4, p5, p6, B, b1, b2, b3, ?_⟩
        show B + ((n.toNat : Nat) : Int) ≤ _
        have : B + ((aX S).1 : Int) ≤ 4 * ((c + 1 : Nat) : Int) := b4
        omega
  · exact JJ.n (a := 0) h hM hP (fun Q z => o_end h.1 (by rw [x1, if_neg hv]; exact z)) (fun Q z => mo_end hM.tm (by rw [y1, if_neg hv]; exact z))
theorem j_sign {v : Int} (h : CR S t σ) (hM : MRl c S t σ) (hP : PI c S) : JJ l g (d + 103) 85 177 [vI v] c t σ := by
  have x1 := h.2.2.2.1.1
  have x2 := h.2.2.2.1.2
  have y1 := hM.2.2.1.1.1
  have p80 := hP.2.1.1
  by_cases hv : ((aX S).1 : Int) ≤ 76
  · refine JJ.mk (a := ((aX S).1 : Int) + 4) (KC := fun s s' => (∀ o, o ≠ 1 → o ≠ 2 → s' o = s o) ∧ s' 1 1 = ((aX S).1 : Int) + 4 ∧ ∀ k, s' 2 k = if ((aX S).1 : Int) ≤ k ∧ k < ((aX S).1 : Int) + 4 then chrJ v (k - ((aX S).1 : Int)).toNat else s 2 k) (KM := fun s s' => (∀ o, o ≠ 175 → o ≠ 178 → s' o = s o) ∧ (∀ j, j ≠ 5 → j ≠ 8 → s' 175 j = s 175 j) ∧ s' 175 5 = ((aX S).1 : Int) + 4 ∧ ∀ k, s' 178 k = if ((aX S).1 : Int) ≤ k ∧ k < ((aX S).1 : Int) + 4 then bytJ v (k - ((aX S).1 : Int)).toNat else s 178 k) (fun Q z => o_sign h.1 (by rw [x1]; omega) (by rw [x1, if_pos hv]; exact fun σ' a b c => z σ' ⟨a, b, c⟩)) (fun σ1 e Q z => ?_) (fun σ1 σ2 e1 e2 => ?_)
    · have m1 : MRl c S t σ1 := hM.lo (fun o a => e.1 o (by omega) (by omega))
      have y2 := m1.2.2.1.1.1
      exact mo_sign m1.tm (by rw [y2]; omega) (by rw [y2, if_pos hv]; exact fun σ' a b _ c f => z σ' ⟨a, b, c, f⟩)
    · obtain ⟨c1, c2, c3⟩ := e1
      obtain ⟨m1, m2, m3, m4⟩ := e2
      have hM1 : MRl c S t σ1 := hM.lo (fun o a => c1 o (by omega) (by omega))
      obtain ⟨p1, ⟨p2, p3⟩, p4, p5, p6, B, b1, b2, b3, b4⟩ := hP
      refine ⟨sS S (aT S) ((aX S).1 + 4, fun k => if ((aX S).1 : Int) ≤ k ∧ k < ((aX S).1 : Int) + 4 then chrJ v (k - ((aX S).1 : Int)).toNat else (aX S).2 k) (aG S) (aD S), ?_, ?_, ?_⟩
      · refine CR.fr (σ := σ1) ?_ (fun o _ b => m1 o (by omega) (by omega))
        refine h.set (fun o a b => c1 o (by omega) (by omega)) (fun o a b => c1 o (by omega) (by omega)) (by rw [c1 0 (by omega) (by omega)]) (by rw [c1 0 (by omega) (by omega)]) (by rw [c1 0 (by omega) (by omega)]) (by rw [c1 0 (by omega) (by omega)]; exact h.2.2.1) ⟨by rw [c2]; show _ = (((aX S).1 + 4 : Nat) : Int); omega, ?_⟩ (by rw [c1 157 (by omega) (by omega), c1 158 (by omega) (by omega), c1 159 (by omega) (by omega)]; exact h.2.2.2.2.2.2.2.2.1) (by rw [c1 161 (by omega) (by omega), c1 162 (by omega) (by omega), c1 163 (by omega) (by omega), c1 164 (by omega) (by omega)]; exact h.2.2.2.2.2.2.2.2.2.1)
        funext k
        rw [c3 k, x2]
      · have q := hM1.2.2.1
        have fo : ∀ o, 175 < o → o ≠ 178 → σ2 o = σ1 o := fun o a b => m1 o (by omega) b
        refine hM1.set (by omega) (fun o a _ b _ _ _ _ => fo o a b) (fun j _ h5 h8 _ _ _ => m2 j h5 h8) (by rw [m2 2 (by omega) (by omega)]; exact hM1.2.1) ⟨⟨by rw [m3]; show _ = (((aX S).1 + 4 : Nat) : Int); omega, ?_⟩, ?_⟩ (hM1.m8 (m2 30 (by omega) (by omega)) (fo 191 (by omega) (by omega)) (fo 192 (by omega) (by omega))) (hM1.m9 (m2 34 (by omega) (by omega)) (m2 33 (by omega) (by omega)) (fo 193 (by omega) (by omega)) (fo 194 (by omega) (by omega)))
        · funext k
          show iand (σ2 178 k) 255 = if ((aX S).1 : Int) ≤ k ∧ k < ((aX S).1 : Int) + 4 then chrJ v (k - ((aX S).1 : Int)).toNat else (aX S).2 k
          rw [m4 k]
          split
          · exact (chr_eq (by omega)).1
          · rw [← q.1.2]
        · refine ⟨by rw [m3]; omega, fun k => ?_⟩
          rw [m4 k]
          split
          · exact byt_in _ _
          · exact q.2.2 k
      · refine ⟨p1, ⟨by show (aX S).1 + 4 ≤ 80; omega, fun k k0 k1 => ?_⟩, p4, p5, by show aV S 49 ≤ _; omega, B, b1, b2, b3, ?_⟩
        · show 0 ≤ (if ((aX S).1 : Int) ≤ k ∧ k < ((aX S).1 : Int) + 4 then chrJ v (k - ((aX S).1 : Int)).toNat else (aX S).2 k) ∧ (if ((aX S).1 : Int) ≤ k ∧ k < ((aX S).1 : Int) + 4 then chrJ v (k - ((aX S).1 : Int)).toNat else (aX S).2 k) < 256
          split
          · exact (chr_eq (by omega)).2
          · exact p3 k k0 k1
        · show B + (((aX S).1 + 4 : Nat) : Int) ≤ _
          omega
  · exact JJ.n (a := -1) h hM hP (fun Q z => o_sign h.1 (by rw [x1]; omega) (by rw [x1, if_neg hv]; exact z)) (fun Q z => mo_sign hM.tm (by rw [y1]; omega) (by rw [y1, if_neg hv]; exact z))
end SETS
