/-! rule, law, war, ships, coupled -/
theorem act_49 {F : (Int → Int) → Int} {n : Nat} {M V : Int → Int} {k : Int} {T : Int → Int} {p : Nat} (hW : WFV n M V) (hv : V 49 + 2 ≤ 9999) : (actV F n M k T p V).2 49 ≤ V 49 + 2 := by
  unfold actV
  split
  · exact (sh_rf.fgt (by omega) hW hv).2
  · split
    · show daysV n M V _ 49 ≤ _
      rw [days_49 hW]; omega
    · split
      · have := (sh_rf.sewn (by omega) hW (s := T (p + 1 : Nat) - 48) (f := T (p + 2 : Nat) - 97) (k := T (p + 3 : Nat) - 48) hv).2
        show sewN n V _ _ _ 49 ≤ _
        omega
      · show yieldN n V _ _ 49 ≤ _
        rw [yieldN_49 hW]; omega
theorem war_49 {F : (Int → Int) → Int} {n : Nat} {M : Int → Int} {k : Int} {T : Int → Int} {len : Nat} (hk : 1 ≤ k ∧ k ≤ 6) : ∀ (r p dn : Nat) (V : Int → Int), WFV n M V → V 49 + (if p < len then (len : Int) - p + 1 else 0) ≤ 9000 → (wlF F n M k T len r p dn V).2.2 49 ≤ V 49 + (if p < len then (len : Int) - p + 1 else 0)
  | 0, p, dn, V, hW, hv => by
    show V 49 ≤ _
    split <;> omega
  | r + 1, p, dn, V, hW, hv => by
    unfold wlF
    by_cases hp : p < len
    · rw [if_pos hp] at hv
      rw [if_pos hp, if_pos hp]
      have ha := act_49 (F := F) (n := n) (M := M) (k := k) (T := T) (p := p) hW (by omega)
      have hl := (lnA_b (T p)).1
      split
      · have hb : (if p + lnA (T p) < len then (len : Int) - ((p + lnA (T p) : Nat) : Int) + 1 else 0) ≤ (len : Int) - p - 1 := by
          split <;> omega
        have ih := war_49 (F := F) (n := n) (M := M) (k := k) (T := T) (len := len) hk r (p + lnA (T p)) (dn + 1) (actV F n M k T p V).2 (wf_act hW hk) (by omega)
        omega
      · show (actV F n M k T p V).2 49 ≤ _
        omega
    · rw [if_neg hp, if_neg hp]
      show V 49 ≤ _
      omega
theorem jn_49 {n : Nat} {M V T : Int → Int} : ∀ k : Nat, n + k ≤ 6 → (jnI n M V T k).2 49 = V 49
  | 0, _ => rfl
  | k + 1, hk => by
    show jnV ((n + k : Nat) : Int) (jnI n M V T k).2 _ _ 49 = _
    rw [jn_at (by omega) (by omega) ⟨by omega, by omega, by omega, by omega, by omega⟩]
    exact jn_49 k (by omega)
theorem fltS_0 {n : Nat} {X : Int → Int} : fltS n X 0 = -1 := by
  unfold fltS
  simp [fF]
section TXS
variable {l : Launch} {g : GE} {d c : Nat} {t : Tau} {σ : Mem} {S : AS}
abbrev s0 (S : AS) : AS := sS S (aT S) (0, (aX S).2) (aG S) (aD S)
theorem CR.z {σ' : Mem} (h : CR S t σ) (hf : ∀ o, o ≠ 1 → 0 ≤ o → o < 175 → σ' o = σ o) (hz : σ' 1 1 = 0) : CR (s0 S) t σ' := by
  have f : ∀ o, o ≠ 1 → 0 ≤ o → o < 175 → σ' o = σ o := hf
  exact h.set (fun o a b => f o (by omega) (by omega) (by omega)) (fun o a b => f o (by omega) (by omega) (by omega)) (by rw [f 0 (by omega) (by omega) (by omega)]) (by rw [f 0 (by omega) (by omega) (by omega)]) (by rw [f 0 (by omega) (by omega) (by omega)]) (by rw [f 0 (by omega) (by omega) (by omega)]; exact h.2.2.1) ⟨by rw [hz]; rfl, by rw [f 2 (by omega) (by omega) (by omega)]; exact h.2.2.2.1.2⟩ (by rw [f 157 (by omega) (by omega) (by omega), f 158 (by omega) (by omega) (by omega), f 159 (by omega) (by omega) (by omega)]; exact h.2.2.2.2.2.2.2.2.1) (by rw [f 161 (by omega) (by omega) (by omega), f 162 (by omega) (by omega) (by omega), f 163 (by omega) (by omega) (by omega), f 164 (by omega) (by omega) (by omega)]; exact h.2.2.2.2.2.2.2.2.2.1)
theorem MRl.z {c' : Nat} {σ' : Mem} (h : MRl c S t σ) (hc : c ≤ c') (hf : ∀ o, 175 < o → o < 199 → o ≠ 180 → σ' o = σ o) (hj : ∀ j, j ≠ 5 → j ≠ 8 → ¬ (9 ≤ j ∧ j ≤ 13) → σ' 175 j = σ 175 j) (hz : σ' 175 5 = 0) : MRl c' (s0 S) t σ' := by
  have q := h.2.2.1
  have f : ∀ o, (176 ≤ o ∧ o < 199 ∧ o ≠ 180) → σ' o = σ o := fun o ho => hf o (by omega) (by omega) (by omega)
  have j : ∀ k : Int, (k < 9 ∨ 13 < k) → k ≠ 5 → k ≠ 8 → σ' 175 k = σ 175 k := fun k a b d => hj k b d (by omega)
  refine ⟨h.m1 (j 1 (by omega) (by omega) (by omega)) (f 176 (by omega)) (f 177 (by omega)), by rw [j 2 (by omega) (by omega) (by omega)]; exact h.2.1, ⟨⟨by rw [hz]; rfl, ?_⟩, ?_⟩, h.m4 (j 7 (by omega) (by omega) (by omega)) (f 179 (by omega)), h.m5 (j 15 (by omega) (by omega) (by omega)) (j 16 (by omega) (by omega) (by omega)) (j 17 (by omega) (by omega) (by omega)) (f 181 (by omega)) (f 182 (by omega)), h.m6 (j 21 (by omega) (by omega) (by omega)) (f 184 (by omega)), h.m7 hc (j 37 (by omega) (by omega) (by omega)) (f 196 (by omega)) (f 197 (by omega)) (f 198 (by omega)), h.m8 (j 30 (by omega) (by omega) (by omega)) (f 191 (by omega)) (f 192 (by omega)), h.m9 (j 34 (by omega) (by omega) (by omega)) (j 33 (by omega) (by omega) (by omega)) (f 193 (by omega)) (f 194 (by omega))⟩
  · show txB σ' = (aX S).2
    rw [← q.1.2]
    unfold txB
    rw [f 178 (by omega)]
  · refine ⟨by rw [hz]; omega, ?_⟩
    rw [f 178 (by omega)]
    exact q.2.2
theorem PI.z (h : PI c S) : PI c (s0 S) := by
  obtain ⟨p1, ⟨p2, p3⟩, p4, p5, p6, B, b1, b2, b3, b4⟩ := h
  exact ⟨p1, ⟨by show 0 ≤ 80; omega, p3⟩, p4, p5, p6, B, b1, b2, b3, by show B + ((0 : Nat) : Int) ≤ _; omega⟩
theorem j_ships (hc : c ≤ 512) (h : CR S t σ) (hM : MRl c S t σ) (hP : PI c S) : JJ l g (d + 103) 87 189 [] c t σ := by
  have ht := h.tx hP
  have tn := h.tn
  have x2 := h.2.2.2.1.2
  by_cases hz : (aX S).1 = 0
  · refine JJ.mk (a := 0) (KC := fun s s' => ShTo t s s' 0) (KM := fun s s' => ShF s s') (fun Q z => o_ships h.1 h.2.1.1 ht (by rw [tn, hz, fltS_0, if_pos rfl]; exact fun σ' a => z σ' a)) (fun σ1 e Q z => ?_) (fun σ1 σ2 e1 e2 => ?_)
    · have m1 : MRl c S t σ1 := hM.lo (fun o a => e.1 o (by omega) (by omega))
      exact mo_ships m1.1.1.1 m1.2.2.1.2 (by rw [m1.tn, hz, if_pos rfl]; exact z)
    · have m1 : MRl c S t σ1 := hM.lo (fun o a => e1.1 o (by omega) (by omega))
      obtain ⟨v1, v2, v3, v4⟩ := h.2.1
      obtain ⟨f1, u1, u2, u3, u4, u5⟩ := e1
      have hC1 : CR (s0 S) t σ1 := by
        have e1 : nS σ1 5 = aN S := by rw [u3, v2]; rfl
        have e2 : mS σ1 5 = aM S := u4.trans v3
        have e3 : vwS σ1 5 = aV S := u5.trans v4
        have f0 := f1 0 (by omega) (by omega)
        exact ⟨h.1, ⟨u2, e1, e2, e3⟩, by rw [f0]; exact h.2.2.1, ⟨by rw [u1]; rfl, by rw [f1 2 (by omega) (by omega)]; exact x2⟩, h.2.2.2.2.1.cg (f1 3 (by omega) (by omega)) (f1 4 (by omega) (by omega)), h.c6 (by rw [f0]) (by rw [f0]) (fun o ho => f1 o (by rcases h.2.2.2.2.2.1.1 with e | e <;> omega) (by rcases h.2.2.2.2.2.1.1 with e | e <;> omega)), h.c7 (fun o a b => f1 o (by omega) (by omega)) e1 e2, h.c8 (by rw [f0]) (fun o a b => f1 o (by omega) (by omega)), by rw [f1 157 (by omega) (by omega), f1 158 (by omega) (by omega), f1 159 (by omega) (by omega)]; exact h.2.2.2.2.2.2.2.2.1, by rw [f1 161 (by omega) (by omega), f1 162 (by omega) (by omega), f1 163 (by omega) (by omega), f1 164 (by omega) (by omega)]; exact h.2.2.2.2.2.2.2.2.2.1, h.c11 (f1 127 (by omega) (by omega))⟩
      exact ⟨s0 S, hC1.fr (fun o _ b => e2.1 o (by omega) (by omega)), m1.z (by omega) (fun o a _ b => e2.1 o (by omega) b) e2.2.1 e2.2.2.1, hP.z.up⟩
  · by_cases hf : fltS (aN S) (aX S).2 (aX S).1 = -1
    · have hL : 1 ≤ ((aX S).1 + 1) / 3 := by
        have : ¬ (aX S).1 = 1 := by
          intro e1
          rw [e1] at hf
          unfold fltS at hf
          split at hf
          · rename_i a
            exact a hf
          · rw [if_pos (by decide)] at hf
            have : ((min 1 17 : Nat) : Int) = 1 := rfl
            omega
        omega
      refine JJ.mk (a := (((aX S).1 + 1) / 3 : Nat)) (KC := fun s s' => ∃ s1, ShTo t s s1 (((aX S).1 + 1) / 3) ∧ s' = up (up s1 26 2 0) 0 15 0) (KM := fun s s' => ShM s s' (aX S).2 (((aX S).1 + 1) / 3)) (fun Q z => o_ships h.1 h.2.1.1 ht (by rw [tn, x2, h.2.1.2.1, if_pos hf]; exact fun σ' a => z _ ⟨σ', a, by unfold shEnd; rw [if_neg (by omega)]⟩)) (fun σ1 e Q z => ?_) (fun σ1 σ2 e1 e2 => ?_)
      · obtain ⟨s1, k1, k2⟩ := e
        have m1 : MRl c S t σ1 := hM.lo (fun o a => by rw [k2, up_ne (by omega), up_ne (by omega)]; exact k1.1 o (by omega) (by omega))
        exact mo_ships m1.1.1.1 m1.2.2.1.2 (by rw [m1.tn, m1.1.2.1, m1.2.2.1.1.2, if_neg hz, if_pos hf]; exact z)
      · obtain ⟨τ, ⟨f0, u1, u2, u3, u4, u5⟩, k2⟩ := e1
        have f1 : ∀ o, (o < 5 ∨ 11 < o) → o ≠ 1 → o ≠ 0 → o ≠ 26 → σ1 o = σ o := fun o a b c d => by rw [k2, up_ne c, up_ne d]; exact f0 o a b
        have m1 : MRl c S t σ1 := hM.lo (fun o a => f1 o (by omega) (by omega) (by omega) (by omega))
        have f5 : ∀ o, 1 ≤ o → o ≤ 11 → σ1 o = τ o := fun o a b => by rw [k2, up_ne (by omega), up_ne (by omega)]
        have hh : ∀ o, 5 ≤ o → o ≤ 5 + 6 → σ1 o = τ o := fun o a b => f5 o (by omega) (by omega)
        obtain ⟨w1, w2, w3⟩ := sea_cg hh
        obtain ⟨v1, v2, v3, v4⟩ := h.2.1
        obtain ⟨n1, n2, n3, n4, n5, n6, n7, n8⟩ := e2
        obtain ⟨p1, ⟨p2, p3⟩, p4, p5, p6, B, b1, b2, b3, b4⟩ := hP.up
        have g0 : ∀ j, j ≠ 15 → σ1 0 j = σ 0 j := fun j hj => by
          rw [k2]
          simp [up_ap, hj]
          rw [f0 0 (by omega) (by omega)]
        have e1 : nS σ1 5 = aN S + ((aX S).1 + 1) / 3 := by rw [w1, u3, v2]
        have e2 : mS σ1 5 = (jnI (aN S) (aM S) (aV S) (aX S).2 (((aX S).1 + 1) / 3)).1 := by rw [w2, u4, v2, v3, v4, x2]
        have e3 : vwS σ1 5 = (jnI (aN S) (aM S) (aV S) (aX S).2 (((aX S).1 + 1) / 3)).2 := by rw [w3, u5, v2, v3, v4, x2]
        have ok5 := seaok_cg hh u2
        have hW := ok5.2.2
        rw [e1, e2, e3] at hW
        have n6' := hW.1
        obtain ⟨⟨z1, z2⟩, z3, z4, z5⟩ := h.2.2.2.2.2.2.1
        refine ⟨(aN S + ((aX S).1 + 1) / 3, (jnI (aN S) (aM S) (aV S) (aX S).2 (((aX S).1 + 1) / 3)).1, (jnI (aN S) (aM S) (aV S) (aX S).2 (((aX S).1 + 1) / 3)).2, aT S, (0, (aX S).2), aO S, aE S, (0, (aP S).2), (fun _ => false, (aK S).2), aG S, aD S), ?_, ?_, ?_⟩
        · refine CR.fr (σ := σ1) ⟨h.1, ⟨ok5, e1, e2, e3⟩, by rw [g0 14 (by omega)]; exact h.2.2.1, ⟨by rw [f5 1 (by omega) (by omega), u1]; rfl, by rw [f1 2 (by omega) (by omega) (by omega) (by omega)]; exact x2⟩, h.2.2.2.2.1.cg (f1 3 (by omega) (by omega) (by omega) (by omega)) (f1 4 (by omega) (by omega) (by omega) (by omega)), h.c6 (g0 12 (by omega)) (g0 13 (by omega)) (fun o ho => f1 o ?_ ?_ ?_ ?_), ⟨⟨by rw [k2]; simp [up_ap], by show 0 ≤ 12; omega⟩, ?_, ?_, fun k hk => absurd hk (Nat.not_lt_zero k)⟩, ⟨by rw [k2]; simp [up_ap, kBt], fun i _ hb => (by cases hb)⟩, by rw [f1 157 (by omega) (by omega) (by omega) (by omega), f1 158 (by omega) (by omega) (by omega) (by omega), f1 159 (by omega) (by omega) (by omega) (by omega)]; exact h.2.2.2.2.2.2.2.2.1, by rw [f1 161 (by omega) (by omega) (by omega) (by omega), f1 162 (by omega) (by omega) (by omega) (by omega), f1 163 (by omega) (by omega) (by omega) (by omega), f1 164 (by omega) (by omega) (by omega) (by omega)]; exact h.2.2.2.2.2.2.2.2.2.1, h.c11 (f1 127 (by omega) (by omega) (by omega) (by omega))⟩ (fun o _ b => n1 o (by omega) (by omega) (by omega) (by omega))
          · rcases h.2.2.2.2.2.1.1 with e | e <;> omega
          · rcases h.2.2.2.2.2.1.1 with e | e <;> omega
          · rcases h.2.2.2.2.2.1.1 with e | e <;> omega
          · rcases h.2.2.2.2.2.1.1 with e | e <;> omega
          · rw [k2]
            simp [up_ap]
            rw [f0 26 (by omega) (by omega)]
            exact z3
          · intro k a b
            rw [f1 27 (by omega) (by omega) (by omega) (by omega)]
            exact z4 k a b
        · have f2 : ∀ o, (o = 178 ∨ o = 179 ∨ o = 181 ∨ o = 182 ∨ (191 ≤ o ∧ o ≤ 198)) → σ2 o = σ1 o := fun o ho => n1 o (by omega) (by omega) (by omega) (by omega)
          have j2 : ∀ j : Int, (j = 2 ∨ j = 7 ∨ j = 15 ∨ j = 16 ∨ j = 17 ∨ j = 30 ∨ j = 33 ∨ j = 34) → σ2 175 j = σ1 175 j := fun j hj => n2 j (by omega) (by omega) (by omega) (by omega) (by omega) (by omega)
          obtain ⟨g1, g2, g3, g4⟩ := m1.1
          obtain ⟨⟨q1, q2⟩, q3⟩ := m1.2.2.2.2.2.2.1
          have q := m1.2.2.1
          have en : nM σ2 = aN S + ((aX S).1 + 1) / 3 := by unfold nM; rw [n4, Int.toNat_natCast, g2]
          have em : mM σ2 = (jnI (aN S) (aM S) (aV S) (aX S).2 (((aX S).1 + 1) / 3)).1 := by rw [n5, g2, g3, g4]
          have ev : vA σ2 176 = (jnI (aN S) (aM S) (aV S) (aX S).2 (((aX S).1 + 1) / 3)).2 := by rw [n6, g2, g3, g4]
          have e37 : σ2 175 37 = σ1 175 37 + 1 := by rw [n8, w32_id (by omega) (by omega)]
          refine ⟨⟨⟨⟨g1.1.1, by rw [en, n4, g2], by rw [en]; exact n6'⟩, by rw [en, em, ev]; exact hW⟩, en, em, ev⟩, by rw [j2 2 (by omega)]; exact m1.2.1, ⟨⟨by rw [n3.1]; rfl, ?_⟩, ?_⟩, m1.m4 (j2 7 (by omega)) (f2 179 (by omega)), m1.m5 (j2 15 (by omega)) (j2 16 (by omega)) (j2 17 (by omega)) (f2 181 (by omega)) (f2 182 (by omega)), ⟨⟨by rw [n7]; rfl, by show 0 ≤ 12; omega⟩, fun k hk => absurd hk (Nat.not_lt_zero k)⟩, ⟨by rw [e37]; omega, fun i hi => ?_⟩, m1.m8 (j2 30 (by omega)) (f2 191 (by omega)) (f2 192 (by omega)), m1.m9 (j2 34 (by omega)) (j2 33 (by omega)) (f2 193 (by omega)) (f2 194 (by omega))⟩
          · show txB σ2 = (aX S).2
            rw [← q.1.2]
            unfold txB
            rw [f2 178 (by omega)]
          · refine ⟨by rw [n3.1]; omega, ?_⟩
            rw [f2 178 (by omega)]
            exact q.2.2
          · obtain ⟨r1, r2, r3⟩ := q3 i hi
            rw [e37, f2 198 (by omega), f2 197 (by omega)]
            refine ⟨by omega, ⟨fun z => (by cases z), fun z => (by have := z.2; omega)⟩, fun z => (by cases z)⟩
        · have e49 : (jnI (aN S) (aM S) (aV S) (aX S).2 (((aX S).1 + 1) / 3)).2 49 = aV S 49 := jn_49 _ n6'
          refine ⟨p1, ⟨by show 0 ≤ 80; omega, p3⟩, p4, p5, ?_, B, ?_, fun k hk => absurd hk (Nat.not_lt_zero k), fun i hi => (by cases hi), ?_⟩
          · show (jnI (aN S) (aM S) (aV S) (aX S).2 (((aX S).1 + 1) / 3)).2 49 ≤ _
            rw [e49]; exact p6
          · show (jnI (aN S) (aM S) (aV S) (aX S).2 (((aX S).1 + 1) / 3)).2 49 ≤ _
            rw [e49]; exact b1
          · show B + ((0 : Nat) : Int) ≤ _
            have : B + ((aX S).1 : Int) ≤ 4 * ((c + 1 : Nat) : Int) := b4
            omega
    · refine JJ.mk (a := -1 - fltS (aN S) (aX S).2 (aX S).1) (KC := fun s s' => s' = up s 1 1 0) (KM := fun s s' => ShF s s') (fun Q z => o_ships h.1 h.2.1.1 ht (by rw [tn, x2, h.2.1.2.1, if_neg hf]; exact z _ rfl)) (fun σ1 e Q z => ?_) (fun σ1 σ2 e1 e2 => ?_)
      · have m1 : MRl c S t σ1 := hM.lo (fun o a => by rw [e, up_ne (by omega)])
        exact mo_ships m1.1.1.1 m1.2.2.1.2 (by rw [m1.tn, m1.1.2.1, m1.2.2.1.1.2, if_neg hz, if_neg hf]; exact z)
      · have m1 : MRl c S t σ1 := hM.lo (fun o a => by rw [e1, up_ne (by omega)])
        refine ⟨s0 S, CR.fr (σ := σ1) (h.z (fun o a _ _ => by rw [e1, up_ne a]) (by rw [e1]; simp [up_ap])) (fun o _ b => e2.1 o (by omega) (by omega)), m1.z (by omega) (fun o a _ b => e2.1 o (by omega) b) e2.2.1 e2.2.2.1, hP.z.up⟩
end TXS
