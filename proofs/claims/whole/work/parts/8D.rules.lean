/-! rule, law, war, coupled -/
theorem Inv.s {c : Nat} {t : Tau} {σ σ1 σm σ2 : Mem} {S : AS} {V : Int → Int} {p : Nat} {U : Nat → Int → Int} {r : Option (List Int)} (h : CR S t σ) (h1 : CTo t σ σ1 V p U r) (hM : MRl c S t σm) (hlo : ∀ o, o < 175 → σm o = σ1 o) (h2 : MTo σm σ2 V p U r) (hP : ∀ R, PI (c + 1) (toS S V p U R)) : Inv (c + 1) t σ2 := by
  obtain ⟨c1, ⟨c2, c3, c4, c5⟩, c6, cr⟩ := h1
  obtain ⟨⟨m1, m2⟩, m3, m4, m5, mr⟩ := h2
  have lo : ∀ o, o < 175 → σ2 o = σ1 o := fun o ho => (m1 o (by omega) (by unfold scrM; omega) (by omega) (by omega)).trans (hlo o ho)
  obtain ⟨-, n1, n2, n3⟩ := h.2.1
  have go : ∀ R, rwIs σ1 R → rmIs σ2 R → Inv (c + 1) t σ2 := by
    intro R r1 r2
    have hC1 : CR (toS S V p U R) t σ1 := h.mk2 (fun o _ _ x y => c1 o x y) ⟨c2, c3.trans n1, c4.trans n2, c5⟩ c6 r1
    refine ⟨toS S V p U R, hC1.fr (fun o _ b => lo o b), ?_, hP R⟩
    exact hM.mk2 (by omega) (fun o a b c d e => m1 o (by omega) c d e) (fun j a b => m2 j a b) m3 hC1.wf m4 r2
  cases r with
  | none => exact go (aO S) (h.2.2.2.2.1.cg cr.1 cr.2) (hM.m4 mr.1 mr.2)
  | some L => exact go L cr mr
section RLS
variable {l : Launch} {g : GE} {d c : Nat} {t : Tau} {σ : Mem} {S : AS}
theorem j_war (hc : c ≤ 512) (h : CR S t σ) (hM : MRl c S t σ) (hP : PI c S) : JJ l g (d + 103) 97 220 [] c t σ := by
  have ht := h.tx hP
  have tn := h.tn
  have x2 := h.2.2.2.1.2
  have hC0 : CR (s0 S) t (up σ 1 1 0) := h.z (fun o a _ _ => up_ne a) (by simp [up_ap])
  have mz : ∀ σ1 : Mem, MRl c S t σ1 → MRl c (s0 S) t (up σ1 175 5 0) := fun σ1 m => m.z (Nat.le_refl _) (fun o a _ _ => up_ne (by omega)) (fun j a _ _ => by simp [up_ap, a]) (by simp [up_ap])
  by_cases hf : fltW (aX S).2 (aX S).1 = -1
  · generalize hw : wlF (fun E => evE E (aE S)) (aN S) (aM S) (aT S) (aX S).2 (aX S).1 (aX S).1 0 0 (aV S) = w
    have w49 := war_49 (F := fun E => evE E (aE S)) (n := aN S) (M := aM S) (T := (aX S).2) (len := (aX S).1) hP.1 (aX S).1 0 0 (aV S) h.wf (by
      have p6 := hP.2.2.2.2.1
      have p8 := hP.2.1.1
      split <;> omega)
    rw [hw] at w49
    refine JJ.mk (a := (w.1 : Int)) (KC := fun s s' => CTo t (up s 1 1 0) s' w.2.2 (if w.1 = 0 then (aP S).1 else pushP (aP S).1) (if w.1 = 0 then (aP S).2 else pushU (aP S).1 (aP S).2 (aV S)) (some [if w.2.1 then 1 else 0, w.2.2 49])) (KM := fun s s' => MTo (up s 175 5 0) s' w.2.2 (if w.1 = 0 then (aP S).1 else pushP (aP S).1) (if w.1 = 0 then (aP S).2 else pushU (aP S).1 (aP S).2 (aV S)) (some [if w.2.1 then 1 else 0, w.2.2 49])) (fun Q z => o_war h.1 h.2.1.1 (h.rc hP.1) ht h.2.2.2.2.2.2.1 (by rw [tn, x2, h.2.1.2.1, h.2.1.2.2.1, h.2.1.2.2.2, h.2.2.1, if_pos hf, hw]; exact z)) (fun σ1 e Q z => ?_) (fun σ1 σ2 e1 e2 => ?_)
    · have m1 : MRl c S t σ1 := hM.lo (fun o a => by rw [e.1 o (by unfold scr; omega) (by omega), up_ne (by omega)])
      exact mo_war m1.1.1 m1.mr (m1.tk hP.1) m1.2.2.1.2 m1.2.2.2.2.2.1 (by rw [m1.tn, m1.2.2.1.1.2, m1.1.2.1, m1.1.2.2.1, m1.1.2.2.2, m1.2.1, if_pos hf, hw]; exact z)
    · have m1 : MRl c S t σ1 := hM.lo (fun o a => by rw [e1.1 o (by unfold scr; omega) (by omega), up_ne (by omega)])
      refine Inv.s hC0 e1 (mz σ1 m1) (fun o ho => up_ne (by omega)) e2 (fun R => ?_)
      obtain ⟨p1, ⟨p2, p3⟩, p4, p5, p6, B, b1, b2, b3, b4⟩ := hP
      have hv : w.2.2 49 ≤ aV S 49 + ((aX S).1 : Int) + 1 := by
        split at w49 <;> omega
      refine ⟨p1, ⟨by show 0 ≤ 80; omega, p3⟩, p4, p5, ?_, B + ((aX S).1 : Int) + 1, ?_, fun k hk => ?_, fun i hi => ?_, ?_⟩
      · show w.2.2 49 ≤ _
        omega
      · show w.2.2 49 ≤ _
        omega
      · show (if w.1 = 0 then (aP S).2 else pushU (aP S).1 (aP S).2 (aV S)) k 49 ≤ _
        have hk' : k < (if w.1 = 0 then (aP S).1 else pushP (aP S).1) := hk
        by_cases w0 : w.1 = 0
        · rw [if_pos w0] at hk' ⊢
          have := b2 k hk'
          omega
        · rw [if_neg w0] at hk' ⊢
          have := push_49 (B := B) h.p12 b2 b1 k hk'
          omega
      · have := b3 i hi
        show (aK S).2 i 49 ≤ _
        omega
      · show B + ((aX S).1 : Int) + 1 + ((0 : Nat) : Int) ≤ _
        omega
  · refine JJ.mk (a := -1 - fltW (aX S).2 (aX S).1) (KC := fun s s' => s' = up s 1 1 0) (KM := fun s s' => QTM (up s 175 5 0) s' none) (fun Q z => o_war h.1 h.2.1.1 (h.rc hP.1) ht h.2.2.2.2.2.2.1 (by rw [tn, x2, if_neg hf]; exact z _ rfl)) (fun σ1 e Q z => ?_) (fun σ1 σ2 e1 e2 => ?_)
    · have m1 : MRl c S t σ1 := hM.lo (fun o a => by rw [e, up_ne (by omega)])
      exact mo_war m1.1.1 m1.mr (m1.tk hP.1) m1.2.2.1.2 m1.2.2.2.2.2.1 (by rw [m1.tn, m1.2.2.1.1.2, if_neg hf]; exact z)
    · have m1 : MRl c S t σ1 := hM.lo (fun o a => by rw [e1, up_ne (by omega)])
      exact Inv.q (σ := up σ1 175 5 0) (σ1 := up σ1 175 5 0) (CR.fr (σ := σ1) (by rw [e1]; exact hC0) (fun o _ b => up_ne (by omega))) QTo.rf (mz σ1 m1) e2 hP.z
theorem j_rule (h : CR S t σ) (hM : MRl c S t σ) (hP : PI c S) : JJ l g (d + 103) 88 196 [] c t σ := by
  have ht := h.tx hP
  have tn := h.tn
  have x2 := h.2.2.2.1.2
  have h6 := h.2.2.2.2.2.1
  have hr : σ 0 13 = 167 ∨ σ 0 13 = 171 := by rcases h6.1 with e | e <;> omega
  refine JJ.mk (a := if flR (aX S).2 (aX S).1 = -1 then 0 else -1 - flR (aX S).2 (aX S).1) (KC := fun s s' => RlTo s s' ∧ match rlE (aX S).2 (aX S).1 with
    | some e => (s' 0 12 = s 0 13 ∧ s' 0 13 = s 0 12) ∧ RuleIs t s' (s 0 13) (fun E => evE E e)
    | none => s' 0 12 = s 0 12 ∧ s' 0 13 = s 0 13) (KM := fun s s' => RmF s s' ∧ RuB s' ∧ match rlE (aX S).2 (aX S).1 with
    | some e => MrE s' e
    | none => RuS s s') (fun Q z => o_rule h.1 ht hr (by rw [tn, x2]; exact fun σ' a b => z σ' ⟨a, b⟩)) (fun σ1 e Q z => ?_) (fun σ1 σ2 e1 e2 => ?_)
  · have m1 : MRl c S t σ1 := hM.lo (fun o a => e.1.1 o (by omega) (by omega) (by omega) (by omega) (by omega))
    have m5 := m1.2.2.2.2.1
    exact mo_rule m1.tm m1.2.2.1.2 m5.2.2.1 m5.2.1 (by rw [m1.tn, m1.2.2.1.1.2]; exact fun σ' a b c => z σ' ⟨a, b, c⟩)
  · obtain ⟨⟨f1, f2, f3, f4⟩, f5⟩ := e1
    have m1 : MRl c S t σ1 := hM.lo (fun o a => f1 o (by omega) (by omega) (by omega) (by omega) (by omega))
    obtain ⟨⟨n1, n2, n3, n4⟩, n5, n6⟩ := e2
    have m5 := m1.2.2.2.2.1
    have q := m1.2.2.1
    have r15 : σ1 175 15 = 181 ∨ σ1 175 15 = 182 := by rcases m5.1 with e | e <;> omega
    have fo : ∀ o, (2 ≤ o ∧ o < 167) → σ1 o = σ o := fun o ho => f1 o (by omega) (by omega) (by omega) (by omega) (by omega)
    have c2 := h.c2 (σ' := σ1) (fun o a b => fo o (by omega))
    have mo : ∀ o, (176 ≤ o ∧ o < 199 ∧ o ≠ 181 ∧ o ≠ 182) → σ2 o = σ1 o := fun o ho => n1 o (by omega) (by omega)
    have mj : ∀ j : Int, (j = 1 ∨ j = 2 ∨ j = 7 ∨ j = 15 ∨ j = 16 ∨ j = 21 ∨ j = 30 ∨ j = 33 ∨ j = 34 ∨ j = 37) → σ2 175 j = σ1 175 j := fun j hj => n2 j (by omega) (by omega) (by omega) (by omega) (by omega)
    have key : ∀ e : Ex, (((σ1 0 12 = 167 ∧ σ1 0 13 = 171) ∨ (σ1 0 12 = 171 ∧ σ1 0 13 = 167)) ∧ RuleIs t σ1 (σ1 0 12) (fun E => evE E e)) → MrE σ2 e → Inv (c + 1) t σ2 := by
      intro e k1 k2
      refine ⟨(aN S, aM S, aV S, aT S, (0, (aX S).2), aO S, e, aP S, aK S, aG S, aD S), ?_, ?_, ?_⟩
      · exact CR.fr (σ := σ1) ⟨h.1, c2, by rw [f2 14 (by omega) (by omega)]; exact h.2.2.1, ⟨by rw [f4]; rfl, by rw [fo 2 (by omega)]; exact x2⟩, h.2.2.2.2.1.cg (fo 3 (by omega)) (fo 4 (by omega)), k1, h.c7 (fun o a b => fo o (by omega)) c2.2.1 c2.2.2.1, h.c8 (f2 15 (by omega) (by omega)) (fun o a b => fo o (by omega)), by rw [fo 157 (by omega), fo 158 (by omega), fo 159 (by omega)]; exact h.2.2.2.2.2.2.2.2.1, by rw [fo 161 (by omega), fo 162 (by omega), fo 163 (by omega), fo 164 (by omega)]; exact h.2.2.2.2.2.2.2.2.2.1, h.c11 (fo 127 (by omega))⟩ (fun o _ b => n1 o (by omega) (by omega))
      · refine ⟨m1.m1 (mj 1 (by omega)) (mo 176 (by omega)) (mo 177 (by omega)), by rw [mj 2 (by omega)]; exact m1.2.1, ⟨⟨by rw [n3]; rfl, ?_⟩, ?_⟩, m1.m4 (mj 7 (by omega)) (mo 179 (by omega)), ⟨by rw [mj 15 (by omega), mj 16 (by omega)]; exact m5.1, k2⟩, m1.m6 (mj 21 (by omega)) (mo 184 (by omega)), m1.m7 (by omega) (mj 37 (by omega)) (mo 196 (by omega)) (mo 197 (by omega)) (mo 198 (by omega)), m1.m8 (mj 30 (by omega)) (mo 191 (by omega)) (mo 192 (by omega)), m1.m9 (mj 34 (by omega)) (mj 33 (by omega)) (mo 193 (by omega)) (mo 194 (by omega))⟩
        · show txB σ2 = (aX S).2
          rw [← q.1.2]
          unfold txB
          rw [mo 178 (by omega)]
        · refine ⟨by rw [n3]; omega, ?_⟩
          rw [mo 178 (by omega)]
          exact q.2.2
      · exact hP.z.up
    cases hE : rlE (aX S).2 (aX S).1 with
    | some e =>
      rw [hE] at f5 n6
      obtain ⟨⟨g1, g2⟩, g3⟩ := f5
      exact key e ⟨by rw [g1, g2]; rcases h6.1 with e | e <;> omega, by rw [g1]; exact g3⟩ n6
    | none =>
      rw [hE] at f5 n6
      refine key (aE S) (h.c6 f5.1 f5.2 (fun o ho => f1 o ?_ ?_ ?_ ?_ ?_)) (m5.2.cg n6)
      · rcases h6.1 with e | e <;> omega
      · rcases h6.1 with e | e <;> omega
      · rcases h6.1 with e | e <;> omega
      · rcases h6.1 with e | e <;> omega
      · rcases h6.1 with e | e <;> omega
theorem j_law (h : CR S t σ) (hM : MRl c S t σ) (hP : PI c S) : JJ l g (d + 103) 129 275 [] c t σ := by
  have ht := h.tx hP
  have tn := h.tn
  have x2 := h.2.2.2.1.2
  have h6 := h.2.2.2.2.2.1
  have hr : (σ 0 13 = 167 ∨ σ 0 13 = 171) ∧ σ 0 12 ≠ σ 0 13 := by rcases h6.1 with e | e <;> omega
  refine JJ.mk (a := match rlE (aX S).2 (aX S).1 with
    | some e => (lsI (fun E => evE E e) (aV S) (aN S) (aN S) : Int) - lsI (fun E => evE E (aE S)) (aV S) (aN S) (aN S)
    | none => -10000 - flR (aX S).2 (aX S).1) (KC := fun s s' => LwTo s s' ∧ match rlE (aX S).2 (aX S).1 with
    | some e => rwIs s' [(lsI (fun E => evE E e) (aV S) (aN S) (aN S) : Int), (lsI (fun E => evE E (aE S)) (aV S) (aN S) (aN S) : Int)]
    | none => s' 3 = s 3 ∧ s' 4 = s 4) (KM := fun s s' => LmF s s' ∧ RuB s' ∧ match rlE (aX S).2 (aX S).1 with
    | some e => rmIs s' [(lsI (fun E => evE E e) (aV S) (aN S) (aN S) : Int), (lsI (fun E => evE E (aE S)) (aV S) (aN S) (aN S) : Int)]
    | none => s' 175 7 = s 175 7 ∧ s' 179 = s 179) (fun Q z => o_law h.1 h.2.1.1 ht (h.rc hP.1) hr (by rw [tn, x2, h.2.1.2.1, h.2.1.2.2.2]; exact fun σ' a b => z σ' ⟨a, b⟩)) (fun σ1 e Q z => ?_) (fun σ1 σ2 e1 e2 => ?_)
  · have m1 : MRl c S t σ1 := hM.lo (fun o a => e.1.1 o (by omega) (by omega) (by omega) (by omega) (by unfold scr; omega))
    have m5 := m1.2.2.2.2.1
    exact mo_law m1.1.1 m1.mr m1.2.2.1.2 m5.2.2.1 m5.1 (by rw [m1.tn, m1.2.2.1.1.2, m1.1.2.1, m1.1.2.2.2]; exact fun σ' a b c => z σ' ⟨a, b, c⟩)
  · obtain ⟨⟨f1, f2, f3⟩, f5⟩ := e1
    have m1 : MRl c S t σ1 := hM.lo (fun o a => f1 o (by omega) (by omega) (by omega) (by omega) (by unfold scr; omega))
    obtain ⟨⟨n1, n2, n3, n4⟩, n5, n6⟩ := e2
    have m5 := m1.2.2.2.2.1
    have q := m1.2.2.1
    have fo : ∀ o, (o = 0 ∨ o = 2 ∨ (5 ≤ o ∧ o ≤ 11) ∨ (26 ≤ o ∧ o ≤ 125) ∨ o = 127 ∨ (157 ≤ o ∧ o ≤ 164) ∨ o = σ 0 12 ∨ o = σ 0 12 + 1) → σ1 o = σ o := fun o ho => by
      rcases h6.1 with e | e
      · exact f1 o (by omega) (by omega) (by omega) (by omega) (by unfold scr; omega)
      · exact f1 o (by omega) (by omega) (by omega) (by omega) (by unfold scr; omega)
    have f0 := fo 0 (by omega)
    have c2 := h.c2 (σ' := σ1) (fun o a b => fo o (by omega))
    have mo : ∀ o, (o = 176 ∨ o = 177 ∨ o = 178 ∨ o = 184 ∨ (191 ≤ o ∧ o ≤ 194) ∨ (196 ≤ o ∧ o ≤ 198) ∨ o = σ1 175 15) → σ2 o = σ1 o := fun o ho => by
      rcases m5.1 with e | e
      · exact n1 o (by omega) (by omega) (by unfold scrM; omega)
      · exact n1 o (by omega) (by omega) (by unfold scrM; omega)
    have mj : ∀ j : Int, (j = 1 ∨ j = 2 ∨ j = 15 ∨ j = 16 ∨ j = 17 ∨ j = 21 ∨ j = 30 ∨ j = 33 ∨ j = 34 ∨ j = 37) → σ2 175 j = σ1 175 j := fun j hj => n2 j (by omega) (by unfold scrF; omega)
    have hE2 : MrE σ2 (aE S) := by
      obtain ⟨k1, k2, k, k3, k4, k5⟩ := m5.2
      refine ⟨by rw [mj 15 (by omega)]; exact k1, n5, k, by rw [mj 17 (by omega)]; exact k3, k4, ?_⟩
      rw [mj 15 (by omega), mo (σ1 175 15) (by omega)]
      exact k5
    have key : ∀ R : List Int, rwIs σ1 R → rmIs σ2 R → Inv (c + 1) t σ2 := by
      intro R k1 k2
      refine ⟨(aN S, aM S, aV S, aT S, (0, (aX S).2), R, aE S, aP S, aK S, aG S, aD S), ?_, ?_, ?_⟩
      · refine CR.fr (σ := σ1) ⟨h.1, c2, by rw [f0]; exact h.2.2.1, ⟨by rw [f3]; rfl, by rw [fo 2 (by omega)]; exact x2⟩, k1, h.c6 (by rw [f0]) (by rw [f0]) (fun o ho => fo o (by omega)), h.c7 (fun o a b => fo o (by omega)) c2.2.1 c2.2.2.1, h.c8 (by rw [f0]) (fun o a b => fo o (by omega)), by rw [fo 157 (by omega), fo 158 (by omega), fo 159 (by omega)]; exact h.2.2.2.2.2.2.2.2.1, by rw [fo 161 (by omega), fo 162 (by omega), fo 163 (by omega), fo 164 (by omega)]; exact h.2.2.2.2.2.2.2.2.2.1, h.c11 (fo 127 (by omega))⟩ (fun o _ b => ?_)
        rcases m5.1 with e | e
        · exact n1 o (by omega) (by omega) (by unfold scrM; omega)
        · exact n1 o (by omega) (by omega) (by unfold scrM; omega)
      · refine ⟨m1.m1 (mj 1 (by omega)) (mo 176 (by omega)) (mo 177 (by omega)), by rw [mj 2 (by omega)]; exact m1.2.1, ⟨⟨by rw [n3]; rfl, ?_⟩, ?_⟩, k2, ⟨by rw [mj 15 (by omega), mj 16 (by omega)]; exact m5.1, hE2⟩, m1.m6 (mj 21 (by omega)) (mo 184 (by omega)), m1.m7 (by omega) (mj 37 (by omega)) (mo 196 (by omega)) (mo 197 (by omega)) (mo 198 (by omega)), m1.m8 (mj 30 (by omega)) (mo 191 (by omega)) (mo 192 (by omega)), m1.m9 (mj 34 (by omega)) (mj 33 (by omega)) (mo 193 (by omega)) (mo 194 (by omega))⟩
        · show txB σ2 = (aX S).2
          rw [← q.1.2]
          unfold txB
          rw [mo 178 (by omega)]
        · refine ⟨by rw [n3]; omega, ?_⟩
          rw [mo 178 (by omega)]
          exact q.2.2
      · exact hP.z.up
    cases hE : rlE (aX S).2 (aX S).1 with
    | some e =>
      rw [hE] at f5 n6
      exact key _ f5 n6
    | none =>
      rw [hE] at f5 n6
      exact key (aO S) (h.2.2.2.2.1.cg f5.1 f5.2) (m1.m4 n6.1 n6.2)
end RLS
