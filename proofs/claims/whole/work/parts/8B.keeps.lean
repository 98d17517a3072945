/-! sheet, years, keep, again, coupled -/
theorem Inv.q {c : Nat} {t : Tau} {σ σ1 σ2 : Mem} {S : AS} {r : Option (List Int)} (h : CR S t σ) (h1 : QTo σ σ1 r) (hM : MRl c S t σ1) (h2 : QTM σ1 σ2 r) (hP : PI c S) : Inv (c + 1) t σ2 := by
  have lo : ∀ o, o < 175 → σ2 o = σ1 o := fun o ho => h2.1.lo ho
  cases r with
  | none =>
    obtain ⟨c1, c3, c4⟩ := h1
    obtain ⟨m1, m8, m7, m9⟩ := h2
    refine ⟨S, ?_, ?_, hP.up⟩
    · exact h.cg (R := aO S) (fun o a b c => (lo o b).trans (c1 o c)) (h.2.2.2.2.1.cg ((lo 3 (by omega)).trans c3) ((lo 4 (by omega)).trans c4))
    · exact hM.cg (R := aO S) (by omega) (fun o a b c => m1.1 o (by omega) c) m1.2 (hM.m4 m7 m9)
  | some L =>
    obtain ⟨c1, cr⟩ := h1
    obtain ⟨m1, m8, mr⟩ := h2
    refine ⟨toS S (aV S) (aP S).1 (aP S).2 L, ?_, ?_, hP.up⟩
    · exact h.cg (R := L) (fun o a b c => (lo o b).trans (c1 o c)) (rwIs.cg cr (lo 3 (by omega)) (lo 4 (by omega)))
    · exact hM.cg (R := L) (by omega) (fun o a b c => m1.1 o (by omega) c) m1.2 mr
theorem shN_49 {n : Nat} {M V : Int → Int} {k a f st : Int} (hn : n ≤ 6) : shN n M V k a f st 49 = V 49 := by
  unfold shN
  split
  · have : ∀ m : Nat, m ≤ 6 → shV M V k a f st m 49 = V 49 := by
      intro m
      induction m with
      | zero => intro _; rfl
      | succ m ih =>
        intro hm
        show upv (shV M V k a f st m) m _ 49 = _
        rw [upv_n (by omega)]
        exact ih (by omega)
    exact this n hn
  · rfl
theorem kb_and {b : Int → Bool} {i : Int} (hi : i = 0 ∨ i = 1) : iand (kBt b) (ishl 1 i) ≠ 0 ↔ b i = true := by
  rcases hi with rfl | rfl
  · cases h0 : b 0 <;> cases h1 : b 1 <;> (unfold kBt; rw [h0, h1, ishl_eq, iand_eq]; decide +kernel)
  · cases h0 : b 0 <;> cases h1 : b 1 <;> (unfold kBt; rw [h0, h1, ishl_eq, iand_eq]; decide +kernel)
theorem kb_or {b : Int → Bool} {i : Int} (hi : i = 0 ∨ i = 1) : ior (kBt b) (ishl 1 i) = kBt (fun j => if j = i then true else b j) := by
  rcases hi with rfl | rfl
  · cases h0 : b 0 <;> cases h1 : b 1 <;> (unfold kBt; simp only [h0, h1]; rw [ishl_eq, ior_eq]; decide +kernel)
  · cases h0 : b 0 <;> cases h1 : b 1 <;> (unfold kBt; simp only [h0, h1]; rw [ishl_eq, ior_eq]; decide +kernel)
section KPS
variable {l : Launch} {g : GE} {d c : Nat} {t : Tau} {σ : Mem} {S : AS}
theorem j_sheet {k n f st : Int} (hf : b32 f) (h : CR S t σ) (hM : MRl c S t σ) (hP : PI c S) : JJ l g (d + 103) 92 202 [vI k, vI n, vI f, vI st] c t σ := by
  refine JJ.mk (a := shA (aN S) (aM S) (aV S) k n f st) (KC := fun s s' => SeaTo t s s' 5 (shN (aN S) (aM S) (aV S) k n f st)) (KM := fun s s' => RowTo (up s 175 8 0) s' 176 (shN (aN S) (aM S) (aV S) k n f st)) (fun Q z => o_sheet h.1 h.2.1.1 (by rw [h.2.1.2.1, h.2.1.2.2.1, h.2.1.2.2.2]; exact z)) (fun σ1 e Q z => ?_) (fun σ1 σ2 e1 e2 => ?_)
  · have m1 : MRl c S t σ1 := hM.lo (fun o a => e.1 o (by omega))
    exact mo_sheet hf m1.1.1 (by rw [m1.1.2.1, m1.1.2.2.1, m1.1.2.2.2]; exact z)
  · have m1 : MRl c S t σ1 := hM.lo (fun o a => e1.1 o (by omega))
    obtain ⟨x, s1, s2, s3, s4⟩ := e1
    obtain ⟨r1, r2⟩ := e2
    obtain ⟨k1, k2, k3, k4⟩ := h.2.1
    have f2 : ∀ o, o ≠ 175 → o ≠ 176 → σ2 o = σ1 o := fun o a b => by rw [r1 o b, up_ne a]
    have j2 : ∀ j, j ≠ 8 → σ2 175 j = σ1 175 j := fun j a => by rw [r1 175 (by omega)]; simp [up_ap, a]
    have hC1 : CR (toS S (shN (aN S) (aM S) (aV S) k n f st) (aP S).1 (aP S).2 (aO S)) t σ1 := h.mk2 (fun o _ _ _ a => x o (by omega)) ⟨s1, s2.trans k2, s3.trans k3, s4⟩ (h.c7 (fun o a b => x o (by omega)) (s2.trans k2) (s3.trans k3)) (h.2.2.2.2.1.cg (x 3 (by omega)) (x 4 (by omega)))
    refine ⟨_, hC1.fr (fun o _ b => f2 o (by omega) (by omega)), ?_, ?_⟩
    · exact m1.mk2 (by omega) (fun o a b c d e => f2 o (by omega) d) (fun j a _ => j2 j (fun z => a (by unfold scrF; omega))) r2 hC1.wf (m1.m6 (j2 21 (by omega)) (f2 184 (by omega) (by omega))) (m1.m4 (j2 7 (by omega)) (f2 179 (by omega) (by omega)))
    · refine hP.sea (fun B b1 b2 b3 => ⟨?_, fun k hk => ?_⟩)
      · rw [shN_49 h.wf.1]; omega
      · have := b2 k hk
        omega
theorem j_years {R m : Int} (hc : c ≤ 512) (h : CR S t σ) (hM : MRl c S t σ) (hP : PI c S) : JJ l g (d + 103) 130 277 [vI R, vI m] c t σ := by
  have ov := hP.2.2.2.2.1
  by_cases hm : 1 ≤ m ∧ m ≤ 60
  · have e := yrs_eq (F := fun E => evE E (aE S)) (R := R) (m := m.toNat) h.wf hP.1 (by omega) (by omega)
    refine JJ.mk (a := (yrsMQ (aN S) (yrsV (fun E => evE E (aE S)) (aN S) (aM S) (aT S) R (upv (aV S) 49 0) m.toNat).2).1) (KC := fun s s' => QTo (up s 0 16 (yrsV (fun E => evE E (aE S)) (aN S) (aM S) (aT S) R (aV S) m.toNat).1) s' (yrsMQ (aN S) (yrsV (fun E => evE E (aE S)) (aN S) (aM S) (aT S) R (upv (aV S) 49 0) m.toNat).2).2) (KM := fun s s' => QTM s s' (yrsMQ (aN S) (yrsV (fun E => evE E (aE S)) (aN S) (aM S) (aT S) R (upv (aV S) 49 0) m.toNat).2).2) (fun Q z => o_years h.1 h.2.1.1 (h.rc hP.1) (by rw [if_pos hm, h.2.1.2.1, h.2.1.2.2.1, h.2.1.2.2.2, h.2.2.1, e]; exact z)) (fun σ1 e1 Q z => ?_) (fun σ1 σ2 e1 e2 => ?_)
    · have m1 : MRl c S t σ1 := hM.lo (fun o a => by rw [e1.1.hi a, up_ne (by omega)])
      exact mo_years m1.1.1 m1.mr (m1.tk hP.1) (by rw [if_pos hm, m1.1.2.1, m1.1.2.2.1, m1.1.2.2.2, m1.2.1]; exact z)
    · have m1 : MRl c S t σ1 := hM.lo (fun o a => by rw [e1.1.hi a, up_ne (by omega)])
      have hC0 : CR S t (up σ 0 16 (yrsV (fun E => evE E (aE S)) (aN S) (aM S) (aT S) R (aV S) m.toNat).1) := h.set (T := aT S) (X := aX S) (G := aG S) (D := aD S) (fun o a b => up_ne (by omega)) (fun o a b => up_ne (by omega)) (by simp [up_ap]) (by simp [up_ap]) (by simp [up_ap]) (by simp [up_ap]; exact h.2.2.1) (by rw [up_ne (by omega), up_ne (by omega)]; exact h.2.2.2.1) (by rw [up_ne (by omega), up_ne (by omega), up_ne (by omega)]; exact h.2.2.2.2.2.2.2.2.1) (by rw [up_ne (by omega), up_ne (by omega), up_ne (by omega), up_ne (by omega)]; exact h.2.2.2.2.2.2.2.2.2.1)
      exact Inv.q hC0 e1 m1 e2 hP
  · exact JJ.q (q := (-1, none)) h hM hP (fun Q z => o_years h.1 h.2.1.1 (h.rc hP.1) (by rw [if_neg hm]; exact z σ QTo.rf)) (fun σ1 Q m z => mo_years m.1.1 m.mr (m.tk hP.1) (by rw [if_neg hm]; exact z))
theorem j_again {i : Int} (h : CR S t σ) (hM : MRl c S t σ) (hP : PI c S) : JJ l g (d + 103) 132 279 [vI i] c t σ := by
  obtain ⟨k1, k2⟩ := h.2.2.2.2.2.2.2.1
  obtain ⟨-, m2⟩ := hM.2.2.2.2.2.2.1
  by_cases hi : i = 0 ∨ i = 1
  · cases hb : (aK S).1 i with
    | true =>
      obtain ⟨s1, s2, s3, s4⟩ := k2 i hi hb
      have hcn : (0 ≤ i ∧ i < 2) ∧ iand (σ 0 15) (ishl 1 i) ≠ 0 := ⟨by omega, by rw [k1]; exact (kb_and hi).mpr hb⟩
      refine JJ.s (V := (aK S).2 i) (p := 0) (U := (aP S).2) (a := 1) (r := none) h hM (fun Q z => o_again h.1 h.2.1.1 h.2.2.2.2.2.2.1 (by rw [if_pos hcn, s4]; exact ⟨⟨s1, s2.trans h.2.1.2.1.symm, s3.trans h.2.1.2.2.1.symm⟩, z⟩)) (fun σ1 Q m z => ?_) (fun R => hP.sea (fun B b1 b2 b3 => ⟨?_, fun k hk => absurd hk (Nat.not_lt_zero k)⟩))
      · obtain ⟨q1, q2, q3⟩ := m.2.2.2.2.2.2.1.2 i hi
        have := q2.mp hb
        exact mo_again m.1.1 m.2.2.2.2.2.1 (by rw [if_pos ⟨by omega, this⟩, q3 hb]; exact z)
      · have := b3 i hb
        omega
    | false =>
      have hcn : ¬ ((0 ≤ i ∧ i < 2) ∧ iand (σ 0 15) (ishl 1 i) ≠ 0) := fun z => by
        rw [k1] at z
        have := (kb_and hi).mp z.2
        rw [hb] at this
        cases this
      have hcm : ¬ ((0 ≤ i ∧ i ≤ 1) ∧ σ 197 i ≠ 0 ∧ σ 198 i = σ 175 37) := fun z => by
        have := (m2 i hi).2.1.mpr z.2
        rw [hb] at this
        cases this
      exact JJ.n (a := 0) h hM hP (fun Q z => o_again h.1 h.2.1.1 h.2.2.2.2.2.2.1 (by rw [if_neg hcn]; exact z)) (fun Q z => mo_again hM.1.1 hM.2.2.2.2.2.1 (by rw [if_neg hcm]; exact z))
  · exact JJ.n (a := 0) h hM hP (fun Q z => o_again h.1 h.2.1.1 h.2.2.2.2.2.2.1 (by rw [if_neg (fun z => hi (by omega))]; exact z)) (fun Q z => mo_again hM.1.1 hM.2.2.2.2.2.1 (by rw [if_neg (fun z => hi (by omega))]; exact z))
theorem j_keep {i : Int} (h : CR S t σ) (hM : MRl c S t σ) (hP : PI c S) : JJ l g (d + 103) 131 278 [vI i] c t σ := by
  by_cases hi : i = 0 ∨ i = 1
  · refine JJ.mk (a := 1) (KC := fun s s' => (∀ o, o ≠ 0 → (o < 112 + 7 * i ∨ 112 + 7 * i + 6 < o) → s' o = s o) ∧ (∀ j, j ≠ 15 → s' 0 j = s 0 j) ∧ s' 0 15 = ior (s 0 15) (ishl 1 i) ∧ (SeaOk t s' (112 + 7 * i) ∧ nS s' (112 + 7 * i) = nS s 5 ∧ mS s' (112 + 7 * i) = mS s 5 ∧ vwS s' (112 + 7 * i) = vwS s 5)) (KM := fun s s' => (∀ o, o ≠ 175 → o ≠ 196 → o ≠ 197 → o ≠ 198 → s' o = s o) ∧ (∀ j, j ≠ 8 → s' 175 j = s 175 j) ∧ s' 197 = up s 197 i 1 197 ∧ s' 198 = up s 198 i (s 175 37) 198 ∧ sgA (s' 196) i = vA s 176 ∧ sgA (s' 196) (1 - i) = sgA (s 196) (1 - i)) (fun Q z => o_keep h.1 h.2.1.1 (by rw [if_pos (by omega)]; exact fun σ' a b c d => z σ' ⟨a, b, c, d⟩)) (fun σ1 e Q z => ?_) (fun σ1 σ2 e1 e2 => ?_)
    · have m1 : MRl c S t σ1 := hM.lo (fun o a => e.1 o (by omega) (by omega))
      exact mo_keep m1.1.1 (by rw [if_pos (by omega)]; exact fun σ' a b _ c d e f => z σ' ⟨a, b, c, d, e, f⟩)
    · obtain ⟨c1, c2, c3, s1, s2, s3, s4⟩ := e1
      have m1 : MRl c S t σ1 := hM.lo (fun o a => c1 o (by omega) (by omega))
      obtain ⟨n1, n2, n3, n4, n5, n6⟩ := e2
      obtain ⟨k1, k2⟩ := h.2.2.2.2.2.2.2.1
      obtain ⟨v1, v2, v3, v4⟩ := h.2.1
      obtain ⟨p1, p2, p3, p4, p6, B, b1, b2, b3, b4⟩ := hP.up
      have f1 : ∀ o, o ≠ 0 → (o < 112 ∨ 125 < o) → σ1 o = σ o := fun o a b => c1 o a (by omega)
      have g0 : σ1 0 15 = kBt (fun j => if j = i then true else (aK S).1 j) := by rw [c3, k1, kb_or hi]
      refine ⟨(aN S, aM S, aV S, aT S, aX S, aO S, aE S, aP S, (fun j => if j = i then true else (aK S).1 j, fun j => if j = i then aV S else (aK S).2 j), aG S, aD S), ?_, ?_, ?_⟩
      · have d2 := h.c2 (σ' := σ1) (fun o a b => f1 o (by omega) (by omega))
        refine CR.fr (σ := σ1) ⟨h.1, d2, by rw [c2 14 (by omega)]; exact h.2.2.1, by rw [f1 1 (by omega) (by omega), f1 2 (by omega) (by omega)]; exact h.2.2.2.1, h.2.2.2.2.1.cg (f1 3 (by omega) (by omega)) (f1 4 (by omega) (by omega)), h.c6 (c2 12 (by omega)) (c2 13 (by omega)) (fun o ho => f1 o ?_ ?_), h.c7 (fun o a b => f1 o (by omega) (by omega)) d2.2.1 d2.2.2.1, ⟨g0, fun j hj hb => ?_⟩, by rw [f1 157 (by omega) (by omega), f1 158 (by omega) (by omega), f1 159 (by omega) (by omega)]; exact h.2.2.2.2.2.2.2.2.1, by rw [f1 161 (by omega) (by omega), f1 162 (by omega) (by omega), f1 163 (by omega) (by omega), f1 164 (by omega) (by omega)]; exact h.2.2.2.2.2.2.2.2.2.1, h.c11 (f1 127 (by omega) (by omega))⟩ (fun o _ b => n1 o (by omega) (by omega) (by omega) (by omega))
        · rcases h.2.2.2.2.2.1.1 with e | e <;> omega
        · rcases h.2.2.2.2.2.1.1 with e | e <;> omega
        · by_cases e : j = i
          · subst e
            refine ⟨s1, s2.trans v2, s3.trans v3, ?_⟩
            show _ = if j = j then aV S else (aK S).2 j
            rw [if_pos rfl]
            exact s4.trans v4
          · have hb' : (if j = i then true else (aK S).1 j) = true := hb
            rw [if_neg e] at hb'
            obtain ⟨w1, w2, w3, w4⟩ := k2 j hj hb'
            have hh : ∀ o, 112 + 7 * j ≤ o → o ≤ 112 + 7 * j + 6 → σ1 o = σ o := fun o a b => c1 o (by omega) (by omega)
            obtain ⟨u1, u2, u3⟩ := sea_cg hh
            refine ⟨seaok_cg hh w1, u1.trans w2, u2.trans w3, ?_⟩
            show _ = if j = i then aV S else (aK S).2 j
            rw [if_neg e]
            exact u3.trans w4
      · have f2 : ∀ o, 175 < o → o < 196 → σ2 o = σ1 o := fun o a b => n1 o (by omega) (by omega) (by omega) (by omega)
        obtain ⟨⟨q1, q2⟩, q3⟩ := m1.2.2.2.2.2.2.1
        refine ⟨m1.m1 (n2 1 (by omega)) (f2 176 (by omega) (by omega)) (f2 177 (by omega) (by omega)), by rw [n2 2 (by omega)]; exact m1.2.1, m1.m3 (n2 5 (by omega)) (f2 178 (by omega) (by omega)), m1.m4 (n2 7 (by omega)) (f2 179 (by omega) (by omega)), m1.m5 (n2 15 (by omega)) (n2 16 (by omega)) (n2 17 (by omega)) (f2 181 (by omega) (by omega)) (f2 182 (by omega) (by omega)), m1.m6 (n2 21 (by omega)) (f2 184 (by omega) (by omega)), ⟨by rw [n2 37 (by omega)]; omega, fun j hj => ?_⟩, m1.m8 (n2 30 (by omega)) (f2 191 (by omega) (by omega)) (f2 192 (by omega) (by omega)), m1.m9 (n2 34 (by omega)) (n2 33 (by omega)) (f2 193 (by omega) (by omega)) (f2 194 (by omega) (by omega))⟩
        show σ2 198 j ≤ σ2 175 37 ∧ ((if j = i then true else (aK S).1 j) = true ↔ σ2 197 j ≠ 0 ∧ σ2 198 j = σ2 175 37) ∧ ((if j = i then true else (aK S).1 j) = true → sgA (σ2 196) j = if j = i then aV S else (aK S).2 j)
        rw [n2 37 (by omega), n3, n4]
        by_cases e : j = i
        · subst e
          simp [up_ap]
          exact n5.trans m1.1.2.2.2
        · have e9 : j = 1 - i := by omega
          obtain ⟨w1, w2, w3⟩ := q3 j hj
          simp only [up_ap, e, and_false, if_false]
          refine ⟨w1, w2, fun hb => ?_⟩
          rw [e9, n6, ← e9]
          exact w3 hb
      · refine ⟨p1, p2, p3, p4, p6, B, b1, b2, fun j hj => ?_, b4⟩
        show (if j = i then aV S else (aK S).2 j) 49 ≤ B
        by_cases e : j = i
        · rw [if_pos e]; exact b1
        · rw [if_neg e]
          have hb' : (if j = i then true else (aK S).1 j) = true := hj
          rw [if_neg e] at hb'
          exact b3 j hb'
  · exact JJ.n (a := 0) h hM hP (fun Q z => o_keep h.1 h.2.1.1 (by rw [if_neg (fun z => hi (by omega))]; exact z)) (fun Q z => mo_keep hM.1.1 (by rw [if_neg (fun z => hi (by omega))]; exact z))
end KPS
