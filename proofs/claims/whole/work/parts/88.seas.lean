/-! calls that change the sea, coupled -/
theorem push_49 {p : Nat} {U : Nat → Int → Int} {V : Int → Int} {B : Int} (hp : p ≤ 12) (hU : ∀ k : Nat, k < p → U k 49 ≤ B) (hV : V 49 ≤ B) : ∀ k : Nat, k < pushP p → pushU p U V k 49 ≤ B := by
  intro k hk
  unfold pushP at hk
  unfold pushU
  split
  · rename_i e
    rw [if_pos e] at hk
    split
    · exact hV
    · exact hU _ (by omega)
  · rename_i e
    rw [if_neg e] at hk
    split
    · exact hV
    · exact hU _ (by omega)
theorem pst_49 {w : Int} {p : Nat} {U : Nat → Int → Int} {V : Int → Int} {B : Int} (hp : p ≤ 12) (hU : ∀ k : Nat, k < p → U k 49 ≤ B) (hV : V 49 ≤ B) : ∀ k : Nat, k < pstP w p → pstU w p U V k 49 ≤ B := by
  unfold pstP pstU
  split
  · exact hU
  · exact push_49 hp hU hV
theorem PI.sea {c : Nat} {S : AS} {V : Int → Int} {p : Nat} {U : Nat → Int → Int} {R : List Int} (h : PI c S) (hV : ∀ B : Int, aV S 49 ≤ B → (∀ k : Nat, k < (aP S).1 → (aP S).2 k 49 ≤ B) → (∀ i : Int, (aK S).1 i = true → (aK S).2 i 49 ≤ B) → V 49 ≤ B + 4 ∧ ∀ k : Nat, k < p → U k 49 ≤ B + 4) : PI (c + 1) (toS S V p U R) := by
  obtain ⟨h1, h2, h3, h4, h5, B, b1, b2, b3, b4⟩ := h
  obtain ⟨v1, v2⟩ := hV B b1 b2 b3
  refine ⟨h1, h2, h3, h4, ?_, B + 4, v1, v2, fun i hi => ?_, ?_⟩
  · show V 49 ≤ _
    omega
  · have := b3 i hi
    show (aK S).2 i 49 ≤ B + 4
    omega
  · show B + 4 + ((aX S).1 : Int) ≤ _
    omega
theorem sh_rf {V : Int → Int} : Sh 0 V V := ⟨fun _ _ => rfl, by omega⟩
theorem yieldN_49 {n : Nat} {M V : Int → Int} {s f : Int} (hW : WFV n M V) : yieldN n V s f 49 = V 49 := by
  have n6 := hW.1
  unfold yieldN
  split
  · rename_i h
    unfold yieldV
    rw [upv_n (by omega)]
    have : ∀ k : Nat, k ≤ 4 → hoist4 V s f k 49 = V 49 := by
      intro k
      induction k with
      | zero => intro _; rfl
      | succ k ih =>
        intro hk
        show upv (hoist4 V s f k) _ _ 49 = _
        rw [upv_n (by omega)]
        exact ih (by omega)
    exact this 4 (by omega)
  · rfl
theorem days_49 {n : Nat} {M V : Int → Int} (hW : WFV n M V) : ∀ k : Nat, daysV n M V k 49 = V 49
  | 0 => rfl
  | k + 1 => by
    show dayV n M (daysV n M V k) 49 = _
    rw [((sh_rf (V := daysV n M V k)).day (wf_days hW k)).2, days_49 hW k]
theorem CR.p12 {S : AS} {t : Tau} {σ : Mem} (h : CR S t σ) : (aP S).1 ≤ 12 := h.2.2.2.2.2.2.1.1.2
section SEAS
variable {l : Launch} {g : GE} {d c : Nat} {t : Tau} {σ : Mem} {S : AS}
theorem j_fight {i j : Int} (hc : c ≤ 512) (h : CR S t σ) (hM : MRl c S t σ) (hP : PI c S) : JJ l g (d + 103) 93 208 [vI i, vI j] c t σ := by
  have ov := hP.2.2.2.2.1
  have hp := h.p12
  refine JJ.s (V := fgtV (fun E => evE E (aE S)) (aN S) (aT S) (aV S) i j) (p := pstP (winA (fun E => evE E (aE S)) (aN S) (aV S) i j) (aP S).1) (U := pstU (winA (fun E => evE E (aE S)) (aN S) (aV S) i j) (aP S).1 (aP S).2 (aV S)) (a := winA (fun E => evE E (aE S)) (aN S) (aV S) i j) (r := none) h hM (fun Q z => o_fight h.1 h.2.1.1 (h.rc hP.1) h.2.2.2.2.2.2.1 (by rw [h.2.1.2.1, h.2.1.2.2.2, h.2.2.1]; exact z)) (fun σ1 Q m z => mo_fight m.1.1 m.mr (m.tk hP.1) m.2.2.2.2.2.1 (by rw [m.1.2.1, m.1.2.2.2, m.2.1]; exact z)) (fun R => hP.sea (fun B b1 b2 b3 => ⟨?_, fun k hk => ?_⟩))
  · have := (sh_rf.fgt (by omega) h.wf (F := fun E => evE E (aE S)) (k := aT S) (i := i) (j := j) (by omega)).2
    omega
  · have := pst_49 (B := B) hp b2 b1 k hk
    omega
theorem j_sews {i s n : Int} (hc : c ≤ 512) (h : CR S t σ) (hM : MRl c S t σ) (hP : PI c S) : JJ l g (d + 103) 95 216 [vI i, vI s, vI n] c t σ := by
  have ov := hP.2.2.2.2.1
  have hp := h.p12
  refine JJ.s (V := sewN (aN S) (aV S) i s n) (p := pstP (sewA (aN S) (aV S) i s n) (aP S).1) (U := pstU (sewA (aN S) (aV S) i s n) (aP S).1 (aP S).2 (aV S)) (a := sewA (aN S) (aV S) i s n) (r := none) h hM (fun Q z => o_sews h.1 h.2.1.1 h.2.2.2.2.2.2.1 (by rw [h.2.1.2.1, h.2.1.2.2.2]; exact z)) (fun σ1 Q m z => mo_sews m.1.1 m.2.2.2.2.2.1 (by rw [m.1.2.1, m.1.2.2.2]; exact z)) (fun R => hP.sea (fun B b1 b2 b3 => ⟨?_, fun k hk => ?_⟩))
  · have := (sh_rf.sewn (by omega) h.wf (s := i) (f := s) (k := n) (by omega)).2
    omega
  · have := pst_49 (B := B) hp b2 b1 k hk
    omega
theorem j_yields {i s : Int} (h : CR S t σ) (hM : MRl c S t σ) (hP : PI c S) : JJ l g (d + 103) 96 219 [vI i, vI s] c t σ := by
  have hp := h.p12
  refine JJ.s (V := yieldN (aN S) (aV S) i s) (p := pstP (yieldA (aN S) (aV S) i s) (aP S).1) (U := pstU (yieldA (aN S) (aV S) i s) (aP S).1 (aP S).2 (aV S)) (a := yieldA (aN S) (aV S) i s) (r := none) h hM (fun Q z => o_yields h.1 h.2.1.1 h.2.2.2.2.2.2.1 (by rw [h.2.1.2.1, h.2.1.2.2.2]; exact z)) (fun σ1 Q m z => mo_yields m.1.1 m.2.2.2.2.2.1 (by rw [m.1.2.1, m.1.2.2.2]; exact z)) (fun R => hP.sea (fun B b1 b2 b3 => ⟨?_, fun k hk => ?_⟩))
  · rw [yieldN_49 h.wf]; omega
  · have := pst_49 (B := B) hp b2 b1 k hk
    omega
theorem j_undo (h : CR S t σ) (hM : MRl c S t σ) (hP : PI c S) : JJ l g (d + 103) 98 223 [] c t σ := by
  by_cases hp : (aP S).1 = 0
  · exact JJ.n (a := -1) h hM hP (fun Q z => o_undo h.1 h.2.1.1 h.2.2.2.2.2.2.1 (by rw [if_pos hp]; exact z)) (fun Q z => mo_undo hM.1.1 hM.2.2.2.2.2.1 (by rw [if_pos hp]; exact z))
  · refine JJ.s (V := (aP S).2 ((aP S).1 - 1)) (p := (aP S).1 - 1) (U := (aP S).2) (a := ((aP S).1 - 1 : Nat)) (r := none) h hM (fun Q z => o_undo h.1 h.2.1.1 h.2.2.2.2.2.2.1 (by rw [if_neg hp]; exact z)) (fun σ1 Q m z => mo_undo m.1.1 m.2.2.2.2.2.1 (by rw [if_neg hp]; exact z)) (fun R => hP.sea (fun B b1 b2 b3 => ⟨?_, fun k hk => ?_⟩))
    · have := b2 ((aP S).1 - 1) (by omega)
      omega
    · have := b2 k (by omega)
      omega
theorem j_days {m : Int} (h : CR S t σ) (hM : MRl c S t σ) (hP : PI c S) : JJ l g (d + 103) 94 213 [vI m] c t σ := by
  have hp := h.p12
  by_cases hm : 0 ≤ m ∧ m ≤ 60
  · have hW := wf_days h.wf m.toNat
    obtain ⟨e1, e2⟩ := dayR_eq hW
    refine JJ.s (V := daysV (aN S) (aM S) (aV S) m.toNat) (p := if 0 < m then pushP (aP S).1 else (aP S).1) (U := if 0 < m then pushU (aP S).1 (aP S).2 (aV S) else (aP S).2) (a := sumN (daysV (aN S) (aM S) (aV S) m.toNat) (aN S)) (r := some (dayR (aN S) (daysV (aN S) (aM S) (aV S) m.toNat))) h hM (fun Q z => o_days h.1 h.2.1.1 h.2.2.2.2.2.2.1 (by rw [if_pos hm, h.2.1.2.1, h.2.1.2.2.1, h.2.1.2.2.2]; exact z)) (fun σ1 Q w z => mo_days w.1.1 w.2.2.2.2.2.1 (by rw [if_pos hm, w.1.2.1, w.1.2.2.1, w.1.2.2.2, ← e1, ← e2]; exact z)) (fun R => hP.sea (fun B b1 b2 b3 => ⟨?_, fun k hk => ?_⟩))
    · rw [days_49 h.wf]; omega
    · by_cases m0 : 0 < m
      · rw [if_pos m0] at hk ⊢
        have := push_49 (B := B) hp b2 b1 k hk
        omega
      · rw [if_neg m0] at hk ⊢
        have := b2 k hk
        omega
  · exact JJ.n (a := -1) h hM hP (fun Q z => o_days h.1 h.2.1.1 h.2.2.2.2.2.2.1 (by rw [if_neg hm]; exact z)) (fun Q z => mo_days hM.1.1 hM.2.2.2.2.2.1 (by rw [if_neg hm]; exact z))
theorem j_count {w : Int} (h : CR S t σ) (hM : MRl c S t σ) (hP : PI c S) : JJ l g (d + 103) 133 282 [vI w] c t σ :=
  JJ.n (a := cntA (aN S) (aV S) (aT S) (aG S).1 (aD S).1 (aP S).1 (aO S).length (aX S).1 w) h hM hP (fun Q z => o_count h.1 h.2.1.1 (by rw [h.2.1.2.1, h.2.1.2.2.2, h.2.2.1, h.2.2.2.2.2.2.2.2.1.1, h.2.2.2.2.2.2.2.2.2.1.1, h.2.2.2.2.2.2.1.1.1, h.2.2.2.2.1.1, h.2.2.2.1.1]; exact z)) (fun Q z => mo_count hM.1.1 (by rw [hM.1.2.1, hM.1.2.2.2, hM.2.1, hM.2.2.2.2.2.2.2.1.1, hM.2.2.2.2.2.2.2.2.1, hM.2.2.2.2.2.1.1.1, hM.2.2.2.1.1, hM.2.2.1.1.1]; exact z))
end SEAS
