/-! questions of both -/
theorem CR.rc {S : AS} {t : Tau} {σ : Mem} (h : CR S t σ) (k : 1 ≤ aT S ∧ aT S ≤ 6) : RC t σ (fun E => evE E (aE S)) := ⟨by rcases h.2.2.2.2.2.1.1 with e | e <;> omega, h.2.2.2.2.2.1.2, by rw [h.2.2.1]; exact k⟩
theorem MRl.tk {c : Nat} {S : AS} {t : Tau} {σ : Mem} (h : MRl c S t σ) (k : 1 ≤ aT S ∧ aT S ≤ 6) : 1 ≤ σ 175 2 ∧ σ 175 2 ≤ 6 := by rw [h.2.1]; exact k
theorem MRl.mr {c : Nat} {S : AS} {t : Tau} {σ : Mem} (h : MRl c S t σ) : MR t σ (fun E => evE E (aE S)) := MR_of h.2.2.2.2.1.2
theorem MRl.tm {c : Nat} {S : AS} {t : Tau} {σ : Mem} (h : MRl c S t σ) : TM t := h.1.1.1.1
section ASKS
variable {l : Launch} {g : GE} {d c : Nat} {t : Tau} {σ : Mem} {S : AS}
theorem j_fleet {s : Int} (h : CR S t σ) (hM : MRl c S t σ) (hP : PI c S) : JJ l g (d + 103) 99 224 [vI s] c t σ :=
  JJ.q (q := fleetQ (aN S) (aV S) s) h hM hP (fun Q z => o_fleet h.1 h.2.1.1 (by rw [h.2.1.2.1, h.2.1.2.2.2]; exact z)) (fun σ1 Q m z => mo_fleet m.1.1 (by rw [m.1.2.1, m.1.2.2.2]; exact z))
theorem j_share {s : Int} (h : CR S t σ) (hM : MRl c S t σ) (hP : PI c S) : JJ l g (d + 103) 100 227 [vI s] c t σ :=
  JJ.q (q := shareQ (aN S) (aV S) s) h hM hP (fun Q z => o_share h.1 h.2.1.1 (by rw [h.2.1.2.1, h.2.1.2.2.2]; exact z)) (fun σ1 Q m z => mo_share m.1.1 (by rw [m.1.2.1, m.1.2.2.2]; exact z))
theorem j_later {s k : Int} (h : CR S t σ) (hM : MRl c S t σ) (hP : PI c S) : JJ l g (d + 103) 101 228 [vI s, vI k] c t σ :=
  JJ.q (q := laterQ (aN S) (aM S) (aV S) s k) h hM hP (fun Q z => o_later h.1 h.2.1.1 (by rw [h.2.1.2.1, h.2.1.2.2.1, h.2.1.2.2.2]; exact z)) (fun σ1 Q m z => mo_later m.1.1 (by rw [m.1.2.1, m.1.2.2.1, m.1.2.2.2]; exact z))
theorem j_whole {s : Int} (h : CR S t σ) (hM : MRl c S t σ) (hP : PI c S) : JJ l g (d + 103) 102 230 [vI s] c t σ :=
  JJ.q (q := wholeQ (aN S) (aV S) s) h hM hP (fun Q z => o_whole h.1 h.2.1.1 (by rw [h.2.1.2.1, h.2.1.2.2.2]; exact z)) (fun σ1 Q m z => mo_whole m.1.1 (by rw [m.1.2.1, m.1.2.2.2]; exact z))
theorem j_tempts {f : Int} (h : CR S t σ) (hM : MRl c S t σ) (hP : PI c S) : JJ l g (d + 103) 108 236 [vI f] c t σ :=
  JJ.q (q := temptsQ (aN S) (aV S) f) h hM hP (fun Q z => o_tempts h.1 h.2.1.1 (by rw [h.2.1.2.1, h.2.1.2.2.2]; exact z)) (fun σ1 Q m z => mo_tempts m.1.1 (by rw [m.1.2.1, m.1.2.2.2]; exact z))
theorem j_motley (h : CR S t σ) (hM : MRl c S t σ) (hP : PI c S) : JJ l g (d + 103) 104 232 [] c t σ :=
  JJ.q (q := motQ (aN S) (aV S)) h hM hP (fun Q z => o_motley h.1 h.2.1.1 (by rw [h.2.1.2.1, h.2.1.2.2.2]; exact z)) (fun σ1 Q m z => mo_motley m.1.1 (by rw [m.1.2.1, m.1.2.2.2]; exact z))
theorem j_order {s : Int} (h : CR S t σ) (hM : MRl c S t σ) (hP : PI c S) : JJ l g (d + 103) 105 233 [vI s] c t σ :=
  JJ.q (q := orderQ (aN S) (aV S) s) h hM hP (fun Q z => o_order h.1 h.2.1.1 (by rw [h.2.1.2.1, h.2.1.2.2.2]; exact z)) (fun σ1 Q m z => mo_order m.1.1 (by rw [m.1.2.1, m.1.2.2.2]; exact z))
theorem j_halves {s : Int} (h : CR S t σ) (hM : MRl c S t σ) (hP : PI c S) : JJ l g (d + 103) 114 247 [vI s] c t σ :=
  JJ.q (q := hlvQ (aN S) (aV S) s) h hM hP (fun Q z => o_halves h.1 h.2.1.1 (by rw [h.2.1.2.1, h.2.1.2.2.2]; exact z)) (fun σ1 Q m z => mo_halves m.1.1 (by rw [m.1.2.1, m.1.2.2.2]; exact z))
theorem j_evens (h : CR S t σ) (hM : MRl c S t σ) (hP : PI c S) : JJ l g (d + 103) 115 249 [] c t σ :=
  JJ.q (q := evQ (aN S) (aV S)) h hM hP (fun Q z => o_evens h.1 h.2.1.1 (by rw [h.2.1.2.1, h.2.1.2.2.2]; exact z)) (fun σ1 Q m z => mo_evens m.1.1 (by rw [m.1.2.1, m.1.2.2.2]; exact z))
theorem j_worth {s : Int} (h : CR S t σ) (hM : MRl c S t σ) (hP : PI c S) : JJ l g (d + 103) 116 251 [vI s] c t σ :=
  JJ.q (q := worQ (aN S) (aV S) s) h hM hP (fun Q z => o_worth h.1 h.2.1.1 (by rw [h.2.1.2.1, h.2.1.2.2.2]; exact z)) (fun σ1 Q m z => mo_worth m.1.1 (by rw [m.1.2.1, m.1.2.2.2]; exact z))
theorem j_patched {s k : Int} (h : CR S t σ) (hM : MRl c S t σ) (hP : PI c S) : JJ l g (d + 103) 117 252 [vI s, vI k] c t σ :=
  JJ.q (q := patQ (aN S) (aV S) s k) h hM hP (fun Q z => o_patched h.1 h.2.1.1 (by rw [h.2.1.2.1, h.2.1.2.2.2]; exact z)) (fun σ1 Q m z => mo_patched m.1.1 (by rw [m.1.2.1, m.1.2.2.2]; exact z))
theorem j_sisters (h : CR S t σ) (hM : MRl c S t σ) (hP : PI c S) : JJ l g (d + 103) 103 231 [] c t σ :=
  JJ.q (q := sisQ (aN S) (aV S)) h hM hP (fun Q z => o_sisters h.1 h.2.1.1 (by rw [h.2.1.2.1, h.2.1.2.2.2]; exact z)) (fun σ1 Q m z => mo_sisters m.1.1 (by rw [m.1.2.1, m.1.2.2.2]; exact z))
theorem j_force {i j : Int} (hc : c ≤ 512) (h : CR S t σ) (hM : MRl c S t σ) (hP : PI c S) : JJ l g (d + 103) 90 199 [vI i, vI j] c t σ := by
  have ov := hP.2.2.2.2.1
  exact JJ.q (q := forceQ (fun E => evE E (aE S)) (aN S) (aV S) i j) h hM hP (fun Q z => o_force h.1 h.2.1.1 (h.rc hP.1) (by rw [h.2.1.2.1, h.2.1.2.2.2]; exact z)) (fun σ1 Q m z => mo_force m.1.1 m.mr (by rw [m.1.2.1, m.1.2.2.2]; exact z))
theorem j_rivals {s : Int} (hc : c ≤ 512) (h : CR S t σ) (hM : MRl c S t σ) (hP : PI c S) : JJ l g (d + 103) 106 234 [vI s] c t σ := by
  have ov := hP.2.2.2.2.1
  exact JJ.q (q := rivQ (fun E => evE E (aE S)) (aN S) (aV S) s) h hM hP (fun Q z => o_rivals h.1 h.2.1.1 (h.rc hP.1) (by rw [h.2.1.2.1, h.2.1.2.2.2]; exact z)) (fun σ1 Q m z => mo_rivals m.1.1 m.mr (by rw [m.1.2.1, m.1.2.2.2]; exact z))
theorem j_wins {i j : Int} (hc : c ≤ 512) (h : CR S t σ) (hM : MRl c S t σ) (hP : PI c S) : JJ l g (d + 103) 109 237 [vI i, vI j] c t σ := by
  have ov := hP.2.2.2.2.1
  exact JJ.q (q := winsQ (fun E => evE E (aE S)) (aN S) (aT S) (aV S) i j) h hM hP (fun Q z => o_wins h.1 h.2.1.1 (h.rc hP.1) (by rw [h.2.1.2.1, h.2.1.2.2.2, h.2.2.1]; exact z)) (fun σ1 Q m z => mo_wins m.1.1 m.mr (m.tk hP.1) (by rw [m.1.2.1, m.1.2.2.2, m.2.1]; exact z))
theorem j_suits {s f : Int} (hc : c ≤ 512) (h : CR S t σ) (hM : MRl c S t σ) (hP : PI c S) : JJ l g (d + 103) 110 238 [vI s, vI f] c t σ := by
  have ov := hP.2.2.2.2.1
  exact JJ.q (q := suitsQ (fun E => evE E (aE S)) (aN S) (aT S) (aV S) s f) h hM hP (fun Q z => o_suits h.1 h.2.1.1 (h.rc hP.1) (by rw [h.2.1.2.1, h.2.1.2.2.2, h.2.2.1]; exact z)) (fun σ1 Q m z => mo_suits m.1.1 m.mr (m.tk hP.1) (by rw [m.1.2.1, m.1.2.2.2, m.2.1]; exact z))
theorem j_duel {i j m : Int} (hc : c ≤ 512) (h : CR S t σ) (hM : MRl c S t σ) (hP : PI c S) : JJ l g (d + 103) 107 235 [vI i, vI j, vI m] c t σ := by
  have ov := hP.2.2.2.2.1
  exact JJ.q (q := duelQ (fun E => evE E (aE S)) (aN S) (aM S) (aT S) (aV S) i j m) h hM hP (fun Q z => o_duel h.1 h.2.1.1 (h.rc hP.1) (by rw [h.2.1.2.1, h.2.1.2.2.1, h.2.1.2.2.2, h.2.2.1]; exact z)) (fun σ1 Q m z => mo_duel m.1.1 m.mr (m.tk hP.1) (by rw [m.1.2.1, m.1.2.2.1, m.1.2.2.2, m.2.1]; exact z))
theorem j_campaign {m : Int} (hc : c ≤ 512) (h : CR S t σ) (hM : MRl c S t σ) (hP : PI c S) : JJ l g (d + 103) 113 246 [vI m] c t σ := by
  have ov := hP.2.2.2.2.1
  exact JJ.q (q := campMQ (fun E => evE E (aE S)) (aN S) (aM S) (aT S) (aV S) m) h hM hP (fun Q z => o_campaign h.1 h.2.1.1 (h.rc hP.1) (by rw [h.2.1.2.1, h.2.1.2.2.1, h.2.1.2.2.2, h.2.2.1]; rw [camp_eq h.wf hP.1 (by omega)]; exact z)) (fun σ1 Q m z => mo_campaign m.1.1 m.mr (m.tk hP.1) (by rw [m.1.2.1, m.1.2.2.1, m.1.2.2.2, m.2.1]; exact z))
theorem over_eq {F : (Int → Int) → Int} {n : Nat} {M V : Int → Int} {k s f : Int} (hW : WFV n M V) (hk : 1 ≤ k ∧ k ≤ 6) : overQ F n k V s f = overMQ F n k V s f := by
  unfold overQ overMQ
  by_cases hs : (0 ≤ s ∧ s < n) ∧ (0 ≤ f ∧ f < 4)
  · rw [if_pos hs, if_pos hs, few_eq hW hk (Or.inr hs) (fun _ => rfl)]
  · rw [if_neg hs, if_neg hs]
theorem j_goesOver {s f : Int} (hc : c ≤ 512) (h : CR S t σ) (hM : MRl c S t σ) (hP : PI c S) : JJ l g (d + 103) 111 243 [vI s, vI f] c t σ := by
  have ov := hP.2.2.2.2.1
  exact JJ.q (q := overMQ (fun E => evE E (aE S)) (aN S) (aT S) (aV S) s f) h hM hP (fun Q z => o_goesOver h.1 h.2.1.1 h.2.2.2.2.2.2.2.2.2.2 (h.rc hP.1) (by rw [h.2.1.2.1, h.2.1.2.2.2, h.2.2.1]; rw [over_eq h.wf hP.1]; exact z)) (fun σ1 Q m z => mo_goesOver m.1.1 m.mr (m.tk hP.1) (by rw [m.1.2.1, m.1.2.2.2, m.2.1]; exact z))
theorem peace_eq {F : (Int → Int) → Int} {n : Nat} {M V : Int → Int} {k : Int} (hW : WFV n M V) (hk : 1 ≤ k ∧ k ≤ 6) : fewV (-1) (-1) k F n V 4 0 = fewM (-1) 0 k F n V 4 0 := few_eq hW hk (Or.inl rfl) (fun z => absurd rfl z)
theorem j_peace (hc : c ≤ 512) (h : CR S t σ) (hM : MRl c S t σ) (hP : PI c S) : JJ l g (d + 103) 112 244 [] c t σ := by
  have ov := hP.2.2.2.2.1
  exact JJ.q (q := ftP (fewM (-1) 0 (aT S) (fun E => evE E (aE S)) (aN S) (aV S) 4 0)) h hM hP (fun Q z => o_peace h.1 h.2.1.1 h.2.2.2.2.2.2.2.2.2.2 (h.rc hP.1) (by rw [h.2.1.2.1, h.2.1.2.2.2, h.2.2.1]; rw [peace_eq h.wf hP.1]; exact z)) (fun σ1 Q m z => mo_peace m.1.1 m.mr (m.tk hP.1) (by rw [m.1.2.1, m.1.2.2.2, m.2.1]; exact z))
theorem j_rests {v : Int} (h : CR S t σ) (hM : MRl c S t σ) (hP : PI c S) : JJ l g (d + 103) 128 273 [vI v] c t σ :=
  JJ.q (q := restsQ v) h hM hP (fun Q z => o_rests h.1 z) (fun σ1 Q w z => mo_rests w.tm z)
theorem j_treaty {a b : Int} (h : CR S t σ) (hM : MRl c S t σ) (hP : PI c S) : JJ l g (d + 103) 126 268 [vI a, vI b] c t σ :=
  JJ.q (q := trQ a b) h hM hP (fun Q z => o_treaty h.1 z) (fun σ1 Q w z => mo_treaty w.tm z)
theorem j_series {k m p : Int} (h : CR S t σ) (hM : MRl c S t σ) (hP : PI c S) : JJ l g (d + 103) 127 270 [vI k, vI m, vI p] c t σ :=
  JJ.q (q := serQ k m p) h hM hP (fun Q z => o_series h.1 z) (fun σ1 Q w z => mo_series w.tm z)
theorem CR.sg {S : AS} {t : Tau} {σ : Mem} {c : Nat} (h : CR S t σ) (hP : PI c S) : SgOk σ := by
  obtain ⟨g1, g2, g3⟩ := h.2.2.2.2.2.2.2.2.1
  obtain ⟨p1, p2⟩ := hP.2.2.1
  unfold SgOk
  rw [g1, g2, g3]
  exact ⟨by omega, p2⟩
theorem MRl.sg {S : AS} {t : Tau} {σ : Mem} {c : Nat} (h : MRl c S t σ) (hP : PI c S) : MsOk σ := by
  obtain ⟨g1, g2, g3⟩ := h.2.2.2.2.2.2.2.1
  obtain ⟨p1, p2⟩ := hP.2.2.1
  unfold MsOk
  rw [g1, g2, g3]
  exact ⟨by omega, p2⟩
theorem CR.tl {S : AS} {t : Tau} {σ : Mem} {c : Nat} (h : CR S t σ) (hP : PI c S) : TlOk σ := by
  obtain ⟨g1, g2, g3, g4⟩ := h.2.2.2.2.2.2.2.2.2.1
  obtain ⟨p1, p2⟩ := hP.2.2.2.1
  unfold TlOk
  rw [g1, g2, g3, g4]
  exact ⟨by omega, p2⟩
theorem MRl.tl {S : AS} {t : Tau} {σ : Mem} {c : Nat} (h : MRl c S t σ) (hP : PI c S) : MtOk σ := by
  obtain ⟨g1, g2, g3, -⟩ := h.2.2.2.2.2.2.2.2
  obtain ⟨p1, p2⟩ := hP.2.2.2.1
  unfold MtOk
  rw [g1, g2, g3]
  exact ⟨by omega, fun k a b => ⟨(p2 k a b).1, (p2 k a b).2.1⟩⟩
noncomputable def lwS (S : AS) : Nat → Bool := lwB (aD S).2.1 (aD S).2.2.1 (aD S).2.2.2 (aD S).1
theorem CR.lw {S : AS} {t : Tau} {σ : Mem} (h : CR S t σ) : lwP σ = lwS S := by
  obtain ⟨g1, g2, g3, g4⟩ := h.2.2.2.2.2.2.2.2.2.1
  unfold lwP lwS
  rw [g1, g2, g3, g4, Int.toNat_natCast]
theorem MRl.lw {S : AS} {t : Tau} {σ : Mem} {c : Nat} (h : MRl c S t σ) (hP : PI c S) : mtP σ = lwS S := by
  obtain ⟨g1, g2, g3, b, hb, g4, g5⟩ := h.2.2.2.2.2.2.2.2
  have p1 := hP.2.2.2.1.1
  unfold mtP lwS
  rw [g1, g2, g3, g4, Int.toNat_natCast]
  exact lwB_cg (fun k hk => ⟨rfl, rfl, by rw [tD_b hb (by omega), g5 k hk]⟩)
theorem j_fits (h : CR S t σ) (hM : MRl c S t σ) (hP : PI c S) : JJ l g (d + 103) 120 257 [] c t σ :=
  JJ.q (q := fitsQ (aN S) (aV S) (aG S).2.1 (aG S).2.2 (aG S).1) h hM hP (fun Q z => o_fits h.1 h.2.1.1 (h.sg hP) (by rw [h.2.1.2.1, h.2.1.2.2.2, h.2.2.2.2.2.2.2.2.1.1, h.2.2.2.2.2.2.2.2.1.2.1, h.2.2.2.2.2.2.2.2.1.2.2, Int.toNat_natCast]; exact z)) (fun σ1 Q m z => mo_fits m.1.1 (m.sg hP) (by rw [m.1.2.1, m.1.2.2.2, m.2.2.2.2.2.2.2.1.1, m.2.2.2.2.2.2.2.1.2.1, m.2.2.2.2.2.2.2.1.2.2, Int.toNat_natCast]; exact z))
theorem j_looks (h : CR S t σ) (hM : MRl c S t σ) (hP : PI c S) : JJ l g (d + 103) 121 258 [] c t σ :=
  JJ.q (q := lookQ (aN S) (aV S) (setN (fitB (aV S) (aG S).2.1 (aG S).2.2 (aG S).1) (aN S))) h hM hP (fun Q z => o_looks h.1 h.2.1.1 (h.sg hP) (by rw [h.2.1.2.1, h.2.1.2.2.2, h.2.2.2.2.2.2.2.2.1.1, h.2.2.2.2.2.2.2.2.1.2.1, h.2.2.2.2.2.2.2.2.1.2.2, Int.toNat_natCast]; exact z)) (fun σ1 Q m z => mo_looks m.1.1 (m.sg hP) (by rw [m.1.2.1, m.1.2.2.2, m.2.2.2.2.2.2.2.1.1, m.2.2.2.2.2.2.2.1.2.1, m.2.2.2.2.2.2.2.1.2.2, Int.toNat_natCast]; exact z))
theorem j_laws (h : CR S t σ) (hM : MRl c S t σ) (hP : PI c S) : JJ l g (d + 103) 124 263 [] c t σ :=
  JJ.q (q := lawsQ (lwS S)) h hM hP (fun Q z => o_laws h.1 (h.tl hP) (by rw [h.lw]; exact z)) (fun σ1 Q m z => mo_laws m.tm (m.tl hP) (by rw [m.lw hP]; exact z))
theorem j_asks (h : CR S t σ) (hM : MRl c S t σ) (hP : PI c S) : JJ l g (d + 103) 125 265 [] c t σ :=
  JJ.q (q := asksQ (lwS S)) h hM hP (fun Q z => o_asks h.1 (h.tl hP) (by rw [h.lw]; exact z)) (fun σ1 Q m z => mo_asks m.tm (m.tl hP) (by rw [m.lw hP]; exact z))
end ASKS
