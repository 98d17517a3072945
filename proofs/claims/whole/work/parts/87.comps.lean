/-! the pieces of what both hold, one by one -/
section CMP
variable {S : AS} {t : Tau} {σ σ' : Mem} {c c' : Nat}
theorem CR.c2 (h : CR S t σ) (hf : ∀ o, 5 ≤ o → o ≤ 11 → σ' o = σ o) : SeaOk t σ' 5 ∧ nS σ' 5 = aN S ∧ mS σ' 5 = aM S ∧ vwS σ' 5 = aV S := by
  obtain ⟨k1, k2, k3, k4⟩ := h.2.1
  have hh : ∀ o, 5 ≤ o → o ≤ 5 + 6 → σ' o = σ o := fun o a b => hf o a (by omega)
  obtain ⟨e1, e2, e3⟩ := sea_cg hh
  exact ⟨seaok_cg hh k1, e1.trans k2, e2.trans k3, e3.trans k4⟩
theorem CR.c6 (h : CR S t σ) (h12 : σ' 0 12 = σ 0 12) (h13 : σ' 0 13 = σ 0 13) (hf : ∀ o, o = σ 0 12 ∨ o = σ 0 12 + 1 → σ' o = σ o) : ((σ' 0 12 = 167 ∧ σ' 0 13 = 171) ∨ (σ' 0 12 = 171 ∧ σ' 0 13 = 167)) ∧ RuleIs t σ' (σ' 0 12) (fun E => evE E (aE S)) := by
  have h6 := h.2.2.2.2.2.1
  rw [h12, h13]
  exact ⟨h6.1, h6.2.cg (hf _ (Or.inl rfl)) (hf _ (Or.inr rfl))⟩
theorem CR.c7 (h : CR S t σ) (hf : ∀ o, 26 ≤ o → o ≤ 111 → σ' o = σ o) (hn : nS σ' 5 = aN S) (hm : mS σ' 5 = aM S) : PsIs t σ' (aP S).1 (aP S).2 :=
  h.2.2.2.2.2.2.1.cg hf (hn.trans h.2.1.2.1.symm) (hm.trans h.2.1.2.2.1.symm)
theorem CR.c8 (h : CR S t σ) (h15 : σ' 0 15 = σ 0 15) (hf : ∀ o, 112 ≤ o → o ≤ 125 → σ' o = σ o) : σ' 0 15 = kBt (aK S).1 ∧ ∀ i : Int, (i = 0 ∨ i = 1) → (aK S).1 i = true → SeaOk t σ' (112 + 7 * i) ∧ nS σ' (112 + 7 * i) = aN S ∧ mS σ' (112 + 7 * i) = aM S ∧ vwS σ' (112 + 7 * i) = (aK S).2 i := by
  have h8 := h.2.2.2.2.2.2.2.1
  rw [h15]
  refine ⟨h8.1, fun i hi hb => ?_⟩
  obtain ⟨k1, k2, k3, k4⟩ := h8.2 i hi hb
  have hh : ∀ o, 112 + 7 * i ≤ o → o ≤ 112 + 7 * i + 6 → σ' o = σ o := fun o a b => hf o (by omega) (by omega)
  obtain ⟨e1, e2, e3⟩ := sea_cg hh
  exact ⟨seaok_cg hh k1, e1.trans k2, e2.trans k3, e3.trans k4⟩
theorem CR.c11 (h : CR S t σ) (hf : σ' 127 = σ 127) : LvOk σ' := fun k a b => by rw [hf]; exact h.2.2.2.2.2.2.2.2.2.2 k a b
theorem CR.tx (h : CR S t σ) (hP : PI c S) : TxOk σ := by
  obtain ⟨e1, e2⟩ := h.2.2.2.1
  obtain ⟨p1, p2⟩ := hP.2.1
  unfold TxOk
  rw [e1, e2]
  exact ⟨by omega, p2⟩
theorem CR.tn (h : CR S t σ) : (σ 1 1).toNat = (aX S).1 := by rw [h.2.2.2.1.1, Int.toNat_natCast]
theorem MRl.tn (h : MRl c S t σ) : (σ 175 5).toNat = (aX S).1 := by rw [h.2.2.1.1.1, Int.toNat_natCast]
theorem MRl.m1 (h : MRl c S t σ) (j1 : σ' 175 1 = σ 175 1) (f6 : σ' 176 = σ 176) (f7 : σ' 177 = σ 177) : MK t σ' ∧ nM σ' = aN S ∧ mM σ' = aM S ∧ vA σ' 176 = aV S := by
  obtain ⟨h1, g1, g2, g3⟩ := h.1
  have en : nM σ' = nM σ := by unfold nM; rw [j1]
  have em : mM σ' = mM σ := by unfold mM; rw [f7]
  have ev : vA σ' 176 = vA σ 176 := by unfold vA; rw [f6]
  exact ⟨⟨⟨h1.1.1, by rw [j1, en]; exact h1.1.2.1, by rw [en]; exact h1.1.2.2⟩, by rw [en, em, ev]; exact h1.2⟩, en.trans g1, em.trans g2, ev.trans g3⟩
theorem MRl.m3 (h : MRl c S t σ) (j5 : σ' 175 5 = σ 175 5) (f8 : σ' 178 = σ 178) : (σ' 175 5 = ((aX S).1 : Int) ∧ txB σ' = (aX S).2) ∧ TxM σ' := by
  have et : txB σ' = txB σ := by unfold txB; rw [f8]
  obtain ⟨a, b⟩ := h.2.2.1
  refine ⟨by rw [j5, et]; exact a, ?_⟩
  unfold TxM
  rw [j5, f8]
  exact b
theorem MRl.m4 (h : MRl c S t σ) (j7 : σ' 175 7 = σ 175 7) (f9 : σ' 179 = σ 179) : rmIs σ' (aO S) := by
  have := h.2.2.2.1
  unfold rmIs
  rw [j7, f9]
  exact this
theorem MRl.m5 (h : MRl c S t σ) (j15 : σ' 175 15 = σ 175 15) (j16 : σ' 175 16 = σ 175 16) (j17 : σ' 175 17 = σ 175 17) (f1 : σ' 181 = σ 181) (f2 : σ' 182 = σ 182) : ((σ' 175 15 = 181 ∧ σ' 175 16 = 182) ∨ (σ' 175 15 = 182 ∧ σ' 175 16 = 181)) ∧ MrE σ' (aE S) := by
  have h5 := h.2.2.2.2.1
  exact ⟨by rw [j15, j16]; exact h5.1, h5.2.cg ⟨j15, j17, f1, f2⟩⟩
theorem MRl.m6 (h : MRl c S t σ) (j21 : σ' 175 21 = σ 175 21) (f : σ' 184 = σ 184) : MpIs σ' (aP S).1 (aP S).2 := h.2.2.2.2.2.1.cg j21 f
theorem MRl.m7 (h : MRl c S t σ) (hc : c ≤ c') (j37 : σ' 175 37 = σ 175 37) (f6 : σ' 196 = σ 196) (f7 : σ' 197 = σ 197) (f8 : σ' 198 = σ 198) : (0 ≤ σ' 175 37 ∧ σ' 175 37 ≤ c') ∧ ∀ i : Int, (i = 0 ∨ i = 1) → σ' 198 i ≤ σ' 175 37 ∧ ((aK S).1 i = true ↔ (σ' 197 i ≠ 0 ∧ σ' 198 i = σ' 175 37)) ∧ ((aK S).1 i = true → sgA (σ' 196) i = (aK S).2 i) := by
  have h7 := h.2.2.2.2.2.2.1
  rw [j37, f6, f7, f8]
  exact ⟨⟨h7.1.1, by have := h7.1.2; omega⟩, h7.2⟩
theorem MRl.m8 (h : MRl c S t σ) (j30 : σ' 175 30 = σ 175 30) (f1 : σ' 191 = σ 191) (f2 : σ' 192 = σ 192) : σ' 175 30 = ((aG S).1 : Int) ∧ σ' 191 = (aG S).2.1 ∧ σ' 192 = (aG S).2.2 := by
  rw [j30, f1, f2]; exact h.2.2.2.2.2.2.2.1
theorem MRl.m9 (h : MRl c S t σ) (j34 : σ' 175 34 = σ 175 34) (j33 : σ' 175 33 = σ 175 33) (f3 : σ' 193 = σ 193) (f4 : σ' 194 = σ 194) : σ' 175 34 = ((aD S).1 : Int) ∧ σ' 193 = (aD S).2.1 ∧ σ' 194 = (aD S).2.2.1 ∧ ∃ b : Nat, b < 4096 ∧ σ' 175 33 = (b : Int) ∧ ∀ k : Nat, k < (aD S).1 → (aD S).2.2.2 k = if b.testBit k then 1 else 0 := by
  rw [j34, j33, f3, f4]; exact h.2.2.2.2.2.2.2.2
theorem MRl.lo (h : MRl c S t σ) (hf : ∀ o, 175 ≤ o → σ' o = σ o) : MRl c S t σ' := h.fr (Nat.le_refl _) (fun o a _ => hf o a)
theorem QTM.r8 {σ : Mem} : QTM σ (up σ 175 8 0) none := ⟨⟨fun o ho _ => up_ne ho, fun j hj => by
    have : j ≠ 8 := fun z => hj (by unfold scrF; omega)
    simp [up_ap, this]⟩, by simp [up_ap], by simp [up_ap], up_ne (by omega)⟩
end CMP
section JJN
variable {l : Launch} {g : GE} {d eC eM : Nat} {as : List TV} {c : Nat} {t : Tau} {σ : Mem} {S : AS}
/-- nothing changes -/
theorem JJ.n {a : Int} (h : CR S t σ) (hM : MRl c S t σ) (hP : PI c S) (hc : ∀ Q : Post, Q (some (vI a)) t σ → WPc l g eC d 0 0 (vR 0 :: as) t σ Q) (hm : ∀ (Q : Post), Q (some (vI a)) t (up σ 175 8 0) → WPc l g eM d 0 0 (vR 175 :: as) t σ Q) : JJ l g d eC eM as c t σ := by
  refine JJ.mk (a := a) (KC := fun s s' => s' = s) (KM := fun s s' => s' = up s 175 8 0) (fun Q z => hc Q (z σ rfl)) (fun σ1 e Q z => ?_) (fun σ1 σ2 e1 e2 => ?_)
  · subst e; exact hm Q (z _ rfl)
  · subst e1; subst e2
    refine ⟨S, h.fr (fun o _ b => up_ne (by omega)), ?_, hP.up⟩
    exact hM.cg (R := aO S) (by omega) (fun o a b c => up_ne (by omega)) (fun j hj => by
      have : j ≠ 8 := fun z => hj (by unfold scrF; omega)
      simp [up_ap, this]) (hM.m4 (by simp [up_ap]) (up_ne (by omega)))
end JJN
