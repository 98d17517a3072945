/-! class and reference, side by side -/
abbrev AS : Type := Nat × (Int → Int) × (Int → Int) × Int × (Nat × (Int → Int)) × List Int × Ex × (Nat × (Nat → Int → Int)) × ((Int → Bool) × (Int → Int → Int)) × (Nat × (Int → Int) × (Int → Int)) × (Nat × (Int → Int) × (Int → Int) × (Int → Int))
abbrev aN (S : AS) : Nat := S.1
abbrev aM (S : AS) : Int → Int := S.2.1
abbrev aV (S : AS) : Int → Int := S.2.2.1
abbrev aT (S : AS) : Int := S.2.2.2.1
abbrev aX (S : AS) : Nat × (Int → Int) := S.2.2.2.2.1
abbrev aO (S : AS) : List Int := S.2.2.2.2.2.1
abbrev aE (S : AS) : Ex := S.2.2.2.2.2.2.1
abbrev aP (S : AS) : Nat × (Nat → Int → Int) := S.2.2.2.2.2.2.2.1
abbrev aK (S : AS) : (Int → Bool) × (Int → Int → Int) := S.2.2.2.2.2.2.2.2.1
abbrev aG (S : AS) : Nat × (Int → Int) × (Int → Int) := S.2.2.2.2.2.2.2.2.2.1
abbrev aD (S : AS) : Nat × (Int → Int) × (Int → Int) × (Int → Int) := S.2.2.2.2.2.2.2.2.2.2
def kBt (b : Int → Bool) : Int := (if b 0 then 1 else 0) + (if b 1 then 2 else 0)
/-- the class holds S -/
def CR (S : AS) (t : Tau) (σ : Mem) : Prop := TC t ∧ (SeaOk t σ 5 ∧ nS σ 5 = aN S ∧ mS σ 5 = aM S ∧ vwS σ 5 = aV S) ∧ σ 0 14 = aT S ∧ (σ 1 1 = ((aX S).1 : Int) ∧ σ 2 = (aX S).2) ∧ rwIs σ (aO S) ∧ (((σ 0 12 = 167 ∧ σ 0 13 = 171) ∨ (σ 0 12 = 171 ∧ σ 0 13 = 167)) ∧ RuleIs t σ (σ 0 12) (fun E => evE E (aE S))) ∧ PsIs t σ (aP S).1 (aP S).2 ∧ (σ 0 15 = kBt (aK S).1 ∧ ∀ i : Int, (i = 0 ∨ i = 1) → (aK S).1 i = true → SeaOk t σ (112 + 7 * i) ∧ nS σ (112 + 7 * i) = aN S ∧ mS σ (112 + 7 * i) = aM S ∧ vwS σ (112 + 7 * i) = (aK S).2 i) ∧ (σ 157 3 = ((aG S).1 : Int) ∧ σ 158 = (aG S).2.1 ∧ σ 159 = (aG S).2.2) ∧ (σ 161 3 = ((aD S).1 : Int) ∧ σ 162 = (aD S).2.1 ∧ σ 163 = (aD S).2.2.1 ∧ σ 164 = (aD S).2.2.2) ∧ LvOk σ
/-- the reference holds S, after c calls -/
def MRl (c : Nat) (S : AS) (t : Tau) (σ : Mem) : Prop := (MK t σ ∧ nM σ = aN S ∧ mM σ = aM S ∧ vA σ 176 = aV S) ∧ σ 175 2 = aT S ∧ ((σ 175 5 = ((aX S).1 : Int) ∧ txB σ = (aX S).2) ∧ TxM σ) ∧ rmIs σ (aO S) ∧ (((σ 175 15 = 181 ∧ σ 175 16 = 182) ∨ (σ 175 15 = 182 ∧ σ 175 16 = 181)) ∧ MrE σ (aE S)) ∧ MpIs σ (aP S).1 (aP S).2 ∧ ((0 ≤ σ 175 37 ∧ σ 175 37 ≤ c) ∧ ∀ i : Int, (i = 0 ∨ i = 1) → σ 198 i ≤ σ 175 37 ∧ ((aK S).1 i = true ↔ (σ 197 i ≠ 0 ∧ σ 198 i = σ 175 37)) ∧ ((aK S).1 i = true → sgA (σ 196) i = (aK S).2 i)) ∧ (σ 175 30 = ((aG S).1 : Int) ∧ σ 191 = (aG S).2.1 ∧ σ 192 = (aG S).2.2) ∧ (σ 175 34 = ((aD S).1 : Int) ∧ σ 193 = (aD S).2.1 ∧ σ 194 = (aD S).2.2.1 ∧ ∃ b : Nat, b < 4096 ∧ σ 175 33 = (b : Int) ∧ ∀ k : Nat, k < (aD S).1 → (aD S).2.2.2 k = if b.testBit k then 1 else 0)
/-- S is as it must be after c calls -/
def PI (c : Nat) (S : AS) : Prop := (1 ≤ aT S ∧ aT S ≤ 6) ∧ ((aX S).1 ≤ 80 ∧ ∀ k : Int, 0 ≤ k → k < 80 → 0 ≤ (aX S).2 k ∧ (aX S).2 k < 256) ∧ ((aG S).1 ≤ 12 ∧ ∀ k : Int, 0 ≤ k → k < ((aG S).1 : Int) → 0 ≤ (aG S).2.2 k ∧ (aG S).2.2 k ≤ mostS ((aG S).2.1 k)) ∧ ((aD S).1 ≤ 12 ∧ ∀ k : Int, 0 ≤ k → k < ((aD S).1 : Int) → (0 ≤ (aD S).2.1 k ∧ (aD S).2.1 k ≤ 12) ∧ (0 ≤ (aD S).2.2.1 k ∧ (aD S).2.2.1 k ≤ 12) ∧ ((aD S).2.2.2 k = 0 ∨ (aD S).2.2.2 k = 1)) ∧ aV S 49 ≤ 4 * (c : Int) ∧ ∃ B : Int, aV S 49 ≤ B ∧ (∀ k : Nat, k < (aP S).1 → (aP S).2 k 49 ≤ B) ∧ (∀ i : Int, (aK S).1 i = true → (aK S).2 i 49 ≤ B) ∧ B + ((aX S).1 : Int) ≤ 4 * (c : Int)
def toS (S : AS) (V : Int → Int) (p : Nat) (U : Nat → Int → Int) (R : List Int) : AS := (aN S, aM S, V, aT S, aX S, R, aE S, (p, U), aK S, aG S, aD S)
theorem CR.wf {S : AS} {t : Tau} {σ : Mem} (h : CR S t σ) : WFV (aN S) (aM S) (aV S) := by
  obtain ⟨k, e1, e2, e3⟩ := h.2.1
  have := k.2.2
  rw [e1, e2, e3] at this
  exact this
theorem CR.mk2 {S : AS} {t : Tau} {σ σ' : Mem} {V : Int → Int} {p : Nat} {U : Nat → Int → Int} {R : List Int} (h : CR S t σ) (hf : ∀ o, 0 ≤ o → o < 175 → ¬ scr o → (o < 5 ∨ 111 < o) → σ' o = σ o) (hs : SeaOk t σ' 5 ∧ nS σ' 5 = aN S ∧ mS σ' 5 = aM S ∧ vwS σ' 5 = V) (hp : PsIs t σ' p U) (hr : rwIs σ' R) : CR (toS S V p U R) t σ' := by
  obtain ⟨h1, h2, h3, h4, h5, h6, h7, h8, h9, h10, h11⟩ := h
  have f : ∀ o, (o = 0 ∨ o = 1 ∨ o = 2 ∨ o = 127 ∨ (157 ≤ o ∧ o ≤ 164) ∨ (112 ≤ o ∧ o ≤ 125) ∨ (167 ≤ o ∧ o ≤ 169) ∨ (171 ≤ o ∧ o ≤ 173)) → σ' o = σ o := fun o ho => hf o (by omega) (by omega) (by unfold scr; omega) (by omega)
  have f0 := f 0 (by omega)
  refine ⟨h1, hs, by rw [f0]; exact h3, by rw [f 1 (by omega), f 2 (by omega)]; exact h4, hr, ?_, hp, ?_, by rw [f 157 (by omega), f 158 (by omega), f 159 (by omega)]; exact h9, by rw [f 161 (by omega), f 162 (by omega), f 163 (by omega), f 164 (by omega)]; exact h10, ?_⟩
  · rw [f0]
    refine ⟨h6.1, ?_⟩
    rcases h6.1 with e | e
    · exact h6.2.cg (f _ (by omega)) (f _ (by omega))
    · exact h6.2.cg (f _ (by omega)) (f _ (by omega))
  · rw [f0]
    refine ⟨h8.1, fun i hi hb => ?_⟩
    obtain ⟨k1, k2, k3, k4⟩ := h8.2 i hi hb
    have hh : ∀ o, 112 + 7 * i ≤ o → o ≤ 112 + 7 * i + 6 → σ' o = σ o := fun o a b => f o (by omega)
    obtain ⟨e1, e2, e3⟩ := sea_cg hh
    exact ⟨seaok_cg hh k1, e1.trans k2, e2.trans k3, e3.trans k4⟩
  · intro k a b
    rw [f 127 (by omega)]
    exact h11 k a b
theorem CR.cg {S : AS} {t : Tau} {σ σ' : Mem} {R : List Int} (h : CR S t σ) (hf : ∀ o, 0 ≤ o → o < 175 → ¬ scr o → σ' o = σ o) (hr : rwIs σ' R) : CR (toS S (aV S) (aP S).1 (aP S).2 R) t σ' := by
  have hh : ∀ o, 5 ≤ o → o ≤ 5 + 6 → σ' o = σ o := fun o a b => hf o (by omega) (by omega) (by unfold scr; omega)
  obtain ⟨e1, e2, e3⟩ := sea_cg hh
  obtain ⟨k1, k2, k3, k4⟩ := h.2.1
  exact h.mk2 (fun o a b c _ => hf o a b c) ⟨seaok_cg hh k1, e1.trans k2, e2.trans k3, e3.trans k4⟩ (h.2.2.2.2.2.2.1.cg (fun o a b => hf o (by omega) (by omega) (by unfold scr; omega)) e1 e2) hr
theorem CR.fr {S : AS} {t : Tau} {σ σ' : Mem} (h : CR S t σ) (hf : ∀ o, 0 ≤ o → o < 175 → σ' o = σ o) : CR S t σ' :=
  h.cg (R := aO S) (fun o a b _ => hf o a b) (h.2.2.2.2.1.cg (hf 3 (by omega) (by omega)) (hf 4 (by omega) (by omega)))
theorem MRl.mk2 {c c' : Nat} {S : AS} {t : Tau} {σ σ' : Mem} {V : Int → Int} {p : Nat} {U : Nat → Int → Int} {R : List Int} (h : MRl c S t σ) (hc : c ≤ c') (hf : ∀ o, 175 < o → o < 199 → ¬ scrM o → o ≠ 176 → o ≠ 184 → σ' o = σ o) (hj : ∀ j, ¬ scrF j → j ≠ 21 → σ' 175 j = σ 175 j) (hV : vA σ' 176 = V) (hW : WFV (aN S) (aM S) V) (hp : MpIs σ' p U) (hr : rmIs σ' R) : MRl c' (toS S V p U R) t σ' := by
  obtain ⟨⟨h1, g1, g2, g3⟩, h2, h3, h4, h5, h6, h7, h8, h9⟩ := h
  have f : ∀ o, (o = 177 ∨ o = 178 ∨ o = 181 ∨ o = 182 ∨ (191 ≤ o ∧ o ≤ 194) ∨ (196 ≤ o ∧ o ≤ 198)) → σ' o = σ o := fun o ho => hf o (by omega) (by omega) (by unfold scrM; omega) (by omega) (by omega)
  have j : ∀ k : Int, (k = 1 ∨ k = 2 ∨ k = 5 ∨ k = 15 ∨ k = 16 ∨ k = 17 ∨ k = 30 ∨ k = 33 ∨ k = 34 ∨ k = 37) → σ' 175 k = σ 175 k := fun k hk => hj k (by unfold scrF; omega) (by omega)
  have en : nM σ' = nM σ := by unfold nM; rw [j 1 (by omega)]
  have em : mM σ' = mM σ := by unfold mM; rw [f 177 (by omega)]
  have et : txB σ' = txB σ := by unfold txB; rw [f 178 (by omega)]
  have rs : RuS σ σ' := ⟨j 15 (by omega), j 17 (by omega), f 181 (by omega), f 182 (by omega)⟩
  refine ⟨⟨⟨⟨h1.1.1, by rw [j 1 (by omega), en]; exact h1.1.2.1, by rw [en]; exact h1.1.2.2⟩, ?_⟩, en.trans g1, em.trans g2, hV⟩, by rw [j 2 (by omega)]; exact h2, ⟨by rw [j 5 (by omega), et]; exact h3.1, ?_⟩, hr, ⟨by rw [j 15 (by omega), j 16 (by omega)]; exact h5.1, h5.2.cg rs⟩, hp, ?_, by rw [j 30 (by omega), f 191 (by omega), f 192 (by omega)]; exact h8, by rw [j 34 (by omega), j 33 (by omega), f 193 (by omega), f 194 (by omega)]; exact h9⟩
  · rw [en, em, g1, g2, hV]; exact hW
  · obtain ⟨-, q⟩ := h3
    unfold TxM
    rw [j 5 (by omega), f 178 (by omega)]
    exact q
  · rw [j 37 (by omega), f 196 (by omega), f 197 (by omega), f 198 (by omega)]
    exact ⟨⟨h7.1.1, by have := h7.1.2; omega⟩, h7.2⟩
theorem MRl.cg {c c' : Nat} {S : AS} {t : Tau} {σ σ' : Mem} {R : List Int} (h : MRl c S t σ) (hc : c ≤ c') (hf : ∀ o, 175 < o → o < 199 → ¬ scrM o → σ' o = σ o) (hj : ∀ j, ¬ scrF j → σ' 175 j = σ 175 j) (hr : rmIs σ' R) : MRl c' (toS S (aV S) (aP S).1 (aP S).2 R) t σ' := by
  obtain ⟨k1, k2, k3, k4⟩ := h.1
  have hw := k1.2
  rw [k2, k3, k4] at hw
  exact h.mk2 hc (fun o a b c _ _ => hf o a b c) (fun j a _ => hj j a) (by rw [← k4]; unfold vA; rw [hf 176 (by omega) (by omega) (by unfold scrM; omega)]) hw (h.2.2.2.2.2.1.cg (hj 21 (by unfold scrF; omega)) (hf 184 (by omega) (by omega) (by unfold scrM; omega))) hr
theorem MRl.fr {c c' : Nat} {S : AS} {t : Tau} {σ σ' : Mem} (h : MRl c S t σ) (hc : c ≤ c') (hf : ∀ o, 175 ≤ o → o < 199 → σ' o = σ o) : MRl c' S t σ' :=
  h.cg (R := aO S) hc (fun o a b _ => hf o (by omega) b) (fun j _ => by rw [hf 175 (by omega) (by omega)]) (by
    have := h.2.2.2.1
    unfold rmIs
    rw [hf 175 (by omega) (by omega), hf 179 (by omega) (by omega)]
    exact this)
theorem PI.up {c : Nat} {S : AS} (h : PI c S) : PI (c + 1) S := by
  obtain ⟨h1, h2, h3, h4, h5, B, b1, b2, b3, b4⟩ := h
  exact ⟨h1, h2, h3, h4, by omega, B, b1, b2, b3, by omega⟩
def Inv (c : Nat) (t : Tau) (σ : Mem) : Prop := ∃ S, CR S t σ ∧ MRl c S t σ ∧ PI c S
/-- a call of the class, then the same of the reference: the same answer, and both hold the same again -/
def JJ (l : Launch) (g : GE) (d eC eM : Nat) (as : List TV) (c : Nat) (t : Tau) (σ : Mem) : Prop :=
  WPc l g eC d 0 0 (vR 0 :: as) t σ (fun v t1 σ1 => ∃ a, v = some (vI a) ∧ t1 = t ∧ WPc l g eM d 0 0 (vR 175 :: as) t σ1 (fun w t2 σ2 => w = some (vI a) ∧ t2 = t ∧ Inv (c + 1) t σ2))
section JJS
variable {l : Launch} {g : GE} {d eC eM : Nat} {as : List TV} {c : Nat} {t : Tau} {σ : Mem} {S : AS}
theorem JJ.mk {a : Int} {KC KM : Mem → Mem → Prop} (hc : ∀ Q : Post, (∀ σ', KC σ σ' → Q (some (vI a)) t σ') → WPc l g eC d 0 0 (vR 0 :: as) t σ Q) (hm : ∀ σ1, KC σ σ1 → ∀ Q : Post, (∀ σ', KM σ1 σ' → Q (some (vI a)) t σ') → WPc l g eM d 0 0 (vR 175 :: as) t σ1 Q) (hi : ∀ σ1 σ2, KC σ σ1 → KM σ1 σ2 → Inv (c + 1) t σ2) : JJ l g d eC eM as c t σ :=
  hc _ (fun σ1 h1 => ⟨a, rfl, rfl, hm σ1 h1 _ (fun σ2 h2 => ⟨rfl, rfl, hi σ1 σ2 h1 h2⟩)⟩)
theorem QFr.hi {σ σ' : Mem} (h : QFr σ σ') {o : Int} (ho : 175 ≤ o) : σ' o = σ o := h o (by unfold scr; omega)
theorem QFM.lo {σ σ' : Mem} (h : QFM σ σ') {o : Int} (ho : o < 175) : σ' o = σ o := h.1 o (by omega) (by unfold scrM; omega)
/-- a question -/
theorem JJ.q {q : QA} (h : CR S t σ) (hM : MRl c S t σ) (hP : PI c S) (hc : ∀ Q : Post, ansC q t σ Q → WPc l g eC d 0 0 (vR 0 :: as) t σ Q) (hm : ∀ σ1 (Q : Post), MRl c S t σ1 → ansM q t σ1 Q → WPc l g eM d 0 0 (vR 175 :: as) t σ1 Q) : JJ l g d eC eM as c t σ := by
  refine JJ.mk (a := q.1) (KC := fun s s' => QTo s s' q.2) (KM := fun s s' => QTM s s' q.2) hc (fun σ1 h1 Q z => hm σ1 Q (hM.fr (Nat.le_refl _) (fun o a _ => h1.1.hi a)) z) (fun σ1 σ2 h1 h2 => ?_)
  obtain ⟨a, q2⟩ := q
  have hM1 : MRl c S t σ1 := hM.fr (Nat.le_refl _) (fun o a _ => h1.1.hi a)
  have lo : ∀ o, o < 175 → σ2 o = σ1 o := fun o ho => h2.1.lo ho
  cases q2 with
  | none =>
    obtain ⟨c1, c3, c4⟩ := h1
    obtain ⟨m1, m8, m7, m9⟩ := h2
    refine ⟨S, ?_, ?_, hP.up⟩
    · exact h.cg (R := aO S) (fun o a b c => (lo o b).trans (c1 o c)) (h.2.2.2.2.1.cg ((lo 3 (by omega)).trans c3) ((lo 4 (by omega)).trans c4))
    · exact hM1.cg (R := aO S) (by omega) (fun o a b c => m1.1 o (by omega) c) m1.2 (by
        have := hM1.2.2.2.1
        unfold rmIs
        rw [m7, m9]
        exact this)
  | some L =>
    obtain ⟨c1, cr⟩ := h1
    obtain ⟨m1, m8, mr⟩ := h2
    refine ⟨toS S (aV S) (aP S).1 (aP S).2 L, ?_, ?_, hP.up⟩
    · exact h.cg (R := L) (fun o a b c => (lo o b).trans (c1 o c)) (rwIs.cg cr (lo 3 (by omega)) (lo 4 (by omega)))
    · exact hM1.cg (R := L) (by omega) (fun o a b c => m1.1 o (by omega) c) m1.2 mr
/-- a call that changes the sea -/
theorem JJ.s {a : Int} {V : Int → Int} {p : Nat} {U : Nat → Int → Int} {r : Option (List Int)} (h : CR S t σ) (hM : MRl c S t σ) (hc : ∀ Q : Post, (∀ σ', CTo t σ σ' V p U r → Q (some (vI a)) t σ') → WPc l g eC d 0 0 (vR 0 :: as) t σ Q) (hm : ∀ σ1 (Q : Post), MRl c S t σ1 → (∀ σ', MTo σ1 σ' V p U r → Q (some (vI a)) t σ') → WPc l g eM d 0 0 (vR 175 :: as) t σ1 Q) (hP : ∀ R, PI (c + 1) (toS S V p U R)) : JJ l g d eC eM as c t σ := by
  have fr : ∀ σ1, CTo t σ σ1 V p U r → MRl c S t σ1 := fun σ1 h1 => hM.fr (Nat.le_refl _) (fun o a _ => h1.1 o (by unfold scr; omega) (by omega))
  refine JJ.mk (a := a) (KC := fun s s' => CTo t s s' V p U r) (KM := fun s s' => MTo s s' V p U r) hc (fun σ1 h1 Q z => hm σ1 Q (fr σ1 h1) z) (fun σ1 σ2 h1 h2 => ?_)
  have hM1 := fr σ1 h1
  obtain ⟨c1, ⟨c2, c3, c4, c5⟩, c6, cr⟩ := h1
  obtain ⟨⟨m1, m2⟩, m3, m4, m5, mr⟩ := h2
  have lo : ∀ o, o < 175 → σ2 o = σ1 o := fun o ho => m1 o (by omega) (by unfold scrM; omega) (by omega) (by omega)
  obtain ⟨-, n1, n2, n3⟩ := h.2.1
  have go : ∀ R, rwIs σ1 R → rmIs σ2 R → Inv (c + 1) t σ2 := by
    intro R r1 r2
    have hC1 : CR (toS S V p U R) t σ1 := h.mk2 (fun o _ _ x y => c1 o x y) ⟨c2, c3.trans n1, c4.trans n2, c5⟩ c6 r1
    refine ⟨toS S V p U R, hC1.fr (fun o _ b => lo o b), ?_, hP R⟩
    exact hM1.mk2 (by omega) (fun o a b c d e => m1 o (by omega) c d e) (fun j a b => m2 j a b) m3 hC1.wf m4 r2
  cases r with
  | none =>
    refine go (aO S) (h.2.2.2.2.1.cg cr.1 cr.2) ?_
    have := hM1.2.2.2.1
    unfold rmIs
    rw [mr.1, mr.2]
    exact this
  | some L => exact go L cr mr
end JJS
