/-! the sea as a value: its number of ships, mights, the row -/
def nS (σ : Mem) (a : Int) : Nat := (σ a 0).toNat
def mS (σ : Mem) (a : Int) : Int → Int := fun i => if 0 ≤ i ∧ i < 6 then σ (a + 1) i else 0
def SeaOk (t : Tau) (σ : Mem) (a : Int) : Prop := SeaT t a ∧ σ a 0 = (nS σ a : Int) ∧ WFV (nS σ a) (mS σ a) (vwS σ a)
theorem mS_in {σ : Mem} {a i : Int} (h0 : 0 ≤ i) (h1 : i < 6) : σ (a + 1) i = mS σ a i := by
  unfold mS; rw [if_pos ⟨h0, h1⟩]
theorem WFV.cg {n : Nat} {M M' V : Int → Int} (h : WFV n M V) (e : ∀ i : Int, 0 ≤ i → i < n → M' i = M i) : WFV n M' V := by
  obtain ⟨q0, q1, q2⟩ := h
  exact ⟨q0, fun i i0 i1 => by rw [e i i0 i1]; exact q1 i i0 i1, q2⟩
theorem dayI_cg {M M' V : Int → Int} : ∀ k : Nat, (∀ i : Int, 0 ≤ i → i < k → M' i = M i) → dayI M' V k = dayI M V k
  | 0, _ => rfl
  | k + 1, e => by
    show day1 M' (dayI M' V k) k = day1 M (dayI M V k) k
    rw [dayI_cg k (fun i i0 i1 => e i i0 (by omega))]
    unfold day1
    rw [e k (by omega) (by omega)]
theorem daysV_cg {n : Nat} {M M' V : Int → Int} (e : ∀ i : Int, 0 ≤ i → i < n → M' i = M i) : ∀ k : Nat, daysV n M' V k = daysV n M V k
  | 0 => rfl
  | k + 1 => by
    show dayV n M' (daysV n M' V k) = dayV n M (daysV n M V k)
    rw [daysV_cg e k]
    unfold dayV
    rw [dayI_cg n e]
theorem hsA {t : Tau} {σ : Mem} {a s : Int} (h : SeaOk t σ a) : hsB σ a s ↔ (0 ≤ s ∧ s < nS σ a) := by
  have n6 := h.2.2.1
  have := h.2.1
  constructor
  · rintro ⟨h1, h2, h3⟩; omega
  · rintro ⟨h1, h2⟩; exact ⟨h1, by omega, by omega⟩
theorem SeaFr.n {σ σ' : Mem} {a : Int} (h : SeaFr σ σ' a) : nS σ' a = nS σ a := by unfold nS; rw [h.2.2]
theorem SeaFr.m {σ σ' : Mem} {a : Int} (h : SeaFr σ σ' a) : mS σ' a = mS σ a := by unfold mS; rw [h.2.1]
theorem SeaFr.ok {t : Tau} {σ σ' : Mem} {a : Int} (h : SeaFr σ σ' a) (k : SeaOk t σ a) (w : WFV (nS σ a) (mS σ a) (vwS σ' a)) : SeaOk t σ' a := by
  refine ⟨k.1, ?_, ?_⟩
  · rw [h.2.2, h.n]; exact k.2.1
  · rw [h.n, h.m]; exact w
/-- all that isn't this sea's -/
def SeaX (σ σ' : Mem) (a : Int) : Prop := ∀ o, (o < a ∨ a + 6 < o) → σ' o = σ o
theorem SeaX.rf {σ : Mem} {a : Int} : SeaX σ σ a := fun _ _ => rfl
theorem SeaX.tr {σ σ' σ'' : Mem} {a : Int} (h : SeaX σ σ' a) (h' : SeaX σ' σ'' a) : SeaX σ σ'' a := fun o ho => (h' o ho).trans (h o ho)
theorem sea_cg {σ σ' : Mem} {a : Int} (h : ∀ o, a ≤ o → o ≤ a + 6 → σ' o = σ o) : nS σ' a = nS σ a ∧ mS σ' a = mS σ a ∧ vwS σ' a = vwS σ a := by
  refine ⟨?_, ?_, ?_⟩
  · unfold nS; rw [h a (by omega) (by omega)]
  · unfold mS; rw [h (a + 1) (by omega) (by omega)]
  · unfold vwS
    rw [h a (by omega) (by omega), h (a + 2) (by omega) (by omega), h (a + 3) (by omega) (by omega), h (a + 4) (by omega) (by omega), h (a + 5) (by omega) (by omega), h (a + 6) (by omega) (by omega)]
theorem seaok_cg {t : Tau} {σ σ' : Mem} {a : Int} (h : ∀ o, a ≤ o → o ≤ a + 6 → σ' o = σ o) (k : SeaOk t σ a) : SeaOk t σ' a := by
  obtain ⟨e1, e2, e3⟩ := sea_cg h
  refine ⟨k.1, ?_, ?_⟩
  · rw [h a (by omega) (by omega), e1]; exact k.2.1
  · rw [e1, e2, e3]; exact k.2.2
theorem SeaCp.eqs {t : Tau} {σ σ' : Mem} {a b : Int} (h : SeaCp σ σ' a b) (k : SeaOk t σ b) (ha : SeaT t a) : SeaOk t σ' a ∧ nS σ' a = nS σ b ∧ mS σ' a = mS σ b ∧ vwS σ' a = vwS σ b := by
  obtain ⟨h1, h2, h3, h4⟩ := h
  have e1 : nS σ' a = nS σ b := by unfold nS; rw [h2]
  have e2 : mS σ' a = mS σ b := by
    funext i
    unfold mS
    by_cases hi : 0 ≤ i ∧ i < 6
    · rw [if_pos hi, if_pos hi, h3 i hi.1 hi.2]
    · rw [if_neg hi, if_neg hi]
  refine ⟨⟨ha, ?_, ?_⟩, e1, e2, h4⟩
  · rw [h2, e1]; exact k.2.1
  · rw [e1, e2, h4]; exact k.2.2
/-! contracts over the value -/
def apHas : Sp := fun as t σ Q => aRI as fun a s => SeaOk t σ a ∧ Q (some (vI (if 0 ≤ s ∧ s < nS σ a then 1 else 0))) t σ
theorem a_has {l : Launch} {g : GE} {d : Nat} {t : Tau} {σ : Mem} {Q : Post} {as : List TV} (h : apHas as t σ Q) : WPc l g 41 (d + 1) 0 0 as t σ Q := by
  obtain ⟨a, s, rfl, hk, h⟩ := aRI_e h
  refine c_has ⟨hk.1, ?_⟩
  simp only [hsA hk]
  exact h
def apPair : Sp := fun as t σ Q => aRII as fun a s r => SeaOk t σ a ∧ Q (some (vI (if (0 ≤ s ∧ s < nS σ a) ∧ (0 ≤ r ∧ r < nS σ a) ∧ s ≠ r then 1 else 0))) t σ
theorem a_isPair {l : Launch} {g : GE} {d : Nat} {t : Tau} {σ : Mem} {Q : Post} {as : List TV} (h : apPair as t σ Q) : WPc l g 42 (d + 2) 0 0 as t σ Q := by
  obtain ⟨a, s, r, rfl, hk, h⟩ := aRII_e h
  refine c_isPair ⟨hk.1, ?_⟩
  simp only [hsA hk]
  exact h
/-- a number of a ship's -/
def apOf (k : Int) (w : Int) : Sp := fun as t σ Q => aRI as fun a s => SeaOk t σ a ∧ Q (some (vI (if 0 ≤ s ∧ s < nS σ a then vwS σ a (k + s) else w))) t σ
def apMight : Sp := fun as t σ Q => aRI as fun a s => SeaOk t σ a ∧ Q (some (vI (if 0 ≤ s ∧ s < nS σ a then mS σ a s else 0))) t σ
theorem a_mightOf {l : Launch} {g : GE} {d : Nat} {t : Tau} {σ : Mem} {Q : Post} {as : List TV} (h : apMight as t σ Q) : WPc l g 43 (d + 2) 0 0 as t σ Q := by
  obtain ⟨a, s, rfl, hk, h⟩ := aRI_e h
  refine c_mightOf ⟨hk.1, ?_⟩
  have n6 := hk.2.2.1
  simp only [hsA hk]
  by_cases hs : 0 ≤ s ∧ s < nS σ a
  · rw [if_pos hs] at h ⊢; rw [mS_in (σ := σ) (a := a) hs.1 (by omega)]; exact h
  · rw [if_neg hs] at h ⊢; exact h
theorem a_strengthOf {l : Launch} {g : GE} {d : Nat} {t : Tau} {σ : Mem} {Q : Post} {as : List TV} (h : apOf 0 0 as t σ Q) : WPc l g 44 (d + 2) 0 0 as t σ Q := by
  obtain ⟨a, s, rfl, hk, h⟩ := aRI_e h
  refine c_strengthOf ⟨hk.1, ?_⟩
  have n6 := hk.2.2.1
  simp only [hsA hk]
  by_cases hs : 0 ≤ s ∧ s < nS σ a
  · rw [if_pos hs] at h ⊢; rw [vw_st (σ := σ) (a := a) hs.1 (by omega)]; rw [show (0 : Int) + s = s by omega] at h; exact h
  · rw [if_neg hs] at h ⊢; exact h
theorem a_sideOf {l : Launch} {g : GE} {d : Nat} {t : Tau} {σ : Mem} {Q : Post} {as : List TV} (h : apOf 6 (-1) as t σ Q) : WPc l g 45 (d + 2) 0 0 as t σ Q := by
  obtain ⟨a, s, rfl, hk, h⟩ := aRI_e h
  refine c_sideOf ⟨hk.1, ?_⟩
  have n6 := hk.2.2.1
  simp only [hsA hk]
  by_cases hs : 0 ≤ s ∧ s < nS σ a
  · rw [if_pos hs] at h ⊢; rw [vw_sd (σ := σ) (a := a) hs.1 (by omega)]; exact h
  · rw [if_neg hs] at h ⊢; exact h
theorem a_wonOf {l : Launch} {g : GE} {d : Nat} {t : Tau} {σ : Mem} {Q : Post} {as : List TV} (h : apOf 36 0 as t σ Q) : WPc l g 46 (d + 2) 0 0 as t σ Q := by
  obtain ⟨a, s, rfl, hk, h⟩ := aRI_e h
  refine c_wonOf ⟨hk.1, ?_⟩
  have n6 := hk.2.2.1
  simp only [hsA hk]
  by_cases hs : 0 ≤ s ∧ s < nS σ a
  · rw [if_pos hs] at h ⊢; rw [vw_wn (σ := σ) (a := a) hs.1 (by omega)]; exact h
  · rw [if_neg hs] at h ⊢; exact h
theorem a_lostOf {l : Launch} {g : GE} {d : Nat} {t : Tau} {σ : Mem} {Q : Post} {as : List TV} (h : apOf 42 0 as t σ Q) : WPc l g 47 (d + 2) 0 0 as t σ Q := by
  obtain ⟨a, s, rfl, hk, h⟩ := aRI_e h
  refine c_lostOf ⟨hk.1, ?_⟩
  have n6 := hk.2.2.1
  simp only [hsA hk]
  by_cases hs : 0 ≤ s ∧ s < nS σ a
  · rw [if_pos hs] at h ⊢; rw [vw_ls (σ := σ) (a := a) hs.1 (by omega)]; exact h
  · rw [if_neg hs] at h ⊢; exact h
def apParts : Sp := fun as t σ Q => aRII as fun a s f => SeaOk t σ a ∧ Q (some (vI (if (0 ≤ s ∧ s < nS σ a) ∧ 0 ≤ f ∧ f < 4 then partV (vwS σ a) s f else 0))) t σ
theorem a_parts {l : Launch} {g : GE} {d : Nat} {t : Tau} {σ : Mem} {Q : Post} {as : List TV} (h : apParts as t σ Q) : WPc l g 48 (d + 2) 0 0 as t σ Q := by
  obtain ⟨a, s, f, rfl, hk, h⟩ := aRII_e h
  refine c_parts ⟨hk.1, ?_⟩
  have n6 := hk.2.2.1
  simp only [hsA hk]
  by_cases hs : (0 ≤ s ∧ s < nS σ a) ∧ 0 ≤ f ∧ f < 4
  · rw [if_pos hs] at h ⊢; rw [vw_fl (σ := σ) (a := a) (j := 4 * s + f) (by omega) (by omega), ← Int.add_assoc]; exact h
  · rw [if_neg hs] at h ⊢; exact h
def apBecomes : Sp := fun as t σ Q => pR as fun a r => pR r fun b r => r = [] ∧ SeaT t a ∧ SeaOk t σ b ∧ (a + 6 < b ∨ b + 6 < a) ∧ ∀ σ', SeaX σ σ' a → SeaOk t σ' a → nS σ' a = nS σ b → mS σ' a = mS σ b → vwS σ' a = vwS σ b → Q none t σ'
theorem a_becomes {l : Launch} {g : GE} {d : Nat} {t : Tau} {σ : Mem} {Q : Post} {as : List TV} (h : apBecomes as t σ Q) : WPc l g 40 (d + 1) 0 0 as t σ Q := by
  obtain ⟨a, r1, rfl, h1⟩ := pR_e h
  obtain ⟨b, r2, rfl, rfl, hs, hb, hd, h⟩ := pR_e h1
  refine c_becomes (show [] = [] ∧ SeaT t a ∧ _ from ?_)
  refine ⟨rfl, hs, hb.1, hd, fun σ' hc => ?_⟩
  obtain ⟨k0, k1, k2, k3⟩ := hc.eqs hb hs
  exact h σ' hc.1 k0 k1 k2 k3
/-- a sea that changed: all else stays, the row is V -/
def SeaTo (t : Tau) (σ σ' : Mem) (a : Int) (V : Int → Int) : Prop := SeaX σ σ' a ∧ SeaOk t σ' a ∧ nS σ' a = nS σ a ∧ mS σ' a = mS σ a ∧ vwS σ' a = V
theorem SeaFr.to {t : Tau} {σ σ' : Mem} {a : Int} {V : Int → Int} (h : SeaFr σ σ' a) (k : SeaOk t σ a) (w : WFV (nS σ a) (mS σ a) V) (e : vwS σ' a = V) : SeaTo t σ σ' a V := ⟨h.1, h.ok k (by rw [e]; exact w), h.n, h.m, e⟩
def apDawns : Sp := fun as t σ Q => aRI as fun a k => SeaOk t σ a ∧ (0 ≤ k ∧ k ≤ 1000) ∧ ∀ σ', SeaTo t σ σ' a (daysV (nS σ a) (mS σ a) (vwS σ a) k.toNat) → Q none t σ'
theorem a_dawns {l : Launch} {g : GE} {d : Nat} {t : Tau} {σ : Mem} {Q : Post} {as : List TV} (h : apDawns as t σ Q) : WPc l g 65 (d + 5) 0 0 as t σ Q := by
  obtain ⟨a, k, rfl, hk, ⟨k0, k1⟩, h⟩ := aRI_e h
  have n6 := hk.2.2.1
  have eM : ∀ i : Int, 0 ≤ i → i < nS σ a → mS σ a i = σ (a + 1) i := fun i i0 i1 => (mS_in i0 (by omega)).symm
  refine c_dawns ⟨nS σ a, k.toNat, by omega, by omega, ⟨hk.1, hk.2.1, hk.2.2.cg (fun i i0 i1 => (eM i i0 i1).symm)⟩, fun σ' F _ V => ?_⟩
  exact h σ' (F.to hk (wf_days hk.2.2 _) (V.trans (daysV_cg eM k.toNat).symm))
/-! what is sewn in, what yields, strengths -/
def sewA (n : Nat) (V : Int → Int) (s f k : Int) : Int := if (0 ≤ s ∧ s < n) ∧ (0 ≤ f ∧ f < 4) ∧ (1 ≤ k ∧ k ≤ 12) then (if ownV V s < k then -2 else if V (6 + s) = f then -3 else sewV V s f k (6 + s)) else -1
def sewN (n : Nat) (V : Int → Int) (s f k : Int) : Int → Int := if ((0 ≤ s ∧ s < n) ∧ (0 ≤ f ∧ f < 4) ∧ (1 ≤ k ∧ k ≤ 12)) ∧ ¬ ownV V s < k ∧ V (6 + s) ≠ f then sewV V s f k else V
theorem wf_sewN {n : Nat} {M V : Int → Int} (h : WFV n M V) (s f k : Int) : WFV n M (sewN n V s f k) := by
  unfold sewN
  split
  · rename_i c
    obtain ⟨⟨c1, c2, c3⟩, c4, c5⟩ := c
    exact h.sewV c1.1 c1.2 c2 c5 ⟨by omega, by omega⟩
  · exact h
def apSewsIn : Sp := fun as t σ Q => aRIII as fun a s f k => SeaOk t σ a ∧ ∀ σ', SeaTo t σ σ' a (sewN (nS σ a) (vwS σ a) s f k) → Q (some (vI (sewA (nS σ a) (vwS σ a) s f k))) t σ'
theorem SeaTo.rf {t : Tau} {σ : Mem} {a : Int} (h : SeaOk t σ a) : SeaTo t σ σ a (vwS σ a) := ⟨SeaX.rf, h, rfl, rfl, rfl⟩
theorem a_sewsIn {l : Launch} {g : GE} {d : Nat} {t : Tau} {σ : Mem} {Q : Post} {as : List TV} (h : apSewsIn as t σ Q) : WPc l g 67 (d + 4) 0 0 as t σ Q := by
  obtain ⟨a, s, f, k, rfl, hk, h⟩ := aRIII_e h
  have hw := fun s f k => wf_sewN hk.2.2 s f k
  have hw' := hw s f k
  unfold sewA at h
  unfold sewN at h hw'
  refine c_sewsIn ⟨hk.1, fun z => hk.2.2.sh ((hsA hk).mp z).1 ((hsA hk).mp z).2, ?_, ?_⟩
  · intro z
    rw [hsA hk] at z
    rw [if_neg (fun y => z y.1), if_neg z] at h
    exact h σ (SeaTo.rf hk)
  · intro z1 z2 z3
    rw [hsA hk] at z1
    have zc := And.intro z1 (And.intro z2 z3)
    rw [if_pos zc] at h
    refine ⟨fun y => ?_, fun y => ⟨fun x => ?_, fun x σ' F _ V => ?_⟩⟩
    · rw [if_neg (fun w => w.2.1 y), if_pos y] at h
      exact h σ (SeaTo.rf hk)
    · rw [if_neg (fun w => w.2.2 x), if_neg y, if_pos x] at h
      exact h σ (SeaTo.rf hk)
    · rw [if_pos ⟨zc, y, x⟩] at hw' h
      rw [if_neg y, if_neg x] at h
      exact h σ' (F.to hk hw' V)
def yieldA (n : Nat) (V : Int → Int) (s f : Int) : Int := if (0 ≤ s ∧ s < n) ∧ (0 ≤ f ∧ f < 4) then (if partV V s f = 12 then -2 else 12 - partV V s f) else -1
def yieldN (n : Nat) (V : Int → Int) (s f : Int) : Int → Int := if ((0 ≤ s ∧ s < n) ∧ (0 ≤ f ∧ f < 4)) ∧ partV V s f ≠ 12 then yieldV V s f else V
theorem hoist_n {V : Int → Int} {i s j : Int} : ∀ k : Nat, (∀ m : Nat, m < k → j ≠ 12 + 4 * i + m) → hoist4 V i s k j = V j
  | 0, _ => rfl
  | k + 1, h => by
    show upv (hoist4 V i s k) (12 + 4 * i + k) _ j = _
    rw [upv_n (h k (by omega))]
    exact hoist_n k fun m hm => h m (by omega)
theorem hoist_at {V : Int → Int} {i s : Int} {k : Nat} {m : Nat} (h : m < k) : hoist4 V i s k (12 + 4 * i + m) = if (m : Int) = s then 12 else 0 := by
  induction k with
  | zero => omega
  | succ k ih =>
    show upv (hoist4 V i s k) (12 + 4 * i + k) _ _ = _
    by_cases hm : m = k
    · subst hm; rw [upv_s]
    · rw [upv_n (by omega)]; exact ih (by omega)
theorem yield_n {V : Int → Int} {i s j : Int} (h : j < 12 + 4 * i ∨ 12 + 4 * i + 4 ≤ j) (h6 : j ≠ 6 + i) : yieldV V i s j = V j := by
  unfold yieldV
  rw [upv_n h6, hoist_n 4 (fun m hm => by omega)]
theorem yield_6 {V : Int → Int} {i s : Int} : yieldV V i s (6 + i) = s := by unfold yieldV; rw [upv_s]
theorem yield_p {V : Int → Int} {i s f : Int} (hi : i < 6) (i0 : 0 ≤ i) (f0 : 0 ≤ f) (f4 : f < 4) : partV (yieldV V i s) i f = if f = s then 12 else 0 := by
  unfold yieldV partV
  rw [upv_n (by omega)]
  obtain ⟨m, rfl⟩ : ∃ m : Nat, f = m := ⟨f.toNat, by omega⟩
  exact hoist_at (by omega)
theorem WFV.yield {n : Nat} {M V : Int → Int} (h : WFV n M V) {i s : Int} (h0 : 0 ≤ i) (h1 : i < n) (hs : 0 ≤ s ∧ s < 4) : WFV n M (yieldV V i s) := by
  obtain ⟨q0, q1, q2, q3, q4⟩ := h
  refine ⟨q0, fun j j0 j1 => ?_, ?_, ?_, fun j hj => ?_⟩
  · obtain ⟨s0, a, pj, st, w, lo⟩ := q1 j j0 j1
    by_cases hj : j = i
    · subst hj
      refine ⟨by rw [yield_n (by omega) (by omega)]; exact s0, by rw [yield_6]; exact hs, ?_, fun f z0 z1 => ?_, by rw [yield_n (by omega) (by omega)]; exact w, by rw [yield_n (by omega) (by omega)]; exact lo⟩
      · rw [yield_p (by omega) h0 (by omega) (by omega), yield_p (by omega) h0 (by omega) (by omega), yield_p (by omega) h0 (by omega) (by omega), yield_p (by omega) h0 (by omega) (by omega)]
        rcases (show s = 0 ∨ s = 1 ∨ s = 2 ∨ s = 3 by omega) with rfl | rfl | rfl | rfl <;> simp
      · show partV _ j f ≤ partV (yieldV V j s) j (yieldV V j s (6 + j))
        rw [yield_6, yield_p (by omega) h0 z0 z1, yield_p (by omega) h0 hs.1 hs.2]
        split <;> simp
    · have e6 : yieldV V i s (6 + j) = V (6 + j) := yield_n (by omega) (by omega)
      have ep : ∀ f, 0 ≤ f → f < 4 → partV (yieldV V i s) j f = partV V j f := fun f z0 z1 => yield_n (by omega) (by omega)
      refine ⟨by rw [yield_n (by omega) (by omega)]; exact s0, by rw [e6]; exact a, ?_, fun f z0 z1 => ?_, by rw [yield_n (by omega) (by omega)]; exact w, by rw [yield_n (by omega) (by omega)]; exact lo⟩
      · rw [ep 0 (by omega) (by omega), ep 1 (by omega) (by omega), ep 2 (by omega) (by omega), ep 3 (by omega) (by omega)]; exact pj
      · show partV _ j f ≤ partV (yieldV V i s) j (yieldV V i s (6 + j))
        rw [e6, ep f z0 z1, ep _ a.1 a.2]; exact st f z0 z1
  · rw [yield_n (by omega) (by omega)]; exact q2
  · rw [yield_n (by omega) (by omega)]; exact q3
  · rw [yield_n (by omega) (by omega)]; exact q4 j hj
theorem wf_yieldN {n : Nat} {M V : Int → Int} (h : WFV n M V) (s f : Int) : WFV n M (yieldN n V s f) := by
  unfold yieldN
  split
  · rename_i c
    exact h.yield c.1.1.1 c.1.1.2 c.1.2
  · exact h
def apStrikesAll : Sp := fun as t σ Q => aRII as fun a s f => SeaOk t σ a ∧ ∀ σ', SeaTo t σ σ' a (yieldN (nS σ a) (vwS σ a) s f) → Q (some (vI (yieldA (nS σ a) (vwS σ a) s f))) t σ'
theorem a_strikesAll {l : Launch} {g : GE} {d : Nat} {t : Tau} {σ : Mem} {Q : Post} {as : List TV} (h : apStrikesAll as t σ Q) : WPc l g 68 (d + 4) 0 0 as t σ Q := by
  obtain ⟨a, s, f, rfl, hk, h⟩ := aRII_e h
  have hw' := wf_yieldN hk.2.2 s f
  unfold yieldA at h
  unfold yieldN at h hw'
  refine c_strikesAll ⟨hk.1, fun z => hk.2.2.sh ((hsA hk).mp z).1 ((hsA hk).mp z).2, ?_, ?_⟩
  · intro z
    rw [hsA hk] at z
    rw [if_neg (fun y => z y.1), if_neg z] at h
    exact h σ (SeaTo.rf hk)
  · intro z1 z2
    rw [hsA hk] at z1
    have zc := And.intro z1 z2
    rw [if_pos zc] at h
    refine ⟨fun y => ?_, fun y σ' F _ V => ?_⟩
    · rw [if_neg (fun w => w.2 y), if_pos y] at h
      exact h σ (SeaTo.rf hk)
    · rw [if_pos ⟨zc, y⟩] at hw' h
      rw [if_neg y] at h
      exact h σ' (F.to hk hw' V)
def apStrengthens : Sp := fun as t σ Q => aRII as fun a s v => SeaOk t σ a ∧ (0 ≤ s ∧ s < nS σ a) ∧ ∀ σ', SeaTo t σ σ' a (upv (vwS σ a) s (max 0 (min (mS σ a s) v))) → Q none t σ'
theorem a_strengthens {l : Launch} {g : GE} {d : Nat} {t : Tau} {σ : Mem} {Q : Post} {as : List TV} (h : apStrengthens as t σ Q) : WPc l g 59 (d + 2) 0 0 as t σ Q := by
  obtain ⟨a, s, v, rfl, hk, hs, h⟩ := aRII_e h
  have n6 := hk.2.2.1
  have hm := (hk.2.2.2.1 s hs.1 hs.2).1
  refine c_strengthens ⟨⟨hk.1, (hsA hk).mpr hs⟩, fun σ' F _ V => h σ' (F.to hk (hk.2.2.st hs.1 hs.2 (by omega) (by omega)) ?_)⟩
  rw [V, mS_in (σ := σ) (a := a) hs.1 (by omega)]
def apStrikesTo : Sp := fun as t σ Q => aRIII as fun a w b k => SeaOk t σ a ∧ (0 ≤ w ∧ w < nS σ a) ∧ (0 ≤ b ∧ b < nS σ a) ∧ vwS σ a (6 + w) ≠ vwS σ a (6 + b) ∧ (1 ≤ k ∧ k ≤ 6) ∧ ∀ σ', SeaTo t σ σ' a (strikeV k (vwS σ a) w b) → Q none t σ'
