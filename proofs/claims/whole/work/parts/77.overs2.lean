/-! campaigns and years, OVERS counted from 0 -/
theorem Sh.roundJ {c : Int} {n : Nat} {M V V' : Int → Int} (h : Sh c V V') (c0 : 0 ≤ c) (hW : WFV n M V) {F : (Int → Int) → Int} {k : Int} {i : Nat} {x x' : Int → Int} (hx : Sh c x x' ∧ x 49 ≤ V 49 + 2) (hv : V 49 + 2 ≤ 9999) : ∀ r j : Nat, Sh c (roundJ F n k V i x r j) (roundJ F n k V' i x' r j) ∧ roundJ F n k V i x r j 49 ≤ V 49 + 2
  | 0, _ => hx
  | r + 1, j => by
    have ew := h.win hW (F := F) (i := i) (j := j)
    show Sh c (if winA F n V i j < 0 then _ else _) (if winA F n V' i j < 0 then _ else _) ∧ (if winA F n V i j < 0 then _ else _ : Int → Int) 49 ≤ _
    rw [← ew]
    by_cases hz : winA F n V i j < 0
    · rw [if_pos hz, if_pos hz]
      exact h.roundJ c0 hW hx hv r (j + 1)
    · rw [if_neg hz, if_neg hz]
      exact h.fgt c0 hW hv
theorem Sh.round {c : Int} {n : Nat} {M V V' : Int → Int} (h : Sh c V V') (c0 : 0 ≤ c) (hW : WFV n M V) {F : (Int → Int) → Int} {k : Int} (hv : V 49 + 2 ≤ 9999) : Sh c (roundV F n k V) (roundV F n k V') ∧ roundV F n k V 49 ≤ V 49 + 2 := by
  have key : ∀ r i : Nat, Sh c (roundI F n k V r i) (roundI F n k V' r i) ∧ roundI F n k V r i 49 ≤ V 49 + 2 := by
    intro r
    induction r with
    | zero => intro i; exact ⟨h, by show V 49 ≤ _; omega⟩
    | succ r ih => intro i; exact h.roundJ c0 hW (ih (i + 1)) hv r (i + 1)
  exact key n 0
theorem Sh.camp {c : Int} {n : Nat} {M V V' : Int → Int} (h : Sh c V V') (c0 : 0 ≤ c) (hW : WFV n M V) {F : (Int → Int) → Int} {k : Int} (hk : 1 ≤ k ∧ k ≤ 6) : ∀ r : Nat, V 49 + 2 * r ≤ 9999 → Sh c (campV F n M k V r) (campV F n M k V' r) ∧ campV F n M k V r 49 ≤ V 49 + 2 * r
  | 0, _ => ⟨h, by show V 49 ≤ _; omega⟩
  | r + 1, hv => by
    obtain ⟨i1, i2⟩ := h.camp c0 hW (F := F) hk r (by omega)
    have hWr := wf_camp (F := F) hW hk r
    obtain ⟨r1, r2⟩ := i1.round c0 hWr (F := F) (k := k) (by omega)
    obtain ⟨d1, d2⟩ := r1.day (wf_round hWr hk)
    exact ⟨d1, by show dayV n M (roundV F n k (campV F n M k V r)) 49 ≤ _; omega⟩
theorem sh_0 (V : Int → Int) : Sh (V 49) V (upv V 49 0) := ⟨fun j hj => by rw [upv_n hj], by rw [upv_s]; omega⟩
theorem rowN_cg {f g : Int → Int} : ∀ {n : Nat}, (∀ i : Nat, i < n → f i = g i) → rowN f n = rowN g n
  | 0, _ => rfl
  | n + 1, h => by
    show rowN f n ++ [f n] = rowN g n ++ [g n]
    rw [rowN_cg (fun i hi => h i (by omega)), h n (by omega)]
theorem camp_eq {F : (Int → Int) → Int} {n : Nat} {M V : Int → Int} {k m : Int} (hW : WFV n M V) (hk : 1 ≤ k ∧ k ≤ 6) (hv : V 49 ≤ 9000) : campQ F n M k V m = campMQ F n M k V m := by
  unfold campQ campMQ
  have v0 := hW.2.2.1
  have n6 := hW.1
  by_cases hm : 0 ≤ m ∧ m ≤ 40
  · rw [if_pos hm, if_pos hm]
    obtain ⟨h1, h2⟩ := (sh_0 V).camp v0.1 hW (F := F) hk m.toNat (by omega)
    have hWm := wf_camp (F := F) hW hk m.toNat
    have e := h1.2
    have w0 := (wf_camp (F := F) (wf_49 hW (x := 0) (by omega)) hk m.toNat).2.2.1
    refine Prod.ext ?_ ?_
    · show w32 _ = _
      rw [w32_id (by omega) (by omega)]; omega
    · show some _ = some _
      rw [rowN_cg (f := fun i => campV F n M k V m.toNat (6 + i)) (g := fun i => campV F n M k (upv V 49 0) m.toNat (6 + i)) (fun i hi => h1.1 (6 + i) (by omega))]
  · rw [if_neg hm, if_neg hm]
theorem Sh.year {c : Int} {n : Nat} {M V V' : Int → Int} (h : Sh c V V') (c0 : 0 ≤ c) (hW : WFV n M V) {F : (Int → Int) → Int} {k R : Int} (hv : V 49 + 2 ≤ 9999) : (yearV F n M k (R, V)).1 = (yearV F n M k (R, V')).1 ∧ Sh c (yearV F n M k (R, V)).2 (yearV F n M k (R, V')).2 ∧ (yearV F n M k (R, V)).2 49 ≤ V 49 + 2 := by
  unfold yearV
  by_cases h1 : drw R 4 = 0
  · simp only [h1, if_true]
    obtain ⟨d1, d2⟩ := h.day hW
    exact ⟨trivial, d1, by omega⟩
  · simp only [h1, if_false]
    by_cases h2 : n = 0
    · simp only [h2, if_true]
      exact ⟨trivial, h, by omega⟩
    · simp only [h2, if_false]
      by_cases h3 : drw R 4 = 3
      · simp only [h3, if_true]
        obtain ⟨d1, d2⟩ := h.sewn c0 hW (s := drw (nxR R) n) (f := drw (nxR (nxR R)) 4) (k := 1) hv
        exact ⟨trivial, d1, by omega⟩
      · simp only [h3, if_false]
        obtain ⟨d1, d2⟩ := h.fgt c0 hW (F := F) (k := k) (i := drw (nxR R) n) (j := drw (nxR (nxR R)) n) hv
        exact ⟨trivial, d1, d2⟩
theorem Sh.yrs {c : Int} {n : Nat} {M V V' : Int → Int} (h : Sh c V V') (c0 : 0 ≤ c) (hW : WFV n M V) {F : (Int → Int) → Int} {k R : Int} (hk : 1 ≤ k ∧ k ≤ 6) : ∀ r : Nat, V 49 + 2 * r ≤ 9999 → (yrsV F n M k R V r).1 = (yrsV F n M k R V' r).1 ∧ Sh c (yrsV F n M k R V r).2 (yrsV F n M k R V' r).2 ∧ (yrsV F n M k R V r).2 49 ≤ V 49 + 2 * r
  | 0, _ => ⟨rfl, h, by show V 49 ≤ _; omega⟩
  | r + 1, hv => by
    obtain ⟨i1, i2, i3⟩ := h.yrs c0 hW (F := F) (R := R) hk r (by omega)
    have hWr := wf_yrs (F := F) (R := R) hW hk r
    have es : yrsV F n M k R V (r + 1) = yearV F n M k (yrsV F n M k R V r) := rfl
    have es' : yrsV F n M k R V' (r + 1) = yearV F n M k (yrsV F n M k R V' r) := rfl
    rw [es, es']
    generalize yrsV F n M k R V r = S at i1 i2 i3 hWr
    generalize yrsV F n M k R V' r = S' at i1 i2
    obtain ⟨a, W⟩ := S
    obtain ⟨a', W'⟩ := S'
    simp only at i1 i2 i3 hWr
    subst i1
    obtain ⟨y1, y2, y3⟩ := i2.year c0 hWr (F := F) (k := k) (R := a) (by omega)
    exact ⟨y1, y2, by omega⟩
theorem sumN_cq {f g : Int → Int} : ∀ {n : Nat}, (∀ i : Nat, i < n → f i = g i) → sumN f n = sumN g n
  | 0, _ => rfl
  | n + 1, h => by
    unfold sumN
    rw [sumN_cq (fun i hi => h i (by omega)), h n (by omega)]
theorem yrs_eq {F : (Int → Int) → Int} {n : Nat} {M V : Int → Int} {k R : Int} {m : Nat} (hW : WFV n M V) (hk : 1 ≤ k ∧ k ≤ 6) (hv : V 49 ≤ 9000) (hm : m ≤ 60) : yrsQ n V (yrsV F n M k R V m).2 = yrsMQ n (yrsV F n M k R (upv V 49 0) m).2 := by
  have v0 := hW.2.2.1
  have n6 := hW.1
  obtain ⟨-, h1, h2⟩ := (sh_0 V).yrs v0.1 hW (F := F) (R := R) hk m (by omega)
  have hW0 := wf_49 hW (x := 0) (by omega)
  have hWm := wf_yrs (F := F) (R := R) hW0 hk m
  have w0 := hWm.2.2.1
  have e := h1.2
  generalize (yrsV F n M k R V m).2 = W at h1 h2 e
  generalize (yrsV F n M k R (upv V 49 0) m).2 = W' at h1 hWm w0 e
  unfold yrsQ yrsMQ
  have s1 : sumW (fun i => W' (0 + i)) n = sumN W n := by
    rw [sumW_eq n (by omega) (fun i a b => by
      have := (hWm.2.1 i a b).1
      rw [Int.zero_add]; omega)]
    exact sumN_cq (fun i hi => by rw [Int.zero_add]; exact (h1.1 i (by omega)).symm)
  have s2 : sumW (fun i => W' (36 + i)) n = sumN (fun i => W (36 + i)) n := by
    rw [sumW_eq n (by omega) (fun i a b => by
      have := (hWm.2.1 i a b).2.2.2.2.1
      omega)]
    exact sumN_cq (fun i hi => (h1.1 (36 + i) (by omega)).symm)
  refine Prod.ext ?_ ?_
  · show w32 _ = _
    rw [w32_id (by omega) (by omega)]; omega
  · show some _ = some _
    rw [s1, s2]
