/-! OVERS counted from another number -/
def Sh (c : Int) (V V' : Int → Int) : Prop := (∀ j, j ≠ 49 → V j = V' j) ∧ V 49 = V' 49 + c
theorem Sh.up {c : Int} {V V' : Int → Int} (h : Sh c V V') {j x : Int} (hj : j ≠ 49) : Sh c (upv V j x) (upv V' j x) := by
  refine ⟨fun q hq => ?_, by rw [upv_n (by omega), upv_n (by omega)]; exact h.2⟩
  unfold upv
  split
  · rfl
  · exact h.1 q hq
theorem Sh.pt {c : Int} {V V' : Int → Int} (h : Sh c V V') {i s : Int} (h0 : 0 ≤ i) (h1 : i < 6) (s0 : 0 ≤ s) (s1 : s < 4) : partV V i s = partV V' i s := h.1 _ (by omega)
theorem Sh.own {c : Int} {V V' : Int → Int} (h : Sh c V V') {i : Int} (h0 : 0 ≤ i) (h1 : i < 6) (s : 0 ≤ V (6 + i) ∧ V (6 + i) < 4) : ownV V i = ownV V' i := by
  show partV V i (V (6 + i)) = partV V' i (V' (6 + i))
  rw [← h.1 (6 + i) (by omega)]
  exact h.pt h0 h1 s.1 s.2
theorem Sh.best {c : Int} {V V' : Int → Int} (h : Sh c V V') {i : Int} (h0 : 0 ≤ i) (h1 : i < 6) : bestV V i = bestV V' i := by
  have e0 := h.pt h0 h1 (s := 0) (by omega) (by omega)
  have e1 := h.pt h0 h1 (s := 1) (by omega) (by omega)
  have e2 := h.pt h0 h1 (s := 2) (by omega) (by omega)
  have e3 := h.pt h0 h1 (s := 3) (by omega) (by omega)
  have b1 : best1 V i = best1 V' i := by unfold best1; rw [e0, e1]
  have r1 : 0 ≤ best1 V' i ∧ best1 V' i < 4 := by unfold best1; split <;> omega
  have b2 : best2 V i = best2 V' i := by unfold best2; rw [b1, e2, h.pt h0 h1 r1.1 r1.2]
  have r2 : 0 ≤ best2 V' i ∧ best2 V' i < 4 := by unfold best2; split <;> omega
  unfold bestV
  rw [b2, e3, h.pt h0 h1 r2.1 r2.2]
theorem Sh.go {c : Int} {V V' : Int → Int} (h : Sh c V V') (c0 : 0 ≤ c) {i : Int} (h0 : 0 ≤ i) (h1 : i < 6) (s : 0 ≤ V (6 + i) ∧ V (6 + i) < 4) (hv : V 49 + 1 ≤ 9999) : Sh c (goV V i) (goV V' i) := by
  have hb := bestV_in V i
  unfold goV
  rw [← h.best h0 h1, ← h.pt h0 h1 hb.1 hb.2, ← h.own h0 h1 s]
  split
  · exact h
  · have h' := h.up (j := 6 + i) (x := bestV V i) (by omega)
    refine ⟨fun q hq => by rw [upv_n hq, upv_n hq]; exact h'.1 q hq, ?_⟩
    rw [upv_s, upv_s]
    have := h.2
    omega
theorem go_49 {V : Int → Int} {i : Int} (h0 : 0 ≤ i) (h1 : i < 6) : goV V i 49 ≤ V 49 + 1 := by
  unfold goV
  split
  · omega
  · rw [upv_s]; omega
theorem Sh.sw {c : Int} {V V' : Int → Int} (h : Sh c V V') {i f u k : Int} (h0 : 0 ≤ i) (h1 : i < 6) (f0 : 0 ≤ f ∧ f < 4) (u0 : 0 ≤ u ∧ u < 4) : Sh c (sewP V i f u k) (sewP V' i f u k) := by
  unfold sewP
  rw [← h.pt h0 h1 f0.1 f0.2]
  have h' := h.up (j := 12 + 4 * i + f) (x := partV V i f - k) (by omega)
  rw [← h'.1 (12 + 4 * i + u) (by omega)]
  exact h'.up (by omega)
theorem Sh.strike {c : Int} {n : Nat} {M V V' : Int → Int} (h : Sh c V V') (c0 : 0 ≤ c) {k w b : Int} (hW : WFV n M V) (hw : 0 ≤ w ∧ w < n) (hb : 0 ≤ b ∧ b < n) (hv : V 49 + 2 ≤ 9999) : Sh c (strikeV k V w b) (strikeV k V' w b) ∧ strikeV k V w b 49 ≤ V 49 + 2 := by
  have n6 := hW.1
  have sw := sd_in hW hw.1 hw.2
  have sb := sd_in hW hb.1 hb.2
  have ew := h.1 (6 + w) (by omega)
  have eb := h.1 (6 + b) (by omega)
  rw [strikeV_eq hw.1 (by omega) hb.1 (by omega) sw.1 sb.1 sw.2 sb.2, strikeV_eq hw.1 (by omega) hb.1 (by omega) (by rw [← ew]; exact sw.1) (by rw [← eb]; exact sb.1) (by rw [← ew]; exact sw.2) (by rw [← eb]; exact sb.2)]
  rw [← ew, ← eb, ← h.own hw.1 (by omega) sw, ← h.1 (36 + w) (by omega), ← h.1 b (by omega), ← h.1 (42 + b) (by omega)]
  have h5 := (((h.sw (i := w) (k := min k (ownV V w)) hw.1 (by omega) sw sb).up (j := 36 + w) (x := min (V (36 + w) + 1) 99) (by omega)).up (j := b) (x := max (V b - 1) 0) (by omega)).up (j := 42 + b) (x := min (V (42 + b) + 1) 99) (by omega)
  have k5 : ∀ q, (q = 49 ∨ q = 6 + w ∨ q = 6 + b) → upv (upv (upv (sewP V w (V (6 + w)) (V (6 + b)) (min k (ownV V w))) (36 + w) (min (V (36 + w) + 1) 99)) b (max (V b - 1) 0)) (42 + b) (min (V (42 + b) + 1) 99) q = V q := fun q hq => by
    rw [upv_n (by omega), upv_n (by omega), upv_n (by omega), sewP_n (by omega) (by omega)]
  generalize upv (upv (upv (sewP V w (V (6 + w)) (V (6 + b)) (min k (ownV V w))) (36 + w) (min (V (36 + w) + 1) 99)) b (max (V b - 1) 0)) (42 + b) (min (V (42 + b) + 1) 99) = V5 at h5 k5
  generalize upv (upv (upv (sewP V' w (V (6 + w)) (V (6 + b)) (min k (ownV V w))) (36 + w) (min (V (36 + w) + 1) 99)) b (max (V b - 1) 0)) (42 + b) (min (V (42 + b) + 1) 99) = V5' at h5
  have e49 := k5 49 (Or.inl rfl)
  have h6 := h5.go c0 (i := w) hw.1 (by omega) (by rw [k5 _ (Or.inr (Or.inl rfl))]; exact sw) (by omega)
  have g1 := go_49 (V := V5) (i := w) hw.1 (by omega)
  have sb' : 0 ≤ goV V5 w (6 + b) ∧ goV V5 w (6 + b) < 4 := by
    by_cases hz : b = w
    · subst hz
      have hbst := bestV_in V5 b
      unfold goV
      split
      · rw [k5 _ (Or.inr (Or.inl rfl))]; exact sb
      · rw [upv_n (by omega), upv_s]; exact hbst
    · rw [goV_n (by omega) (by omega), k5 _ (Or.inr (Or.inr rfl))]; exact sb
  have h7 := h6.go c0 (i := b) hb.1 (by omega) sb' (by omega)
  have g2 := go_49 (V := goV V5 w) (i := b) hb.1 (by omega)
  exact ⟨h7, by omega⟩
theorem Sh.env {c : Int} {n : Nat} {M V V' : Int → Int} (h : Sh c V V') (hW : WFV n M V) {i j : Int} (hi : 0 ≤ i ∧ i < n) (hj : 0 ≤ j ∧ j < n) : envV V i j = envV V' i j := by
  have n6 := hW.1
  have si := sd_in hW hi.1 hi.2
  have sj := sd_in hW hj.1 hj.2
  funext k
  unfold envV
  rw [← h.1 i (by omega), ← h.own hi.1 (by omega) si, ← h.1 (6 + j) (by omega), ← h.pt hi.1 (by omega) sj.1 sj.2, ← h.1 (36 + i) (by omega), ← h.1 (42 + i) (by omega), ← h.1 48 (by omega)]
theorem Sh.win {c : Int} {n : Nat} {M V V' : Int → Int} (h : Sh c V V') (hW : WFV n M V) {F : (Int → Int) → Int} {i j : Int} : winA F n V i j = winA F n V' i j := by
  have n6 := hW.1
  unfold winA
  by_cases hp : prB n i j
  · rw [if_pos hp, if_pos hp]
    obtain ⟨hi, hj, -⟩ := hp
    unfold winV
    rw [← h.1 (6 + i) (by omega), ← h.1 (6 + j) (by omega), h.env hW hi hj, h.env hW hj hi]
  · rw [if_neg hp, if_neg hp]
theorem Sh.fgt {c : Int} {n : Nat} {M V V' : Int → Int} (h : Sh c V V') (c0 : 0 ≤ c) (hW : WFV n M V) {F : (Int → Int) → Int} {k i j : Int} (hv : V 49 + 2 ≤ 9999) : Sh c (fgtV F n k V i j) (fgtV F n k V' i j) ∧ fgtV F n k V i j 49 ≤ V 49 + 2 := by
  have ew := h.win hW (F := F) (i := i) (j := j)
  unfold fgtV
  rw [← ew]
  by_cases hz : winA F n V i j < 0
  · rw [if_pos hz, if_pos hz]; exact ⟨h, by omega⟩
  · rw [if_neg hz, if_neg hz]
    obtain ⟨⟨hi, hj, hij⟩, -, hc⟩ := winA_c (F := F) (n := n) (V := V) (i := i) (j := j) (by omega)
    rcases hc with hc | hc
    · rw [hc, if_pos rfl]; exact h.strike c0 hW hi hj hv
    · rw [hc, if_neg (fun z => hij z.symm)]; exact h.strike c0 hW hj hi hv
theorem Sh.sewn {c : Int} {n : Nat} {M V V' : Int → Int} (h : Sh c V V') (c0 : 0 ≤ c) (hW : WFV n M V) {s f k : Int} (hv : V 49 + 2 ≤ 9999) : Sh c (sewN n V s f k) (sewN n V' s f k) ∧ sewN n V s f k 49 ≤ V 49 + 1 := by
  have n6 := hW.1
  unfold sewN
  by_cases hc : (0 ≤ s ∧ s < n) ∧ (0 ≤ f ∧ f < 4) ∧ (1 ≤ k ∧ k ≤ 12)
  · have ss := sd_in hW hc.1.1 hc.1.2
    rw [← h.own hc.1.1 (by omega) ss, ← h.1 (6 + s) (by omega)]
    split
    · rename_i hz
      unfold sewV
      rw [← h.1 (6 + s) (by omega)]
      have h5 := h.sw (i := s) (f := V (6 + s)) (u := f) (k := k) hc.1.1 (by omega) ss hc.2.1
      have e6 : sewP V s (V (6 + s)) f k (6 + s) = V (6 + s) := sewP_n (by omega) (by omega)
      have e49 : sewP V s (V (6 + s)) f k 49 = V 49 := sewP_n (by omega) (by omega)
      have g := go_49 (V := sewP V s (V (6 + s)) f k) (i := s) hc.1.1 (by omega)
      exact ⟨h5.go c0 hc.1.1 (by omega) (by rw [e6]; exact ss) (by omega), by omega⟩
    · exact ⟨h, by omega⟩
  · rw [if_neg (fun z => hc z.1), if_neg (fun z => hc z.1)]; exact ⟨h, by omega⟩
theorem Sh.few {c : Int} {V V' : Int → Int} (h : Sh c V V') {i : Int} (h0 : 0 ≤ i) (h1 : i < 6) : ∀ m : Nat, m ≤ 4 → fewS V i m = fewS V' i m
  | 0, _ => rfl
  | m + 1, hm => by
    have ih := h.few h0 h1 m (by omega)
    have hb := fewS_b V i m
    unfold fewS
    rw [ih, ← h.1 (6 + i) (by omega), ← h.pt h0 h1 (s := (m : Int)) (by omega) (by omega)]
    rw [ih] at hb
    by_cases hz : fewS V' i m = -1
    · simp only [hz, true_or]
    · rw [← h.pt h0 h1 (s := fewS V' i m) (by omega) (by omega)]
theorem Sh.mend {c : Int} {V V' : Int → Int} (h : Sh c V V') {i : Int} (h0 : 0 ≤ i) (h1 : i < 6) (s : 0 ≤ V (6 + i) ∧ V (6 + i) < 4) : Sh c (mendV V i) (mendV V' i) ∧ mendV V i 49 = V 49 := by
  have hb := fewS_b V i 4
  unfold mendV
  rw [← h.few h0 h1 4 (by omega), ← h.1 (6 + i) (by omega)]
  split
  · exact ⟨h, rfl⟩
  · exact ⟨h.sw h0 h1 (by omega) s, sewP_n (by omega) (by omega)⟩
theorem Sh.day {c : Int} {n : Nat} {M V V' : Int → Int} (h : Sh c V V') (hW : WFV n M V) : Sh c (dayV n M V) (dayV n M V') ∧ dayV n M V 49 = V 49 := by
  have n6 := hW.1
  have key : ∀ k : Nat, k ≤ n → Sh c (dayI M V k) (dayI M V' k) ∧ dayI M V k 49 = V 49 := by
    intro k
    induction k with
    | zero => intro _; exact ⟨h, rfl⟩
    | succ k ih =>
      intro hk
      obtain ⟨i1, i2⟩ := ih (by omega)
      have hWk := wf_dayI hW k (by omega)
      have sk := sd_in hWk (i := k) (by omega) (by omega)
      show Sh c (mendV (upv (dayI M V k) k (min (M k) (dayI M V k k + 1))) k) (mendV (upv (dayI M V' k) k (min (M k) (dayI M V' k k + 1))) k) ∧ mendV (upv (dayI M V k) k (min (M k) (dayI M V k k + 1))) k 49 = _
      rw [← i1.1 (k : Int) (by omega)]
      have h2 := i1.up (j := (k : Int)) (x := min (M k) (dayI M V k k + 1)) (by omega)
      obtain ⟨m1, m2⟩ := h2.mend (i := k) (by omega) (by omega) (by rw [upv_n (by omega)]; exact sk)
      exact ⟨m1, by rw [m2, upv_n (by omega)]; exact i2⟩
  obtain ⟨k1, k2⟩ := key n (Nat.le_refl n)
  unfold dayV
  rw [← k1.1 48 (by omega)]
  exact ⟨k1.up (by omega), by rw [upv_n (by omega)]; exact k2⟩
