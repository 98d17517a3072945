/-! the sea as a row of fifty numbers, as the reference has it -/
def upv (V : Int → Int) (j x : Int) : Int → Int := fun k => if k = j then x else V k
theorem upv_s (V : Int → Int) (j x : Int) : upv V j x j = x := by simp [upv]
theorem upv_n {V : Int → Int} {j x k : Int} (h : k ≠ j) : upv V j x k = V k := by simp [upv, h]
abbrev partV (V : Int → Int) (i s : Int) : Int := V (12 + 4 * i + s)
abbrev ownV (V : Int → Int) (i : Int) : Int := partV V i (V (6 + i))
def best1 (V : Int → Int) (i : Int) : Int := if partV V i 0 < partV V i 1 then 1 else 0
def best2 (V : Int → Int) (i : Int) : Int := if partV V i (best1 V i) < partV V i 2 then 2 else best1 V i
def bestV (V : Int → Int) (i : Int) : Int := if partV V i (best2 V i) < partV V i 3 then 3 else best2 V i
/-- GO OVER -/
def goV (V : Int → Int) (i : Int) : Int → Int := if partV V i (bestV V i) ≤ ownV V i then V else upv (upv V (6 + i) (bestV V i)) 49 (min 9999 (V 49 + 1))
/-- k PARTS of one SIDE become PARTS of another -/
def sewP (V : Int → Int) (i from' to k : Int) : Int → Int := upv (upv V (12 + 4 * i + from') (partV V i from' - k)) (12 + 4 * i + to) (upv V (12 + 4 * i + from') (partV V i from' - k) (12 + 4 * i + to) + k)
/-- w has won against l -/
def strikeV (take : Int) (V : Int → Int) (w l : Int) : Int → Int :=
  let V2 := sewP V w (V (6 + w)) (V (6 + l)) (min take (ownV V w))
  let V3 := upv V2 (36 + w) (min (V2 (36 + w) + 1) 99)
  let V4 := upv V3 l (max (V3 l - 1) 0)
  let V5 := upv V4 (42 + l) (min (V4 (42 + l) + 1) 99)
  goV (goV V5 w) l
/-- the SIDE that mends, or -1 -/
def fewS (V : Int → Int) (i : Int) : Nat → Int
  | 0 => -1
  | n + 1 => if (n : Int) ≠ V (6 + i) ∧ 0 < partV V i n ∧ (fewS V i n = -1 ∨ partV V i n < partV V i (fewS V i n)) then n else fewS V i n
def mendV (V : Int → Int) (i : Int) : Int → Int := if fewS V i 4 = -1 then V else sewP V i (fewS V i 4) (V (6 + i)) 1
def day1 (M : Int → Int) (V : Int → Int) (i : Int) : Int → Int := mendV (upv V i (min (M i) (V i + 1))) i
def dayI (M : Int → Int) (V : Int → Int) : Nat → Int → Int
  | 0 => V
  | n + 1 => day1 M (dayI M V n) n
noncomputable def dayV (n : Nat) (M : Int → Int) (V : Int → Int) : Int → Int := upv (dayI M V n) 48 (w32 (dayI M V n 48 + 1))
noncomputable def daysV (n : Nat) (M : Int → Int) (V : Int → Int) : Nat → Int → Int
  | 0 => V
  | k + 1 => dayV n M (daysV n M V k)
def sewV (V : Int → Int) (i s k : Int) : Int → Int := goV (sewP V i (V (6 + i)) s k) i
def hoist4 (V : Int → Int) (i s : Int) : Nat → Int → Int
  | 0 => V
  | n + 1 => upv (hoist4 V i s n) (12 + 4 * i + n) (if (n : Int) = s then 12 else 0)
def yieldV (V : Int → Int) (i s : Int) : Int → Int := upv (hoist4 V i s 4) (6 + i) s
/-- a row that is as it must be: n ships of mights M -/
def WFV (n : Nat) (M : Int → Int) (V : Int → Int) : Prop := n ≤ 6 ∧ (∀ i : Int, 0 ≤ i → i < n → (0 ≤ V i ∧ V i ≤ M i ∧ 1 ≤ M i ∧ M i ≤ 9) ∧ (0 ≤ V (6 + i) ∧ V (6 + i) < 4) ∧ (0 ≤ partV V i 0 ∧ 0 ≤ partV V i 1 ∧ 0 ≤ partV V i 2 ∧ 0 ≤ partV V i 3 ∧ partV V i 0 + partV V i 1 + partV V i 2 + partV V i 3 = 12) ∧ (∀ s, 0 ≤ s → s < 4 → partV V i s ≤ ownV V i) ∧ (0 ≤ V (36 + i) ∧ V (36 + i) ≤ 99) ∧ (0 ≤ V (42 + i) ∧ V (42 + i) ≤ 99)) ∧ (0 ≤ V 49 ∧ V 49 ≤ 9999) ∧ b32 (V 48) ∧ ∀ j, (j < 0 ∨ 50 ≤ j) → V j = 0
/-! the class's view of it -/
def vwS (σ : Mem) (a : Int) : Int → Int := fun j => if j < 0 then 0 else if j < 6 then σ (a + 2) j else if j < 12 then σ (a + 3) (j - 6) else if j < 36 then σ (a + 6) (j - 12) else if j < 42 then σ (a + 4) (j - 36) else if j < 48 then σ (a + 5) (j - 42) else if j = 48 then σ a 1 else if j = 49 then σ a 2 else 0
theorem vw_st {σ : Mem} {a i : Int} (h0 : 0 ≤ i) (h1 : i < 6) : σ (a + 2) i = vwS σ a i := by
  unfold vwS; rw [if_neg (by omega), if_pos h1]
theorem vw_sd {σ : Mem} {a i : Int} (h0 : 0 ≤ i) (h1 : i < 6) : σ (a + 3) i = vwS σ a (6 + i) := by
  unfold vwS; rw [if_neg (by omega), if_neg (by omega), if_pos (by omega), show 6 + i - 6 = i by omega]
theorem vw_fl {σ : Mem} {a j : Int} (h0 : 0 ≤ j) (h1 : j < 24) : σ (a + 6) j = vwS σ a (12 + j) := by
  unfold vwS; rw [if_neg (by omega), if_neg (by omega), if_neg (by omega), if_pos (by omega), show 12 + j - 12 = j by omega]
theorem vw_wn {σ : Mem} {a i : Int} (h0 : 0 ≤ i) (h1 : i < 6) : σ (a + 4) i = vwS σ a (36 + i) := by
  unfold vwS; rw [if_neg (by omega), if_neg (by omega), if_neg (by omega), if_neg (by omega), if_pos (by omega), show 36 + i - 36 = i by omega]
theorem vw_ls {σ : Mem} {a i : Int} (h0 : 0 ≤ i) (h1 : i < 6) : σ (a + 5) i = vwS σ a (42 + i) := by
  unfold vwS; rw [if_neg (by omega), if_neg (by omega), if_neg (by omega), if_neg (by omega), if_neg (by omega), if_pos (by omega), show 42 + i - 42 = i by omega]
theorem vw_dy {σ : Mem} {a : Int} : σ a 1 = vwS σ a 48 := by simp [vwS]
theorem vw_ov {σ : Mem} {a : Int} : σ a 2 = vwS σ a 49 := by simp [vwS]
theorem vwU_st {σ : Mem} {a i x : Int} (h0 : 0 ≤ i) (h1 : i < 6) : vwS (up σ (a + 2) i x) a = upv (vwS σ a) i x := by
  funext j; unfold vwS upv up; grind
theorem vwU_sd {σ : Mem} {a i x : Int} (h0 : 0 ≤ i) (h1 : i < 6) : vwS (up σ (a + 3) i x) a = upv (vwS σ a) (6 + i) x := by
  funext j; unfold vwS upv up; grind
theorem vwU_fl {σ : Mem} {a i x : Int} (h0 : 0 ≤ i) (h1 : i < 24) : vwS (up σ (a + 6) i x) a = upv (vwS σ a) (12 + i) x := by
  funext j; unfold vwS upv up; grind
theorem vwU_wn {σ : Mem} {a i x : Int} (h0 : 0 ≤ i) (h1 : i < 6) : vwS (up σ (a + 4) i x) a = upv (vwS σ a) (36 + i) x := by
  funext j; unfold vwS upv up; grind
theorem vwU_ls {σ : Mem} {a i x : Int} (h0 : 0 ≤ i) (h1 : i < 6) : vwS (up σ (a + 5) i x) a = upv (vwS σ a) (42 + i) x := by
  funext j; unfold vwS upv up; grind
theorem vwU_dy {σ : Mem} {a x : Int} : vwS (up σ a 1 x) a = upv (vwS σ a) 48 x := by
  funext j; unfold vwS upv up; grind
theorem vwU_ov {σ : Mem} {a x : Int} : vwS (up σ a 2 x) a = upv (vwS σ a) 49 x := by
  funext j; unfold vwS upv up; grind
/-- what a method of a sea leaves: all that isn't this sea's, its size and mights -/
def SeaFr (σ σ' : Mem) (a : Int) : Prop := (∀ o, (o < a ∨ a + 6 < o) → σ' o = σ o) ∧ σ' (a + 1) = σ (a + 1) ∧ σ' a 0 = σ a 0
theorem SeaFr.rf {σ : Mem} {a : Int} : SeaFr σ σ a := ⟨fun _ _ => rfl, rfl, rfl⟩
theorem SeaFr.tr {σ σ' σ'' : Mem} {a : Int} (h : SeaFr σ σ' a) (h' : SeaFr σ' σ'' a) : SeaFr σ σ'' a := ⟨fun o ho => (h'.1 o ho).trans (h.1 o ho), h'.2.1.trans h.2.1, h'.2.2.trans h.2.2⟩
theorem SeaFr.up {σ σ' : Mem} {a o j x : Int} (h : SeaFr σ σ' a) (h1 : (a + 2 ≤ o ∧ o ≤ a + 6) ∨ (o = a ∧ (j = 1 ∨ j = 2))) : SeaFr σ (up σ' o j x) a := by
  refine ⟨fun q hq => ?_, ?_, ?_⟩
  · rw [up_ne (by omega)]; exact h.1 q hq
  · rw [up_ne (by omega)]; exact h.2.1
  · by_cases ho : o = a
    · have : j ≠ 0 := by omega
      rw [← h.2.2]
      show (if _ ∧ _ then _ else _) = _
      rw [if_neg (by omega)]
    · rw [up_ne (fun z => ho z.symm)]; exact h.2.2
