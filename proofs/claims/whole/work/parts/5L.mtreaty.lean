/-! the reference: treaty -/
def bmJ (a b x : Nat) (c : Nat) : Nat → Nat → Nat
  | 0, _ => c
  | r + 1, y => if (x = 0 ∨ y = 0 ∨ x = y) ∧ cdN (a - x) = b - y then 31 * x + y else bmJ a b x c r (y + 1)
def fsY (x : Nat) : Nat := if x = 0 then 1 else 0
def bmI (a b : Nat) : Nat → Nat → Nat
  | 0, _ => 0
  | r + 1, x => bmJ a b x (bmI a b r (x + 1)) (b + 1 - fsY x) (fsY x)
def bmN (a b : Nat) : Nat := bmI a b (a + 1) 0
theorem bm_0 : ∀ a b : Fin 31, decide (bmN a.val b.val = 0) = decide (cdN a.val = b.val) := by decide +kernel
theorem bm_1 : ∀ a b : Fin 31, (if cdN a.val = b.val then ((0 : Int), some []) else trI a.val b.val (a.val + 1) 0) = if bmN a.val b.val = 0 then ((0 : Int), some []) else (1, some [((bmN a.val b.val / 31 : Nat) : Int), ((bmN a.val b.val % 31 : Nat) : Int)]) := by decide +kernel
theorem bm_2 : ∀ a b : Fin 31, bmN a.val b.val < 961 := by decide +kernel
theorem tr_bm {a b : Nat} (ha : a ≤ 30) (hb : b ≤ 30) : trQ a b = if bmN a b = 0 then ((0 : Int), some []) else (1, some [((bmN a b / 31 : Nat) : Int), ((bmN a b % 31 : Nat) : Int)]) := by
  unfold trQ
  rw [if_pos (by omega)]
  simp only [Int.toNat_natCast]
  exact bm_1 ⟨a, by omega⟩ ⟨b, by omega⟩
