/-! the reference: series -/
def smF (k N p : Nat) : Nat → Nat × Nat := fo (fun i s => (s.1 * (N - i) / (i + 1), s.2 + if i < k then 0 else s.1 * p ^ i * (10 - p) ^ (N - i))) (1, 0)
def smB (k N p i : Nat) : Bool := decide ((smF k N p i).1 * (N - i) ≤ 1000000000000000) && decide ((smF k N p i).1 * p ^ i ≤ 9000000000000000000) && decide ((smF k N p i).1 * p ^ i * (10 - p) ^ (N - i) ≤ 9000000000000000000) && decide ((smF k N p (i + 1)).2 ≤ 1000000000000000)
theorem sm_b0 : ∀ k : Fin 9, ∀ m : Fin 9, ∀ p : Fin 11, ∀ i : Fin 16, 1 ≤ k.val → 1 ≤ m.val → i.val < k.val + m.val → smB k.val (k.val + m.val - 1) p.val i.val = true := by decide +kernel
theorem sm_q : ∀ k : Fin 9, ∀ m : Fin 9, ∀ p : Fin 11, 1 ≤ k.val → 1 ≤ m.val → (smF k.val (k.val + m.val - 1) p.val (k.val + m.val)).2 = (serF k.val m.val p.val m.val).2 := by decide +kernel
