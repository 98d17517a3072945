/-! bits that are taken away -/
theorem xor_b0 : ∀ b : Fin 64, ∀ k : Fin 6, (Int32.ofInt (b.val : Int) &&& (Int32.ofInt ((Int32.ofInt ((2 ^ k.val : Nat) : Int) ^^^ Int32.ofInt (-1)).toInt))).toInt = ((if tb b.val k.val then b.val - 2 ^ k.val else b.val : Nat) : Int) := by decide +kernel
theorem xor_b {b k : Nat} (hb : b < 64) (hk : k < 6) : iand (b : Int) (ixor (ishl 1 k) (-1)) = ((if tb b k then b - 2 ^ k else b : Nat) : Int) := by
  rw [shl_1 (by omega), iand_eq, ixor_eq]; exact xor_b0 ⟨b, hb⟩ ⟨k, hk⟩
theorem xor_t0 : ∀ b : Fin 64, ∀ k : Fin 6, ∀ j : Fin 6, (if tb b.val k.val then b.val - 2 ^ k.val else b.val) < 64 ∧ tb (if tb b.val k.val then b.val - 2 ^ k.val else b.val) j.val = (tb b.val j.val && !decide (j.val = k.val)) := by decide +kernel
