/-! twelve bits -/
theorem b12_t0 : ∀ a b : Fin 64, ∀ k : Fin 12, decide ((Int32.ofInt ((Int32.ofInt ((64 * a.val + b.val : Nat) : Int) >>> (Int32.ofInt (k.val : Int) &&& 31)).toInt) &&& Int32.ofInt 1).toInt = 1) = (64 * a.val + b.val).testBit k.val := by decide +kernel
theorem b12_n0 : ∀ a b : Fin 64, ∀ k : Fin 12, (Int32.ofInt ((64 * a.val + b.val : Nat) : Int) &&& (Int32.ofInt ((Int32.ofInt ((2 ^ k.val : Nat) : Int) ^^^ Int32.ofInt (-1)).toInt))).toInt = (((64 * a.val + b.val) &&& (4095 ^^^ 2 ^ k.val) : Nat) : Int) := by decide +kernel
theorem b12_o0 : ∀ a b : Fin 64, ∀ k : Fin 12, (Int32.ofInt ((64 * a.val + b.val : Nat) : Int) ||| Int32.ofInt ((2 ^ k.val : Nat) : Int)).toInt = (((64 * a.val + b.val) ||| 2 ^ k.val : Nat) : Int) := by decide +kernel
theorem b12_z0 : ∀ a b : Fin 64, (Int32.ofInt ((64 * a.val + b.val : Nat) : Int) ||| Int32.ofInt 0).toInt = ((64 * a.val + b.val : Nat) : Int) := by decide +kernel
theorem b12_s0 : ∀ k : Fin 12, (Int32.ofInt 1 <<< (Int32.ofInt (k.val : Int) &&& 31)).toInt = ((2 ^ k.val : Nat) : Int) ∧ (Int32.ofInt 0 <<< (Int32.ofInt (k.val : Int) &&& 31)).toInt = 0 := by decide +kernel
