/-! bridges: laws, sights, sums, signs -/
theorem lwB_cg {A B D A' B' D' : Int → Int} {m : Nat} (h : ∀ k : Nat, k < m → A k = A' k ∧ B k = B' k ∧ D k = D' k) : lwB A B D m = lwB A' B' D' m := by
  funext each
  unfold lwB
  exact sA_cg (fun k hk => by obtain ⟨h1, h2, h3⟩ := h k hk; rw [h1, h2, h3])
theorem fitB_cg {V A B A' B' : Int → Int} {m : Nat} (h : ∀ k : Nat, k < m → A k = A' k ∧ B k = B' k) : fitB V A B m = fitB V A' B' m := by
  funext i
  unfold fitB fitA
  exact sA_cg (fun k hk => by obtain ⟨h1, h2⟩ := h k hk; rw [h1, h2])
theorem dayR_eq {n : Nat} {M W : Int → Int} (hW : WFV n M W) : dayR n W = rowN (fun s => sumW (fun i => partV W i s) n) 4 ∧ sumN W n = sumW W n := by
  have n6 := hW.1
  refine ⟨?_, ?_⟩
  · unfold dayR
    refine rowN_cg (fun s hs => ?_)
    show sumN _ n = sumW _ n
    rw [sumW_eq n (by omega) (fun i a b => by
      have := hW.pt a b (s := (s : Int)) (by omega) (by omega)
      show 0 ≤ partV W i s ∧ partV W i s ≤ 1000
      omega)]
  · rw [sumW_eq n (by omega) (fun i a b => by have := (hW.2.1 i a b).1; omega)]
/-! a sign as the class keeps it, and as the reference does -/
theorem byte_b0 (x : Int32) : -128 ≤ x.toInt8.toInt32.toInt ∧ x.toInt8.toInt32.toInt ≤ 127 := by
  rw [Int8.toInt_toInt32]
  have h1 := Int8.le_toInt x.toInt8
  have h2 := Int8.toInt_lt x.toInt8
  omega
theorem i8_in (x : Int) : -128 ≤ i8 x ∧ i8 x ≤ 127 := by rw [i8_eq]; exact byte_b0 _
theorem byt_in (v : Int) (j : Nat) : -128 ≤ bytJ v j ∧ bytJ v j ≤ 127 := i8_in _
theorem ashr_1 (x : Int32) (k : Fin 4) : (x >>> (Int32.ofInt (24 - 8 * (k.val : Int)) &&& 31)).toInt = x.toInt >>> (24 - 8 * k.val) := by
  have h : (Int32.ofInt (24 - 8 * (k.val : Int)) &&& 31).toBitVec.smod 32 = BitVec.ofNat 32 (24 - 8 * k.val) := by
    revert k; decide +kernel
  have h2 : (BitVec.ofNat 32 (24 - 8 * k.val)).toNat = 24 - 8 * k.val := by revert k; decide +kernel
  show ((x.toBitVec).sshiftRight' ((Int32.ofInt (24 - 8 * (k.val : Int)) &&& 31).toBitVec.smod 32)).toInt = _
  rw [h]
  show ((x.toBitVec).sshiftRight (BitVec.ofNat 32 (24 - 8 * k.val)).toNat).toInt = _
  rw [h2, BitVec.toInt_sshiftRight]
  rfl
theorem lshr_1 (x : UInt32) (k : Fin 4) : (x >>> ((Int32.ofInt (24 - 8 * (k.val : Int))).toUInt32 &&& Int32.toUInt32 31)).toNat = x.toNat >>> (24 - 8 * k.val) := by
  have h : ((Int32.ofInt (24 - 8 * (k.val : Int))).toUInt32 &&& Int32.toUInt32 31).toNat % 32 = 24 - 8 * k.val := by revert k; decide +kernel
  rw [UInt32.toNat_shiftRight, h]
theorem and_ff (z : Int32) : (z &&& Int32.ofInt 255).toInt = ((z.toUInt32.toNat % 256 : Nat) : Int) := by
  have e : (z &&& Int32.ofInt 255).toBitVec.toNat = z.toUInt32.toNat % 256 := by
    show (z.toBitVec &&& (Int32.ofInt 255).toBitVec).toNat = z.toBitVec.toNat % 256
    rw [BitVec.toNat_and]
    have : (Int32.ofInt 255).toBitVec.toNat = 2 ^ 8 - 1 := by decide +kernel
    rw [this, Nat.and_two_pow_sub_one_eq_mod]
  show (z &&& Int32.ofInt 255).toBitVec.toInt = _
  rw [BitVec.toInt_eq_toNat_of_lt (by rw [e]; have := Nat.mod_lt z.toUInt32.toNat (show 0 < 256 by omega); omega), e]
theorem i32_nat (x : Int32) : x.toInt = if x.toUInt32.toNat < 2147483648 then (x.toUInt32.toNat : Int) else (x.toUInt32.toNat : Int) - 4294967296 := by
  show x.toBitVec.toInt = if x.toBitVec.toNat < 2147483648 then (x.toBitVec.toNat : Int) else (x.toBitVec.toNat : Int) - 4294967296
  rw [BitVec.toInt_eq_toNat_cond]
  by_cases h : x.toBitVec.toNat < 2147483648
  · rw [if_pos h, if_pos (by omega)]
  · rw [if_neg h, if_neg (by omega)]
    rfl
theorem byt_mod (w : Int) : (Int32.ofInt w).toInt8.toInt32.toInt = w.bmod 256 := by
  rw [Int8.toInt_toInt32, Int32.toInt8_ofInt, Int8.toInt_ofInt]
theorem chr_eq {v : Int} {j : Nat} (hj : j < 4) : iand (bytJ v j) 255 = chrJ v j ∧ (0 ≤ chrJ v j ∧ chrJ v j < 256) := by
  generalize hx : Int32.ofInt v = x
  have a := ashr_1 x ⟨j, hj⟩
  have b := lshr_1 x.toUInt32 ⟨j, hj⟩
  simp only at a b
  have e1 : ishr v (24 - 8 * (j : Int)) = x.toInt >>> (24 - 8 * j) := by rw [ishr_eq, hx]; exact a
  have e2 : iand (iushr v (24 - 8 * (j : Int))) 255 = (((x.toUInt32.toNat >>> (24 - 8 * j)) % 256 : Nat) : Int) := by
    rw [iand_eq, ← of_iushr, and_ff, hx]
    show (((x.toUInt32 >>> _).toNat % 256 : Nat) : Int) = _
    rw [b]
  have lt := Nat.mod_lt (x.toUInt32.toNat >>> (24 - 8 * j)) (show 0 < 256 by omega)
  have e3 : chrJ v j = (((x.toUInt32.toNat >>> (24 - 8 * j)) % 256 : Nat) : Int) := by
    unfold chrJ
    rw [e2, iu16_id (by omega) (by omega), ich_id (by omega) (by omega)]
  have e4 : bytJ v j = (x.toInt >>> (24 - 8 * j)).bmod 256 := by
    unfold bytJ
    rw [e1]
    have := i8_in (x.toInt >>> (24 - 8 * j))
    rw [i8_id this.1 this.2, i8_eq, byt_mod]
  refine ⟨?_, by rw [e3]; omega⟩
  have b1 := byt_in v j
  rw [and_255 b1.1 b1.2, e3, e4]
  have hn := i32_nat x
  have hlt := x.toUInt32.toNat_lt
  generalize x.toUInt32.toNat = X at hn hlt ⊢
  generalize x.toInt = Y at hn ⊢
  rw [Int.shiftRight_eq_div_pow, Nat.shiftRight_eq_div_pow]
  unfold Int.bmod
  rcases (show j = 0 ∨ j = 1 ∨ j = 2 ∨ j = 3 by omega) with rfl | rfl | rfl | rfl
  · simp only [show 24 - 8 * 0 = 24 by omega]
    split at hn <;> omega
  · simp only [show 24 - 8 * 1 = 16 by omega]
    split at hn <;> omega
  · simp only [show 24 - 8 * 2 = 8 by omega]
    split at hn <;> omega
  · simp only [show 24 - 8 * 3 = 0 by omega]
    split at hn <;> omega
