/-! numbers: a Java int is an Int within its bounds -/
def w32 (x : Int) : Int := (x + 2147483648) % 4294967296 - 2147483648
def w64 (x : Int) : Int := (x + 9223372036854775808) % 18446744073709551616 - 9223372036854775808
def b32 (x : Int) : Prop := -2147483648 ≤ x ∧ x < 2147483648
def b64 (x : Int) : Prop := -9223372036854775808 ≤ x ∧ x < 9223372036854775808
theorem w32_b (x : Int) : b32 (w32 x) := by unfold b32 w32; omega
theorem w64_b (x : Int) : b64 (w64 x) := by unfold b64 w64; omega
theorem w32_id {x : Int} (h1 : -2147483648 ≤ x) (h2 : x < 2147483648) : w32 x = x := by unfold w32; omega
theorem w64_id {x : Int} (h1 : -9223372036854775808 ≤ x) (h2 : x < 9223372036854775808) : w64 x = x := by unfold w64; omega
theorem w32_bmod (x : Int) : w32 x = x.bmod 4294967296 := by
  unfold w32
  rw [Int.bmod_def]
  split <;> omega
theorem w64_bmod (x : Int) : w64 x = x.bmod 18446744073709551616 := by
  unfold w64
  rw [Int.bmod_def]
  split <;> omega
theorem to_of {x : Int} (h : b32 x) : (Int32.ofInt x).toInt = x := Int32.toInt_ofInt_of_le h.1 h.2
theorem to_of64 {x : Int} (h : b64 x) : (Int64.ofInt x).toInt = x := Int64.toInt_ofInt_of_le h.1 h.2
theorem toI_b (x : Int32) : b32 x.toInt := ⟨x.le_toInt, x.toInt_lt⟩
theorem toI_b64 (x : Int64) : b64 x.toInt := ⟨x.le_toInt, x.toInt_lt⟩
theorem of_w32 (x : Int) : Int32.ofInt (w32 x) = Int32.ofInt x := by
  apply Int32.toInt_inj.mp
  rw [to_of (w32_b x), Int32.toInt_ofInt, w32_bmod]
theorem of_w64 (x : Int) : Int64.ofInt (w64 x) = Int64.ofInt x := by
  apply Int64.toInt_inj.mp
  rw [to_of64 (w64_b x), Int64.toInt_ofInt, w64_bmod]
theorem of_eq {x : Int} {v : Int32} (h : v.toInt = x) : v = Int32.ofInt x := by rw [← h, Int32.ofInt_toInt]
theorem of_eq64 {x : Int} {v : Int64} (h : v.toInt = x) : v = Int64.ofInt x := by rw [← h, Int64.ofInt_toInt]
theorem eq_of {x y : Int} (hx : b32 x) (hy : b32 y) : Int32.ofInt x = Int32.ofInt y ↔ x = y := by rw [← Int32.toInt_inj, to_of hx, to_of hy]
theorem lt_of {x y : Int} (hx : b32 x) (hy : b32 y) : Int32.ofInt x < Int32.ofInt y ↔ x < y := by rw [Int32.lt_iff_toInt_lt, to_of hx, to_of hy]
theorem le_of {x y : Int} (hx : b32 x) (hy : b32 y) : Int32.ofInt x ≤ Int32.ofInt y ↔ x ≤ y := by rw [Int32.le_iff_toInt_le, to_of hx, to_of hy]
theorem b32_0 : b32 0 := by unfold b32; omega
theorem of_0 : Int32.ofInt 0 = 0 := rfl
theorem of_add (x y : Int) : Int32.ofInt x + Int32.ofInt y = Int32.ofInt (w32 (x + y)) := by rw [of_w32, Int32.ofInt_add]
theorem of_sub (x y : Int) : Int32.ofInt x - Int32.ofInt y = Int32.ofInt (w32 (x - y)) := by rw [of_w32, Int32.ofInt_sub]
theorem of_mul (x y : Int) : Int32.ofInt x * Int32.ofInt y = Int32.ofInt (w32 (x * y)) := by rw [of_w32, Int32.ofInt_mul]
theorem of_neg (x : Int) : -Int32.ofInt x = Int32.ofInt (w32 (-x)) := by rw [of_w32, Int32.ofInt_neg]
theorem of_add64 (x y : Int) : Int64.ofInt x + Int64.ofInt y = Int64.ofInt (w64 (x + y)) := by rw [of_w64, Int64.ofInt_add]
theorem of_sub64 (x y : Int) : Int64.ofInt x - Int64.ofInt y = Int64.ofInt (w64 (x - y)) := by rw [of_w64, Int64.ofInt_sub]
theorem of_mul64 (x y : Int) : Int64.ofInt x * Int64.ofInt y = Int64.ofInt (w64 (x * y)) := by rw [of_w64, Int64.ofInt_mul]
theorem of_div {x y : Int} (hx : b32 x) (hy : b32 y) : Int32.ofInt x / Int32.ofInt y = Int32.ofInt (w32 (x.tdiv y)) := by
  rw [of_w32]
  apply Int32.toInt_inj.mp
  rw [Int32.toInt_div, to_of hx, to_of hy, Int32.toInt_ofInt]
theorem of_div64 {x y : Int} (hx : b64 x) (hy : b64 y) : Int64.ofInt x / Int64.ofInt y = Int64.ofInt (w64 (x.tdiv y)) := by
  rw [of_w64]
  apply Int64.toInt_inj.mp
  rw [Int64.toInt_div, to_of64 hx, to_of64 hy, Int64.toInt_ofInt]
theorem tmod_lt (x y : Int) : x.tmod y = x - x.tdiv y * y := by
  rw [Int.tmod_def, Int.mul_comm]
theorem of_rem {x y : Int} (hx : b32 x) (hy : b32 y) : Int32.ofInt x - Int32.ofInt x / Int32.ofInt y * Int32.ofInt y = Int32.ofInt (w32 (x.tmod y)) := by
  rw [of_div hx hy, of_w32, of_w32, tmod_lt, Int32.ofInt_sub, Int32.ofInt_mul]
theorem of_rem64 {x y : Int} (hx : b64 x) (hy : b64 y) : Int64.ofInt x - Int64.ofInt x / Int64.ofInt y * Int64.ofInt y = Int64.ofInt (w64 (x.tmod y)) := by
  rw [of_div64 hx hy, of_w64, of_w64, tmod_lt, Int64.ofInt_sub, Int64.ofInt_mul]
/-! bits -/
def iand (x y : Int) : Int := (Int32.ofInt x &&& Int32.ofInt y).toInt
def ior (x y : Int) : Int := (Int32.ofInt x ||| Int32.ofInt y).toInt
def ixor (x y : Int) : Int := (Int32.ofInt x ^^^ Int32.ofInt y).toInt
def ishl (x y : Int) : Int := (Int32.ofInt x <<< (Int32.ofInt y &&& 31)).toInt
def ishr (x y : Int) : Int := (Int32.ofInt x >>> (Int32.ofInt y &&& 31)).toInt
def iushr (x y : Int) : Int := ((Int32.ofInt x).toUInt32 >>> ((Int32.ofInt y).toUInt32 &&& Int32.toUInt32 31)).toInt32.toInt
def i8 (x : Int) : Int := (Int32.ofInt x).toInt8.toInt32.toInt
def i16 (x : Int) : Int := (Int32.ofInt x).toInt16.toInt32.toInt
def iu16 (x : Int) : Int := ((Int32.ofInt x).toUInt32 % 65536).toInt32.toInt
def ich (x : Int) : Int := (Int32.ofInt x).toUInt32.toUInt16.toUInt32.toInt32.toInt
def i1 (x : Int) : Int := (Int32.ofInt x &&& 1).toInt
def icmp (x y : Int) : Int := if y < x then 1 else if x = y then 0 else -1
theorem of_cmp {x y : Int} (hx : b64 x) (hy : b64 y) : lg_cmp (Int64.ofInt x) (Int64.ofInt y) = Int32.ofInt (icmp x y) := by
  have h1 : (Int64.ofInt x > Int64.ofInt y) ↔ y < x := by
    show Int64.ofInt y < Int64.ofInt x ↔ _
    rw [Int64.lt_iff_toInt_lt, to_of64 hx, to_of64 hy]
  have h2 : (Int64.ofInt x = Int64.ofInt y) ↔ x = y := by rw [← Int64.toInt_inj, to_of64 hx, to_of64 hy]
  unfold lg_cmp icmp
  by_cases q1 : y < x
  · rw [if_pos (h1.mpr q1), if_pos q1]; rfl
  · rw [if_neg (fun z => q1 (h1.mp z)), if_neg q1]
    by_cases q2 : x = y
    · rw [if_pos (h2.mpr q2), if_pos q2]; rfl
    · rw [if_neg (fun z => q2 (h2.mp z)), if_neg q2]; rfl
theorem icmp_b (x y : Int) : b32 (icmp x y) := by
  unfold icmp b32
  split
  · omega
  · split <;> omega
theorem of_i2l {x : Int} (hx : b32 x) : (Int32.ofInt x).toInt64 = Int64.ofInt x := of_eq64 (by rw [Int32.toInt_toInt64, to_of hx])
theorem b64_of {x : Int} (hx : b32 x) : b64 x := by unfold b32 at hx; unfold b64; omega
/-! an index within an array -/
theorem in_of {i : Int} {n : Nat} (h0 : 0 ≤ i) (h1 : i < n) (hb : b32 i) : vp_in (Int32.ofInt i) n := vp_in_iff.mpr (by rw [to_of hb]; exact ⟨h0, h1⟩)
theorem clamp_of' {i : Int} (hb : b32 i) : (Int32.ofInt i).toNatClampNeg = i.toNat := Int32.toNatClampNeg_ofInt_of_le hb.1 hb.2
