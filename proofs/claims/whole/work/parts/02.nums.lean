/-! numbers: a Java int is an Int within its bounds -/
theorem w32_ex : ∃ f : Int → Int, ∀ x, f x = (x + 2147483648) % 4294967296 - 2147483648 := ⟨_, fun _ => rfl⟩
/-- kept opaque: the kernel is never to unfold it over a number that it doesn't know -/
noncomputable def w32 : Int → Int := Classical.choose w32_ex
theorem w32_eq (x : Int) : w32 x = (x + 2147483648) % 4294967296 - 2147483648 := Classical.choose_spec w32_ex x
theorem w64_ex : ∃ f : Int → Int, ∀ x, f x = (x + 9223372036854775808) % 18446744073709551616 - 9223372036854775808 := ⟨_, fun _ => rfl⟩
noncomputable def w64 : Int → Int := Classical.choose w64_ex
theorem w64_eq (x : Int) : w64 x = (x + 9223372036854775808) % 18446744073709551616 - 9223372036854775808 := Classical.choose_spec w64_ex x
def b32 (x : Int) : Prop := -2147483648 ≤ x ∧ x < 2147483648
def b64 (x : Int) : Prop := -9223372036854775808 ≤ x ∧ x < 9223372036854775808
theorem w32_b (x : Int) : b32 (w32 x) := by unfold b32; rw [w32_eq]; omega
theorem w64_b (x : Int) : b64 (w64 x) := by unfold b64; rw [w64_eq]; omega
theorem w32_id {x : Int} (h1 : -2147483648 ≤ x) (h2 : x < 2147483648) : w32 x = x := by rw [w32_eq]; omega
theorem w64_id {x : Int} (h1 : -9223372036854775808 ≤ x) (h2 : x < 9223372036854775808) : w64 x = x := by rw [w64_eq]; omega
theorem w32_bmod (x : Int) : w32 x = x.bmod 4294967296 := by
  rw [w32_eq, Int.bmod_def]
  split <;> omega
theorem w64_bmod (x : Int) : w64 x = x.bmod 18446744073709551616 := by
  rw [w64_eq, Int.bmod_def]
  split <;> omega
theorem to_of {x : Int} (h : b32 x) : (Int32.ofInt x).toInt = x := Int32.toInt_ofInt_of_le h.1 h.2
theorem to_of64 {x : Int} (h : b64 x) : (Int64.ofInt x).toInt = x := Int64.toInt_ofInt_of_le h.1 h.2
theorem toI_b (x : Int32) : b32 x.toInt := ⟨x.le_toInt, x.toInt_lt⟩
theorem toI_b64 (x : Int64) : b64 x.toInt := ⟨x.le_toInt, x.toInt_lt⟩
theorem of_w32 (x : Int) : Int32.ofInt (w32 x) = Int32.ofInt x := by
  apply Int32.toInt_inj.mp
  rw [to_of (w32_b x), Int32.toInt_ofInt, w32_bmod]
theorem of_w64 (x : Int) : Int64.ofInt (w64 x) = Int64.ofInt x := by
  apply Int64.toInt_inj.mp
  rw [to_of64 (w64_b x), Int64.toInt_ofInt, w64_bmod]
theorem of_eq {x : Int} {v : Int32} (h : v.toInt = x) : v = Int32.ofInt x := by rw [← h, Int32.ofInt_toInt]
theorem of_eq64 {x : Int} {v : Int64} (h : v.toInt = x) : v = Int64.ofInt x := by rw [← h, Int64.ofInt_toInt]
theorem eq_of {x y : Int} (hx : b32 x) (hy : b32 y) : Int32.ofInt x = Int32.ofInt y ↔ x = y := by rw [← Int32.toInt_inj, to_of hx, to_of hy]
theorem lt_of {x y : Int} (hx : b32 x) (hy : b32 y) : Int32.ofInt x < Int32.ofInt y ↔ x < y := by rw [Int32.lt_iff_toInt_lt, to_of hx, to_of hy]
theorem le_of {x y : Int} (hx : b32 x) (hy : b32 y) : Int32.ofInt x ≤ Int32.ofInt y ↔ x ≤ y := by rw [Int32.le_iff_toInt_le, to_of hx, to_of hy]
theorem b32_0 : b32 0 := by unfold b32; omega
theorem of_0 : Int32.ofInt 0 = 0 := rfl
theorem of_add (x y : Int) : Int32.ofInt x + Int32.ofInt y = Int32.ofInt (w32 (x + y)) := by rw [of_w32, Int32.ofInt_add]
theorem of_sub (x y : Int) : Int32.ofInt x - Int32.ofInt y = Int32.ofInt (w32 (x - y)) := by rw [of_w32, Int32.ofInt_sub]
theorem of_mul (x y : Int) : Int32.ofInt x * Int32.ofInt y = Int32.ofInt (w32 (x * y)) := by rw [of_w32, Int32.ofInt_mul]
theorem of_neg (x : Int) : -Int32.ofInt x = Int32.ofInt (w32 (-x)) := by rw [of_w32, Int32.ofInt_neg]
theorem of_add64 (x y : Int) : Int64.ofInt x + Int64.ofInt y = Int64.ofInt (w64 (x + y)) := by rw [of_w64, Int64.ofInt_add]
theorem of_sub64 (x y : Int) : Int64.ofInt x - Int64.ofInt y = Int64.ofInt (w64 (x - y)) := by rw [of_w64, Int64.ofInt_sub]
theorem of_mul64 (x y : Int) : Int64.ofInt x * Int64.ofInt y = Int64.ofInt (w64 (x * y)) := by rw [of_w64, Int64.ofInt_mul]
theorem of_div {x y : Int} (hx : b32 x) (hy : b32 y) : Int32.ofInt x / Int32.ofInt y = Int32.ofInt (w32 (x.tdiv y)) := by
  rw [of_w32]
  apply Int32.toInt_inj.mp
  rw [Int32.toInt_div, to_of hx, to_of hy, Int32.toInt_ofInt]
theorem of_div64 {x y : Int} (hx : b64 x) (hy : b64 y) : Int64.ofInt x / Int64.ofInt y = Int64.ofInt (w64 (x.tdiv y)) := by
  rw [of_w64]
  apply Int64.toInt_inj.mp
  rw [Int64.toInt_div, to_of64 hx, to_of64 hy, Int64.toInt_ofInt]
theorem tmod_lt (x y : Int) : x.tmod y = x - x.tdiv y * y := by
  rw [Int.tmod_def, Int.mul_comm]
theorem of_rem {x y : Int} (hx : b32 x) (hy : b32 y) : Int32.ofInt x - Int32.ofInt x / Int32.ofInt y * Int32.ofInt y = Int32.ofInt (w32 (x.tmod y)) := by
  rw [of_div hx hy, of_w32, of_w32, tmod_lt, Int32.ofInt_sub, Int32.ofInt_mul]
theorem of_rem64 {x y : Int} (hx : b64 x) (hy : b64 y) : Int64.ofInt x - Int64.ofInt x / Int64.ofInt y * Int64.ofInt y = Int64.ofInt (w64 (x.tmod y)) := by
  rw [of_div64 hx hy, of_w64, of_w64, tmod_lt, Int64.ofInt_sub, Int64.ofInt_mul]
/-! bits -/
theorem iand_ex : ∃ f : Int → Int → Int, ∀ x y, f x y = (Int32.ofInt x &&& Int32.ofInt y).toInt := ⟨_, fun _ _ => rfl⟩
noncomputable def iand : Int → Int → Int := Classical.choose iand_ex
theorem iand_eq (x y : Int) : iand x y = (Int32.ofInt x &&& Int32.ofInt y).toInt := Classical.choose_spec iand_ex x y
theorem iand_b (x y : Int) : b32 (iand x y) := by rw [iand_eq]; exact toI_b _
theorem of_iand (x y : Int) : (Int32.ofInt x &&& Int32.ofInt y) = Int32.ofInt (iand x y) := of_eq (iand_eq x y).symm
theorem ior_ex : ∃ f : Int → Int → Int, ∀ x y, f x y = (Int32.ofInt x ||| Int32.ofInt y).toInt := ⟨_, fun _ _ => rfl⟩
noncomputable def ior : Int → Int → Int := Classical.choose ior_ex
theorem ior_eq (x y : Int) : ior x y = (Int32.ofInt x ||| Int32.ofInt y).toInt := Classical.choose_spec ior_ex x y
theorem ior_b (x y : Int) : b32 (ior x y) := by rw [ior_eq]; exact toI_b _
theorem of_ior (x y : Int) : (Int32.ofInt x ||| Int32.ofInt y) = Int32.ofInt (ior x y) := of_eq (ior_eq x y).symm
theorem ixor_ex : ∃ f : Int → Int → Int, ∀ x y, f x y = (Int32.ofInt x ^^^ Int32.ofInt y).toInt := ⟨_, fun _ _ => rfl⟩
noncomputable def ixor : Int → Int → Int := Classical.choose ixor_ex
theorem ixor_eq (x y : Int) : ixor x y = (Int32.ofInt x ^^^ Int32.ofInt y).toInt := Classical.choose_spec ixor_ex x y
theorem ixor_b (x y : Int) : b32 (ixor x y) := by rw [ixor_eq]; exact toI_b _
theorem of_ixor (x y : Int) : (Int32.ofInt x ^^^ Int32.ofInt y) = Int32.ofInt (ixor x y) := of_eq (ixor_eq x y).symm
theorem ishl_ex : ∃ f : Int → Int → Int, ∀ x y, f x y = (Int32.ofInt x <<< (Int32.ofInt y &&& 31)).toInt := ⟨_, fun _ _ => rfl⟩
noncomputable def ishl : Int → Int → Int := Classical.choose ishl_ex
theorem ishl_eq (x y : Int) : ishl x y = (Int32.ofInt x <<< (Int32.ofInt y &&& 31)).toInt := Classical.choose_spec ishl_ex x y
theorem ishl_b (x y : Int) : b32 (ishl x y) := by rw [ishl_eq]; exact toI_b _
theorem of_ishl (x y : Int) : (Int32.ofInt x <<< (Int32.ofInt y &&& 31)) = Int32.ofInt (ishl x y) := of_eq (ishl_eq x y).symm
theorem ishr_ex : ∃ f : Int → Int → Int, ∀ x y, f x y = (Int32.ofInt x >>> (Int32.ofInt y &&& 31)).toInt := ⟨_, fun _ _ => rfl⟩
noncomputable def ishr : Int → Int → Int := Classical.choose ishr_ex
theorem ishr_eq (x y : Int) : ishr x y = (Int32.ofInt x >>> (Int32.ofInt y &&& 31)).toInt := Classical.choose_spec ishr_ex x y
theorem ishr_b (x y : Int) : b32 (ishr x y) := by rw [ishr_eq]; exact toI_b _
theorem of_ishr (x y : Int) : (Int32.ofInt x >>> (Int32.ofInt y &&& 31)) = Int32.ofInt (ishr x y) := of_eq (ishr_eq x y).symm
theorem iushr_ex : ∃ f : Int → Int → Int, ∀ x y, f x y = ((Int32.ofInt x).toUInt32 >>> ((Int32.ofInt y).toUInt32 &&& Int32.toUInt32 31)).toInt32.toInt := ⟨_, fun _ _ => rfl⟩
noncomputable def iushr : Int → Int → Int := Classical.choose iushr_ex
theorem iushr_eq (x y : Int) : iushr x y = ((Int32.ofInt x).toUInt32 >>> ((Int32.ofInt y).toUInt32 &&& Int32.toUInt32 31)).toInt32.toInt := Classical.choose_spec iushr_ex x y
theorem iushr_b (x y : Int) : b32 (iushr x y) := by rw [iushr_eq]; exact toI_b _
theorem of_iushr (x y : Int) : ((Int32.ofInt x).toUInt32 >>> ((Int32.ofInt y).toUInt32 &&& Int32.toUInt32 31)).toInt32 = Int32.ofInt (iushr x y) := of_eq (iushr_eq x y).symm
theorem i8_ex : ∃ f : Int → Int, ∀ x, f x = (Int32.ofInt x).toInt8.toInt32.toInt := ⟨_, fun _ => rfl⟩
noncomputable def i8 : Int → Int := Classical.choose i8_ex
theorem i8_eq (x : Int) : i8 x = (Int32.ofInt x).toInt8.toInt32.toInt := Classical.choose_spec i8_ex x
theorem i8_b (x : Int) : b32 (i8 x) := by rw [i8_eq]; exact toI_b _
theorem of_i8 (x : Int) : (Int32.ofInt x).toInt8.toInt32 = Int32.ofInt (i8 x) := of_eq (i8_eq x).symm
theorem i16_ex : ∃ f : Int → Int, ∀ x, f x = (Int32.ofInt x).toInt16.toInt32.toInt := ⟨_, fun _ => rfl⟩
noncomputable def i16 : Int → Int := Classical.choose i16_ex
theorem i16_eq (x : Int) : i16 x = (Int32.ofInt x).toInt16.toInt32.toInt := Classical.choose_spec i16_ex x
theorem i16_b (x : Int) : b32 (i16 x) := by rw [i16_eq]; exact toI_b _
theorem of_i16 (x : Int) : (Int32.ofInt x).toInt16.toInt32 = Int32.ofInt (i16 x) := of_eq (i16_eq x).symm
theorem iu16_ex : ∃ f : Int → Int, ∀ x, f x = ((Int32.ofInt x).toUInt32 % 65536).toInt32.toInt := ⟨_, fun _ => rfl⟩
noncomputable def iu16 : Int → Int := Classical.choose iu16_ex
theorem iu16_eq (x : Int) : iu16 x = ((Int32.ofInt x).toUInt32 % 65536).toInt32.toInt := Classical.choose_spec iu16_ex x
theorem iu16_b (x : Int) : b32 (iu16 x) := by rw [iu16_eq]; exact toI_b _
theorem of_iu16 (x : Int) : ((Int32.ofInt x).toUInt32 % 65536).toInt32 = Int32.ofInt (iu16 x) := of_eq (iu16_eq x).symm
theorem ich_ex : ∃ f : Int → Int, ∀ x, f x = (Int32.ofInt x).toUInt32.toUInt16.toUInt32.toInt32.toInt := ⟨_, fun _ => rfl⟩
noncomputable def ich : Int → Int := Classical.choose ich_ex
theorem ich_eq (x : Int) : ich x = (Int32.ofInt x).toUInt32.toUInt16.toUInt32.toInt32.toInt := Classical.choose_spec ich_ex x
theorem ich_b (x : Int) : b32 (ich x) := by rw [ich_eq]; exact toI_b _
theorem of_ich (x : Int) : (Int32.ofInt x).toUInt32.toUInt16.toUInt32.toInt32 = Int32.ofInt (ich x) := of_eq (ich_eq x).symm
theorem i1_ex : ∃ f : Int → Int, ∀ x, f x = (Int32.ofInt x &&& 1).toInt := ⟨_, fun _ => rfl⟩
noncomputable def i1 : Int → Int := Classical.choose i1_ex
theorem i1_eq (x : Int) : i1 x = (Int32.ofInt x &&& 1).toInt := Classical.choose_spec i1_ex x
theorem i1_b (x : Int) : b32 (i1 x) := by rw [i1_eq]; exact toI_b _
theorem of_i1 (x : Int) : (Int32.ofInt x &&& 1) = Int32.ofInt (i1 x) := of_eq (i1_eq x).symm
def icmp (x y : Int) : Int := if y < x then 1 else if x = y then 0 else -1
theorem of_cmp {x y : Int} (hx : b64 x) (hy : b64 y) : lg_cmp (Int64.ofInt x) (Int64.ofInt y) = Int32.ofInt (icmp x y) := by
  have h1 : (Int64.ofInt x > Int64.ofInt y) ↔ y < x := by
    show Int64.ofInt y < Int64.ofInt x ↔ _
    rw [Int64.lt_iff_toInt_lt, to_of64 hx, to_of64 hy]
  have h2 : (Int64.ofInt x = Int64.ofInt y) ↔ x = y := by rw [← Int64.toInt_inj, to_of64 hx, to_of64 hy]
  unfold lg_cmp icmp
  by_cases q1 : y < x
  · rw [if_pos (h1.mpr q1), if_pos q1]; rfl
  · rw [if_neg (fun z => q1 (h1.mp z)), if_neg q1]
    by_cases q2 : x = y
    · rw [if_pos (h2.mpr q2), if_pos q2]; rfl
    · rw [if_neg (fun z => q2 (h2.mp z)), if_neg q2]; rfl
theorem icmp_b (x y : Int) : b32 (icmp x y) := by
  unfold icmp b32
  split
  · omega
  · split <;> omega
theorem of_i2l {x : Int} (hx : b32 x) : (Int32.ofInt x).toInt64 = Int64.ofInt x := of_eq64 (by rw [Int32.toInt_toInt64, to_of hx])
theorem b64_of {x : Int} (hx : b32 x) : b64 x := by unfold b32 at hx; unfold b64; omega
/-! an index within an array -/
theorem in_of {i : Int} {n : Nat} (h0 : 0 ≤ i) (h1 : i < n) (hb : b32 i) : vp_in (Int32.ofInt i) n := vp_in_iff.mpr (by rw [to_of hb]; exact ⟨h0, h1⟩)
theorem clamp_of' {i : Int} (hb : b32 i) : (Int32.ofInt i).toNatClampNeg = i.toNat := Int32.toNatClampNeg_ofInt_of_le hb.1 hb.2
