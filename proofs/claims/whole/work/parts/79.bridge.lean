/-! bridges: bits of what was told; signs; sights; sums -/
theorem b12 {b : Nat} (h : b < 4096) : b / 64 < 64 ∧ b % 64 < 64 ∧ 64 * (b / 64) + b % 64 = b := by omega
theorem tD_b {b k : Nat} (hb : b < 4096) (hk : k < 12) : tD (b : Int) k = if b.testBit k then 1 else 0 := by
  obtain ⟨h1, h2, h3⟩ := b12 hb
  have := b12_t0 ⟨b / 64, h1⟩ ⟨b % 64, h2⟩ ⟨k, hk⟩
  simp only [h3] at this
  unfold tD
  rw [iand_eq, ishr_eq]
  cases hc : b.testBit k with
  | true => rw [hc] at this; rw [if_pos (of_decide_eq_true this)]; rfl
  | false => rw [hc] at this; rw [if_neg (of_decide_eq_false this)]; rfl
def tlN (b k : Nat) (i : Int) : Nat := if i = 1 then (b &&& (4095 ^^^ 2 ^ k)) ||| 2 ^ k else b &&& (4095 ^^^ 2 ^ k)
theorem tlN_t {b k j : Nat} {i : Int} (hj : j < 12) : (tlN b k i).testBit j = if j = k then decide (i = 1) else b.testBit j := by
  have e : (4095 : Nat).testBit j = true := by
    have := Nat.testBit_two_pow_sub_one 12 j
    rw [show (2 : Nat) ^ 12 - 1 = 4095 from rfl] at this
    rw [this]; exact decide_eq_true hj
  unfold tlN
  by_cases hi : i = 1
  · rw [if_pos hi, Nat.testBit_or, Nat.testBit_and, Nat.testBit_xor, e, Nat.testBit_two_pow]
    by_cases hz : j = k
    · subst hz; simp [hi]
    · have : ¬ k = j := fun z => hz z.symm
      simp [hz, this]
  · rw [if_neg hi, Nat.testBit_and, Nat.testBit_xor, e, Nat.testBit_two_pow]
    by_cases hz : j = k
    · subst hz; simp [hi]
    · have : ¬ k = j := fun z => hz z.symm
      simp [hz, this]
theorem tlN_l {b k : Nat} {i : Int} (hb : b < 4096) (hk : k < 12) : tlN b k i < 4096 := by
  have h1 : b &&& (4095 ^^^ 2 ^ k) < 2 ^ 12 := Nat.and_lt_two_pow _ (Nat.xor_lt_two_pow (by omega) (Nat.pow_lt_pow_right (by omega) hk))
  unfold tlN
  split
  · exact Nat.or_lt_two_pow h1 (Nat.pow_lt_pow_right (by omega) hk)
  · exact h1
theorem tlB_b {b k : Nat} {i : Int} (hb : b < 4096) (hk : k < 12) (hi : i = 0 ∨ i = 1) : tlB (b : Int) k i = (tlN b k i : Nat) := by
  obtain ⟨h1, h2, h3⟩ := b12 hb
  obtain ⟨s1, s2⟩ := b12_s0 ⟨k, hk⟩
  simp only at s1 s2
  have e1 : iand (b : Int) (ixor (ishl 1 k) (-1)) = ((b &&& (4095 ^^^ 2 ^ k) : Nat) : Int) := by
    have := b12_n0 ⟨b / 64, h1⟩ ⟨b % 64, h2⟩ ⟨k, hk⟩
    simp only [h3] at this
    rw [iand_eq, ixor_eq, ishl_eq, s1]; exact this
  unfold tlB
  rw [e1]
  have hl : (b &&& (4095 ^^^ 2 ^ k)) < 4096 := by
    have := tlN_l (b := b) (k := k) (i := 0) hb hk
    unfold tlN at this
    simpa using this
  obtain ⟨q1, q2, q3⟩ := b12 hl
  unfold tlN
  rcases hi with rfl | rfl
  · have := b12_z0 ⟨_, q1⟩ ⟨_, q2⟩
    simp only [q3] at this
    rw [ior_eq, ishl_eq, s2, this]
    simp
  · have := b12_o0 ⟨_, q1⟩ ⟨_, q2⟩ ⟨k, hk⟩
    simp only [q3] at this
    rw [ior_eq, ishl_eq, s1, this]
    simp
