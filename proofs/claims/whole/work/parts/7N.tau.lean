/-! all objects -/
def mTau : Tau := cTau ++ fSM 175 ++ [.inr (1, 1)]
theorem mT_C : TC mTau := by
  have hs : ∀ a : Nat, a = 5 ∨ a = 12 ∨ a = 19 ∨ a = 112 ∨ a = 119 ∨ a = 28 ∨ a = 35 ∨ a = 42 ∨ a = 49 ∨ a = 56 ∨ a = 63 ∨ a = 70 ∨ a = 77 ∨ a = 84 ∨ a = 91 ∨ a = 98 ∨ a = 105 ∨ a = 129 ∨ a = 136 ∨ a = 143 ∨ a = 150 → SeaT mTau (a : Int) := by
    intro a h
    rcases h with rfl | rfl | rfl | rfl | rfl | rfl | rfl | rfl | rfl | rfl | rfl | rfl | rfl | rfl | rfl | rfl | rfl | rfl | rfl | rfl | rfl <;> exact ⟨⟨by decide, _, rfl⟩, rfl, rfl, rfl, rfl, rfl, rfl, ⟨by decide, rfl⟩, ⟨by decide, rfl⟩, ⟨by decide, rfl⟩, ⟨by decide, rfl⟩, ⟨by decide, rfl⟩, ⟨by decide, rfl⟩, rfl, rfl, rfl, rfl, rfl, rfl⟩
  have nt : NotT mTau 157 := ⟨⟨by decide, _, rfl⟩, ⟨rfl, rfl, rfl⟩, ⟨⟨by decide, rfl⟩, ⟨by decide, rfl⟩, ⟨by decide, rfl⟩⟩, rfl, rfl, rfl⟩
  have nt2 : NotT mTau 161 := ⟨⟨by decide, _, rfl⟩, ⟨rfl, rfl, rfl⟩, ⟨⟨by decide, rfl⟩, ⟨by decide, rfl⟩, ⟨by decide, rfl⟩⟩, rfl, rfl, rfl⟩
  have rt : RulT mTau 167 := ⟨⟨by decide, _, rfl⟩, ⟨rfl, rfl, rfl⟩, ⟨⟨by decide, rfl⟩, ⟨by decide, rfl⟩, ⟨by decide, rfl⟩⟩, rfl, rfl, rfl⟩
  have rt2 : RulT mTau 171 := ⟨⟨by decide, _, rfl⟩, ⟨rfl, rfl, rfl⟩, ⟨⟨by decide, rfl⟩, ⟨by decide, rfl⟩, ⟨by decide, rfl⟩⟩, rfl, rfl, rfl⟩
  refine ⟨⟨by decide, _, rfl⟩, rfl, rfl, rfl, rfl, rfl, rfl, rfl, rfl, rfl, rfl, rfl, rfl, ⟨by decide, _, rfl⟩, rfl, ⟨by decide, rfl⟩, rfl, ⟨by decide, _, rfl⟩, rfl, ⟨by decide, rfl⟩, rfl, hs 5 (by omega), hs 12 (by omega), hs 19 (by omega), hs 112 (by omega), hs 119 (by omega), ⟨by decide, _, rfl⟩, rfl, ⟨by decide, rfl⟩, rfl, fun k h0 h1 => ?_, ⟨by decide, _, rfl⟩, rfl, rfl, ⟨by decide, rfl⟩, rfl, ⟨by decide, rfl⟩, rfl, fun k h0 h1 => ?_, nt, nt2, ⟨by decide, _, rfl⟩, rfl, ⟨by decide, rfl⟩, rfl, rt, rt2⟩
  · have := hs (28 + 7 * k).toNat (by omega)
    rw [show (((28 + 7 * k).toNat : Nat) : Int) = 28 + 7 * k by omega] at this
    exact this
  · have := hs (129 + 7 * k).toNat (by omega)
    rw [show (((129 + 7 * k).toNat : Nat) : Int) = 129 + 7 * k by omega] at this
    exact this
set_option maxRecDepth 5000 in
theorem mT_M : TM mTau := ⟨⟨by decide, _, rfl⟩, rfl, ⟨by decide, rfl⟩, rfl, rfl, ⟨by decide, rfl⟩, rfl, rfl, ⟨by decide, rfl⟩, rfl, rfl, ⟨by decide, rfl⟩, rfl, rfl, ⟨by decide, rfl⟩, rfl, ⟨by decide, rfl⟩, rfl, ⟨by decide, rfl⟩, rfl, rfl, ⟨by decide, rfl⟩, rfl, rfl, ⟨by decide, rfl⟩, rfl, rfl, ⟨by decide, rfl⟩, rfl, rfl, ⟨by decide, rfl⟩, rfl, rfl, ⟨by decide, rfl⟩, rfl, rfl, ⟨by decide, rfl⟩, rfl, rfl, ⟨by decide, rfl⟩, rfl, rfl, ⟨by decide, rfl⟩, rfl, rfl, ⟨by decide, rfl⟩, rfl, rfl, ⟨by decide, rfl⟩, rfl, rfl, ⟨by decide, rfl⟩, rfl, rfl, ⟨by decide, rfl⟩, rfl, rfl, ⟨by decide, rfl⟩, rfl, rfl, ⟨by decide, rfl⟩, rfl, rfl, ⟨by decide, rfl⟩, rfl, rfl, ⟨by decide, rfl⟩, rfl⟩
theorem mT_o : isT mTau 199 1 ∧ lenOf mTau 199 = 1 := ⟨⟨by decide, rfl⟩, rfl⟩
