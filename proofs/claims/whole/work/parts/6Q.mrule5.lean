/-! the reference: rule -/
theorem rn_cg {x y : Nat → Int} {N : Nat} (h : ∀ p, p < N → x p = y p) : ∀ q s, q ≤ N → rn x N q s = rn y N q s
  | 0, _, _ => rfl
  | q + 1, s, hq => by
    show (match srT s (x (N - (q + 1))) with | none => bD (N - (q + 1)) | some s' => rn x N q s') = (match srT s (y (N - (q + 1))) with | none => bD (N - (q + 1)) | some s' => rn y N q s')
    rw [h (N - (q + 1)) (by omega)]
    cases srT s (y (N - (q + 1))) with
    | none => rfl
    | some s' => exact rn_cg h q s' (by omega)
theorem rlR_cg {X Y : Int → Int} {n : Nat} (h : ∀ p : Nat, p < n → X p = Y p) : rlR X n = rlR Y n := by
  unfold rlR
  refine rn_cg (fun p hp => ?_) _ _ (Nat.le_refl _)
  unfold txX
  by_cases hz : n = 0
  · rw [if_pos hz, if_pos hz]
  · rw [if_neg hz, if_neg hz]
    unfold txN at hp
    rw [if_neg hz] at hp
    exact h p (by omega)
theorem rlE_cg {X Y : Int → Int} {n : Nat} (h : ∀ p : Nat, p < n → X p = Y p) : rlE X n = rlE Y n ∧ flR X n = flR Y n := by
  unfold rlE flR
  rw [rlR_cg h]
  exact ⟨rfl, rfl⟩
theorem i8_id0 : ∀ k : Fin 256, (Int32.ofInt ((k.val : Int) - 128)).toInt8.toInt32.toInt = (k.val : Int) - 128 := by decide +kernel
