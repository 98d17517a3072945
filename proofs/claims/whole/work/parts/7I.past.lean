/-! Past's constructor -/
def fFPast (a : Nat) : Nat → Int := fset (fun _ => -1) 0 ((a + 1 : Nat) : Int)
def fSPast (a k : Nat) : Tau := .inl (2, fFPast a) :: .inr (5, 12) :: seas (a + 2) k
theorem n_PastL {l : Launch} {g : GE} {d : Nat} {T0 : Tau} {σ : Mem} {Q : Post} (hB : gB g = true) (h : Q none (T0 ++ fSPast T0.length 12) (pz σ (T0.length + 1) (T0.length + 2) 12)) : ∀ (j k : Nat), j + k = 12 → Wp l g 11 (d + 2) (7 * j) (63 * j) 15 [(0, vR T0.length), (1, vI k)] [] (T0 ++ fSPast T0.length k) (pz σ (T0.length + 1) (T0.length + 2) k) Q := by
  intro j
  induction j with
  | zero =>
    intro k hk
    have : k = 12 := by omega
    subst this
    refine r_iload_n (i := 1) rfl (by decide +kernel) ?_
    refine r_bipush (n := 12) (v := 12) (by unfold b32; omega) (by decide +kernel) (by decide +kernel) ?_
    refine r_icmp_ge (tgt := 40) (off := 22) (by decide +kernel) rfl (fun _ => ?_) (fun z => absurd (show (12 : Int) ≤ ((12 : Nat) : Int) by omega) z)
    exact r_retC rfl (by decide +kernel) rfl h
  | succ j ih =>
    intro k hk
    refine r_iload_n (i := 1) rfl (by decide +kernel) ?_
    refine r_bipush (n := 12) (v := 12) (by unfold b32; omega) (by decide +kernel) (by decide +kernel) ?_
    refine r_icmp_ge (tgt := 40) (off := 22) (by decide +kernel) rfl (fun z => absurd z (by omega)) (fun _ => ?_)
    refine r_aload_n (i := 0) rfl (by decide +kernel) ?_
    refine r_get (ci := 2) (k := 0) (kd := 3) ⟨Int.natCast_nonneg _, _, ap_at⟩ (by decide +kernel) fl_2_11 (by decide +kernel) ?_
    have hg : gval (T0 ++ fSPast T0.length k) (pz σ (T0.length + 1) (T0.length + 2) k) T0.length 0 3 = vR (T0.length + 1) := by
      unfold gval finOf fSPast
      rw [ap_at]
      rfl
    rw [hg]
    refine r_iload_n (i := 1) rfl (by decide +kernel) ?_
    have hl : (T0 ++ fSPast T0.length k).length = T0.length + 2 + 7 * k := by
      unfold fSPast
      rw [List.length_append, List.length_cons, List.length_cons, seas_len]
      omega
    refine r_newX (idx := 9) (ci := 5) (ei := 39) (nc := 6) (ns := 54) (q := (RX5, TX5, 9)) rfl df5 (by decide +kernel) hB (by omega) (by show 9 + 54 ≤ _; omega) (by decide +kernel) (by decide +kernel) (by decide +kernel) (Or.inr rfl) ca_2_17 (by show 2 + 1 ≤ 8; omega) ?_
    refine n_Sea hB ?_
    rw [zs_Sea, hl]
    have hT : T0 ++ fSPast T0.length k ++ fSSea (T0.length + 2 + 7 * k) = T0 ++ fSPast T0.length (k + 1) := by
      unfold fSPast
      rw [List.append_assoc]
      rfl
    have h5 : isO (T0 ++ fSPast T0.length k ++ fSSea (T0.length + 2 + 7 * k)) ((T0.length + 2 + 7 * k : Nat) : Int) 5 := by
      rw [← hl]
      exact ⟨Int.natCast_nonneg _, _, ap_at⟩
    have h6 : (T0 ++ fSPast T0.length (k + 1))[((T0.length : Int) + 1).toNat]? = some (.inr (5, 12)) := by
      rw [show ((T0.length : Int) + 1).toNat = T0.length + 1 by omega, List.getElem?_append_right (by omega), show T0.length + 1 - T0.length = 1 by omega]
      rfl
    have h7 : lenOf (T0 ++ fSPast T0.length (k + 1)) ((T0.length : Int) + 1) = 12 := by
      unfold lenOf
      rw [h6]
    rw [hT] at h5 ⊢
    refine r_aast (x := (T0.length : Int) + 1) (i := k) ⟨by omega, by rw [h7]; exact h6⟩ h5 (by omega) (by rw [h7]; omega) (by decide +kernel) ?_
    rw [pz_1 (by omega) (by omega) (by omega)]
    refine r_iinc (i := 1) (n := 1) rfl (by decide) (by decide +kernel) ?_
    refine r_goto (tgt := 15) (off := -22) (by decide +kernel) rfl ?_
    have e1 : 7 * (j + 1) - 1 - 6 = 7 * j := by omega
    have e2 : 63 * (j + 1) - (RX5, TX5, 9).2.2 - 54 = 63 * j := by show 63 * (j + 1) - 9 - 54 = _; omega
    have e3 : lset 1 (vI (w32 ((k : Int) + 1))) [(0, vR T0.length), (1, vI k)] = [(0, vR T0.length), (1, vI ((k + 1 : Nat) : Int))] := by
      rw [w32_id (by omega) (by omega)]
      rfl
    rw [e1, e2, e3, show (k : Int) + 1 = ((k + 1 : Nat) : Int) by omega]
    exact ih (k + 1) (by omega)
theorem n_Past {l : Launch} {g : GE} {d : Nat} {T0 : Tau} {σ : Mem} {Q : Post} (hB : gB g = true) (h : Q none (T0 ++ fSPast T0.length 12) (pz σ (T0.length + 1) (T0.length + 2) 12)) : WPc l g 11 (d + 2) 85 768 [vR T0.length] (T0 ++ [.inl (2, fun _ => -1)]) σ Q := by
  refine wp_in (by decide +kernel) (show 1 ≤ mL 11 by decide) ?_
  refine r_aload_n (i := 0) rfl (by decide +kernel) ?_
  refine r_objI (idx := 3) (Int.natCast_nonneg _) (inA (by decide +kernel)) (inA (by decide +kernel)) (inA (by decide +kernel)) (by decide) (by decide +kernel) ?_
  refine r_aload_n (i := 0) rfl (by decide +kernel) ?_
  refine r_bipush (n := 12) (v := 12) (by unfold b32; omega) (by decide +kernel) (by decide +kernel) ?_
  refine r_fan (idx := 11) (idx2 := 9) (n := 12) (k := 0) (ci := 2) (q := (RX2, TX2, 3)) (inA (by decide +kernel)) hB (by decide) (by decide) (by decide) (by decide +kernel) rfl (by decide) rfl rfl (inA (by decide +kernel)) (by decide +kernel) (by decide +kernel) (by decide +kernel) (ft := tyF 5) (by decide +kernel) (by decide +kernel) ?_
  refine r_iconst (n := 0) (by unfold b32; omega) (by decide +kernel) ?_
  refine r_istore_n (i := 1) (by decide) (by decide +kernel) ?_
  have h0 := n_PastL (l := l) (g := g) (d := d) (T0 := T0) (σ := σ) (Q := Q) hB h 12 0 rfl
  rw [show ((0 : Nat) : Int) = 0 from rfl, ← pz_0] at h0
  exact h0
