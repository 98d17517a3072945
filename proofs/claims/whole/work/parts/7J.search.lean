/-! Search's constructor -/
def fFSrch (a : Nat) : Nat → Int := fset (fset (fun _ => -1) 0 ((a + 1 : Nat) : Int)) 1 ((a + 2 : Nat) : Int)
def fSSrch (a k : Nat) : Tau := .inl (6, fFSrch a) :: .inr (5, 4) :: .inr (0, 6) :: seas (a + 3) k
theorem n_SrchL {l : Launch} {g : GE} {d : Nat} {T0 : Tau} {σ : Mem} {Q : Post} (hB : gB g = true) (h : Q none (T0 ++ fSSrch T0.length 4) (pz σ (T0.length + 1) (T0.length + 3) 4)) : ∀ (j k : Nat), j + k = 4 → Wp l g 69 (d + 2) (7 * j) (63 * j) 22 [(0, vR T0.length), (1, vI k)] [] (T0 ++ fSSrch T0.length k) (pz σ (T0.length + 1) (T0.length + 3) k) Q := by
  intro j
  induction j with
  | zero =>
    intro k hk
    have : k = 4 := by omega
    subst this
    refine r_iload_n (i := 1) rfl (by decide +kernel) ?_
    refine r_iconst (n := 3) (by unfold b32; omega) (by decide +kernel) ?_
    refine r_icmp_gt (tgt := 46) (off := 22) (by decide +kernel) rfl (fun _ => ?_) (fun z => absurd (show (3 : Int) < ((4 : Nat) : Int) by omega) z)
    exact r_retC rfl (by decide +kernel) rfl h
  | succ j ih =>
    intro k hk
    refine r_iload_n (i := 1) rfl (by decide +kernel) ?_
    refine r_iconst (n := 3) (by unfold b32; omega) (by decide +kernel) ?_
    refine r_icmp_gt (tgt := 46) (off := 22) (by decide +kernel) rfl (fun z => absurd z (by omega)) (fun _ => ?_)
    refine r_aload_n (i := 0) rfl (by decide +kernel) ?_
    refine r_get (ci := 6) (k := 0) (kd := 3) ⟨Int.natCast_nonneg _, _, ap_at⟩ (by decide +kernel) fl_6_11 (by decide +kernel) ?_
    have hg : gval (T0 ++ fSSrch T0.length k) (pz σ (T0.length + 1) (T0.length + 3) k) T0.length 0 3 = vR (T0.length + 1) := by
      unfold gval finOf fSSrch
      rw [ap_at]
      rfl
    rw [hg]
    refine r_iload_n (i := 1) rfl (by decide +kernel) ?_
    have hl : (T0 ++ fSSrch T0.length k).length = T0.length + 3 + 7 * k := by
      unfold fSSrch
      rw [List.length_append, List.length_cons, List.length_cons, List.length_cons, seas_len]
      omega
    refine r_newX (idx := 9) (ci := 5) (ei := 39) (nc := 6) (ns := 54) (q := (RX5, TX5, 9)) rfl df5 (by decide +kernel) hB (by omega) (by show 9 + 54 ≤ _; omega) (by decide +kernel) (by decide +kernel) (by decide +kernel) (Or.inr rfl) ca_6_21 (by show 2 + 1 ≤ 8; omega) ?_
    refine n_Sea hB ?_
    rw [zs_Sea, hl]
    have hT : T0 ++ fSSrch T0.length k ++ fSSea (T0.length + 3 + 7 * k) = T0 ++ fSSrch T0.length (k + 1) := by
      unfold fSSrch
      rw [List.append_assoc]
      rfl
    have h5 : isO (T0 ++ fSSrch T0.length k ++ fSSea (T0.length + 3 + 7 * k)) ((T0.length + 3 + 7 * k : Nat) : Int) 5 := by
      rw [← hl]
      exact ⟨Int.natCast_nonneg _, _, ap_at⟩
    have h6 : (T0 ++ fSSrch T0.length (k + 1))[((T0.length : Int) + 1).toNat]? = some (.inr (5, 4)) := by
      rw [show ((T0.length : Int) + 1).toNat = T0.length + 1 by omega, List.getElem?_append_right (by omega), show T0.length + 1 - T0.length = 1 by omega]
      rfl
    have h7 : lenOf (T0 ++ fSSrch T0.length (k + 1)) ((T0.length : Int) + 1) = 4 := by
      unfold lenOf
      rw [h6]
    rw [hT] at h5 ⊢
    refine r_aast (x := (T0.length : Int) + 1) (i := k) ⟨by omega, by rw [h7]; exact h6⟩ h5 (by omega) (by rw [h7]; omega) (by decide +kernel) ?_
    rw [pz_1 (by omega) (by omega) (by omega)]
    refine r_iinc (i := 1) (n := 1) rfl (by decide) (by decide +kernel) ?_
    refine r_goto (tgt := 22) (off := -21) (by decide +kernel) rfl ?_
    have e1 : 7 * (j + 1) - 1 - 6 = 7 * j := by omega
    have e2 : 63 * (j + 1) - (RX5, TX5, 9).2.2 - 54 = 63 * j := by show 63 * (j + 1) - 9 - 54 = _; omega
    have e3 : lset 1 (vI (w32 ((k : Int) + 1))) [(0, vR T0.length), (1, vI k)] = [(0, vR T0.length), (1, vI ((k + 1 : Nat) : Int))] := by
      rw [w32_id (by omega) (by omega)]
      rfl
    rw [e1, e2, e3, show (k : Int) + 1 = ((k + 1 : Nat) : Int) by omega]
    exact ih (k + 1) (by omega)
theorem pz_z {σ : Mem} {r s b : Int} (h : s ≠ r) : zr (zr σ r (fun _ => -1)) s (fun _ => 0) = pz (zr σ s (fun _ => 0)) r b 0 := by
  funext o i
  unfold zr pz
  by_cases h1 : o = r
  · subst h1
    rw [if_neg (by omega), if_pos rfl, if_pos rfl, if_neg (by omega)]
  · rw [if_neg h1, if_neg h1, if_neg (show ¬ (b ≤ o ∧ o < b + 7 * 0) by omega)]
theorem n_Srch {l : Launch} {g : GE} {d : Nat} {T0 : Tau} {σ : Mem} {Q : Post} (hB : gB g = true) (h : Q none (T0 ++ fSSrch T0.length 4) (pz (zr σ (T0.length + 2) (fun _ => 0)) (T0.length + 1) (T0.length + 3) 4)) : WPc l g 69 (d + 2) 30 262 [vR T0.length] (T0 ++ [.inl (6, fun _ => -1)]) σ Q := by
  refine wp_in (by decide +kernel) (show 1 ≤ mL 69 by decide) ?_
  refine r_aload_n (i := 0) rfl (by decide +kernel) ?_
  refine r_objI (idx := 3) (Int.natCast_nonneg _) (inA (by decide +kernel)) (inA (by decide +kernel)) (inA (by decide +kernel)) (by decide) (by decide +kernel) ?_
  refine r_aload_n (i := 0) rfl (by decide +kernel) ?_
  refine r_iconst (n := 4) (by unfold b32; omega) (by decide +kernel) ?_
  refine r_fan (idx := 11) (idx2 := 9) (n := 4) (k := 0) (ci := 6) (q := (RX6, TX6, 6)) (inA (by decide +kernel)) hB (by decide) (by decide) (by decide) (by decide +kernel) rfl (by decide) rfl rfl (inA (by decide +kernel)) (by decide +kernel) (by decide +kernel) (by decide +kernel) (ft := tyF 5) (by decide +kernel) (by decide +kernel) ?_
  refine r_aload_n (i := 0) rfl (by decide +kernel) ?_
  refine r_bipush (n := 6) (v := 6) (by unfold b32; omega) (by decide +kernel) (by decide +kernel) ?_
  refine r_fa (idx := 17) (atype := .int) (ty := 0) (n := 6) (k := 1) (ci := 6) (q := (RX6, TX6, 6)) rfl (by decide) (inA (by decide +kernel)) hB (by decide) (by decide) (by decide) (by decide +kernel) rfl (by decide) rfl rfl (inA (by decide +kernel)) (by decide +kernel) (by decide +kernel) (by decide +kernel) (ft := tyF 0) (by decide +kernel) (by decide +kernel) ?_
  refine r_iconst (n := 0) (by unfold b32; omega) (by decide +kernel) ?_
  refine r_istore_n (i := 1) (by decide) (by decide +kernel) ?_
  have h0 := n_SrchL (l := l) (g := g) (d := d) (T0 := T0) (σ := zr σ (T0.length + 2) (fun _ => 0)) (Q := Q) hB h 4 0 rfl
  rw [show ((0 : Nat) : Int) = 0 from rfl, ← pz_z (by omega)] at h0
  exact h0
