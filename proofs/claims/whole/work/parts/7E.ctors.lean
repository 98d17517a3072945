/-! constructors: rows of numbers -/
def fFSea (a : Nat) : Nat → Int := (fset (fset (fset (fset (fset (fset (fun _ => -1) 3 ((a + 1 + 0 : Nat) : Int)) 4 ((a + 1 + 1 : Nat) : Int)) 5 ((a + 1 + 2 : Nat) : Int)) 6 ((a + 1 + 3 : Nat) : Int)) 7 ((a + 1 + 4 : Nat) : Int)) 8 ((a + 1 + 5 : Nat) : Int))
def fSSea (a : Nat) : Tau := .inl (5, fFSea a) :: [.inr (0, 6), .inr (0, 6), .inr (0, 6), .inr (0, 6), .inr (0, 6), .inr (0, 24)]
def fZSea (σ : Mem) (a : Nat) : Mem := (zr (zr (zr (zr (zr (zr σ ((a + 1 + 0 : Nat) : Int) (fun _ => 0)) ((a + 1 + 1 : Nat) : Int) (fun _ => 0)) ((a + 1 + 2 : Nat) : Int) (fun _ => 0)) ((a + 1 + 3 : Nat) : Int) (fun _ => 0)) ((a + 1 + 4 : Nat) : Int) (fun _ => 0)) ((a + 1 + 5 : Nat) : Int) (fun _ => 0))
theorem n_Sea {l : Launch} {g : GE} {d : Nat} {T0 : Tau} {σ : Mem} {Q : Post} (hB : gB g = true) (h : Q none (T0 ++ fSSea T0.length) (fZSea σ T0.length)) : WPc l g 39 (d + 1) 6 54 [vR T0.length] (T0 ++ [.inl (5, fun _ => -1)]) σ Q := by
  refine wp_in (by decide +kernel) (show 1 ≤ mL 39 by decide) ?_
  refine r_aload_n (i := 0) rfl (by decide +kernel) ?_
  refine r_objI (idx := 3) (Int.natCast_nonneg _) (inA (by decide +kernel)) (inA (by decide +kernel)) (inA (by decide +kernel)) (by decide) (by decide +kernel) ?_
  refine r_aload_n (i := 0) rfl (by decide +kernel) ?_
  refine r_bipush (n := 6) (v := 6) (by unfold b32; omega) (by decide +kernel) (by decide +kernel) ?_
  refine r_fa (idx := 9) (atype := .int) (ty := 0) (n := 6) (k := 3) (ci := 5) (q := (RX5, TX5, 9)) rfl (by decide) (inA (by decide +kernel)) hB (by decide) (by decide) (by decide) (by decide +kernel) rfl (by decide) rfl rfl (inA (by decide +kernel)) (by decide +kernel) (by decide +kernel) (by decide +kernel) (ft := tyF 0) (by decide +kernel) (by decide +kernel) ?_
  refine r_aload_n (i := 0) rfl (by decide +kernel) ?_
  refine r_bipush (n := 6) (v := 6) (by unfold b32; omega) (by decide +kernel) (by decide +kernel) ?_
  refine r_fa (idx := 15) (atype := .int) (ty := 0) (n := 6) (k := 4) (ci := 5) (q := (RX5, TX5, 9)) rfl (by decide) (inA (by decide +kernel)) hB (by decide) (by decide) (by decide) (by decide +kernel) rfl (by decide) rfl rfl (inA (by decide +kernel)) (by decide +kernel) (by decide +kernel) (by decide +kernel) (ft := tyF 0) (by decide +kernel) (by decide +kernel) ?_
  refine r_aload_n (i := 0) rfl (by decide +kernel) ?_
  refine r_bipush (n := 6) (v := 6) (by unfold b32; omega) (by decide +kernel) (by decide +kernel) ?_
  refine r_fa (idx := 18) (atype := .int) (ty := 0) (n := 6) (k := 5) (ci := 5) (q := (RX5, TX5, 9)) rfl (by decide) (inA (by decide +kernel)) hB (by decide) (by decide) (by decide) (by decide +kernel) rfl (by decide) rfl rfl (inA (by decide +kernel)) (by decide +kernel) (by decide +kernel) (by decide +kernel) (ft := tyF 0) (by decide +kernel) (by decide +kernel) ?_
  refine r_aload_n (i := 0) rfl (by decide +kernel) ?_
  refine r_bipush (n := 6) (v := 6) (by unfold b32; omega) (by decide +kernel) (by decide +kernel) ?_
  refine r_fa (idx := 21) (atype := .int) (ty := 0) (n := 6) (k := 6) (ci := 5) (q := (RX5, TX5, 9)) rfl (by decide) (inA (by decide +kernel)) hB (by decide) (by decide) (by decide) (by decide +kernel) rfl (by decide) rfl rfl (inA (by decide +kernel)) (by decide +kernel) (by decide +kernel) (by decide +kernel) (ft := tyF 0) (by decide +kernel) (by decide +kernel) ?_
  refine r_aload_n (i := 0) rfl (by decide +kernel) ?_
  refine r_bipush (n := 6) (v := 6) (by unfold b32; omega) (by decide +kernel) (by decide +kernel) ?_
  refine r_fa (idx := 24) (atype := .int) (ty := 0) (n := 6) (k := 7) (ci := 5) (q := (RX5, TX5, 9)) rfl (by decide) (inA (by decide +kernel)) hB (by decide) (by decide) (by decide) (by decide +kernel) rfl (by decide) rfl rfl (inA (by decide +kernel)) (by decide +kernel) (by decide +kernel) (by decide +kernel) (ft := tyF 0) (by decide +kernel) (by decide +kernel) ?_
  refine r_aload_n (i := 0) rfl (by decide +kernel) ?_
  refine r_bipush (n := 24) (v := 24) (by unfold b32; omega) (by decide +kernel) (by decide +kernel) ?_
  refine r_fa (idx := 27) (atype := .int) (ty := 0) (n := 24) (k := 8) (ci := 5) (q := (RX5, TX5, 9)) rfl (by decide) (inA (by decide +kernel)) hB (by decide) (by decide) (by decide) (by decide +kernel) rfl (by decide) rfl rfl (inA (by decide +kernel)) (by decide +kernel) (by decide +kernel) (by decide +kernel) (ft := tyF 0) (by decide +kernel) (by decide +kernel) ?_
  exact r_retC rfl (by decide +kernel) rfl h
