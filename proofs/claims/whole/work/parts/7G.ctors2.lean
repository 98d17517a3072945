/-! constructors: the small ones -/
def fFText (a : Nat) : Nat → Int := (fset (fun _ => -1) 0 ((a + 1 + 0 : Nat) : Int))
def fSText (a : Nat) : Tau := .inl (7, fFText a) :: [.inr (4, 80)]
def fZText (σ : Mem) (a : Nat) : Mem := (zr σ ((a + 1 + 0 : Nat) : Int) (fun _ => 0))
theorem n_Text {l : Launch} {g : GE} {d : Nat} {T0 : Tau} {σ : Mem} {Q : Post} (hB : gB g = true) (h : Q none (T0 ++ fSText T0.length) (fZText σ T0.length)) : WPc l g 80 (d + 1) 1 80 [vR T0.length] (T0 ++ [.inl (7, fun _ => -1)]) σ Q := by
  refine wp_in (by decide +kernel) (show 1 ≤ mL 80 by decide) ?_
  refine r_aload_n (i := 0) rfl (by decide +kernel) ?_
  refine r_objI (idx := 3) (Int.natCast_nonneg _) (inA (by decide +kernel)) (inA (by decide +kernel)) (inA (by decide +kernel)) (by decide) (by decide +kernel) ?_
  refine r_aload_n (i := 0) rfl (by decide +kernel) ?_
  refine r_bipush (n := 80) (v := 80) (by unfold b32; omega) (by decide +kernel) (by decide +kernel) ?_
  refine r_fa (idx := 9) (atype := .char) (ty := 4) (n := 80) (k := 0) (ci := 7) (q := (RX7, TX7, 2)) rfl (by decide) (inA (by decide +kernel)) hB (by decide) (by decide) (by decide) (by decide +kernel) rfl (by decide) rfl rfl (inA (by decide +kernel)) (by decide +kernel) (by decide +kernel) (by decide +kernel) (ft := tyF 4) (by decide +kernel) (by decide +kernel) ?_
  exact r_retC rfl (by decide +kernel) rfl h
theorem zs_Text {σ : Mem} {a : Nat} : fZText (zr σ a (nf 7)) a = zs σ a 2 := by
  unfold fZText
  rw [nf_z (by decide), zs_0 (σ := σ) (a := (a : Int)), zs_1 (n := 1) (by omega) (by omega)]
  rfl
def fFRow (a : Nat) : Nat → Int := (fset (fun _ => -1) 0 ((a + 1 + 0 : Nat) : Int))
def fSRow (a : Nat) : Tau := .inl (3, fFRow a) :: [.inr (1, 8)]
def fZRow (σ : Mem) (a : Nat) : Mem := (zr σ ((a + 1 + 0 : Nat) : Int) (fun _ => 0))
theorem n_Row {l : Launch} {g : GE} {d : Nat} {T0 : Tau} {σ : Mem} {Q : Post} (hB : gB g = true) (h : Q none (T0 ++ fSRow T0.length) (fZRow σ T0.length)) : WPc l g 16 (d + 1) 1 8 [vR T0.length] (T0 ++ [.inl (3, fun _ => -1)]) σ Q := by
  refine wp_in (by decide +kernel) (show 1 ≤ mL 16 by decide) ?_
  refine r_aload_n (i := 0) rfl (by decide +kernel) ?_
  refine r_objI (idx := 1) (Int.natCast_nonneg _) (inA (by decide +kernel)) (inA (by decide +kernel)) (inA (by decide +kernel)) (by decide) (by decide +kernel) ?_
  refine r_aload_n (i := 0) rfl (by decide +kernel) ?_
  refine r_bipush (n := 8) (v := 8) (by unfold b32; omega) (by decide +kernel) (by decide +kernel) ?_
  refine r_fa (idx := 7) (atype := .long) (ty := 1) (n := 8) (k := 0) (ci := 3) (q := (RX3, TX3, 2)) rfl (by decide) (inA (by decide +kernel)) hB (by decide) (by decide) (by decide) (by decide +kernel) rfl (by decide) rfl rfl (inA (by decide +kernel)) (by decide +kernel) (by decide +kernel) (by decide +kernel) (ft := tyF 1) (by decide +kernel) (by decide +kernel) ?_
  exact r_retC rfl (by decide +kernel) rfl h
theorem zs_Row {σ : Mem} {a : Nat} : fZRow (zr σ a (nf 3)) a = zs σ a 2 := by
  unfold fZRow
  rw [nf_z (by decide), zs_0 (σ := σ) (a := (a : Int)), zs_1 (n := 1) (by omega) (by omega)]
  rfl
def fFNotes (a : Nat) : Nat → Int := (fset (fset (fset (fun _ => -1) 0 ((a + 1 + 0 : Nat) : Int)) 1 ((a + 1 + 1 : Nat) : Int)) 2 ((a + 1 + 2 : Nat) : Int))
def fSNotes (a : Nat) : Tau := .inl (1, fFNotes a) :: [.inr (0, 12), .inr (0, 12), .inr (0, 12)]
def fZNotes (σ : Mem) (a : Nat) : Mem := (zr (zr (zr σ ((a + 1 + 0 : Nat) : Int) (fun _ => 0)) ((a + 1 + 1 : Nat) : Int) (fun _ => 0)) ((a + 1 + 2 : Nat) : Int) (fun _ => 0))
theorem n_Notes {l : Launch} {g : GE} {d : Nat} {T0 : Tau} {σ : Mem} {Q : Post} (hB : gB g = true) (h : Q none (T0 ++ fSNotes T0.length) (fZNotes σ T0.length)) : WPc l g 5 (d + 1) 3 36 [vR T0.length] (T0 ++ [.inl (1, fun _ => -1)]) σ Q := by
  refine wp_in (by decide +kernel) (show 1 ≤ mL 5 by decide) ?_
  refine r_aload_n (i := 0) rfl (by decide +kernel) ?_
  refine r_objI (idx := 3) (Int.natCast_nonneg _) (inA (by decide +kernel)) (inA (by decide +kernel)) (inA (by decide +kernel)) (by decide) (by decide +kernel) ?_
  refine r_aload_n (i := 0) rfl (by decide +kernel) ?_
  refine r_bipush (n := 12) (v := 12) (by unfold b32; omega) (by decide +kernel) (by decide +kernel) ?_
  refine r_fa (idx := 9) (atype := .int) (ty := 0) (n := 12) (k := 0) (ci := 1) (q := (RX1, TX1, 4)) rfl (by decide) (inA (by decide +kernel)) hB (by decide) (by decide) (by decide) (by decide +kernel) rfl (by decide) rfl rfl (inA (by decide +kernel)) (by decide +kernel) (by decide +kernel) (by decide +kernel) (ft := tyF 0) (by decide +kernel) (by decide +kernel) ?_
  refine r_aload_n (i := 0) rfl (by decide +kernel) ?_
  refine r_bipush (n := 12) (v := 12) (by unfold b32; omega) (by decide +kernel) (by decide +kernel) ?_
  refine r_fa (idx := 15) (atype := .int) (ty := 0) (n := 12) (k := 1) (ci := 1) (q := (RX1, TX1, 4)) rfl (by decide) (inA (by decide +kernel)) hB (by decide) (by decide) (by decide) (by decide +kernel) rfl (by decide) rfl rfl (inA (by decide +kernel)) (by decide +kernel) (by decide +kernel) (by decide +kernel) (ft := tyF 0) (by decide +kernel) (by decide +kernel) ?_
  refine r_aload_n (i := 0) rfl (by decide +kernel) ?_
  refine r_bipush (n := 12) (v := 12) (by unfold b32; omega) (by decide +kernel) (by decide +kernel) ?_
  refine r_fa (idx := 18) (atype := .int) (ty := 0) (n := 12) (k := 2) (ci := 1) (q := (RX1, TX1, 4)) rfl (by decide) (inA (by decide +kernel)) hB (by decide) (by decide) (by decide) (by decide +kernel) rfl (by decide) rfl rfl (inA (by decide +kernel)) (by decide +kernel) (by decide +kernel) (by decide +kernel) (ft := tyF 0) (by decide +kernel) (by decide +kernel) ?_
  exact r_retC rfl (by decide +kernel) rfl h
theorem zs_Notes {σ : Mem} {a : Nat} : fZNotes (zr σ a (nf 1)) a = zs σ a 4 := by
  unfold fZNotes
  rw [nf_z (by decide), zs_0 (σ := σ) (a := (a : Int)), zs_1 (n := 1) (by omega) (by omega), zs_1 (n := 1 + 1) (by omega) (by omega), zs_1 (n := 1 + 1 + 1) (by omega) (by omega)]
  rfl
def fFLaws (a : Nat) : Nat → Int := (fset (fun _ => -1) 0 ((a + 1 + 0 : Nat) : Int))
def fSLaws (a : Nat) : Tau := .inl (0, fFLaws a) :: [.inr (3, 169)]
def fZLaws (σ : Mem) (a : Nat) : Mem := (zr σ ((a + 1 + 0 : Nat) : Int) (fun _ => 0))
theorem n_Laws {l : Launch} {g : GE} {d : Nat} {T0 : Tau} {σ : Mem} {Q : Post} (hB : gB g = true) (h : Q none (T0 ++ fSLaws T0.length) (fZLaws σ T0.length)) : WPc l g 0 (d + 1) 1 169 [vR T0.length] (T0 ++ [.inl (0, fun _ => -1)]) σ Q := by
  refine wp_in (by decide +kernel) (show 1 ≤ mL 0 by decide) ?_
  refine r_aload_n (i := 0) rfl (by decide +kernel) ?_
  refine r_objI (idx := 3) (Int.natCast_nonneg _) (inA (by decide +kernel)) (inA (by decide +kernel)) (inA (by decide +kernel)) (by decide) (by decide +kernel) ?_
  refine r_aload_n (i := 0) rfl (by decide +kernel) ?_
  refine r_sipush (n := 169) (v := 169) (by unfold b32; omega) (by decide +kernel) (by decide +kernel) ?_
  refine r_fa (idx := 9) (atype := .boolean) (ty := 3) (n := 169) (k := 0) (ci := 0) (q := (RX0, TX0, 2)) rfl (by decide) (inA (by decide +kernel)) hB (by decide) (by decide) (by decide) (by decide +kernel) rfl (by decide) rfl rfl (inA (by decide +kernel)) (by decide +kernel) (by decide +kernel) (by decide +kernel) (ft := tyF 3) (by decide +kernel) (by decide +kernel) ?_
  exact r_retC rfl (by decide +kernel) rfl h
theorem zs_Laws {σ : Mem} {a : Nat} : fZLaws (zr σ a (nf 0)) a = zs σ a 2 := by
  unfold fZLaws
  rw [nf_z (by decide), zs_0 (σ := σ) (a := (a : Int)), zs_1 (n := 1) (by omega) (by omega)]
  rfl
def fFRule (a : Nat) : Nat → Int := (fset (fset (fset (fun _ => -1) 0 ((a + 1 + 0 : Nat) : Int)) 1 ((a + 1 + 1 : Nat) : Int)) 2 ((a + 1 + 2 : Nat) : Int))
def fSRule (a : Nat) : Tau := .inl (4, fFRule a) :: [.inr (0, 40), .inr (4, 40), .inr (0, 40)]
def fZRule (σ : Mem) (a : Nat) : Mem := (zr (zr (zr σ ((a + 1 + 0 : Nat) : Int) (fun _ => 0)) ((a + 1 + 1 : Nat) : Int) (fun _ => 0)) ((a + 1 + 2 : Nat) : Int) (fun _ => 0))
theorem n_Rule {l : Launch} {g : GE} {d : Nat} {T0 : Tau} {σ : Mem} {Q : Post} (hB : gB g = true) (h : Q none (T0 ++ fSRule T0.length) (fZRule σ T0.length)) : WPc l g 23 (d + 1) 3 120 [vR T0.length] (T0 ++ [.inl (4, fun _ => -1)]) σ Q := by
  refine wp_in (by decide +kernel) (show 1 ≤ mL 23 by decide) ?_
  refine r_aload_n (i := 0) rfl (by decide +kernel) ?_
  refine r_objI (idx := 3) (Int.natCast_nonneg _) (inA (by decide +kernel)) (inA (by decide +kernel)) (inA (by decide +kernel)) (by decide) (by decide +kernel) ?_
  refine r_aload_n (i := 0) rfl (by decide +kernel) ?_
  refine r_bipush (n := 40) (v := 40) (by unfold b32; omega) (by decide +kernel) (by decide +kernel) ?_
  refine r_fa (idx := 9) (atype := .int) (ty := 0) (n := 40) (k := 0) (ci := 4) (q := (RX4, TX4, 9)) rfl (by decide) (inA (by decide +kernel)) hB (by decide) (by decide) (by decide) (by decide +kernel) rfl (by decide) rfl rfl (inA (by decide +kernel)) (by decide +kernel) (by decide +kernel) (by decide +kernel) (ft := tyF 0) (by decide +kernel) (by decide +kernel) ?_
  refine r_aload_n (i := 0) rfl (by decide +kernel) ?_
  refine r_bipush (n := 40) (v := 40) (by unfold b32; omega) (by decide +kernel) (by decide +kernel) ?_
  refine r_fa (idx := 15) (atype := .char) (ty := 4) (n := 40) (k := 1) (ci := 4) (q := (RX4, TX4, 9)) rfl (by decide) (inA (by decide +kernel)) hB (by decide) (by decide) (by decide) (by decide +kernel) rfl (by decide) rfl rfl (inA (by decide +kernel)) (by decide +kernel) (by decide +kernel) (by decide +kernel) (ft := tyF 4) (by decide +kernel) (by decide +kernel) ?_
  refine r_aload_n (i := 0) rfl (by decide +kernel) ?_
  refine r_bipush (n := 40) (v := 40) (by unfold b32; omega) (by decide +kernel) (by decide +kernel) ?_
  refine r_fa (idx := 19) (atype := .int) (ty := 0) (n := 40) (k := 2) (ci := 4) (q := (RX4, TX4, 9)) rfl (by decide) (inA (by decide +kernel)) hB (by decide) (by decide) (by decide) (by decide +kernel) rfl (by decide) rfl rfl (inA (by decide +kernel)) (by decide +kernel) (by decide +kernel) (by decide +kernel) (ft := tyF 0) (by decide +kernel) (by decide +kernel) ?_
  exact r_retC rfl (by decide +kernel) rfl h
theorem zs_Rule {σ : Mem} {a : Nat} : fZRule (zr σ a (nf 4)) a = zs σ a 4 := by
  unfold fZRule
  rw [nf_z (by decide), zs_0 (σ := σ) (a := (a : Int)), zs_1 (n := 1) (by omega) (by omega), zs_1 (n := 1 + 1) (by omega) (by omega), zs_1 (n := 1 + 1 + 1) (by omega) (by omega)]
  rfl
