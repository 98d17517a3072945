/-! the reference's constructor -/
theorem r_na {l : Launch} {g : GE} {e d kc ks pc : Nat} {ls : List (Nat × TV)} {st : List TV} {σ : Mem} {Q : Post} {atype : ArrayType} {ty n idx k ci : Nat} {fin : Nat → Int} {T0 L : Tau} (hty : newarray.typeOf atype = tyF ty) (ht : ty ≤ 4) (hw : Cond.arrayClass (tyF ty) ∈ ALL) (hB : gB g = true) (hkc : 1 ≤ kc) (hks : n ≤ ks) (hn : n < 10000) (hd : decode (mC e) pc = .ok (.newarray atype, 2)) (hk : kdOk ci k 2 = true) (hl : fLink (mN e).cls idx ci k = true ∨ fLinkN (mN e).cls idx ci k = true) (hd2 : decode (mC e) (pc + 2) = .ok (.putfield idx, 3))
    (kk : Wp l g e d (kc - 1) (ks - n) (pc + 5) ls st (T0 ++ .inl (ci, fin) :: (L ++ [.inr (ty, n)])) (up (zr σ ((T0.length + 1 + L.length : Nat) : Int) (fun _ => 0)) T0.length k ((T0.length + 1 + L.length : Nat) : Int)) Q) : Wp l g e d kc ks pc ls (vI n :: vR T0.length :: st) (T0 ++ .inl (ci, fin) :: L) σ Q := by
  refine r_newa hty ht hw hB hkc hks hn hd ?_
  rw [ap_len, show T0 ++ Sum.inl (ci, fin) :: L ++ [Sum.inr (ty, n)] = T0 ++ Sum.inl (ci, fin) :: (L ++ [Sum.inr (ty, n)]) by simp]
  refine r_put (ci := ci) (k := k) (kd := 2) ⟨Int.natCast_nonneg _, _, ap_at⟩ (by simp [putOk]) hk hl hd2 ?_
  exact kk
def fFM (a : Nat) : Nat → Int := (fset (fset (fset (fset (fset (fset (fset (fset (fset (fset (fset (fset (fset (fset (fset (fset (fset (fset (fset (fset (fset (fun _ => -1) 0 ((a + 1 + 0 : Nat) : Int)) 3 ((a + 1 + 1 : Nat) : Int)) 4 ((a + 1 + 2 : Nat) : Int)) 6 ((a + 1 + 3 : Nat) : Int)) 14 ((a + 1 + 4 : Nat) : Int)) 19 ((a + 1 + 7 : Nat) : Int)) 20 ((a + 1 + 8 : Nat) : Int)) 22 ((a + 1 + 9 : Nat) : Int)) 23 ((a + 1 + 10 : Nat) : Int)) 24 ((a + 1 + 11 : Nat) : Int)) 25 ((a + 1 + 12 : Nat) : Int)) 26 ((a + 1 + 13 : Nat) : Int)) 27 ((a + 1 + 14 : Nat) : Int)) 28 ((a + 1 + 15 : Nat) : Int)) 29 ((a + 1 + 16 : Nat) : Int)) 31 ((a + 1 + 17 : Nat) : Int)) 32 ((a + 1 + 18 : Nat) : Int)) 35 ((a + 1 + 19 : Nat) : Int)) 38 ((a + 1 + 20 : Nat) : Int)) 39 ((a + 1 + 21 : Nat) : Int)) 40 ((a + 1 + 22 : Nat) : Int))
def fSM (a : Nat) : Tau := .inl (9, fFM a) :: [.inr (0, 50), .inr (0, 6), .inr (2, 80), .inr (1, 16), .inr (0, 12), .inr (2, 40), .inr (2, 40), .inr (0, 6), .inr (0, 600), .inr (0, 50), .inr (0, 50), .inr (0, 320), .inr (0, 200), .inr (0, 6), .inr (0, 50), .inr (0, 12), .inr (0, 12), .inr (0, 12), .inr (0, 12), .inr (3, 961), .inr (0, 100), .inr (3, 2), .inr (0, 2)]
def fZM (σ : Mem) (a : Nat) : Mem := (zr (zr (zr (zr (zr (zr (zr (zr (zr (zr (zr (zr (zr (zr (zr (zr (up (zr (up (zr (zr (zr (zr (zr (up (zr σ ((a + 1 + 0 : Nat) : Int) (fun _ => 0)) a 2 3) ((a + 1 + 1 : Nat) : Int) (fun _ => 0)) ((a + 1 + 2 : Nat) : Int) (fun _ => 0)) ((a + 1 + 3 : Nat) : Int) (fun _ => 0)) ((a + 1 + 4 : Nat) : Int) (fun _ => 0)) ((a + 1 + 5 : Nat) : Int) (fun _ => 0)) a 15 ((a + 1 + 5 : Nat) : Int)) ((a + 1 + 6 : Nat) : Int) (fun _ => 0)) a 16 ((a + 1 + 6 : Nat) : Int)) ((a + 1 + 7 : Nat) : Int) (fun _ => 0)) ((a + 1 + 8 : Nat) : Int) (fun _ => 0)) ((a + 1 + 9 : Nat) : Int) (fun _ => 0)) ((a + 1 + 10 : Nat) : Int) (fun _ => 0)) ((a + 1 + 11 : Nat) : Int) (fun _ => 0)) ((a + 1 + 12 : Nat) : Int) (fun _ => 0)) ((a + 1 + 13 : Nat) : Int) (fun _ => 0)) ((a + 1 + 14 : Nat) : Int) (fun _ => 0)) ((a + 1 + 15 : Nat) : Int) (fun _ => 0)) ((a + 1 + 16 : Nat) : Int) (fun _ => 0)) ((a + 1 + 17 : Nat) : Int) (fun _ => 0)) ((a + 1 + 18 : Nat) : Int) (fun _ => 0)) ((a + 1 + 19 : Nat) : Int) (fun _ => 0)) ((a + 1 + 20 : Nat) : Int) (fun _ => 0)) ((a + 1 + 21 : Nat) : Int) (fun _ => 0)) ((a + 1 + 22 : Nat) : Int) (fun _ => 0))
theorem n_M {l : Launch} {g : GE} {d : Nat} {T0 : Tau} {σ : Mem} {Q : Post} (hB : gB g = true) (h : Q none (T0 ++ fSM T0.length) (fZM σ T0.length)) : WPc l g 165 (d + 1) 23 2639 [vR T0.length] (T0 ++ [.inl (9, fun _ => -1)]) σ Q := by
  refine wp_in (by decide +kernel) (show 1 ≤ mL 165 by decide) ?_
  refine r_aload_n (i := 0) rfl (by decide +kernel) ?_
  refine r_objI (idx := 3) (Int.natCast_nonneg _) (inA (by decide +kernel)) (inA (by decide +kernel)) (inA (by decide +kernel)) (by decide) (by decide +kernel) ?_
  refine r_aload_n (i := 0) rfl (by decide +kernel) ?_
  refine r_bipush (n := 50) (v := 50) (by unfold b32; omega) (by decide +kernel) (by decide +kernel) ?_
  refine r_fa (idx := 9) (atype := .int) (ty := 0) (n := 50) (k := 0) (ci := 9) (q := (RX9, TX9, 41)) rfl (by decide) (inA (by decide +kernel)) hB (by decide) (by decide) (by decide) (by decide +kernel) rfl (by decide) rfl rfl (inA (by decide +kernel)) (by decide +kernel) (by decide +kernel) (by decide +kernel) (ft := tyF 0) (by decide +kernel) (by decide +kernel) ?_
  refine r_aload_n (i := 0) rfl (by decide +kernel) ?_
  refine r_iconst (n := 3) (by unfold b32; omega) (by decide +kernel) ?_
  refine r_put (ci := 9) (k := 2) (kd := 0) ⟨Int.natCast_nonneg _, _, ap_at⟩ (by simp [putOk]) (by decide +kernel) fl_9_13 (by decide +kernel) ?_
  refine r_aload_n (i := 0) rfl (by decide +kernel) ?_
  refine r_bipush (n := 6) (v := 6) (by unfold b32; omega) (by decide +kernel) (by decide +kernel) ?_
  refine r_fa (idx := 17) (atype := .int) (ty := 0) (n := 6) (k := 3) (ci := 9) (q := (RX9, TX9, 41)) rfl (by decide) (inA (by decide +kernel)) hB (by decide) (by decide) (by decide) (by decide +kernel) rfl (by decide) rfl rfl (inA (by decide +kernel)) (by decide +kernel) (by decide +kernel) (by decide +kernel) (ft := tyF 0) (by decide +kernel) (by decide +kernel) ?_
  refine r_aload_n (i := 0) rfl (by decide +kernel) ?_
  refine r_bipush (n := 80) (v := 80) (by unfold b32; omega) (by decide +kernel) (by decide +kernel) ?_
  refine r_fa (idx := 20) (atype := .byte) (ty := 2) (n := 80) (k := 4) (ci := 9) (q := (RX9, TX9, 41)) rfl (by decide) (inA (by decide +kernel)) hB (by decide) (by decide) (by decide) (by decide +kernel) rfl (by decide) rfl rfl (inA (by decide +kernel)) (by decide +kernel) (by decide +kernel) (by decide +kernel) (ft := tyF 2) (by decide +kernel) (by decide +kernel) ?_
  refine r_aload_n (i := 0) rfl (by decide +kernel) ?_
  refine r_bipush (n := 16) (v := 16) (by unfold b32; omega) (by decide +kernel) (by decide +kernel) ?_
  refine r_fa (idx := 24) (atype := .long) (ty := 1) (n := 16) (k := 6) (ci := 9) (q := (RX9, TX9, 41)) rfl (by decide) (inA (by decide +kernel)) hB (by decide) (by decide) (by decide) (by decide +kernel) rfl (by decide) rfl rfl (inA (by decide +kernel)) (by decide +kernel) (by decide +kernel) (by decide +kernel) (ft := tyF 1) (by decide +kernel) (by decide +kernel) ?_
  refine r_aload_n (i := 0) rfl (by decide +kernel) ?_
  refine r_bipush (n := 12) (v := 12) (by unfold b32; omega) (by decide +kernel) (by decide +kernel) ?_
  refine r_fa (idx := 28) (atype := .int) (ty := 0) (n := 12) (k := 14) (ci := 9) (q := (RX9, TX9, 41)) rfl (by decide) (inA (by decide +kernel)) hB (by decide) (by decide) (by decide) (by decide +kernel) rfl (by decide) rfl rfl (inA (by decide +kernel)) (by decide +kernel) (by decide +kernel) (by decide +kernel) (ft := tyF 0) (by decide +kernel) (by decide +kernel) ?_
  refine r_aload_n (i := 0) rfl (by decide +kernel) ?_
  refine r_bipush (n := 40) (v := 40) (by unfold b32; omega) (by decide +kernel) (by decide +kernel) ?_
  refine r_na (idx := 31) (atype := .byte) (ty := 2) (n := 40) (k := 15) (ci := 9) rfl (by decide) (inA (by decide +kernel)) hB (by decide) (by decide) (by decide) (by decide +kernel) (by decide +kernel) fl_9_31 (by decide +kernel) ?_
  refine r_aload_n (i := 0) rfl (by decide +kernel) ?_
  refine r_bipush (n := 40) (v := 40) (by unfold b32; omega) (by decide +kernel) (by decide +kernel) ?_
  refine r_na (idx := 34) (atype := .byte) (ty := 2) (n := 40) (k := 16) (ci := 9) rfl (by decide) (inA (by decide +kernel)) hB (by decide) (by decide) (by decide) (by decide +kernel) (by decide +kernel) fl_9_34 (by decide +kernel) ?_
  refine r_aload_n (i := 0) rfl (by decide +kernel) ?_
  refine r_bipush (n := 6) (v := 6) (by unfold b32; omega) (by decide +kernel) (by decide +kernel) ?_
  refine r_fa (idx := 37) (atype := .int) (ty := 0) (n := 6) (k := 19) (ci := 9) (q := (RX9, TX9, 41)) rfl (by decide) (inA (by decide +kernel)) hB (by decide) (by decide) (by decide) (by decide +kernel) rfl (by decide) rfl rfl (inA (by decide +kernel)) (by decide +kernel) (by decide +kernel) (by decide +kernel) (ft := tyF 0) (by decide +kernel) (by decide +kernel) ?_
  refine r_aload_n (i := 0) rfl (by decide +kernel) ?_
  refine r_sipush (n := 600) (v := 600) (by unfold b32; omega) (by decide +kernel) (by decide +kernel) ?_
  refine r_fa (idx := 40) (atype := .int) (ty := 0) (n := 600) (k := 20) (ci := 9) (q := (RX9, TX9, 41)) rfl (by decide) (inA (by decide +kernel)) hB (by decide) (by decide) (by decide) (by decide +kernel) rfl (by decide) rfl rfl (inA (by decide +kernel)) (by decide +kernel) (by decide +kernel) (by decide +kernel) (ft := tyF 0) (by decide +kernel) (by decide +kernel) ?_
  refine r_aload_n (i := 0) rfl (by decide +kernel) ?_
  refine r_bipush (n := 50) (v := 50) (by unfold b32; omega) (by decide +kernel) (by decide +kernel) ?_
  refine r_fa (idx := 43) (atype := .int) (ty := 0) (n := 50) (k := 22) (ci := 9) (q := (RX9, TX9, 41)) rfl (by decide) (inA (by decide +kernel)) hB (by decide) (by decide) (by decide) (by decide +kernel) rfl (by decide) rfl rfl (inA (by decide +kernel)) (by decide +kernel) (by decide +kernel) (by decide +kernel) (ft := tyF 0) (by decide +kernel) (by decide +kernel) ?_
  refine r_aload_n (i := 0) rfl (by decide +kernel) ?_
  refine r_bipush (n := 50) (v := 50) (by unfold b32; omega) (by decide +kernel) (by decide +kernel) ?_
  refine r_fa (idx := 46) (atype := .int) (ty := 0) (n := 50) (k := 23) (ci := 9) (q := (RX9, TX9, 41)) rfl (by decide) (inA (by decide +kernel)) hB (by decide) (by decide) (by decide) (by decide +kernel) rfl (by decide) rfl rfl (inA (by decide +kernel)) (by decide +kernel) (by decide +kernel) (by decide +kernel) (ft := tyF 0) (by decide +kernel) (by decide +kernel) ?_
  refine r_aload_n (i := 0) rfl (by decide +kernel) ?_
  refine r_sipush (n := 320) (v := 320) (by unfold b32; omega) (by decide +kernel) (by decide +kernel) ?_
  refine r_fa (idx := 49) (atype := .int) (ty := 0) (n := 320) (k := 24) (ci := 9) (q := (RX9, TX9, 41)) rfl (by decide) (inA (by decide +kernel)) hB (by decide) (by decide) (by decide) (by decide +kernel) rfl (by decide) rfl rfl (inA (by decide +kernel)) (by decide +kernel) (by decide +kernel) (by decide +kernel) (ft := tyF 0) (by decide +kernel) (by decide +kernel) ?_
  refine r_aload_n (i := 0) rfl (by decide +kernel) ?_
  refine r_sipush (n := 200) (v := 200) (by unfold b32; omega) (by decide +kernel) (by decide +kernel) ?_
  refine r_fa (idx := 52) (atype := .int) (ty := 0) (n := 200) (k := 25) (ci := 9) (q := (RX9, TX9, 41)) rfl (by decide) (inA (by decide +kernel)) hB (by decide) (by decide) (by decide) (by decide +kernel) rfl (by decide) rfl rfl (inA (by decide +kernel)) (by decide +kernel) (by decide +kernel) (by decide +kernel) (ft := tyF 0) (by decide +kernel) (by decide +kernel) ?_
  refine r_aload_n (i := 0) rfl (by decide +kernel) ?_
  refine r_bipush (n := 6) (v := 6) (by unfold b32; omega) (by decide +kernel) (by decide +kernel) ?_
  refine r_fa (idx := 55) (atype := .int) (ty := 0) (n := 6) (k := 26) (ci := 9) (q := (RX9, TX9, 41)) rfl (by decide) (inA (by decide +kernel)) hB (by decide) (by decide) (by decide) (by decide +kernel) rfl (by decide) rfl rfl (inA (by decide +kernel)) (by decide +kernel) (by decide +kernel) (by decide +kernel) (ft := tyF 0) (by decide +kernel) (by decide +kernel) ?_
  refine r_aload_n (i := 0) rfl (by decide +kernel) ?_
  refine r_bipush (n := 50) (v := 50) (by unfold b32; omega) (by decide +kernel) (by decide +kernel) ?_
  refine r_fa (idx := 58) (atype := .int) (ty := 0) (n := 50) (k := 27) (ci := 9) (q := (RX9, TX9, 41)) rfl (by decide) (inA (by decide +kernel)) hB (by decide) (by decide) (by decide) (by decide +kernel) rfl (by decide) rfl rfl (inA (by decide +kernel)) (by decide +kernel) (by decide +kernel) (by decide +kernel) (ft := tyF 0) (by decide +kernel) (by decide +kernel) ?_
  refine r_aload_n (i := 0) rfl (by decide +kernel) ?_
  refine r_bipush (n := 12) (v := 12) (by unfold b32; omega) (by decide +kernel) (by decide +kernel) ?_
  refine r_fa (idx := 61) (atype := .int) (ty := 0) (n := 12) (k := 28) (ci := 9) (q := (RX9, TX9, 41)) rfl (by decide) (inA (by decide +kernel)) hB (by decide) (by decide) (by decide) (by decide +kernel) rfl (by decide) rfl rfl (inA (by decide +kernel)) (by decide +kernel) (by decide +kernel) (by decide +kernel) (ft := tyF 0) (by decide +kernel) (by decide +kernel) ?_
  refine r_aload_n (i := 0) rfl (by decide +kernel) ?_
  refine r_bipush (n := 12) (v := 12) (by unfold b32; omega) (by decide +kernel) (by decide +kernel) ?_
  refine r_fa (idx := 64) (atype := .int) (ty := 0) (n := 12) (k := 29) (ci := 9) (q := (RX9, TX9, 41)) rfl (by decide) (inA (by decide +kernel)) hB (by decide) (by decide) (by decide) (by decide +kernel) rfl (by decide) rfl rfl (inA (by decide +kernel)) (by decide +kernel) (by decide +kernel) (by decide +kernel) (ft := tyF 0) (by decide +kernel) (by decide +kernel) ?_
  refine r_aload_n (i := 0) rfl (by decide +kernel) ?_
  refine r_bipush (n := 12) (v := 12) (by unfold b32; omega) (by decide +kernel) (by decide +kernel) ?_
  refine r_fa (idx := 67) (atype := .int) (ty := 0) (n := 12) (k := 31) (ci := 9) (q := (RX9, TX9, 41)) rfl (by decide) (inA (by decide +kernel)) hB (by decide) (by decide) (by decide) (by decide +kernel) rfl (by decide) rfl rfl (inA (by decide +kernel)) (by decide +kernel) (by decide +kernel) (by decide +kernel) (ft := tyF 0) (by decide +kernel) (by decide +kernel) ?_
  refine r_aload_n (i := 0) rfl (by decide +kernel) ?_
  refine r_bipush (n := 12) (v := 12) (by unfold b32; omega) (by decide +kernel) (by decide +kernel) ?_
  refine r_fa (idx := 70) (atype := .int) (ty := 0) (n := 12) (k := 32) (ci := 9) (q := (RX9, TX9, 41)) rfl (by decide) (inA (by decide +kernel)) hB (by decide) (by decide) (by decide) (by decide +kernel) rfl (by decide) rfl rfl (inA (by decide +kernel)) (by decide +kernel) (by decide +kernel) (by decide +kernel) (ft := tyF 0) (by decide +kernel) (by decide +kernel) ?_
  refine r_aload_n (i := 0) rfl (by decide +kernel) ?_
  refine r_sipush (n := 961) (v := 961) (by unfold b32; omega) (by decide +kernel) (by decide +kernel) ?_
  refine r_fa (idx := 73) (atype := .boolean) (ty := 3) (n := 961) (k := 35) (ci := 9) (q := (RX9, TX9, 41)) rfl (by decide) (inA (by decide +kernel)) hB (by decide) (by decide) (by decide) (by decide +kernel) rfl (by decide) rfl rfl (inA (by decide +kernel)) (by decide +kernel) (by decide +kernel) (by decide +kernel) (ft := tyF 3) (by decide +kernel) (by decide +kernel) ?_
  refine r_aload_n (i := 0) rfl (by decide +kernel) ?_
  refine r_bipush (n := 100) (v := 100) (by unfold b32; omega) (by decide +kernel) (by decide +kernel) ?_
  refine r_fa (idx := 77) (atype := .int) (ty := 0) (n := 100) (k := 38) (ci := 9) (q := (RX9, TX9, 41)) rfl (by decide) (inA (by decide +kernel)) hB (by decide) (by decide) (by decide) (by decide +kernel) rfl (by decide) rfl rfl (inA (by decide +kernel)) (by decide +kernel) (by decide +kernel) (by decide +kernel) (ft := tyF 0) (by decide +kernel) (by decide +kernel) ?_
  refine r_aload_n (i := 0) rfl (by decide +kernel) ?_
  refine r_iconst (n := 2) (by unfold b32; omega) (by decide +kernel) ?_
  refine r_fa (idx := 80) (atype := .boolean) (ty := 3) (n := 2) (k := 39) (ci := 9) (q := (RX9, TX9, 41)) rfl (by decide) (inA (by decide +kernel)) hB (by decide) (by decide) (by decide) (by decide +kernel) rfl (by decide) rfl rfl (inA (by decide +kernel)) (by decide +kernel) (by decide +kernel) (by decide +kernel) (ft := tyF 3) (by decide +kernel) (by decide +kernel) ?_
  refine r_aload_n (i := 0) rfl (by decide +kernel) ?_
  refine r_iconst (n := 2) (by unfold b32; omega) (by decide +kernel) ?_
  refine r_fa (idx := 83) (atype := .int) (ty := 0) (n := 2) (k := 40) (ci := 9) (q := (RX9, TX9, 41)) rfl (by decide) (inA (by decide +kernel)) hB (by decide) (by decide) (by decide) (by decide +kernel) rfl (by decide) rfl rfl (inA (by decide +kernel)) (by decide +kernel) (by decide +kernel) (by decide +kernel) (ft := tyF 0) (by decide +kernel) (by decide +kernel) ?_
  exact r_retC rfl (by decide +kernel) rfl h
def mz (σ : Mem) (a n : Int) (f : Int → Int) : Mem := fun o i => if a < o ∧ o < a + n then 0 else if o = a then f i else σ o i
theorem mz_0 {σ : Mem} {a : Int} {f : Int → Int} : zr σ a f = mz σ a 1 f := by
  funext o i
  unfold zr mz
  rw [if_neg (show ¬ (a < o ∧ o < a + 1) by omega)]
theorem mz_1 {σ : Mem} {a b n m : Int} {f : Int → Int} (hb : b = a + n) (hn : 1 ≤ n) (hm : m = n + 1) : zr (mz σ a n f) b (fun _ => 0) = mz σ a m f := by
  subst hm
  funext o i
  unfold zr mz
  by_cases h : o = b
  · rw [if_pos h, if_pos (by omega)]
  · rw [if_neg h]
    by_cases h2 : a < o ∧ o < a + n
    · rw [if_pos h2, if_pos (by omega)]
    · rw [if_neg h2, if_neg (show ¬ (a < o ∧ o < a + (n + 1)) by omega)]
theorem mz_u {σ : Mem} {a n k v : Int} {f : Int → Int} (hn : 1 ≤ n) : up (mz σ a n f) a k v = mz σ a n (fun i => if i = k then v else f i) := by
  funext o i
  unfold up mz
  by_cases h : o = a
  · subst h
    rw [if_neg (show ¬ (o < o ∧ o < o + n) by omega), if_pos rfl]
    by_cases hi : i = k
    · rw [if_pos ⟨rfl, hi⟩, if_neg (show ¬ (o < o ∧ o < o + n) by omega), if_pos rfl]
      show v = if i = k then v else f i
      rw [if_pos hi]
    · rw [if_neg (fun z => hi z.2), if_neg (show ¬ (o < o ∧ o < o + n) by omega), if_pos rfl]
      show f i = if i = k then v else f i
      rw [if_neg hi]
  · rw [if_neg (fun z => h z.1)]
    by_cases h2 : a < o ∧ o < a + n
    · rw [if_pos h2, if_pos h2]
    · rw [if_neg h2, if_neg h2, if_neg h, if_neg h]
theorem fZM_eq {σ : Mem} {a : Nat} : fZM (zr σ a (nf 9)) a = mz σ a 24 (fun i => if i = 16 then ((a + 1 + 6 : Nat) : Int) else if i = 15 then ((a + 1 + 5 : Nat) : Int) else if i = 2 then 3 else nf 9 i) := by
  unfold fZM
  rw [mz_0 (σ := σ) (a := (a : Int)), mz_1 (n := 1) (m := 2) (by omega) (by omega) (by omega), mz_u (n := 2) (by omega), mz_1 (n := 2) (m := 3) (by omega) (by omega) (by omega), mz_1 (n := 3) (m := 4) (by omega) (by omega) (by omega), mz_1 (n := 4) (m := 5) (by omega) (by omega) (by omega), mz_1 (n := 5) (m := 6) (by omega) (by omega) (by omega), mz_1 (n := 6) (m := 7) (by omega) (by omega) (by omega), mz_u (n := 7) (by omega), mz_1 (n := 7) (m := 8) (by omega) (by omega) (by omega), mz_u (n := 8) (by omega), mz_1 (n := 8) (m := 9) (by omega) (by omega) (by omega), mz_1 (n := 9) (m := 10) (by omega) (by omega) (by omega), mz_1 (n := 10) (m := 11) (by omega) (by omega) (by omega), mz_1 (n := 11) (m := 12) (by omega) (by omega) (by omega), mz_1 (n := 12) (m := 13) (by omega) (by omega) (by omega), mz_1 (n := 13) (m := 14) (by omega) (by omega) (by omega), mz_1 (n := 14) (m := 15) (by omega) (by omega) (by omega), mz_1 (n := 15) (m := 16) (by omega) (by omega) (by omega), mz_1 (n := 16) (m := 17) (by omega) (by omega) (by omega), mz_1 (n := 17) (m := 18) (by omega) (by omega) (by omega), mz_1 (n := 18) (m := 19) (by omega) (by omega) (by omega), mz_1 (n := 19) (m := 20) (by omega) (by omega) (by omega), mz_1 (n := 20) (m := 21) (by omega) (by omega) (by omega), mz_1 (n := 21) (m := 22) (by omega) (by omega) (by omega), mz_1 (n := 22) (m := 23) (by omega) (by omega) (by omega), mz_1 (n := 23) (m := 24) (by omega) (by omega) (by omega)]
