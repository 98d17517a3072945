/-! a field's new array; a new Sea -/
theorem ap_at {T0 L : Tau} {x : Shp} : (T0 ++ x :: L)[((T0.length : Nat) : Int).toNat]? = some x := by
  rw [Int.toNat_natCast, List.getElem?_append_right (Nat.le_refl _), Nat.sub_self]
  rfl
theorem ap_set {T0 L : Tau} {x y : Shp} : (T0 ++ x :: L).set ((T0.length : Nat) : Int).toNat y = T0 ++ y :: L := by
  rw [Int.toNat_natCast, List.set_append_right _ _ (Nat.le_refl _), Nat.sub_self]
  rfl
theorem ap_len {T0 L : Tau} {x : Shp} : (T0 ++ x :: L).length = T0.length + 1 + L.length := by
  rw [List.length_append, List.length_cons]; omega
theorem inA {w : Cond} (h : inALL [w] = true) : w ∈ ALL := inALL_of h w (List.mem_singleton.mpr rfl)
section NEW
variable {l : Launch} {g : GE} {e d kc ks pc : Nat} {ls : List (Nat × TV)} {st : List TV} {σ : Mem} {Q : Post}
theorem r_fa {atype : ArrayType} {ty n idx k ci : Nat} {fin : Nat → Int} {q : vw_C} {T0 L : Tau} (hty : newarray.typeOf atype = tyF ty) (ht : ty ≤ 4) (hw : Cond.arrayClass (tyF ty) ∈ ALL) (hB : gB g = true) (hkc : 1 ≤ kc) (hks : n ≤ ks) (hn : n < 10000) (hd : decode (mC e) pc = .ok (.newarray atype, 2))
    (hq : vwCl[ci]? = some q) (hk : k < q.2.2) (hkd : (fkL.getD ci [])[k]? = some 3) (hlen : (fkL.getD ci []).length = q.2.2) (hl : Cond.fieldLink (mN e).cls idx (q.2.1 k).1 (q.2.1 k).2.1 (q.2.1 k).2.2.1 ∈ ALL) (hfin : (q.2.1 k).2.2.2 = true) (hin : (mN e).name = "<init>") (hdecl : (q.2.1 k).1 = (mN e).cls) {ft : FieldType} (hpd : parseFieldDescriptor (q.2.1 k).2.2.1 = some (.array ft)) (hd2 : decode (mC e) (pc + 2) = .ok (.putfield idx, 3))
    (kk : Wp l g e d (kc - 1) (ks - n) (pc + 5) ls st (T0 ++ .inl (ci, fset fin k ((T0.length + 1 + L.length : Nat) : Int)) :: (L ++ [.inr (ty, n)])) (zr σ ((T0.length + 1 + L.length : Nat) : Int) (fun _ => 0)) Q) : Wp l g e d kc ks pc ls (vI n :: vR T0.length :: st) (T0 ++ .inl (ci, fin) :: L) σ Q := by
  refine r_newa hty ht hw hB hkc hks hn hd ?_
  rw [ap_len, show T0 ++ Sum.inl (ci, fin) :: L ++ [Sum.inr (ty, n)] = T0 ++ Sum.inl (ci, fin) :: (L ++ [Sum.inr (ty, n)]) by simp]
  refine r_putF (fin := fin) (Int.natCast_nonneg _) ap_at hq hk hkd hlen hl hfin hin hdecl hpd (Or.inr ⟨_, rfl⟩) hd2 ?_
  rw [ap_set]
  exact kk
theorem r_retC {t : Tau} (hm : mR e = none) (hd : decode (mC e) pc = .ok (.return_, 1)) (hkc : kc = 0) (h : Q none t σ) : Wp l g e d kc ks pc ls [] t σ Q := by
  refine r_ret (v := none) rfl hd ?_ (Or.inl hkc) h
  unfold rOK
  rw [hm]
end NEW
