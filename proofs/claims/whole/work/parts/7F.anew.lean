/-! arrays of seas; memory that is nought -/
section NEW
variable {l : Launch} {g : GE} {e d kc ks pc : Nat} {ls : List (Nat × TV)} {st : List TV} {t : Tau} {σ : Mem} {Q : Post}
theorem r_anew {idx n : Nat} (hw : Cond.classLink (mN e).cls idx "StruckColours$Sea" ∈ ALL) (hB : gB g = true) (hkc : 1 ≤ kc) (hks : n ≤ ks) (hn : n < 10000) (hd : decode (mC e) pc = .ok (.anewarray idx, 3))
    (kk : Wp l g e d (kc - 1) (ks - n) (pc + 3) ls (vR t.length :: st) (t ++ [.inr (5, n)]) (zr σ t.length (fun _ => -1)) Q) : Wp l g e d kc ks pc ls (vI n :: st) t σ Q := by
  intro p en R s m args below meth c H locs cells slots QM lsA hC h1 h2 h3 h4 hH hS hZ hls hol hos hr T hT X
  have hsz : H.size ≤ s.heap.size + cells := by rw [← hT]; exact X.same.2.2.1
  have hs : H.size = gO g + t.length := by have := hZ.2 hB; have := hH.2.2; omega
  have hKf := hC.2.2.2.2.2.2.2.2.1
  have hAO := hC.2.2.2.2.2.2.2.2.2.2.1.1
  have hts := hC.2.2.2.2.2.1
  have hbn : b32 (n : Int) := by unfold b32; omega
  have hcl : (Int32.ofInt (n : Int)).toNatClampNeg = n := by rw [clamp_of' hbn]; exact Int.toNat_natCast n
  refine W.anew (cc := mC e) (own := (mN e).cls) (C := "StruckColours$Sea") (index := idx) hC.1 hC.2.1 hC.2.2.2.2.1 (hts _ hw) (va_AO.use hAO) (g := F0 m pc lsA ((vI (n : Int) :: st).map (cv g))) rfl hd (n := Int32.ofInt (n : Int)) (rest := st.map (cv g)) rfl ?_ (by rw [hcl]; omega) (by omega) (by rw [hcl]; omega) (fun cA kA comp f1 f2 f3 f4 => ?_) T hT X
  · intro hlt
    have h0 := Int32.lt_iff_toInt_lt.mp hlt
    rw [to_of hbn] at h0
    have : ((0 : Int32).toInt) = 0 := rfl
    omega
  · have hK2 := (hKf.2 5 _ (tyL_at g (by omega))).2
    obtain ⟨k1, comp1, g1, g2, g3, g4⟩ := hK2
    have hcA : cA = gC g 5 := Option.some.inj (f1.symm.trans g4)
    subst hcA
    rw [hcl]
    generalize hH1 : H.push ({ cls := gC g 5, slots := Array.replicate n .null, vm := .none } : Cell) = H1
    have z1 : H1.size = H.size + 1 := by rw [← hH1, Array.size_push]
    have e1 : H1[H.size]? = some (arrV (gC g 5) n (fun _ => .null)) := by rw [← hH1, Array.getElem?_push_size, ← arrV_new]
    have o1 : ∀ q : Nat, q < H.size → H1[q]? = H[q]? := fun q hq => by rw [← hH1, Array.getElem?_push, if_neg (Nat.ne_of_lt hq)]
    have hat : va_at (gD g) vwCl (gO g + t.length, cellE g (.inr (5, n)) (fun _ => -1)) H1 := by
      show H1[gO g + t.length]? = some (vp_cell (gC g 5) (n, arrE g 5 (fun _ => -1)))
      rw [← hs, e1]
      rfl
    have hH1' : Hld g (t ++ [.inr (5, n)]) (zr σ t.length (fun _ => -1)) H1 := Hld_app hH (fun j => by
      show (if 5 = 1 then b64 (-1) else if 5 = 5 then (-1 : Int) ≤ -1 else b32 (-1))
      simp) hs z1 o1 hat
    have hS1 : va_S (Ag g) s.heap H1 locs := ⟨by have := hS.1; omega, fun q q1 q2 => by rw [o1 q (by have := hS.1; omega)]; exact hS.2.1 q q1 q2, hS.2.2⟩
    have hw1 := kk p en R s m args below meth c H1 locs (cells + 1) (slots + n) QM lsA hC h1 h2 (by omega) (by omega) hH1' hS1 ⟨hZ.1, fun _ => by have := hZ.2 hB; simp; omega⟩ hls hol (okTs_cons trivial (okTs_tl hos)) (by rw [show cells + 1 + (kc - 1) = cells + kc by omega, show slots + n + (ks - n) = slots + ks by omega]; exact hr)
    rw [List.map_cons, show cv g (vR (t.length : Int)) = rf g (t.length : Int) from rfl, rf_ref (by omega), Int.toNat_natCast, ← hs] at hw1
    exact hw1
theorem r_fan {n idx idx2 k ci : Nat} {fin : Nat → Int} {q : vw_C} {T0 L : Tau} (hw : Cond.classLink (mN e).cls idx2 "StruckColours$Sea" ∈ ALL) (hB : gB g = true) (hkc : 1 ≤ kc) (hks : n ≤ ks) (hn : n < 10000) (hd : decode (mC e) pc = .ok (.anewarray idx2, 3))
    (hq : vwCl[ci]? = some q) (hk : k < q.2.2) (hkd : (fkL.getD ci [])[k]? = some 3) (hlen : (fkL.getD ci []).length = q.2.2) (hl : Cond.fieldLink (mN e).cls idx (q.2.1 k).1 (q.2.1 k).2.1 (q.2.1 k).2.2.1 ∈ ALL) (hfin : (q.2.1 k).2.2.2 = true) (hin : (mN e).name = "<init>") (hdecl : (q.2.1 k).1 = (mN e).cls) {ft : FieldType} (hpd : parseFieldDescriptor (q.2.1 k).2.2.1 = some (.array ft)) (hd2 : decode (mC e) (pc + 3) = .ok (.putfield idx, 3))
    (kk : Wp l g e d (kc - 1) (ks - n) (pc + 6) ls st (T0 ++ .inl (ci, fset fin k ((T0.length + 1 + L.length : Nat) : Int)) :: (L ++ [.inr (5, n)])) (zr σ ((T0.length + 1 + L.length : Nat) : Int) (fun _ => -1)) Q) : Wp l g e d kc ks pc ls (vI n :: vR T0.length :: st) (T0 ++ .inl (ci, fin) :: L) σ Q := by
  refine r_anew hw hB hkc hks hn hd ?_
  rw [ap_len, show T0 ++ Sum.inl (ci, fin) :: L ++ [Sum.inr (5, n)] = T0 ++ Sum.inl (ci, fin) :: (L ++ [Sum.inr (5, n)]) by simp]
  refine r_putF (fin := fin) (Int.natCast_nonneg _) ap_at hq hk hkd hlen hl hfin hin hdecl hpd (Or.inr ⟨_, rfl⟩) hd2 ?_
  rw [ap_set]
  exact kk
end NEW
/-- nought from object a on, n objects -/
def zs (σ : Mem) (a : Int) (n : Int) : Mem := fun o i => if a ≤ o ∧ o < a + n then 0 else σ o i
theorem nf_z {ci : Nat} (h : (fkL.getD ci []).all (fun x => x ≠ 2) = true) : nf ci = fun _ => 0 := by
  funext j
  unfold nf
  rw [if_neg]
  intro hj
  have := List.all_eq_true.mp h 2 (List.mem_of_getElem? hj)
  simp at this
theorem zs_0 {σ : Mem} {a : Int} : zr σ a (fun _ => 0) = zs σ a 1 := by
  funext o i
  unfold zr zs
  by_cases h : o = a
  · rw [if_pos h, if_pos (by omega)]
  · rw [if_neg h, if_neg (by omega)]
theorem zs_1 {σ : Mem} {a n b : Int} (hb : b = a + n) (hn : 0 ≤ n) : zr (zs σ a n) b (fun _ => 0) = zs σ a (n + 1) := by
  funext o i
  unfold zr zs
  by_cases h : o = b
  · rw [if_pos h, if_pos (by omega)]
  · rw [if_neg h]
    by_cases h2 : a ≤ o ∧ o < a + n
    · rw [if_pos h2, if_pos (by omega)]
    · rw [if_neg h2, if_neg (by omega)]
theorem zs_zs {σ : Mem} {a n b m : Int} (hb : b = a + n) (hn : 0 ≤ n) (hm : 0 ≤ m) : zs (zs σ a n) b m = zs σ a (n + m) := by
  funext o i
  unfold zs
  by_cases h : b ≤ o ∧ o < b + m
  · rw [if_pos h, if_pos (by omega)]
  · rw [if_neg h]
    by_cases h2 : a ≤ o ∧ o < a + n
    · rw [if_pos h2, if_pos (by omega)]
    · rw [if_neg h2, if_neg (by omega)]
theorem zs_Sea {σ : Mem} {a : Nat} : fZSea (zr σ a (nf 5)) a = zs σ a 7 := by
  unfold fZSea
  rw [nf_z (by decide), zs_0 (σ := σ) (a := (a : Int)), zs_1 (n := 1) (by omega) (by omega), zs_1 (n := 1 + 1) (by omega) (by omega), zs_1 (n := 1 + 1 + 1) (by omega) (by omega), zs_1 (n := 1 + 1 + 1 + 1) (by omega) (by omega), zs_1 (n := 1 + 1 + 1 + 1 + 1) (by omega) (by omega), zs_1 (n := 1 + 1 + 1 + 1 + 1 + 1) (by omega) (by omega)]
  rfl
