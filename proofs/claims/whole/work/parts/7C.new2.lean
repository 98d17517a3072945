/-! new objects -/
def nf (ci : Nat) : Int → Int := fun j => if (fkL.getD ci [])[j.toNat]? = some 2 then -1 else 0
def dfv (kd : Nat) : Value := if kd ≤ 1 then .int 0 else .null
theorem fldE_n (g : GE) (ci : Nat) : fldE g ci (fun _ => -1) (nf ci) = (fkL.getD ci []).map dfv := by
  apply List.ext_getElem?
  intro i
  unfold fldE
  rw [List.getElem?_mapIdx, List.getElem?_map]
  cases hk : (fkL.getD ci [])[i]? with
  | none => rfl
  | some kd =>
    show some _ = some _
    congr 1
    unfold dfv nf
    rw [Int.toNat_natCast, hk]
    by_cases h1 : kd ≤ 1
    · have : ¬ kd = 2 := by omega
      simp [h1, this]
    · by_cases h2 : kd = 2
      · simp [h2, rf]
      · simp [h1, h2, rf]
def fset (fin : Nat → Int) (k : Nat) (y : Int) : Nat → Int := fun j => if j = k then y else fin j
theorem world_setF {g : GE} {t : Tau} {σ : Mem} {x y : Int} {ci k : Nat} {fin : Nat → Int} (hx : 0 ≤ x) (hs : t[x.toNat]? = some (.inl (ci, fin))) (hkd : (fkL.getD ci [])[k]? = some 3) : (world g t σ).set x.toNat (gO g + x.toNat, .inr (ci, (fldE g ci fin (σ x)).set k (rf g y))) = world g (t.set x.toNat (.inl (ci, fset fin k y))) σ := by
  apply List.ext_getElem?
  intro i
  rw [List.getElem?_set]
  have hxl : x.toNat < t.length := (List.getElem?_eq_some_iff.mp hs).1
  have hwl : (world g t σ).length = t.length := by unfold world; simp
  by_cases hi : x.toNat = i
  · subst hi
    rw [if_pos rfl, if_pos (by rw [hwl]; exact hxl)]
    have h1 : (t.set x.toNat (.inl (ci, fset fin k y)))[x.toNat]? = some (.inl (ci, fset fin k y)) := by rw [List.getElem?_set, if_pos rfl, if_pos hxl]
    rw [world_atI hx h1]
    show some (_, Sum.inr (ci, _)) = some (_, Sum.inr (ci, fldE g ci (fset fin k y) (σ x)))
    congr 3
    congr 1
    apply List.ext_getElem?
    intro j
    rw [List.getElem?_set]
    unfold fldE
    rw [List.getElem?_mapIdx, List.getElem?_mapIdx, List.length_mapIdx]
    by_cases hj : k = j
    · subst hj
      rw [if_pos rfl, if_pos (List.getElem?_eq_some_iff.mp hkd).1, hkd]
      simp [fset]
    · rw [if_neg hj]
      congr 1
      funext kd
      have : ¬ j = k := fun z => hj z.symm
      simp [fset, this]
  · rw [if_neg hi]
    unfold world
    rw [List.getElem?_mapIdx, List.getElem?_mapIdx, List.getElem?_set, if_neg hi]
section NEW
variable {l : Launch} {g : GE} {e d kc ks pc : Nat} {ls : List (Nat × TV)} {st : List TV} {t : Tau} {σ : Mem} {Q : Post}
theorem r_new {idx ci : Nat} {q : vw_C} (hq : vwCl[ci]? = some q) (hdf : ∀ j ty, j < q.2.2 → parseFieldDescriptor (q.2.1 j).2.2.1 = some ty → defaultValue ty = vp_V ((fkL.getD ci []).map dfv) j) (hw1 : Cond.classLink (mN e).cls idx q.1 ∈ ALL) (hw2 : Cond.instantiable q.1 q.2.2 ∈ ALL) (hw3 : Cond.initialized q.1 ∈ ALL) (hB : gB g = true) (hkc : 1 ≤ kc) (hks : q.2.2 ≤ ks) (hd : decode (mC e) pc = .ok (.new idx, 3))
    (kk : Wp l g e d (kc - 1) (ks - q.2.2) (pc + 3) ls (vR t.length :: st) (t ++ [.inl (ci, fun _ => -1)]) (zr σ t.length (nf ci)) Q) : Wp l g e d kc ks pc ls st t σ Q := by
  intro p en R s m args below meth c H locs cells slots QM lsA hC h1 h2 h3 h4 hH hS hZ hls hol hos hr T hT X
  have hsz : H.size ≤ s.heap.size + cells := by rw [← hT]; exact X.same.2.2.1
  have hs : H.size = gO g + t.length := by have := hZ.2 hB; have := hH.2.2; omega
  have hKf := hC.2.2.2.2.2.2.2.2.1
  have hts := hC.2.2.2.2.2.1
  obtain ⟨w1, ty0, w2, w3⟩ := clsOk hq
  have hKn := hKf.1 ci _ hq
  refine W.newcK (cc := mC e) (own := (mN e).cls) (C := q.1) (n := q.2.2) hC.1 hC.2.1 hC.2.2.2.2.1 (hts _ hw1) (hts _ hw2) (hts _ hw3) (g := F0 m pc lsA (st.map (cv g))) rfl hd (by omega) (by omega) hKn.2.1 hs (fun H1 kC hkC e1 z1 o1 => ?_) T hT X
  have hat : va_at (gD g) vwCl (gO g + t.length, cellE g (.inl (ci, fun _ => -1)) (nf ci)) H1 := by
    show ∃ r : vw_C, vwCl[ci]? = some r ∧ t_OB (gO g + t.length) ((gD g).1 ci) r.2.2 ((gD g).2 ci) H1 (vp_V (fldE g ci (fun _ => -1) (nf ci)))
    rw [fldE_n]
    exact ⟨_, hq, (u_born ty0 hts w1 hKn hkC e1 w2).to (fun j hj => hdf j _ hj (w2 j hj))⟩
  have hH1 : Hld g (t ++ [.inl (ci, fun _ => -1)]) (zr σ t.length (nf ci)) H1 := Hld_app hH (fun j => by
    intro kd hkd hle
    unfold nf
    rw [Int.toNat_natCast, hkd]
    rw [if_neg (by intro z; cases z; omega)]
    unfold b32; omega) hs (by rw [z1, hs]) (fun q hq => o1 q (by rw [← hs]; exact hq)) hat
  have hS1 : va_S (Ag g) s.heap H1 locs := ⟨by have := hS.1; omega, fun q q1 q2 => by rw [o1 q (by have := hS.1; omega)]; exact hS.2.1 q q1 q2, hS.2.2⟩
  have hk1 := kk p en R s m args below meth c H1 locs (cells + 1) (slots + q.2.2) QM lsA hC h1 h2 (by omega) (by omega) hH1 hS1 ⟨hZ.1, fun _ => by have := hZ.2 hB; simp; omega⟩ hls hol (okTs_cons trivial hos) (by rw [show cells + 1 + (kc - 1) = cells + kc by omega, show slots + q.2.2 + (ks - q.2.2) = slots + ks by omega]; exact hr)
  rw [List.map_cons, show cv g (vR (t.length : Int)) = rf g (t.length : Int) from rfl, rf_ref (by omega), Int.toNat_natCast] at hk1
  exact hk1
theorem r_objI {idx : Nat} {x : Int} (hx : 0 ≤ x) (hw1 : Cond.methodLink (mN e).cls idx Lib.objectInit ∈ ALL) (hw2 : Cond.instanceMethod Lib.objectInit ∈ ALL) (hw3 : Cond.code Lib.objectInit ⟨#[0xb1]⟩ 1 none ∈ ALL) (hst : (st.map catT).sum ≤ 8) (hd : decode (mC e) pc = .ok (.invokespecial idx, 3))
    (kk : Wp l g e (d + 1) kc ks (pc + 3) ls st t σ Q) : Wp l g e (d + 1) kc ks pc ls (vR x :: st) t σ Q := by
  intro p en R s m args below meth c H locs cells slots QM lsA hC h1 h2 h3 h4 hH hS hZ hls hol hos hr
  have hts := hC.2.2.2.2.2.1
  have hk1 := kk p en R s m args below meth c H locs cells slots QM lsA hC h1 h2 h3 h4 hH hS hZ hls hol (okTs_tl hos) hr
  refine W.objInit (cc := mC e) (own := (mN e).cls) (a := gO g + x.toNat) (rest := st.map (cv g)) hC.1 hC.2.1 hC.2.2.2.2.1 (hts _ hw1) (hts _ hw2) (hts _ hw3) (g := F0 m pc lsA ((vR x :: st).map (cv g))) rfl ?_ ?_ hd ?_ ?_ hk1
  · rw [hC.2.2.2.1]; exact hls.1
  · show rf g x :: st.map (cv g) = _
    rw [rf_ref hx]
  · omega
  · have : ((st.map (cv g)).map fun v => v.category).sum ≤ 8 := by rw [cat_map]; exact hst
    show 2 * 0 + _ + 12 ≤ R.locals
    omega
theorem r_putF {idx ci k : Nat} {x y : Int} {fin : Nat → Int} {q : vw_C} (hx : 0 ≤ x) (hs : t[x.toNat]? = some (.inl (ci, fin))) (hq : vwCl[ci]? = some q) (hk : k < q.2.2) (hkd : (fkL.getD ci [])[k]? = some 3) (hlen : (fkL.getD ci []).length = q.2.2) (hl : Cond.fieldLink (mN e).cls idx (q.2.1 k).1 (q.2.1 k).2.1 (q.2.1 k).2.2.1 ∈ ALL) (hfin : (q.2.1 k).2.2.2 = true) (hin : (mN e).name = "<init>") (hdecl : (q.2.1 k).1 = (mN e).cls) {ty : FieldType} (hpd : parseFieldDescriptor (q.2.1 k).2.2.1 = some ty) (hty : (∃ n, ty = .object n) ∨ ∃ n, ty = .array n) (hd : decode (mC e) pc = .ok (.putfield idx, 3))
    (kk : Wp l g e d kc ks (pc + 3) ls st (t.set x.toNat (.inl (ci, fset fin k y))) σ Q) : Wp l g e d kc ks pc ls (vR y :: vR x :: st) t σ Q := by
  intro p en R s m args below meth c H locs cells slots QM lsA hC h1 h2 h3 h4 hH hS hZ hls hol hos hr
  have hts := hC.2.2.2.2.2.1
  obtain ⟨w1, ty0, w2, w3⟩ := clsOk hq
  have he := world_atI (g := g) (s := σ) hx hs
  have hf := rf_fits (ty := ty) g y hty
  have hle : k < (fldE g ci fin (σ x)).length := by rw [fld_len, hlen]; exact hk
  have hset : (world g t σ).set x.toNat (gO g + x.toNat, .inr (ci, (fldE g ci fin (σ x)).set k (rf g y))) = world g (t.set x.toNat (.inl (ci, fset fin k y))) σ := world_setF hx hs hkd
  show W _ _ _ _ _ _ _ _ _ _ _ _ _ _ _ (F0 _ _ _ (rf g y :: rf g x :: st.map (cv g)))
  rw [rf_ref hx]
  refine va_putF (C := q.1) (T := q.2.1) (N := q.2.2) (ci := ci) (v := rf g y) (ty := ty) hC.1 hC.2.1 hts w1 ty0 w2 w3 hC.2.2.2.2.1 hC.2.2.2.2.2.2.2.2.1 hH.1 (world_D g t σ) hS x.toNat he hq k hk (hts _ hl) (fun _ z => z) hfin (by rw [hC.2.2.2.2.2.2.2.1]; exact hin) hdecl hpd hf.1 hf.2 hle hd (fun H1 locs1 hP1 hD1 hS1 => ?_)
  rw [hset] at hP1
  have hm : MemOk (t.set x.toNat (.inl (ci, fset fin k y))) σ := by
    intro o sh ho j
    rw [List.getElem?_set] at ho
    by_cases hz : x.toNat = o
    · subst hz
      rw [if_pos rfl] at ho
      split at ho
      · cases ho
        have := hH.2.1 x.toNat _ hs j
        exact this
      · cases ho
    · rw [if_neg hz] at ho
      exact hH.2.1 o sh ho j
  have hl2 : (t.set x.toNat (.inl (ci, fset fin k y))).length = t.length := List.length_set
  exact kk p en R s m args below meth c H1 locs1 cells slots QM lsA hC h1 h2 h3 h4 (Hld_of hP1 hm hS1 hZ.1) hS1 (by rw [hl2]; exact hZ) hls hol (okTs_tl (okTs_tl hos)) hr
end NEW
