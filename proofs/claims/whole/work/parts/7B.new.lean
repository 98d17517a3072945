/-! new arrays, new objects -/
def zr (σ : Mem) (a : Int) (f : Int → Int) : Mem := fun o i => if o = a then f i else σ o i
theorem zr_n {σ : Mem} {a o : Int} {f : Int → Int} (h : o ≠ a) : zr σ a f o = σ o := by
  funext i
  unfold zr
  rw [if_neg h]
theorem zr_s {σ : Mem} {a : Int} {f : Int → Int} : zr σ a f a = f := by
  funext i
  unfold zr
  rw [if_pos rfl]
theorem world_app {g : GE} {t : Tau} {σ : Mem} {sh : Shp} {f : Int → Int} : world g (t ++ [sh]) (zr σ t.length f) = world g t σ ++ [(gO g + t.length, cellE g sh f)] := by
  unfold world
  rw [List.mapIdx_append]
  congr 1
  · apply List.ext_getElem?
    intro i
    rw [List.getElem?_mapIdx, List.getElem?_mapIdx]
    cases hi : t[i]? with
    | none => rfl
    | some x =>
      have : i < t.length := (List.getElem?_eq_some_iff.mp hi).1
      show some _ = some _
      rw [zr_n (by omega)]
  · simp [zr_s]
theorem MemOk_app {t : Tau} {σ : Mem} {sh : Shp} {f : Int → Int} (h : MemOk t σ) (hf : ∀ j : Nat, okS sh j (f j)) : MemOk (t ++ [sh]) (zr σ t.length f) := by
  intro k sh' hk j
  by_cases hkl : k < t.length
  · rw [List.getElem?_append_left hkl] at hk
    have := h k sh' hk j
    rw [zr_n (by omega)]
    exact this
  · have hk2 : k = t.length := by
      have := (List.getElem?_eq_some_iff.mp hk).1
      simp at this
      omega
    subst hk2
    rw [List.getElem?_append_right (Nat.le_refl _), Nat.sub_self] at hk
    cases hk
    rw [zr_s]
    exact hf j
/-- a new cell came to lie at the end -/
theorem Hld_app {g : GE} {t : Tau} {σ : Mem} {sh : Shp} {f : Int → Int} {H H1 : Heap} (hH : Hld g t σ H) (hf : ∀ j : Nat, okS sh j (f j)) (hs : H.size = gO g + t.length) (z1 : H1.size = H.size + 1) (o1 : ∀ q, q < H.size → H1[q]? = H[q]?) (ha : va_at (gD g) vwCl (gO g + t.length, cellE g sh f) H1) : Hld g (t ++ [sh]) (zr σ t.length f) H1 := by
  refine ⟨?_, MemOk_app hH.2.1 hf, by simp; omega⟩
  rw [world_app]
  refine (hH.1.kept (fun k x hx => o1 x.1 ((hH.1 k x hx).lt))).app (fun k x hx => ?_)
  have hz : k < 1 := (List.getElem?_eq_some_iff.mp hx).1
  rw [show k = 0 by omega] at hx
  cases hx
  exact ha
section NEW
variable {l : Launch} {g : GE} {e d kc ks pc : Nat} {ls : List (Nat × TV)} {st : List TV} {t : Tau} {σ : Mem} {Q : Post}
theorem r_newa {atype : ArrayType} {ty n : Nat} (hty : newarray.typeOf atype = tyF ty) (ht : ty ≤ 4) (hw : Cond.arrayClass (tyF ty) ∈ ALL) (hB : gB g = true) (hkc : 1 ≤ kc) (hks : n ≤ ks) (hn : n < 10000) (hd : decode (mC e) pc = .ok (.newarray atype, 2))
    (kk : Wp l g e d (kc - 1) (ks - n) (pc + 2) ls (vR t.length :: st) (t ++ [.inr (ty, n)]) (zr σ t.length (fun _ => 0)) Q) : Wp l g e d kc ks pc ls (vI n :: st) t σ Q := by
  intro p en R s m args below meth c H locs cells slots QM lsA hC h1 h2 h3 h4 hH hS hZ hls hol hos hr T hT X
  have hsz : H.size ≤ s.heap.size + cells := by rw [← hT]; exact X.same.2.2.1
  have hs : H.size = gO g + t.length := by have := hZ.2 hB; have := hH.2.2; omega
  have hKf := hC.2.2.2.2.2.2.2.2.1
  have hts := hC.2.2.2.2.2.1
  have hbn : b32 (n : Int) := by unfold b32; omega
  have hcl : (Int32.ofInt (n : Int)).toNatClampNeg = n := by rw [clamp_of' hbn]; exact Int.toNat_natCast n
  refine va_newaK (cc := mC e) (atype := atype) hC.1 hC.2.1 (by rw [hty]; exact hts _ hw) (g := F0 m pc lsA ((vI (n : Int) :: st).map (cv g))) rfl hd (n := Int32.ofInt (n : Int)) (N := n) (rest := st.map (cv g)) rfl ?_ hcl ?_ (by omega) (by omega) hs (fun H1 cA e1 z1 o1 hAr hNm => ?_) T hT X
  · intro hlt
    have h0 := Int32.lt_iff_toInt_lt.mp hlt
    rw [to_of hbn] at h0
    have : ((0 : Int32).toInt) = 0 := rfl
    omega
  · rw [hty]
    rcases (show ty = 0 ∨ ty = 1 ∨ ty = 2 ∨ ty = 3 ∨ ty = 4 by omega) with rfl | rfl | rfl | rfl | rfl <;> simp [tyF, componentBytes] <;> omega
  · have hK2 := (hKf.2 ty _ (tyL_at g (by omega))).2
    have hcA : cA = gC g ty := by
      rw [hty] at hNm
      rcases (show ty = 0 ∨ ty = 1 ∨ ty = 2 ∨ ty = 3 ∨ ty = 4 by omega) with rfl | rfl | rfl | rfl | rfl <;> exact Option.some.inj (hNm.symm.trans hK2)
    subst hcA
    have hat : va_at (gD g) vwCl (gO g + t.length, cellE g (.inr (ty, n)) (fun _ => 0)) H1 := by
      show H1[gO g + t.length]? = some (vp_cell (gC g ty) (n, arrE g ty (fun _ => 0)))
      rw [e1, hty]
      rcases (show ty = 0 ∨ ty = 1 ∨ ty = 2 ∨ ty = 3 ∨ ty = 4 by omega) with rfl | rfl | rfl | rfl | rfl <;> rfl
    have hH1 : Hld g (t ++ [.inr (ty, n)]) (zr σ t.length (fun _ => 0)) H1 := Hld_app hH (fun j => by
      show (if ty = 1 then b64 0 else if ty = 5 then (-1 : Int) ≤ 0 else b32 0)
      split
      · unfold b64; omega
      · split
        · omega
        · unfold b32; omega) hs (by rw [z1, hs]) (fun q hq => o1 q (by rw [← hs]; exact hq)) hat
    have hS1 : va_S (Ag g) s.heap H1 locs := ⟨by have := hS.1; omega, fun q q1 q2 => by rw [o1 q (by have := hS.1; omega)]; exact hS.2.1 q q1 q2, hS.2.2⟩
    have hw1 := kk p en R s m args below meth c H1 locs (cells + 1) (slots + n) QM lsA hC h1 h2 (by omega) (by omega) hH1 hS1 ⟨hZ.1, fun _ => by have := hZ.2 hB; simp; omega⟩ hls hol (okTs_cons trivial (okTs_tl hos)) (by rw [show cells + 1 + (kc - 1) = cells + kc by omega, show slots + n + (ks - n) = slots + ks by omega]; exact hr)
    rw [List.map_cons, show cv g (vR (t.length : Int)) = rf g (t.length : Int) from rfl, rf_ref (by omega), Int.toNat_natCast] at hw1
    exact hw1
end NEW
