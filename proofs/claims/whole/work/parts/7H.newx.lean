/-! an object of a class with its constructor -/
theorem dfOf {ci : Nat} {q : vw_C} (h : ∀ j, j < q.2.2 → (parseFieldDescriptor (q.2.1 j).2.2.1).map defaultValue = some (vp_V ((fkL.getD ci []).map dfv) j)) : ∀ j ty, j < q.2.2 → parseFieldDescriptor (q.2.1 j).2.2.1 = some ty → defaultValue ty = vp_V ((fkL.getD ci []).map dfv) j := by
  intro j ty hj hp
  have := h j hj
  rw [hp] at this
  exact Option.some.inj this
theorem df5 : ∀ j, j < 9 → (parseFieldDescriptor (TX5 j).2.2.1).map defaultValue = some (vp_V ((fkL.getD 5 []).map dfv) j) := by decide +kernel
section NEW
variable {l : Launch} {g : GE} {e d kc ks pc : Nat} {ls : List (Nat × TV)} {st : List TV} {t : Tau} {σ : Mem} {Q : Post}
theorem r_newX {idx idx2 ci ei nc ns kind : Nat} {q : vw_C} (hq : vwCl[ci]? = some q) (hdf : ∀ j, j < q.2.2 → (parseFieldDescriptor (q.2.1 j).2.2.1).map defaultValue = some (vp_V ((fkL.getD ci []).map dfv) j)) (hw : inALL [Cond.classLink (mN e).cls idx q.1, Cond.instantiable q.1 q.2.2, Cond.initialized q.1] = true) (hB : gB g = true) (hkc : 1 + nc ≤ kc) (hks : q.2.2 + ns ≤ ks) (hd : decode (mC e) pc = .ok (.new idx, 3)) (hd1 : decode (mC e) (pc + 3) = .ok (.dup, 1)) (hd2 : decode (mC e) (pc + 4) = .ok (.invokespecial idx2, 3)) (hkd : kind = 4 ∨ kind = 5) (hk : callOk kind (mN e).cls idx2 ei 0 = true) (hst : (st.map catT).sum + 1 ≤ 8)
    (kk : WPc l g ei d nc ns [vR t.length] (t ++ [.inl (ci, fun _ => -1)]) (zr σ t.length (nf ci)) (fun v t' σ' => Wp l g e (d + 1) (kc - 1 - nc) (ks - q.2.2 - ns) (pc + 7) ls (v.toList ++ (vR t.length :: st)) t' σ' Q)) : Wp l g e (d + 1) kc ks pc ls st t σ Q := by
  have hi := inALL_of hw
  refine r_new (ci := ci) hq (dfOf hdf) (hi _ (by simp)) (hi _ (by simp)) (hi _ (by simp)) hB (by omega) (by omega) hd ?_
  refine r_dup rfl hd1 ?_
  refine r_callI (as := []) (Int.natCast_nonneg _) hkd hk rfl ?_ (by omega) (by omega) hd2 kk
  show ((vR _ :: st).map catT).sum ≤ 8
  simp only [List.map_cons, List.sum_cons]
  have : catT (vR (t.length : Int)) = 1 := rfl
  omega
end NEW
def seas (b : Nat) : Nat → Tau
  | 0 => []
  | k + 1 => seas b k ++ fSSea (b + 7 * k)
theorem seas_len (b : Nat) : ∀ k, (seas b k).length = 7 * k
  | 0 => rfl
  | k + 1 => by
    show (seas b k ++ fSSea (b + 7 * k)).length = _
    rw [List.length_append, seas_len b k]
    show 7 * k + 7 = _
    omega
/-- a row r of seas from object b on, k of them made -/
def pz (σ : Mem) (r b k : Int) : Mem := fun o i => if o = r then (if 0 ≤ i ∧ i < k then b + 7 * i else -1) else if b ≤ o ∧ o < b + 7 * k then 0 else σ o i
theorem pz_0 {σ : Mem} {r b : Int} : zr σ r (fun _ => -1) = pz σ r b 0 := by
  funext o i
  unfold zr pz
  by_cases h : o = r
  · rw [if_pos h, if_pos h, if_neg (by omega)]
  · rw [if_neg h, if_neg h, if_neg (by omega)]
theorem pz_1 {σ : Mem} {r b k c : Int} (hr : r < b) (hk : 0 ≤ k) (hc : c = b + 7 * k) : up (zs (pz σ r b k) c 7) r k c = pz σ r b (k + 1) := by
  funext o i
  unfold up zs pz
  by_cases h : o = r
  · subst h
    by_cases hi : i = k
    · rw [if_pos ⟨rfl, hi⟩, if_pos rfl, if_pos (by omega)]
      omega
    · rw [if_neg (by omega), if_neg (by omega), if_pos rfl, if_pos rfl]
      by_cases h3 : 0 ≤ i ∧ i < k
      · rw [if_pos h3, if_pos (by omega)]
      · rw [if_neg h3, if_neg (by omega)]
  · rw [if_neg (by omega), if_neg h]
    by_cases h2 : c ≤ o ∧ o < c + 7
    · rw [if_pos h2, if_neg h, if_pos (by omega)]
    · rw [if_neg h2, if_neg h]
      by_cases h3 : b ≤ o ∧ o < b + 7 * k
      · rw [if_pos h3, if_pos (by omega)]
      · rw [if_neg h3, if_neg (by omega)]
