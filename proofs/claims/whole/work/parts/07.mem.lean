/-! fields, arrays, static fields -/
def inALL (ws : List Cond) : Bool := ws.all fun w => decide (w ∈ lw_tbl) && goodWord w
theorem inALL_of {ws : List Cond} (h : inALL ws = true) : ∀ w ∈ ws, w ∈ ALL := by
  intro w hw
  have := List.all_eq_true.mp h w hw
  simp only [Bool.and_eq_true, decide_eq_true_eq] at this
  exact List.mem_filter.mpr this
theorem cls_0 : inALL (u_ws RX0 TX0 2) = true := by decide +kernel
theorem cls_1 : inALL (u_ws RX1 TX1 4) = true := by decide +kernel
theorem cls_2 : inALL (u_ws RX2 TX2 3) = true := by decide +kernel
theorem cls_3 : inALL (u_ws RX3 TX3 2) = true := by decide +kernel
theorem cls_4 : inALL (u_ws RX4 TX4 9) = true := by decide +kernel
theorem cls_5 : inALL (u_ws RX5 TX5 9) = true := by decide +kernel
theorem cls_6 : inALL (u_ws RX6 TX6 6) = true := by decide +kernel
theorem cls_7 : inALL (u_ws RX7 TX7 2) = true := by decide +kernel
theorem cls_8 : inALL (u_ws RX8 TX8 17) = true := by decide +kernel
theorem cls_9 : inALL (u_ws RX9 TX9 41) = true := by decide +kernel
/-- what the class tables give of a class by its number -/
theorem clsOk {ci : Nat} {q : vw_C} (h : vwCl[ci]? = some q) : (∀ w ∈ u_ws q.1 q.2.1 q.2.2, w ∈ ALL) ∧ ∃ ty : Nat → FieldType, (∀ k, k < q.2.2 → parseFieldDescriptor (q.2.1 k).2.2.1 = some (ty k)) ∧ (∀ a, a < q.2.2 → ∀ b, b < q.2.2 → a ≠ b → (q.2.1 a).2.1 ≠ (q.2.1 b).2.1) := by
  match ci, h with
  | 0, h => cases h; exact ⟨inALL_of cls_0, tyX0, tyX0_ok, nmX0⟩
  | 1, h => cases h; exact ⟨inALL_of cls_1, tyX1, tyX1_ok, nmX1⟩
  | 2, h => cases h; exact ⟨inALL_of cls_2, tyX2, tyX2_ok, nmX2⟩
  | 3, h => cases h; exact ⟨inALL_of cls_3, tyX3, tyX3_ok, nmX3⟩
  | 4, h => cases h; exact ⟨inALL_of cls_4, tyX4, tyX4_ok, nmX4⟩
  | 5, h => cases h; exact ⟨inALL_of cls_5, tyX5, tyX5_ok, nmX5⟩
  | 6, h => cases h; exact ⟨inALL_of cls_6, tyX6, tyX6_ok, nmX6⟩
  | 7, h => cases h; exact ⟨inALL_of cls_7, tyX7, tyX7_ok, nmX7⟩
  | 8, h => cases h; exact ⟨inALL_of cls_8, tyX8, tyX8_ok, nmX8⟩
  | 9, h => cases h; exact ⟨inALL_of cls_9, tyX9, tyX9_ok, nmX9⟩
/-- the field k of class ci is of kind kd, declared where it is -/
def kdOk (ci k kd : Nat) : Bool := match vwCl[ci]? with
  | none => false
  | some q => decide (k < q.2.2) && decide ((fkL.getD ci [])[k]? = some kd) && decide ((fkL.getD ci []).length = q.2.2) && decide ((q.2.1 k).1 = q.1) && (match parseFieldDescriptor (q.2.1 k).2.2.1 with
    | some .int => decide (kd = 0) && !(q.2.1 k).2.2.2
    | some .boolean => decide (kd = 1) && !(q.2.1 k).2.2.2
    | some (.object _) => (decide (kd = 2) && !(q.2.1 k).2.2.2) || (decide (kd = 3) && (q.2.1 k).2.2.2)
    | some (.array _) => (decide (kd = 2) && !(q.2.1 k).2.2.2) || (decide (kd = 3) && (q.2.1 k).2.2.2)
    | _ => false)
def fLink (own : String) (idx ci k : Nat) : Bool := match vwCl[ci]? with
  | none => false
  | some q => decide (Cond.fieldLink own idx (q.2.1 k).1 (q.2.1 k).2.1 (q.2.1 k).2.2.1 ∈ lw_tbl) && goodWord (Cond.fieldLink own idx (q.2.1 k).1 (q.2.1 k).2.1 (q.2.1 k).2.2.1)
def fLinkN (own : String) (idx ci k : Nat) : Bool := match vwCl[ci]? with
  | none => false
  | some q => decide (Cond.fieldLinkNest own idx (q.2.1 k).1 (q.2.1 k).2.1 (q.2.1 k).2.2.1 "StruckColours" ∈ tables_1)
def gval (t : Tau) (σ : Mem) (x : Int) (k kd : Nat) : TV := if kd ≤ 1 then vI (σ x k) else if kd = 2 then vR (σ x k) else vR (finOf t x k)
theorem fld_at {g : GE} {ci k kd : Nat} {fin : Nat → Int} {s : Int → Int} (h : (fkL.getD ci [])[k]? = some kd) : (fldE g ci fin s)[k]? = some (if kd ≤ 1 then .int (Int32.ofInt (s k)) else if kd = 2 then rf g (s k) else rf g (fin k)) := by
  unfold fldE
  rw [List.getElem?_mapIdx, h]
  rfl
theorem fld_len (g : GE) (ci : Nat) (fin : Nat → Int) (s : Int → Int) : (fldE g ci fin s).length = (fkL.getD ci []).length := by
  unfold fldE
  exact List.length_mapIdx
theorem gval_cv {g : GE} {t : Tau} {σ : Mem} {x : Int} {k kd ci : Nat} {fin : Nat → Int} (hs : t[x.toNat]? = some (.inl (ci, fin))) : cv g (gval t σ x k kd) = (if kd ≤ 1 then .int (Int32.ofInt (σ x k)) else if kd = 2 then rf g (σ x k) else rf g (fin k)) := by
  unfold gval
  by_cases h1 : kd ≤ 1
  · rw [if_pos h1, if_pos h1]; rfl
  · by_cases h2 : kd = 2
    · rw [if_neg h1, if_pos h2, if_neg h1, if_pos h2]; rfl
    · rw [if_neg h1, if_neg h2, if_neg h1, if_neg h2]
      show rf g (finOf t x k) = _
      unfold finOf
      rw [hs]
theorem gval_ok {t : Tau} {σ : Mem} {x : Int} {k kd ci : Nat} {fin : Nat → Int} (hM : MemOk t σ) (hx : 0 ≤ x) (hs : t[x.toNat]? = some (.inl (ci, fin))) (hk : (fkL.getD ci [])[k]? = some kd) : okT (gval t σ x k kd) := by
  unfold gval
  by_cases h1 : kd ≤ 1
  · rw [if_pos h1]
    have := hM x.toNat _ hs k kd hk h1
    rw [Int.toNat_of_nonneg hx] at this
    exact this
  · rw [if_neg h1]
    split <;> trivial
section MEM
variable {l : Launch} {g : GE} {e d kc ks pc : Nat} {ls : List (Nat × TV)} {st : List TV} {t : Tau} {σ : Mem} {Q : Post}
theorem r_get {idx ci k kd : Nat} {x : Int} (hO : isO t x ci) (hk : kdOk ci k kd = true) (hl : fLink (mN e).cls idx ci k = true ∨ fLinkN (mN e).cls idx ci k = true) (hd : decode (mC e) pc = .ok (.getfield idx, 3))
    (kk : Wp l g e d kc ks (pc + 3) ls (gval t σ x k kd :: st) t σ Q) : Wp l g e d kc ks pc ls (vR x :: st) t σ Q := by
  intro p en R s m args below meth c H locs cells slots QM lsA hC h1 h2 h3 h4 hH hS hZ hls hol hos hr
  obtain ⟨hx, fin, hs⟩ := hO
  unfold kdOk at hk
  cases hq : vwCl[ci]? with
  | none => rw [hq] at hk; cases hk
  | some q =>
    rw [hq] at hk
    simp only [Bool.and_eq_true, decide_eq_true_eq] at hk
    obtain ⟨⟨⟨⟨hk1, hk2⟩, hk3⟩, hk4⟩, -⟩ := hk
    have kw := kk p en R s m args below meth c H locs cells slots QM lsA hC h1 h2 h3 h4 hH hS hZ hls hol (okTs_cons (gval_ok hH.2.1 hx hs hk2) (okTs_tl hos)) hr
    rw [List.map_cons, gval_cv hs] at kw
    show W _ _ _ _ _ _ _ _ _ _ _ _ _ _ _ (F0 _ _ _ (rf g x :: _))
    rw [rf_ref hx]
    have he := world_atI (g := g) (s := σ) hx hs
    rcases hl with hl | hl
    · unfold fLink at hl
      rw [hq] at hl
      simp only [Bool.and_eq_true, decide_eq_true_eq] at hl
      exact va_get (C := q.1) (T := q.2.1) (N := q.2.2) hC.1 hC.2.1 hC.2.2.2.2.2.1 (clsOk hq).1 hC.2.2.2.2.1 hC.2.2.2.2.2.2.2.2.1 hH.1 x.toNat he hq k hk1 (hC.2.2.2.2.2.1 _ (List.mem_filter.mpr hl)) (fun _ z => z) (fld_at hk2) hd kw
    · unfold fLinkN at hl
      rw [hq] at hl
      simp only [decide_eq_true_eq] at hl
      have hw : va_Nw (Cond.fieldLinkNest (mN e).cls idx (q.2.1 k).1 (q.2.1 k).2.1 (q.2.1 k).2.2.1 "StruckColours") s := hC.2.2.2.2.2.2.2.2.2.1 _ (List.mem_filter.mpr ⟨hl, rfl⟩)
      exact va_getN (C := q.1) (T := q.2.1) (N := q.2.2) hC.1 hC.2.1 hC.2.2.2.2.2.1 (clsOk hq).1 hC.2.2.2.2.1 hC.2.2.2.2.2.2.2.2.1 hH.1 x.toNat he hq k hk1 (va_Nw.use rfl hw) (fun _ z => z) (fld_at hk2) hd kw
/-- what may be stored in a field of kind kd, and its number -/
def putOk (kd : Nat) (v : TV) : Prop := match v with
  | .inl y => kd = 0 ∨ (kd = 1 ∧ (y = 0 ∨ y = 1))
  | .inr (.inr _) => kd = 2
  | _ => False
def numT (v : TV) : Int := match v with
  | .inl y => y
  | .inr (.inl y) => y
  | .inr (.inr y) => y
theorem rf_fits {ty : FieldType} (g : GE) (y : Int) (h : (∃ n, ty = .object n) ∨ ∃ n, ty = .array n) : narrow ty (rf g y) = rf g y ∧ fits ty (rf g y) = true := by
  rcases h with ⟨n, rfl⟩ | ⟨n, rfl⟩ <;> rcases rf_cases g y with ⟨-, h⟩ | ⟨-, a, h⟩ <;> rw [h] <;> exact ⟨rfl, rfl⟩
theorem put_val {q : vw_C} {k kd : Nat} {v : TV} (g : GE) (hp : putOk kd v) (h : (match parseFieldDescriptor (q.2.1 k).2.2.1 with
    | some .int => decide (kd = 0) && !(q.2.1 k).2.2.2
    | some .boolean => decide (kd = 1) && !(q.2.1 k).2.2.2
    | some (.object _) => (decide (kd = 2) && !(q.2.1 k).2.2.2) || (decide (kd = 3) && (q.2.1 k).2.2.2)
    | some (.array _) => (decide (kd = 2) && !(q.2.1 k).2.2.2) || (decide (kd = 3) && (q.2.1 k).2.2.2)
    | _ => false) = true) : ∃ ty, parseFieldDescriptor (q.2.1 k).2.2.1 = some ty ∧ (q.2.1 k).2.2.2 = false ∧ narrow ty (cv g v) = cv g v ∧ fits ty (cv g v) = true ∧ kd ≤ 2 ∧ (kd = 2 → ∃ y, v = vR y) ∧ (kd ≤ 1 → ∃ y, v = vI y) := by
  split at h
  · rename_i hq
    simp only [Bool.and_eq_true, decide_eq_true_eq, Bool.not_eq_true'] at h
    obtain ⟨rfl, hf⟩ := h
    match v, hp with
    | .inl y, hp => exact ⟨_, hq, hf, rfl, rfl, by omega, (fun z => by cases z), fun _ => ⟨y, rfl⟩⟩
  · rename_i hq
    simp only [Bool.and_eq_true, decide_eq_true_eq, Bool.not_eq_true'] at h
    obtain ⟨rfl, hf⟩ := h
    match v, hp with
    | .inl y, hp =>
      have hy : y = 0 ∨ y = 1 := by
        rcases hp with h | ⟨-, h⟩
        · cases h
        · exact h
      refine ⟨_, hq, hf, ?_, ?_, by omega, (fun z => by cases z), fun _ => ⟨y, rfl⟩⟩
      · rcases hy with rfl | rfl
        · show Value.int (Int32.ofInt 0 &&& 1) = Value.int (Int32.ofInt 0); decide +kernel
        · show Value.int (Int32.ofInt 1 &&& 1) = Value.int (Int32.ofInt 1); decide +kernel
      · rcases hy with rfl | rfl <;> rfl
  · rename_i n hq
    simp only [Bool.or_eq_true, Bool.and_eq_true, decide_eq_true_eq, Bool.not_eq_true'] at h
    match v, hp with
    | .inl y, hp => rcases hp with hp | ⟨hp, -⟩ <;> omega
    | .inr (.inr y), hp =>
      have hk : kd = 2 := hp
      have hf := rf_fits (ty := .object n) g y (Or.inl ⟨_, rfl⟩)
      exact ⟨_, hq, (h.elim (fun h => h.2) (fun h => by omega)), hf.1, hf.2, by omega, fun _ => ⟨y, rfl⟩, fun z => by omega⟩
  · rename_i n hq
    simp only [Bool.or_eq_true, Bool.and_eq_true, decide_eq_true_eq, Bool.not_eq_true'] at h
    match v, hp with
    | .inl y, hp => rcases hp with hp | ⟨hp, -⟩ <;> omega
    | .inr (.inr y), hp =>
      have hk : kd = 2 := hp
      have hf := rf_fits (ty := .array n) g y (Or.inr ⟨_, rfl⟩)
      exact ⟨_, hq, (h.elim (fun h => h.2) (fun h => by omega)), hf.1, hf.2, by omega, fun _ => ⟨y, rfl⟩, fun z => by omega⟩
  · cases h
theorem fld_set {g : GE} {ci k kd : Nat} {fin : Nat → Int} {σ : Mem} {x : Int} {v : TV} (hk : (fkL.getD ci [])[k]? = some kd) (h2 : kd ≤ 2) (hr : kd = 2 → ∃ y, v = vR y) (hi : kd ≤ 1 → ∃ y, v = vI y) : fldE g ci fin (up σ x k (numT v) x) = (fldE g ci fin (σ x)).set k (cv g v) := by
  apply List.ext_getElem?
  intro i
  rw [List.getElem?_set]
  unfold fldE
  rw [List.getElem?_mapIdx, List.getElem?_mapIdx, List.length_mapIdx]
  by_cases hik : k = i
  · subst hik
    rw [if_pos rfl, if_pos (List.getElem?_eq_some_iff.mp hk).1, hk]
    by_cases h1 : kd ≤ 1
    · obtain ⟨y, rfl⟩ := hi h1
      simp [h1, up, numT, cv]
    · obtain ⟨y, rfl⟩ := hr (by omega)
      have : kd = 2 := by omega
      simp [this, up, numT, cv]
  · rw [if_neg hik]
    congr 1
    funext kd'
    have : ¬ ((i : Int) = (k : Int)) := fun z => hik (by omega)
    simp [up, this]
theorem r_put {idx ci k kd : Nat} {x : Int} {v : TV} (hO : isO t x ci) (hp : putOk kd v) (hk : kdOk ci k kd = true) (hl : fLink (mN e).cls idx ci k = true ∨ fLinkN (mN e).cls idx ci k = true) (hd : decode (mC e) pc = .ok (.putfield idx, 3))
    (kk : Wp l g e d kc ks (pc + 3) ls st t (up σ x k (numT v)) Q) : Wp l g e d kc ks pc ls (v :: vR x :: st) t σ Q := by
  intro p en R s m args below meth c H locs cells slots QM lsA hC h1 h2 h3 h4 hH hS hZ hls hol hos hr
  obtain ⟨hx, fin, hs⟩ := hO
  unfold kdOk at hk
  cases hq : vwCl[ci]? with
  | none => rw [hq] at hk; cases hk
  | some q =>
    rw [hq] at hk
    simp only [Bool.and_eq_true, decide_eq_true_eq] at hk
    obtain ⟨⟨⟨⟨hk1, hk2⟩, hk3⟩, hk4⟩, hk5⟩ := hk
    obtain ⟨ty, g1, g2, g3, g4, g5, g6, g7⟩ := put_val (q := q) g hp hk5
    obtain ⟨w1, ty0, w2, w3⟩ := clsOk hq
    have he := world_atI (g := g) (s := σ) hx hs
    have hset : ∀ e', cellE g (.inl (ci, fin)) (up σ x k (numT v) x) = e' → (world g t σ).set x.toNat (gO g + x.toNat, e') = world g t (up σ x k (numT v)) := fun e' h => world_set hx hs (fun o ho => up_ne ho) h
    have hse := hset (.inr (ci, (fldE g ci fin (σ x)).set k (cv g v))) (by show Sum.inr _ = _; rw [fld_set hk2 g5 g6 g7])
    have hok : okT v := okTs_hd hos
    have hm : MemOk t (up σ x k (numT v)) := by
      refine MemOk_up hH.2.1 hx (by omega) hs ?_
      intro kd' hkd' hle
      rw [show ((k : Int).toNat) = k from Int.toNat_natCast k] at hkd'
      cases hk2.symm.trans hkd'
      obtain ⟨y, rfl⟩ := g7 hle
      exact hok
    have hll : k < (fldE g ci fin (σ x)).length := by rw [fld_len, hk3]; exact hk1
    have kw : ∀ (H1 : Heap) (locs1 : List Loc), va_P (gD g) vwCl ((world g t σ).set x.toNat (gO g + x.toNat, .inr (ci, (fldE g ci fin (σ x)).set k (cv g v)))) H1 → va_D (Ag g) ((world g t σ).set x.toNat (gO g + x.toNat, .inr (ci, (fldE g ci fin (σ x)).set k (cv g v)))) → va_S (Ag g) s.heap H1 locs1 → W p l en R s m args below meth c H1 locs1 cells slots QM (F0 m (pc + 3) lsA (st.map (cv g))) := by
      intro H1 locs1 hP1 hD1 hS1
      rw [hse] at hP1
      have hsz : gO g + t.length ≤ H1.size := by
        by_cases ht : t.length = 0
        · have := hS1.1; omega
        · have hlt : t.length - 1 < t.length := by omega
          have := (hP1 (t.length - 1) _ (world_at (g := g) (s := up σ x k (numT v)) (List.getElem?_eq_getElem hlt))).lt
          simp only at this
          omega
      exact kk p en R s m args below meth c H1 locs1 cells slots QM lsA hC h1 h2 h3 h4 ⟨hP1, hm, hsz⟩ hS1 hZ hls hol (okTs_tl (okTs_tl hos)) hr
    show W _ _ _ _ _ _ _ _ _ _ _ _ _ _ _ (F0 _ _ _ (cv g v :: rf g x :: _))
    rw [rf_ref hx]
    rcases hl with hl | hl
    · unfold fLink at hl
      rw [hq] at hl
      simp only [Bool.and_eq_true, decide_eq_true_eq] at hl
      exact va_put (C := q.1) (T := q.2.1) (N := q.2.2) hC.1 hC.2.1 hC.2.2.2.2.2.1 w1 ty0 w2 w3 hC.2.2.2.2.1 hC.2.2.2.2.2.2.2.2.1 hH.1 (world_D g t σ) hS x.toNat he hq k hk1 (hC.2.2.2.2.2.1 _ (List.mem_filter.mpr hl)) (fun _ z => z) g2 g1 g3 g4 hll hd kw
    · unfold fLinkN at hl
      rw [hq] at hl
      simp only [decide_eq_true_eq] at hl
      have hw : va_Nw (Cond.fieldLinkNest (mN e).cls idx (q.2.1 k).1 (q.2.1 k).2.1 (q.2.1 k).2.2.1 "StruckColours") s := hC.2.2.2.2.2.2.2.2.2.1 _ (List.mem_filter.mpr ⟨hl, rfl⟩)
      exact va_putN (C := q.1) (T := q.2.1) (N := q.2.2) hC.1 hC.2.1 hC.2.2.2.2.2.1 w1 ty0 w2 w3 hC.2.2.2.2.1 hC.2.2.2.2.2.2.2.2.1 hH.1 (world_D g t σ) hS x.toNat he hq k hk1 (va_Nw.use rfl hw) (fun _ z => z) g2 g1 g3 g4 hll hd kw
end MEM
