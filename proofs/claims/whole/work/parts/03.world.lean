/-! the world: numbered objects (their shapes: tau), what they hold (a number for an object and a place) -/
abbrev TV : Type := Int ⊕ Int ⊕ Int
abbrev vI (x : Int) : TV := .inl x
abbrev vL (x : Int) : TV := .inr (.inl x)
abbrev vR (x : Int) : TV := .inr (.inr x)
abbrev Mem : Type := Int → Int → Int
abbrev Shp : Type := (Nat × (Nat → Int)) ⊕ (Nat × Nat)
abbrev Tau : Type := List Shp
/-- exactly full; the first address; the classes; the array classes; the static arrays' addresses; the script -/
abbrev GE : Type := Bool × Nat × va_G × (Nat → ClassId) × (Nat → Nat) × Nat × (Nat → Int)
abbrev gB (g : GE) : Bool := g.1
abbrev gO (g : GE) : Nat := g.2.1
abbrev gD (g : GE) : va_G := g.2.2.1
abbrev gC (g : GE) : Nat → ClassId := g.2.2.2.1
abbrev gS (g : GE) : Nat → Nat := g.2.2.2.2.1
abbrev gL (g : GE) : Nat := g.2.2.2.2.2.1
abbrev gX (g : GE) : Nat → Int := g.2.2.2.2.2.2
def rf (g : GE) (x : Int) : Value := if 0 ≤ x then .ref (gO g + x.toNat) else if x = -1 then .null else .ref (gS g (-x).toNat)
def rfo (g : GE) (x : Int) : Option Nat := if 0 ≤ x then some (gO g + x.toNat) else none
def cv (g : GE) (v : TV) : Value := match v with
  | .inl x => .int (Int32.ofInt x)
  | .inr (.inl x) => .long (Int64.ofInt x)
  | .inr (.inr x) => rf g x
def okT (v : TV) : Prop := match v with
  | .inl x => b32 x
  | .inr (.inl x) => b64 x
  | .inr (.inr _) => True
def catT (v : TV) : Nat := match v with
  | .inr (.inl _) => 2
  | _ => 1
/-- kinds of fields: 0 int, 1 boolean, 2 a reference, 3 a final reference -/
def fkL : List (List Nat) := [[3, 0], [3, 3, 3, 0], [3, 0, 0], [3, 0], [3, 3, 3, 0, 0, 0, 0, 0, 1], [0, 0, 0, 3, 3, 3, 3, 3, 3], [3, 3, 2, 0, 0, 0], [3, 0], [3, 3, 3, 3, 3, 3, 3, 3, 3, 3, 3, 3, 2, 2, 0, 0, 0], [3, 0, 0, 3, 3, 0, 3, 0, 0, 2, 0, 0, 0, 0, 3, 2, 2, 0, 1, 3, 3, 0, 3, 3, 3, 3, 3, 3, 3, 3, 0, 3, 3, 0, 0, 3, 0, 0, 3, 3, 3]]
def fldE (g : GE) (ci : Nat) (fin : Nat → Int) (s : Int → Int) : List Value := (fkL.getD ci []).mapIdx fun j kd => if kd ≤ 1 then .int (Int32.ofInt (s j)) else if kd = 2 then rf g (s j) else rf g (fin j)
def arrE (g : GE) (ty : Nat) (s : Int → Int) : (Nat → Int32) ⊕ (Nat → Int64) ⊕ (Nat → UInt32) ⊕ (Nat → UInt64) ⊕ (Nat → Option Nat) :=
  if ty = 1 then .inr (.inl fun j => Int64.ofInt (s j)) else if ty = 5 then .inr (.inr (.inr (.inr fun j => rfo g (s j)))) else .inl fun j => Int32.ofInt (s j)
def cellE (g : GE) (sh : Shp) (s : Int → Int) : va_E := match sh with
  | .inl (ci, fin) => .inr (ci, fldE g ci fin s)
  | .inr (ty, n) => .inl (gC g ty, n, arrE g ty s)
def world (g : GE) (t : Tau) (s : Mem) : va_W := t.mapIdx fun k sh => (gO g + k, cellE g sh (s k))
def okS (sh : Shp) (j : Nat) (x : Int) : Prop := match sh with
  | .inl (ci, _) => (∀ kd, (fkL.getD ci [])[j]? = some kd → kd ≤ 1 → b32 x)
  | .inr (ty, _) => if ty = 1 then b64 x else if ty = 5 then -1 ≤ x else b32 x
def MemOk (t : Tau) (s : Mem) : Prop := ∀ (k : Nat) (sh : Shp), t[k]? = some sh → ∀ j : Nat, okS sh j (s k j)
def tyF (ty : Nat) : FieldType := match ty with
  | 0 => .int
  | 1 => .long
  | 2 => .byte
  | 3 => .boolean
  | 4 => .char
  | _ => .object "StruckColours$Sea"
def tyL (g : GE) : List (ClassId × FieldType) := [(gC g 0, .int), (gC g 1, .long), (gC g 2, .byte), (gC g 3, .boolean), (gC g 4, .char), (gC g 5, .object "StruckColours$Sea")]
theorem tyL_at (g : GE) {ty : Nat} (h : ty ≤ 5) : (tyL g)[ty]? = some (gC g ty, tyF ty) := by
  match ty, h with
  | 0, _ => rfl
  | 1, _ => rfl
  | 2, _ => rfl
  | 3, _ => rfl
  | 4, _ => rfl
  | 5, _ => rfl
abbrev Ag (g : GE) : Nat → Prop := fun q => gO g ≤ q
def Hld (g : GE) (t : Tau) (s : Mem) (H : Heap) : Prop := va_P (gD g) vwCl (world g t s) H ∧ MemOk t s ∧ gO g + t.length ≤ H.size
theorem world_at {g : GE} {t : Tau} {s : Mem} {k : Nat} {sh : Shp} (h : t[k]? = some sh) : (world g t s)[k]? = some (gO g + k, cellE g sh (s k)) := by
  unfold world
  rw [List.getElem?_mapIdx, h]
  rfl
theorem world_atI {g : GE} {t : Tau} {s : Mem} {x : Int} {sh : Shp} (hx : 0 ≤ x) (h : t[x.toNat]? = some sh) : (world g t s)[x.toNat]? = some (gO g + x.toNat, cellE g sh (s x)) := by
  rw [world_at h, Int.toNat_of_nonneg hx]
theorem world_D (g : GE) (t : Tau) (s : Mem) : va_D (Ag g) (world g t s) := by
  unfold world
  refine ⟨fun i j p q hp hq he => ?_, fun k q hk => ?_⟩
  · rw [List.getElem?_mapIdx] at hp hq
    obtain ⟨a, -, rfl⟩ := Option.map_eq_some_iff.mp hp
    obtain ⟨b, -, rfl⟩ := Option.map_eq_some_iff.mp hq
    exact Nat.add_left_cancel he
  · rw [List.getElem?_mapIdx] at hk
    obtain ⟨a, -, rfl⟩ := Option.map_eq_some_iff.mp hk
    exact Nat.le_add_right _ _
def up (s : Mem) (x j v : Int) : Mem := fun o i => if o = x ∧ i = j then v else s o i
theorem up_ne {s : Mem} {x j v : Int} {o : Int} (h : o ≠ x) : up s x j v o = s o := by
  funext i
  simp [up, h]
theorem world_set {g : GE} {t : Tau} {s s' : Mem} {x : Int} {sh : Shp} (hx : 0 ≤ x) (h : t[x.toNat]? = some sh) (hs : ∀ o, o ≠ x → s' o = s o) {e' : va_E} (he : cellE g sh (s' x) = e') : (world g t s).set x.toNat (gO g + x.toNat, e') = world g t s' := by
  apply List.ext_getElem?
  intro i
  rw [List.getElem?_set]
  by_cases hi : x.toNat = i
  · subst hi
    have hl : x.toNat < (world g t s).length := by
      have := world_at (g := g) (s := s) h
      exact (List.getElem?_eq_some_iff.mp this).1
    rw [if_pos rfl, if_pos hl, world_atI hx h, he]
  · rw [if_neg hi]
    unfold world
    rw [List.getElem?_mapIdx, List.getElem?_mapIdx, hs i (fun z => hi (by rw [← z]; exact Int.toNat_natCast i))]
theorem MemOk_up {t : Tau} {s : Mem} {x j v : Int} (h : MemOk t s) (hx : 0 ≤ x) (hj : 0 ≤ j) {sh : Shp} (hs : t[x.toNat]? = some sh) (hv : okS sh j.toNat v) : MemOk t (up s x j v) := by
  intro k sh' hk i
  by_cases hkx : (k : Int) = x ∧ (i : Int) = j
  · obtain ⟨h1, h2⟩ := hkx
    subst h1; subst h2
    simp only [Int.toNat_natCast] at hs hv
    cases hs.symm.trans hk
    simp only [up, and_self, if_true]
    exact hv
  · simp only [up, hkx, if_false]
    exact h k sh' hk i
/-- x is an object of class ci -/
def isO (t : Tau) (x : Int) (ci : Nat) : Prop := 0 ≤ x ∧ ∃ fin, t[x.toNat]? = some (.inl (ci, fin))
def finOf (t : Tau) (x : Int) (k : Nat) : Int := match t[x.toNat]? with
  | some (.inl (_, f)) => f k
  | _ => 0
def lenOf (t : Tau) (x : Int) : Nat := match t[x.toNat]? with
  | some (.inr (_, n)) => n
  | _ => 0
/-- x is an array of type ty -/
def isT (t : Tau) (x : Int) (ty : Nat) : Prop := 0 ≤ x ∧ t[x.toNat]? = some (.inr (ty, lenOf t x))
theorem rf_ref {g : GE} {x : Int} (h : 0 ≤ x) : rf g x = .ref (gO g + x.toNat) := by simp [rf, h]
theorem rf_null (g : GE) : rf g (-1) = .null := by simp [rf]
theorem rf_rfo {g : GE} {x : Int} (h : -1 ≤ x) : va_rf (rfo g x) = rf g x := by
  unfold rf rfo
  by_cases hx : 0 ≤ x
  · simp [hx, va_rf]
  · have : x = -1 := by omega
    simp [hx, this, va_rf]
theorem cv_cat (g : GE) (v : TV) : (cv g v).category = catT v := by
  match v with
  | .inl x => rfl
  | .inr (.inl x) => rfl
  | .inr (.inr x) =>
    show (rf g x).category = 1
    unfold rf
    split
    · rfl
    · split <;> rfl
theorem cat_map (g : GE) (st : List TV) : ((st.map (cv g)).map fun v => v.category) = st.map catT := by
  rw [List.map_map]
  exact List.map_congr_left fun v _ => cv_cat g v
