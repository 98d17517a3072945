/-! the judgements: a frame of method e (Wp), a call of it (WPc) -/
def ALL : List Cond := lw_tbl.filter goodWord
def isNest (w : Cond) : Bool := match w with
  | .fieldLinkNest .. => true
  | .methodLinkNest .. => true
  | _ => false
def nestW : List Cond := tables_1.filter isNest
def wsM (e : Nat) : List Cond := .code (mN e) (mC e) (mL e) (mR e) :: ALL
theorem nest_warm {w : Cond} (hw : isNest w = true) {s U : State} (hW : s.WarmedH U.vm) (h : va_Nw w s) : va_Nw w U := by
  cases w with
  | fieldLinkNest a i b n d h' => exact va_Nw.warmF hW h
  | methodLinkNest a i x h' => exact va_Nw.warmM hW h
  | _ => cases hw
theorem nest_tab {w : Cond} (hw : isNest w = true) : w.onTables = true := by
  cases w with
  | fieldLinkNest a i b n d h' => rfl
  | methodLinkNest a i x h' => rfl
  | _ => cases hw
/-! static arrays: 2 PLAIN_RULE, 3 FACTORIALS, 4 COLD, 5 the script -/
def sTy (i : Nat) : Nat := if i = 2 then 4 else 0
def sLen (g : GE) (i : Nat) : Nat := if i = 5 then gL g else if i = 4 then 31 else 7
def stL (i : Nat) : List Int := if i = 2 then [115, 42, 50, 43, 111, 45, 101] else if i = 3 then [1, 1, 2, 6, 24, 120, 720] else [0, 2, 1, 5, 7, 3, 10, 4, 13, 15, 6, 18, 20, 8, 23, 9, 26, 28, 11, 31, 12, 34, 36, 14, 39, 41, 16, 44, 17, 47, 49]
def sCt (g : GE) (i j : Nat) : Int := if i = 5 then gX g j else (stL i).getD j 0
def sNm (i : Nat) : String × String := if i = 2 then ("PLAIN_RULE", "[C") else if i = 3 then ("FACTORIALS", "[I") else ("COLD", "[I")
/-- what stays: the tables' words, classes, static arrays -/
def KF (g : GE) (s : State) : Prop :=
  va_K (gD g) vwCl (tyL g) s ∧ (∀ w ∈ nestW, va_Nw w s) ∧ (va_AO "StruckColours$Sea" s ∧ KX (Ag g) s) ∧
  (∀ i, 2 ≤ i → i ≤ 5 → va_T (tyF (sTy i)) (gS g i) (sLen g i) (fun j => .int (Int32.ofInt (sCt g i j))) (Ag g) s s.heap) ∧
  (∀ i, 2 ≤ i → i ≤ 4 → va_Z "StruckColours" (sNm i).1 (sNm i).2 (.ref (gS g i)) (Ag g) s s.heap) ∧
  (∀ i j, b32 (sCt g i j)) ∧ gL g < 2147483648
theorem KF.go {g : GE} {s U : State} {locs : List Loc} (h : KF g s) (hW : s.WarmedH U.vm) (hS : va_S (Ag g) s.heap U.heap locs) : KF g U := by
  obtain ⟨h1, h2, h3, h4, h5, h6, h7⟩ := h
  refine ⟨va_K.moved hW.alike h1, fun w hw => nest_warm (List.mem_filter.mp hw).2 hW (h2 w hw), ⟨va_AO.moved hW.alike h3.1, h3.2.go hW hS⟩, fun i a b => ?_, fun i a b => ?_, h6, h7⟩
  · exact ((h4 i a b).moved hW.alike).kept fun q q1 q2 => hS.2.1 q q1 q2
  · exact ((h5 i a b).moved hW.alike).kept fun q q1 q2 => hS.2.1 q q1 q2
theorem KF.same {g : GE} {s U : State} (h : KF g s) (hv : s.vm = U.vm) (hh : U.heap = s.heap) : KF g U := by
  obtain ⟨h1, h2, h3, h4, h5, h6, h7⟩ := h
  have hA : s.vm.Alike U.vm := by rw [hv]; exact Vm.Alike.refl _
  refine ⟨va_K.moved hA h1, fun w hw => va_Nw.same (nest_tab (List.mem_filter.mp hw).2) hv (h2 w hw), ⟨va_AO.moved hA h3.1, h3.2.same hv hh⟩, fun i a b => ?_, fun i a b => ?_, h6, h7⟩
  · rw [hh]; exact (h4 i a b).moved hA
  · rw [hh]; exact (h5 i a b).moved hA
def CxF (g : GE) (e : Nat) (p : Program) (s : State) (m : MethodId) (args : Array Value) (meth : Method) (c : Code) : Prop :=
  p.tables.exec = Jvm.exec ∧ c.code = mC e ∧ meth.sig.returnType = mR e ∧ c.maxLocals = mL e ∧ s.vm.findClass (mN e).cls = some m.cls ∧ (∀ w ∈ ALL, w.before args s = true) ∧ meth.locks = false ∧ meth.name = (mN e).name ∧ KF g s
def okTs (st : List TV) : Prop := ∀ v ∈ st, okT v
def okLs (ls : List (Nat × TV)) : Prop := ∀ q ∈ ls, okT q.2
def cvL (g : GE) (ls : List (Nat × TV)) : List (Nat × Value) := ls.map fun q => (q.1, cv g q.2)
/-- which instruction returns which value -/
def rOK (e : Nat) (i : Instr) (v : Option TV) : Prop := match mR e, v with
  | none, none => i = .return_
  | some .int, some (.inl _) => i = .ireturn
  | some .boolean, some (.inl x) => i = .ireturn ∧ (x = 0 ∨ x = 1)
  | some .char, some (.inl x) => i = .ireturn ∧ 0 ≤ x ∧ x < 65536
  | some .long, some (.inr (.inl _)) => i = .lreturn
  | some (.object _), some (.inr (.inr _)) => i = .areturn
  | _, _ => False
abbrev Post : Type := Option TV → Tau → Mem → Prop
def okO (v : Option TV) : Prop := ∀ x, v = some x → okT x
def RetK (l : Launch) (g : GE) (e : Nat) (Q : Post) (tc ts : Nat) (p : Program) (en : Env) (R : Room) (s : State) (m : MethodId) (args : Array Value) (below : List Frame) (meth : Method) (c : Code) (QM : State → Prop) : Prop :=
  ∀ (v : Option TV) (t : Tau) (σ : Mem) (H : Heap) (locs : List Loc) (cells slots : Nat) (lsA : Array Slot) (pc : Nat) (i : Instr),
    Q v t σ → okO v → Hld g t σ H → va_S (Ag g) s.heap H locs → cells ≤ tc → slots ≤ ts → (gB g = true → s.heap.size + tc ≤ gO g + t.length) → decode (mC e) pc = .ok (i, 1) → rOK e i v →
    W p l en R s m args below meth c H locs cells slots QM (F0 m pc lsA (v.toList.map (cv g)))
def Wp (l : Launch) (g : GE) (e d kc ks pc : Nat) (ls : List (Nat × TV)) (st : List TV) (t : Tau) (σ : Mem) (Q : Post) : Prop :=
  ∀ (p : Program) (en : Env) (R : Room) (s : State) (m : MethodId) (args : Array Value) (below : List Frame) (meth : Method) (c : Code) (H : Heap) (locs : List Loc) (cells slots : Nat) (QM : State → Prop) (lsA : Array Slot),
    CxF g e p s m args meth c → d ≤ R.frames → 64 * d ≤ R.locals → cells + kc ≤ R.cells → slots + ks ≤ R.slots →
    Hld g t σ H → va_S (Ag g) s.heap H locs → (gO g ≤ s.heap.size ∧ (gB g = true → s.heap.size + cells ≤ gO g + t.length)) → lv_has lsA (mL e) (cvL g ls) → okLs ls → okTs st →
    RetK l g e Q (cells + kc) (slots + ks) p en R s m args below meth c QM →
    W p l en R s m args below meth c H locs cells slots QM (F0 m pc lsA (st.map (cv g)))
def PcM (g : GE) (as : List TV) (t : Tau) (σ : Mem) : Array Value → State → Prop := fun a U => a = (as.map (cv g)).toArray ∧ okTs as ∧ KF g U ∧ Hld g t σ U.heap ∧ gO g ≤ U.heap.size ∧ (gB g = true → U.heap.size ≤ gO g + t.length)
def QcM (g : GE) (kc : Nat) (Q : Post) : Array Value → State → Outcome → State → Prop := fun _ st oc u =>
  ∃ (v : Option TV) (t : Tau) (σ : Mem), oc = .returned (v.map (cv g)) ∧ Q v t σ ∧ okO v ∧ Hld g t σ u.heap ∧ va_F (Ag g) st u ∧ (gB g = true → st.heap.size + kc ≤ gO g + t.length)
def rmD (d kc ks : Nat) : Room := { frames := d, cells := kc, slots := ks, locals := 64 * d }
def WPc (l : Launch) (g : GE) (e d kc ks : Nat) (as : List TV) (t : Tau) (σ : Mem) (Q : Post) : Prop :=
  Met l (mN e) (wsM e) (rmD d kc ks) (PcM g as t σ) (QcM g kc Q) kc ks (Ag g)
theorem PcM_blind (g : GE) (as : List TV) (t : Tau) (σ : Mem) : FrameBlind (PcM g as t σ) := by
  intro a U g' mk ⟨h1, h2, h3, h4, h5⟩
  exact ⟨h1, h2, h3.same rfl rfl, h4, h5⟩
/-! locals -/
def lget (i : Nat) : List (Nat × TV) → Option TV
  | [] => none
  | (j, v) :: r => if i = j then some v else lget i r
def lins (i : Nat) (v : TV) : List (Nat × TV) → List (Nat × TV)
  | [] => [(i, v)]
  | (j, w) :: r => if i < j then (i, v) :: (j, w) :: r else (j, w) :: lins i v r
def ldel (i : Nat) : List (Nat × TV) → List (Nat × TV)
  | [] => []
  | (j, w) :: r => if i = j ∨ (j + 1 = i ∧ catT w = 2) then ldel i r else (j, w) :: ldel i r
def ldel2 (i : Nat) : List (Nat × TV) → List (Nat × TV)
  | [] => []
  | (j, w) :: r => if i = j ∨ j = i + 1 ∨ (j + 1 = i ∧ catT w = 2) then ldel2 i r else (j, w) :: ldel2 i r
def lset (i : Nat) (v : TV) (ls : List (Nat × TV)) : List (Nat × TV) := lins i v (if catT v = 2 then ldel2 i ls else ldel i ls)
def lkeep (ks : List Nat) : List (Nat × TV) → List (Nat × TV)
  | [] => []
  | (j, w) :: r => if j ∈ ks then (j, w) :: lkeep ks r else lkeep ks r
theorem lget_mem {i : Nat} {v : TV} : ∀ {ls : List (Nat × TV)}, lget i ls = some v → (i, v) ∈ ls
  | [], h => by cases h
  | (j, w) :: r, h => by
    unfold lget at h
    split at h
    · rename_i hij
      cases h
      rw [hij]
      exact List.mem_cons_self
    · exact List.mem_cons_of_mem _ (lget_mem h)
theorem lins_mem {i : Nat} {v : TV} {q : Nat × TV} : ∀ {ls : List (Nat × TV)}, q ∈ lins i v ls → q = (i, v) ∨ q ∈ ls
  | [], h => by
    simp only [lins, List.mem_singleton] at h
    exact Or.inl h
  | (j, w) :: r, h => by
    unfold lins at h
    split at h
    · rcases List.mem_cons.mp h with h | h
      · exact Or.inl h
      · exact Or.inr h
    · rcases List.mem_cons.mp h with h | h
      · exact Or.inr (h ▸ List.mem_cons_self)
      · rcases lins_mem h with h | h
        · exact Or.inl h
        · exact Or.inr (List.mem_cons_of_mem _ h)
theorem ldel_mem {i : Nat} {q : Nat × TV} : ∀ {ls : List (Nat × TV)}, q ∈ ldel i ls → q ∈ ls ∧ q.1 ≠ i ∧ ¬ (q.1 + 1 = i ∧ catT q.2 = 2)
  | [], h => by cases h
  | (j, w) :: r, h => by
    unfold ldel at h
    split at h
    · exact ⟨List.mem_cons_of_mem _ (ldel_mem h).1, (ldel_mem h).2⟩
    · rename_i hc
      rcases List.mem_cons.mp h with h | h
      · subst h
        exact ⟨List.mem_cons_self, fun z => hc (Or.inl z.symm), fun z => hc (Or.inr z)⟩
      · exact ⟨List.mem_cons_of_mem _ (ldel_mem h).1, (ldel_mem h).2⟩
theorem ldel2_mem {i : Nat} {q : Nat × TV} : ∀ {ls : List (Nat × TV)}, q ∈ ldel2 i ls → q ∈ ls ∧ q.1 ≠ i ∧ q.1 ≠ i + 1 ∧ ¬ (q.1 + 1 = i ∧ catT q.2 = 2)
  | [], h => by cases h
  | (j, w) :: r, h => by
    unfold ldel2 at h
    split at h
    · exact ⟨List.mem_cons_of_mem _ (ldel2_mem h).1, (ldel2_mem h).2⟩
    · rename_i hc
      rcases List.mem_cons.mp h with h | h
      · subst h
        exact ⟨List.mem_cons_self, fun z => hc (Or.inl z.symm), fun z => hc (Or.inr (Or.inl z)), fun z => hc (Or.inr (Or.inr z))⟩
      · exact ⟨List.mem_cons_of_mem _ (ldel2_mem h).1, (ldel2_mem h).2⟩
theorem lkeep_mem {ks : List Nat} {q : Nat × TV} : ∀ {ls : List (Nat × TV)}, q ∈ lkeep ks ls → q ∈ ls
  | [], h => by cases h
  | (j, w) :: r, h => by
    unfold lkeep at h
    split at h
    · rcases List.mem_cons.mp h with h | h
      · exact h ▸ List.mem_cons_self
      · exact List.mem_cons_of_mem _ (lkeep_mem h)
    · exact List.mem_cons_of_mem _ (lkeep_mem h)
theorem lv_has_sub {ls : Array Slot} {n : Nat} {l l' : List (Nat × Value)} (h : lv_has ls n l) (hs : ∀ q ∈ l', q ∈ l) : lv_has ls n l' := ⟨h.1, h.2.1, fun q hq => h.2.2 q (hs q hq)⟩
theorem cvL_mem {g : GE} {ls : List (Nat × TV)} {i : Nat} {v : TV} (h : (i, v) ∈ ls) : (i, cv g v) ∈ cvL g ls := List.mem_map.mpr ⟨(i, v), h, rfl⟩
theorem lv_get {g : GE} {lsA : Array Slot} {n i : Nat} {ls : List (Nat × TV)} {v : TV} (h : lv_has lsA n (cvL g ls)) (hv : lget i ls = some v) : lsA[i]? = some (.val (cv g v)) := h.2.2 (i, cv g v) (cvL_mem (lget_mem hv))
/-- behind a store of a value of one slot -/
theorem lv_put1 {g : GE} {lsA : Array Slot} {n i : Nat} {ls : List (Nat × TV)} {v : TV} (hc : catT v = 1) (h : lv_has lsA n ((i, cv g v) :: (cvL g ls).filter (fun q => !(q.1 == i) && !(q.1 + 1 == i && q.2.category == 2)))) : lv_has lsA n (cvL g (lset i v ls)) := by
  refine lv_has_sub h fun q hq => ?_
  obtain ⟨r, hr, rfl⟩ := List.mem_map.mp hq
  unfold lset at hr
  rw [if_neg (by rw [hc]; decide)] at hr
  rcases lins_mem hr with h1 | h1
  · rw [h1]; exact List.mem_cons_self
  · obtain ⟨h2, h3, h4⟩ := ldel_mem h1
    refine List.mem_cons_of_mem _ (List.mem_filter.mpr ⟨List.mem_map.mpr ⟨r, h2, rfl⟩, ?_⟩)
    simp only [cv_cat, Bool.and_eq_true, Bool.not_eq_true', beq_eq_false_iff_ne, ne_eq, Bool.and_eq_false_iff]
    exact ⟨h3, by by_cases z : r.1 + 1 = i
                  · exact Or.inr (fun y => h4 ⟨z, y⟩)
                  · exact Or.inl z⟩
theorem lv_put2 {g : GE} {lsA : Array Slot} {n i : Nat} {ls : List (Nat × TV)} {v : TV} (hc : catT v = 2) (h : lv_has lsA n ((i, cv g v) :: (cvL g ls).filter (fun q => !(q.1 == i) && (!(q.1 == i + 1) && !(q.1 + 1 == i && q.2.category == 2))))) : lv_has lsA n (cvL g (lset i v ls)) := by
  refine lv_has_sub h fun q hq => ?_
  obtain ⟨r, hr, rfl⟩ := List.mem_map.mp hq
  unfold lset at hr
  rw [if_pos hc] at hr
  rcases lins_mem hr with h1 | h1
  · rw [h1]; exact List.mem_cons_self
  · obtain ⟨h2, h3, h5, h4⟩ := ldel2_mem h1
    refine List.mem_cons_of_mem _ (List.mem_filter.mpr ⟨List.mem_map.mpr ⟨r, h2, rfl⟩, ?_⟩)
    simp only [cv_cat, Bool.and_eq_true, Bool.not_eq_true', beq_eq_false_iff_ne, ne_eq, Bool.and_eq_false_iff]
    exact ⟨h3, h5, by by_cases z : r.1 + 1 = i
                      · exact Or.inr (fun y => h4 ⟨z, y⟩)
                      · exact Or.inl z⟩
theorem okLs_set {ls : List (Nat × TV)} {i : Nat} {v : TV} (h : okLs ls) (hv : okT v) : okLs (lset i v ls) := by
  intro q hq
  unfold lset at hq
  rcases lins_mem hq with h1 | h1
  · rw [h1]; exact hv
  · split at h1
    · exact h q (ldel2_mem h1).1
    · exact h q (ldel_mem h1).1
theorem okLs_get {ls : List (Nat × TV)} {i : Nat} {v : TV} (h : okLs ls) (hv : lget i ls = some v) : okT v := h (i, v) (lget_mem hv)
theorem okTs_cons {v : TV} {st : List TV} (hv : okT v) (h : okTs st) : okTs (v :: st) := fun q hq => by
  rcases List.mem_cons.mp hq with h1 | h1
  · rw [h1]; exact hv
  · exact h q h1
theorem okTs_tl {v : TV} {st : List TV} (h : okTs (v :: st)) : okTs st := fun q hq => h q (List.mem_cons_of_mem _ hq)
theorem okTs_hd {v : TV} {st : List TV} (h : okTs (v :: st)) : okT v := h v List.mem_cons_self
