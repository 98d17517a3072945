def R_law : String := "StruckColoursLaw"
def lw_P (b : Addr) (xs : List Int32) (args : Array Value) (s : State) : Prop := args = #[.ref b] ∧ s.IntsAt b xs ∧ xs.length ≤ 2560 ∧ (Jvm.Cond.and given_1 narrow_1).before args s = true
def lw_Q (_ : Array Value) (s : State) (o : Outcome) (t : State) : Prop := o = .returned (some (.int 1)) ∧ Framed s o t [] 601024 7293034
def lw_Z (below : List Frame) (a : Array Value) (s : State) : State → Prop := fun t => ∃ o, t.status = .running ∧ Ended t below o ∧ lw_Q a s o t
theorem lw_ret {p : Program} {l : Launch} {e : Env} {s : State} {m : MethodId} {below : List Frame} {meth : Method} {c : Code} {b : Nat} (hx : p.tables.exec = Jvm.exec) (hb : c.code = code) (hr : meth.sig.returnType = ret) (hlocks : meth.locks = false) {pc : Nat} {H : Heap} {ls : Array Slot} (hdg : decode code pc = .ok (.ireturn, 1)) : W p l e room_1 s m #[Value.ref b] below meth c H [] 601024 7293034 (lw_Z below #[Value.ref b] s) (F0 m pc ls [.int 1]) := by
  intro T hT X
  obtain ⟨fs, hret, hrun, hended, hW, hframe⟩ := X.leave (v := some (.int 1)) (hlocks := hlocks) (fun h => by rw [hr] at h; cases h)
  have hmeth' : T.vm.method? m = some meth := X.method'
  refine ⟨T.setFrames fs, ?_, .returned (some (.int 1)), hrun, hended, rfl, ⟨_, rfl⟩, hW, hframe⟩
  jvm_step X.here [X.here.top, hx, hb, hdg, hmeth', hr, ret, narrow_b1]
  (try refine ⟨rfl, ?_⟩); (try refine ⟨rfl, ?_⟩)
  first | (intro acts; rw [hret _ acts rfl rfl rfl]) | rw [hret _ _ rfl rfl rfl]
  exact Steps.refl _
def lw_At (p : Program) (s : State) (m : MethodId) (meth : Method) (c : Code) (b L : Nat) (xs : Nat → Int32) : Prop :=
  p.tables.exec = Jvm.exec ∧ c.code = code ∧ meth.sig.returnType = ret ∧ c.maxLocals = 8 ∧ s.vm.findClass R_law = some m.cls ∧ (∀ w ∈ lw_tbl, w.before #[Value.ref b] s = true) ∧ va_X b L xs s s.heap ∧ b < s.heap.size ∧ meth.locks = false ∧ (Jvm.Cond.and given_1 narrow_1).before #[Value.ref b] s = true ∧ meth.name = "law"
/-! what holds at the start -/
theorem ar_p {s : State} {args : Array Value} {ty : FieldType} (h : (Cond.arrayClass ty).before args s = true) : ∃ c, s.vm.findClass ("[" ++ ty.toString) = some c ∧ ArrOfT s c ty := by
  obtain ⟨c, k, comp, h1, h2, h3⟩ := Cond.arrayClass_spec h
  exact ⟨c, h1, fun N z => ⟨(fun k h => by cases h), k, h2, comp, h3⟩⟩
theorem ar_o {s : State} {args : Array Value} {n : String} (h : (Cond.arrayOver (.object n)).before args s = true) : ∃ c, ArrOfT s c (.object n) ∧ va_RA s c (.object n) := by
  obtain ⟨comp, c, k, h1, -, h2, h3, h4⟩ := Cond.arrayOver_spec h
  exact ⟨c, fun N z => ⟨(fun k h => by cases h), k, h2, comp, h3⟩, k, comp, h2, h3, h1, h4⟩
theorem st_a {args : Array Value} {s : State} {n d : String} {ty : FieldType} {N : Nat} {L : List Int} {A : Nat → Prop} (hN : N < 2 ^ 31) (harr : (Cond.arrayOf (.static "StruckColours" n d) ty).before args s = true) (hlen : (Cond.eq (.length (.static "StruckColours" n d)) (.int (Int32.ofNat N))).before args s = true) (hel : ∀ j : Nat, j < N → (Cond.eq (.elem (.static "StruckColours" n d) (.int (Int32.ofNat j))) (.int (Int32.ofInt (L.getD j 0)))).before args s = true) (hl : (Cond.laysStatic "StruckColours" n d).before args s = true) (hini : (Cond.initialized "StruckColours").before args s = true) (hA : ∀ a : Nat, a < s.heap.size → ¬ A a) : ∃ t : Nat, va_T ty t N (fun j => .int (Int32.ofInt (L.getD j 0))) A s s.heap ∧ va_Z "StruckColours" n d (.ref t) A s s.heap := by
  obtain ⟨t, h1, h2⟩ := va_Tof hN harr (va_eqt hlen) (fun j hj => va_eqt (hel j hj)) hA
  exact ⟨t, h2, va_Zref hl hini h1 hA⟩
theorem cl_i : ∀ q ∈ vwCl, Cond.instantiable q.1 q.2.2 ∈ lw_tbl := by decide +kernel
abbrev gN : Cond := Jvm.Cond.and given_1 narrow_1
theorem mem2 : ∀ j, j < 7 → Cond.eq (.elem (.static "StruckColours" "PLAIN_RULE" "[C") (.int (Int32.ofNat j))) (.int (Int32.ofInt ((stL 2).getD j 0))) ∈ flatC gN := by decide +kernel
theorem mem3 : ∀ j, j < 7 → Cond.eq (.elem (.static "StruckColours" "FACTORIALS" "[I") (.int (Int32.ofNat j))) (.int (Int32.ofInt ((stL 3).getD j 0))) ∈ flatC gN := by decide +kernel
theorem mem4 : ∀ j, j < 31 → Cond.eq (.elem (.static "StruckColours" "COLD" "[I") (.int (Int32.ofNat j))) (.int (Int32.ofInt ((stL 4).getD j 0))) ∈ flatC gN := by decide +kernel
theorem memA : Cond.arrayOf (.static "StruckColours" "PLAIN_RULE" "[C") .char ∈ flatC gN ∧ Cond.arrayOf (.static "StruckColours" "FACTORIALS" "[I") .int ∈ flatC gN ∧ Cond.arrayOf (.static "StruckColours" "COLD" "[I") .int ∈ flatC gN := by decide +kernel
theorem memL : Cond.eq (.length (.static "StruckColours" "PLAIN_RULE" "[C")) (.int (Int32.ofNat 7)) ∈ flatC gN ∧ Cond.eq (.length (.static "StruckColours" "FACTORIALS" "[I")) (.int (Int32.ofNat 7)) ∈ flatC gN ∧ Cond.eq (.length (.static "StruckColours" "COLD" "[I")) (.int (Int32.ofNat 31)) ∈ flatC gN := by decide +kernel
theorem memR : Cond.isRef (.static Bundle.tN "UNASSIGNED_STACK" Bundle.steD) ∈ flatC gN ∧ Cond.isRef (.static Bundle.tN "SUPPRESSED_SENTINEL" Bundle.listD) ∈ flatC gN := by decide +kernel
theorem tbS : Cond.laysStatic "StruckColours" "PLAIN_RULE" "[C" ∈ lw_tbl ∧ Cond.laysStatic "StruckColours" "FACTORIALS" "[I" ∈ lw_tbl ∧ Cond.laysStatic "StruckColours" "COLD" "[I" ∈ lw_tbl ∧ Cond.initialized "StruckColours" ∈ lw_tbl := by decide +kernel
theorem tbT : Cond.laysStatic Bundle.tN "UNASSIGNED_STACK" Bundle.steD ∈ lw_tbl ∧ Cond.laysStatic Bundle.tN "SUPPRESSED_SENTINEL" Bundle.listD ∈ lw_tbl ∧ Cond.initialized Bundle.tN ∈ lw_tbl := by decide +kernel
theorem tbR : Cond.stringRef "StruckColours" 133 "no such ship, or nothing such of her" ∈ lw_tbl ∧ Cond.stringRef "StruckColours" 348 "no such number of the row" ∈ lw_tbl := by decide +kernel
theorem tbA : Cond.arrayClass .int ∈ lw_tbl ∧ Cond.arrayClass .long ∈ lw_tbl ∧ Cond.arrayClass .byte ∈ lw_tbl ∧ Cond.arrayClass .boolean ∈ lw_tbl ∧ Cond.arrayClass .char ∈ lw_tbl ∧ Cond.arrayOver (.object "StruckColours$Sea") ∈ lw_tbl := by decide +kernel
theorem stL_b (i j : Nat) : b32 ((stL i).getD j 0) := by
  have h : ∀ x ∈ stL i, b32 x := by
    unfold stL
    split
    · unfold b32; decide
    · split
      · unfold b32; decide
      · unfold b32; decide
  show b32 (((stL i)[j]?).getD 0)
  cases hq : (stL i)[j]? with
  | none => show b32 0; unfold b32; omega
  | some x => exact h x (List.mem_of_getElem? hq)
theorem kf_of {p : Program} {s : State} {m : MethodId} {meth : Method} {c : Code} {b L : Nat} {xs : Nat → Int32} (hL : L ≤ 2560) (C0 : lw_At p s m meth c b L xs) : ∃ x : Nat × va_G × (Nat → ClassId) × (Nat → Nat) × Nat × (Nat → Int), x.1 = s.heap.size ∧ x.2.2.2.1 5 = b ∧ x.2.2.2.2.1 = L ∧ KF (true, x) s := by
  obtain ⟨hx, hb, hr, hml, hown, hts, hX, hbl, hlocks, hgv, hnm⟩ := C0
  have hg : ∀ w ∈ flatC gN, w.before #[Value.ref b] s = true := flat_of_before _ hgv
  have hA : ∀ a : Nat, a < s.heap.size → ¬ (fun q : Nat => s.heap.size ≤ q) a := fun a h => Nat.not_le.mpr h
  have hALL : ∀ w ∈ ALL, w.before #[Value.ref b] s = true := fun w hw => hts w (List.mem_filter.mp hw).1
  have hcl : ∀ k : Nat, ∃ cC : ClassId, ∃ iS : Nat → Nat, ∀ q : vw_C, vwCl[k]? = some q → u_Kn s q.1 q.2.1 q.2.2 cC iS := by
    intro k
    cases hq : vwCl[k]? with
    | none => exact ⟨m.cls, fun _ => 0, fun q h => by cases h⟩
    | some q =>
      obtain ⟨a1, a2, h⟩ := u_known (C := q.1) (T := q.2.1) (N := q.2.2) (n := q.2.2) hALL (clsOk hq).1 (hts _ (cl_i q (List.mem_of_getElem? hq)))
      exact ⟨a1, a2, fun q' h' => by cases h'; exact h⟩
  obtain ⟨dC, hdC⟩ := Classical.axiomOfChoice hcl
  obtain ⟨dI, hdI⟩ := Classical.axiomOfChoice hdC
  obtain ⟨c0, k0, r0⟩ := ar_p (hts _ tbA.1)
  obtain ⟨c1, k1, r1⟩ := ar_p (hts _ tbA.2.1)
  obtain ⟨c2, k2, r2⟩ := ar_p (hts _ tbA.2.2.1)
  obtain ⟨c3, k3, r3⟩ := ar_p (hts _ tbA.2.2.2.1)
  obtain ⟨c4, k4, r4⟩ := ar_p (hts _ tbA.2.2.2.2.1)
  obtain ⟨c5, r5, k5⟩ := ar_o (hts _ tbA.2.2.2.2.2)
  obtain ⟨t2, T2, Z2⟩ := st_a (L := stL 2) (A := fun q : Nat => s.heap.size ≤ q) (by decide) (hg _ memA.1) (hg _ memL.1) (fun j hj => hg _ (mem2 j hj)) (hts _ tbS.1) (hts _ tbS.2.2.2) hA
  obtain ⟨t3, T3, Z3⟩ := st_a (L := stL 3) (A := fun q : Nat => s.heap.size ≤ q) (by decide) (hg _ memA.2.1) (hg _ memL.2.1) (fun j hj => hg _ (mem3 j hj)) (hts _ tbS.2.1) (hts _ tbS.2.2.2) hA
  obtain ⟨t4, T4, Z4⟩ := st_a (L := stL 4) (A := fun q : Nat => s.heap.size ≤ q) (by decide) (hg _ memA.2.2) (hg _ memL.2.2) (fun j hj => hg _ (mem4 j hj)) (hts _ tbS.2.2.1) (hts _ tbS.2.2.2) hA
  have hsc : s.vm.findClass "StruckColours" = some (dC 8) := (hdI 8 (RX8, TX8, 17) rfl).2.1
  have hs1 : ∃ a, vk_R "StruckColours" 133 "no such ship, or nothing such of her" a s := by
    obtain ⟨_, _, _, a, -, -, -, -, -, he⟩ := Cond.stringRef_spec hsc (hts _ tbR.1)
    exact ⟨a, vk_R.of (hts _ tbR.1) he⟩
  have hs2 : ∃ a, vk_R "StruckColours" 348 "no such number of the row" a s := by
    obtain ⟨_, _, _, a, -, -, -, -, -, he⟩ := Cond.stringRef_spec hsc (hts _ tbR.2)
    exact ⟨a, vk_R.of (hts _ tbR.2) he⟩
  have hKX : KX (fun q : Nat => s.heap.size ≤ q) s := ⟨vx_Zqof (hts _ tbT.1) (hts _ tbT.2.2) (hg _ memR.1) hA, vx_Zqof (hts _ tbT.2.1) (hts _ tbT.2.2) (hg _ memR.2) hA, hs1, hs2, fun w hw => va_Nw.of (dc_tab (List.mem_filter.mp hw).2) (hts w (List.mem_append_right _ (List.mem_filter.mp hw).1))⟩
  refine ⟨(s.heap.size, (dC, dI), fun k => if k = 0 then c0 else if k = 1 then c1 else if k = 2 then c2 else if k = 3 then c3 else if k = 4 then c4 else c5, fun k => if k = 2 then t2 else if k = 3 then t3 else if k = 4 then t4 else b, L, fun j => (xs j).toInt), rfl, rfl, rfl, ⟨fun k q hq => hdI k q hq, fun k q hq => ?_⟩, fun w hw => va_Nw.of (nest_tab (List.mem_filter.mp hw).2) (hts w (List.mem_append_right _ (List.mem_filter.mp hw).1)), ⟨va_AO.of (hts _ tbA.2.2.2.2.2), hKX⟩, fun i h1 h2 => ?_, fun i h1 h2 => ?_, fun i j => ?_, by show L < 2147483648; omega⟩
  · match k, hq with
    | 0, hq => cases hq; exact ⟨r0, k0⟩
    | 1, hq => cases hq; exact ⟨r1, k1⟩
    | 2, hq => cases hq; exact ⟨r2, k2⟩
    | 3, hq => cases hq; exact ⟨r3, k3⟩
    | 4, hq => cases hq; exact ⟨r4, k4⟩
    | 5, hq => cases hq; exact ⟨r5, k5⟩
    | k + 6, hq => cases hq
  · rcases (show i = 2 ∨ i = 3 ∨ i = 4 ∨ i = 5 by omega) with rfl | rfl | rfl | rfl
    · exact T2
    · exact T3
    · exact T4
    · obtain ⟨scr, x1, x2, x3, x4, x5⟩ := hX
      refine ⟨scr, x1, x2, x3, Nat.le_of_eq x4.symm, by rw [x4]; rfl, fun j hj => ?_, Nat.not_le.mpr hbl⟩
      show scr.slots[j]? = some (.int (Int32.ofInt (xs j).toInt))
      rw [Int32.ofInt_toInt]
      exact x5 j hj
  · rcases (show i = 2 ∨ i = 3 ∨ i = 4 by omega) with rfl | rfl | rfl
    · exact Z2
    · exact Z3
    · exact Z4
  · show b32 (if i = 5 then (xs j).toInt else (stL i).getD j 0)
    split
    · exact toI_b _
    · exact stL_b i j
theorem whole_start {p : Program} {e : Env} {s : State} {m : MethodId} {below : List Frame} {meth : Method} {c : Code} (l : Launch) (hl : l.stackTraces = false) {b L : Nat} {xs : Nat → Int32} (hL : L ≤ 2560) (C0 : lw_At p s m meth c b L xs) : W p l e room_1 s m #[Value.ref b] below meth c s.heap [] 0 0 (lw_Z below #[Value.ref b] s) (entryFrame m ([Value.ref b] : List Value).toArray 8) := by
  obtain ⟨x, xO, xS, xL, hKF⟩ := kf_of hL C0
  obtain ⟨hx, hb, hr, hml, hown, hts, hX, hbl, hlocks, hgv, hnm⟩ := C0
  have hle := lv_entry ([.ref b]) (n := 8) (Nat.le_of_ble_eq_true rfl)
  rw [lg_entry_eq]
  generalize (lg_sl ([.ref b]) ++ List.replicate (8 - (lg_sl ([.ref b])).length) Slot.unset).toArray = ls at hle ⊢
  have hl8 : lv_has ls (mL 292) (cvL (true, x) [(0, vR (-5))]) := by
    have e : cvL (true, x) [(0, vR (-5))] = [(0, .ref b)] := by
      show [(0, Value.ref (x.2.2.2.1 5))] = _
      rw [xS]
    rw [e]
    exact hle
  have CX : CxF (true, x) 292 p s m #[Value.ref b] meth c := ⟨hx, hb, hr, hml, hown, fun w hw => hts w (List.mem_filter.mp hw).1, hlocks, hnm, hKF⟩
  have hs : ∀ j, b32 (gX (false, x) j) := fun j => hKF.2.2.2.2.2.1 5 j
  have A := l_pre (l := l) (g := (true, x)) (d := 100) (σ := fun _ _ => 0) (Q := fun p' _ R' s' _ args' below' meth' c' QM' tc ts => (tc ≤ 601024 ∧ ts ≤ 7293034) ∧ R' = room_1 ∧ args' = #[Value.ref b] ∧ QM' = lw_Z below' #[Value.ref b] s' ∧ (p'.tables.exec = Jvm.exec ∧ c'.code = code ∧ meth'.sig.returnType = ret ∧ meth'.locks = false) ∧ s'.heap.size ≤ x.1) rfl (by
    intro σ' hI p en R s m args below meth c H locs cells slots QM lsA hC h1 h2 h3 h4 hH hS hZ hls hol hos hK
    have B := l_loop (l := l) (g := (false, x)) (d := 100) (t := mTau) (Q := fun v _ _ => v = some (vI 1)) rfl hl (by show x.2.2.2.2.1 ≤ 2560; omega) mT_C mT_M mT_o hs (fun _ => rfl) 512 0 600000 7000000 σ' (by show x.2.2.2.2.1 ≤ 5 * (0 + 512); omega) (by omega) (by omega) (by omega) hI
    refine B p en R s m args below meth c H locs cells slots QM lsA hC h1 h2 h3 h4 hH hS ⟨hZ.1, fun z => by cases z⟩ hls hol hos ?_
    intro v t2 σ2 H2 locs2 cells2 slots2 lsA2 pc2 i2 hQ hok hH2 hS2 hc hs2 hT hd hro
    obtain ⟨⟨q1, q2⟩, rfl, rfl, rfl, ⟨q6, q7, q8, q9⟩, q10⟩ := hK
    have hQ' : v = some (vI 1) := hQ
    subst hQ'
    have hro' : i2 = .ireturn ∧ ((1 : Int) = 0 ∨ (1 : Int) = 1) := hro
    obtain ⟨rfl, -⟩ := hro'
    refine va_forget (fun q hq => Nat.le_trans q10 (hS2.2.2 q hq)) (W.widen (k := 601024) (n := 7293034) (by omega) (by omega) ?_)
    exact lw_ret q6 q7 q8 q9 hd)
  exact A p e room_1 s m #[Value.ref b] below meth c s.heap [] 0 0 _ ls CX (by decide) (by decide) (by decide) (by decide) ⟨fun k q h => (by cases h), fun k sh h => (by cases h), by show x.1 + 0 ≤ s.heap.size; omega⟩ va_S.rf ⟨by show x.1 ≤ s.heap.size; omega, fun _ => by show s.heap.size + 0 ≤ x.1 + 0; omega⟩ hl8 (fun q hq => by rw [List.mem_singleton.mp hq]; trivial) (fun q hq => by cases hq) ⟨⟨by omega, by omega⟩, rfl, rfl, rfl, ⟨hx, hb, hr, hlocks⟩, by omega⟩
