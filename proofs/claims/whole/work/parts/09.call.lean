/-! returns, entries, calls -/
theorem map_toList (g : GE) (v : Option TV) (st : List TV) : (v.map (cv g)).toList ++ st.map (cv g) = (v.toList ++ st).map (cv g) := by
  cases v <;> simp
def largs : Nat → List TV → List (Nat × TV)
  | _, [] => []
  | i, v :: vs => (i, v) :: largs (i + catT v) vs
theorem largs_cv (g : GE) : ∀ (as : List TV) (i : Nat), lv_args i (as.map (cv g)) = cvL g (largs i as)
  | [], _ => rfl
  | v :: vs, i => by
    show (i, cv g v) :: lv_args (if (cv g v).category = 2 then i + 2 else i + 1) (vs.map (cv g)) = (i, cv g v) :: cvL g (largs (i + catT v) vs)
    rw [cv_cat]
    have : (if catT v = 2 then i + 2 else i + 1) = i + catT v := by
      match v with
      | .inl _ => rfl
      | .inr (.inl _) => rfl
      | .inr (.inr _) => rfl
    rw [this, largs_cv g vs]
theorem largs_ok : ∀ (as : List TV) (i : Nat), okTs as → okLs (largs i as)
  | [], _, _ => fun q hq => by cases hq
  | v :: vs, i, h => fun q hq => by
    rcases List.mem_cons.mp hq with h1 | h1
    · rw [h1]; exact okTs_hd h
    · exact largs_ok vs _ (okTs_tl h) q h1
theorem lg_len (g : GE) : ∀ as : List TV, (lg_sl (as.map (cv g))).length = (as.map catT).sum
  | [] => rfl
  | v :: vs => by
    have ih := lg_len g vs
    unfold lg_sl at ih ⊢
    rw [List.map_cons, List.flatMap_cons, List.length_append, ih, List.map_cons, List.sum_cons, cv_cat]
    congr 1
    match v with
    | .inl _ => rfl
    | .inr (.inl _) => rfl
    | .inr (.inr _) => rfl
section CAL
variable {l : Launch} {g : GE} {e d kc ks pc : Nat} {ls : List (Nat × TV)} {st : List TV} {t : Tau} {σ : Mem} {Q : Post}
theorem r_ret {i : Instr} {v : Option TV} (hst : st = v.toList) (hd : decode (mC e) pc = .ok (i, 1)) (hro : rOK e i v) (hk : kc = 0 ∨ gB g = false) (hQ : Q v t σ) : Wp l g e d kc ks pc ls st t σ Q := by
  intro p en R s m args below meth c H locs cells slots QM lsA hC h1 h2 h3 h4 hH hS hZ hls hol hos hr
  subst hst
  refine hr v t σ H locs cells slots lsA pc i hQ (fun x hx => hos x (by rw [hx]; exact List.mem_singleton.mpr rfl)) hH hS (by omega) (by omega) (fun z => ?_) hd hro
  rcases hk with hk | hk
  · have := hZ.2 z; omega
  · rw [hk] at z; cases z
theorem narrow_z {x : Int} (h : x = 0 ∨ x = 1) : narrow .boolean (.int (Int32.ofInt x)) = .int (Int32.ofInt x) := by
  rcases h with rfl | rfl
  · show Value.int (Int32.ofInt 0 &&& 1) = Value.int (Int32.ofInt 0); decide +kernel
  · show Value.int (Int32.ofInt 1 &&& 1) = Value.int (Int32.ofInt 1); decide +kernel
theorem narrow_c {x : Int} (h0 : 0 ≤ x) (h1 : x < 65536) : narrow .char (.int (Int32.ofInt x)) = .int (Int32.ofInt x) := by
  show Value.int (Int32.ofInt x).toUInt32.toUInt16.toUInt32.toInt32 = _
  congr 1
  obtain ⟨n, rfl⟩ := Int.eq_ofNat_of_zero_le h0
  have hn : n < 65536 := by omega
  rw [Int32.ofInt_eq_ofNat]
  have h2 : (Int32.ofNat n).toUInt32 = UInt32.ofNat n := rfl
  rw [h2]
  have h3 : (UInt32.ofNat n).toUInt16.toUInt32 = UInt32.ofNat n := by
    apply UInt32.toNat_inj.mp
    simp only [UInt16.toNat_toUInt32, UInt32.toNat_toUInt16, UInt32.toNat_ofNat']
    omega
  rw [h3]
  rfl
theorem wp_in {as : List TV} (hy : plainName (mN e).cls = true) (hl : (as.map catT).sum ≤ mL e) (k : Wp l g e d kc ks 0 (largs 0 as) [] t σ Q) : WPc l g e d kc ks as t σ Q := by
  refine Met.ofW (cc := mC e) (maxL := mL e) (ret := mR e) hy rfl ?_
  intro p en s m args below meth c s₁ B hml hv
  obtain ⟨rfl, hok, hKF, hH, hO, hT⟩ := hv
  have hle := lv_entry (as.map (cv g)) (n := mL e) (by rw [lg_len]; exact hl)
  rw [lg_entry_eq]
  generalize (lg_sl (as.map (cv g)) ++ List.replicate (mL e - (lg_sl (as.map (cv g))).length) Slot.unset).toArray = lsA at hle ⊢
  rw [largs_cv] at hle
  have hrt : meth.sig.returnType = mR e := B.returns
  have hlocks := B.notSynchronized
  have hx := B.exec
  have hb : c.code = mC e := B.bytes
  refine k p en (rmD d kc ks) s m _ below meth c s.heap [] 0 0 _ lsA ⟨hx, hb, hrt, hml, findClass_of_methodNamed B.named, fun w hw => atoms_spec (ws := wsM e) B.pre w (List.mem_cons_of_mem _ hw), hlocks, (name_of_methodNamed B.named B.method).1, hKF⟩ (Nat.le_refl _) (Nat.le_refl _) (by show 0 + kc ≤ kc; omega) (by show 0 + ks ≤ ks; omega) hH va_S.rf ⟨hO, fun z => by have := hT z; omega⟩ hle (largs_ok as 0 hok) (fun q hq => by cases hq) ?_
  intro v t' σ' H locs cells slots lsA' pc' i hQ hok' hH' hS' hc hs hT' hd hro
  refine W.widen (k := kc) (n := ks) (by omega) (by omega) ?_
  have hq : ∀ (ov : Option Value), ov = v.map (cv g) → ∀ u : State, u.heap = H → s.WarmedH u.vm → QcM g kc Q ((as.map (cv g)).toArray) s (.returned ov) u := fun ov ho u hu _ => ⟨v, t', σ', by rw [ho], hQ, hok', by rw [hu]; exact hH', hS'.F hu, fun z => by have := hT' z; omega⟩
  unfold rOK at hro
  split at hro
  · rename_i h
    subst hro
    exact W.vret hx hb (hrt.trans h) (hq none rfl) hS'.2.2 hd
  · rename_i y h
    subst hro
    exact W.iret hx hb (hrt.trans h) (hq _ rfl) hS'.2.2 hd
  · rename_i y h
    obtain ⟨rfl, hy⟩ := hro
    exact W.zret hx hb (hrt.trans h) (narrow_z hy) (hq _ rfl) hS'.2.2 hd
  · rename_i y h
    obtain ⟨rfl, hy0, hy1⟩ := hro
    exact W.zret hx hb (hrt.trans h) (narrow_c hy0 hy1) (hq _ rfl) hS'.2.2 hd
  · rename_i y h
    subst hro
    exact W.lret hx hb (hrt.trans h) (hq _ rfl) hS'.2.2 hd
  · rename_i n y h
    subst hro
    refine W.aret hx hb (hrt.trans h) (Or.inl ⟨_, rfl⟩) ?_ (hq _ rfl) hS'.2.2 hd
    rcases rf_cases g y with ⟨-, h⟩ | ⟨-, a, h⟩
    · exact Or.inl h
    · exact Or.inr ⟨a, h⟩
  · cases hro
theorem wcall {p : Program} {en : Env} {R : Room} {s : State} {m : MethodId} {args a : Array Value} {below : List Frame} {meth : Method} {c : Code} {H : Heap} {locs : List Loc} {cells slots mc ms : Nat} {QM : State → Prop} {lsA : Array Slot} {st0 rest : List Value} {Q' : Post}
    (hr : va_Run p l en R s m args below meth c H locs cells slots mc ms (F0 m pc lsA st0) rest (QcM g mc Q' a) (Ag g)) (hS : va_S (Ag g) s.heap H locs)
    (kk : ∀ (v : Option TV) (t' : Tau) (σ' : Mem) (H1 : Heap) (locs1 : List Loc), Q' v t' σ' → okO v → Hld g t' σ' H1 → va_S (Ag g) s.heap H1 locs1 → (gB g = true → H.size + mc ≤ gO g + t'.length) →
      W p l en R s m args below meth c H1 locs1 (cells + mc) (slots + ms) QM (F0 m (pc + 3) lsA ((v.map (cv g)).toList ++ rest))) : W p l en R s m args below meth c H locs cells slots QM (F0 m pc lsA st0) := by
  intro T hT X
  obtain ⟨v, st₀, u, T', L, h0, X', hL, e1, e2, ⟨v', t', σ', hv, hQ, hok, hH, ⟨hz, hk⟩, hG⟩, stp⟩ := hr T hT X
  have hv' : v = v'.map (cv g) := Outcome.returned.inj hv
  subst hv'
  rw [h0] at hz hk hG
  obtain ⟨t2, a1, b1⟩ := kk v' t' σ' T'.heap (locs ++ L) hQ hok (by rw [e1]; exact hH)
    ⟨Nat.le_trans hS.1 (by rw [e1]; exact hz), fun q h1 h2 => by rw [e1, hk q (Nat.lt_of_lt_of_le h1 hS.1) h2]; exact hS.2.1 q h1 h2, fun q hq => by
      rcases List.mem_append.mp hq with h | h
      · exact hS.2.2 q h
      · exact hL q h⟩ hG T' rfl X'
  exact ⟨t2, stp t2 a1, b1⟩
/-- the words of a call: 0 virtual, 1 virtual of a nest mate, 2 static, 3 static of a nest mate, 4 constructor, 5 of a nest mate -/
def callOk (kind : Nat) (own : String) (idx e' n : Nat) : Bool :=
  decide ((mN e').cls ≠ "java/lang/invoke/MethodHandle") && decide ((mN e').cls ≠ "java/lang/invoke/VarHandle") && decide ((parseMethodDescriptor (mN e').desc).map (fun d => d.parameters.length) = some n) && decide (mL e' ≤ 45) &&
  inALL [Cond.code (mN e') (mC e') (mL e') (mR e'), Cond.initialized (mN e').cls] &&
  (if kind = 0 ∨ kind = 1 then inALL [Cond.instanceMethod (mN e'), Cond.selects (mN e').cls (mN e') (mN e')] else if kind = 2 ∨ kind = 3 then inALL [Cond.static (mN e')] else inALL [Cond.instanceMethod (mN e')] && decide ((mN e').name = "<init>") && decide (mR e' = none)) &&
  (if kind % 2 = 0 then inALL [Cond.methodLink own idx (mN e')] else decide (Cond.methodLinkNest own idx (mN e') "StruckColours" ∈ tables_1))
theorem GoodAll {e' e : Nat} (h : Cond.code (mN e') (mC e') (mL e') (mR e') ∈ ALL) : GoodIn ALL (wsM e') := by
  intro w hw
  rcases List.mem_cons.mp hw with h1 | h1
  · rw [h1]; exact ⟨h, good_of_word (List.mem_filter.mp h).2⟩
  · exact ⟨h1, good_of_word (List.mem_filter.mp h1).2⟩
theorem m1 {a : Cond} {ws : List Cond} : a ∈ a :: ws := List.mem_cons_self
theorem m2 {a b : Cond} {ws : List Cond} : a ∈ b :: a :: ws := List.mem_cons_of_mem _ List.mem_cons_self
/-- behind any call -/
theorem r_call {mc ms : Nat} {as : List TV} {p : Program} {en : Env} {R : Room} {s : State} {m : MethodId} {args : Array Value} {below : List Frame} {meth : Method} {c : Code} {H : Heap} {locs : List Loc} {cells slots : Nat} {QM : State → Prop} {lsA : Array Slot} {st0 : List Value} {Q' : Post}
    (hmc : mc ≤ kc) (hms : ms ≤ ks) (hQ' : ∀ v t' σ', Q' v t' σ' → Wp l g e d (kc - mc) (ks - ms) (pc + 3) ls (v.toList ++ st) t' σ' Q)
    (hC : CxF g e p s m args meth c) (h1 : d ≤ R.frames) (h2 : 64 * d ≤ R.locals) (h3 : cells + kc ≤ R.cells) (h4 : slots + ks ≤ R.slots) (hH : Hld g t σ H) (hS : va_S (Ag g) s.heap H locs) (hZ : gO g ≤ s.heap.size ∧ (gB g = true → s.heap.size + cells ≤ gO g + t.length)) (hls : lv_has lsA (mL e) (cvL g ls)) (hol : okLs ls) (hos : okTs st) (hr : RetK l g e Q (cells + kc) (slots + ks) p en R s m args below meth c QM)
    (hrun : va_Run p l en R s m args below meth c H locs cells slots mc ms (F0 m pc lsA st0) (st.map (cv g)) (QcM g mc Q' ((as.map (cv g)).toArray)) (Ag g)) : W p l en R s m args below meth c H locs cells slots QM (F0 m pc lsA st0) := by
  refine wcall hrun hS fun v t' σ' H1 locs1 q1 q2 q3 q4 q5 => ?_
  rw [map_toList]
  refine hQ' v t' σ' q1 p en R s m args below meth c H1 locs1 (cells + mc) (slots + ms) QM lsA hC h1 h2 (by omega) (by omega) q3 q4 ⟨hZ.1, fun z => ?_⟩ hls hol ?_ ?_
  · have a := hZ.2 z
    have b := q5 z
    have c := hH.2.2
    omega
  · intro x hx
    rcases List.mem_append.mp hx with h | h
    · cases v with
      | none => cases h
      | some y => rw [List.mem_singleton.mp h]; exact q2 y rfl
    · exact hos x h
  · rw [show cells + mc + (kc - mc) = cells + kc by omega, show slots + ms + (ks - ms) = slots + ks by omega]
    exact hr
theorem pc_in {as : List TV} {s U : State} {m : MethodId} {p : Program} {args : Array Value} {meth : Method} {c : Code} {H : Heap} {locs : List Loc} {cells : Nat} (hC : CxF g e p s m args meth c) (hH : Hld g t σ H) (hS : va_S (Ag g) s.heap H locs) (hZ : gO g ≤ s.heap.size ∧ (gB g = true → s.heap.size + cells ≤ gO g + t.length)) (hsz : H.size ≤ s.heap.size + cells) (hoa : okTs as) (hU : U.heap = H) (hW : s.WarmedH U.vm) : PcM g as t σ ((as.map (cv g)).toArray) U := by
  refine ⟨rfl, hoa, hC.2.2.2.2.2.2.2.2.go hW (by rw [hU]; exact hS), by rw [hU]; exact hH, by rw [hU]; exact Nat.le_trans hZ.1 hS.1, fun z => ?_⟩
  have := hZ.2 z
  rw [hU]; omega
theorem r_callV {kind idx e' n mc ms ci : Nat} {as : List TV} {x : Int} {q : vw_C} (hkd : kind = 0 ∨ kind = 1) (hq : vwCl[ci]? = some q) (hqc : q.1 = (mN e').cls) (hO : isO t x ci) (hk : callOk kind (mN e).cls idx e' n = true) (hn : as.length = n) (hst : (st.map catT).sum ≤ 8) (hmc : mc ≤ kc) (hms : ms ≤ ks) (hd : decode (mC e) pc = .ok (.invokevirtual idx, 3))
    (kk : WPc l g e' d mc ms (vR x :: as) t σ (fun v t' σ' => Wp l g e (d + 1) (kc - mc) (ks - ms) (pc + 3) ls (v.toList ++ st) t' σ' Q)) : Wp l g e (d + 1) kc ks pc ls (as.reverse ++ vR x :: st) t σ Q := by
  intro p en R s m args below meth c H locs cells slots QM lsA hC h1 h2 h3 h4 hH hS hZ hls hol hos hr T hT X
  obtain ⟨hx, fin, hs⟩ := hO
  have hsz : H.size ≤ s.heap.size + cells := by rw [← hT]; exact X.same.2.2.1
  unfold callOk at hk
  simp only [Bool.and_eq_true, decide_eq_true_eq, ne_eq] at hk
  obtain ⟨⟨⟨⟨⟨⟨k1, k2⟩, k3⟩, k4⟩, k5⟩, k6⟩, k7⟩ := hk
  rw [if_pos hkd] at k6
  have w5 := inALL_of k5
  have w6 := inALL_of k6
  have hts := hC.2.2.2.2.2.1
  have hstk : ((as.reverse ++ vR x :: st).map (cv g)) = (as.map (cv g)).reverse ++ .ref (gO g + x.toNat) :: st.map (cv g) := by
    rw [List.map_append, List.map_reverse, List.map_cons, show cv g (vR x) = rf g x from rfl, rf_ref hx]
  have hoa : okTs (vR x :: as) := okTs_cons trivial fun v hv => hos v (List.mem_append_left _ (List.mem_reverse.mpr hv))
  have hor : okTs st := fun v hv => hos v (List.mem_append_right _ (List.mem_cons_of_mem _ hv))
  have hpre : PreV s H (mN e').cls (gO g + x.toNat) (PcM g (vR x :: as) t σ) (as.map (cv g)) := by
    refine ⟨PcM_blind g _ t σ, ?_, fun U hU hW => ?_⟩
    · rw [← hqc]
      exact va_recv hC.2.2.2.2.2.2.2.2.1 hH.1 hq (world_atI (g := g) (s := σ) hx hs)
    · have := pc_in (U := U) hC hH hS hZ hsz hoa hU hW
      rw [List.map_cons, show cv g (vR x) = rf g x from rfl, rf_ref hx] at this
      exact this
  have hS0 : CallFix p m c (mC e) (mL e) s args ALL (mN e).cls := ⟨hC.1, hC.2.1, hC.2.2.2.1, hC.2.2.2.2.1, hts⟩
  have hsg : ∀ sig, parseMethodDescriptor (mN e').desc = some sig → n = sig.parameters.length := fun sig h => by
    rw [h] at k3
    exact (Option.some.inj k3).symm
  have hMt : Met l (mN e') (wsM e') (rmD d mc ms) (PcM g (vR x :: as) t σ) (QcM g mc (fun v t' σ' => Wp l g e (d + 1) (kc - mc) (ks - ms) (pc + 3) ls (v.toList ++ st) t' σ' Q)) mc ms (Ag g) := kk
  have hbk : (rmD d mc ms).cells = mc ∧ (rmD d mc ms).slots = ms ∧ (rmD d mc ms).frames + 1 ≤ R.frames ∧ 8 + (mL e' + 11) + (rmD d mc ms).locals ≤ R.locals := ⟨rfl, rfl, h1, by show 8 + (mL e' + 11) + 64 * d ≤ R.locals; omega⟩
  have hrun : va_Run p l en R s m args below meth c H locs cells slots mc ms (F0 m pc lsA ((as.reverse ++ vR x :: st).map (cv g))) (st.map (cv g)) (QcM g mc (fun v t' σ' => Wp l g e (d + 1) (kc - mc) (ks - ms) (pc + 3) ls (v.toList ++ st) t' σ' Q) ((((vR x :: as).map (cv g))).toArray)) (Ag g) := by
    rw [List.map_cons, show cv g (vR x) = rf g x from rfl, rf_ref hx]
    rcases hkd with rfl | rfl
    · rw [if_pos rfl] at k7
      exact va_runV hS0 hMt ⟨⟨hbk.1, hbk.2.1, hbk.2.2.1, hbk.2.2.2, pay_in hts (GoodAll (e := e) (w5 _ m1)), List.mem_cons_self, hts _ (w5 _ m1), hts _ (w5 _ m2), ⟨k1, k2⟩, hsg, hts _ (inALL_of k7 _ m1)⟩, hts _ (w6 _ m1), hts _ (w6 _ m2)⟩ hpre rfl (by rw [List.length_map]; exact hn) hls.1 hstk (lv_room (by rw [cat_map]; exact hst)) hd ⟨by omega, by omega⟩
    · rw [if_neg (by decide)] at k7
      have hw : va_Nw (Cond.methodLinkNest (mN e).cls idx (mN e') "StruckColours") s := hC.2.2.2.2.2.2.2.2.2.1 _ (List.mem_filter.mpr ⟨of_decide_eq_true k7, rfl⟩)
      exact va_runVN (host := "StruckColours") hS0 hMt ⟨⟨⟨hbk.1, hbk.2.1, hbk.2.2.1, hbk.2.2.2, pay_in hts (GoodAll (e := e) (w5 _ m1)), List.mem_cons_self⟩, hts _ (w5 _ m1), hts _ (w5 _ m2), ⟨k1, k2⟩, hsg, va_Nw.use rfl hw⟩, hts _ (w6 _ m1), hts _ (w6 _ m2)⟩ hpre rfl (by rw [List.length_map]; exact hn) hls.1 hstk (lv_room (by rw [cat_map]; exact hst)) hd ⟨by omega, by omega⟩
  exact r_call (as := vR x :: as) hmc hms (fun _ _ _ z => z) hC h1 h2 h3 h4 hH hS hZ hls hol hor hr hrun T hT X
theorem r_callS {kind idx e' n mc ms : Nat} {as : List TV} (hkd : kind = 2 ∨ kind = 3) (hk : callOk kind (mN e).cls idx e' n = true) (hn : as.length = n) (hst : (st.map catT).sum ≤ 8) (hmc : mc ≤ kc) (hms : ms ≤ ks) (hd : decode (mC e) pc = .ok (.invokestatic idx, 3))
    (kk : WPc l g e' d mc ms as t σ (fun v t' σ' => Wp l g e (d + 1) (kc - mc) (ks - ms) (pc + 3) ls (v.toList ++ st) t' σ' Q)) : Wp l g e (d + 1) kc ks pc ls (as.reverse ++ st) t σ Q := by
  intro p en R s m args below meth c H locs cells slots QM lsA hC h1 h2 h3 h4 hH hS hZ hls hol hos hr T hT X
  have hsz : H.size ≤ s.heap.size + cells := by rw [← hT]; exact X.same.2.2.1
  unfold callOk at hk
  simp only [Bool.and_eq_true, decide_eq_true_eq, ne_eq] at hk
  obtain ⟨⟨⟨⟨⟨⟨k1, k2⟩, k3⟩, k4⟩, k5⟩, k6⟩, k7⟩ := hk
  rw [if_neg (by omega), if_pos hkd] at k6
  have w5 := inALL_of k5
  have w6 := inALL_of k6
  have hts := hC.2.2.2.2.2.1
  have hstk : ((as.reverse ++ st).map (cv g)) = (as.map (cv g)).reverse ++ st.map (cv g) := by
    rw [List.map_append, List.map_reverse]
  have hoa : okTs as := fun v hv => hos v (List.mem_append_left _ (List.mem_reverse.mpr hv))
  have hor : okTs st := fun v hv => hos v (List.mem_append_right _ hv)
  have hpre : PreS s H (PcM g as t σ) (as.map (cv g)) := ⟨PcM_blind g _ t σ, fun U hU hW => pc_in (U := U) hC hH hS hZ hsz hoa hU hW⟩
  have hS0 : CallFix p m c (mC e) (mL e) s args ALL (mN e).cls := ⟨hC.1, hC.2.1, hC.2.2.2.1, hC.2.2.2.2.1, hts⟩
  have hsg : ∀ sig, parseMethodDescriptor (mN e').desc = some sig → n = sig.parameters.length := fun sig h => by
    rw [h] at k3
    exact (Option.some.inj k3).symm
  have hMt : Met l (mN e') (wsM e') (rmD d mc ms) (PcM g as t σ) (QcM g mc (fun v t' σ' => Wp l g e (d + 1) (kc - mc) (ks - ms) (pc + 3) ls (v.toList ++ st) t' σ' Q)) mc ms (Ag g) := kk
  have hbk : (rmD d mc ms).cells = mc ∧ (rmD d mc ms).slots = ms ∧ (rmD d mc ms).frames + 1 ≤ R.frames ∧ 8 + (mL e' + 11) + (rmD d mc ms).locals ≤ R.locals := ⟨rfl, rfl, h1, by show 8 + (mL e' + 11) + 64 * d ≤ R.locals; omega⟩
  have hrun : va_Run p l en R s m args below meth c H locs cells slots mc ms (F0 m pc lsA ((as.reverse ++ st).map (cv g))) (st.map (cv g)) (QcM g mc (fun v t' σ' => Wp l g e (d + 1) (kc - mc) (ks - ms) (pc + 3) ls (v.toList ++ st) t' σ' Q) ((as.map (cv g)).toArray)) (Ag g) := by
    rcases hkd with rfl | rfl
    · rw [if_pos rfl] at k7
      exact va_runS hS0 hMt ⟨⟨hbk.1, hbk.2.1, hbk.2.2.1, hbk.2.2.2, pay_in hts (GoodAll (e := e) (w5 _ m1)), List.mem_cons_self, hts _ (w5 _ m1), hts _ (w5 _ m2), ⟨k1, k2⟩, hsg, hts _ (inALL_of k7 _ m1)⟩, hts _ (w6 _ m1)⟩ hpre rfl (by rw [List.length_map]; exact hn) hls.1 hstk (lv_room (by rw [cat_map]; exact hst)) hd ⟨by omega, by omega⟩
    · rw [if_neg (by decide)] at k7
      have hw : va_Nw (Cond.methodLinkNest (mN e).cls idx (mN e') "StruckColours") s := hC.2.2.2.2.2.2.2.2.2.1 _ (List.mem_filter.mpr ⟨of_decide_eq_true k7, rfl⟩)
      exact va_runSN (host := "StruckColours") hS0 hMt ⟨⟨⟨hbk.1, hbk.2.1, hbk.2.2.1, hbk.2.2.2, pay_in hts (GoodAll (e := e) (w5 _ m1)), List.mem_cons_self⟩, hts _ (w5 _ m1), hts _ (w5 _ m2), ⟨k1, k2⟩, hsg, va_Nw.use rfl hw⟩, hts _ (w6 _ m1), trivial⟩ hpre rfl (by rw [List.length_map]; exact hn) hls.1 hstk (lv_room (by rw [cat_map]; exact hst)) hd ⟨by omega, by omega⟩
  exact r_call (as := as) hmc hms (fun _ _ _ z => z) hC h1 h2 h3 h4 hH hS hZ hls hol hor hr hrun T hT X
theorem r_callI {kind idx e' n mc ms : Nat} {as : List TV} {x : Int} (hx : 0 ≤ x) (hkd : kind = 4 ∨ kind = 5) (hk : callOk kind (mN e).cls idx e' n = true) (hn : as.length = n) (hst : (st.map catT).sum ≤ 8) (hmc : mc ≤ kc) (hms : ms ≤ ks) (hd : decode (mC e) pc = .ok (.invokespecial idx, 3))
    (kk : WPc l g e' d mc ms (vR x :: as) t σ (fun v t' σ' => Wp l g e (d + 1) (kc - mc) (ks - ms) (pc + 3) ls (v.toList ++ st) t' σ' Q)) : Wp l g e (d + 1) kc ks pc ls (as.reverse ++ vR x :: st) t σ Q := by
  intro p en R s m args below meth c H locs cells slots QM lsA hC h1 h2 h3 h4 hH hS hZ hls hol hos hr T hT X
  have hsz : H.size ≤ s.heap.size + cells := by rw [← hT]; exact X.same.2.2.1
  unfold callOk at hk
  simp only [Bool.and_eq_true, decide_eq_true_eq, ne_eq] at hk
  obtain ⟨⟨⟨⟨⟨⟨k1, k2⟩, k3⟩, k4⟩, k5⟩, k6⟩, k7⟩ := hk
  rw [if_neg (by omega), if_neg (by omega)] at k6
  simp only [Bool.and_eq_true, decide_eq_true_eq] at k6
  obtain ⟨⟨k6, k8⟩, k9⟩ := k6
  have w5 := inALL_of k5
  have w6 := inALL_of k6
  have hts := hC.2.2.2.2.2.1
  have hstk : ((as.reverse ++ vR x :: st).map (cv g)) = (as.map (cv g)).reverse ++ .ref (gO g + x.toNat) :: st.map (cv g) := by
    rw [List.map_append, List.map_reverse, List.map_cons, show cv g (vR x) = rf g x from rfl, rf_ref hx]
  have hoa : okTs (vR x :: as) := okTs_cons trivial fun v hv => hos v (List.mem_append_left _ (List.mem_reverse.mpr hv))
  have hor : okTs st := fun v hv => hos v (List.mem_append_right _ (List.mem_cons_of_mem _ hv))
  have hpre : PreS s H (PcM g (vR x :: as) t σ) (.ref (gO g + x.toNat) :: as.map (cv g)) := by
    refine ⟨PcM_blind g _ t σ, fun U hU hW => ?_⟩
    have := pc_in (U := U) hC hH hS hZ hsz hoa hU hW
    rw [List.map_cons, show cv g (vR x) = rf g x from rfl, rf_ref hx] at this
    exact this
  have hS0 : CallFix p m c (mC e) (mL e) s args ALL (mN e).cls := ⟨hC.1, hC.2.1, hC.2.2.2.1, hC.2.2.2.2.1, hts⟩
  have hsg : ∀ sig, parseMethodDescriptor (mN e').desc = some sig → n = sig.parameters.length := fun sig h => by
    rw [h] at k3
    exact (Option.some.inj k3).symm
  have hMt : Met l (mN e') (wsM e') (rmD d mc ms) (PcM g (vR x :: as) t σ) (QcM g mc (fun v t' σ' => Wp l g e (d + 1) (kc - mc) (ks - ms) (pc + 3) ls (v.toList ++ st) t' σ' Q)) mc ms (Ag g) := kk
  have hbk : (rmD d mc ms).cells = mc ∧ (rmD d mc ms).slots = ms ∧ (rmD d mc ms).frames + 1 ≤ R.frames ∧ 8 + (mL e' + 11) + (rmD d mc ms).locals ≤ R.locals := ⟨rfl, rfl, h1, by show 8 + (mL e' + 11) + 64 * d ≤ R.locals; omega⟩
  have hrun : va_Run p l en R s m args below meth c H locs cells slots mc ms (F0 m pc lsA ((as.reverse ++ vR x :: st).map (cv g))) (st.map (cv g)) (QcM g mc (fun v t' σ' => Wp l g e (d + 1) (kc - mc) (ks - ms) (pc + 3) ls (v.toList ++ st) t' σ' Q) ((((vR x :: as).map (cv g))).toArray)) (Ag g) := by
    rw [List.map_cons, show cv g (vR x) = rf g x from rfl, rf_ref hx]
    have w1 := hts _ (w5 _ m1)
    rw [k9] at w1
    have w0 : Cond.code (mN e') (mC e') (mL e') none ∈ wsM e' := by rw [← k9]; exact List.mem_cons_self
    rcases hkd with rfl | rfl
    · rw [if_pos rfl] at k7
      exact va_runI hS0 hMt ⟨⟨hbk.1, hbk.2.1, hbk.2.2.1, hbk.2.2.2, pay_in hts (GoodAll (e := e) (w5 _ m1)), w0, w1, hts _ (w5 _ m2), ⟨k1, k2⟩, hsg, hts _ (inALL_of k7 _ m1)⟩, k8, hts _ (w6 _ m1)⟩ hpre rfl (by rw [List.length_map]; exact hn) hls.1 hstk (lv_room (by rw [cat_map]; exact hst)) hd ⟨by omega, by omega⟩
    · rw [if_neg (by decide)] at k7
      have hw : va_Nw (Cond.methodLinkNest (mN e).cls idx (mN e') "StruckColours") s := hC.2.2.2.2.2.2.2.2.2.1 _ (List.mem_filter.mpr ⟨of_decide_eq_true k7, rfl⟩)
      exact va_runIN (host := "StruckColours") hS0 hMt ⟨⟨⟨hbk.1, hbk.2.1, hbk.2.2.1, hbk.2.2.2, pay_in hts (GoodAll (e := e) (w5 _ m1)), w0⟩, w1, hts _ (w5 _ m2), ⟨k1, k2⟩, hsg, va_Nw.use rfl hw⟩, k8, hts _ (w6 _ m1)⟩ hpre rfl (by rw [List.length_map]; exact hn) hls.1 hstk (lv_room (by rw [cat_map]; exact hst)) hd ⟨by omega, by omega⟩
  exact r_call (as := vR x :: as) hmc hms (fun _ _ _ z => z) hC h1 h2 h3 h4 hH hS hZ hls hol hor hr hrun T hT X
end CAL
