/-! what is thrown, caught by the one row of a method's table (after the library's Steps.caught, with the tables that the search leaves) -/
theorem ct_find {e : Env} {s : State} {f : JFrame} {a : Addr} {meth : Method} {cd : Code} {x : ExceptionTableEntry} {c : ClassId} {cell : Cell} (hm : s.vm.method? f.method = some meth) (hcd : meth.code = some cd) (ht : cd.exceptionTable.toList = [x]) (hx : covers x f.pc = true) (h0 : x.catchType ≠ 0)
    (hl : s.vm.ClassLinks e.platform f.method.cls x.catchType c) (hcell : s.heap[a]? = some cell) (hobj : ∀ k, cell.vm ≠ .statics k) (hk : ∃ k, s.vm.classes[cell.cls]? = some k) (hc : ∃ k, s.vm.classes[c]? = some k) (hfit : s.vm.assignable cell.cls c = true) :
    ∀ (Q : Handler → Pre) (E : CtlPost) (d : Bool) (acts : List Action), wp (findHandler f a) Q E e d acts s ↔ Q (.found x.handlerPc) d acts (s.setVm (s.vm.noted f.method.cls x.catchType (.cls c))) := by
  intro Q E d acts
  rw [W.findHandler_eq hm hcd, ht]
  simp only [covers] at hx
  obtain ⟨ha, hb⟩ := (resolveClass_links e.toSetting hl).op (op := VmOp.resolveClass f.method.cls x.catchType) rfl
  have hal : s.vm.Alike (s.vm.noted f.method.cls x.catchType (.cls c)) := (Vm.Alike.refl s.vm).noted _ _ _
  obtain ⟨k1, hk1⟩ := hk
  obtain ⟨k2, hk2⟩ := hc
  obtain ⟨k3, hk3, -⟩ := hal.2.2 _ _ hk1
  obtain ⟨k4, hk4, -⟩ := hal.2.2 _ _ hk2
  have hf : (s.vm.noted f.method.cls x.catchType (.cls c)).assignable cell.cls c = true := by rw [hal.assignable]; exact hfit
  simp [findHandler.go, hx, h0, ha, hb, hcell, hobj, hk3, hk4, hf, VmOp.dirties, VmOp.acts]
theorem ct_steps {tb : Tables} {e : Env} {s target : State} {g : JFrame} {c : Code} {below : List Frame} {a : Addr} (h : At s g.method c below) {pc : Nat} {vm' : Vm}
    (hfind : ∀ (Q : Handler → Pre) (E : CtlPost) (d : Bool) (acts : List Action), wp (findHandler g a) Q E e d acts ((s.setTop g).pushFrame (.throwing a)) ↔ Q (.found pc) d acts (((s.setTop g).pushFrame (.throwing a)).setVm vm'))
    (hrest : Steps tb e below ((s.setVm vm').setTop { g with pc := pc, stack := [.ref a] }) target) : Steps tb e below ((s.setTop g).pushFrame (.throwing a)) target := by
  have hst : ∀ r, (stepThrowing e ((s.setTop g).pushFrame (.throwing a)) a (.java g :: r)).Is ((((s.setTop g).pushFrame (.throwing a)).setVm vm').setFrames (.java { g with pc := pc, stack := [.ref a] } :: r)) [] := by
    intro r
    simp only [stepThrowing, searchFrame, vmDo]
    generalize hr : Sem.go _ e false [] ((s.setTop g).pushFrame (.throwing a)) = res
    obtain ⟨as, rfl, ha⟩ := Sem.eq_ok_of hr (a := Handler.found pc) (s' := ((s.setTop g).pushFrame (.throwing a)).setVm vm') (acts' := []) (by simp [hfind _ _ _ _])
    exact ⟨rfl, ha⟩
  have hfr : ∀ (u : State) (F G : List Frame), ((u.setFrames F).setVm vm').setFrames G = (u.setVm vm').setFrames G := by
    intro u F G
    have h1 : (u.setFrames F).setVm vm' = (u.setVm vm').setFrames F := rfl
    rw [h1, State.setFrames_setFrames]
  obtain ⟨hgo, hw⟩ := h.throwing a
  refine Steps.head hgo hw ?_
  rw [stepThread_throwing (frames_entered h.top _), (hst _).1]
  obtain ⟨g₀, hg⟩ := Option.isSome_iff_exists.mp h.top
  obtain ⟨r, hr⟩ := State.topJava?_eq_some.mp hg
  have hr' : (s.setVm vm').frames = .java g₀ :: r := hr
  rw [State.setTop_of_frames _ hr'] at hrest
  rw [hr, List.tail_cons, State.pushFrame, hfr, State.setTop_of_frames _ hr, hfr]
  exact hrest
theorem ct_catch {p : Program} {l : Launch} {e : Env} {R : Room} {s : State} {m : MethodId} {args : Array Value} {below : List Frame} {meth : Method} {c : Code} {H : Heap} {locs : List Loc} {cells slots pc : Nat} {Q : State → Prop} {ls : Array Slot} {rest : List Value} {own name E : String} {ce : Cell} {q : Addr} (hown : s.vm.findClass own = some m.cls) (x : ExceptionTableEntry) (htab : c.exceptionTable.toList = [x]) (hx : covers x pc = true) (h0 : x.catchType ≠ 0)
    (hlink : (Cond.classLink own x.catchType name).before args s = true) (hcast : (Cond.castable E name).before args s = true) (hcell : H[q]? = some ce) (hv : ce.vm = .none) (hcl : s.vm.findClass E = some ce.cls)
    (kk : W p l e R s m args below meth c H locs cells slots Q (F0 m x.handlerPc ls [.ref q])) : vx_W p l e R s m args below meth c H locs cells slots Q (F0 m pc ls rest) q := by
  intro T hT X
  have hpl : e.platform.magicAccessors = ({} : Platform).magicAccessors := by rw [X.admits.platform]
  obtain ⟨c3, c4, hc3, hc4, hasg⟩ := Cond.castable_spec hcast
  cases Option.some.inj (hc3.symm.trans hcl)
  obtain ⟨c5, hc5, hcl5⟩ := Cond.classLink_spec hown hlink e.platform hpl
  cases Option.some.inj (hc4.symm.trans hc5)
  have hW := X.warmed
  obtain ⟨k0, hk0, -⟩ := Vm.findClass_spec hcl
  obtain ⟨k1, hk1, -⟩ := hW.alike.2.2 _ _ hk0
  obtain ⟨dk, _, _, kt, hd, _, _, _, _, hkt, _, hopen⟩ := hcl5.here
  obtain ⟨k2, hk2, -⟩ := hW.alike.2.2 _ _ hkt
  have hf := ct_find (e := e) (s := (T.setTop (F0 m pc ls rest)).pushFrame (.throwing q)) (f := F0 m pc ls rest) (a := q) (meth := meth) (cd := c) (x := x) (c := c4) (cell := ce) X.method' X.code htab hx h0 (hW.classLinks hcl5) (by show T.heap[q]? = some ce; rw [hT]; exact hcell) (fun k => by rw [hv]; intro z; cases z) ⟨k1, hk1⟩ ⟨k2, hk2⟩ (by show T.vm.assignable _ _ = true; rw [hW.alike.assignable]; exact hasg)
  obtain ⟨t, a1, b1⟩ := kk (T.setVm (T.vm.noted m.cls x.catchType (.cls c4))) hT (X.noted (hW.noted hd hopen (State.rightAt_cls hcl5)))
  exact ⟨t, ct_steps (g := F0 m pc ls rest) X.here hf a1, b1⟩
/-! ship and row: they return or throw -/
def XCs (g : GE) (t : Tau) (σ : Mem) (P : Prop) : String → State → State → Prop := fun E st u => (E = NSE ∧ P) ∧ Hld g t σ u.heap ∧ va_F (Ag g) st u
/-- what a body that may throw is asked at its end -/
def KTh (g : GE) (e : Nat) (Q : Post) (t0 : Tau) (σ0 : Mem) (P : Prop) (mc ms : Nat) : KT := fun p _ _ s _ args below meth c QM tc ts =>
  (tc ≤ mc ∧ ts ≤ ms) ∧ (∀ x ∈ c.exceptionTable.toList, False) ∧ (p.tables.exec = Jvm.exec ∧ c.code = mC e ∧ meth.sig.returnType = mR e ∧ meth.locks = false) ∧ QM = vx_MQ below (QcM g mc Q) (XCs g t0 σ0 P) args s mc ms (Ag g)
theorem KTh_ret {l : Launch} {g : GE} {e : Nat} {Q : Post} {t0 : Tau} {σ0 : Mem} {P : Prop} {mc ms : Nat} (hB : gB g = false) : ∀ p en R s m args below meth c QM tc ts, KTh g e Q t0 σ0 P mc ms p en R s m args below meth c QM tc ts → RetK l g e Q tc ts p en R s m args below meth c QM := by
  intro p en R s m args below meth c QM tc ts h
  obtain ⟨⟨h1, h2⟩, h3, ⟨hx, hb, hrt, hlocks⟩, rfl⟩ := h
  intro v t' σ' H locs cells slots lsA' pc' i hQ hok' hH' hS' hc hs hT' hd hro
  refine vx_ret (W.widen (k := mc) (n := ms) (by omega) (by omega) ?_)
  have hq : ∀ (ov : Option Value), ov = v.map (cv g) → ∀ u : State, u.heap = H → s.WarmedH u.vm → QcM g mc Q args s (.returned ov) u := fun ov ho u hu _ => ⟨v, t', σ', by rw [ho], hQ, hok', by rw [hu]; exact hH', hS'.F hu, fun z => by rw [hB] at z; cases z⟩
  unfold rOK at hro
  split at hro
  · rename_i h
    subst hro
    exact W.vret hx hb (hrt.trans h) (hq none rfl) hS'.2.2 hd
  · rename_i y h
    subst hro
    exact W.iret hx hb (hrt.trans h) (hq _ rfl) hS'.2.2 hd
  · rename_i y h
    obtain ⟨rfl, hy⟩ := hro
    exact W.zret hx hb (hrt.trans h) (narrow_z hy) (hq _ rfl) hS'.2.2 hd
  · rename_i y h
    obtain ⟨rfl, hy0, hy1⟩ := hro
    exact W.zret hx hb (hrt.trans h) (narrow_c hy0 hy1) (hq _ rfl) hS'.2.2 hd
  · rename_i y h
    subst hro
    exact W.lret hx hb (hrt.trans h) (hq _ rfl) hS'.2.2 hd
  · rename_i n y h
    subst hro
    refine W.aret hx hb (hrt.trans h) (Or.inl ⟨_, rfl⟩) ?_ (hq _ rfl) hS'.2.2 hd
    rcases rf_cases g y with ⟨-, h⟩ | ⟨-, a, h⟩
    · exact Or.inl h
    · exact Or.inr ⟨a, h⟩
  · cases hro
theorem vx_in {l : Launch} {g : GE} {e d kc ks : Nat} {t : Tau} {σ : Mem} {Q : Post} {P : Prop} {as : List TV} (hy : plainName (mN e).cls = true) (hl : (as.map catT).sum ≤ mL e) (k : Wx l g e d kc ks 0 (largs 0 as) [] t σ (KTh g e Q t σ P kc ks)) : vx_Met l (mN e) (wsM e) (rmD d kc ks) (PcM g as t σ) (QcM g kc Q) (XCs g t σ P) kc ks (Ag g) := by
  refine vx_ofW (cc := mC e) (maxL := mL e) (ret := mR e) hy rfl ?_
  intro p en s m args below meth c s₁ B hml hxt hv
  obtain ⟨rfl, hok, hKF, hH, hO, hT⟩ := hv
  have hle := lv_entry (as.map (cv g)) (n := mL e) (by rw [lg_len]; exact hl)
  rw [lg_entry_eq]
  generalize (lg_sl (as.map (cv g)) ++ List.replicate (mL e - (lg_sl (as.map (cv g))).length) Slot.unset).toArray = lsA at hle ⊢
  rw [largs_cv] at hle
  have hrt : meth.sig.returnType = mR e := B.returns
  have hlocks := B.notSynchronized
  have hx := B.exec
  have hb : c.code = mC e := B.bytes
  exact k p en (rmD d kc ks) s m _ below meth c s.heap [] 0 0 _ lsA ⟨hx, hb, hrt, hml, findClass_of_methodNamed B.named, fun w hw => atoms_spec (ws := wsM e) B.pre w (List.mem_cons_of_mem _ hw), hlocks, (name_of_methodNamed B.named B.method).1, hKF⟩ (Nat.le_refl _) (Nat.le_refl _) (by show 0 + kc ≤ kc; omega) (by show 0 + ks ≤ ks; omega) hH va_S.rf ⟨hO, fun z => by have := hT z; omega⟩ hle (largs_ok as 0 hok) (fun q hq => by cases hq) ⟨⟨by omega, by omega⟩, hxt, ⟨hx, hb, hrt, hlocks⟩, rfl⟩
theorem ns_good : ∀ w ∈ ((ntA "StruckColours" 135).filter vx_no).filter goodWord, w ∈ lw_tbl := by decide +kernel
theorem ns_bad : ∀ w ∈ ((ntA "StruckColours" 135).filter vx_no).filter (fun w => !goodWord w), isDC w = true ∧ w ∈ tables_1 := by decide +kernel
theorem ns_ot : ∀ w ∈ Cond.classLink "StruckColours" 131 NSE :: Cond.initialized NSE :: (ntA "StruckColours" 135).filter vx_no, vx_ot w = true := by decide +kernel
theorem ns_cl : Cond.classLink "StruckColours" 131 NSE ∈ ALL := inA (by decide +kernel)
theorem ns_in : Cond.initialized NSE ∈ ALL := inA (by decide +kernel)
theorem ns_at {g : GE} {e : Nat} {p : Program} {s : State} {m : MethodId} {args : Array Value} {meth : Method} {c : Code} (hC : CxF g e p s m args meth c) : ∀ w ∈ (ntA "StruckColours" 135).filter vx_no, w.before args s = true := by
  intro w hw
  have hts := hC.2.2.2.2.2.1
  have hX := hC.2.2.2.2.2.2.2.2.2.2.1.2
  cases hg : goodWord w with
  | true => exact hts w (List.mem_filter.mpr ⟨ns_good w (List.mem_filter.mpr ⟨hw, hg⟩), hg⟩)
  | false =>
    have hb := ns_bad w (List.mem_filter.mpr ⟨hw, by rw [hg]; rfl⟩)
    exact va_Nw.use (dc_tab hb.1) (hX.2.2.2.2 w (List.mem_filter.mpr ⟨hb.2, hb.1⟩))
theorem Hld_new {g : GE} {t : Tau} {σ : Mem} {H H1 : Heap} (hH : Hld g t σ H) (hz : H.size ≤ H1.size) (o1 : ∀ q : Nat, q < H.size → H1[q]? = H[q]?) : Hld g t σ H1 :=
  ⟨hH.1.kept (fun k x hx => o1 x.1 ((hH.1 k x hx).lt)), hH.2.1, Nat.le_trans hH.2.2 hz⟩
theorem F_new {g : GE} {s u : State} {H : Heap} {locs : List Loc} (hS : va_S (Ag g) s.heap H locs) (hz : H.size ≤ u.heap.size) (o1 : ∀ q : Nat, q < H.size → u.heap[q]? = H[q]?) : va_F (Ag g) s u :=
  ⟨Nat.le_trans hS.1 hz, fun q h1 h2 => by rw [o1 q (Nat.lt_of_lt_of_le h1 hS.1)]; exact hS.2.1 q h1 h2⟩
theorem x_throw1 {l : Launch} {g : GE} {d kc ks : Nat} {ls : List (Nat × TV)} {t : Tau} {σ : Mem} {Q : Post} {P : Prop} {mc ms : Nat} (hl : l.stackTraces = false) (hP : P) (hkc : 1 ≤ kc) (hks : 6 ≤ ks) : Wx l g 89 (d + 6) kc ks 21 ls [] t σ (KTh g 89 Q t σ P mc ms) := by
  intro p en R s m args below meth c H locs cells slots QM lsA hC h1 h2 h3 h4 hH hS hO hls hol hos hr
  obtain ⟨⟨r1, r2⟩, r3, -, rfl⟩ := hr
  have hts := hC.2.2.2.2.2.1
  have hX := hC.2.2.2.2.2.2.2.2.2.2.1.2
  obtain ⟨a, ha⟩ := hX.2.2.1
  have hlocks : meth.locks = false := hC.2.2.2.2.2.2.1
  exact nt_throwS (cc := mC 89) (own := "StruckColours") (text := "no such ship, or nothing such of her") (ik := 131) (is := 133) (ic := 135) (sa := a) (A := Ag g) hC.1 hC.2.1 hl hC.2.2.2.2.1 (hts _ ns_cl) (hts _ ns_in) ha (ns_at hC) ns_ot hX.1 hX.2.1 hS (by rw [hC.2.2.2.1]; exact hls.1) (by decide +kernel) (by decide +kernel) (by decide +kernel) (by decide +kernel) (by decide +kernel) (fun x hx => (r3 x hx).elim) (by show 2 + 3 < R.frames; omega) (by show 0 + (13 * (2 + 1) + 43) ≤ R.locals; omega) (by omega) (by omega) hlocks (fun u _ hz o1 => ⟨⟨rfl, hP⟩, Hld_new hH hz o1, F_new hS hz o1⟩) hS.2.2 (by omega) (by omega)
theorem x_throw2 {l : Launch} {g : GE} {d kc ks : Nat} {ls : List (Nat × TV)} {t : Tau} {σ : Mem} {Q : Post} {P : Prop} {mc ms : Nat} (hl : l.stackTraces = false) (hP : P) (hkc : 1 ≤ kc) (hks : 6 ≤ ks) : Wx l g 134 (d + 6) kc ks 11 ls [] t σ (KTh g 134 Q t σ P mc ms) := by
  intro p en R s m args below meth c H locs cells slots QM lsA hC h1 h2 h3 h4 hH hS hO hls hol hos hr
  obtain ⟨⟨r1, r2⟩, r3, -, rfl⟩ := hr
  have hts := hC.2.2.2.2.2.1
  have hX := hC.2.2.2.2.2.2.2.2.2.2.1.2
  obtain ⟨a, ha⟩ := hX.2.2.2.1
  have hlocks : meth.locks = false := hC.2.2.2.2.2.2.1
  exact nt_throwSW (cc := mC 134) (own := "StruckColours") (text := "no such number of the row") (ik := 131) (is := 348) (ic := 135) (sa := a) (A := Ag g) hC.1 hC.2.1 hl hC.2.2.2.2.1 (hts _ ns_cl) (hts _ ns_in) ha (ns_at hC) ns_ot hX.1 hX.2.1 hS (by rw [hC.2.2.2.1]; exact hls.1) (by decide +kernel) (by decide +kernel) (by decide +kernel) (by decide +kernel) (by decide +kernel) (fun x hx => (r3 x hx).elim) (by show 2 + 3 < R.frames; omega) (by show 0 + (13 * (2 + 1) + 43) ≤ R.locals; omega) (by omega) (by omega) hlocks (fun u _ hz o1 => ⟨⟨rfl, hP⟩, Hld_new hH hz o1, F_new hS hz o1⟩) hS.2.2 (by omega) (by omega)
